set_option maxHeartbeats 4000000 in
set_option maxRecDepth 100000 in
theorem a_unite (l : Launch) (D : va_G) (h th : Nat) (cI cL cF : ClassId) (I : Nat → Nat → Int32) (J : Nat → Nat → Int64) (sh : Nat → Nat) (fr : Nat) (en : Int32) (o : Nat) (ho : fo_ o = true) (a : Nat) (ha : fo_ a = true) (hao : a ≠ o) (b : Nat) (hb : fo_ b = true) (hbo : b ≠ o) : kv_ l my_A_unite (Cond.code my_A_unite bc_A_unite 4 none :: tw_) rm0 D (ty_s cI cL cF) (xw_ h th) (ca_ h) [.ref (h + o), .ref (h + a), .ref (h + b)] (kp_ D h cI cL cF I J sh fr en) (kp_ D h cI cL cF I (va_up J (o + 1) (wl_ (J (o + 1)) (fun w => J (a + 1) w ||| J (b + 1) w) 64)) sh fr en) := by
  refine aw_met (A := ca_ h) (own := "FamilyShelf$Algebra") (by decide) rfl rfl (Nat.le_of_ble_eq_true rfl) ?_
  intro p9 e s m args below meth c C hr hX hP0
  refine aw_lw (lw' := [some (.ref (h + o)), some (.ref (h + a)), some (.ref (h + b)), none]) rfl ?_
  refine aw_iconst C dc_A_unite_0 (v := nI 0) rfl ?_
  refine aw_istore_n C dc_A_unite_1 (by decide) rfl ?_
  refine aw_P (P' := kp_ D h cI cL cF I (va_up J (o + 1) (wl_ (J (o + 1)) (fun w => J (a + 1) w ||| J (b + 1) w) 0)) sh fr en) (fun H h => by rw [wl_0, va_upid]; exact h) ?_
  refine aw_loop (fun n => kp_ D h cI cL cF I (va_up J (o + 1) (wl_ (J (o + 1)) (fun w => J (a + 1) w ||| J (b + 1) w) n)) sh fr en) (fun n => [some (.ref (h + o)), some (.ref (h + a)), some (.ref (h + b)), some (.int (nI n))]) 64 ?_ (fun n hn ih => ?_)
  · refine aw_iload_n C dc_A_unite_2 rfl ?_
    refine aw_bipush C dc_A_unite_3 (v := nI 64) rfl ?_
    refine aw_icmp_ge C dc_A_unite_5 (tgt := 33) (by decide) (fun _ => ?_) (fun h9 => absurd (nI_le (Nat.le_refl _) (by decide)) h9)
    exact kc_vret C hr (fun _ h => h) dc_A_unite_33
  · refine aw_iload_n C dc_A_unite_2 rfl ?_
    refine aw_bipush C dc_A_unite_3 (v := nI 64) rfl ?_
    refine aw_icmp_ge C dc_A_unite_5 (tgt := 33) (by decide) (fun h9 => absurd h9 (nI_ge hn (by decide))) (fun _ => ?_)
    refine aw_aload_n C dc_A_unite_8 rfl ?_
    refine aw_get C (fun w h => List.mem_cons_of_mem _ (ly_F w h)) o (sy_fam ho) rfl 0 (by decide) (C.1.2.2.2.2 _ (List.mem_cons_of_mem _ kw_42)) (fun _ h => h) rfl dc_A_unite_9 ?_
    refine aw_iload_n C dc_A_unite_12 rfl ?_
    refine aw_aload_n C dc_A_unite_13 rfl ?_
    refine aw_get C (fun w h => List.mem_cons_of_mem _ (ly_F w h)) a (sy_fam ha) rfl 0 (by decide) (C.1.2.2.2.2 _ (List.mem_cons_of_mem _ kw_42)) (fun _ h => h) rfl dc_A_unite_14 ?_
    refine aw_iload_n C dc_A_unite_17 rfl ?_
    refine aw_lald C (a + 1) 1 (sy_words ha) rfl n rfl hn (by decide) dc_A_unite_18 ?_
    refine aw_eql (show _ = J (a + 1) n from congrFun (va_up_ne _ _ (by omega)) _) ?_
    refine aw_aload_n C dc_A_unite_19 rfl ?_
    refine aw_get C (fun w h => List.mem_cons_of_mem _ (ly_F w h)) b (sy_fam hb) rfl 0 (by decide) (C.1.2.2.2.2 _ (List.mem_cons_of_mem _ kw_42)) (fun _ h => h) rfl dc_A_unite_20 ?_
    refine aw_iload_n C dc_A_unite_23 rfl ?_
    refine aw_lald C (b + 1) 1 (sy_words hb) rfl n rfl hn (by decide) dc_A_unite_24 ?_
    refine aw_eql (show _ = J (b + 1) n from congrFun (va_up_ne _ _ (by omega)) _) ?_
    refine aw_lor C dc_A_unite_25 ?_
    refine aw_last C sy_D (o + 1) 1 (sy_words ho) rfl n rfl hn (by decide) (ws' := sy_ h cI cL cF I (va_up J (o + 1) (wl_ (J (o + 1)) (fun w => J (a + 1) w ||| J (b + 1) w) (n + 1))) sh fr en) (by rw [sy_setW ho, bx_uu, va_up_self]; exact congrArg (fun z => sy_ h cI cL cF I (va_up J (o + 1) z) sh fr en) (wl_s _ (fun w => J (a + 1) w ||| J (b + 1) w) n)) dc_A_unite_26 ?_
    refine aw_iinc C dc_A_unite_27 rfl (ni_inc _) (by decide) rfl ?_
    refine aw_goto C dc_A_unite_30 (tgt := 2) (by decide) ?_
    exact ih
set_option maxHeartbeats 4000000 in
set_option maxRecDepth 100000 in
theorem a_intersect (l : Launch) (D : va_G) (h th : Nat) (cI cL cF : ClassId) (I : Nat → Nat → Int32) (J : Nat → Nat → Int64) (sh : Nat → Nat) (fr : Nat) (en : Int32) (o : Nat) (ho : fo_ o = true) (a : Nat) (ha : fo_ a = true) (hao : a ≠ o) (b : Nat) (hb : fo_ b = true) (hbo : b ≠ o) : kv_ l my_A_intersect (Cond.code my_A_intersect bc_A_intersect 4 none :: tw_) rm0 D (ty_s cI cL cF) (xw_ h th) (ca_ h) [.ref (h + o), .ref (h + a), .ref (h + b)] (kp_ D h cI cL cF I J sh fr en) (kp_ D h cI cL cF I (va_up J (o + 1) (wl_ (J (o + 1)) (fun w => J (a + 1) w &&& J (b + 1) w) 64)) sh fr en) := by
  refine aw_met (A := ca_ h) (own := "FamilyShelf$Algebra") (by decide) rfl rfl (Nat.le_of_ble_eq_true rfl) ?_
  intro p9 e s m args below meth c C hr hX hP0
  refine aw_lw (lw' := [some (.ref (h + o)), some (.ref (h + a)), some (.ref (h + b)), none]) rfl ?_
  refine aw_iconst C dc_A_intersect_0 (v := nI 0) rfl ?_
  refine aw_istore_n C dc_A_intersect_1 (by decide) rfl ?_
  refine aw_P (P' := kp_ D h cI cL cF I (va_up J (o + 1) (wl_ (J (o + 1)) (fun w => J (a + 1) w &&& J (b + 1) w) 0)) sh fr en) (fun H h => by rw [wl_0, va_upid]; exact h) ?_
  refine aw_loop (fun n => kp_ D h cI cL cF I (va_up J (o + 1) (wl_ (J (o + 1)) (fun w => J (a + 1) w &&& J (b + 1) w) n)) sh fr en) (fun n => [some (.ref (h + o)), some (.ref (h + a)), some (.ref (h + b)), some (.int (nI n))]) 64 ?_ (fun n hn ih => ?_)
  · refine aw_iload_n C dc_A_intersect_2 rfl ?_
    refine aw_bipush C dc_A_intersect_3 (v := nI 64) rfl ?_
    refine aw_icmp_ge C dc_A_intersect_5 (tgt := 33) (by decide) (fun _ => ?_) (fun h9 => absurd (nI_le (Nat.le_refl _) (by decide)) h9)
    exact kc_vret C hr (fun _ h => h) dc_A_intersect_33
  · refine aw_iload_n C dc_A_intersect_2 rfl ?_
    refine aw_bipush C dc_A_intersect_3 (v := nI 64) rfl ?_
    refine aw_icmp_ge C dc_A_intersect_5 (tgt := 33) (by decide) (fun h9 => absurd h9 (nI_ge hn (by decide))) (fun _ => ?_)
    refine aw_aload_n C dc_A_intersect_8 rfl ?_
    refine aw_get C (fun w h => List.mem_cons_of_mem _ (ly_F w h)) o (sy_fam ho) rfl 0 (by decide) (C.1.2.2.2.2 _ (List.mem_cons_of_mem _ kw_42)) (fun _ h => h) rfl dc_A_intersect_9 ?_
    refine aw_iload_n C dc_A_intersect_12 rfl ?_
    refine aw_aload_n C dc_A_intersect_13 rfl ?_
    refine aw_get C (fun w h => List.mem_cons_of_mem _ (ly_F w h)) a (sy_fam ha) rfl 0 (by decide) (C.1.2.2.2.2 _ (List.mem_cons_of_mem _ kw_42)) (fun _ h => h) rfl dc_A_intersect_14 ?_
    refine aw_iload_n C dc_A_intersect_17 rfl ?_
    refine aw_lald C (a + 1) 1 (sy_words ha) rfl n rfl hn (by decide) dc_A_intersect_18 ?_
    refine aw_eql (show _ = J (a + 1) n from congrFun (va_up_ne _ _ (by omega)) _) ?_
    refine aw_aload_n C dc_A_intersect_19 rfl ?_
    refine aw_get C (fun w h => List.mem_cons_of_mem _ (ly_F w h)) b (sy_fam hb) rfl 0 (by decide) (C.1.2.2.2.2 _ (List.mem_cons_of_mem _ kw_42)) (fun _ h => h) rfl dc_A_intersect_20 ?_
    refine aw_iload_n C dc_A_intersect_23 rfl ?_
    refine aw_lald C (b + 1) 1 (sy_words hb) rfl n rfl hn (by decide) dc_A_intersect_24 ?_
    refine aw_eql (show _ = J (b + 1) n from congrFun (va_up_ne _ _ (by omega)) _) ?_
    refine aw_land C dc_A_intersect_25 ?_
    refine aw_last C sy_D (o + 1) 1 (sy_words ho) rfl n rfl hn (by decide) (ws' := sy_ h cI cL cF I (va_up J (o + 1) (wl_ (J (o + 1)) (fun w => J (a + 1) w &&& J (b + 1) w) (n + 1))) sh fr en) (by rw [sy_setW ho, bx_uu, va_up_self]; exact congrArg (fun z => sy_ h cI cL cF I (va_up J (o + 1) z) sh fr en) (wl_s _ (fun w => J (a + 1) w &&& J (b + 1) w) n)) dc_A_intersect_26 ?_
    refine aw_iinc C dc_A_intersect_27 rfl (ni_inc _) (by decide) rfl ?_
    refine aw_goto C dc_A_intersect_30 (tgt := 2) (by decide) ?_
    exact ih
set_option maxHeartbeats 4000000 in
set_option maxRecDepth 100000 in
theorem a_subtract (l : Launch) (D : va_G) (h th : Nat) (cI cL cF : ClassId) (I : Nat → Nat → Int32) (J : Nat → Nat → Int64) (sh : Nat → Nat) (fr : Nat) (en : Int32) (o : Nat) (ho : fo_ o = true) (a : Nat) (ha : fo_ a = true) (hao : a ≠ o) (b : Nat) (hb : fo_ b = true) (hbo : b ≠ o) : kv_ l my_A_subtract (Cond.code my_A_subtract bc_A_subtract 4 none :: tw_) rm0 D (ty_s cI cL cF) (xw_ h th) (ca_ h) [.ref (h + o), .ref (h + a), .ref (h + b)] (kp_ D h cI cL cF I J sh fr en) (kp_ D h cI cL cF I (va_up J (o + 1) (wl_ (J (o + 1)) (fun w => J (a + 1) w &&& (J (b + 1) w ^^^ (-1))) 64)) sh fr en) := by
  refine aw_met (A := ca_ h) (own := "FamilyShelf$Algebra") (by decide) rfl rfl (Nat.le_of_ble_eq_true rfl) ?_
  intro p9 e s m args below meth c C hr hX hP0
  refine aw_lw (lw' := [some (.ref (h + o)), some (.ref (h + a)), some (.ref (h + b)), none]) rfl ?_
  refine aw_iconst C dc_A_subtract_0 (v := nI 0) rfl ?_
  refine aw_istore_n C dc_A_subtract_1 (by decide) rfl ?_
  refine aw_P (P' := kp_ D h cI cL cF I (va_up J (o + 1) (wl_ (J (o + 1)) (fun w => J (a + 1) w &&& (J (b + 1) w ^^^ (-1))) 0)) sh fr en) (fun H h => by rw [wl_0, va_upid]; exact h) ?_
  refine aw_loop (fun n => kp_ D h cI cL cF I (va_up J (o + 1) (wl_ (J (o + 1)) (fun w => J (a + 1) w &&& (J (b + 1) w ^^^ (-1))) n)) sh fr en) (fun n => [some (.ref (h + o)), some (.ref (h + a)), some (.ref (h + b)), some (.int (nI n))]) 64 ?_ (fun n hn ih => ?_)
  · refine aw_iload_n C dc_A_subtract_2 rfl ?_
    refine aw_bipush C dc_A_subtract_3 (v := nI 64) rfl ?_
    refine aw_icmp_ge C dc_A_subtract_5 (tgt := 37) (by decide) (fun _ => ?_) (fun h9 => absurd (nI_le (Nat.le_refl _) (by decide)) h9)
    exact kc_vret C hr (fun _ h => h) dc_A_subtract_37
  · refine aw_iload_n C dc_A_subtract_2 rfl ?_
    refine aw_bipush C dc_A_subtract_3 (v := nI 64) rfl ?_
    refine aw_icmp_ge C dc_A_subtract_5 (tgt := 37) (by decide) (fun h9 => absurd h9 (nI_ge hn (by decide))) (fun _ => ?_)
    refine aw_aload_n C dc_A_subtract_8 rfl ?_
    refine aw_get C (fun w h => List.mem_cons_of_mem _ (ly_F w h)) o (sy_fam ho) rfl 0 (by decide) (C.1.2.2.2.2 _ (List.mem_cons_of_mem _ kw_42)) (fun _ h => h) rfl dc_A_subtract_9 ?_
    refine aw_iload_n C dc_A_subtract_12 rfl ?_
    refine aw_aload_n C dc_A_subtract_13 rfl ?_
    refine aw_get C (fun w h => List.mem_cons_of_mem _ (ly_F w h)) a (sy_fam ha) rfl 0 (by decide) (C.1.2.2.2.2 _ (List.mem_cons_of_mem _ kw_42)) (fun _ h => h) rfl dc_A_subtract_14 ?_
    refine aw_iload_n C dc_A_subtract_17 rfl ?_
    refine aw_lald C (a + 1) 1 (sy_words ha) rfl n rfl hn (by decide) dc_A_subtract_18 ?_
    refine aw_eql (show _ = J (a + 1) n from congrFun (va_up_ne _ _ (by omega)) _) ?_
    refine aw_aload_n C dc_A_subtract_19 rfl ?_
    refine aw_get C (fun w h => List.mem_cons_of_mem _ (ly_F w h)) b (sy_fam hb) rfl 0 (by decide) (C.1.2.2.2.2 _ (List.mem_cons_of_mem _ kw_42)) (fun _ h => h) rfl dc_A_subtract_20 ?_
    refine aw_iload_n C dc_A_subtract_23 rfl ?_
    refine aw_lald C (b + 1) 1 (sy_words hb) rfl n rfl hn (by decide) dc_A_subtract_24 ?_
    refine aw_eql (show _ = J (b + 1) n from congrFun (va_up_ne _ _ (by omega)) _) ?_
    refine aw_ldc2 C (C.1.2.2.2.2 _ (List.mem_cons_of_mem _ kw_332)) dc_A_subtract_25 ?_
    refine aw_lxor C dc_A_subtract_28 ?_
    refine aw_land C dc_A_subtract_29 ?_
    refine aw_last C sy_D (o + 1) 1 (sy_words ho) rfl n rfl hn (by decide) (ws' := sy_ h cI cL cF I (va_up J (o + 1) (wl_ (J (o + 1)) (fun w => J (a + 1) w &&& (J (b + 1) w ^^^ (-1))) (n + 1))) sh fr en) (by rw [sy_setW ho, bx_uu, va_up_self]; exact congrArg (fun z => sy_ h cI cL cF I (va_up J (o + 1) z) sh fr en) (wl_s _ (fun w => J (a + 1) w &&& (J (b + 1) w ^^^ (-1))) n)) dc_A_subtract_30 ?_
    refine aw_iinc C dc_A_subtract_31 rfl (ni_inc _) (by decide) rfl ?_
    refine aw_goto C dc_A_subtract_34 (tgt := 2) (by decide) ?_
    exact ih
set_option maxHeartbeats 4000000 in
set_option maxRecDepth 100000 in
theorem a_lowsOf (l : Launch) (D : va_G) (h th : Nat) (cI cL cF : ClassId) (I : Nat → Nat → Int32) (J : Nat → Nat → Int64) (sh : Nat → Nat) (fr : Nat) (en : Int32) (o : Nat) (ho : fo_ o = true) : kl_ l my_A_lowsOf (Cond.code my_A_lowsOf bc_A_lowsOf 4 (some .long) :: tw_) rm0 D (ty_s cI cL cF) (xw_ h th) (ca_ h) [.ref (h + o)] (kp_ D h cI cL cF I J sh fr en) (kp_ D h cI cL cF I J sh fr en) (orr_ (J (o + 1)) 64) := by
  refine aw_met (A := ca_ h) (own := "FamilyShelf$Algebra") (by decide) rfl rfl (Nat.le_of_ble_eq_true rfl) ?_
  intro p9 e s m args below meth c C hr hX hP0
  refine aw_lw (lw' := [some (.ref (h + o)), none, none, none]) rfl ?_
  refine aw_lconst C dc_A_lowsOf_0 (v := 0) rfl ?_
  refine aw_lstore_n C dc_A_lowsOf_1 (by decide) rfl ?_
  refine aw_iconst C dc_A_lowsOf_2 (v := nI 0) rfl ?_
  refine aw_istore_n C dc_A_lowsOf_3 (by decide) rfl ?_
  refine aw_loop (fun _ => kp_ D h cI cL cF I J sh fr en) (fun n => [some (.ref (h + o)), some (.long (orr_ (J (o + 1)) n)), none, some (.int (nI n))]) 64 ?_ (fun n hn ih => ?_)
  · refine aw_iload_n C dc_A_lowsOf_4 rfl ?_
    refine aw_bipush C dc_A_lowsOf_5 (v := nI 64) rfl ?_
    refine aw_icmp_ge C dc_A_lowsOf_7 (tgt := 25) (by decide) (fun _ => ?_) (fun h9 => absurd (nI_le (Nat.le_refl _) (by decide)) h9)
    refine aw_lload_n C dc_A_lowsOf_25 rfl ?_
    exact kc_lret C hr rfl (fun _ h => h) dc_A_lowsOf_26
  · refine aw_iload_n C dc_A_lowsOf_4 rfl ?_
    refine aw_bipush C dc_A_lowsOf_5 (v := nI 64) rfl ?_
    refine aw_icmp_ge C dc_A_lowsOf_7 (tgt := 25) (by decide) (fun h9 => absurd h9 (nI_ge hn (by decide))) (fun _ => ?_)
    refine aw_lload_n C dc_A_lowsOf_10 rfl ?_
    refine aw_aload_n C dc_A_lowsOf_11 rfl ?_
    refine aw_get C (fun w h => List.mem_cons_of_mem _ (ly_F w h)) o (sy_fam ho) rfl 0 (by decide) (C.1.2.2.2.2 _ (List.mem_cons_of_mem _ kw_42)) (fun _ h => h) rfl dc_A_lowsOf_12 ?_
    refine aw_iload_n C dc_A_lowsOf_15 rfl ?_
    refine aw_lald C (o + 1) 1 (sy_words ho) rfl n rfl hn (by decide) dc_A_lowsOf_16 ?_
    refine aw_lor C dc_A_lowsOf_17 ?_
    refine aw_lstore_n C dc_A_lowsOf_18 (by decide) rfl ?_
    refine aw_iinc C dc_A_lowsOf_19 rfl (ni_inc _) (by decide) rfl ?_
    refine aw_goto C dc_A_lowsOf_22 (tgt := 4) (by decide) ?_
    exact ih
set_option maxHeartbeats 4000000 in
set_option maxRecDepth 100000 in
theorem a_joinedWord (l : Launch) (D : va_G) (h th : Nat) (cI cL cF : ClassId) (I : Nat → Nat → Int32) (J : Nat → Nat → Int64) (sh : Nat → Nat) (fr : Nat) (en : Int32) (x : Int64) (low : Nat) (hlow : low < 64) : kl_ l my_A_joinedWord (Cond.code my_A_joinedWord bc_A_joinedWord 6 (some .long) :: tw_) rm0 D (ty_s cI cL cF) (xw_ h th) (ca_ h) [.long x, .int (nI low)] (kp_ D h cI cL cF I J sh fr en) (kp_ D h cI cL cF I J sh fr en) (jw_ x low 6) := by
  refine aw_met (A := ca_ h) (own := "FamilyShelf$Algebra") (by decide) rfl rfl (Nat.le_of_ble_eq_true rfl) ?_
  intro p9 e s m args below meth c C hr hX hP0
  refine aw_lw (lw' := [some (.long x), none, some (.int (nI low)), none, none, none]) rfl ?_
  refine aw_lload_n C dc_A_joinedWord_0 rfl ?_
  refine aw_lstore_n C dc_A_joinedWord_1 (by decide) rfl ?_
  refine aw_iconst C dc_A_joinedWord_2 (v := nI 0) rfl ?_
  refine aw_istore C dc_A_joinedWord_3 (by decide) rfl ?_
  refine aw_loop (fun _ => kp_ D h cI cL cF I J sh fr en) (fun n => [some (.long x), none, some (.int (nI low)), some (.long (jw_ x low n)), none, some (.int (nI n))]) 6 ?_ (fun n hn ih => ?_)
  · refine aw_iload C dc_A_joinedWord_5 rfl ?_
    refine aw_bipush C dc_A_joinedWord_7 (v := nI 6) rfl ?_
    refine aw_icmp_ge C dc_A_joinedWord_9 (tgt := 54) (by decide) (fun _ => ?_) (fun h9 => absurd (nI_le (Nat.le_refl _) (by decide)) h9)
    refine aw_lload_n C dc_A_joinedWord_54 rfl ?_
    exact kc_lret C hr rfl (fun _ h => h) dc_A_joinedWord_55
  · refine aw_iload C dc_A_joinedWord_5 rfl ?_
    refine aw_bipush C dc_A_joinedWord_7 (v := nI 6) rfl ?_
    refine aw_icmp_ge C dc_A_joinedWord_9 (tgt := 54) (by decide) (fun h9 => absurd h9 (nI_ge hn (by decide))) (fun _ => ?_)
    refine aw_iload_n C dc_A_joinedWord_12 rfl ?_
    refine aw_iload C dc_A_joinedWord_13 rfl ?_
    refine aw_ishr C dc_A_joinedWord_15 ?_
    refine aw_iconst C dc_A_joinedWord_16 (v := nI 1) rfl ?_
    refine aw_iand C dc_A_joinedWord_17 ?_
    refine aw_eqi (ni_tb (by omega) (by omega)) ?_
    refine aw_if_eq C dc_A_joinedWord_18 (tgt := 48) (by decide) (fun hB18 => ?_) (fun hB18 => ?_)
    · have hb9 : low.testBit n = false := by
        cases h9 : low.testBit n
        · rfl
        · rw [h9] at hB18; exact absurd hB18 (by decide)
      have cutp := ih
      rw [show jw_ x low (n + 1) = jw_ x low n by rw [jw_, hb9]; rfl] at cutp
      refine aw_iinc C dc_A_joinedWord_48 rfl (ni_inc _) (by decide) rfl ?_
      refine aw_goto C dc_A_joinedWord_51 (tgt := 5) (by decide) ?_
      exact cutp
    · have hb9 : low.testBit n = true := by
        cases h9 : low.testBit n
        · rw [h9] at hB18; exact absurd rfl hB18
        · rfl
      have cutp := ih
      rw [show jw_ x low (n + 1) = _ by rw [jw_, hb9]] at cutp
      refine aw_lload_n C dc_A_joinedWord_21 rfl ?_
      refine aw_getsN C (va_Z.narrow hX.2.1 ca_le) (va_Nw.use rfl (hX.1 (Cond.fieldLinkNest "FamilyShelf$Algebra" 91 "FamilyShelf" "HAVING" "[J" "FamilyShelf") (by decide +kernel))) (fun _ h => h) dc_A_joinedWord_22 ?_
      refine aw_iload C dc_A_joinedWord_25 rfl ?_
      refine aw_tl C (va_T.narrow hX.2.2 ca_le) n rfl hn (by decide) rfl dc_A_joinedWord_27 ?_
      refine aw_land C dc_A_joinedWord_28 ?_
      refine aw_lload_n C dc_A_joinedWord_29 rfl ?_
      refine aw_getsN C (va_Z.narrow hX.2.1 ca_le) (va_Nw.use rfl (hX.1 (Cond.fieldLinkNest "FamilyShelf$Algebra" 91 "FamilyShelf" "HAVING" "[J" "FamilyShelf") (by decide +kernel))) (fun _ h => h) dc_A_joinedWord_30 ?_
      refine aw_iload C dc_A_joinedWord_33 rfl ?_
      refine aw_tl C (va_T.narrow hX.2.2 ca_le) n rfl hn (by decide) rfl dc_A_joinedWord_35 ?_
      refine aw_ldc2 C (C.1.2.2.2.2 _ (List.mem_cons_of_mem _ kw_332)) dc_A_joinedWord_36 ?_
      refine aw_lxor C dc_A_joinedWord_39 ?_
      refine aw_land C dc_A_joinedWord_40 ?_
      refine aw_iconst C dc_A_joinedWord_41 (v := nI 1) rfl ?_
      refine aw_iload C dc_A_joinedWord_42 rfl ?_
      refine aw_ishl C dc_A_joinedWord_44 ?_
      refine aw_eqi (ni_bit (by omega)) ?_
      refine aw_lshl C dc_A_joinedWord_45 ?_
      refine aw_lor C dc_A_joinedWord_46 ?_
      refine aw_lstore_n C dc_A_joinedWord_47 (by decide) rfl ?_
      refine aw_iinc C dc_A_joinedWord_48 rfl (ni_inc _) (by decide) rfl ?_
      refine aw_goto C dc_A_joinedWord_51 (tgt := 5) (by decide) ?_
      exact cutp
set_option maxHeartbeats 4000000 in
set_option maxRecDepth 100000 in
theorem a_metWord (l : Launch) (D : va_G) (h th : Nat) (cI cL cF : ClassId) (I : Nat → Nat → Int32) (J : Nat → Nat → Int64) (sh : Nat → Nat) (fr : Nat) (en : Int32) (x : Int64) (low : Nat) (hlow : low < 64) : kl_ l my_A_metWord (Cond.code my_A_metWord bc_A_metWord 6 (some .long) :: tw_) rm0 D (ty_s cI cL cF) (xw_ h th) (ca_ h) [.long x, .int (nI low)] (kp_ D h cI cL cF I J sh fr en) (kp_ D h cI cL cF I J sh fr en) (mw_ x low 6) := by
  refine aw_met (A := ca_ h) (own := "FamilyShelf$Algebra") (by decide) rfl rfl (Nat.le_of_ble_eq_true rfl) ?_
  intro p9 e s m args below meth c C hr hX hP0
  refine aw_lw (lw' := [some (.long x), none, some (.int (nI low)), none, none, none]) rfl ?_
  refine aw_lload_n C dc_A_metWord_0 rfl ?_
  refine aw_lstore_n C dc_A_metWord_1 (by decide) rfl ?_
  refine aw_iconst C dc_A_metWord_2 (v := nI 0) rfl ?_
  refine aw_istore C dc_A_metWord_3 (by decide) rfl ?_
  refine aw_loop (fun _ => kp_ D h cI cL cF I J sh fr en) (fun n => [some (.long x), none, some (.int (nI low)), some (.long (mw_ x low n)), none, some (.int (nI n))]) 6 ?_ (fun n hn ih => ?_)
  · refine aw_iload C dc_A_metWord_5 rfl ?_
    refine aw_bipush C dc_A_metWord_7 (v := nI 6) rfl ?_
    refine aw_icmp_ge C dc_A_metWord_9 (tgt := 54) (by decide) (fun _ => ?_) (fun h9 => absurd (nI_le (Nat.le_refl _) (by decide)) h9)
    refine aw_lload_n C dc_A_metWord_54 rfl ?_
    exact kc_lret C hr rfl (fun _ h => h) dc_A_metWord_55
  · refine aw_iload C dc_A_metWord_5 rfl ?_
    refine aw_bipush C dc_A_metWord_7 (v := nI 6) rfl ?_
    refine aw_icmp_ge C dc_A_metWord_9 (tgt := 54) (by decide) (fun h9 => absurd h9 (nI_ge hn (by decide))) (fun _ => ?_)
    refine aw_iload_n C dc_A_metWord_12 rfl ?_
    refine aw_iload C dc_A_metWord_13 rfl ?_
    refine aw_ishr C dc_A_metWord_15 ?_
    refine aw_iconst C dc_A_metWord_16 (v := nI 1) rfl ?_
    refine aw_iand C dc_A_metWord_17 ?_
    refine aw_eqi (ni_tb (by omega) (by omega)) ?_
    refine aw_if_ne C dc_A_metWord_18 (tgt := 48) (by decide) (fun hB18 => ?_) (fun hB18 => ?_)
    · have hb9 : low.testBit n = true := by
        cases h9 : low.testBit n
        · rw [h9] at hB18; exact absurd rfl hB18
        · rfl
      have cutp := ih
      rw [show mw_ x low (n + 1) = mw_ x low n by rw [mw_, hb9]; rfl] at cutp
      refine aw_iinc C dc_A_metWord_48 rfl (ni_inc _) (by decide) rfl ?_
      refine aw_goto C dc_A_metWord_51 (tgt := 5) (by decide) ?_
      exact cutp
    · have hb9 : low.testBit n = false := by
        cases h9 : low.testBit n
        · rfl
        · rw [h9] at hB18; exact absurd hB18 (by decide)
      have cutp := ih
      rw [show mw_ x low (n + 1) = _ by rw [mw_, hb9]] at cutp
      refine aw_lload_n C dc_A_metWord_21 rfl ?_
      refine aw_getsN C (va_Z.narrow hX.2.1 ca_le) (va_Nw.use rfl (hX.1 (Cond.fieldLinkNest "FamilyShelf$Algebra" 91 "FamilyShelf" "HAVING" "[J" "FamilyShelf") (by decide +kernel))) (fun _ h => h) dc_A_metWord_22 ?_
      refine aw_iload C dc_A_metWord_25 rfl ?_
      refine aw_tl C (va_T.narrow hX.2.2 ca_le) n rfl hn (by decide) rfl dc_A_metWord_27 ?_
      refine aw_ldc2 C (C.1.2.2.2.2 _ (List.mem_cons_of_mem _ kw_332)) dc_A_metWord_28 ?_
      refine aw_lxor C dc_A_metWord_31 ?_
      refine aw_land C dc_A_metWord_32 ?_
      refine aw_lload_n C dc_A_metWord_33 rfl ?_
      refine aw_getsN C (va_Z.narrow hX.2.1 ca_le) (va_Nw.use rfl (hX.1 (Cond.fieldLinkNest "FamilyShelf$Algebra" 91 "FamilyShelf" "HAVING" "[J" "FamilyShelf") (by decide +kernel))) (fun _ h => h) dc_A_metWord_34 ?_
      refine aw_iload C dc_A_metWord_37 rfl ?_
      refine aw_tl C (va_T.narrow hX.2.2 ca_le) n rfl hn (by decide) rfl dc_A_metWord_39 ?_
      refine aw_land C dc_A_metWord_40 ?_
      refine aw_iconst C dc_A_metWord_41 (v := nI 1) rfl ?_
      refine aw_iload C dc_A_metWord_42 rfl ?_
      refine aw_ishl C dc_A_metWord_44 ?_
      refine aw_eqi (ni_bit (by omega)) ?_
      refine aw_lushr C dc_A_metWord_45 ?_
      refine aw_lor C dc_A_metWord_46 ?_
      refine aw_lstore_n C dc_A_metWord_47 (by decide) rfl ?_
      refine aw_iinc C dc_A_metWord_48 rfl (ni_inc _) (by decide) rfl ?_
      refine aw_goto C dc_A_metWord_51 (tgt := 5) (by decide) ?_
      exact cutp
set_option maxHeartbeats 4000000 in
set_option maxRecDepth 100000 in
theorem a_shiftAll (l : Launch) (D : va_G) (h th : Nat) (cI cL cF : ClassId) (I : Nat → Nat → Int32) (J : Nat → Nat → Int64) (sh : Nat → Nat) (fr : Nat) (en : Int32) (a : Nat) (ha : fo_ a = true) (low : Nat) (hlow : low < 64) (jn : Bool) : kv_ l my_A_shiftAll (Cond.code my_A_shiftAll bc_A_shiftAll 5 none :: tw_) ({ frames := 1, cells := 0, slots := 0, locals := 25 }) D (ty_s cI cL cF) (xw_ h th) (ca_ h) [.ref (h + 2), .ref (h + a), .int (nI low), .int (z1_ jn)] (kp_ D h cI cL cF I J sh fr en) (kp_ D h cI cL cF I (va_up J 7 (wl_ (J 7) (sw_ (J (a + 1)) low jn) 64)) sh fr en) := by
  refine aw_met (A := ca_ h) (own := "FamilyShelf$Algebra") (by decide) rfl rfl (Nat.le_of_ble_eq_true rfl) ?_
  intro p9 e s m args below meth c C hr hX hP0
  refine aw_lw (lw' := [some (.ref (h + 2)), some (.ref (h + a)), some (.int (nI low)), some (.int (z1_ jn)), none]) rfl ?_
  have ha7 : a + 1 ≠ 7 := fun h9 => by rw [show a = 6 by omega] at ha; exact absurd ha (by decide)
  refine aw_iconst C dc_A_shiftAll_0 (v := nI 0) rfl ?_
  refine aw_istore C dc_A_shiftAll_1 (by decide) rfl ?_
  refine aw_P (P' := kp_ D h cI cL cF I (va_up J 7 (wl_ (J 7) (sw_ (J (a + 1)) low jn) 0)) sh fr en) (fun H h => by rw [wl_0, va_upid]; exact h) ?_
  refine aw_loop (fun n => kp_ D h cI cL cF I (va_up J 7 (wl_ (J 7) (sw_ (J (a + 1)) low jn) n)) sh fr en) (fun n => [some (.ref (h + 2)), some (.ref (h + a)), some (.int (nI low)), some (.int (z1_ jn)), some (.int (nI n))]) 64 ?_ (fun n hn ih => ?_)
  · refine aw_iload C dc_A_shiftAll_3 rfl ?_
    refine aw_bipush C dc_A_shiftAll_5 (v := nI 64) rfl ?_
    refine aw_icmp_ge C dc_A_shiftAll_7 (tgt := 52) (by decide) (fun _ => ?_) (fun h9 => absurd (nI_le (Nat.le_refl _) (by decide)) h9)
    exact kc_vret C hr (fun _ h => h) dc_A_shiftAll_52
  · cases jn
    · refine aw_iload C dc_A_shiftAll_3 rfl ?_
      refine aw_bipush C dc_A_shiftAll_5 (v := nI 64) rfl ?_
      refine aw_icmp_ge C dc_A_shiftAll_7 (tgt := 52) (by decide) (fun h9 => absurd h9 (nI_ge hn (by decide))) (fun _ => ?_)
      refine aw_aload_n C dc_A_shiftAll_10 rfl ?_
      refine aw_get C (fun w h => List.mem_cons_of_mem _ (ly_A w h)) 2 sy_p2 rfl 2 (by decide) (C.1.2.2.2.2 _ (List.mem_cons_of_mem _ kw_55)) (fun _ h => h) rfl dc_A_shiftAll_11 ?_
      refine aw_iload C dc_A_shiftAll_14 rfl ?_
      refine aw_iload_n C dc_A_shiftAll_16 rfl ?_
      refine aw_if_eq C dc_A_shiftAll_17 (tgt := 34) (by decide) (fun _ => ?_) (fun h9 => absurd (rfl) h9)
      refine aw_aload_n C dc_A_shiftAll_34 rfl ?_
      refine aw_get C (fun w h => List.mem_cons_of_mem _ (ly_F w h)) a (sy_fam ha) rfl 0 (by decide) (C.1.2.2.2.2 _ (List.mem_cons_of_mem _ kw_42)) (fun _ h => h) rfl dc_A_shiftAll_35 ?_
      refine aw_iload C dc_A_shiftAll_38 rfl ?_
      refine aw_lald C (a + 1) 1 (sy_words ha) rfl n rfl hn (by decide) dc_A_shiftAll_40 ?_
      refine aw_eql (show _ = J (a + 1) n from congrFun (va_up_ne _ _ ha7) _) ?_
      refine aw_iload_n C dc_A_shiftAll_41 rfl ?_
      refine kc_l (fun _ h => h) (fun _ h => h) (kc_S (n := 2) C hX (xw_k ca_le) (a_metWord l D h th cI cL cF I (va_up J 7 (wl_ (J 7) (sw_ (J (a + 1)) low false) n)) sh fr en (J (a + 1) n) low hlow) kw_353 kw_351 kw_352 kw_2 (by unfold kd_; decide) ⟨rfl, rfl, by decide, by decide⟩ rfl rfl (Nat.le_of_ble_eq_true rfl) ⟨Nat.zero_le _, Nat.zero_le _⟩ dc_A_shiftAll_42) ?_
      refine aw_last C sy_D 7 1 sy_p7 rfl n rfl hn (by decide) (ws' := sy_ h cI cL cF I (va_up J 7 (wl_ (J 7) (sw_ (J (a + 1)) low false) (n + 1))) sh fr en) (by rw [sy_setJ (k := 7) (by decide) _ (fun _ => rfl), bx_uu, va_up_self]; exact congrArg (fun z => sy_ h cI cL cF I (va_up J 7 z) sh fr en) (wl_s _ (sw_ (J (a + 1)) low false) n)) dc_A_shiftAll_45 ?_
      refine aw_iinc C dc_A_shiftAll_46 rfl (ni_inc _) (by decide) rfl ?_
      refine aw_goto C dc_A_shiftAll_49 (tgt := 3) (by decide) ?_
      exact ih
    · refine aw_iload C dc_A_shiftAll_3 rfl ?_
      refine aw_bipush C dc_A_shiftAll_5 (v := nI 64) rfl ?_
      refine aw_icmp_ge C dc_A_shiftAll_7 (tgt := 52) (by decide) (fun h9 => absurd h9 (nI_ge hn (by decide))) (fun _ => ?_)
      refine aw_aload_n C dc_A_shiftAll_10 rfl ?_
      refine aw_get C (fun w h => List.mem_cons_of_mem _ (ly_A w h)) 2 sy_p2 rfl 2 (by decide) (C.1.2.2.2.2 _ (List.mem_cons_of_mem _ kw_55)) (fun _ h => h) rfl dc_A_shiftAll_11 ?_
      refine aw_iload C dc_A_shiftAll_14 rfl ?_
      refine aw_iload_n C dc_A_shiftAll_16 rfl ?_
      refine aw_if_eq C dc_A_shiftAll_17 (tgt := 34) (by decide) (fun h9 => absurd h9 (by decide)) (fun _ => ?_)
      refine aw_aload_n C dc_A_shiftAll_20 rfl ?_
      refine aw_get C (fun w h => List.mem_cons_of_mem _ (ly_F w h)) a (sy_fam ha) rfl 0 (by decide) (C.1.2.2.2.2 _ (List.mem_cons_of_mem _ kw_42)) (fun _ h => h) rfl dc_A_shiftAll_21 ?_
      refine aw_iload C dc_A_shiftAll_24 rfl ?_
      refine aw_lald C (a + 1) 1 (sy_words ha) rfl n rfl hn (by decide) dc_A_shiftAll_26 ?_
      refine aw_eql (show _ = J (a + 1) n from congrFun (va_up_ne _ _ ha7) _) ?_
      refine aw_iload_n C dc_A_shiftAll_27 rfl ?_
      refine kc_l (fun _ h => h) (fun _ h => h) (kc_S (n := 2) C hX (xw_k ca_le) (a_joinedWord l D h th cI cL cF I (va_up J 7 (wl_ (J 7) (sw_ (J (a + 1)) low true) n)) sh fr en (J (a + 1) n) low hlow) kw_348 kw_346 kw_347 kw_2 (by unfold kd_; decide) ⟨rfl, rfl, by decide, by decide⟩ rfl rfl (Nat.le_of_ble_eq_true rfl) ⟨Nat.zero_le _, Nat.zero_le _⟩ dc_A_shiftAll_28) ?_
      refine aw_goto C dc_A_shiftAll_31 (tgt := 45) (by decide) ?_
      refine aw_last C sy_D 7 1 sy_p7 rfl n rfl hn (by decide) (ws' := sy_ h cI cL cF I (va_up J 7 (wl_ (J 7) (sw_ (J (a + 1)) low true) (n + 1))) sh fr en) (by rw [sy_setJ (k := 7) (by decide) _ (fun _ => rfl), bx_uu, va_up_self]; exact congrArg (fun z => sy_ h cI cL cF I (va_up J 7 z) sh fr en) (wl_s _ (sw_ (J (a + 1)) low true) n)) dc_A_shiftAll_45 ?_
      refine aw_iinc C dc_A_shiftAll_46 rfl (ni_inc _) (by decide) rfl ?_
      refine aw_goto C dc_A_shiftAll_49 (tgt := 3) (by decide) ?_
      exact ih
set_option maxHeartbeats 4000000 in
set_option maxRecDepth 100000 in
theorem a_pairHighs (l : Launch) (D : va_G) (h th : Nat) (cI cL cF : ClassId) (I : Nat → Nat → Int32) (J : Nat → Nat → Int64) (sh : Nat → Nat) (fr : Nat) (en : Int32) (o : Nat) (ho : fo_ o = true) (b : Nat) (hb : fo_ b = true) (hbo : b ≠ o) (low : Nat) (hlow : low < 64) (jn : Bool) : kv_ l my_A_pairHighs (Cond.code my_A_pairHighs bc_A_pairHighs 7 none :: tw_) ({ frames := 1, cells := 0, slots := 0, locals := 21 }) D (ty_s cI cL cF) (xw_ h th) (ca_ h) [.ref (h + 2), .ref (h + o), .ref (h + b), .int (nI low), .int (z1_ jn)] (kp_ D h cI cL cF I J sh fr en) (kp_ D h cI cL cF I (va_up J (o + 1) (ph_ (J (o + 1)) (J 7) (J (b + 1)) low jn 64)) sh fr en) := by
  refine aw_met (A := ca_ h) (own := "FamilyShelf$Algebra") (by decide) rfl rfl (Nat.le_of_ble_eq_true rfl) ?_
  intro p9 e s m args below meth c C hr hX hP0
  refine aw_lw (lw' := [some (.ref (h + 2)), some (.ref (h + o)), some (.ref (h + b)), some (.int (nI low)), some (.int (z1_ jn)), none, none]) rfl ?_
  have ho7 : 7 ≠ o + 1 := fun h9 => by rw [show o = 6 by omega] at ho; exact absurd ho (by decide)
  refine aw_iconst C dc_A_pairHighs_0 (v := nI 0) rfl ?_
  refine aw_istore C dc_A_pairHighs_1 (by decide) rfl ?_
  refine aw_P (P' := kp_ D h cI cL cF I (va_up J (o + 1) (ph_ (J (o + 1)) (J 7) (J (b + 1)) low jn 0)) sh fr en) (fun H h => by rw [show (va_up J (o + 1) (ph_ (J (o + 1)) (J 7) (J (b + 1)) low jn 0)) = J from va_upid]; exact h) ?_
  refine aw_loop (fun n => kp_ D h cI cL cF I (va_up J (o + 1) (ph_ (J (o + 1)) (J 7) (J (b + 1)) low jn n)) sh fr en) (fun n => [some (.ref (h + 2)), some (.ref (h + o)), some (.ref (h + b)), some (.int (nI low)), some (.int (z1_ jn)), some (.int (nI n)), none]) 64 ?_ (fun n hn ih => ?_)
  · refine aw_iload C dc_A_pairHighs_3 rfl ?_
    refine aw_bipush C dc_A_pairHighs_5 (v := nI 64) rfl ?_
    refine aw_icmp_ge C dc_A_pairHighs_7 (tgt := 79) (by decide) (fun _ => ?_) (fun h9 => absurd (nI_le (Nat.le_refl _) (by decide)) h9)
    exact kc_vret C hr (fun _ h => h) dc_A_pairHighs_79
  · refine aw_iload C dc_A_pairHighs_3 rfl ?_
    refine aw_bipush C dc_A_pairHighs_5 (v := nI 64) rfl ?_
    refine aw_icmp_ge C dc_A_pairHighs_7 (tgt := 79) (by decide) (fun h9 => absurd h9 (nI_ge hn (by decide))) (fun _ => ?_)
    refine aw_aload_n C dc_A_pairHighs_10 rfl ?_
    refine aw_iload C dc_A_pairHighs_11 rfl ?_
    refine aw_bipush C dc_A_pairHighs_13 (v := nI 6) rfl ?_
    refine aw_ishl C dc_A_pairHighs_15 ?_
    refine aw_eqi (ni_shl (by decide) (by omega)) ?_
    refine aw_iload_n C dc_A_pairHighs_16 rfl ?_
    refine aw_ior C dc_A_pairHighs_17 ?_
    refine aw_eqi (ni_or _ _) ?_
    refine aw_eqi (congrArg nI (pl_or hlow)) ?_
    refine kc_i (fun _ h => h) (fun _ h => h) (kc_V (n := 1) C hX (xw_k ca_le) rfl b (sy_fam hb) rfl (f_holds l D h th cI cL cF I (va_up J (o + 1) (ph_ (J (o + 1)) (J 7) (J (b + 1)) low jn n)) sh fr en b hb (64 * n + low) (by omega)) kw_247 kw_358 kw_245 kw_246 kw_3 rfl (by unfold kd_; decide) ⟨rfl, rfl, by decide, by decide⟩ rfl rfl (Nat.le_of_ble_eq_true rfl) ⟨Nat.zero_le _, Nat.zero_le _⟩ dc_A_pairHighs_18) ?_
    refine aw_eqi (show _ = z1_ (fb_ (J (b + 1)) (64 * n + low)) by rw [va_up_ne _ _ (by omega)]) ?_
    refine aw_if_eq C dc_A_pairHighs_21 (tgt := 73) (by decide) (fun hB21 => ?_) (fun hB21 => ?_)
    · have hf : fb_ (J (b + 1)) (64 * n + low) = false := by
        cases h9 : fb_ (J (b + 1)) (64 * n + low)
        · rfl
        · rw [h9] at hB21; exact absurd hB21 (by decide)
      have cutp := ih
      rw [show ph_ (J (o + 1)) (J 7) (J (b + 1)) low jn (n + 1) = (ph_ (J (o + 1)) (J 7) (J (b + 1)) low jn n) by rw [ph_, hf]; rfl] at cutp
      refine aw_iinc C dc_A_pairHighs_73 rfl (ni_inc _) (by decide) rfl ?_
      refine aw_goto C dc_A_pairHighs_76 (tgt := 3) (by decide) ?_
      refine (fun hs => aw_sub hs cutp) (by
        intro k v h
        match k, h with
        | 0, h => exact h
        | 1, h => exact h
        | 2, h => exact h
        | 3, h => exact h
        | 4, h => exact h
        | 5, h => exact h
        | 6, h => exact nomatch (show (some none : Option (Option Value)) = some (some v) from h)
        | n + 7, h => exact nomatch (show (none : Option (Option Value)) = some (some v) from h))
    · have hf : fb_ (J (b + 1)) (64 * n + low) = true := by
        cases h9 : fb_ (J (b + 1)) (64 * n + low)
        · rw [h9] at hB21; exact absurd rfl hB21
        · rfl
      have cutp := ih
      rw [show ph_ (J (o + 1)) (J 7) (J (b + 1)) low jn (n + 1) = pi_ (ph_ (J (o + 1)) (J 7) (J (b + 1)) low jn n) (J 7) n jn 64 by rw [ph_, hf]; rfl] at cutp
      refine aw_iconst C dc_A_pairHighs_24 (v := nI 0) rfl ?_
      refine aw_istore C dc_A_pairHighs_25 (by decide) rfl ?_
      refine aw_loop (fun k => kp_ D h cI cL cF I (va_up J (o + 1) (pi_ (ph_ (J (o + 1)) (J 7) (J (b + 1)) low jn n) (J 7) n jn k)) sh fr en) (fun k => [some (.ref (h + 2)), some (.ref (h + o)), some (.ref (h + b)), some (.int (nI low)), some (.int (z1_ jn)), some (.int (nI n)), some (.int (nI k))]) 64 ?_ (fun k hk ih2 => ?_)
      · refine aw_iload C dc_A_pairHighs_27 rfl ?_
        refine aw_bipush C dc_A_pairHighs_29 (v := nI 64) rfl ?_
        refine aw_icmp_ge C dc_A_pairHighs_31 (tgt := 73) (by decide) (fun _ => ?_) (fun h9 => absurd (nI_le (Nat.le_refl _) (by decide)) h9)
        refine aw_iinc C dc_A_pairHighs_73 rfl (ni_inc _) (by decide) rfl ?_
        refine aw_goto C dc_A_pairHighs_76 (tgt := 3) (by decide) ?_
        refine (fun hs => aw_sub hs cutp) (by
          intro k v h
          match k, h with
          | 0, h => exact h
          | 1, h => exact h
          | 2, h => exact h
          | 3, h => exact h
          | 4, h => exact h
          | 5, h => exact h
          | 6, h => exact nomatch (show (some none : Option (Option Value)) = some (some v) from h)
          | n + 7, h => exact nomatch (show (none : Option (Option Value)) = some (some v) from h))
      · cases jn
        · refine aw_iload C dc_A_pairHighs_27 rfl ?_
          refine aw_bipush C dc_A_pairHighs_29 (v := nI 64) rfl ?_
          refine aw_icmp_ge C dc_A_pairHighs_31 (tgt := 73) (by decide) (fun h9 => absurd h9 (nI_ge hk (by decide))) (fun _ => ?_)
          refine aw_aload_n C dc_A_pairHighs_34 rfl ?_
          refine aw_get C (fun w h => List.mem_cons_of_mem _ (ly_F w h)) o (sy_fam ho) rfl 0 (by decide) (C.1.2.2.2.2 _ (List.mem_cons_of_mem _ kw_42)) (fun _ h => h) rfl dc_A_pairHighs_35 ?_
          refine aw_iload C dc_A_pairHighs_38 rfl ?_
          refine aw_if_eq C dc_A_pairHighs_40 (tgt := 51) (by decide) (fun _ => ?_) (fun h9 => absurd (rfl) h9)
          refine aw_iload C dc_A_pairHighs_51 rfl ?_
          refine aw_iload C dc_A_pairHighs_53 rfl ?_
          refine aw_iand C dc_A_pairHighs_55 ?_
          refine aw_eqi (ni_and _ _) ?_
          refine aw_dup2_11 C dc_A_pairHighs_56 rfl rfl ?_
          refine aw_lald C (o + 1) 1 (sy_words ho) rfl (ti_ false k n) rfl (ti_lt hk hn) (by decide) dc_A_pairHighs_57 ?_
          refine aw_aload_n C dc_A_pairHighs_58 rfl ?_
          refine aw_get C (fun w h => List.mem_cons_of_mem _ (ly_A w h)) 2 sy_p2 rfl 2 (by decide) (C.1.2.2.2.2 _ (List.mem_cons_of_mem _ kw_55)) (fun _ h => h) rfl dc_A_pairHighs_59 ?_
          refine aw_iload C dc_A_pairHighs_62 rfl ?_
          refine aw_lald C 7 1 sy_p7 rfl k rfl hk (by decide) dc_A_pairHighs_64 ?_
          refine aw_eql (show _ = J 7 k from congrFun (va_up_ne _ _ ho7) _) ?_
          refine aw_lor C dc_A_pairHighs_65 ?_
          refine aw_last C sy_D (o + 1) 1 (sy_words ho) rfl (ti_ false k n) rfl (ti_lt hk hn) (by decide) (ws' := sy_ h cI cL cF I (va_up J (o + 1) (pi_ (ph_ (J (o + 1)) (J 7) (J (b + 1)) low false n) (J 7) n false (k + 1))) sh fr en) (by rw [sy_setW ho, bx_uu, va_up_self]; rfl) dc_A_pairHighs_66 ?_
          refine aw_iinc C dc_A_pairHighs_67 rfl (ni_inc _) (by decide) rfl ?_
          refine aw_goto C dc_A_pairHighs_70 (tgt := 27) (by decide) ?_
          exact ih2
        · refine aw_iload C dc_A_pairHighs_27 rfl ?_
          refine aw_bipush C dc_A_pairHighs_29 (v := nI 64) rfl ?_
          refine aw_icmp_ge C dc_A_pairHighs_31 (tgt := 73) (by decide) (fun h9 => absurd h9 (nI_ge hk (by decide))) (fun _ => ?_)
          refine aw_aload_n C dc_A_pairHighs_34 rfl ?_
          refine aw_get C (fun w h => List.mem_cons_of_mem _ (ly_F w h)) o (sy_fam ho) rfl 0 (by decide) (C.1.2.2.2.2 _ (List.mem_cons_of_mem _ kw_42)) (fun _ h => h) rfl dc_A_pairHighs_35 ?_
          refine aw_iload C dc_A_pairHighs_38 rfl ?_
          refine aw_if_eq C dc_A_pairHighs_40 (tgt := 51) (by decide) (fun h9 => absurd h9 (by decide)) (fun _ => ?_)
          refine aw_iload C dc_A_pairHighs_43 rfl ?_
          refine aw_iload C dc_A_pairHighs_45 rfl ?_
          refine aw_ior C dc_A_pairHighs_47 ?_
          refine aw_eqi (ni_or _ _) ?_
          refine aw_goto C dc_A_pairHighs_48 (tgt := 56) (by decide) ?_
          refine aw_dup2_11 C dc_A_pairHighs_56 rfl rfl ?_
          refine aw_lald C (o + 1) 1 (sy_words ho) rfl (ti_ true k n) rfl (ti_lt hk hn) (by decide) dc_A_pairHighs_57 ?_
          refine aw_aload_n C dc_A_pairHighs_58 rfl ?_
          refine aw_get C (fun w h => List.mem_cons_of_mem _ (ly_A w h)) 2 sy_p2 rfl 2 (by decide) (C.1.2.2.2.2 _ (List.mem_cons_of_mem _ kw_55)) (fun _ h => h) rfl dc_A_pairHighs_59 ?_
          refine aw_iload C dc_A_pairHighs_62 rfl ?_
          refine aw_lald C 7 1 sy_p7 rfl k rfl hk (by decide) dc_A_pairHighs_64 ?_
          refine aw_eql (show _ = J 7 k from congrFun (va_up_ne _ _ ho7) _) ?_
          refine aw_lor C dc_A_pairHighs_65 ?_
          refine aw_last C sy_D (o + 1) 1 (sy_words ho) rfl (ti_ true k n) rfl (ti_lt hk hn) (by decide) (ws' := sy_ h cI cL cF I (va_up J (o + 1) (pi_ (ph_ (J (o + 1)) (J 7) (J (b + 1)) low true n) (J 7) n true (k + 1))) sh fr en) (by rw [sy_setW ho, bx_uu, va_up_self]; rfl) dc_A_pairHighs_66 ?_
          refine aw_iinc C dc_A_pairHighs_67 rfl (ni_inc _) (by decide) rfl ?_
          refine aw_goto C dc_A_pairHighs_70 (tgt := 27) (by decide) ?_
          exact ih2
