set_option maxHeartbeats 4000000 in
set_option maxRecDepth 100000 in
theorem a_comb0 (l : Launch) (D : va_G) (h th : Nat) (cI cL cF : ClassId) (I : Nat → Nat → Int32) (J : Nat → Nat → Int64) (sh : Nat → Nat) (fr : Nat) (en : Int32) (o : Nat) (ho : fo_ o = true) (a : Nat) (ha : fo_ a = true) (hao : a ≠ o) (b : Nat) (hb : fo_ b = true) (hbo : b ≠ o) (ho3 : o ≠ 3) (ho5 : o ≠ 5) (ha3 : a ≠ 3) (ha5 : a ≠ 5) (hb3 : b ≠ 3) (hb5 : b ≠ 5) : kv_ l my_A_combineInto (Cond.code my_A_combineInto bc_A_combineInto 5 none :: tw_) ({ frames := 5, cells := 0, slots := 0, locals := 113 }) D (ty_s cI cL cF) (xw_ h th) (ca_ h) [.ref (h + 2), .ref (h + o), .int (nI 0), .ref (h + a), .ref (h + b)] (kp_ D h cI cL cF I J sh fr en) (kp_ D h cI cL cF I (uniJ_ J o a b) sh fr en) := by
  refine aw_met (A := ca_ h) (own := "FamilyShelf$Algebra") (by decide) rfl rfl (Nat.le_of_ble_eq_true rfl) ?_
  intro p9 e s m args below meth c C hr hX hP0
  refine aw_lw (lw' := [some (.ref (h + 2)), some (.ref (h + o)), some (.int (nI 0)), some (.ref (h + a)), some (.ref (h + b))]) rfl ?_
  refine aw_iload_n C dc_A_combineInto_0 rfl ?_
  refine aw_tableIn C dc_A_combineInto_1 (by decide) (by decide) (off := 47) (by decide) (tgt := 48) (by decide) ?_
  refine aw_aload_n C dc_A_combineInto_48 rfl ?_
  refine aw_aload_n C dc_A_combineInto_49 rfl ?_
  refine aw_aload C dc_A_combineInto_50 rfl ?_
  refine kc_v (fun _ h => h) (fun _ h => h) (kc_S (n := 3) C hX (xw_k ca_le) (a_unite l D h th cI cL cF I J sh fr en o ho a ha hao b hb hbo) kw_325 kw_323 kw_324 kw_2 (by unfold kd_; decide) ⟨rfl, rfl, by decide, by decide⟩ rfl rfl (Nat.le_of_ble_eq_true rfl) ⟨Nat.zero_le _, Nat.zero_le _⟩ dc_A_combineInto_52) ?_
  refine aw_goto C dc_A_combineInto_55 (tgt := 181) (by decide) ?_
  exact kc_vret C hr (fun _ h => h) dc_A_combineInto_181
set_option maxHeartbeats 4000000 in
set_option maxRecDepth 100000 in
theorem a_comb1 (l : Launch) (D : va_G) (h th : Nat) (cI cL cF : ClassId) (I : Nat → Nat → Int32) (J : Nat → Nat → Int64) (sh : Nat → Nat) (fr : Nat) (en : Int32) (o : Nat) (ho : fo_ o = true) (a : Nat) (ha : fo_ a = true) (hao : a ≠ o) (b : Nat) (hb : fo_ b = true) (hbo : b ≠ o) (ho3 : o ≠ 3) (ho5 : o ≠ 5) (ha3 : a ≠ 3) (ha5 : a ≠ 5) (hb3 : b ≠ 3) (hb5 : b ≠ 5) : kv_ l my_A_combineInto (Cond.code my_A_combineInto bc_A_combineInto 5 none :: tw_) ({ frames := 5, cells := 0, slots := 0, locals := 113 }) D (ty_s cI cL cF) (xw_ h th) (ca_ h) [.ref (h + 2), .ref (h + o), .int (nI 1), .ref (h + a), .ref (h + b)] (kp_ D h cI cL cF I J sh fr en) (kp_ D h cI cL cF I (intJ_ J o a b) sh fr en) := by
  refine aw_met (A := ca_ h) (own := "FamilyShelf$Algebra") (by decide) rfl rfl (Nat.le_of_ble_eq_true rfl) ?_
  intro p9 e s m args below meth c C hr hX hP0
  refine aw_lw (lw' := [some (.ref (h + 2)), some (.ref (h + o)), some (.int (nI 1)), some (.ref (h + a)), some (.ref (h + b))]) rfl ?_
  refine aw_iload_n C dc_A_combineInto_0 rfl ?_
  refine aw_tableIn C dc_A_combineInto_1 (by decide) (by decide) (off := 57) (by decide) (tgt := 58) (by decide) ?_
  refine aw_aload_n C dc_A_combineInto_58 rfl ?_
  refine aw_aload_n C dc_A_combineInto_59 rfl ?_
  refine aw_aload C dc_A_combineInto_60 rfl ?_
  refine kc_v (fun _ h => h) (fun _ h => h) (kc_S (n := 3) C hX (xw_k ca_le) (a_intersect l D h th cI cL cF I J sh fr en o ho a ha hao b hb hbo) kw_328 kw_326 kw_327 kw_2 (by unfold kd_; decide) ⟨rfl, rfl, by decide, by decide⟩ rfl rfl (Nat.le_of_ble_eq_true rfl) ⟨Nat.zero_le _, Nat.zero_le _⟩ dc_A_combineInto_62) ?_
  refine aw_goto C dc_A_combineInto_65 (tgt := 181) (by decide) ?_
  exact kc_vret C hr (fun _ h => h) dc_A_combineInto_181
set_option maxHeartbeats 4000000 in
set_option maxRecDepth 100000 in
theorem a_comb2 (l : Launch) (D : va_G) (h th : Nat) (cI cL cF : ClassId) (I : Nat → Nat → Int32) (J : Nat → Nat → Int64) (sh : Nat → Nat) (fr : Nat) (en : Int32) (o : Nat) (ho : fo_ o = true) (a : Nat) (ha : fo_ a = true) (hao : a ≠ o) (b : Nat) (hb : fo_ b = true) (hbo : b ≠ o) (ho3 : o ≠ 3) (ho5 : o ≠ 5) (ha3 : a ≠ 3) (ha5 : a ≠ 5) (hb3 : b ≠ 3) (hb5 : b ≠ 5) : kv_ l my_A_combineInto (Cond.code my_A_combineInto bc_A_combineInto 5 none :: tw_) ({ frames := 5, cells := 0, slots := 0, locals := 113 }) D (ty_s cI cL cF) (xw_ h th) (ca_ h) [.ref (h + 2), .ref (h + o), .int (nI 2), .ref (h + a), .ref (h + b)] (kp_ D h cI cL cF I J sh fr en) (kp_ D h cI cL cF I (subJ_ J o a b) sh fr en) := by
  refine aw_met (A := ca_ h) (own := "FamilyShelf$Algebra") (by decide) rfl rfl (Nat.le_of_ble_eq_true rfl) ?_
  intro p9 e s m args below meth c C hr hX hP0
  refine aw_lw (lw' := [some (.ref (h + 2)), some (.ref (h + o)), some (.int (nI 2)), some (.ref (h + a)), some (.ref (h + b))]) rfl ?_
  refine aw_iload_n C dc_A_combineInto_0 rfl ?_
  refine aw_tableIn C dc_A_combineInto_1 (by decide) (by decide) (off := 67) (by decide) (tgt := 68) (by decide) ?_
  refine aw_aload_n C dc_A_combineInto_68 rfl ?_
  refine aw_aload_n C dc_A_combineInto_69 rfl ?_
  refine aw_aload C dc_A_combineInto_70 rfl ?_
  refine kc_v (fun _ h => h) (fun _ h => h) (kc_S (n := 3) C hX (xw_k ca_le) (a_subtract l D h th cI cL cF I J sh fr en o ho a ha hao b hb hbo) kw_331 kw_329 kw_330 kw_2 (by unfold kd_; decide) ⟨rfl, rfl, by decide, by decide⟩ rfl rfl (Nat.le_of_ble_eq_true rfl) ⟨Nat.zero_le _, Nat.zero_le _⟩ dc_A_combineInto_72) ?_
  refine aw_goto C dc_A_combineInto_75 (tgt := 181) (by decide) ?_
  exact kc_vret C hr (fun _ h => h) dc_A_combineInto_181
set_option maxHeartbeats 4000000 in
set_option maxRecDepth 100000 in
theorem a_comb3 (l : Launch) (D : va_G) (h th : Nat) (cI cL cF : ClassId) (I : Nat → Nat → Int32) (J : Nat → Nat → Int64) (sh : Nat → Nat) (fr : Nat) (en : Int32) (o : Nat) (ho : fo_ o = true) (a : Nat) (ha : fo_ a = true) (hao : a ≠ o) (b : Nat) (hb : fo_ b = true) (hbo : b ≠ o) (ho3 : o ≠ 3) (ho5 : o ≠ 5) (ha3 : a ≠ 3) (ha5 : a ≠ 5) (hb3 : b ≠ 3) (hb5 : b ≠ 5) : kv_ l my_A_combineInto (Cond.code my_A_combineInto bc_A_combineInto 5 none :: tw_) ({ frames := 5, cells := 0, slots := 0, locals := 113 }) D (ty_s cI cL cF) (xw_ h th) (ca_ h) [.ref (h + 2), .ref (h + o), .int (nI 3), .ref (h + a), .ref (h + b)] (kp_ D h cI cL cF I J sh fr en) (kp_ D h cI cL cF I (pairJ_ J o a b true) sh fr en) := by
  refine aw_met (A := ca_ h) (own := "FamilyShelf$Algebra") (by decide) rfl rfl (Nat.le_of_ble_eq_true rfl) ?_
  intro p9 e s m args below meth c C hr hX hP0
  refine aw_lw (lw' := [some (.ref (h + 2)), some (.ref (h + o)), some (.int (nI 3)), some (.ref (h + a)), some (.ref (h + b))]) rfl ?_
  refine aw_iload_n C dc_A_combineInto_0 rfl ?_
  refine aw_tableIn C dc_A_combineInto_1 (by decide) (by decide) (off := 77) (by decide) (tgt := 78) (by decide) ?_
  refine aw_aload_n C dc_A_combineInto_78 rfl ?_
  refine aw_aload_n C dc_A_combineInto_79 rfl ?_
  refine aw_aload_n C dc_A_combineInto_80 rfl ?_
  refine aw_aload C dc_A_combineInto_81 rfl ?_
  refine aw_iload_n C dc_A_combineInto_83 rfl ?_
  refine aw_iconst C dc_A_combineInto_84 (v := nI 3) rfl ?_
  refine aw_icmp_ne C dc_A_combineInto_85 (tgt := 92) (by decide) (fun h9 => absurd (rfl) h9) (fun _ => ?_)
  refine aw_iconst C dc_A_combineInto_88 (v := nI 1) rfl ?_
  refine aw_goto C dc_A_combineInto_89 (tgt := 93) (by decide) ?_
  refine kc_v (fun _ h => h) (fun _ h => h) (kc_V (n := 4) C hX (xw_k ca_le) rfl 2 sy_p2 rfl (a_pair l D h th cI cL cF I J sh fr en o ho a ha hao b hb hbo true) kw_336 kw_333 kw_335 (tw_sel (q := (my_A_pair, 4)) (by decide +kernel)) kw_2 rfl (by unfold kd_; decide) ⟨rfl, rfl, by decide, by decide⟩ rfl rfl (Nat.le_of_ble_eq_true rfl) ⟨Nat.zero_le _, Nat.zero_le _⟩ dc_A_combineInto_93) ?_
  refine aw_goto C dc_A_combineInto_96 (tgt := 181) (by decide) ?_
  exact kc_vret C hr (fun _ h => h) dc_A_combineInto_181
set_option maxHeartbeats 4000000 in
set_option maxRecDepth 100000 in
theorem a_comb4 (l : Launch) (D : va_G) (h th : Nat) (cI cL cF : ClassId) (I : Nat → Nat → Int32) (J : Nat → Nat → Int64) (sh : Nat → Nat) (fr : Nat) (en : Int32) (o : Nat) (ho : fo_ o = true) (a : Nat) (ha : fo_ a = true) (hao : a ≠ o) (b : Nat) (hb : fo_ b = true) (hbo : b ≠ o) (ho3 : o ≠ 3) (ho5 : o ≠ 5) (ha3 : a ≠ 3) (ha5 : a ≠ 5) (hb3 : b ≠ 3) (hb5 : b ≠ 5) : kv_ l my_A_combineInto (Cond.code my_A_combineInto bc_A_combineInto 5 none :: tw_) ({ frames := 5, cells := 0, slots := 0, locals := 113 }) D (ty_s cI cL cF) (xw_ h th) (ca_ h) [.ref (h + 2), .ref (h + o), .int (nI 4), .ref (h + a), .ref (h + b)] (kp_ D h cI cL cF I J sh fr en) (kp_ D h cI cL cF I (pairJ_ J o a b false) sh fr en) := by
  refine aw_met (A := ca_ h) (own := "FamilyShelf$Algebra") (by decide) rfl rfl (Nat.le_of_ble_eq_true rfl) ?_
  intro p9 e s m args below meth c C hr hX hP0
  refine aw_lw (lw' := [some (.ref (h + 2)), some (.ref (h + o)), some (.int (nI 4)), some (.ref (h + a)), some (.ref (h + b))]) rfl ?_
  refine aw_iload_n C dc_A_combineInto_0 rfl ?_
  refine aw_tableIn C dc_A_combineInto_1 (by decide) (by decide) (off := 77) (by decide) (tgt := 78) (by decide) ?_
  refine aw_aload_n C dc_A_combineInto_78 rfl ?_
  refine aw_aload_n C dc_A_combineInto_79 rfl ?_
  refine aw_aload_n C dc_A_combineInto_80 rfl ?_
  refine aw_aload C dc_A_combineInto_81 rfl ?_
  refine aw_iload_n C dc_A_combineInto_83 rfl ?_
  refine aw_iconst C dc_A_combineInto_84 (v := nI 3) rfl ?_
  refine aw_icmp_ne C dc_A_combineInto_85 (tgt := 92) (by decide) (fun _ => ?_) (fun h9 => absurd h9 (by decide))
  refine aw_iconst C dc_A_combineInto_92 (v := nI 0) rfl ?_
  refine kc_v (fun _ h => h) (fun _ h => h) (kc_V (n := 4) C hX (xw_k ca_le) rfl 2 sy_p2 rfl (a_pair l D h th cI cL cF I J sh fr en o ho a ha hao b hb hbo false) kw_336 kw_333 kw_335 (tw_sel (q := (my_A_pair, 4)) (by decide +kernel)) kw_2 rfl (by unfold kd_; decide) ⟨rfl, rfl, by decide, by decide⟩ rfl rfl (Nat.le_of_ble_eq_true rfl) ⟨Nat.zero_le _, Nat.zero_le _⟩ dc_A_combineInto_93) ?_
  refine aw_goto C dc_A_combineInto_96 (tgt := 181) (by decide) ?_
  exact kc_vret C hr (fun _ h => h) dc_A_combineInto_181
set_option maxHeartbeats 4000000 in
set_option maxRecDepth 100000 in
theorem a_comb5 (l : Launch) (D : va_G) (h th : Nat) (cI cL cF : ClassId) (I : Nat → Nat → Int32) (J : Nat → Nat → Int64) (sh : Nat → Nat) (fr : Nat) (en : Int32) (o : Nat) (ho : fo_ o = true) (a : Nat) (ha : fo_ a = true) (hao : a ≠ o) (b : Nat) (hb : fo_ b = true) (hbo : b ≠ o) (ho3 : o ≠ 3) (ho5 : o ≠ 5) (ha3 : a ≠ 3) (ha5 : a ≠ 5) (hb3 : b ≠ 3) (hb5 : b ≠ 5) : kv_ l my_A_combineInto (Cond.code my_A_combineInto bc_A_combineInto 5 none :: tw_) ({ frames := 5, cells := 0, slots := 0, locals := 113 }) D (ty_s cI cL cF) (xw_ h th) (ca_ h) [.ref (h + 2), .ref (h + o), .int (nI 5), .ref (h + a), .ref (h + b)] (kp_ D h cI cL cF I J sh fr en) (kp_ D h cI cL cF I (subJ_ (closeJ_ (copyJ_ J 3 b) 3 true) o a 3) sh fr en) := by
  refine aw_met (A := ca_ h) (own := "FamilyShelf$Algebra") (by decide) rfl rfl (Nat.le_of_ble_eq_true rfl) ?_
  intro p9 e s m args below meth c C hr hX hP0
  refine aw_lw (lw' := [some (.ref (h + 2)), some (.ref (h + o)), some (.int (nI 5)), some (.ref (h + a)), some (.ref (h + b))]) rfl ?_
  refine aw_iload_n C dc_A_combineInto_0 rfl ?_
  refine aw_tableIn C dc_A_combineInto_1 (by decide) (by decide) (off := 98) (by decide) (tgt := 99) (by decide) ?_
  refine aw_aload_n C dc_A_combineInto_99 rfl ?_
  refine aw_get C (fun w h => List.mem_cons_of_mem _ (ly_A w h)) 2 sy_p2 rfl 0 (by decide) (C.1.2.2.2.2 _ (List.mem_cons_of_mem _ kw_53)) (fun _ h => h) rfl dc_A_combineInto_100 ?_
  refine aw_aload C dc_A_combineInto_103 rfl ?_
  refine kc_v (fun _ h => h) (fun _ h => h) (kc_V (n := 1) C hX (xw_k ca_le) rfl 3 (sy_fam (by decide)) rfl (f_copyFrom l D h th cI cL cF I J sh fr en 3 (by decide) b hb) kw_362 kw_359 kw_360 kw_361 kw_3 rfl (by unfold kd_; decide) ⟨rfl, rfl, by decide, by decide⟩ rfl rfl (Nat.le_of_ble_eq_true rfl) ⟨Nat.zero_le _, Nat.zero_le _⟩ dc_A_combineInto_105) ?_
  refine aw_aload_n C dc_A_combineInto_108 rfl ?_
  refine aw_get C (fun w h => List.mem_cons_of_mem _ (ly_A w h)) 2 sy_p2 rfl 0 (by decide) (C.1.2.2.2.2 _ (List.mem_cons_of_mem _ kw_53)) (fun _ h => h) rfl dc_A_combineInto_109 ?_
  refine aw_iload_n C dc_A_combineInto_112 rfl ?_
  refine aw_iconst C dc_A_combineInto_113 (v := nI 5) rfl ?_
  refine aw_icmp_ne C dc_A_combineInto_114 (tgt := 121) (by decide) (fun h9 => absurd (rfl) h9) (fun _ => ?_)
  refine aw_iconst C dc_A_combineInto_117 (v := nI 1) rfl ?_
  refine aw_goto C dc_A_combineInto_118 (tgt := 122) (by decide) ?_
  refine kc_v (fun _ h => h) (fun _ h => h) (kc_V (n := 1) C hX (xw_k ca_le) rfl 3 (sy_fam (by decide)) rfl (f_close l D h th cI cL cF I (copyJ_ J 3 b) sh fr en 3 (by decide) true) kw_369 kw_366 kw_367 kw_368 kw_3 rfl (by unfold kd_; decide) ⟨rfl, rfl, by decide, by decide⟩ rfl rfl (Nat.le_of_ble_eq_true rfl) ⟨Nat.zero_le _, Nat.zero_le _⟩ dc_A_combineInto_122) ?_
  refine aw_aload_n C dc_A_combineInto_125 rfl ?_
  refine aw_aload_n C dc_A_combineInto_126 rfl ?_
  refine aw_aload_n C dc_A_combineInto_127 rfl ?_
  refine aw_get C (fun w h => List.mem_cons_of_mem _ (ly_A w h)) 2 sy_p2 rfl 0 (by decide) (C.1.2.2.2.2 _ (List.mem_cons_of_mem _ kw_53)) (fun _ h => h) rfl dc_A_combineInto_128 ?_
  refine kc_v (fun _ h => h) (fun _ h => h) (kc_S (n := 3) C hX (xw_k ca_le) (a_subtract l D h th cI cL cF I (closeJ_ (copyJ_ J 3 b) 3 true) sh fr en o ho a ha hao 3 (by decide) (fun h9 => ho3 h9.symm)) kw_331 kw_329 kw_330 kw_2 (by unfold kd_; decide) ⟨rfl, rfl, by decide, by decide⟩ rfl rfl (Nat.le_of_ble_eq_true rfl) ⟨Nat.zero_le _, Nat.zero_le _⟩ dc_A_combineInto_131) ?_
  refine aw_goto C dc_A_combineInto_134 (tgt := 181) (by decide) ?_
  exact kc_vret C hr (fun _ h => h) dc_A_combineInto_181
set_option maxHeartbeats 4000000 in
set_option maxRecDepth 100000 in
theorem a_comb6 (l : Launch) (D : va_G) (h th : Nat) (cI cL cF : ClassId) (I : Nat → Nat → Int32) (J : Nat → Nat → Int64) (sh : Nat → Nat) (fr : Nat) (en : Int32) (o : Nat) (ho : fo_ o = true) (a : Nat) (ha : fo_ a = true) (hao : a ≠ o) (b : Nat) (hb : fo_ b = true) (hbo : b ≠ o) (ho3 : o ≠ 3) (ho5 : o ≠ 5) (ha3 : a ≠ 3) (ha5 : a ≠ 5) (hb3 : b ≠ 3) (hb5 : b ≠ 5) : kv_ l my_A_combineInto (Cond.code my_A_combineInto bc_A_combineInto 5 none :: tw_) ({ frames := 5, cells := 0, slots := 0, locals := 113 }) D (ty_s cI cL cF) (xw_ h th) (ca_ h) [.ref (h + 2), .ref (h + o), .int (nI 6), .ref (h + a), .ref (h + b)] (kp_ D h cI cL cF I J sh fr en) (kp_ D h cI cL cF I (subJ_ (closeJ_ (copyJ_ J 3 b) 3 false) o a 3) sh fr en) := by
  refine aw_met (A := ca_ h) (own := "FamilyShelf$Algebra") (by decide) rfl rfl (Nat.le_of_ble_eq_true rfl) ?_
  intro p9 e s m args below meth c C hr hX hP0
  refine aw_lw (lw' := [some (.ref (h + 2)), some (.ref (h + o)), some (.int (nI 6)), some (.ref (h + a)), some (.ref (h + b))]) rfl ?_
  refine aw_iload_n C dc_A_combineInto_0 rfl ?_
  refine aw_tableIn C dc_A_combineInto_1 (by decide) (by decide) (off := 98) (by decide) (tgt := 99) (by decide) ?_
  refine aw_aload_n C dc_A_combineInto_99 rfl ?_
  refine aw_get C (fun w h => List.mem_cons_of_mem _ (ly_A w h)) 2 sy_p2 rfl 0 (by decide) (C.1.2.2.2.2 _ (List.mem_cons_of_mem _ kw_53)) (fun _ h => h) rfl dc_A_combineInto_100 ?_
  refine aw_aload C dc_A_combineInto_103 rfl ?_
  refine kc_v (fun _ h => h) (fun _ h => h) (kc_V (n := 1) C hX (xw_k ca_le) rfl 3 (sy_fam (by decide)) rfl (f_copyFrom l D h th cI cL cF I J sh fr en 3 (by decide) b hb) kw_362 kw_359 kw_360 kw_361 kw_3 rfl (by unfold kd_; decide) ⟨rfl, rfl, by decide, by decide⟩ rfl rfl (Nat.le_of_ble_eq_true rfl) ⟨Nat.zero_le _, Nat.zero_le _⟩ dc_A_combineInto_105) ?_
  refine aw_aload_n C dc_A_combineInto_108 rfl ?_
  refine aw_get C (fun w h => List.mem_cons_of_mem _ (ly_A w h)) 2 sy_p2 rfl 0 (by decide) (C.1.2.2.2.2 _ (List.mem_cons_of_mem _ kw_53)) (fun _ h => h) rfl dc_A_combineInto_109 ?_
  refine aw_iload_n C dc_A_combineInto_112 rfl ?_
  refine aw_iconst C dc_A_combineInto_113 (v := nI 5) rfl ?_
  refine aw_icmp_ne C dc_A_combineInto_114 (tgt := 121) (by decide) (fun _ => ?_) (fun h9 => absurd h9 (by decide))
  refine aw_iconst C dc_A_combineInto_121 (v := nI 0) rfl ?_
  refine kc_v (fun _ h => h) (fun _ h => h) (kc_V (n := 1) C hX (xw_k ca_le) rfl 3 (sy_fam (by decide)) rfl (f_close l D h th cI cL cF I (copyJ_ J 3 b) sh fr en 3 (by decide) false) kw_369 kw_366 kw_367 kw_368 kw_3 rfl (by unfold kd_; decide) ⟨rfl, rfl, by decide, by decide⟩ rfl rfl (Nat.le_of_ble_eq_true rfl) ⟨Nat.zero_le _, Nat.zero_le _⟩ dc_A_combineInto_122) ?_
  refine aw_aload_n C dc_A_combineInto_125 rfl ?_
  refine aw_aload_n C dc_A_combineInto_126 rfl ?_
  refine aw_aload_n C dc_A_combineInto_127 rfl ?_
  refine aw_get C (fun w h => List.mem_cons_of_mem _ (ly_A w h)) 2 sy_p2 rfl 0 (by decide) (C.1.2.2.2.2 _ (List.mem_cons_of_mem _ kw_53)) (fun _ h => h) rfl dc_A_combineInto_128 ?_
  refine kc_v (fun _ h => h) (fun _ h => h) (kc_S (n := 3) C hX (xw_k ca_le) (a_subtract l D h th cI cL cF I (closeJ_ (copyJ_ J 3 b) 3 false) sh fr en o ho a ha hao 3 (by decide) (fun h9 => ho3 h9.symm)) kw_331 kw_329 kw_330 kw_2 (by unfold kd_; decide) ⟨rfl, rfl, by decide, by decide⟩ rfl rfl (Nat.le_of_ble_eq_true rfl) ⟨Nat.zero_le _, Nat.zero_le _⟩ dc_A_combineInto_131) ?_
  refine aw_goto C dc_A_combineInto_134 (tgt := 181) (by decide) ?_
  exact kc_vret C hr (fun _ h => h) dc_A_combineInto_181
set_option maxHeartbeats 4000000 in
set_option maxRecDepth 100000 in
theorem a_comb7 (l : Launch) (D : va_G) (h th : Nat) (cI cL cF : ClassId) (I : Nat → Nat → Int32) (J : Nat → Nat → Int64) (sh : Nat → Nat) (fr : Nat) (en : Int32) (o : Nat) (ho : fo_ o = true) (a : Nat) (ha : fo_ a = true) (hao : a ≠ o) (b : Nat) (hb : fo_ b = true) (hbo : b ≠ o) (ho3 : o ≠ 3) (ho5 : o ≠ 5) (ha3 : a ≠ 3) (ha5 : a ≠ 5) (hb3 : b ≠ 3) (hb5 : b ≠ 5) : kv_ l my_A_combineInto (Cond.code my_A_combineInto bc_A_combineInto 5 none :: tw_) ({ frames := 5, cells := 0, slots := 0, locals := 113 }) D (ty_s cI cL cF) (xw_ h th) (ca_ h) [.ref (h + 2), .ref (h + o), .int (nI 7), .ref (h + a), .ref (h + b)] (kp_ D h cI cL cF I J sh fr en) (kp_ D h cI cL cF I (divJ_ J o a b) sh fr en) := by
  refine aw_met (A := ca_ h) (own := "FamilyShelf$Algebra") (by decide) rfl rfl (Nat.le_of_ble_eq_true rfl) ?_
  intro p9 e s m args below meth c C hr hX hP0
  refine aw_lw (lw' := [some (.ref (h + 2)), some (.ref (h + o)), some (.int (nI 7)), some (.ref (h + a)), some (.ref (h + b))]) rfl ?_
  refine aw_iload_n C dc_A_combineInto_0 rfl ?_
  refine aw_tableIn C dc_A_combineInto_1 (by decide) (by decide) (off := 136) (by decide) (tgt := 137) (by decide) ?_
  refine aw_aload_n C dc_A_combineInto_137 rfl ?_
  refine aw_aload_n C dc_A_combineInto_138 rfl ?_
  refine aw_aload C dc_A_combineInto_139 rfl ?_
  refine kc_v (fun _ h => h) (fun _ h => h) (kc_S (n := 3) C hX (xw_k ca_le) (a_divide l D h th cI cL cF I J sh fr en o ho a ha hao b hb hbo) kw_393 kw_391 kw_392 kw_2 (by unfold kd_; decide) ⟨rfl, rfl, by decide, by decide⟩ rfl rfl (Nat.le_of_ble_eq_true rfl) ⟨Nat.zero_le _, Nat.zero_le _⟩ dc_A_combineInto_141) ?_
  refine aw_goto C dc_A_combineInto_144 (tgt := 181) (by decide) ?_
  exact kc_vret C hr (fun _ h => h) dc_A_combineInto_181
set_option maxHeartbeats 4000000 in
set_option maxRecDepth 100000 in
theorem a_comb8 (l : Launch) (D : va_G) (h th : Nat) (cI cL cF : ClassId) (I : Nat → Nat → Int32) (J : Nat → Nat → Int64) (sh : Nat → Nat) (fr : Nat) (en : Int32) (o : Nat) (ho : fo_ o = true) (a : Nat) (ha : fo_ a = true) (hao : a ≠ o) (b : Nat) (hb : fo_ b = true) (hbo : b ≠ o) (ho3 : o ≠ 3) (ho5 : o ≠ 5) (ha3 : a ≠ 3) (ha5 : a ≠ 5) (hb3 : b ≠ 3) (hb5 : b ≠ 5) : kv_ l my_A_combineInto (Cond.code my_A_combineInto bc_A_combineInto 5 none :: tw_) ({ frames := 5, cells := 0, slots := 0, locals := 113 }) D (ty_s cI cL cF) (xw_ h th) (ca_ h) [.ref (h + 2), .ref (h + o), .int (nI 8), .ref (h + a), .ref (h + b)] (kp_ D h cI cL cF I J sh fr en) (kp_ D h cI cL cF I (subJ_ (pairJ_ (divJ_ J 5 a b) 3 5 b true) o a 3) sh fr en) := by
  refine aw_met (A := ca_ h) (own := "FamilyShelf$Algebra") (by decide) rfl rfl (Nat.le_of_ble_eq_true rfl) ?_
  intro p9 e s m args below meth c C hr hX hP0
  refine aw_lw (lw' := [some (.ref (h + 2)), some (.ref (h + o)), some (.int (nI 8)), some (.ref (h + a)), some (.ref (h + b))]) rfl ?_
  refine aw_iload_n C dc_A_combineInto_0 rfl ?_
  refine aw_tableOut C dc_A_combineInto_1 (by decide) (tgt := 147) (by decide) ?_
  refine aw_aload_n C dc_A_combineInto_147 rfl ?_
  refine aw_get C (fun w h => List.mem_cons_of_mem _ (ly_A w h)) 2 sy_p2 rfl 1 (by decide) (C.1.2.2.2.2 _ (List.mem_cons_of_mem _ kw_54)) (fun _ h => h) rfl dc_A_combineInto_148 ?_
  refine aw_aload_n C dc_A_combineInto_151 rfl ?_
  refine aw_aload C dc_A_combineInto_152 rfl ?_
  refine kc_v (fun _ h => h) (fun _ h => h) (kc_S (n := 3) C hX (xw_k ca_le) (a_divide l D h th cI cL cF I J sh fr en 5 (by decide) a ha ha5 b hb hb5) kw_393 kw_391 kw_392 kw_2 (by unfold kd_; decide) ⟨rfl, rfl, by decide, by decide⟩ rfl rfl (Nat.le_of_ble_eq_true rfl) ⟨Nat.zero_le _, Nat.zero_le _⟩ dc_A_combineInto_154) ?_
  refine aw_aload_n C dc_A_combineInto_157 rfl ?_
  refine aw_aload_n C dc_A_combineInto_158 rfl ?_
  refine aw_get C (fun w h => List.mem_cons_of_mem _ (ly_A w h)) 2 sy_p2 rfl 0 (by decide) (C.1.2.2.2.2 _ (List.mem_cons_of_mem _ kw_53)) (fun _ h => h) rfl dc_A_combineInto_159 ?_
  refine aw_aload_n C dc_A_combineInto_162 rfl ?_
  refine aw_get C (fun w h => List.mem_cons_of_mem _ (ly_A w h)) 2 sy_p2 rfl 1 (by decide) (C.1.2.2.2.2 _ (List.mem_cons_of_mem _ kw_54)) (fun _ h => h) rfl dc_A_combineInto_163 ?_
  refine aw_aload C dc_A_combineInto_166 rfl ?_
  refine aw_iconst C dc_A_combineInto_168 (v := nI 1) rfl ?_
  refine kc_v (fun _ h => h) (fun _ h => h) (kc_V (n := 4) C hX (xw_k ca_le) rfl 2 sy_p2 rfl (a_pair l D h th cI cL cF I (divJ_ J 5 a b) sh fr en 3 (by decide) 5 (by decide) (by decide) b hb hb3 true) kw_336 kw_333 kw_335 (tw_sel (q := (my_A_pair, 4)) (by decide +kernel)) kw_2 rfl (by unfold kd_; decide) ⟨rfl, rfl, by decide, by decide⟩ rfl rfl (Nat.le_of_ble_eq_true rfl) ⟨Nat.zero_le _, Nat.zero_le _⟩ dc_A_combineInto_169) ?_
  refine aw_aload_n C dc_A_combineInto_172 rfl ?_
  refine aw_aload_n C dc_A_combineInto_173 rfl ?_
  refine aw_aload_n C dc_A_combineInto_174 rfl ?_
  refine aw_get C (fun w h => List.mem_cons_of_mem _ (ly_A w h)) 2 sy_p2 rfl 0 (by decide) (C.1.2.2.2.2 _ (List.mem_cons_of_mem _ kw_53)) (fun _ h => h) rfl dc_A_combineInto_175 ?_
  refine kc_v (fun _ h => h) (fun _ h => h) (kc_S (n := 3) C hX (xw_k ca_le) (a_subtract l D h th cI cL cF I (pairJ_ (divJ_ J 5 a b) 3 5 b true) sh fr en o ho a ha hao 3 (by decide) (fun h9 => ho3 h9.symm)) kw_331 kw_329 kw_330 kw_2 (by unfold kd_; decide) ⟨rfl, rfl, by decide, by decide⟩ rfl rfl (Nat.le_of_ble_eq_true rfl) ⟨Nat.zero_le _, Nat.zero_le _⟩ dc_A_combineInto_178) ?_
  exact kc_vret C hr (fun _ h => h) dc_A_combineInto_181
/-! Which cells speak of the shelves, of the new family, of the diagram's end. -/
theorem sc_en {h : Nat} {cI cL cF : ClassId} {I : Nat → Nat → Int32} {J : Nat → Nat → Int64} {sh : Nat → Nat} {fr : Nat} {en : Int32} {en' : Int32} : ∀ j, j < 42 → j ≠ 15 → sc_ h cI cL cF I J sh fr en' j = sc_ h cI cL cF I J sh fr en j := by
  intro j hj hk
  match j, hj, hk with
  | 0, _, _ => rfl
  | 1, _, _ => rfl
  | 2, _, _ => rfl
  | 3, _, _ => rfl
  | 4, _, _ => rfl
  | 5, _, _ => rfl
  | 6, _, _ => rfl
  | 7, _, _ => rfl
  | 8, _, _ => rfl
  | 9, _, _ => rfl
  | 10, _, _ => rfl
  | 11, _, _ => rfl
  | 12, _, _ => rfl
  | 13, _, _ => rfl
  | 14, _, _ => rfl
  | 16, _, _ => rfl
  | 17, _, _ => rfl
  | 18, _, _ => rfl
  | 19, _, _ => rfl
  | 20, _, _ => rfl
  | 21, _, _ => rfl
  | 22, _, _ => rfl
  | 23, _, _ => rfl
  | 24, _, _ => rfl
  | 25, _, _ => rfl
  | 26, _, _ => rfl
  | 27, _, _ => rfl
  | 28, _, _ => rfl
  | 29, _, _ => rfl
  | 30, _, _ => rfl
  | 31, _, _ => rfl
  | 32, _, _ => rfl
  | 33, _, _ => rfl
  | 34, _, _ => rfl
  | 35, _, _ => rfl
  | 36, _, _ => rfl
  | 37, _, _ => rfl
  | 38, _, _ => rfl
  | 39, _, _ => rfl
  | 40, _, _ => rfl
  | 41, _, _ => rfl
  | 15, _, h9 => exact absurd rfl h9
  | n + 42, h9, _ => exact absurd h9 (by omega)
theorem sy_seten {h : Nat} {cI cL cF : ClassId} {I : Nat → Nat → Int32} {J : Nat → Nat → Int64} {sh : Nat → Nat} {fr : Nat} {en : Int32} {en' : Int32} : (sy_ h cI cL cF I J sh fr en).set 15 (h + 15, .inr (1, [.ref (h + 16), .ref (h + 17), .ref (h + 18), .ref (h + 19), .int en'])) = sy_ h cI cL cF I J sh fr en' := sy_set (by decide) rfl sc_en
theorem sc_fr {h : Nat} {cI cL cF : ClassId} {I : Nat → Nat → Int32} {J : Nat → Nat → Int64} {sh : Nat → Nat} {fr : Nat} {en : Int32} {fr' : Nat} : ∀ j, j < 42 → j ≠ 0 → sc_ h cI cL cF I J sh fr' en j = sc_ h cI cL cF I J sh fr en j := by
  intro j hj hk
  match j, hj, hk with
  | 1, _, _ => rfl
  | 2, _, _ => rfl
  | 3, _, _ => rfl
  | 4, _, _ => rfl
  | 5, _, _ => rfl
  | 6, _, _ => rfl
  | 7, _, _ => rfl
  | 8, _, _ => rfl
  | 9, _, _ => rfl
  | 10, _, _ => rfl
  | 11, _, _ => rfl
  | 12, _, _ => rfl
  | 13, _, _ => rfl
  | 14, _, _ => rfl
  | 15, _, _ => rfl
  | 16, _, _ => rfl
  | 17, _, _ => rfl
  | 18, _, _ => rfl
  | 19, _, _ => rfl
  | 20, _, _ => rfl
  | 21, _, _ => rfl
  | 22, _, _ => rfl
  | 23, _, _ => rfl
  | 24, _, _ => rfl
  | 25, _, _ => rfl
  | 26, _, _ => rfl
  | 27, _, _ => rfl
  | 28, _, _ => rfl
  | 29, _, _ => rfl
  | 30, _, _ => rfl
  | 31, _, _ => rfl
  | 32, _, _ => rfl
  | 33, _, _ => rfl
  | 34, _, _ => rfl
  | 35, _, _ => rfl
  | 36, _, _ => rfl
  | 37, _, _ => rfl
  | 38, _, _ => rfl
  | 39, _, _ => rfl
  | 40, _, _ => rfl
  | 41, _, _ => rfl
  | 0, _, h9 => exact absurd rfl h9
  | n + 42, h9, _ => exact absurd h9 (by omega)
theorem sy_setfr {h : Nat} {cI cL cF : ClassId} {I : Nat → Nat → Int32} {J : Nat → Nat → Int64} {sh : Nat → Nat} {fr : Nat} {en : Int32} {fr' : Nat} : (sy_ h cI cL cF I J sh fr en).set 0 (h + 0, .inr (5, [.ref (h + 1), .ref (h + 2), .ref (h + 9), .ref (h + 11), .ref (h + 15), .ref (h + fr')])) = sy_ h cI cL cF I J sh fr' en := sy_set (by decide) rfl sc_fr
theorem sc_sh {h : Nat} {cI cL cF : ClassId} {I : Nat → Nat → Int32} {J : Nat → Nat → Int64} {sh : Nat → Nat} {fr : Nat} {en : Int32} {sh' : Nat → Nat} : ∀ j, j < 42 → j ≠ 1 → sc_ h cI cL cF I J sh' fr en j = sc_ h cI cL cF I J sh fr en j := by
  intro j hj hk
  match j, hj, hk with
  | 0, _, _ => rfl
  | 2, _, _ => rfl
  | 3, _, _ => rfl
  | 4, _, _ => rfl
  | 5, _, _ => rfl
  | 6, _, _ => rfl
  | 7, _, _ => rfl
  | 8, _, _ => rfl
  | 9, _, _ => rfl
  | 10, _, _ => rfl
  | 11, _, _ => rfl
  | 12, _, _ => rfl
  | 13, _, _ => rfl
  | 14, _, _ => rfl
  | 15, _, _ => rfl
  | 16, _, _ => rfl
  | 17, _, _ => rfl
  | 18, _, _ => rfl
  | 19, _, _ => rfl
  | 20, _, _ => rfl
  | 21, _, _ => rfl
  | 22, _, _ => rfl
  | 23, _, _ => rfl
  | 24, _, _ => rfl
  | 25, _, _ => rfl
  | 26, _, _ => rfl
  | 27, _, _ => rfl
  | 28, _, _ => rfl
  | 29, _, _ => rfl
  | 30, _, _ => rfl
  | 31, _, _ => rfl
  | 32, _, _ => rfl
  | 33, _, _ => rfl
  | 34, _, _ => rfl
  | 35, _, _ => rfl
  | 36, _, _ => rfl
  | 37, _, _ => rfl
  | 38, _, _ => rfl
  | 39, _, _ => rfl
  | 40, _, _ => rfl
  | 41, _, _ => rfl
  | 1, _, h9 => exact absurd rfl h9
  | n + 42, h9, _ => exact absurd h9 (by omega)
theorem sy_setsh {h : Nat} {cI cL cF : ClassId} {I : Nat → Nat → Int32} {J : Nat → Nat → Int64} {sh : Nat → Nat} {fr : Nat} {en : Int32} {sh' : Nat → Nat} : (sy_ h cI cL cF I J sh fr en).set 1 (h + 1, .inl (cF, 10, .inr (.inr (.inr (.inr (fun i => some (h + sh' i))))))) = sy_ h cI cL cF I J sh' fr en := sy_set (by decide) rfl sc_sh
