set_option maxHeartbeats 4000000 in
set_option maxRecDepth 100000 in
theorem f_holds (l : Launch) (D : va_G) (h th : Nat) (cI cL cF : ClassId) (I : Nat → Nat → Int32) (J : Nat → Nat → Int64) (sh : Nat → Nat) (fr : Nat) (en : Int32) (o : Nat) (ho : fo_ o = true) (p : Nat) (hp : p < 4096) : ki_ l my_F_holds (Cond.code my_F_holds bc_F_holds 2 (some .boolean) :: tw_) rm0 D (ty_s cI cL cF) (xw_ h th) (ca_ h) [.ref (h + o), .int (nI p)] (kp_ D h cI cL cF I J sh fr en) (kp_ D h cI cL cF I J sh fr en) (z1_ (fb_ (J (o + 1)) p)) := by
  refine aw_met (A := ca_ h) (own := "FamilyShelf$Family") (by decide) rfl rfl (Nat.le_of_ble_eq_true rfl) ?_
  intro p9 e s m args below meth c C hr hX hP0
  refine aw_lw (lw' := [some (.ref (h + o)), some (.int (nI p))]) rfl ?_
  refine aw_aload_n C dc_F_holds_0 rfl ?_
  refine aw_get C (fun w h => List.mem_cons_of_mem _ (ly_F w h)) o (sy_fam ho) rfl 0 (by decide) (C.1.2.2.2.2 _ (List.mem_cons_of_mem _ kw_41)) (fun _ h => h) rfl dc_F_holds_1 ?_
  refine aw_iload_n C dc_F_holds_4 rfl ?_
  refine aw_bipush C dc_F_holds_5 (v := nI 6) rfl ?_
  refine aw_ishr C dc_F_holds_7 ?_
  refine aw_lald C (o + 1) 1 (sy_words ho) rfl (p / 64) (np_hi hp) (by omega) (by decide) dc_F_holds_8 ?_
  refine aw_iload_n C dc_F_holds_9 rfl ?_
  refine aw_bipush C dc_F_holds_10 (v := nI 63) rfl ?_
  refine aw_iand C dc_F_holds_12 ?_
  refine aw_eqi (np_lo hp) ?_
  refine aw_lushr C dc_F_holds_13 ?_
  refine aw_lconst C dc_F_holds_14 (v := 1) rfl ?_
  refine aw_land C dc_F_holds_15 ?_
  refine aw_lconst C dc_F_holds_16 (v := 0) rfl ?_
  refine aw_lcmp C dc_F_holds_17 ?_
  refine aw_if_eq C dc_F_holds_18 (tgt := 25) (by decide) (fun hB18 => ?_) (fun hB18 => ?_)
  · have hb := (lb_test _ (by omega)).mp ((lg_cmp_eq _ _).mp hB18)
    refine aw_iconst C dc_F_holds_25 (v := nI 0) rfl ?_
    exact kc_zret C hr (by decide) (by unfold fb_; rw [hb]; rfl) (fun _ h => h) dc_F_holds_26
  · have hb : lb_ (J (o + 1) (p / 64)) (p % 64) = true := by
      cases h9 : lb_ (J (o + 1) (p / 64)) (p % 64)
      · exact absurd ((lg_cmp_eq _ _).mpr ((lb_test _ (by omega)).mpr h9)) hB18
      · rfl
    refine aw_iconst C dc_F_holds_21 (v := nI 1) rfl ?_
    refine aw_goto C dc_F_holds_22 (tgt := 26) (by decide) ?_
    exact kc_zret C hr (by decide) (by unfold fb_; rw [hb]; rfl) (fun _ h => h) dc_F_holds_26
set_option maxHeartbeats 4000000 in
set_option maxRecDepth 100000 in
theorem f_include (l : Launch) (D : va_G) (h th : Nat) (cI cL cF : ClassId) (I : Nat → Nat → Int32) (J : Nat → Nat → Int64) (sh : Nat → Nat) (fr : Nat) (en : Int32) (o : Nat) (ho : fo_ o = true) (p : Nat) (hp : p < 4096) : kv_ l my_F_include (Cond.code my_F_include bc_F_include 2 none :: tw_) rm0 D (ty_s cI cL cF) (xw_ h th) (ca_ h) [.ref (h + o), .int (nI p)] (kp_ D h cI cL cF I J sh fr en) (kp_ D h cI cL cF I (va_up J (o + 1) (vp_updL (J (o + 1)) (p / 64) (J (o + 1) (p / 64) ||| (1 : Int64) <<< ((nI (p % 64)).toInt64 &&& 63)))) sh fr en) := by
  refine aw_met (A := ca_ h) (own := "FamilyShelf$Family") (by decide) rfl rfl (Nat.le_of_ble_eq_true rfl) ?_
  intro p9 e s m args below meth c C hr hX hP0
  refine aw_lw (lw' := [some (.ref (h + o)), some (.int (nI p))]) rfl ?_
  refine aw_aload_n C dc_F_include_0 rfl ?_
  refine aw_get C (fun w h => List.mem_cons_of_mem _ (ly_F w h)) o (sy_fam ho) rfl 0 (by decide) (C.1.2.2.2.2 _ (List.mem_cons_of_mem _ kw_41)) (fun _ h => h) rfl dc_F_include_1 ?_
  refine aw_iload_n C dc_F_include_4 rfl ?_
  refine aw_bipush C dc_F_include_5 (v := nI 6) rfl ?_
  refine aw_ishr C dc_F_include_7 ?_
  refine aw_dup2_11 C dc_F_include_8 rfl rfl ?_
  refine aw_lald C (o + 1) 1 (sy_words ho) rfl (p / 64) (np_hi hp) (by omega) (by decide) dc_F_include_9 ?_
  refine aw_lconst C dc_F_include_10 (v := 1) rfl ?_
  refine aw_iload_n C dc_F_include_11 rfl ?_
  refine aw_bipush C dc_F_include_12 (v := nI 63) rfl ?_
  refine aw_iand C dc_F_include_14 ?_
  refine aw_eqi (np_lo hp) ?_
  refine aw_lshl C dc_F_include_15 ?_
  refine aw_lor C dc_F_include_16 ?_
  refine aw_last C sy_D (o + 1) 1 (sy_words ho) rfl (p / 64) (np_hi hp) (by omega) (by decide) (sy_setW ho _) dc_F_include_17 ?_
  exact kc_vret C hr (fun _ h => h) dc_F_include_18
set_option maxHeartbeats 4000000 in
set_option maxRecDepth 100000 in
theorem f_exclude (l : Launch) (D : va_G) (h th : Nat) (cI cL cF : ClassId) (I : Nat → Nat → Int32) (J : Nat → Nat → Int64) (sh : Nat → Nat) (fr : Nat) (en : Int32) (o : Nat) (ho : fo_ o = true) (p : Nat) (hp : p < 4096) : kv_ l my_F_exclude (Cond.code my_F_exclude bc_F_exclude 2 none :: tw_) rm0 D (ty_s cI cL cF) (xw_ h th) (ca_ h) [.ref (h + o), .int (nI p)] (kp_ D h cI cL cF I J sh fr en) (kp_ D h cI cL cF I (va_up J (o + 1) (vp_updL (J (o + 1)) (p / 64) (J (o + 1) (p / 64) &&& ((1 : Int64) <<< ((nI (p % 64)).toInt64 &&& 63) ^^^ (-1))))) sh fr en) := by
  refine aw_met (A := ca_ h) (own := "FamilyShelf$Family") (by decide) rfl rfl (Nat.le_of_ble_eq_true rfl) ?_
  intro p9 e s m args below meth c C hr hX hP0
  refine aw_lw (lw' := [some (.ref (h + o)), some (.int (nI p))]) rfl ?_
  refine aw_aload_n C dc_F_exclude_0 rfl ?_
  refine aw_get C (fun w h => List.mem_cons_of_mem _ (ly_F w h)) o (sy_fam ho) rfl 0 (by decide) (C.1.2.2.2.2 _ (List.mem_cons_of_mem _ kw_41)) (fun _ h => h) rfl dc_F_exclude_1 ?_
  refine aw_iload_n C dc_F_exclude_4 rfl ?_
  refine aw_bipush C dc_F_exclude_5 (v := nI 6) rfl ?_
  refine aw_ishr C dc_F_exclude_7 ?_
  refine aw_dup2_11 C dc_F_exclude_8 rfl rfl ?_
  refine aw_lald C (o + 1) 1 (sy_words ho) rfl (p / 64) (np_hi hp) (by omega) (by decide) dc_F_exclude_9 ?_
  refine aw_lconst C dc_F_exclude_10 (v := 1) rfl ?_
  refine aw_iload_n C dc_F_exclude_11 rfl ?_
  refine aw_bipush C dc_F_exclude_12 (v := nI 63) rfl ?_
  refine aw_iand C dc_F_exclude_14 ?_
  refine aw_eqi (np_lo hp) ?_
  refine aw_lshl C dc_F_exclude_15 ?_
  refine aw_ldc2 C (C.1.2.2.2.2 _ (List.mem_cons_of_mem _ kw_263)) dc_F_exclude_16 ?_
  refine aw_lxor C dc_F_exclude_19 ?_
  refine aw_land C dc_F_exclude_20 ?_
  refine aw_last C sy_D (o + 1) 1 (sy_words ho) rfl (p / 64) (np_hi hp) (by omega) (by decide) (sy_setW ho _) dc_F_exclude_21 ?_
  exact kc_vret C hr (fun _ h => h) dc_F_exclude_22
