set_option maxHeartbeats 4000000 in
set_option maxRecDepth 100000 in
theorem s_put (l : Launch) (D : va_G) (h th : Nat) (cI cL cF : ClassId) (I : Nat → Nat → Int32) (J : Nat → Nat → Int64) (sh : Nat → Nat) (fr : Nat) (en : Int32) (hs : shok_ sh fr) (i : Nat) (hi : i < 10) (n : Nat) (hn : n < 4096) : ki_ l my_S_put (Cond.code my_S_put bc_S_put 5 (some .boolean) :: tw_) ({ frames := 2, cells := 0, slots := 0, locals := 42 }) D (ty_s cI cL cF) (xw_ h th) (ca_ h) [.ref h, .int (nI i), .int (nI n)] (kp_ D h cI cL cF I J sh fr en) (kp_ D h cI cL cF I (va_up J (sh i + 1) (inc_ (J (sh i + 1)) (mr_ n 12))) sh fr en) (z1_ (!fb_ (J (sh i + 1)) (mr_ n 12))) := by
  refine aw_met (A := ca_ h) (own := "FamilyShelf") (by decide) rfl rfl (Nat.le_of_ble_eq_true rfl) ?_
  intro p9 e s m args below meth c C hr hX hP0
  refine aw_lw (lw' := [some (.ref h), some (.int (nI i)), some (.int (nI n)), none, none]) rfl ?_
  refine aw_iload_n C dc_S_put_0 rfl ?_
  refine kc_v (fun _ h => h) (fun _ h => h) (kc_S (n := 1) C hX (xw_k ca_le) (s_checkShelf l D _ _ _ _ i hi) kw_146 kw_144 kw_145 kw_1 (by unfold kd_; decide) ⟨rfl, rfl, by decide, by decide⟩ rfl rfl (Nat.le_of_ble_eq_true rfl) ⟨Nat.zero_le _, Nat.zero_le _⟩ dc_S_put_1) ?_
  refine aw_iload_n C dc_S_put_4 rfl ?_
  refine kc_v (fun _ h => h) (fun _ h => h) (kc_S (n := 1) C hX (xw_k ca_le) (s_checkSet l D _ _ _ _ (xw_k ca_le) n hn) kw_218 kw_216 kw_217 kw_1 (by unfold kd_; decide) ⟨rfl, rfl, by decide, by decide⟩ rfl rfl (Nat.le_of_ble_eq_true rfl) ⟨Nat.zero_le _, Nat.zero_le _⟩ dc_S_put_5) ?_
  refine aw_iload_n C dc_S_put_8 rfl ?_
  refine kc_i (fun _ h => h) (fun _ h => h) (kc_S (n := 1) C hX (xw_k ca_le) (s_mirrored l D _ _ _ _ (xw_k ca_le) n hn) kw_240 kw_238 kw_239 kw_1 (by unfold kd_; decide) ⟨rfl, rfl, by decide, by decide⟩ rfl rfl (Nat.le_of_ble_eq_true rfl) ⟨Nat.zero_le _, Nat.zero_le _⟩ dc_S_put_9) ?_
  refine aw_istore_n C dc_S_put_12 (by decide) rfl ?_
  refine aw_aload_n C dc_S_put_13 rfl ?_
  refine aw_get C (fun w h => List.mem_cons_of_mem _ (ly_S w h)) 0 sy_p0 rfl 0 (by decide) (C.1.2.2.2.2 _ (List.mem_cons_of_mem _ kw_116)) (fun _ h => h) rfl dc_S_put_14 ?_
  refine aw_iload_n C dc_S_put_17 rfl ?_
  refine aw_aald C 1 2 sy_p1 rfl i rfl hi (by decide) (y := h + sh i) rfl dc_S_put_18 ?_
  refine aw_iload_n C dc_S_put_19 rfl ?_
  refine kc_i (fun _ h => h) (fun _ h => h) (kc_V (n := 1) C hX (xw_k ca_le) rfl (sh i) (sy_fam (hs.2.2.2 i hi).1) rfl (f_holds l D h th cI cL cF I J sh fr en (sh i) (hs.2.2.2 i hi).1 (mr_ n 12) (mr_lt n (Nat.le_refl _))) kw_247 kw_244 kw_245 kw_246 kw_3 rfl (by unfold kd_; decide) ⟨rfl, rfl, by decide, by decide⟩ rfl rfl (Nat.le_of_ble_eq_true rfl) ⟨Nat.zero_le _, Nat.zero_le _⟩ dc_S_put_20) ?_
  refine aw_if_ne C dc_S_put_23 (tgt := 30) (by decide) (fun hB23 => ?_) (fun hB23 => ?_)
  · have e9 : nI 0 = z1_ (!fb_ (J (sh i + 1)) (mr_ n 12)) := by
      cases h9 : fb_ (J (sh i + 1)) (mr_ n 12)
      · rw [h9] at hB23; exact absurd rfl hB23
      · rfl
    refine aw_iconst C dc_S_put_30 (v := nI 0) rfl ?_
    refine aw_istore C dc_S_put_31 (by decide) rfl ?_
    refine aw_aload_n C dc_S_put_33 rfl ?_
    refine aw_get C (fun w h => List.mem_cons_of_mem _ (ly_S w h)) 0 sy_p0 rfl 0 (by decide) (C.1.2.2.2.2 _ (List.mem_cons_of_mem _ kw_116)) (fun _ h => h) rfl dc_S_put_34 ?_
    refine aw_iload_n C dc_S_put_37 rfl ?_
    refine aw_aald C 1 2 sy_p1 rfl i rfl hi (by decide) (y := h + sh i) rfl dc_S_put_38 ?_
    refine aw_iload_n C dc_S_put_39 rfl ?_
    refine kc_v (fun _ h => h) (fun _ h => h) (kc_V (n := 1) C hX (xw_k ca_le) rfl (sh i) (sy_fam (hs.2.2.2 i hi).1) rfl (f_include l D h th cI cL cF I J sh fr en (sh i) (hs.2.2.2 i hi).1 (mr_ n 12) (mr_lt n (Nat.le_refl _))) kw_251 kw_248 kw_249 kw_250 kw_3 rfl (by unfold kd_; decide) ⟨rfl, rfl, by decide, by decide⟩ rfl rfl (Nat.le_of_ble_eq_true rfl) ⟨Nat.zero_le _, Nat.zero_le _⟩ dc_S_put_40) ?_
    refine aw_iload C dc_S_put_43 rfl ?_
    exact kc_zret C hr (by decide) e9 (fun _ h => h) dc_S_put_45
  · have e9 : nI 1 = z1_ (!fb_ (J (sh i + 1)) (mr_ n 12)) := by
      cases h9 : fb_ (J (sh i + 1)) (mr_ n 12)
      · rfl
      · rw [h9] at hB23; exact absurd hB23 (by decide)
    refine aw_iconst C dc_S_put_26 (v := nI 1) rfl ?_
    refine aw_goto C dc_S_put_27 (tgt := 31) (by decide) ?_
    refine aw_istore C dc_S_put_31 (by decide) rfl ?_
    refine aw_aload_n C dc_S_put_33 rfl ?_
    refine aw_get C (fun w h => List.mem_cons_of_mem _ (ly_S w h)) 0 sy_p0 rfl 0 (by decide) (C.1.2.2.2.2 _ (List.mem_cons_of_mem _ kw_116)) (fun _ h => h) rfl dc_S_put_34 ?_
    refine aw_iload_n C dc_S_put_37 rfl ?_
    refine aw_aald C 1 2 sy_p1 rfl i rfl hi (by decide) (y := h + sh i) rfl dc_S_put_38 ?_
    refine aw_iload_n C dc_S_put_39 rfl ?_
    refine kc_v (fun _ h => h) (fun _ h => h) (kc_V (n := 1) C hX (xw_k ca_le) rfl (sh i) (sy_fam (hs.2.2.2 i hi).1) rfl (f_include l D h th cI cL cF I J sh fr en (sh i) (hs.2.2.2 i hi).1 (mr_ n 12) (mr_lt n (Nat.le_refl _))) kw_251 kw_248 kw_249 kw_250 kw_3 rfl (by unfold kd_; decide) ⟨rfl, rfl, by decide, by decide⟩ rfl rfl (Nat.le_of_ble_eq_true rfl) ⟨Nat.zero_le _, Nat.zero_le _⟩ dc_S_put_40) ?_
    refine aw_iload C dc_S_put_43 rfl ?_
    exact kc_zret C hr (by decide) e9 (fun _ h => h) dc_S_put_45
set_option maxHeartbeats 4000000 in
set_option maxRecDepth 100000 in
theorem s_take (l : Launch) (D : va_G) (h th : Nat) (cI cL cF : ClassId) (I : Nat → Nat → Int32) (J : Nat → Nat → Int64) (sh : Nat → Nat) (fr : Nat) (en : Int32) (hs : shok_ sh fr) (i : Nat) (hi : i < 10) (n : Nat) (hn : n < 4096) : ki_ l my_S_take (Cond.code my_S_take bc_S_take 5 (some .boolean) :: tw_) ({ frames := 2, cells := 0, slots := 0, locals := 42 }) D (ty_s cI cL cF) (xw_ h th) (ca_ h) [.ref h, .int (nI i), .int (nI n)] (kp_ D h cI cL cF I J sh fr en) (kp_ D h cI cL cF I (va_up J (sh i + 1) (exc_ (J (sh i + 1)) (mr_ n 12))) sh fr en) (z1_ (fb_ (J (sh i + 1)) (mr_ n 12))) := by
  refine aw_met (A := ca_ h) (own := "FamilyShelf") (by decide) rfl rfl (Nat.le_of_ble_eq_true rfl) ?_
  intro p9 e s m args below meth c C hr hX hP0
  refine aw_lw (lw' := [some (.ref h), some (.int (nI i)), some (.int (nI n)), none, none]) rfl ?_
  refine aw_iload_n C dc_S_take_0 rfl ?_
  refine kc_v (fun _ h => h) (fun _ h => h) (kc_S (n := 1) C hX (xw_k ca_le) (s_checkShelf l D _ _ _ _ i hi) kw_146 kw_144 kw_145 kw_1 (by unfold kd_; decide) ⟨rfl, rfl, by decide, by decide⟩ rfl rfl (Nat.le_of_ble_eq_true rfl) ⟨Nat.zero_le _, Nat.zero_le _⟩ dc_S_take_1) ?_
  refine aw_iload_n C dc_S_take_4 rfl ?_
  refine kc_v (fun _ h => h) (fun _ h => h) (kc_S (n := 1) C hX (xw_k ca_le) (s_checkSet l D _ _ _ _ (xw_k ca_le) n hn) kw_218 kw_216 kw_217 kw_1 (by unfold kd_; decide) ⟨rfl, rfl, by decide, by decide⟩ rfl rfl (Nat.le_of_ble_eq_true rfl) ⟨Nat.zero_le _, Nat.zero_le _⟩ dc_S_take_5) ?_
  refine aw_iload_n C dc_S_take_8 rfl ?_
  refine kc_i (fun _ h => h) (fun _ h => h) (kc_S (n := 1) C hX (xw_k ca_le) (s_mirrored l D _ _ _ _ (xw_k ca_le) n hn) kw_240 kw_238 kw_239 kw_1 (by unfold kd_; decide) ⟨rfl, rfl, by decide, by decide⟩ rfl rfl (Nat.le_of_ble_eq_true rfl) ⟨Nat.zero_le _, Nat.zero_le _⟩ dc_S_take_9) ?_
  refine aw_istore_n C dc_S_take_12 (by decide) rfl ?_
  refine aw_aload_n C dc_S_take_13 rfl ?_
  refine aw_get C (fun w h => List.mem_cons_of_mem _ (ly_S w h)) 0 sy_p0 rfl 0 (by decide) (C.1.2.2.2.2 _ (List.mem_cons_of_mem _ kw_116)) (fun _ h => h) rfl dc_S_take_14 ?_
  refine aw_iload_n C dc_S_take_17 rfl ?_
  refine aw_aald C 1 2 sy_p1 rfl i rfl hi (by decide) (y := h + sh i) rfl dc_S_take_18 ?_
  refine aw_iload_n C dc_S_take_19 rfl ?_
  refine kc_i (fun _ h => h) (fun _ h => h) (kc_V (n := 1) C hX (xw_k ca_le) rfl (sh i) (sy_fam (hs.2.2.2 i hi).1) rfl (f_holds l D h th cI cL cF I J sh fr en (sh i) (hs.2.2.2 i hi).1 (mr_ n 12) (mr_lt n (Nat.le_refl _))) kw_247 kw_244 kw_245 kw_246 kw_3 rfl (by unfold kd_; decide) ⟨rfl, rfl, by decide, by decide⟩ rfl rfl (Nat.le_of_ble_eq_true rfl) ⟨Nat.zero_le _, Nat.zero_le _⟩ dc_S_take_20) ?_
  refine aw_istore C dc_S_take_23 (by decide) rfl ?_
  refine aw_aload_n C dc_S_take_25 rfl ?_
  refine aw_get C (fun w h => List.mem_cons_of_mem _ (ly_S w h)) 0 sy_p0 rfl 0 (by decide) (C.1.2.2.2.2 _ (List.mem_cons_of_mem _ kw_116)) (fun _ h => h) rfl dc_S_take_26 ?_
  refine aw_iload_n C dc_S_take_29 rfl ?_
  refine aw_aald C 1 2 sy_p1 rfl i rfl hi (by decide) (y := h + sh i) rfl dc_S_take_30 ?_
  refine aw_iload_n C dc_S_take_31 rfl ?_
  refine kc_v (fun _ h => h) (fun _ h => h) (kc_V (n := 1) C hX (xw_k ca_le) rfl (sh i) (sy_fam (hs.2.2.2 i hi).1) rfl (f_exclude l D h th cI cL cF I J sh fr en (sh i) (hs.2.2.2 i hi).1 (mr_ n 12) (mr_lt n (Nat.le_refl _))) kw_262 kw_259 kw_260 kw_261 kw_3 rfl (by unfold kd_; decide) ⟨rfl, rfl, by decide, by decide⟩ rfl rfl (Nat.le_of_ble_eq_true rfl) ⟨Nat.zero_le _, Nat.zero_le _⟩ dc_S_take_32) ?_
  refine aw_iload C dc_S_take_35 rfl ?_
  exact kc_zret C hr (z1_01 _) rfl (fun _ h => h) dc_S_take_37
set_option maxHeartbeats 4000000 in
set_option maxRecDepth 100000 in
theorem s_clear (l : Launch) (D : va_G) (h th : Nat) (cI cL cF : ClassId) (I : Nat → Nat → Int32) (J : Nat → Nat → Int64) (sh : Nat → Nat) (fr : Nat) (en : Int32) (hs : shok_ sh fr) (i : Nat) (hi : i < 10) : ki_ l my_S_clear (Cond.code my_S_clear bc_S_clear 3 (some .int) :: tw_) ({ frames := 3, cells := 0, slots := 0, locals := 64 }) D (ty_s cI cL cF) (xw_ h th) (ca_ h) [.ref h, .int (nI i)] (kp_ D h cI cL cF I J sh fr en) (kp_ D h cI cL cF I (fillJ_ J (sh i) 0) sh fr en) (nI (tw64_ (J (sh i + 1)) 64)) := by
  refine aw_met (A := ca_ h) (own := "FamilyShelf") (by decide) rfl rfl (Nat.le_of_ble_eq_true rfl) ?_
  intro p9 e s m args below meth c C hr hX hP0
  refine aw_lw (lw' := [some (.ref h), some (.int (nI i)), none]) rfl ?_
  refine aw_iload_n C dc_S_clear_0 rfl ?_
  refine kc_v (fun _ h => h) (fun _ h => h) (kc_S (n := 1) C hX (xw_k ca_le) (s_checkShelf l D _ _ _ _ i hi) kw_146 kw_144 kw_145 kw_1 (by unfold kd_; decide) ⟨rfl, rfl, by decide, by decide⟩ rfl rfl (Nat.le_of_ble_eq_true rfl) ⟨Nat.zero_le _, Nat.zero_le _⟩ dc_S_clear_1) ?_
  refine aw_aload_n C dc_S_clear_4 rfl ?_
  refine aw_get C (fun w h => List.mem_cons_of_mem _ (ly_S w h)) 0 sy_p0 rfl 0 (by decide) (C.1.2.2.2.2 _ (List.mem_cons_of_mem _ kw_116)) (fun _ h => h) rfl dc_S_clear_5 ?_
  refine aw_iload_n C dc_S_clear_8 rfl ?_
  refine aw_aald C 1 2 sy_p1 rfl i rfl hi (by decide) (y := h + sh i) rfl dc_S_clear_9 ?_
  refine kc_i (fun _ h => h) (fun _ h => h) (kc_V (n := 0) C hX (xw_k ca_le) rfl (sh i) (sy_fam (hs.2.2.2 i hi).1) rfl (f_total l D h th cI cL cF I J sh fr en (sh i) (hs.2.2.2 i hi).1) kw_274 kw_271 kw_272 kw_273 kw_3 rfl (by unfold kd_; decide) ⟨rfl, rfl, by decide, by decide⟩ rfl rfl (Nat.le_of_ble_eq_true rfl) ⟨Nat.zero_le _, Nat.zero_le _⟩ dc_S_clear_10) ?_
  refine aw_istore_n C dc_S_clear_13 (by decide) rfl ?_
  refine aw_aload_n C dc_S_clear_14 rfl ?_
  refine aw_get C (fun w h => List.mem_cons_of_mem _ (ly_S w h)) 0 sy_p0 rfl 0 (by decide) (C.1.2.2.2.2 _ (List.mem_cons_of_mem _ kw_116)) (fun _ h => h) rfl dc_S_clear_15 ?_
  refine aw_iload_n C dc_S_clear_18 rfl ?_
  refine aw_aald C 1 2 sy_p1 rfl i rfl hi (by decide) (y := h + sh i) rfl dc_S_clear_19 ?_
  refine aw_lconst C dc_S_clear_20 (v := 0) rfl ?_
  refine kc_v (fun _ h => h) (fun _ h => h) (kc_V (n := 1) C hX (xw_k ca_le) rfl (sh i) (sy_fam (hs.2.2.2 i hi).1) rfl (f_fill l D h th cI cL cF I J sh fr en (sh i) (hs.2.2.2 i hi).1 0) kw_288 kw_285 kw_286 kw_287 kw_3 rfl (by unfold kd_; decide) ⟨rfl, rfl, by decide, by decide⟩ rfl rfl (Nat.le_of_ble_eq_true rfl) ⟨Nat.zero_le _, Nat.zero_le _⟩ dc_S_clear_21) ?_
  refine aw_iload_n C dc_S_clear_24 rfl ?_
  exact kc_iret C hr rfl (fun _ h => h) dc_S_clear_25
set_option maxHeartbeats 4000000 in
set_option maxRecDepth 100000 in
theorem s_combine0 (l : Launch) (D : va_G) (h th : Nat) (cI cL cF : ClassId) (I : Nat → Nat → Int32) (J : Nat → Nat → Int64) (sh : Nat → Nat) (fr : Nat) (en : Int32) (hs : shok_ sh fr) (i : Nat) (hi : i < 10) (fa : Nat) (hfa : fa < 10) (gb : Nat) (hgb : gb < 10) : ki_ l my_S_combine (Cond.code my_S_combine bc_S_combine 5 (some .int) :: tw_) ({ frames := 6, cells := 0, slots := 0, locals := 137 }) D (ty_s cI cL cF) (xw_ h th) (ca_ h) [.ref h, .int (nI i), .int (nI 0), .int (nI fa), .int (nI gb)] (kp_ D h cI cL cF I J sh fr en) (kp_ D h cI cL cF I (uniJ_ J fr (sh fa) (sh gb)) (va_up sh i fr) (sh i) en) (nI (tw64_ ((uniJ_ J fr (sh fa) (sh gb)) (fr + 1)) 64)) := by
  refine aw_met (A := ca_ h) (own := "FamilyShelf") (by decide) rfl rfl (Nat.le_of_ble_eq_true rfl) ?_
  intro p9 e s m args below meth c C hr hX hP0
  refine aw_lw (lw' := [some (.ref h), some (.int (nI i)), some (.int (nI 0)), some (.int (nI fa)), some (.int (nI gb))]) rfl ?_
  refine aw_iload_n C dc_S_combine_0 rfl ?_
  refine kc_v (fun _ h => h) (fun _ h => h) (kc_S (n := 1) C hX (xw_k ca_le) (s_checkShelf l D _ _ _ _ i hi) kw_146 kw_144 kw_145 kw_1 (by unfold kd_; decide) ⟨rfl, rfl, by decide, by decide⟩ rfl rfl (Nat.le_of_ble_eq_true rfl) ⟨Nat.zero_le _, Nat.zero_le _⟩ dc_S_combine_1) ?_
  refine aw_iload_n C dc_S_combine_4 rfl ?_
  refine kc_v (fun _ h => h) (fun _ h => h) (kc_S (n := 1) C hX (xw_k ca_le) (s_checkShelf l D _ _ _ _ fa hfa) kw_146 kw_144 kw_145 kw_1 (by unfold kd_; decide) ⟨rfl, rfl, by decide, by decide⟩ rfl rfl (Nat.le_of_ble_eq_true rfl) ⟨Nat.zero_le _, Nat.zero_le _⟩ dc_S_combine_5) ?_
  refine aw_iload C dc_S_combine_8 rfl ?_
  refine kc_v (fun _ h => h) (fun _ h => h) (kc_S (n := 1) C hX (xw_k ca_le) (s_checkShelf l D _ _ _ _ gb hgb) kw_146 kw_144 kw_145 kw_1 (by unfold kd_; decide) ⟨rfl, rfl, by decide, by decide⟩ rfl rfl (Nat.le_of_ble_eq_true rfl) ⟨Nat.zero_le _, Nat.zero_le _⟩ dc_S_combine_10) ?_
  refine aw_iload_n C dc_S_combine_13 rfl ?_
  refine aw_iconst C dc_S_combine_14 (v := nI 0) rfl ?_
  refine aw_bipush C dc_S_combine_15 (v := nI 8) rfl ?_
  refine kc_v (fun _ h => h) (fun _ h => h) (kc_S (n := 3) C hX (xw_k ca_le) (s_checkRange l D _ _ _ _ (nI 0) (nI 0) (nI 8) (by decide) (by decide)) kw_221 kw_219 kw_220 kw_1 (by unfold kd_; decide) ⟨rfl, rfl, by decide, by decide⟩ rfl rfl (Nat.le_of_ble_eq_true rfl) ⟨Nat.zero_le _, Nat.zero_le _⟩ dc_S_combine_17) ?_
  refine aw_iload_n C dc_S_combine_20 rfl ?_
  refine aw_bipush C dc_S_combine_21 (v := nI 7) rfl ?_
  refine aw_icmp_eq C dc_S_combine_23 (tgt := 32) (by decide) (fun h9 => absurd h9 (by decide)) (fun _ => ?_)
  refine aw_iload_n C dc_S_combine_26 rfl ?_
  refine aw_bipush C dc_S_combine_27 (v := nI 8) rfl ?_
  refine aw_icmp_ne C dc_S_combine_29 (tgt := 42) (by decide) (fun _ => ?_) (fun h9 => absurd h9 (by decide))
  refine aw_aload_n C dc_S_combine_42 rfl ?_
  refine aw_get C (fun w h => List.mem_cons_of_mem _ (ly_S w h)) 0 sy_p0 rfl 1 (by decide) (C.1.2.2.2.2 _ (List.mem_cons_of_mem _ kw_117)) (fun _ h => h) rfl dc_S_combine_43 ?_
  refine aw_aload_n C dc_S_combine_46 rfl ?_
  refine aw_get C (fun w h => List.mem_cons_of_mem _ (ly_S w h)) 0 sy_p0 rfl 5 (by decide) (C.1.2.2.2.2 _ (List.mem_cons_of_mem _ kw_121)) (fun _ h => h) rfl dc_S_combine_47 ?_
  refine aw_iload_n C dc_S_combine_50 rfl ?_
  refine aw_aload_n C dc_S_combine_51 rfl ?_
  refine aw_get C (fun w h => List.mem_cons_of_mem _ (ly_S w h)) 0 sy_p0 rfl 0 (by decide) (C.1.2.2.2.2 _ (List.mem_cons_of_mem _ kw_116)) (fun _ h => h) rfl dc_S_combine_52 ?_
  refine aw_iload_n C dc_S_combine_55 rfl ?_
  refine aw_aald C 1 2 sy_p1 rfl fa rfl hfa (by decide) (y := h + sh fa) rfl dc_S_combine_56 ?_
  refine aw_aload_n C dc_S_combine_57 rfl ?_
  refine aw_get C (fun w h => List.mem_cons_of_mem _ (ly_S w h)) 0 sy_p0 rfl 0 (by decide) (C.1.2.2.2.2 _ (List.mem_cons_of_mem _ kw_116)) (fun _ h => h) rfl dc_S_combine_58 ?_
  refine aw_iload C dc_S_combine_61 rfl ?_
  refine aw_aald C 1 2 sy_p1 rfl gb rfl hgb (by decide) (y := h + sh gb) rfl dc_S_combine_63 ?_
  refine kc_v (fun _ h => h) (fun _ h => h) (kc_V (n := 4) C hX (xw_k ca_le) rfl 2 sy_p2 rfl (a_comb0 l D h th cI cL cF I J sh fr en fr hs.1 (sh fa) (hs.2.2.2 fa hfa).1 (hs.2.2.2 fa hfa).2.2.2 (sh gb) (hs.2.2.2 gb hgb).1 (hs.2.2.2 gb hgb).2.2.2 hs.2.1 hs.2.2.1 (hs.2.2.2 fa hfa).2.1 (hs.2.2.2 fa hfa).2.2.1 (hs.2.2.2 gb hgb).2.1 (hs.2.2.2 gb hgb).2.2.1) kw_322 kw_319 kw_320 kw_321 kw_2 rfl (by unfold kd_; decide) ⟨rfl, rfl, by decide, by decide⟩ rfl rfl (Nat.le_of_ble_eq_true rfl) ⟨Nat.zero_le _, Nat.zero_le _⟩ dc_S_combine_64) ?_
  refine aw_aload_n C dc_S_combine_67 rfl ?_
  refine aw_iload_n C dc_S_combine_68 rfl ?_
  refine kc_i (fun _ h => h) (fun _ h => h) (kc_V (n := 1) C hX (xw_k ca_le) rfl 0 sy_p0 rfl (s_shelveFresh l D h th cI cL cF I (uniJ_ J fr (sh fa) (sh gb)) sh fr en hs i hi) kw_406 kw_403 kw_405 (tw_sel (q := (my_S_shelveFresh, 6)) (by decide +kernel)) kw_1 rfl (by unfold kd_; decide) ⟨rfl, rfl, by decide, by decide⟩ rfl rfl (Nat.le_of_ble_eq_true rfl) ⟨Nat.zero_le _, Nat.zero_le _⟩ dc_S_combine_69) ?_
  exact kc_iret C hr rfl (fun _ h => h) dc_S_combine_72
set_option maxHeartbeats 4000000 in
set_option maxRecDepth 100000 in
theorem s_combine1 (l : Launch) (D : va_G) (h th : Nat) (cI cL cF : ClassId) (I : Nat → Nat → Int32) (J : Nat → Nat → Int64) (sh : Nat → Nat) (fr : Nat) (en : Int32) (hs : shok_ sh fr) (i : Nat) (hi : i < 10) (fa : Nat) (hfa : fa < 10) (gb : Nat) (hgb : gb < 10) : ki_ l my_S_combine (Cond.code my_S_combine bc_S_combine 5 (some .int) :: tw_) ({ frames := 6, cells := 0, slots := 0, locals := 137 }) D (ty_s cI cL cF) (xw_ h th) (ca_ h) [.ref h, .int (nI i), .int (nI 1), .int (nI fa), .int (nI gb)] (kp_ D h cI cL cF I J sh fr en) (kp_ D h cI cL cF I (intJ_ J fr (sh fa) (sh gb)) (va_up sh i fr) (sh i) en) (nI (tw64_ ((intJ_ J fr (sh fa) (sh gb)) (fr + 1)) 64)) := by
  refine aw_met (A := ca_ h) (own := "FamilyShelf") (by decide) rfl rfl (Nat.le_of_ble_eq_true rfl) ?_
  intro p9 e s m args below meth c C hr hX hP0
  refine aw_lw (lw' := [some (.ref h), some (.int (nI i)), some (.int (nI 1)), some (.int (nI fa)), some (.int (nI gb))]) rfl ?_
  refine aw_iload_n C dc_S_combine_0 rfl ?_
  refine kc_v (fun _ h => h) (fun _ h => h) (kc_S (n := 1) C hX (xw_k ca_le) (s_checkShelf l D _ _ _ _ i hi) kw_146 kw_144 kw_145 kw_1 (by unfold kd_; decide) ⟨rfl, rfl, by decide, by decide⟩ rfl rfl (Nat.le_of_ble_eq_true rfl) ⟨Nat.zero_le _, Nat.zero_le _⟩ dc_S_combine_1) ?_
  refine aw_iload_n C dc_S_combine_4 rfl ?_
  refine kc_v (fun _ h => h) (fun _ h => h) (kc_S (n := 1) C hX (xw_k ca_le) (s_checkShelf l D _ _ _ _ fa hfa) kw_146 kw_144 kw_145 kw_1 (by unfold kd_; decide) ⟨rfl, rfl, by decide, by decide⟩ rfl rfl (Nat.le_of_ble_eq_true rfl) ⟨Nat.zero_le _, Nat.zero_le _⟩ dc_S_combine_5) ?_
  refine aw_iload C dc_S_combine_8 rfl ?_
  refine kc_v (fun _ h => h) (fun _ h => h) (kc_S (n := 1) C hX (xw_k ca_le) (s_checkShelf l D _ _ _ _ gb hgb) kw_146 kw_144 kw_145 kw_1 (by unfold kd_; decide) ⟨rfl, rfl, by decide, by decide⟩ rfl rfl (Nat.le_of_ble_eq_true rfl) ⟨Nat.zero_le _, Nat.zero_le _⟩ dc_S_combine_10) ?_
  refine aw_iload_n C dc_S_combine_13 rfl ?_
  refine aw_iconst C dc_S_combine_14 (v := nI 0) rfl ?_
  refine aw_bipush C dc_S_combine_15 (v := nI 8) rfl ?_
  refine kc_v (fun _ h => h) (fun _ h => h) (kc_S (n := 3) C hX (xw_k ca_le) (s_checkRange l D _ _ _ _ (nI 1) (nI 0) (nI 8) (by decide) (by decide)) kw_221 kw_219 kw_220 kw_1 (by unfold kd_; decide) ⟨rfl, rfl, by decide, by decide⟩ rfl rfl (Nat.le_of_ble_eq_true rfl) ⟨Nat.zero_le _, Nat.zero_le _⟩ dc_S_combine_17) ?_
  refine aw_iload_n C dc_S_combine_20 rfl ?_
  refine aw_bipush C dc_S_combine_21 (v := nI 7) rfl ?_
  refine aw_icmp_eq C dc_S_combine_23 (tgt := 32) (by decide) (fun h9 => absurd h9 (by decide)) (fun _ => ?_)
  refine aw_iload_n C dc_S_combine_26 rfl ?_
  refine aw_bipush C dc_S_combine_27 (v := nI 8) rfl ?_
  refine aw_icmp_ne C dc_S_combine_29 (tgt := 42) (by decide) (fun _ => ?_) (fun h9 => absurd h9 (by decide))
  refine aw_aload_n C dc_S_combine_42 rfl ?_
  refine aw_get C (fun w h => List.mem_cons_of_mem _ (ly_S w h)) 0 sy_p0 rfl 1 (by decide) (C.1.2.2.2.2 _ (List.mem_cons_of_mem _ kw_117)) (fun _ h => h) rfl dc_S_combine_43 ?_
  refine aw_aload_n C dc_S_combine_46 rfl ?_
  refine aw_get C (fun w h => List.mem_cons_of_mem _ (ly_S w h)) 0 sy_p0 rfl 5 (by decide) (C.1.2.2.2.2 _ (List.mem_cons_of_mem _ kw_121)) (fun _ h => h) rfl dc_S_combine_47 ?_
  refine aw_iload_n C dc_S_combine_50 rfl ?_
  refine aw_aload_n C dc_S_combine_51 rfl ?_
  refine aw_get C (fun w h => List.mem_cons_of_mem _ (ly_S w h)) 0 sy_p0 rfl 0 (by decide) (C.1.2.2.2.2 _ (List.mem_cons_of_mem _ kw_116)) (fun _ h => h) rfl dc_S_combine_52 ?_
  refine aw_iload_n C dc_S_combine_55 rfl ?_
  refine aw_aald C 1 2 sy_p1 rfl fa rfl hfa (by decide) (y := h + sh fa) rfl dc_S_combine_56 ?_
  refine aw_aload_n C dc_S_combine_57 rfl ?_
  refine aw_get C (fun w h => List.mem_cons_of_mem _ (ly_S w h)) 0 sy_p0 rfl 0 (by decide) (C.1.2.2.2.2 _ (List.mem_cons_of_mem _ kw_116)) (fun _ h => h) rfl dc_S_combine_58 ?_
  refine aw_iload C dc_S_combine_61 rfl ?_
  refine aw_aald C 1 2 sy_p1 rfl gb rfl hgb (by decide) (y := h + sh gb) rfl dc_S_combine_63 ?_
  refine kc_v (fun _ h => h) (fun _ h => h) (kc_V (n := 4) C hX (xw_k ca_le) rfl 2 sy_p2 rfl (a_comb1 l D h th cI cL cF I J sh fr en fr hs.1 (sh fa) (hs.2.2.2 fa hfa).1 (hs.2.2.2 fa hfa).2.2.2 (sh gb) (hs.2.2.2 gb hgb).1 (hs.2.2.2 gb hgb).2.2.2 hs.2.1 hs.2.2.1 (hs.2.2.2 fa hfa).2.1 (hs.2.2.2 fa hfa).2.2.1 (hs.2.2.2 gb hgb).2.1 (hs.2.2.2 gb hgb).2.2.1) kw_322 kw_319 kw_320 kw_321 kw_2 rfl (by unfold kd_; decide) ⟨rfl, rfl, by decide, by decide⟩ rfl rfl (Nat.le_of_ble_eq_true rfl) ⟨Nat.zero_le _, Nat.zero_le _⟩ dc_S_combine_64) ?_
  refine aw_aload_n C dc_S_combine_67 rfl ?_
  refine aw_iload_n C dc_S_combine_68 rfl ?_
  refine kc_i (fun _ h => h) (fun _ h => h) (kc_V (n := 1) C hX (xw_k ca_le) rfl 0 sy_p0 rfl (s_shelveFresh l D h th cI cL cF I (intJ_ J fr (sh fa) (sh gb)) sh fr en hs i hi) kw_406 kw_403 kw_405 (tw_sel (q := (my_S_shelveFresh, 6)) (by decide +kernel)) kw_1 rfl (by unfold kd_; decide) ⟨rfl, rfl, by decide, by decide⟩ rfl rfl (Nat.le_of_ble_eq_true rfl) ⟨Nat.zero_le _, Nat.zero_le _⟩ dc_S_combine_69) ?_
  exact kc_iret C hr rfl (fun _ h => h) dc_S_combine_72
set_option maxHeartbeats 4000000 in
set_option maxRecDepth 100000 in
theorem s_combine2 (l : Launch) (D : va_G) (h th : Nat) (cI cL cF : ClassId) (I : Nat → Nat → Int32) (J : Nat → Nat → Int64) (sh : Nat → Nat) (fr : Nat) (en : Int32) (hs : shok_ sh fr) (i : Nat) (hi : i < 10) (fa : Nat) (hfa : fa < 10) (gb : Nat) (hgb : gb < 10) : ki_ l my_S_combine (Cond.code my_S_combine bc_S_combine 5 (some .int) :: tw_) ({ frames := 6, cells := 0, slots := 0, locals := 137 }) D (ty_s cI cL cF) (xw_ h th) (ca_ h) [.ref h, .int (nI i), .int (nI 2), .int (nI fa), .int (nI gb)] (kp_ D h cI cL cF I J sh fr en) (kp_ D h cI cL cF I (subJ_ J fr (sh fa) (sh gb)) (va_up sh i fr) (sh i) en) (nI (tw64_ ((subJ_ J fr (sh fa) (sh gb)) (fr + 1)) 64)) := by
  refine aw_met (A := ca_ h) (own := "FamilyShelf") (by decide) rfl rfl (Nat.le_of_ble_eq_true rfl) ?_
  intro p9 e s m args below meth c C hr hX hP0
  refine aw_lw (lw' := [some (.ref h), some (.int (nI i)), some (.int (nI 2)), some (.int (nI fa)), some (.int (nI gb))]) rfl ?_
  refine aw_iload_n C dc_S_combine_0 rfl ?_
  refine kc_v (fun _ h => h) (fun _ h => h) (kc_S (n := 1) C hX (xw_k ca_le) (s_checkShelf l D _ _ _ _ i hi) kw_146 kw_144 kw_145 kw_1 (by unfold kd_; decide) ⟨rfl, rfl, by decide, by decide⟩ rfl rfl (Nat.le_of_ble_eq_true rfl) ⟨Nat.zero_le _, Nat.zero_le _⟩ dc_S_combine_1) ?_
  refine aw_iload_n C dc_S_combine_4 rfl ?_
  refine kc_v (fun _ h => h) (fun _ h => h) (kc_S (n := 1) C hX (xw_k ca_le) (s_checkShelf l D _ _ _ _ fa hfa) kw_146 kw_144 kw_145 kw_1 (by unfold kd_; decide) ⟨rfl, rfl, by decide, by decide⟩ rfl rfl (Nat.le_of_ble_eq_true rfl) ⟨Nat.zero_le _, Nat.zero_le _⟩ dc_S_combine_5) ?_
  refine aw_iload C dc_S_combine_8 rfl ?_
  refine kc_v (fun _ h => h) (fun _ h => h) (kc_S (n := 1) C hX (xw_k ca_le) (s_checkShelf l D _ _ _ _ gb hgb) kw_146 kw_144 kw_145 kw_1 (by unfold kd_; decide) ⟨rfl, rfl, by decide, by decide⟩ rfl rfl (Nat.le_of_ble_eq_true rfl) ⟨Nat.zero_le _, Nat.zero_le _⟩ dc_S_combine_10) ?_
  refine aw_iload_n C dc_S_combine_13 rfl ?_
  refine aw_iconst C dc_S_combine_14 (v := nI 0) rfl ?_
  refine aw_bipush C dc_S_combine_15 (v := nI 8) rfl ?_
  refine kc_v (fun _ h => h) (fun _ h => h) (kc_S (n := 3) C hX (xw_k ca_le) (s_checkRange l D _ _ _ _ (nI 2) (nI 0) (nI 8) (by decide) (by decide)) kw_221 kw_219 kw_220 kw_1 (by unfold kd_; decide) ⟨rfl, rfl, by decide, by decide⟩ rfl rfl (Nat.le_of_ble_eq_true rfl) ⟨Nat.zero_le _, Nat.zero_le _⟩ dc_S_combine_17) ?_
  refine aw_iload_n C dc_S_combine_20 rfl ?_
  refine aw_bipush C dc_S_combine_21 (v := nI 7) rfl ?_
  refine aw_icmp_eq C dc_S_combine_23 (tgt := 32) (by decide) (fun h9 => absurd h9 (by decide)) (fun _ => ?_)
  refine aw_iload_n C dc_S_combine_26 rfl ?_
  refine aw_bipush C dc_S_combine_27 (v := nI 8) rfl ?_
  refine aw_icmp_ne C dc_S_combine_29 (tgt := 42) (by decide) (fun _ => ?_) (fun h9 => absurd h9 (by decide))
  refine aw_aload_n C dc_S_combine_42 rfl ?_
  refine aw_get C (fun w h => List.mem_cons_of_mem _ (ly_S w h)) 0 sy_p0 rfl 1 (by decide) (C.1.2.2.2.2 _ (List.mem_cons_of_mem _ kw_117)) (fun _ h => h) rfl dc_S_combine_43 ?_
  refine aw_aload_n C dc_S_combine_46 rfl ?_
  refine aw_get C (fun w h => List.mem_cons_of_mem _ (ly_S w h)) 0 sy_p0 rfl 5 (by decide) (C.1.2.2.2.2 _ (List.mem_cons_of_mem _ kw_121)) (fun _ h => h) rfl dc_S_combine_47 ?_
  refine aw_iload_n C dc_S_combine_50 rfl ?_
  refine aw_aload_n C dc_S_combine_51 rfl ?_
  refine aw_get C (fun w h => List.mem_cons_of_mem _ (ly_S w h)) 0 sy_p0 rfl 0 (by decide) (C.1.2.2.2.2 _ (List.mem_cons_of_mem _ kw_116)) (fun _ h => h) rfl dc_S_combine_52 ?_
  refine aw_iload_n C dc_S_combine_55 rfl ?_
  refine aw_aald C 1 2 sy_p1 rfl fa rfl hfa (by decide) (y := h + sh fa) rfl dc_S_combine_56 ?_
  refine aw_aload_n C dc_S_combine_57 rfl ?_
  refine aw_get C (fun w h => List.mem_cons_of_mem _ (ly_S w h)) 0 sy_p0 rfl 0 (by decide) (C.1.2.2.2.2 _ (List.mem_cons_of_mem _ kw_116)) (fun _ h => h) rfl dc_S_combine_58 ?_
  refine aw_iload C dc_S_combine_61 rfl ?_
  refine aw_aald C 1 2 sy_p1 rfl gb rfl hgb (by decide) (y := h + sh gb) rfl dc_S_combine_63 ?_
  refine kc_v (fun _ h => h) (fun _ h => h) (kc_V (n := 4) C hX (xw_k ca_le) rfl 2 sy_p2 rfl (a_comb2 l D h th cI cL cF I J sh fr en fr hs.1 (sh fa) (hs.2.2.2 fa hfa).1 (hs.2.2.2 fa hfa).2.2.2 (sh gb) (hs.2.2.2 gb hgb).1 (hs.2.2.2 gb hgb).2.2.2 hs.2.1 hs.2.2.1 (hs.2.2.2 fa hfa).2.1 (hs.2.2.2 fa hfa).2.2.1 (hs.2.2.2 gb hgb).2.1 (hs.2.2.2 gb hgb).2.2.1) kw_322 kw_319 kw_320 kw_321 kw_2 rfl (by unfold kd_; decide) ⟨rfl, rfl, by decide, by decide⟩ rfl rfl (Nat.le_of_ble_eq_true rfl) ⟨Nat.zero_le _, Nat.zero_le _⟩ dc_S_combine_64) ?_
  refine aw_aload_n C dc_S_combine_67 rfl ?_
  refine aw_iload_n C dc_S_combine_68 rfl ?_
  refine kc_i (fun _ h => h) (fun _ h => h) (kc_V (n := 1) C hX (xw_k ca_le) rfl 0 sy_p0 rfl (s_shelveFresh l D h th cI cL cF I (subJ_ J fr (sh fa) (sh gb)) sh fr en hs i hi) kw_406 kw_403 kw_405 (tw_sel (q := (my_S_shelveFresh, 6)) (by decide +kernel)) kw_1 rfl (by unfold kd_; decide) ⟨rfl, rfl, by decide, by decide⟩ rfl rfl (Nat.le_of_ble_eq_true rfl) ⟨Nat.zero_le _, Nat.zero_le _⟩ dc_S_combine_69) ?_
  exact kc_iret C hr rfl (fun _ h => h) dc_S_combine_72
set_option maxHeartbeats 4000000 in
set_option maxRecDepth 100000 in
theorem s_combine3 (l : Launch) (D : va_G) (h th : Nat) (cI cL cF : ClassId) (I : Nat → Nat → Int32) (J : Nat → Nat → Int64) (sh : Nat → Nat) (fr : Nat) (en : Int32) (hs : shok_ sh fr) (i : Nat) (hi : i < 10) (fa : Nat) (hfa : fa < 10) (gb : Nat) (hgb : gb < 10) : ki_ l my_S_combine (Cond.code my_S_combine bc_S_combine 5 (some .int) :: tw_) ({ frames := 6, cells := 0, slots := 0, locals := 137 }) D (ty_s cI cL cF) (xw_ h th) (ca_ h) [.ref h, .int (nI i), .int (nI 3), .int (nI fa), .int (nI gb)] (kp_ D h cI cL cF I J sh fr en) (kp_ D h cI cL cF I (pairJ_ J fr (sh fa) (sh gb) true) (va_up sh i fr) (sh i) en) (nI (tw64_ ((pairJ_ J fr (sh fa) (sh gb) true) (fr + 1)) 64)) := by
  refine aw_met (A := ca_ h) (own := "FamilyShelf") (by decide) rfl rfl (Nat.le_of_ble_eq_true rfl) ?_
  intro p9 e s m args below meth c C hr hX hP0
  refine aw_lw (lw' := [some (.ref h), some (.int (nI i)), some (.int (nI 3)), some (.int (nI fa)), some (.int (nI gb))]) rfl ?_
  refine aw_iload_n C dc_S_combine_0 rfl ?_
  refine kc_v (fun _ h => h) (fun _ h => h) (kc_S (n := 1) C hX (xw_k ca_le) (s_checkShelf l D _ _ _ _ i hi) kw_146 kw_144 kw_145 kw_1 (by unfold kd_; decide) ⟨rfl, rfl, by decide, by decide⟩ rfl rfl (Nat.le_of_ble_eq_true rfl) ⟨Nat.zero_le _, Nat.zero_le _⟩ dc_S_combine_1) ?_
  refine aw_iload_n C dc_S_combine_4 rfl ?_
  refine kc_v (fun _ h => h) (fun _ h => h) (kc_S (n := 1) C hX (xw_k ca_le) (s_checkShelf l D _ _ _ _ fa hfa) kw_146 kw_144 kw_145 kw_1 (by unfold kd_; decide) ⟨rfl, rfl, by decide, by decide⟩ rfl rfl (Nat.le_of_ble_eq_true rfl) ⟨Nat.zero_le _, Nat.zero_le _⟩ dc_S_combine_5) ?_
  refine aw_iload C dc_S_combine_8 rfl ?_
  refine kc_v (fun _ h => h) (fun _ h => h) (kc_S (n := 1) C hX (xw_k ca_le) (s_checkShelf l D _ _ _ _ gb hgb) kw_146 kw_144 kw_145 kw_1 (by unfold kd_; decide) ⟨rfl, rfl, by decide, by decide⟩ rfl rfl (Nat.le_of_ble_eq_true rfl) ⟨Nat.zero_le _, Nat.zero_le _⟩ dc_S_combine_10) ?_
  refine aw_iload_n C dc_S_combine_13 rfl ?_
  refine aw_iconst C dc_S_combine_14 (v := nI 0) rfl ?_
  refine aw_bipush C dc_S_combine_15 (v := nI 8) rfl ?_
  refine kc_v (fun _ h => h) (fun _ h => h) (kc_S (n := 3) C hX (xw_k ca_le) (s_checkRange l D _ _ _ _ (nI 3) (nI 0) (nI 8) (by decide) (by decide)) kw_221 kw_219 kw_220 kw_1 (by unfold kd_; decide) ⟨rfl, rfl, by decide, by decide⟩ rfl rfl (Nat.le_of_ble_eq_true rfl) ⟨Nat.zero_le _, Nat.zero_le _⟩ dc_S_combine_17) ?_
  refine aw_iload_n C dc_S_combine_20 rfl ?_
  refine aw_bipush C dc_S_combine_21 (v := nI 7) rfl ?_
  refine aw_icmp_eq C dc_S_combine_23 (tgt := 32) (by decide) (fun h9 => absurd h9 (by decide)) (fun _ => ?_)
  refine aw_iload_n C dc_S_combine_26 rfl ?_
  refine aw_bipush C dc_S_combine_27 (v := nI 8) rfl ?_
  refine aw_icmp_ne C dc_S_combine_29 (tgt := 42) (by decide) (fun _ => ?_) (fun h9 => absurd h9 (by decide))
  refine aw_aload_n C dc_S_combine_42 rfl ?_
  refine aw_get C (fun w h => List.mem_cons_of_mem _ (ly_S w h)) 0 sy_p0 rfl 1 (by decide) (C.1.2.2.2.2 _ (List.mem_cons_of_mem _ kw_117)) (fun _ h => h) rfl dc_S_combine_43 ?_
  refine aw_aload_n C dc_S_combine_46 rfl ?_
  refine aw_get C (fun w h => List.mem_cons_of_mem _ (ly_S w h)) 0 sy_p0 rfl 5 (by decide) (C.1.2.2.2.2 _ (List.mem_cons_of_mem _ kw_121)) (fun _ h => h) rfl dc_S_combine_47 ?_
  refine aw_iload_n C dc_S_combine_50 rfl ?_
  refine aw_aload_n C dc_S_combine_51 rfl ?_
  refine aw_get C (fun w h => List.mem_cons_of_mem _ (ly_S w h)) 0 sy_p0 rfl 0 (by decide) (C.1.2.2.2.2 _ (List.mem_cons_of_mem _ kw_116)) (fun _ h => h) rfl dc_S_combine_52 ?_
  refine aw_iload_n C dc_S_combine_55 rfl ?_
  refine aw_aald C 1 2 sy_p1 rfl fa rfl hfa (by decide) (y := h + sh fa) rfl dc_S_combine_56 ?_
  refine aw_aload_n C dc_S_combine_57 rfl ?_
  refine aw_get C (fun w h => List.mem_cons_of_mem _ (ly_S w h)) 0 sy_p0 rfl 0 (by decide) (C.1.2.2.2.2 _ (List.mem_cons_of_mem _ kw_116)) (fun _ h => h) rfl dc_S_combine_58 ?_
  refine aw_iload C dc_S_combine_61 rfl ?_
  refine aw_aald C 1 2 sy_p1 rfl gb rfl hgb (by decide) (y := h + sh gb) rfl dc_S_combine_63 ?_
  refine kc_v (fun _ h => h) (fun _ h => h) (kc_V (n := 4) C hX (xw_k ca_le) rfl 2 sy_p2 rfl (a_comb3 l D h th cI cL cF I J sh fr en fr hs.1 (sh fa) (hs.2.2.2 fa hfa).1 (hs.2.2.2 fa hfa).2.2.2 (sh gb) (hs.2.2.2 gb hgb).1 (hs.2.2.2 gb hgb).2.2.2 hs.2.1 hs.2.2.1 (hs.2.2.2 fa hfa).2.1 (hs.2.2.2 fa hfa).2.2.1 (hs.2.2.2 gb hgb).2.1 (hs.2.2.2 gb hgb).2.2.1) kw_322 kw_319 kw_320 kw_321 kw_2 rfl (by unfold kd_; decide) ⟨rfl, rfl, by decide, by decide⟩ rfl rfl (Nat.le_of_ble_eq_true rfl) ⟨Nat.zero_le _, Nat.zero_le _⟩ dc_S_combine_64) ?_
  refine aw_aload_n C dc_S_combine_67 rfl ?_
  refine aw_iload_n C dc_S_combine_68 rfl ?_
  refine kc_i (fun _ h => h) (fun _ h => h) (kc_V (n := 1) C hX (xw_k ca_le) rfl 0 sy_p0 rfl (s_shelveFresh l D h th cI cL cF I (pairJ_ J fr (sh fa) (sh gb) true) sh fr en hs i hi) kw_406 kw_403 kw_405 (tw_sel (q := (my_S_shelveFresh, 6)) (by decide +kernel)) kw_1 rfl (by unfold kd_; decide) ⟨rfl, rfl, by decide, by decide⟩ rfl rfl (Nat.le_of_ble_eq_true rfl) ⟨Nat.zero_le _, Nat.zero_le _⟩ dc_S_combine_69) ?_
  exact kc_iret C hr rfl (fun _ h => h) dc_S_combine_72
set_option maxHeartbeats 4000000 in
set_option maxRecDepth 100000 in
theorem s_combine4 (l : Launch) (D : va_G) (h th : Nat) (cI cL cF : ClassId) (I : Nat → Nat → Int32) (J : Nat → Nat → Int64) (sh : Nat → Nat) (fr : Nat) (en : Int32) (hs : shok_ sh fr) (i : Nat) (hi : i < 10) (fa : Nat) (hfa : fa < 10) (gb : Nat) (hgb : gb < 10) : ki_ l my_S_combine (Cond.code my_S_combine bc_S_combine 5 (some .int) :: tw_) ({ frames := 6, cells := 0, slots := 0, locals := 137 }) D (ty_s cI cL cF) (xw_ h th) (ca_ h) [.ref h, .int (nI i), .int (nI 4), .int (nI fa), .int (nI gb)] (kp_ D h cI cL cF I J sh fr en) (kp_ D h cI cL cF I (pairJ_ J fr (sh fa) (sh gb) false) (va_up sh i fr) (sh i) en) (nI (tw64_ ((pairJ_ J fr (sh fa) (sh gb) false) (fr + 1)) 64)) := by
  refine aw_met (A := ca_ h) (own := "FamilyShelf") (by decide) rfl rfl (Nat.le_of_ble_eq_true rfl) ?_
  intro p9 e s m args below meth c C hr hX hP0
  refine aw_lw (lw' := [some (.ref h), some (.int (nI i)), some (.int (nI 4)), some (.int (nI fa)), some (.int (nI gb))]) rfl ?_
  refine aw_iload_n C dc_S_combine_0 rfl ?_
  refine kc_v (fun _ h => h) (fun _ h => h) (kc_S (n := 1) C hX (xw_k ca_le) (s_checkShelf l D _ _ _ _ i hi) kw_146 kw_144 kw_145 kw_1 (by unfold kd_; decide) ⟨rfl, rfl, by decide, by decide⟩ rfl rfl (Nat.le_of_ble_eq_true rfl) ⟨Nat.zero_le _, Nat.zero_le _⟩ dc_S_combine_1) ?_
  refine aw_iload_n C dc_S_combine_4 rfl ?_
  refine kc_v (fun _ h => h) (fun _ h => h) (kc_S (n := 1) C hX (xw_k ca_le) (s_checkShelf l D _ _ _ _ fa hfa) kw_146 kw_144 kw_145 kw_1 (by unfold kd_; decide) ⟨rfl, rfl, by decide, by decide⟩ rfl rfl (Nat.le_of_ble_eq_true rfl) ⟨Nat.zero_le _, Nat.zero_le _⟩ dc_S_combine_5) ?_
  refine aw_iload C dc_S_combine_8 rfl ?_
  refine kc_v (fun _ h => h) (fun _ h => h) (kc_S (n := 1) C hX (xw_k ca_le) (s_checkShelf l D _ _ _ _ gb hgb) kw_146 kw_144 kw_145 kw_1 (by unfold kd_; decide) ⟨rfl, rfl, by decide, by decide⟩ rfl rfl (Nat.le_of_ble_eq_true rfl) ⟨Nat.zero_le _, Nat.zero_le _⟩ dc_S_combine_10) ?_
  refine aw_iload_n C dc_S_combine_13 rfl ?_
  refine aw_iconst C dc_S_combine_14 (v := nI 0) rfl ?_
  refine aw_bipush C dc_S_combine_15 (v := nI 8) rfl ?_
  refine kc_v (fun _ h => h) (fun _ h => h) (kc_S (n := 3) C hX (xw_k ca_le) (s_checkRange l D _ _ _ _ (nI 4) (nI 0) (nI 8) (by decide) (by decide)) kw_221 kw_219 kw_220 kw_1 (by unfold kd_; decide) ⟨rfl, rfl, by decide, by decide⟩ rfl rfl (Nat.le_of_ble_eq_true rfl) ⟨Nat.zero_le _, Nat.zero_le _⟩ dc_S_combine_17) ?_
  refine aw_iload_n C dc_S_combine_20 rfl ?_
  refine aw_bipush C dc_S_combine_21 (v := nI 7) rfl ?_
  refine aw_icmp_eq C dc_S_combine_23 (tgt := 32) (by decide) (fun h9 => absurd h9 (by decide)) (fun _ => ?_)
  refine aw_iload_n C dc_S_combine_26 rfl ?_
  refine aw_bipush C dc_S_combine_27 (v := nI 8) rfl ?_
  refine aw_icmp_ne C dc_S_combine_29 (tgt := 42) (by decide) (fun _ => ?_) (fun h9 => absurd h9 (by decide))
  refine aw_aload_n C dc_S_combine_42 rfl ?_
  refine aw_get C (fun w h => List.mem_cons_of_mem _ (ly_S w h)) 0 sy_p0 rfl 1 (by decide) (C.1.2.2.2.2 _ (List.mem_cons_of_mem _ kw_117)) (fun _ h => h) rfl dc_S_combine_43 ?_
  refine aw_aload_n C dc_S_combine_46 rfl ?_
  refine aw_get C (fun w h => List.mem_cons_of_mem _ (ly_S w h)) 0 sy_p0 rfl 5 (by decide) (C.1.2.2.2.2 _ (List.mem_cons_of_mem _ kw_121)) (fun _ h => h) rfl dc_S_combine_47 ?_
  refine aw_iload_n C dc_S_combine_50 rfl ?_
  refine aw_aload_n C dc_S_combine_51 rfl ?_
  refine aw_get C (fun w h => List.mem_cons_of_mem _ (ly_S w h)) 0 sy_p0 rfl 0 (by decide) (C.1.2.2.2.2 _ (List.mem_cons_of_mem _ kw_116)) (fun _ h => h) rfl dc_S_combine_52 ?_
  refine aw_iload_n C dc_S_combine_55 rfl ?_
  refine aw_aald C 1 2 sy_p1 rfl fa rfl hfa (by decide) (y := h + sh fa) rfl dc_S_combine_56 ?_
  refine aw_aload_n C dc_S_combine_57 rfl ?_
  refine aw_get C (fun w h => List.mem_cons_of_mem _ (ly_S w h)) 0 sy_p0 rfl 0 (by decide) (C.1.2.2.2.2 _ (List.mem_cons_of_mem _ kw_116)) (fun _ h => h) rfl dc_S_combine_58 ?_
  refine aw_iload C dc_S_combine_61 rfl ?_
  refine aw_aald C 1 2 sy_p1 rfl gb rfl hgb (by decide) (y := h + sh gb) rfl dc_S_combine_63 ?_
  refine kc_v (fun _ h => h) (fun _ h => h) (kc_V (n := 4) C hX (xw_k ca_le) rfl 2 sy_p2 rfl (a_comb4 l D h th cI cL cF I J sh fr en fr hs.1 (sh fa) (hs.2.2.2 fa hfa).1 (hs.2.2.2 fa hfa).2.2.2 (sh gb) (hs.2.2.2 gb hgb).1 (hs.2.2.2 gb hgb).2.2.2 hs.2.1 hs.2.2.1 (hs.2.2.2 fa hfa).2.1 (hs.2.2.2 fa hfa).2.2.1 (hs.2.2.2 gb hgb).2.1 (hs.2.2.2 gb hgb).2.2.1) kw_322 kw_319 kw_320 kw_321 kw_2 rfl (by unfold kd_; decide) ⟨rfl, rfl, by decide, by decide⟩ rfl rfl (Nat.le_of_ble_eq_true rfl) ⟨Nat.zero_le _, Nat.zero_le _⟩ dc_S_combine_64) ?_
  refine aw_aload_n C dc_S_combine_67 rfl ?_
  refine aw_iload_n C dc_S_combine_68 rfl ?_
  refine kc_i (fun _ h => h) (fun _ h => h) (kc_V (n := 1) C hX (xw_k ca_le) rfl 0 sy_p0 rfl (s_shelveFresh l D h th cI cL cF I (pairJ_ J fr (sh fa) (sh gb) false) sh fr en hs i hi) kw_406 kw_403 kw_405 (tw_sel (q := (my_S_shelveFresh, 6)) (by decide +kernel)) kw_1 rfl (by unfold kd_; decide) ⟨rfl, rfl, by decide, by decide⟩ rfl rfl (Nat.le_of_ble_eq_true rfl) ⟨Nat.zero_le _, Nat.zero_le _⟩ dc_S_combine_69) ?_
  exact kc_iret C hr rfl (fun _ h => h) dc_S_combine_72
set_option maxHeartbeats 4000000 in
set_option maxRecDepth 100000 in
theorem s_combine5 (l : Launch) (D : va_G) (h th : Nat) (cI cL cF : ClassId) (I : Nat → Nat → Int32) (J : Nat → Nat → Int64) (sh : Nat → Nat) (fr : Nat) (en : Int32) (hs : shok_ sh fr) (i : Nat) (hi : i < 10) (fa : Nat) (hfa : fa < 10) (gb : Nat) (hgb : gb < 10) : ki_ l my_S_combine (Cond.code my_S_combine bc_S_combine 5 (some .int) :: tw_) ({ frames := 6, cells := 0, slots := 0, locals := 137 }) D (ty_s cI cL cF) (xw_ h th) (ca_ h) [.ref h, .int (nI i), .int (nI 5), .int (nI fa), .int (nI gb)] (kp_ D h cI cL cF I J sh fr en) (kp_ D h cI cL cF I (subJ_ (closeJ_ (copyJ_ J 3 (sh gb)) 3 true) fr (sh fa) 3) (va_up sh i fr) (sh i) en) (nI (tw64_ ((subJ_ (closeJ_ (copyJ_ J 3 (sh gb)) 3 true) fr (sh fa) 3) (fr + 1)) 64)) := by
  refine aw_met (A := ca_ h) (own := "FamilyShelf") (by decide) rfl rfl (Nat.le_of_ble_eq_true rfl) ?_
  intro p9 e s m args below meth c C hr hX hP0
  refine aw_lw (lw' := [some (.ref h), some (.int (nI i)), some (.int (nI 5)), some (.int (nI fa)), some (.int (nI gb))]) rfl ?_
  refine aw_iload_n C dc_S_combine_0 rfl ?_
  refine kc_v (fun _ h => h) (fun _ h => h) (kc_S (n := 1) C hX (xw_k ca_le) (s_checkShelf l D _ _ _ _ i hi) kw_146 kw_144 kw_145 kw_1 (by unfold kd_; decide) ⟨rfl, rfl, by decide, by decide⟩ rfl rfl (Nat.le_of_ble_eq_true rfl) ⟨Nat.zero_le _, Nat.zero_le _⟩ dc_S_combine_1) ?_
  refine aw_iload_n C dc_S_combine_4 rfl ?_
  refine kc_v (fun _ h => h) (fun _ h => h) (kc_S (n := 1) C hX (xw_k ca_le) (s_checkShelf l D _ _ _ _ fa hfa) kw_146 kw_144 kw_145 kw_1 (by unfold kd_; decide) ⟨rfl, rfl, by decide, by decide⟩ rfl rfl (Nat.le_of_ble_eq_true rfl) ⟨Nat.zero_le _, Nat.zero_le _⟩ dc_S_combine_5) ?_
  refine aw_iload C dc_S_combine_8 rfl ?_
  refine kc_v (fun _ h => h) (fun _ h => h) (kc_S (n := 1) C hX (xw_k ca_le) (s_checkShelf l D _ _ _ _ gb hgb) kw_146 kw_144 kw_145 kw_1 (by unfold kd_; decide) ⟨rfl, rfl, by decide, by decide⟩ rfl rfl (Nat.le_of_ble_eq_true rfl) ⟨Nat.zero_le _, Nat.zero_le _⟩ dc_S_combine_10) ?_
  refine aw_iload_n C dc_S_combine_13 rfl ?_
  refine aw_iconst C dc_S_combine_14 (v := nI 0) rfl ?_
  refine aw_bipush C dc_S_combine_15 (v := nI 8) rfl ?_
  refine kc_v (fun _ h => h) (fun _ h => h) (kc_S (n := 3) C hX (xw_k ca_le) (s_checkRange l D _ _ _ _ (nI 5) (nI 0) (nI 8) (by decide) (by decide)) kw_221 kw_219 kw_220 kw_1 (by unfold kd_; decide) ⟨rfl, rfl, by decide, by decide⟩ rfl rfl (Nat.le_of_ble_eq_true rfl) ⟨Nat.zero_le _, Nat.zero_le _⟩ dc_S_combine_17) ?_
  refine aw_iload_n C dc_S_combine_20 rfl ?_
  refine aw_bipush C dc_S_combine_21 (v := nI 7) rfl ?_
  refine aw_icmp_eq C dc_S_combine_23 (tgt := 32) (by decide) (fun h9 => absurd h9 (by decide)) (fun _ => ?_)
  refine aw_iload_n C dc_S_combine_26 rfl ?_
  refine aw_bipush C dc_S_combine_27 (v := nI 8) rfl ?_
  refine aw_icmp_ne C dc_S_combine_29 (tgt := 42) (by decide) (fun _ => ?_) (fun h9 => absurd h9 (by decide))
  refine aw_aload_n C dc_S_combine_42 rfl ?_
  refine aw_get C (fun w h => List.mem_cons_of_mem _ (ly_S w h)) 0 sy_p0 rfl 1 (by decide) (C.1.2.2.2.2 _ (List.mem_cons_of_mem _ kw_117)) (fun _ h => h) rfl dc_S_combine_43 ?_
  refine aw_aload_n C dc_S_combine_46 rfl ?_
  refine aw_get C (fun w h => List.mem_cons_of_mem _ (ly_S w h)) 0 sy_p0 rfl 5 (by decide) (C.1.2.2.2.2 _ (List.mem_cons_of_mem _ kw_121)) (fun _ h => h) rfl dc_S_combine_47 ?_
  refine aw_iload_n C dc_S_combine_50 rfl ?_
  refine aw_aload_n C dc_S_combine_51 rfl ?_
  refine aw_get C (fun w h => List.mem_cons_of_mem _ (ly_S w h)) 0 sy_p0 rfl 0 (by decide) (C.1.2.2.2.2 _ (List.mem_cons_of_mem _ kw_116)) (fun _ h => h) rfl dc_S_combine_52 ?_
  refine aw_iload_n C dc_S_combine_55 rfl ?_
  refine aw_aald C 1 2 sy_p1 rfl fa rfl hfa (by decide) (y := h + sh fa) rfl dc_S_combine_56 ?_
  refine aw_aload_n C dc_S_combine_57 rfl ?_
  refine aw_get C (fun w h => List.mem_cons_of_mem _ (ly_S w h)) 0 sy_p0 rfl 0 (by decide) (C.1.2.2.2.2 _ (List.mem_cons_of_mem _ kw_116)) (fun _ h => h) rfl dc_S_combine_58 ?_
  refine aw_iload C dc_S_combine_61 rfl ?_
  refine aw_aald C 1 2 sy_p1 rfl gb rfl hgb (by decide) (y := h + sh gb) rfl dc_S_combine_63 ?_
  refine kc_v (fun _ h => h) (fun _ h => h) (kc_V (n := 4) C hX (xw_k ca_le) rfl 2 sy_p2 rfl (a_comb5 l D h th cI cL cF I J sh fr en fr hs.1 (sh fa) (hs.2.2.2 fa hfa).1 (hs.2.2.2 fa hfa).2.2.2 (sh gb) (hs.2.2.2 gb hgb).1 (hs.2.2.2 gb hgb).2.2.2 hs.2.1 hs.2.2.1 (hs.2.2.2 fa hfa).2.1 (hs.2.2.2 fa hfa).2.2.1 (hs.2.2.2 gb hgb).2.1 (hs.2.2.2 gb hgb).2.2.1) kw_322 kw_319 kw_320 kw_321 kw_2 rfl (by unfold kd_; decide) ⟨rfl, rfl, by decide, by decide⟩ rfl rfl (Nat.le_of_ble_eq_true rfl) ⟨Nat.zero_le _, Nat.zero_le _⟩ dc_S_combine_64) ?_
  refine aw_aload_n C dc_S_combine_67 rfl ?_
  refine aw_iload_n C dc_S_combine_68 rfl ?_
  refine kc_i (fun _ h => h) (fun _ h => h) (kc_V (n := 1) C hX (xw_k ca_le) rfl 0 sy_p0 rfl (s_shelveFresh l D h th cI cL cF I (subJ_ (closeJ_ (copyJ_ J 3 (sh gb)) 3 true) fr (sh fa) 3) sh fr en hs i hi) kw_406 kw_403 kw_405 (tw_sel (q := (my_S_shelveFresh, 6)) (by decide +kernel)) kw_1 rfl (by unfold kd_; decide) ⟨rfl, rfl, by decide, by decide⟩ rfl rfl (Nat.le_of_ble_eq_true rfl) ⟨Nat.zero_le _, Nat.zero_le _⟩ dc_S_combine_69) ?_
  exact kc_iret C hr rfl (fun _ h => h) dc_S_combine_72
set_option maxHeartbeats 4000000 in
set_option maxRecDepth 100000 in
theorem s_combine6 (l : Launch) (D : va_G) (h th : Nat) (cI cL cF : ClassId) (I : Nat → Nat → Int32) (J : Nat → Nat → Int64) (sh : Nat → Nat) (fr : Nat) (en : Int32) (hs : shok_ sh fr) (i : Nat) (hi : i < 10) (fa : Nat) (hfa : fa < 10) (gb : Nat) (hgb : gb < 10) : ki_ l my_S_combine (Cond.code my_S_combine bc_S_combine 5 (some .int) :: tw_) ({ frames := 6, cells := 0, slots := 0, locals := 137 }) D (ty_s cI cL cF) (xw_ h th) (ca_ h) [.ref h, .int (nI i), .int (nI 6), .int (nI fa), .int (nI gb)] (kp_ D h cI cL cF I J sh fr en) (kp_ D h cI cL cF I (subJ_ (closeJ_ (copyJ_ J 3 (sh gb)) 3 false) fr (sh fa) 3) (va_up sh i fr) (sh i) en) (nI (tw64_ ((subJ_ (closeJ_ (copyJ_ J 3 (sh gb)) 3 false) fr (sh fa) 3) (fr + 1)) 64)) := by
  refine aw_met (A := ca_ h) (own := "FamilyShelf") (by decide) rfl rfl (Nat.le_of_ble_eq_true rfl) ?_
  intro p9 e s m args below meth c C hr hX hP0
  refine aw_lw (lw' := [some (.ref h), some (.int (nI i)), some (.int (nI 6)), some (.int (nI fa)), some (.int (nI gb))]) rfl ?_
  refine aw_iload_n C dc_S_combine_0 rfl ?_
  refine kc_v (fun _ h => h) (fun _ h => h) (kc_S (n := 1) C hX (xw_k ca_le) (s_checkShelf l D _ _ _ _ i hi) kw_146 kw_144 kw_145 kw_1 (by unfold kd_; decide) ⟨rfl, rfl, by decide, by decide⟩ rfl rfl (Nat.le_of_ble_eq_true rfl) ⟨Nat.zero_le _, Nat.zero_le _⟩ dc_S_combine_1) ?_
  refine aw_iload_n C dc_S_combine_4 rfl ?_
  refine kc_v (fun _ h => h) (fun _ h => h) (kc_S (n := 1) C hX (xw_k ca_le) (s_checkShelf l D _ _ _ _ fa hfa) kw_146 kw_144 kw_145 kw_1 (by unfold kd_; decide) ⟨rfl, rfl, by decide, by decide⟩ rfl rfl (Nat.le_of_ble_eq_true rfl) ⟨Nat.zero_le _, Nat.zero_le _⟩ dc_S_combine_5) ?_
  refine aw_iload C dc_S_combine_8 rfl ?_
  refine kc_v (fun _ h => h) (fun _ h => h) (kc_S (n := 1) C hX (xw_k ca_le) (s_checkShelf l D _ _ _ _ gb hgb) kw_146 kw_144 kw_145 kw_1 (by unfold kd_; decide) ⟨rfl, rfl, by decide, by decide⟩ rfl rfl (Nat.le_of_ble_eq_true rfl) ⟨Nat.zero_le _, Nat.zero_le _⟩ dc_S_combine_10) ?_
  refine aw_iload_n C dc_S_combine_13 rfl ?_
  refine aw_iconst C dc_S_combine_14 (v := nI 0) rfl ?_
  refine aw_bipush C dc_S_combine_15 (v := nI 8) rfl ?_
  refine kc_v (fun _ h => h) (fun _ h => h) (kc_S (n := 3) C hX (xw_k ca_le) (s_checkRange l D _ _ _ _ (nI 6) (nI 0) (nI 8) (by decide) (by decide)) kw_221 kw_219 kw_220 kw_1 (by unfold kd_; decide) ⟨rfl, rfl, by decide, by decide⟩ rfl rfl (Nat.le_of_ble_eq_true rfl) ⟨Nat.zero_le _, Nat.zero_le _⟩ dc_S_combine_17) ?_
  refine aw_iload_n C dc_S_combine_20 rfl ?_
  refine aw_bipush C dc_S_combine_21 (v := nI 7) rfl ?_
  refine aw_icmp_eq C dc_S_combine_23 (tgt := 32) (by decide) (fun h9 => absurd h9 (by decide)) (fun _ => ?_)
  refine aw_iload_n C dc_S_combine_26 rfl ?_
  refine aw_bipush C dc_S_combine_27 (v := nI 8) rfl ?_
  refine aw_icmp_ne C dc_S_combine_29 (tgt := 42) (by decide) (fun _ => ?_) (fun h9 => absurd h9 (by decide))
  refine aw_aload_n C dc_S_combine_42 rfl ?_
  refine aw_get C (fun w h => List.mem_cons_of_mem _ (ly_S w h)) 0 sy_p0 rfl 1 (by decide) (C.1.2.2.2.2 _ (List.mem_cons_of_mem _ kw_117)) (fun _ h => h) rfl dc_S_combine_43 ?_
  refine aw_aload_n C dc_S_combine_46 rfl ?_
  refine aw_get C (fun w h => List.mem_cons_of_mem _ (ly_S w h)) 0 sy_p0 rfl 5 (by decide) (C.1.2.2.2.2 _ (List.mem_cons_of_mem _ kw_121)) (fun _ h => h) rfl dc_S_combine_47 ?_
  refine aw_iload_n C dc_S_combine_50 rfl ?_
  refine aw_aload_n C dc_S_combine_51 rfl ?_
  refine aw_get C (fun w h => List.mem_cons_of_mem _ (ly_S w h)) 0 sy_p0 rfl 0 (by decide) (C.1.2.2.2.2 _ (List.mem_cons_of_mem _ kw_116)) (fun _ h => h) rfl dc_S_combine_52 ?_
  refine aw_iload_n C dc_S_combine_55 rfl ?_
  refine aw_aald C 1 2 sy_p1 rfl fa rfl hfa (by decide) (y := h + sh fa) rfl dc_S_combine_56 ?_
  refine aw_aload_n C dc_S_combine_57 rfl ?_
  refine aw_get C (fun w h => List.mem_cons_of_mem _ (ly_S w h)) 0 sy_p0 rfl 0 (by decide) (C.1.2.2.2.2 _ (List.mem_cons_of_mem _ kw_116)) (fun _ h => h) rfl dc_S_combine_58 ?_
  refine aw_iload C dc_S_combine_61 rfl ?_
  refine aw_aald C 1 2 sy_p1 rfl gb rfl hgb (by decide) (y := h + sh gb) rfl dc_S_combine_63 ?_
  refine kc_v (fun _ h => h) (fun _ h => h) (kc_V (n := 4) C hX (xw_k ca_le) rfl 2 sy_p2 rfl (a_comb6 l D h th cI cL cF I J sh fr en fr hs.1 (sh fa) (hs.2.2.2 fa hfa).1 (hs.2.2.2 fa hfa).2.2.2 (sh gb) (hs.2.2.2 gb hgb).1 (hs.2.2.2 gb hgb).2.2.2 hs.2.1 hs.2.2.1 (hs.2.2.2 fa hfa).2.1 (hs.2.2.2 fa hfa).2.2.1 (hs.2.2.2 gb hgb).2.1 (hs.2.2.2 gb hgb).2.2.1) kw_322 kw_319 kw_320 kw_321 kw_2 rfl (by unfold kd_; decide) ⟨rfl, rfl, by decide, by decide⟩ rfl rfl (Nat.le_of_ble_eq_true rfl) ⟨Nat.zero_le _, Nat.zero_le _⟩ dc_S_combine_64) ?_
  refine aw_aload_n C dc_S_combine_67 rfl ?_
  refine aw_iload_n C dc_S_combine_68 rfl ?_
  refine kc_i (fun _ h => h) (fun _ h => h) (kc_V (n := 1) C hX (xw_k ca_le) rfl 0 sy_p0 rfl (s_shelveFresh l D h th cI cL cF I (subJ_ (closeJ_ (copyJ_ J 3 (sh gb)) 3 false) fr (sh fa) 3) sh fr en hs i hi) kw_406 kw_403 kw_405 (tw_sel (q := (my_S_shelveFresh, 6)) (by decide +kernel)) kw_1 rfl (by unfold kd_; decide) ⟨rfl, rfl, by decide, by decide⟩ rfl rfl (Nat.le_of_ble_eq_true rfl) ⟨Nat.zero_le _, Nat.zero_le _⟩ dc_S_combine_69) ?_
  exact kc_iret C hr rfl (fun _ h => h) dc_S_combine_72
set_option maxHeartbeats 4000000 in
set_option maxRecDepth 100000 in
theorem s_combine7 (l : Launch) (D : va_G) (h th : Nat) (cI cL cF : ClassId) (I : Nat → Nat → Int32) (J : Nat → Nat → Int64) (sh : Nat → Nat) (fr : Nat) (en : Int32) (hs : shok_ sh fr) (i : Nat) (hi : i < 10) (fa : Nat) (hfa : fa < 10) (gb : Nat) (hgb : gb < 10) (hdiv : ¬ tw64_ (J (sh gb + 1)) 64 = 0) : ki_ l my_S_combine (Cond.code my_S_combine bc_S_combine 5 (some .int) :: tw_) ({ frames := 6, cells := 0, slots := 0, locals := 137 }) D (ty_s cI cL cF) (xw_ h th) (ca_ h) [.ref h, .int (nI i), .int (nI 7), .int (nI fa), .int (nI gb)] (kp_ D h cI cL cF I J sh fr en) (kp_ D h cI cL cF I (divJ_ J fr (sh fa) (sh gb)) (va_up sh i fr) (sh i) en) (nI (tw64_ ((divJ_ J fr (sh fa) (sh gb)) (fr + 1)) 64)) := by
  refine aw_met (A := ca_ h) (own := "FamilyShelf") (by decide) rfl rfl (Nat.le_of_ble_eq_true rfl) ?_
  intro p9 e s m args below meth c C hr hX hP0
  refine aw_lw (lw' := [some (.ref h), some (.int (nI i)), some (.int (nI 7)), some (.int (nI fa)), some (.int (nI gb))]) rfl ?_
  refine aw_iload_n C dc_S_combine_0 rfl ?_
  refine kc_v (fun _ h => h) (fun _ h => h) (kc_S (n := 1) C hX (xw_k ca_le) (s_checkShelf l D _ _ _ _ i hi) kw_146 kw_144 kw_145 kw_1 (by unfold kd_; decide) ⟨rfl, rfl, by decide, by decide⟩ rfl rfl (Nat.le_of_ble_eq_true rfl) ⟨Nat.zero_le _, Nat.zero_le _⟩ dc_S_combine_1) ?_
  refine aw_iload_n C dc_S_combine_4 rfl ?_
  refine kc_v (fun _ h => h) (fun _ h => h) (kc_S (n := 1) C hX (xw_k ca_le) (s_checkShelf l D _ _ _ _ fa hfa) kw_146 kw_144 kw_145 kw_1 (by unfold kd_; decide) ⟨rfl, rfl, by decide, by decide⟩ rfl rfl (Nat.le_of_ble_eq_true rfl) ⟨Nat.zero_le _, Nat.zero_le _⟩ dc_S_combine_5) ?_
  refine aw_iload C dc_S_combine_8 rfl ?_
  refine kc_v (fun _ h => h) (fun _ h => h) (kc_S (n := 1) C hX (xw_k ca_le) (s_checkShelf l D _ _ _ _ gb hgb) kw_146 kw_144 kw_145 kw_1 (by unfold kd_; decide) ⟨rfl, rfl, by decide, by decide⟩ rfl rfl (Nat.le_of_ble_eq_true rfl) ⟨Nat.zero_le _, Nat.zero_le _⟩ dc_S_combine_10) ?_
  refine aw_iload_n C dc_S_combine_13 rfl ?_
  refine aw_iconst C dc_S_combine_14 (v := nI 0) rfl ?_
  refine aw_bipush C dc_S_combine_15 (v := nI 8) rfl ?_
  refine kc_v (fun _ h => h) (fun _ h => h) (kc_S (n := 3) C hX (xw_k ca_le) (s_checkRange l D _ _ _ _ (nI 7) (nI 0) (nI 8) (by decide) (by decide)) kw_221 kw_219 kw_220 kw_1 (by unfold kd_; decide) ⟨rfl, rfl, by decide, by decide⟩ rfl rfl (Nat.le_of_ble_eq_true rfl) ⟨Nat.zero_le _, Nat.zero_le _⟩ dc_S_combine_17) ?_
  refine aw_iload_n C dc_S_combine_20 rfl ?_
  refine aw_bipush C dc_S_combine_21 (v := nI 7) rfl ?_
  refine aw_icmp_eq C dc_S_combine_23 (tgt := 32) (by decide) (fun _ => ?_) (fun h9 => absurd (rfl) h9)
  refine aw_aload_n C dc_S_combine_32 rfl ?_
  refine aw_get C (fun w h => List.mem_cons_of_mem _ (ly_S w h)) 0 sy_p0 rfl 0 (by decide) (C.1.2.2.2.2 _ (List.mem_cons_of_mem _ kw_116)) (fun _ h => h) rfl dc_S_combine_33 ?_
  refine aw_iload C dc_S_combine_36 rfl ?_
  refine aw_aald C 1 2 sy_p1 rfl gb rfl hgb (by decide) (y := h + sh gb) rfl dc_S_combine_38 ?_
  refine kc_v (fun _ h => h) (fun _ h => h) (kc_S (n := 1) C hX (xw_k ca_le) (s_checkDivisor l D h th cI cL cF I J sh fr en (sh gb) (hs.2.2.2 gb hgb).1 hdiv) kw_302 kw_300 kw_301 kw_1 (by unfold kd_; decide) ⟨rfl, rfl, by decide, by decide⟩ rfl rfl (Nat.le_of_ble_eq_true rfl) ⟨Nat.zero_le _, Nat.zero_le _⟩ dc_S_combine_39) ?_
  refine aw_aload_n C dc_S_combine_42 rfl ?_
  refine aw_get C (fun w h => List.mem_cons_of_mem _ (ly_S w h)) 0 sy_p0 rfl 1 (by decide) (C.1.2.2.2.2 _ (List.mem_cons_of_mem _ kw_117)) (fun _ h => h) rfl dc_S_combine_43 ?_
  refine aw_aload_n C dc_S_combine_46 rfl ?_
  refine aw_get C (fun w h => List.mem_cons_of_mem _ (ly_S w h)) 0 sy_p0 rfl 5 (by decide) (C.1.2.2.2.2 _ (List.mem_cons_of_mem _ kw_121)) (fun _ h => h) rfl dc_S_combine_47 ?_
  refine aw_iload_n C dc_S_combine_50 rfl ?_
  refine aw_aload_n C dc_S_combine_51 rfl ?_
  refine aw_get C (fun w h => List.mem_cons_of_mem _ (ly_S w h)) 0 sy_p0 rfl 0 (by decide) (C.1.2.2.2.2 _ (List.mem_cons_of_mem _ kw_116)) (fun _ h => h) rfl dc_S_combine_52 ?_
  refine aw_iload_n C dc_S_combine_55 rfl ?_
  refine aw_aald C 1 2 sy_p1 rfl fa rfl hfa (by decide) (y := h + sh fa) rfl dc_S_combine_56 ?_
  refine aw_aload_n C dc_S_combine_57 rfl ?_
  refine aw_get C (fun w h => List.mem_cons_of_mem _ (ly_S w h)) 0 sy_p0 rfl 0 (by decide) (C.1.2.2.2.2 _ (List.mem_cons_of_mem _ kw_116)) (fun _ h => h) rfl dc_S_combine_58 ?_
  refine aw_iload C dc_S_combine_61 rfl ?_
  refine aw_aald C 1 2 sy_p1 rfl gb rfl hgb (by decide) (y := h + sh gb) rfl dc_S_combine_63 ?_
  refine kc_v (fun _ h => h) (fun _ h => h) (kc_V (n := 4) C hX (xw_k ca_le) rfl 2 sy_p2 rfl (a_comb7 l D h th cI cL cF I J sh fr en fr hs.1 (sh fa) (hs.2.2.2 fa hfa).1 (hs.2.2.2 fa hfa).2.2.2 (sh gb) (hs.2.2.2 gb hgb).1 (hs.2.2.2 gb hgb).2.2.2 hs.2.1 hs.2.2.1 (hs.2.2.2 fa hfa).2.1 (hs.2.2.2 fa hfa).2.2.1 (hs.2.2.2 gb hgb).2.1 (hs.2.2.2 gb hgb).2.2.1) kw_322 kw_319 kw_320 kw_321 kw_2 rfl (by unfold kd_; decide) ⟨rfl, rfl, by decide, by decide⟩ rfl rfl (Nat.le_of_ble_eq_true rfl) ⟨Nat.zero_le _, Nat.zero_le _⟩ dc_S_combine_64) ?_
  refine aw_aload_n C dc_S_combine_67 rfl ?_
  refine aw_iload_n C dc_S_combine_68 rfl ?_
  refine kc_i (fun _ h => h) (fun _ h => h) (kc_V (n := 1) C hX (xw_k ca_le) rfl 0 sy_p0 rfl (s_shelveFresh l D h th cI cL cF I (divJ_ J fr (sh fa) (sh gb)) sh fr en hs i hi) kw_406 kw_403 kw_405 (tw_sel (q := (my_S_shelveFresh, 6)) (by decide +kernel)) kw_1 rfl (by unfold kd_; decide) ⟨rfl, rfl, by decide, by decide⟩ rfl rfl (Nat.le_of_ble_eq_true rfl) ⟨Nat.zero_le _, Nat.zero_le _⟩ dc_S_combine_69) ?_
  exact kc_iret C hr rfl (fun _ h => h) dc_S_combine_72
set_option maxHeartbeats 4000000 in
set_option maxRecDepth 100000 in
theorem s_combine8 (l : Launch) (D : va_G) (h th : Nat) (cI cL cF : ClassId) (I : Nat → Nat → Int32) (J : Nat → Nat → Int64) (sh : Nat → Nat) (fr : Nat) (en : Int32) (hs : shok_ sh fr) (i : Nat) (hi : i < 10) (fa : Nat) (hfa : fa < 10) (gb : Nat) (hgb : gb < 10) (hdiv : ¬ tw64_ (J (sh gb + 1)) 64 = 0) : ki_ l my_S_combine (Cond.code my_S_combine bc_S_combine 5 (some .int) :: tw_) ({ frames := 6, cells := 0, slots := 0, locals := 137 }) D (ty_s cI cL cF) (xw_ h th) (ca_ h) [.ref h, .int (nI i), .int (nI 8), .int (nI fa), .int (nI gb)] (kp_ D h cI cL cF I J sh fr en) (kp_ D h cI cL cF I (subJ_ (pairJ_ (divJ_ J 5 (sh fa) (sh gb)) 3 5 (sh gb) true) fr (sh fa) 3) (va_up sh i fr) (sh i) en) (nI (tw64_ ((subJ_ (pairJ_ (divJ_ J 5 (sh fa) (sh gb)) 3 5 (sh gb) true) fr (sh fa) 3) (fr + 1)) 64)) := by
  refine aw_met (A := ca_ h) (own := "FamilyShelf") (by decide) rfl rfl (Nat.le_of_ble_eq_true rfl) ?_
  intro p9 e s m args below meth c C hr hX hP0
  refine aw_lw (lw' := [some (.ref h), some (.int (nI i)), some (.int (nI 8)), some (.int (nI fa)), some (.int (nI gb))]) rfl ?_
  refine aw_iload_n C dc_S_combine_0 rfl ?_
  refine kc_v (fun _ h => h) (fun _ h => h) (kc_S (n := 1) C hX (xw_k ca_le) (s_checkShelf l D _ _ _ _ i hi) kw_146 kw_144 kw_145 kw_1 (by unfold kd_; decide) ⟨rfl, rfl, by decide, by decide⟩ rfl rfl (Nat.le_of_ble_eq_true rfl) ⟨Nat.zero_le _, Nat.zero_le _⟩ dc_S_combine_1) ?_
  refine aw_iload_n C dc_S_combine_4 rfl ?_
  refine kc_v (fun _ h => h) (fun _ h => h) (kc_S (n := 1) C hX (xw_k ca_le) (s_checkShelf l D _ _ _ _ fa hfa) kw_146 kw_144 kw_145 kw_1 (by unfold kd_; decide) ⟨rfl, rfl, by decide, by decide⟩ rfl rfl (Nat.le_of_ble_eq_true rfl) ⟨Nat.zero_le _, Nat.zero_le _⟩ dc_S_combine_5) ?_
  refine aw_iload C dc_S_combine_8 rfl ?_
  refine kc_v (fun _ h => h) (fun _ h => h) (kc_S (n := 1) C hX (xw_k ca_le) (s_checkShelf l D _ _ _ _ gb hgb) kw_146 kw_144 kw_145 kw_1 (by unfold kd_; decide) ⟨rfl, rfl, by decide, by decide⟩ rfl rfl (Nat.le_of_ble_eq_true rfl) ⟨Nat.zero_le _, Nat.zero_le _⟩ dc_S_combine_10) ?_
  refine aw_iload_n C dc_S_combine_13 rfl ?_
  refine aw_iconst C dc_S_combine_14 (v := nI 0) rfl ?_
  refine aw_bipush C dc_S_combine_15 (v := nI 8) rfl ?_
  refine kc_v (fun _ h => h) (fun _ h => h) (kc_S (n := 3) C hX (xw_k ca_le) (s_checkRange l D _ _ _ _ (nI 8) (nI 0) (nI 8) (by decide) (by decide)) kw_221 kw_219 kw_220 kw_1 (by unfold kd_; decide) ⟨rfl, rfl, by decide, by decide⟩ rfl rfl (Nat.le_of_ble_eq_true rfl) ⟨Nat.zero_le _, Nat.zero_le _⟩ dc_S_combine_17) ?_
  refine aw_iload_n C dc_S_combine_20 rfl ?_
  refine aw_bipush C dc_S_combine_21 (v := nI 7) rfl ?_
  refine aw_icmp_eq C dc_S_combine_23 (tgt := 32) (by decide) (fun h9 => absurd h9 (by decide)) (fun _ => ?_)
  refine aw_iload_n C dc_S_combine_26 rfl ?_
  refine aw_bipush C dc_S_combine_27 (v := nI 8) rfl ?_
  refine aw_icmp_ne C dc_S_combine_29 (tgt := 42) (by decide) (fun h9 => absurd (rfl) h9) (fun _ => ?_)
  refine aw_aload_n C dc_S_combine_32 rfl ?_
  refine aw_get C (fun w h => List.mem_cons_of_mem _ (ly_S w h)) 0 sy_p0 rfl 0 (by decide) (C.1.2.2.2.2 _ (List.mem_cons_of_mem _ kw_116)) (fun _ h => h) rfl dc_S_combine_33 ?_
  refine aw_iload C dc_S_combine_36 rfl ?_
  refine aw_aald C 1 2 sy_p1 rfl gb rfl hgb (by decide) (y := h + sh gb) rfl dc_S_combine_38 ?_
  refine kc_v (fun _ h => h) (fun _ h => h) (kc_S (n := 1) C hX (xw_k ca_le) (s_checkDivisor l D h th cI cL cF I J sh fr en (sh gb) (hs.2.2.2 gb hgb).1 hdiv) kw_302 kw_300 kw_301 kw_1 (by unfold kd_; decide) ⟨rfl, rfl, by decide, by decide⟩ rfl rfl (Nat.le_of_ble_eq_true rfl) ⟨Nat.zero_le _, Nat.zero_le _⟩ dc_S_combine_39) ?_
  refine aw_aload_n C dc_S_combine_42 rfl ?_
  refine aw_get C (fun w h => List.mem_cons_of_mem _ (ly_S w h)) 0 sy_p0 rfl 1 (by decide) (C.1.2.2.2.2 _ (List.mem_cons_of_mem _ kw_117)) (fun _ h => h) rfl dc_S_combine_43 ?_
  refine aw_aload_n C dc_S_combine_46 rfl ?_
  refine aw_get C (fun w h => List.mem_cons_of_mem _ (ly_S w h)) 0 sy_p0 rfl 5 (by decide) (C.1.2.2.2.2 _ (List.mem_cons_of_mem _ kw_121)) (fun _ h => h) rfl dc_S_combine_47 ?_
  refine aw_iload_n C dc_S_combine_50 rfl ?_
  refine aw_aload_n C dc_S_combine_51 rfl ?_
  refine aw_get C (fun w h => List.mem_cons_of_mem _ (ly_S w h)) 0 sy_p0 rfl 0 (by decide) (C.1.2.2.2.2 _ (List.mem_cons_of_mem _ kw_116)) (fun _ h => h) rfl dc_S_combine_52 ?_
  refine aw_iload_n C dc_S_combine_55 rfl ?_
  refine aw_aald C 1 2 sy_p1 rfl fa rfl hfa (by decide) (y := h + sh fa) rfl dc_S_combine_56 ?_
  refine aw_aload_n C dc_S_combine_57 rfl ?_
  refine aw_get C (fun w h => List.mem_cons_of_mem _ (ly_S w h)) 0 sy_p0 rfl 0 (by decide) (C.1.2.2.2.2 _ (List.mem_cons_of_mem _ kw_116)) (fun _ h => h) rfl dc_S_combine_58 ?_
  refine aw_iload C dc_S_combine_61 rfl ?_
  refine aw_aald C 1 2 sy_p1 rfl gb rfl hgb (by decide) (y := h + sh gb) rfl dc_S_combine_63 ?_
  refine kc_v (fun _ h => h) (fun _ h => h) (kc_V (n := 4) C hX (xw_k ca_le) rfl 2 sy_p2 rfl (a_comb8 l D h th cI cL cF I J sh fr en fr hs.1 (sh fa) (hs.2.2.2 fa hfa).1 (hs.2.2.2 fa hfa).2.2.2 (sh gb) (hs.2.2.2 gb hgb).1 (hs.2.2.2 gb hgb).2.2.2 hs.2.1 hs.2.2.1 (hs.2.2.2 fa hfa).2.1 (hs.2.2.2 fa hfa).2.2.1 (hs.2.2.2 gb hgb).2.1 (hs.2.2.2 gb hgb).2.2.1) kw_322 kw_319 kw_320 kw_321 kw_2 rfl (by unfold kd_; decide) ⟨rfl, rfl, by decide, by decide⟩ rfl rfl (Nat.le_of_ble_eq_true rfl) ⟨Nat.zero_le _, Nat.zero_le _⟩ dc_S_combine_64) ?_
  refine aw_aload_n C dc_S_combine_67 rfl ?_
  refine aw_iload_n C dc_S_combine_68 rfl ?_
  refine kc_i (fun _ h => h) (fun _ h => h) (kc_V (n := 1) C hX (xw_k ca_le) rfl 0 sy_p0 rfl (s_shelveFresh l D h th cI cL cF I (subJ_ (pairJ_ (divJ_ J 5 (sh fa) (sh gb)) 3 5 (sh gb) true) fr (sh fa) 3) sh fr en hs i hi) kw_406 kw_403 kw_405 (tw_sel (q := (my_S_shelveFresh, 6)) (by decide +kernel)) kw_1 rfl (by unfold kd_; decide) ⟨rfl, rfl, by decide, by decide⟩ rfl rfl (Nat.le_of_ble_eq_true rfl) ⟨Nat.zero_le _, Nat.zero_le _⟩ dc_S_combine_69) ?_
  exact kc_iret C hr rfl (fun _ h => h) dc_S_combine_72
set_option maxHeartbeats 4000000 in
set_option maxRecDepth 100000 in
theorem s_change0 (l : Launch) (D : va_G) (h th : Nat) (cI cL cF : ClassId) (I : Nat → Nat → Int32) (J : Nat → Nat → Int64) (sh : Nat → Nat) (fr : Nat) (en : Int32) (hs : shok_ sh fr) (i : Nat) (hi : i < 10) (fa : Nat) (hfa : fa < 10) (el : Nat) (hel : el < 12) : ki_ l my_S_change (Cond.code my_S_change bc_S_change 5 (some .int) :: tw_) ({ frames := 4, cells := 0, slots := 0, locals := 92 }) D (ty_s cI cL cF) (xw_ h th) (ca_ h) [.ref h, .int (nI i), .int (nI 0), .int (nI fa), .int (nI el)] (kp_ D h cI cL cF I J sh fr en) (kp_ D h cI cL cF I (setJ_ J fr (chg_ 0 (J (sh fa + 1)) (11 - el))) (va_up sh i fr) (sh i) en) (nI (tw64_ ((setJ_ J fr (chg_ 0 (J (sh fa + 1)) (11 - el))) (fr + 1)) 64)) := by
  refine aw_met (A := ca_ h) (own := "FamilyShelf") (by decide) rfl rfl (Nat.le_of_ble_eq_true rfl) ?_
  intro p9 e s m args below meth c C hr hX hP0
  refine aw_lw (lw' := [some (.ref h), some (.int (nI i)), some (.int (nI 0)), some (.int (nI fa)), some (.int (nI el))]) rfl ?_
  refine aw_iload_n C dc_S_change_0 rfl ?_
  refine kc_v (fun _ h => h) (fun _ h => h) (kc_S (n := 1) C hX (xw_k ca_le) (s_checkShelf l D _ _ _ _ i hi) kw_146 kw_144 kw_145 kw_1 (by unfold kd_; decide) ⟨rfl, rfl, by decide, by decide⟩ rfl rfl (Nat.le_of_ble_eq_true rfl) ⟨Nat.zero_le _, Nat.zero_le _⟩ dc_S_change_1) ?_
  refine aw_iload_n C dc_S_change_4 rfl ?_
  refine kc_v (fun _ h => h) (fun _ h => h) (kc_S (n := 1) C hX (xw_k ca_le) (s_checkShelf l D _ _ _ _ fa hfa) kw_146 kw_144 kw_145 kw_1 (by unfold kd_; decide) ⟨rfl, rfl, by decide, by decide⟩ rfl rfl (Nat.le_of_ble_eq_true rfl) ⟨Nat.zero_le _, Nat.zero_le _⟩ dc_S_change_5) ?_
  refine aw_iload C dc_S_change_8 rfl ?_
  refine kc_v (fun _ h => h) (fun _ h => h) (kc_S (n := 1) C hX (xw_k ca_le) (s_checkElement l D _ _ _ _ el hel) kw_416 kw_414 kw_415 kw_1 (by unfold kd_; decide) ⟨rfl, rfl, by decide, by decide⟩ rfl rfl (Nat.le_of_ble_eq_true rfl) ⟨Nat.zero_le _, Nat.zero_le _⟩ dc_S_change_10) ?_
  refine aw_iload_n C dc_S_change_13 rfl ?_
  refine aw_iconst C dc_S_change_14 (v := nI 0) rfl ?_
  refine aw_iconst C dc_S_change_15 (v := nI 2) rfl ?_
  refine kc_v (fun _ h => h) (fun _ h => h) (kc_S (n := 3) C hX (xw_k ca_le) (s_checkRange l D _ _ _ _ (nI 0) (nI 0) (nI 2) (by decide) (by decide)) kw_221 kw_219 kw_220 kw_1 (by unfold kd_; decide) ⟨rfl, rfl, by decide, by decide⟩ rfl rfl (Nat.le_of_ble_eq_true rfl) ⟨Nat.zero_le _, Nat.zero_le _⟩ dc_S_change_16) ?_
  refine aw_aload_n C dc_S_change_19 rfl ?_
  refine aw_get C (fun w h => List.mem_cons_of_mem _ (ly_S w h)) 0 sy_p0 rfl 1 (by decide) (C.1.2.2.2.2 _ (List.mem_cons_of_mem _ kw_117)) (fun _ h => h) rfl dc_S_change_20 ?_
  refine aw_aload_n C dc_S_change_23 rfl ?_
  refine aw_get C (fun w h => List.mem_cons_of_mem _ (ly_S w h)) 0 sy_p0 rfl 5 (by decide) (C.1.2.2.2.2 _ (List.mem_cons_of_mem _ kw_121)) (fun _ h => h) rfl dc_S_change_24 ?_
  refine aw_iload_n C dc_S_change_27 rfl ?_
  refine aw_aload_n C dc_S_change_28 rfl ?_
  refine aw_get C (fun w h => List.mem_cons_of_mem _ (ly_S w h)) 0 sy_p0 rfl 0 (by decide) (C.1.2.2.2.2 _ (List.mem_cons_of_mem _ kw_116)) (fun _ h => h) rfl dc_S_change_29 ?_
  refine aw_iload_n C dc_S_change_32 rfl ?_
  refine aw_aald C 1 2 sy_p1 rfl fa rfl hfa (by decide) (y := h + sh fa) rfl dc_S_change_33 ?_
  refine aw_iload C dc_S_change_34 rfl ?_
  refine kc_i (fun _ h => h) (fun _ h => h) (kc_S (n := 1) C hX (xw_k ca_le) (s_bitOf l D _ _ _ _ el hel) kw_243 kw_241 kw_242 kw_1 (by unfold kd_; decide) ⟨rfl, rfl, by decide, by decide⟩ rfl rfl (Nat.le_of_ble_eq_true rfl) ⟨Nat.zero_le _, Nat.zero_le _⟩ dc_S_change_36) ?_
  refine kc_v (fun _ h => h) (fun _ h => h) (kc_V (n := 4) C hX (xw_k ca_le) rfl 2 sy_p2 rfl (a_change0 l D h th cI cL cF I J sh fr en fr hs.1 (sh fa) (hs.2.2.2 fa hfa).1 (hs.2.2.2 fa hfa).2.2.2 (11 - el) (by omega)) kw_421 kw_418 kw_419 kw_420 kw_2 rfl (by unfold kd_; decide) ⟨rfl, rfl, by decide, by decide⟩ rfl rfl (Nat.le_of_ble_eq_true rfl) ⟨Nat.zero_le _, Nat.zero_le _⟩ dc_S_change_39) ?_
  refine aw_aload_n C dc_S_change_42 rfl ?_
  refine aw_iload_n C dc_S_change_43 rfl ?_
  refine kc_i (fun _ h => h) (fun _ h => h) (kc_V (n := 1) C hX (xw_k ca_le) rfl 0 sy_p0 rfl (s_shelveFresh l D h th cI cL cF I (setJ_ J fr (chg_ 0 (J (sh fa + 1)) (11 - el))) sh fr en hs i hi) kw_406 kw_403 kw_405 (tw_sel (q := (my_S_shelveFresh, 6)) (by decide +kernel)) kw_1 rfl (by unfold kd_; decide) ⟨rfl, rfl, by decide, by decide⟩ rfl rfl (Nat.le_of_ble_eq_true rfl) ⟨Nat.zero_le _, Nat.zero_le _⟩ dc_S_change_44) ?_
  exact kc_iret C hr rfl (fun _ h => h) dc_S_change_47
set_option maxHeartbeats 4000000 in
set_option maxRecDepth 100000 in
theorem s_change1 (l : Launch) (D : va_G) (h th : Nat) (cI cL cF : ClassId) (I : Nat → Nat → Int32) (J : Nat → Nat → Int64) (sh : Nat → Nat) (fr : Nat) (en : Int32) (hs : shok_ sh fr) (i : Nat) (hi : i < 10) (fa : Nat) (hfa : fa < 10) (el : Nat) (hel : el < 12) : ki_ l my_S_change (Cond.code my_S_change bc_S_change 5 (some .int) :: tw_) ({ frames := 4, cells := 0, slots := 0, locals := 92 }) D (ty_s cI cL cF) (xw_ h th) (ca_ h) [.ref h, .int (nI i), .int (nI 1), .int (nI fa), .int (nI el)] (kp_ D h cI cL cF I J sh fr en) (kp_ D h cI cL cF I (setJ_ J fr (chg_ 1 (J (sh fa + 1)) (11 - el))) (va_up sh i fr) (sh i) en) (nI (tw64_ ((setJ_ J fr (chg_ 1 (J (sh fa + 1)) (11 - el))) (fr + 1)) 64)) := by
  refine aw_met (A := ca_ h) (own := "FamilyShelf") (by decide) rfl rfl (Nat.le_of_ble_eq_true rfl) ?_
  intro p9 e s m args below meth c C hr hX hP0
  refine aw_lw (lw' := [some (.ref h), some (.int (nI i)), some (.int (nI 1)), some (.int (nI fa)), some (.int (nI el))]) rfl ?_
  refine aw_iload_n C dc_S_change_0 rfl ?_
  refine kc_v (fun _ h => h) (fun _ h => h) (kc_S (n := 1) C hX (xw_k ca_le) (s_checkShelf l D _ _ _ _ i hi) kw_146 kw_144 kw_145 kw_1 (by unfold kd_; decide) ⟨rfl, rfl, by decide, by decide⟩ rfl rfl (Nat.le_of_ble_eq_true rfl) ⟨Nat.zero_le _, Nat.zero_le _⟩ dc_S_change_1) ?_
  refine aw_iload_n C dc_S_change_4 rfl ?_
  refine kc_v (fun _ h => h) (fun _ h => h) (kc_S (n := 1) C hX (xw_k ca_le) (s_checkShelf l D _ _ _ _ fa hfa) kw_146 kw_144 kw_145 kw_1 (by unfold kd_; decide) ⟨rfl, rfl, by decide, by decide⟩ rfl rfl (Nat.le_of_ble_eq_true rfl) ⟨Nat.zero_le _, Nat.zero_le _⟩ dc_S_change_5) ?_
  refine aw_iload C dc_S_change_8 rfl ?_
  refine kc_v (fun _ h => h) (fun _ h => h) (kc_S (n := 1) C hX (xw_k ca_le) (s_checkElement l D _ _ _ _ el hel) kw_416 kw_414 kw_415 kw_1 (by unfold kd_; decide) ⟨rfl, rfl, by decide, by decide⟩ rfl rfl (Nat.le_of_ble_eq_true rfl) ⟨Nat.zero_le _, Nat.zero_le _⟩ dc_S_change_10) ?_
  refine aw_iload_n C dc_S_change_13 rfl ?_
  refine aw_iconst C dc_S_change_14 (v := nI 0) rfl ?_
  refine aw_iconst C dc_S_change_15 (v := nI 2) rfl ?_
  refine kc_v (fun _ h => h) (fun _ h => h) (kc_S (n := 3) C hX (xw_k ca_le) (s_checkRange l D _ _ _ _ (nI 1) (nI 0) (nI 2) (by decide) (by decide)) kw_221 kw_219 kw_220 kw_1 (by unfold kd_; decide) ⟨rfl, rfl, by decide, by decide⟩ rfl rfl (Nat.le_of_ble_eq_true rfl) ⟨Nat.zero_le _, Nat.zero_le _⟩ dc_S_change_16) ?_
  refine aw_aload_n C dc_S_change_19 rfl ?_
  refine aw_get C (fun w h => List.mem_cons_of_mem _ (ly_S w h)) 0 sy_p0 rfl 1 (by decide) (C.1.2.2.2.2 _ (List.mem_cons_of_mem _ kw_117)) (fun _ h => h) rfl dc_S_change_20 ?_
  refine aw_aload_n C dc_S_change_23 rfl ?_
  refine aw_get C (fun w h => List.mem_cons_of_mem _ (ly_S w h)) 0 sy_p0 rfl 5 (by decide) (C.1.2.2.2.2 _ (List.mem_cons_of_mem _ kw_121)) (fun _ h => h) rfl dc_S_change_24 ?_
  refine aw_iload_n C dc_S_change_27 rfl ?_
  refine aw_aload_n C dc_S_change_28 rfl ?_
  refine aw_get C (fun w h => List.mem_cons_of_mem _ (ly_S w h)) 0 sy_p0 rfl 0 (by decide) (C.1.2.2.2.2 _ (List.mem_cons_of_mem _ kw_116)) (fun _ h => h) rfl dc_S_change_29 ?_
  refine aw_iload_n C dc_S_change_32 rfl ?_
  refine aw_aald C 1 2 sy_p1 rfl fa rfl hfa (by decide) (y := h + sh fa) rfl dc_S_change_33 ?_
  refine aw_iload C dc_S_change_34 rfl ?_
  refine kc_i (fun _ h => h) (fun _ h => h) (kc_S (n := 1) C hX (xw_k ca_le) (s_bitOf l D _ _ _ _ el hel) kw_243 kw_241 kw_242 kw_1 (by unfold kd_; decide) ⟨rfl, rfl, by decide, by decide⟩ rfl rfl (Nat.le_of_ble_eq_true rfl) ⟨Nat.zero_le _, Nat.zero_le _⟩ dc_S_change_36) ?_
  refine kc_v (fun _ h => h) (fun _ h => h) (kc_V (n := 4) C hX (xw_k ca_le) rfl 2 sy_p2 rfl (a_change1 l D h th cI cL cF I J sh fr en fr hs.1 (sh fa) (hs.2.2.2 fa hfa).1 (hs.2.2.2 fa hfa).2.2.2 (11 - el) (by omega)) kw_421 kw_418 kw_419 kw_420 kw_2 rfl (by unfold kd_; decide) ⟨rfl, rfl, by decide, by decide⟩ rfl rfl (Nat.le_of_ble_eq_true rfl) ⟨Nat.zero_le _, Nat.zero_le _⟩ dc_S_change_39) ?_
  refine aw_aload_n C dc_S_change_42 rfl ?_
  refine aw_iload_n C dc_S_change_43 rfl ?_
  refine kc_i (fun _ h => h) (fun _ h => h) (kc_V (n := 1) C hX (xw_k ca_le) rfl 0 sy_p0 rfl (s_shelveFresh l D h th cI cL cF I (setJ_ J fr (chg_ 1 (J (sh fa + 1)) (11 - el))) sh fr en hs i hi) kw_406 kw_403 kw_405 (tw_sel (q := (my_S_shelveFresh, 6)) (by decide +kernel)) kw_1 rfl (by unfold kd_; decide) ⟨rfl, rfl, by decide, by decide⟩ rfl rfl (Nat.le_of_ble_eq_true rfl) ⟨Nat.zero_le _, Nat.zero_le _⟩ dc_S_change_44) ?_
  exact kc_iret C hr rfl (fun _ h => h) dc_S_change_47
set_option maxHeartbeats 4000000 in
set_option maxRecDepth 100000 in
theorem s_change2 (l : Launch) (D : va_G) (h th : Nat) (cI cL cF : ClassId) (I : Nat → Nat → Int32) (J : Nat → Nat → Int64) (sh : Nat → Nat) (fr : Nat) (en : Int32) (hs : shok_ sh fr) (i : Nat) (hi : i < 10) (fa : Nat) (hfa : fa < 10) (el : Nat) (hel : el < 12) : ki_ l my_S_change (Cond.code my_S_change bc_S_change 5 (some .int) :: tw_) ({ frames := 4, cells := 0, slots := 0, locals := 92 }) D (ty_s cI cL cF) (xw_ h th) (ca_ h) [.ref h, .int (nI i), .int (nI 2), .int (nI fa), .int (nI el)] (kp_ D h cI cL cF I J sh fr en) (kp_ D h cI cL cF I (setJ_ J fr (chg_ 2 (J (sh fa + 1)) (11 - el))) (va_up sh i fr) (sh i) en) (nI (tw64_ ((setJ_ J fr (chg_ 2 (J (sh fa + 1)) (11 - el))) (fr + 1)) 64)) := by
  refine aw_met (A := ca_ h) (own := "FamilyShelf") (by decide) rfl rfl (Nat.le_of_ble_eq_true rfl) ?_
  intro p9 e s m args below meth c C hr hX hP0
  refine aw_lw (lw' := [some (.ref h), some (.int (nI i)), some (.int (nI 2)), some (.int (nI fa)), some (.int (nI el))]) rfl ?_
  refine aw_iload_n C dc_S_change_0 rfl ?_
  refine kc_v (fun _ h => h) (fun _ h => h) (kc_S (n := 1) C hX (xw_k ca_le) (s_checkShelf l D _ _ _ _ i hi) kw_146 kw_144 kw_145 kw_1 (by unfold kd_; decide) ⟨rfl, rfl, by decide, by decide⟩ rfl rfl (Nat.le_of_ble_eq_true rfl) ⟨Nat.zero_le _, Nat.zero_le _⟩ dc_S_change_1) ?_
  refine aw_iload_n C dc_S_change_4 rfl ?_
  refine kc_v (fun _ h => h) (fun _ h => h) (kc_S (n := 1) C hX (xw_k ca_le) (s_checkShelf l D _ _ _ _ fa hfa) kw_146 kw_144 kw_145 kw_1 (by unfold kd_; decide) ⟨rfl, rfl, by decide, by decide⟩ rfl rfl (Nat.le_of_ble_eq_true rfl) ⟨Nat.zero_le _, Nat.zero_le _⟩ dc_S_change_5) ?_
  refine aw_iload C dc_S_change_8 rfl ?_
  refine kc_v (fun _ h => h) (fun _ h => h) (kc_S (n := 1) C hX (xw_k ca_le) (s_checkElement l D _ _ _ _ el hel) kw_416 kw_414 kw_415 kw_1 (by unfold kd_; decide) ⟨rfl, rfl, by decide, by decide⟩ rfl rfl (Nat.le_of_ble_eq_true rfl) ⟨Nat.zero_le _, Nat.zero_le _⟩ dc_S_change_10) ?_
  refine aw_iload_n C dc_S_change_13 rfl ?_
  refine aw_iconst C dc_S_change_14 (v := nI 0) rfl ?_
  refine aw_iconst C dc_S_change_15 (v := nI 2) rfl ?_
  refine kc_v (fun _ h => h) (fun _ h => h) (kc_S (n := 3) C hX (xw_k ca_le) (s_checkRange l D _ _ _ _ (nI 2) (nI 0) (nI 2) (by decide) (by decide)) kw_221 kw_219 kw_220 kw_1 (by unfold kd_; decide) ⟨rfl, rfl, by decide, by decide⟩ rfl rfl (Nat.le_of_ble_eq_true rfl) ⟨Nat.zero_le _, Nat.zero_le _⟩ dc_S_change_16) ?_
  refine aw_aload_n C dc_S_change_19 rfl ?_
  refine aw_get C (fun w h => List.mem_cons_of_mem _ (ly_S w h)) 0 sy_p0 rfl 1 (by decide) (C.1.2.2.2.2 _ (List.mem_cons_of_mem _ kw_117)) (fun _ h => h) rfl dc_S_change_20 ?_
  refine aw_aload_n C dc_S_change_23 rfl ?_
  refine aw_get C (fun w h => List.mem_cons_of_mem _ (ly_S w h)) 0 sy_p0 rfl 5 (by decide) (C.1.2.2.2.2 _ (List.mem_cons_of_mem _ kw_121)) (fun _ h => h) rfl dc_S_change_24 ?_
  refine aw_iload_n C dc_S_change_27 rfl ?_
  refine aw_aload_n C dc_S_change_28 rfl ?_
  refine aw_get C (fun w h => List.mem_cons_of_mem _ (ly_S w h)) 0 sy_p0 rfl 0 (by decide) (C.1.2.2.2.2 _ (List.mem_cons_of_mem _ kw_116)) (fun _ h => h) rfl dc_S_change_29 ?_
  refine aw_iload_n C dc_S_change_32 rfl ?_
  refine aw_aald C 1 2 sy_p1 rfl fa rfl hfa (by decide) (y := h + sh fa) rfl dc_S_change_33 ?_
  refine aw_iload C dc_S_change_34 rfl ?_
  refine kc_i (fun _ h => h) (fun _ h => h) (kc_S (n := 1) C hX (xw_k ca_le) (s_bitOf l D _ _ _ _ el hel) kw_243 kw_241 kw_242 kw_1 (by unfold kd_; decide) ⟨rfl, rfl, by decide, by decide⟩ rfl rfl (Nat.le_of_ble_eq_true rfl) ⟨Nat.zero_le _, Nat.zero_le _⟩ dc_S_change_36) ?_
  refine kc_v (fun _ h => h) (fun _ h => h) (kc_V (n := 4) C hX (xw_k ca_le) rfl 2 sy_p2 rfl (a_change2 l D h th cI cL cF I J sh fr en fr hs.1 (sh fa) (hs.2.2.2 fa hfa).1 (hs.2.2.2 fa hfa).2.2.2 (11 - el) (by omega)) kw_421 kw_418 kw_419 kw_420 kw_2 rfl (by unfold kd_; decide) ⟨rfl, rfl, by decide, by decide⟩ rfl rfl (Nat.le_of_ble_eq_true rfl) ⟨Nat.zero_le _, Nat.zero_le _⟩ dc_S_change_39) ?_
  refine aw_aload_n C dc_S_change_42 rfl ?_
  refine aw_iload_n C dc_S_change_43 rfl ?_
  refine kc_i (fun _ h => h) (fun _ h => h) (kc_V (n := 1) C hX (xw_k ca_le) rfl 0 sy_p0 rfl (s_shelveFresh l D h th cI cL cF I (setJ_ J fr (chg_ 2 (J (sh fa + 1)) (11 - el))) sh fr en hs i hi) kw_406 kw_403 kw_405 (tw_sel (q := (my_S_shelveFresh, 6)) (by decide +kernel)) kw_1 rfl (by unfold kd_; decide) ⟨rfl, rfl, by decide, by decide⟩ rfl rfl (Nat.le_of_ble_eq_true rfl) ⟨Nat.zero_le _, Nat.zero_le _⟩ dc_S_change_44) ?_
  exact kc_iret C hr rfl (fun _ h => h) dc_S_change_47
set_option maxHeartbeats 4000000 in
set_option maxRecDepth 100000 in
theorem s_extreme (l : Launch) (D : va_G) (h th : Nat) (cI cL cF : ClassId) (I : Nat → Nat → Int32) (J : Nat → Nat → Int64) (sh : Nat → Nat) (fr : Nat) (en : Int32) (hs : shok_ sh fr) (i : Nat) (hi : i < 10) (fa : Nat) (hfa : fa < 10) (dn : Bool) : ki_ l my_S_extreme (Cond.code my_S_extreme bc_S_extreme 4 (some .int) :: tw_) ({ frames := 6, cells := 0, slots := 0, locals := 139 }) D (ty_s cI cL cF) (xw_ h th) (ca_ h) [.ref h, .int (nI i), .int (nI fa), .int (z1_ dn)] (kp_ D h cI cL cF I J sh fr en) (kp_ D h cI cL cF I (va_up (closeJ_ (copyJ_ J 3 (sh fa)) 3 dn) (fr + 1) (wl_ ((closeJ_ (copyJ_ J 3 (sh fa)) 3 dn) (fr + 1)) (exg_ (J (sh fa + 1)) ((closeJ_ (copyJ_ J 3 (sh fa)) 3 dn) 4) dn) 64)) (va_up sh i fr) (sh i) en) (nI (tw64_ ((va_up (closeJ_ (copyJ_ J 3 (sh fa)) 3 dn) (fr + 1) (wl_ ((closeJ_ (copyJ_ J 3 (sh fa)) 3 dn) (fr + 1)) (exg_ (J (sh fa + 1)) ((closeJ_ (copyJ_ J 3 (sh fa)) 3 dn) 4) dn) 64)) (fr + 1)) 64)) := by
  refine aw_met (A := ca_ h) (own := "FamilyShelf") (by decide) rfl rfl (Nat.le_of_ble_eq_true rfl) ?_
  intro p9 e s m args below meth c C hr hX hP0
  refine aw_lw (lw' := [some (.ref h), some (.int (nI i)), some (.int (nI fa)), some (.int (z1_ dn))]) rfl ?_
  refine aw_iload_n C dc_S_extreme_0 rfl ?_
  refine kc_v (fun _ h => h) (fun _ h => h) (kc_S (n := 1) C hX (xw_k ca_le) (s_checkShelf l D _ _ _ _ i hi) kw_146 kw_144 kw_145 kw_1 (by unfold kd_; decide) ⟨rfl, rfl, by decide, by decide⟩ rfl rfl (Nat.le_of_ble_eq_true rfl) ⟨Nat.zero_le _, Nat.zero_le _⟩ dc_S_extreme_1) ?_
  refine aw_iload_n C dc_S_extreme_4 rfl ?_
  refine kc_v (fun _ h => h) (fun _ h => h) (kc_S (n := 1) C hX (xw_k ca_le) (s_checkShelf l D _ _ _ _ fa hfa) kw_146 kw_144 kw_145 kw_1 (by unfold kd_; decide) ⟨rfl, rfl, by decide, by decide⟩ rfl rfl (Nat.le_of_ble_eq_true rfl) ⟨Nat.zero_le _, Nat.zero_le _⟩ dc_S_extreme_5) ?_
  refine aw_aload_n C dc_S_extreme_8 rfl ?_
  refine aw_get C (fun w h => List.mem_cons_of_mem _ (ly_S w h)) 0 sy_p0 rfl 1 (by decide) (C.1.2.2.2.2 _ (List.mem_cons_of_mem _ kw_117)) (fun _ h => h) rfl dc_S_extreme_9 ?_
  refine aw_aload_n C dc_S_extreme_12 rfl ?_
  refine aw_get C (fun w h => List.mem_cons_of_mem _ (ly_S w h)) 0 sy_p0 rfl 5 (by decide) (C.1.2.2.2.2 _ (List.mem_cons_of_mem _ kw_121)) (fun _ h => h) rfl dc_S_extreme_13 ?_
  refine aw_aload_n C dc_S_extreme_16 rfl ?_
  refine aw_get C (fun w h => List.mem_cons_of_mem _ (ly_S w h)) 0 sy_p0 rfl 0 (by decide) (C.1.2.2.2.2 _ (List.mem_cons_of_mem _ kw_116)) (fun _ h => h) rfl dc_S_extreme_17 ?_
  refine aw_iload_n C dc_S_extreme_20 rfl ?_
  refine aw_aald C 1 2 sy_p1 rfl fa rfl hfa (by decide) (y := h + sh fa) rfl dc_S_extreme_21 ?_
  refine aw_iload_n C dc_S_extreme_22 rfl ?_
  refine kc_v (fun _ h => h) (fun _ h => h) (kc_V (n := 3) C hX (xw_k ca_le) rfl 2 sy_p2 rfl (a_extremeInto l D h th cI cL cF I J sh fr en fr hs.1 (sh fa) (hs.2.2.2 fa hfa).1 (hs.2.2.2 fa hfa).2.2.2 hs.2.1 (hs.2.2.2 fa hfa).2.1 dn) kw_435 kw_432 kw_433 kw_434 kw_2 rfl (by unfold kd_; decide) ⟨rfl, rfl, by decide, by decide⟩ rfl rfl (Nat.le_of_ble_eq_true rfl) ⟨Nat.zero_le _, Nat.zero_le _⟩ dc_S_extreme_23) ?_
  refine aw_aload_n C dc_S_extreme_26 rfl ?_
  refine aw_iload_n C dc_S_extreme_27 rfl ?_
  refine kc_i (fun _ h => h) (fun _ h => h) (kc_V (n := 1) C hX (xw_k ca_le) rfl 0 sy_p0 rfl (s_shelveFresh l D h th cI cL cF I (va_up (closeJ_ (copyJ_ J 3 (sh fa)) 3 dn) (fr + 1) (wl_ ((closeJ_ (copyJ_ J 3 (sh fa)) 3 dn) (fr + 1)) (exg_ (J (sh fa + 1)) ((closeJ_ (copyJ_ J 3 (sh fa)) 3 dn) 4) dn) 64)) sh fr en hs i hi) kw_406 kw_403 kw_405 (tw_sel (q := (my_S_shelveFresh, 6)) (by decide +kernel)) kw_1 rfl (by unfold kd_; decide) ⟨rfl, rfl, by decide, by decide⟩ rfl rfl (Nat.le_of_ble_eq_true rfl) ⟨Nat.zero_le _, Nat.zero_le _⟩ dc_S_extreme_28) ?_
  exact kc_iret C hr rfl (fun _ h => h) dc_S_extreme_31
set_option maxHeartbeats 4000000 in
set_option maxRecDepth 100000 in
theorem s_sized (l : Launch) (D : va_G) (h th : Nat) (cI cL cF : ClassId) (I : Nat → Nat → Int32) (J : Nat → Nat → Int64) (sh : Nat → Nat) (fr : Nat) (en : Int32) (hs : shok_ sh fr) (i : Nat) (hi : i < 10) (fa : Nat) (hfa : fa < 10) (k : Nat) (hk : k ≤ 12) : ki_ l my_S_sized (Cond.code my_S_sized bc_S_sized 4 (some .int) :: tw_) ({ frames := 4, cells := 0, slots := 0, locals := 86 }) D (ty_s cI cL cF) (xw_ h th) (ca_ h) [.ref h, .int (nI i), .int (nI fa), .int (nI k)] (kp_ D h cI cL cF I J sh fr en) (kp_ D h cI cL cF I (setJ_ J fr (szg_ (J (sh fa + 1)) (J 8) k)) (va_up sh i fr) (sh i) en) (nI (tw64_ ((setJ_ J fr (szg_ (J (sh fa + 1)) (J 8) k)) (fr + 1)) 64)) := by
  refine aw_met (A := ca_ h) (own := "FamilyShelf") (by decide) rfl rfl (Nat.le_of_ble_eq_true rfl) ?_
  intro p9 e s m args below meth c C hr hX hP0
  refine aw_lw (lw' := [some (.ref h), some (.int (nI i)), some (.int (nI fa)), some (.int (nI k))]) rfl ?_
  refine aw_iload_n C dc_S_sized_0 rfl ?_
  refine kc_v (fun _ h => h) (fun _ h => h) (kc_S (n := 1) C hX (xw_k ca_le) (s_checkShelf l D _ _ _ _ i hi) kw_146 kw_144 kw_145 kw_1 (by unfold kd_; decide) ⟨rfl, rfl, by decide, by decide⟩ rfl rfl (Nat.le_of_ble_eq_true rfl) ⟨Nat.zero_le _, Nat.zero_le _⟩ dc_S_sized_1) ?_
  refine aw_iload_n C dc_S_sized_4 rfl ?_
  refine kc_v (fun _ h => h) (fun _ h => h) (kc_S (n := 1) C hX (xw_k ca_le) (s_checkShelf l D _ _ _ _ fa hfa) kw_146 kw_144 kw_145 kw_1 (by unfold kd_; decide) ⟨rfl, rfl, by decide, by decide⟩ rfl rfl (Nat.le_of_ble_eq_true rfl) ⟨Nat.zero_le _, Nat.zero_le _⟩ dc_S_sized_5) ?_
  refine aw_iload_n C dc_S_sized_8 rfl ?_
  refine aw_iconst C dc_S_sized_9 (v := nI 0) rfl ?_
  refine aw_bipush C dc_S_sized_10 (v := nI 12) rfl ?_
  refine kc_v (fun _ h => h) (fun _ h => h) (kc_S (n := 3) C hX (xw_k ca_le) (s_checkRange l D _ _ _ _ (nI k) (nI 0) (nI 12) (nI_nlt (Nat.zero_le _) (by omega)) (nI_le hk (by decide))) kw_221 kw_219 kw_220 kw_1 (by unfold kd_; decide) ⟨rfl, rfl, by decide, by decide⟩ rfl rfl (Nat.le_of_ble_eq_true rfl) ⟨Nat.zero_le _, Nat.zero_le _⟩ dc_S_sized_12) ?_
  refine aw_aload_n C dc_S_sized_15 rfl ?_
  refine aw_get C (fun w h => List.mem_cons_of_mem _ (ly_S w h)) 0 sy_p0 rfl 1 (by decide) (C.1.2.2.2.2 _ (List.mem_cons_of_mem _ kw_117)) (fun _ h => h) rfl dc_S_sized_16 ?_
  refine aw_aload_n C dc_S_sized_19 rfl ?_
  refine aw_get C (fun w h => List.mem_cons_of_mem _ (ly_S w h)) 0 sy_p0 rfl 5 (by decide) (C.1.2.2.2.2 _ (List.mem_cons_of_mem _ kw_121)) (fun _ h => h) rfl dc_S_sized_20 ?_
  refine aw_aload_n C dc_S_sized_23 rfl ?_
  refine aw_get C (fun w h => List.mem_cons_of_mem _ (ly_S w h)) 0 sy_p0 rfl 0 (by decide) (C.1.2.2.2.2 _ (List.mem_cons_of_mem _ kw_116)) (fun _ h => h) rfl dc_S_sized_24 ?_
  refine aw_iload_n C dc_S_sized_27 rfl ?_
  refine aw_aald C 1 2 sy_p1 rfl fa rfl hfa (by decide) (y := h + sh fa) rfl dc_S_sized_28 ?_
  refine aw_iload_n C dc_S_sized_29 rfl ?_
  refine kc_v (fun _ h => h) (fun _ h => h) (kc_V (n := 3) C hX (xw_k ca_le) rfl 2 sy_p2 rfl (a_sizedInto l D h th cI cL cF I J sh fr en fr hs.1 (sh fa) (hs.2.2.2 fa hfa).1 (hs.2.2.2 fa hfa).2.2.2 k hk) kw_451 kw_448 kw_449 kw_450 kw_2 rfl (by unfold kd_; decide) ⟨rfl, rfl, by decide, by decide⟩ rfl rfl (Nat.le_of_ble_eq_true rfl) ⟨Nat.zero_le _, Nat.zero_le _⟩ dc_S_sized_30) ?_
  refine aw_aload_n C dc_S_sized_33 rfl ?_
  refine aw_iload_n C dc_S_sized_34 rfl ?_
  refine kc_i (fun _ h => h) (fun _ h => h) (kc_V (n := 1) C hX (xw_k ca_le) rfl 0 sy_p0 rfl (s_shelveFresh l D h th cI cL cF I (setJ_ J fr (szg_ (J (sh fa + 1)) (J 8) k)) sh fr en hs i hi) kw_406 kw_403 kw_405 (tw_sel (q := (my_S_shelveFresh, 6)) (by decide +kernel)) kw_1 rfl (by unfold kd_; decide) ⟨rfl, rfl, by decide, by decide⟩ rfl rfl (Nat.le_of_ble_eq_true rfl) ⟨Nat.zero_le _, Nat.zero_le _⟩ dc_S_sized_35) ?_
  exact kc_iret C hr rfl (fun _ h => h) dc_S_sized_38
set_option maxHeartbeats 4000000 in
set_option maxRecDepth 100000 in
theorem s_edge (l : Launch) (D : va_G) (h th : Nat) (cI cL cF : ClassId) (I : Nat → Nat → Int32) (J : Nat → Nat → Int64) (sh : Nat → Nat) (fr : Nat) (en : Int32) (el : Nat) (hel : el < 12) (u : Nat) (hu : u < 7) (v : Nat) (hv : v < 7) (huv : u ≠ v) : kv_ l my_S_edge (Cond.code my_S_edge bc_S_edge 4 none :: tw_) ({ frames := 1, cells := 0, slots := 0, locals := 23 }) D (ty_s cI cL cF) (xw_ h th) (ca_ h) [.ref h, .int (nI el), .int (nI u), .int (nI v)] (kp_ D h cI cL cF I J sh fr en) (kp_ D h cI cL cF (va_up I 10 (upd (I 10) el (nI (2 ^ u ||| 2 ^ v)))) J sh fr en) := by
  refine aw_met (A := ca_ h) (own := "FamilyShelf") (by decide) rfl rfl (Nat.le_of_ble_eq_true rfl) ?_
  intro p9 e s m args below meth c C hr hX hP0
  refine aw_lw (lw' := [some (.ref h), some (.int (nI el)), some (.int (nI u)), some (.int (nI v))]) rfl ?_
  refine aw_iload_n C dc_S_edge_0 rfl ?_
  refine kc_v (fun _ h => h) (fun _ h => h) (kc_S (n := 1) C hX (xw_k ca_le) (s_checkElement l D _ _ _ _ el hel) kw_416 kw_414 kw_415 kw_1 (by unfold kd_; decide) ⟨rfl, rfl, by decide, by decide⟩ rfl rfl (Nat.le_of_ble_eq_true rfl) ⟨Nat.zero_le _, Nat.zero_le _⟩ dc_S_edge_1) ?_
  refine aw_iload_n C dc_S_edge_4 rfl ?_
  refine kc_v (fun _ h => h) (fun _ h => h) (kc_S (n := 1) C hX (xw_k ca_le) (s_checkVertex l D _ _ _ _ u hu) kw_461 kw_459 kw_460 kw_1 (by unfold kd_; decide) ⟨rfl, rfl, by decide, by decide⟩ rfl rfl (Nat.le_of_ble_eq_true rfl) ⟨Nat.zero_le _, Nat.zero_le _⟩ dc_S_edge_5) ?_
  refine aw_iload_n C dc_S_edge_8 rfl ?_
  refine kc_v (fun _ h => h) (fun _ h => h) (kc_S (n := 1) C hX (xw_k ca_le) (s_checkVertex l D _ _ _ _ v hv) kw_461 kw_459 kw_460 kw_1 (by unfold kd_; decide) ⟨rfl, rfl, by decide, by decide⟩ rfl rfl (Nat.le_of_ble_eq_true rfl) ⟨Nat.zero_le _, Nat.zero_le _⟩ dc_S_edge_9) ?_
  refine aw_iload_n C dc_S_edge_12 rfl ?_
  refine aw_iload_n C dc_S_edge_13 rfl ?_
  refine kc_v (fun _ h => h) (fun _ h => h) (kc_S (n := 2) C hX (xw_k ca_le) (s_checkDifferent l D _ _ _ _ (nI u) (nI v) (fun h9 => huv ((nI_eq (by omega) (by omega)).mp h9))) kw_465 kw_463 kw_464 kw_1 (by unfold kd_; decide) ⟨rfl, rfl, by decide, by decide⟩ rfl rfl (Nat.le_of_ble_eq_true rfl) ⟨Nat.zero_le _, Nat.zero_le _⟩ dc_S_edge_14) ?_
  refine aw_aload_n C dc_S_edge_17 rfl ?_
  refine aw_get C (fun w h => List.mem_cons_of_mem _ (ly_S w h)) 0 sy_p0 rfl 2 (by decide) (C.1.2.2.2.2 _ (List.mem_cons_of_mem _ kw_118)) (fun _ h => h) rfl dc_S_edge_18 ?_
  refine aw_iload_n C dc_S_edge_21 rfl ?_
  refine aw_iconst C dc_S_edge_22 (v := nI 1) rfl ?_
  refine aw_iload_n C dc_S_edge_23 rfl ?_
  refine aw_ishl C dc_S_edge_24 ?_
  refine aw_eqi (ni_bit (by omega)) ?_
  refine aw_iconst C dc_S_edge_25 (v := nI 1) rfl ?_
  refine aw_iload_n C dc_S_edge_26 rfl ?_
  refine aw_ishl C dc_S_edge_27 ?_
  refine aw_eqi (ni_bit (by omega)) ?_
  refine aw_ior C dc_S_edge_28 ?_
  refine aw_eqi (ni_or _ _) ?_
  refine kc_i (fun _ h => h) (fun _ h => h) (kc_V (n := 2) C hX (xw_k ca_le) rfl 9 sy_p9 rfl (g_exchange l D h th cI cL cF I J sh fr en el hel (nI (2 ^ u ||| 2 ^ v))) kw_470 kw_467 kw_468 kw_469 kw_5 rfl (by unfold kd_; decide) ⟨rfl, rfl, by decide, by decide⟩ rfl rfl (Nat.le_of_ble_eq_true rfl) ⟨Nat.zero_le _, Nat.zero_le _⟩ dc_S_edge_29) ?_
  refine aw_pop C dc_S_edge_32 rfl ?_
  exact kc_vret C hr (fun _ h => h) dc_S_edge_33
set_option maxHeartbeats 4000000 in
set_option maxRecDepth 100000 in
theorem s_cut (l : Launch) (D : va_G) (h th : Nat) (cI cL cF : ClassId) (I : Nat → Nat → Int32) (J : Nat → Nat → Int64) (sh : Nat → Nat) (fr : Nat) (en : Int32) (el : Nat) (hel : el < 12) : ki_ l my_S_cut (Cond.code my_S_cut bc_S_cut 2 (some .boolean) :: tw_) ({ frames := 1, cells := 0, slots := 0, locals := 23 }) D (ty_s cI cL cF) (xw_ h th) (ca_ h) [.ref h, .int (nI el)] (kp_ D h cI cL cF I J sh fr en) (kp_ D h cI cL cF (va_up I 10 (upd (I 10) el (nI 0))) J sh fr en) (z1_ (decide (¬ I 10 el = 0))) := by
  refine aw_met (A := ca_ h) (own := "FamilyShelf") (by decide) rfl rfl (Nat.le_of_ble_eq_true rfl) ?_
  intro p9 e s m args below meth c C hr hX hP0
  refine aw_lw (lw' := [some (.ref h), some (.int (nI el))]) rfl ?_
  refine aw_iload_n C dc_S_cut_0 rfl ?_
  refine kc_v (fun _ h => h) (fun _ h => h) (kc_S (n := 1) C hX (xw_k ca_le) (s_checkElement l D _ _ _ _ el hel) kw_416 kw_414 kw_415 kw_1 (by unfold kd_; decide) ⟨rfl, rfl, by decide, by decide⟩ rfl rfl (Nat.le_of_ble_eq_true rfl) ⟨Nat.zero_le _, Nat.zero_le _⟩ dc_S_cut_1) ?_
  refine aw_aload_n C dc_S_cut_4 rfl ?_
  refine aw_get C (fun w h => List.mem_cons_of_mem _ (ly_S w h)) 0 sy_p0 rfl 2 (by decide) (C.1.2.2.2.2 _ (List.mem_cons_of_mem _ kw_118)) (fun _ h => h) rfl dc_S_cut_5 ?_
  refine aw_iload_n C dc_S_cut_8 rfl ?_
  refine aw_iconst C dc_S_cut_9 (v := nI 0) rfl ?_
  refine kc_i (fun _ h => h) (fun _ h => h) (kc_V (n := 2) C hX (xw_k ca_le) rfl 9 sy_p9 rfl (g_exchange l D h th cI cL cF I J sh fr en el hel (nI 0)) kw_470 kw_467 kw_468 kw_469 kw_5 rfl (by unfold kd_; decide) ⟨rfl, rfl, by decide, by decide⟩ rfl rfl (Nat.le_of_ble_eq_true rfl) ⟨Nat.zero_le _, Nat.zero_le _⟩ dc_S_cut_10) ?_
  refine aw_if_eq C dc_S_cut_13 (tgt := 20) (by decide) (fun hB13 => ?_) (fun hB13 => ?_)
  · have e9 : nI 0 = z1_ (decide (¬ I 10 el = 0)) := by rw [decide_eq_false (fun h9 => h9 hB13)]; rfl
    refine aw_iconst C dc_S_cut_20 (v := nI 0) rfl ?_
    exact kc_zret C hr (by decide) e9 (fun _ h => h) dc_S_cut_21
  · have e9 : nI 1 = z1_ (decide (¬ I 10 el = 0)) := by rw [decide_eq_true hB13]; rfl
    refine aw_iconst C dc_S_cut_16 (v := nI 1) rfl ?_
    refine aw_goto C dc_S_cut_17 (tgt := 21) (by decide) ?_
    exact kc_zret C hr (by decide) e9 (fun _ h => h) dc_S_cut_21
set_option maxHeartbeats 4000000 in
set_option maxRecDepth 100000 in
theorem s_paths (l : Launch) (D : va_G) (h th : Nat) (cI cL cF : ClassId) (I : Nat → Nat → Int32) (J : Nat → Nat → Int64) (sh : Nat → Nat) (fr : Nat) (en : Int32) (hs : shok_ sh fr) (i : Nat) (hi : i < 10) (ed : Nat → Nat) (hed : ∀ j, j < 12 → I 10 j = nI (ed j)) (hok : ∀ j, j < 12 → eok_ (ed j)) (sv : Nat) (hsv : sv < 7) (tv : Nat) (htv : tv < 7) : ki_ l my_S_paths (Cond.code my_S_paths bc_S_paths 4 (some .int) :: tw_) ({ frames := 10, cells := 0, slots := 0, locals := 278 }) D (ty_s cI cL cF) (xw_ h th) (ca_ h) [.ref h, .int (nI i), .int (nI sv), .int (nI tv)] (kp_ D h cI cL cF I J sh fr en) (kp_ D h cI cL cF I (va_up (fillJ_ J fr 0) (fr + 1) (wk_ ed (2 ^ tv) 8 (2 ^ sv) (2 ^ sv) 0 ((fillJ_ J fr 0) (fr + 1)))) (va_up sh i fr) (sh i) en) (nI (tw64_ ((va_up (fillJ_ J fr 0) (fr + 1) (wk_ ed (2 ^ tv) 8 (2 ^ sv) (2 ^ sv) 0 ((fillJ_ J fr 0) (fr + 1)))) (fr + 1)) 64)) := by
  refine aw_met (A := ca_ h) (own := "FamilyShelf") (by decide) rfl rfl (Nat.le_of_ble_eq_true rfl) ?_
  intro p9 e s m args below meth c C hr hX hP0
  refine aw_lw (lw' := [some (.ref h), some (.int (nI i)), some (.int (nI sv)), some (.int (nI tv))]) rfl ?_
  refine aw_iload_n C dc_S_paths_0 rfl ?_
  refine kc_v (fun _ h => h) (fun _ h => h) (kc_S (n := 1) C hX (xw_k ca_le) (s_checkShelf l D _ _ _ _ i hi) kw_146 kw_144 kw_145 kw_1 (by unfold kd_; decide) ⟨rfl, rfl, by decide, by decide⟩ rfl rfl (Nat.le_of_ble_eq_true rfl) ⟨Nat.zero_le _, Nat.zero_le _⟩ dc_S_paths_1) ?_
  refine aw_iload_n C dc_S_paths_4 rfl ?_
  refine kc_v (fun _ h => h) (fun _ h => h) (kc_S (n := 1) C hX (xw_k ca_le) (s_checkVertex l D _ _ _ _ sv hsv) kw_461 kw_459 kw_460 kw_1 (by unfold kd_; decide) ⟨rfl, rfl, by decide, by decide⟩ rfl rfl (Nat.le_of_ble_eq_true rfl) ⟨Nat.zero_le _, Nat.zero_le _⟩ dc_S_paths_5) ?_
  refine aw_iload_n C dc_S_paths_8 rfl ?_
  refine kc_v (fun _ h => h) (fun _ h => h) (kc_S (n := 1) C hX (xw_k ca_le) (s_checkVertex l D _ _ _ _ tv htv) kw_461 kw_459 kw_460 kw_1 (by unfold kd_; decide) ⟨rfl, rfl, by decide, by decide⟩ rfl rfl (Nat.le_of_ble_eq_true rfl) ⟨Nat.zero_le _, Nat.zero_le _⟩ dc_S_paths_9) ?_
  refine aw_aload_n C dc_S_paths_12 rfl ?_
  refine aw_get C (fun w h => List.mem_cons_of_mem _ (ly_S w h)) 0 sy_p0 rfl 2 (by decide) (C.1.2.2.2.2 _ (List.mem_cons_of_mem _ kw_118)) (fun _ h => h) rfl dc_S_paths_13 ?_
  refine aw_aload_n C dc_S_paths_16 rfl ?_
  refine aw_get C (fun w h => List.mem_cons_of_mem _ (ly_S w h)) 0 sy_p0 rfl 5 (by decide) (C.1.2.2.2.2 _ (List.mem_cons_of_mem _ kw_121)) (fun _ h => h) rfl dc_S_paths_17 ?_
  refine aw_iload_n C dc_S_paths_20 rfl ?_
  refine aw_iload_n C dc_S_paths_21 rfl ?_
  refine kc_v (fun _ h => h) (fun _ h => h) (kc_V (n := 3) C hX (xw_k ca_le) rfl 9 sy_p9 rfl (g_pathsInto l D h th cI cL cF I J sh fr en fr hs.1 ed hed hok sv tv hsv htv) kw_488 kw_485 kw_486 kw_487 kw_5 rfl (by unfold kd_; decide) ⟨rfl, rfl, by decide, by decide⟩ rfl rfl (Nat.le_of_ble_eq_true rfl) ⟨Nat.zero_le _, Nat.zero_le _⟩ dc_S_paths_22) ?_
  refine aw_aload_n C dc_S_paths_25 rfl ?_
  refine aw_iload_n C dc_S_paths_26 rfl ?_
  refine kc_i (fun _ h => h) (fun _ h => h) (kc_V (n := 1) C hX (xw_k ca_le) rfl 0 sy_p0 rfl (s_shelveFresh l D h th cI cL cF I (va_up (fillJ_ J fr 0) (fr + 1) (wk_ ed (2 ^ tv) 8 (2 ^ sv) (2 ^ sv) 0 ((fillJ_ J fr 0) (fr + 1)))) sh fr en hs i hi) kw_406 kw_403 kw_405 (tw_sel (q := (my_S_shelveFresh, 6)) (by decide +kernel)) kw_1 rfl (by unfold kd_; decide) ⟨rfl, rfl, by decide, by decide⟩ rfl rfl (Nat.le_of_ble_eq_true rfl) ⟨Nat.zero_le _, Nat.zero_le _⟩ dc_S_paths_27) ?_
  exact kc_iret C hr rfl (fun _ h => h) dc_S_paths_30
set_option maxHeartbeats 4000000 in
set_option maxRecDepth 100000 in
theorem s_matchings (l : Launch) (D : va_G) (h th : Nat) (cI cL cF : ClassId) (I : Nat → Nat → Int32) (J : Nat → Nat → Int64) (sh : Nat → Nat) (fr : Nat) (en : Int32) (hs : shok_ sh fr) (i : Nat) (hi : i < 10) (ed : Nat → Nat) (hed : ∀ j, j < 12 → I 10 j = nI (ed j)) (hok : ∀ j, j < 12 → eok_ (ed j)) : ki_ l my_S_matchings (Cond.code my_S_matchings bc_S_matchings 2 (some .int) :: tw_) ({ frames := 15, cells := 0, slots := 0, locals := 354 }) D (ty_s cI cL cF) (xw_ h th) (ca_ h) [.ref h, .int (nI i)] (kp_ D h cI cL cF I J sh fr en) (kp_ D h cI cL cF I (va_up (fillJ_ J fr 0) (fr + 1) (mt_ ed 12 0 0 ((fillJ_ J fr 0) (fr + 1)))) (va_up sh i fr) (sh i) en) (nI (tw64_ ((va_up (fillJ_ J fr 0) (fr + 1) (mt_ ed 12 0 0 ((fillJ_ J fr 0) (fr + 1)))) (fr + 1)) 64)) := by
  refine aw_met (A := ca_ h) (own := "FamilyShelf") (by decide) rfl rfl (Nat.le_of_ble_eq_true rfl) ?_
  intro p9 e s m args below meth c C hr hX hP0
  refine aw_lw (lw' := [some (.ref h), some (.int (nI i))]) rfl ?_
  refine aw_iload_n C dc_S_matchings_0 rfl ?_
  refine kc_v (fun _ h => h) (fun _ h => h) (kc_S (n := 1) C hX (xw_k ca_le) (s_checkShelf l D _ _ _ _ i hi) kw_146 kw_144 kw_145 kw_1 (by unfold kd_; decide) ⟨rfl, rfl, by decide, by decide⟩ rfl rfl (Nat.le_of_ble_eq_true rfl) ⟨Nat.zero_le _, Nat.zero_le _⟩ dc_S_matchings_1) ?_
  refine aw_aload_n C dc_S_matchings_4 rfl ?_
  refine aw_get C (fun w h => List.mem_cons_of_mem _ (ly_S w h)) 0 sy_p0 rfl 2 (by decide) (C.1.2.2.2.2 _ (List.mem_cons_of_mem _ kw_118)) (fun _ h => h) rfl dc_S_matchings_5 ?_
  refine aw_aload_n C dc_S_matchings_8 rfl ?_
  refine aw_get C (fun w h => List.mem_cons_of_mem _ (ly_S w h)) 0 sy_p0 rfl 5 (by decide) (C.1.2.2.2.2 _ (List.mem_cons_of_mem _ kw_121)) (fun _ h => h) rfl dc_S_matchings_9 ?_
  refine kc_v (fun _ h => h) (fun _ h => h) (kc_V (n := 1) C hX (xw_k ca_le) rfl 9 sy_p9 rfl (g_matchingsInto l D h th cI cL cF I J sh fr en fr hs.1 ed hed hok) kw_505 kw_502 kw_503 kw_504 kw_5 rfl (by unfold kd_; decide) ⟨rfl, rfl, by decide, by decide⟩ rfl rfl (Nat.le_of_ble_eq_true rfl) ⟨Nat.zero_le _, Nat.zero_le _⟩ dc_S_matchings_12) ?_
  refine aw_aload_n C dc_S_matchings_15 rfl ?_
  refine aw_iload_n C dc_S_matchings_16 rfl ?_
  refine kc_i (fun _ h => h) (fun _ h => h) (kc_V (n := 1) C hX (xw_k ca_le) rfl 0 sy_p0 rfl (s_shelveFresh l D h th cI cL cF I (va_up (fillJ_ J fr 0) (fr + 1) (mt_ ed 12 0 0 ((fillJ_ J fr 0) (fr + 1)))) sh fr en hs i hi) kw_406 kw_403 kw_405 (tw_sel (q := (my_S_shelveFresh, 6)) (by decide +kernel)) kw_1 rfl (by unfold kd_; decide) ⟨rfl, rfl, by decide, by decide⟩ rfl rfl (Nat.le_of_ble_eq_true rfl) ⟨Nat.zero_le _, Nat.zero_le _⟩ dc_S_matchings_17) ?_
  exact kc_iret C hr rfl (fun _ h => h) dc_S_matchings_20
set_option maxHeartbeats 4000000 in
set_option maxRecDepth 100000 in
theorem s_weight (l : Launch) (D : va_G) (h th : Nat) (cI cL cF : ClassId) (I : Nat → Nat → Int32) (J : Nat → Nat → Int64) (sh : Nat → Nat) (fr : Nat) (en : Int32) (el : Nat) (hel : el < 12) (x : Int32) (hx1 : ¬ x < (-99)) (hx2 : x ≤ nI 99) : ki_ l my_S_weight (Cond.code my_S_weight bc_S_weight 3 (some .int) :: tw_) ({ frames := 1, cells := 0, slots := 0, locals := 23 }) D (ty_s cI cL cF) (xw_ h th) (ca_ h) [.ref h, .int (nI el), .int x] (kp_ D h cI cL cF I J sh fr en) (kp_ D h cI cL cF (va_up I 12 (upd (I 12) el x)) J sh fr en) (I 12 el) := by
  refine aw_met (A := ca_ h) (own := "FamilyShelf") (by decide) rfl rfl (Nat.le_of_ble_eq_true rfl) ?_
  intro p9 e s m args below meth c C hr hX hP0
  refine aw_lw (lw' := [some (.ref h), some (.int (nI el)), some (.int x)]) rfl ?_
  refine aw_iload_n C dc_S_weight_0 rfl ?_
  refine kc_v (fun _ h => h) (fun _ h => h) (kc_S (n := 1) C hX (xw_k ca_le) (s_checkElement l D _ _ _ _ el hel) kw_416 kw_414 kw_415 kw_1 (by unfold kd_; decide) ⟨rfl, rfl, by decide, by decide⟩ rfl rfl (Nat.le_of_ble_eq_true rfl) ⟨Nat.zero_le _, Nat.zero_le _⟩ dc_S_weight_1) ?_
  refine aw_iload_n C dc_S_weight_4 rfl ?_
  refine aw_bipush C dc_S_weight_5 (v := (-99)) rfl ?_
  refine aw_bipush C dc_S_weight_7 (v := nI 99) rfl ?_
  refine kc_v (fun _ h => h) (fun _ h => h) (kc_S (n := 3) C hX (xw_k ca_le) (s_checkRange l D _ _ _ _ x (-99) (nI 99) hx1 hx2) kw_221 kw_219 kw_220 kw_1 (by unfold kd_; decide) ⟨rfl, rfl, by decide, by decide⟩ rfl rfl (Nat.le_of_ble_eq_true rfl) ⟨Nat.zero_le _, Nat.zero_le _⟩ dc_S_weight_9) ?_
  refine aw_aload_n C dc_S_weight_12 rfl ?_
  refine aw_get C (fun w h => List.mem_cons_of_mem _ (ly_S w h)) 0 sy_p0 rfl 3 (by decide) (C.1.2.2.2.2 _ (List.mem_cons_of_mem _ kw_119)) (fun _ h => h) rfl dc_S_weight_13 ?_
  refine aw_iload_n C dc_S_weight_16 rfl ?_
  refine aw_iload_n C dc_S_weight_17 rfl ?_
  refine kc_i (fun _ h => h) (fun _ h => h) (kc_V (n := 2) C hX (xw_k ca_le) rfl 11 sy_p11 rfl (w_exchange l D h th cI cL cF I J sh fr en el hel x) kw_519 kw_516 kw_517 kw_518 kw_6 rfl (by unfold kd_; decide) ⟨rfl, rfl, by decide, by decide⟩ rfl rfl (Nat.le_of_ble_eq_true rfl) ⟨Nat.zero_le _, Nat.zero_le _⟩ dc_S_weight_18) ?_
  exact kc_iret C hr rfl (fun _ h => h) dc_S_weight_21
set_option maxHeartbeats 4000000 in
set_option maxRecDepth 100000 in
theorem s_count (l : Launch) (D : va_G) (h th : Nat) (cI cL cF : ClassId) (I : Nat → Nat → Int32) (J : Nat → Nat → Int64) (sh : Nat → Nat) (fr : Nat) (en : Int32) (hs : shok_ sh fr) (i : Nat) (hi : i < 10) : ki_ l my_S_count (Cond.code my_S_count bc_S_count 2 (some .int) :: tw_) ({ frames := 3, cells := 0, slots := 0, locals := 64 }) D (ty_s cI cL cF) (xw_ h th) (ca_ h) [.ref h, .int (nI i)] (kp_ D h cI cL cF I J sh fr en) (kp_ D h cI cL cF I J sh fr en) (nI (tw64_ (J (sh i + 1)) 64)) := by
  refine aw_met (A := ca_ h) (own := "FamilyShelf") (by decide) rfl rfl (Nat.le_of_ble_eq_true rfl) ?_
  intro p9 e s m args below meth c C hr hX hP0
  refine aw_lw (lw' := [some (.ref h), some (.int (nI i))]) rfl ?_
  refine aw_iload_n C dc_S_count_0 rfl ?_
  refine kc_v (fun _ h => h) (fun _ h => h) (kc_S (n := 1) C hX (xw_k ca_le) (s_checkShelf l D _ _ _ _ i hi) kw_146 kw_144 kw_145 kw_1 (by unfold kd_; decide) ⟨rfl, rfl, by decide, by decide⟩ rfl rfl (Nat.le_of_ble_eq_true rfl) ⟨Nat.zero_le _, Nat.zero_le _⟩ dc_S_count_1) ?_
  refine aw_aload_n C dc_S_count_4 rfl ?_
  refine aw_get C (fun w h => List.mem_cons_of_mem _ (ly_S w h)) 0 sy_p0 rfl 0 (by decide) (C.1.2.2.2.2 _ (List.mem_cons_of_mem _ kw_116)) (fun _ h => h) rfl dc_S_count_5 ?_
  refine aw_iload_n C dc_S_count_8 rfl ?_
  refine aw_aald C 1 2 sy_p1 rfl i rfl hi (by decide) (y := h + sh i) rfl dc_S_count_9 ?_
  refine kc_i (fun _ h => h) (fun _ h => h) (kc_V (n := 0) C hX (xw_k ca_le) rfl (sh i) (sy_fam (hs.2.2.2 i hi).1) rfl (f_total l D h th cI cL cF I J sh fr en (sh i) (hs.2.2.2 i hi).1) kw_274 kw_271 kw_272 kw_273 kw_3 rfl (by unfold kd_; decide) ⟨rfl, rfl, by decide, by decide⟩ rfl rfl (Nat.le_of_ble_eq_true rfl) ⟨Nat.zero_le _, Nat.zero_le _⟩ dc_S_count_10) ?_
  exact kc_iret C hr rfl (fun _ h => h) dc_S_count_13
set_option maxHeartbeats 4000000 in
set_option maxRecDepth 100000 in
theorem s_has (l : Launch) (D : va_G) (h th : Nat) (cI cL cF : ClassId) (I : Nat → Nat → Int32) (J : Nat → Nat → Int64) (sh : Nat → Nat) (fr : Nat) (en : Int32) (hs : shok_ sh fr) (i : Nat) (hi : i < 10) (n : Nat) (hn : n < 4096) : ki_ l my_S_has (Cond.code my_S_has bc_S_has 3 (some .boolean) :: tw_) ({ frames := 2, cells := 0, slots := 0, locals := 42 }) D (ty_s cI cL cF) (xw_ h th) (ca_ h) [.ref h, .int (nI i), .int (nI n)] (kp_ D h cI cL cF I J sh fr en) (kp_ D h cI cL cF I J sh fr en) (z1_ (fb_ (J (sh i + 1)) (mr_ n 12))) := by
  refine aw_met (A := ca_ h) (own := "FamilyShelf") (by decide) rfl rfl (Nat.le_of_ble_eq_true rfl) ?_
  intro p9 e s m args below meth c C hr hX hP0
  refine aw_lw (lw' := [some (.ref h), some (.int (nI i)), some (.int (nI n))]) rfl ?_
  refine aw_iload_n C dc_S_has_0 rfl ?_
  refine kc_v (fun _ h => h) (fun _ h => h) (kc_S (n := 1) C hX (xw_k ca_le) (s_checkShelf l D _ _ _ _ i hi) kw_146 kw_144 kw_145 kw_1 (by unfold kd_; decide) ⟨rfl, rfl, by decide, by decide⟩ rfl rfl (Nat.le_of_ble_eq_true rfl) ⟨Nat.zero_le _, Nat.zero_le _⟩ dc_S_has_1) ?_
  refine aw_iload_n C dc_S_has_4 rfl ?_
  refine kc_v (fun _ h => h) (fun _ h => h) (kc_S (n := 1) C hX (xw_k ca_le) (s_checkSet l D _ _ _ _ (xw_k ca_le) n hn) kw_218 kw_216 kw_217 kw_1 (by unfold kd_; decide) ⟨rfl, rfl, by decide, by decide⟩ rfl rfl (Nat.le_of_ble_eq_true rfl) ⟨Nat.zero_le _, Nat.zero_le _⟩ dc_S_has_5) ?_
  refine aw_aload_n C dc_S_has_8 rfl ?_
  refine aw_get C (fun w h => List.mem_cons_of_mem _ (ly_S w h)) 0 sy_p0 rfl 0 (by decide) (C.1.2.2.2.2 _ (List.mem_cons_of_mem _ kw_116)) (fun _ h => h) rfl dc_S_has_9 ?_
  refine aw_iload_n C dc_S_has_12 rfl ?_
  refine aw_aald C 1 2 sy_p1 rfl i rfl hi (by decide) (y := h + sh i) rfl dc_S_has_13 ?_
  refine aw_iload_n C dc_S_has_14 rfl ?_
  refine kc_i (fun _ h => h) (fun _ h => h) (kc_S (n := 1) C hX (xw_k ca_le) (s_mirrored l D _ _ _ _ (xw_k ca_le) n hn) kw_240 kw_238 kw_239 kw_1 (by unfold kd_; decide) ⟨rfl, rfl, by decide, by decide⟩ rfl rfl (Nat.le_of_ble_eq_true rfl) ⟨Nat.zero_le _, Nat.zero_le _⟩ dc_S_has_15) ?_
  refine kc_i (fun _ h => h) (fun _ h => h) (kc_V (n := 1) C hX (xw_k ca_le) rfl (sh i) (sy_fam (hs.2.2.2 i hi).1) rfl (f_holds l D h th cI cL cF I J sh fr en (sh i) (hs.2.2.2 i hi).1 (mr_ n 12) (mr_lt n (Nat.le_refl _))) kw_247 kw_244 kw_245 kw_246 kw_3 rfl (by unfold kd_; decide) ⟨rfl, rfl, by decide, by decide⟩ rfl rfl (Nat.le_of_ble_eq_true rfl) ⟨Nat.zero_le _, Nat.zero_le _⟩ dc_S_has_18) ?_
  exact kc_zret C hr (z1_01 _) rfl (fun _ h => h) dc_S_has_21
set_option maxHeartbeats 4000000 in
set_option maxRecDepth 100000 in
theorem s_rank (l : Launch) (D : va_G) (h th : Nat) (cI cL cF : ClassId) (I : Nat → Nat → Int32) (J : Nat → Nat → Int64) (sh : Nat → Nat) (fr : Nat) (en : Int32) (hs : shok_ sh fr) (i : Nat) (hi : i < 10) (n : Nat) (hn : n < 4096) : ki_ l my_S_rank (Cond.code my_S_rank bc_S_rank 3 (some .int) :: tw_) ({ frames := 3, cells := 0, slots := 0, locals := 68 }) D (ty_s cI cL cF) (xw_ h th) (ca_ h) [.ref h, .int (nI i), .int (nI n)] (kp_ D h cI cL cF I J sh fr en) (kp_ D h cI cL cF I J sh fr en) (nI (cn_ (fb_ (J (sh i + 1))) (mr_ n 12))) := by
  refine aw_met (A := ca_ h) (own := "FamilyShelf") (by decide) rfl rfl (Nat.le_of_ble_eq_true rfl) ?_
  intro p9 e s m args below meth c C hr hX hP0
  refine aw_lw (lw' := [some (.ref h), some (.int (nI i)), some (.int (nI n))]) rfl ?_
  refine aw_iload_n C dc_S_rank_0 rfl ?_
  refine kc_v (fun _ h => h) (fun _ h => h) (kc_S (n := 1) C hX (xw_k ca_le) (s_checkShelf l D _ _ _ _ i hi) kw_146 kw_144 kw_145 kw_1 (by unfold kd_; decide) ⟨rfl, rfl, by decide, by decide⟩ rfl rfl (Nat.le_of_ble_eq_true rfl) ⟨Nat.zero_le _, Nat.zero_le _⟩ dc_S_rank_1) ?_
  refine aw_iload_n C dc_S_rank_4 rfl ?_
  refine kc_v (fun _ h => h) (fun _ h => h) (kc_S (n := 1) C hX (xw_k ca_le) (s_checkSet l D _ _ _ _ (xw_k ca_le) n hn) kw_218 kw_216 kw_217 kw_1 (by unfold kd_; decide) ⟨rfl, rfl, by decide, by decide⟩ rfl rfl (Nat.le_of_ble_eq_true rfl) ⟨Nat.zero_le _, Nat.zero_le _⟩ dc_S_rank_5) ?_
  refine aw_aload_n C dc_S_rank_8 rfl ?_
  refine aw_get C (fun w h => List.mem_cons_of_mem _ (ly_S w h)) 0 sy_p0 rfl 0 (by decide) (C.1.2.2.2.2 _ (List.mem_cons_of_mem _ kw_116)) (fun _ h => h) rfl dc_S_rank_9 ?_
  refine aw_iload_n C dc_S_rank_12 rfl ?_
  refine aw_aald C 1 2 sy_p1 rfl i rfl hi (by decide) (y := h + sh i) rfl dc_S_rank_13 ?_
  refine aw_iload_n C dc_S_rank_14 rfl ?_
  refine kc_i (fun _ h => h) (fun _ h => h) (kc_S (n := 1) C hX (xw_k ca_le) (s_mirrored l D _ _ _ _ (xw_k ca_le) n hn) kw_240 kw_238 kw_239 kw_1 (by unfold kd_; decide) ⟨rfl, rfl, by decide, by decide⟩ rfl rfl (Nat.le_of_ble_eq_true rfl) ⟨Nat.zero_le _, Nat.zero_le _⟩ dc_S_rank_15) ?_
  refine kc_i (fun _ h => h) (fun _ h => h) (kc_V (n := 1) C hX (xw_k ca_le) rfl (sh i) (sy_fam (hs.2.2.2 i hi).1) rfl (f_totalBefore l D h th cI cL cF I J sh fr en (sh i) (hs.2.2.2 i hi).1 (mr_ n 12) (mr_lt n (Nat.le_refl _))) kw_558 kw_555 kw_556 kw_557 kw_3 rfl (by unfold kd_; decide) ⟨rfl, rfl, by decide, by decide⟩ rfl rfl (Nat.le_of_ble_eq_true rfl) ⟨Nat.zero_le _, Nat.zero_le _⟩ dc_S_rank_18) ?_
  exact kc_iret C hr rfl (fun _ h => h) dc_S_rank_21
set_option maxHeartbeats 4000000 in
set_option maxRecDepth 100000 in
theorem s_nthNeg (l : Launch) (D : va_G) (h th : Nat) (cI cL cF : ClassId) (I : Nat → Nat → Int32) (J : Nat → Nat → Int64) (sh : Nat → Nat) (fr : Nat) (en : Int32) (hs : shok_ sh fr) (i : Nat) (hi : i < 10) (x : Int32) (hx : x < 0) : ki_ l my_S_nth (Cond.code my_S_nth bc_S_nth 4 (some .int) :: tw_) ({ frames := 2, cells := 0, slots := 0, locals := 48 }) D (ty_s cI cL cF) (xw_ h th) (ca_ h) [.ref h, .int (nI i), .int x] (kp_ D h cI cL cF I J sh fr en) (kp_ D h cI cL cF I J sh fr en) (-1) := by
  refine aw_met (A := ca_ h) (own := "FamilyShelf") (by decide) rfl rfl (Nat.le_of_ble_eq_true rfl) ?_
  intro p9 e s m args below meth c C hr hX hP0
  refine aw_lw (lw' := [some (.ref h), some (.int (nI i)), some (.int x), none]) rfl ?_
  refine aw_iload_n C dc_S_nth_0 rfl ?_
  refine kc_v (fun _ h => h) (fun _ h => h) (kc_S (n := 1) C hX (xw_k ca_le) (s_checkShelf l D _ _ _ _ i hi) kw_146 kw_144 kw_145 kw_1 (by unfold kd_; decide) ⟨rfl, rfl, by decide, by decide⟩ rfl rfl (Nat.le_of_ble_eq_true rfl) ⟨Nat.zero_le _, Nat.zero_le _⟩ dc_S_nth_1) ?_
  refine aw_aload_n C dc_S_nth_4 rfl ?_
  refine aw_get C (fun w h => List.mem_cons_of_mem _ (ly_S w h)) 0 sy_p0 rfl 0 (by decide) (C.1.2.2.2.2 _ (List.mem_cons_of_mem _ kw_116)) (fun _ h => h) rfl dc_S_nth_5 ?_
  refine aw_iload_n C dc_S_nth_8 rfl ?_
  refine aw_aald C 1 2 sy_p1 rfl i rfl hi (by decide) (y := h + sh i) rfl dc_S_nth_9 ?_
  refine aw_iload_n C dc_S_nth_10 rfl ?_
  refine kc_i (fun _ h => h) (fun _ h => h) (kc_V (n := 1) C hX (xw_k ca_le) rfl (sh i) (sy_fam (hs.2.2.2 i hi).1) rfl (f_placeAtNeg l D h th cI cL cF I J sh fr en (sh i) (hs.2.2.2 i hi).1 x hx) kw_544 kw_541 kw_542 kw_543 kw_3 rfl (by unfold kd_; decide) ⟨rfl, rfl, by decide, by decide⟩ rfl rfl (Nat.le_of_ble_eq_true rfl) ⟨Nat.zero_le _, Nat.zero_le _⟩ dc_S_nth_11) ?_
  refine aw_istore_n C dc_S_nth_14 (by decide) rfl ?_
  refine aw_iload_n C dc_S_nth_15 rfl ?_
  refine aw_iconst C dc_S_nth_16 (v := (-1)) rfl ?_
  refine aw_icmp_ne C dc_S_nth_17 (tgt := 24) (by decide) (fun h9 => absurd (rfl) h9) (fun _ => ?_)
  refine aw_iconst C dc_S_nth_20 (v := (-1)) rfl ?_
  refine aw_goto C dc_S_nth_21 (tgt := 28) (by decide) ?_
  exact kc_iret C hr rfl (fun _ h => h) dc_S_nth_28
set_option maxHeartbeats 4000000 in
set_option maxRecDepth 100000 in
theorem s_nth (l : Launch) (D : va_G) (h th : Nat) (cI cL cF : ClassId) (I : Nat → Nat → Int32) (J : Nat → Nat → Int64) (sh : Nat → Nat) (fr : Nat) (en : Int32) (hs : shok_ sh fr) (i : Nat) (hi : i < 10) (j : Nat) (hj : j < 2 ^ 31) : ki_ l my_S_nth (Cond.code my_S_nth bc_S_nth 4 (some .int) :: tw_) ({ frames := 2, cells := 0, slots := 0, locals := 48 }) D (ty_s cI cL cF) (xw_ h th) (ca_ h) [.ref h, .int (nI i), .int (nI j)] (kp_ D h cI cL cF I J sh fr en) (kp_ D h cI cL cF I J sh fr en) (if j < cn_ (fb_ (J (sh i + 1))) 4096 then nI (mr_ (sel_ (fb_ (J (sh i + 1))) 4096 j) 12) else -1) := by
  refine aw_met (A := ca_ h) (own := "FamilyShelf") (by decide) rfl rfl (Nat.le_of_ble_eq_true rfl) ?_
  intro p9 e s m args below meth c C hr hX hP0
  refine aw_lw (lw' := [some (.ref h), some (.int (nI i)), some (.int (nI j)), none]) rfl ?_
  refine aw_iload_n C dc_S_nth_0 rfl ?_
  refine kc_v (fun _ h => h) (fun _ h => h) (kc_S (n := 1) C hX (xw_k ca_le) (s_checkShelf l D _ _ _ _ i hi) kw_146 kw_144 kw_145 kw_1 (by unfold kd_; decide) ⟨rfl, rfl, by decide, by decide⟩ rfl rfl (Nat.le_of_ble_eq_true rfl) ⟨Nat.zero_le _, Nat.zero_le _⟩ dc_S_nth_1) ?_
  refine aw_aload_n C dc_S_nth_4 rfl ?_
  refine aw_get C (fun w h => List.mem_cons_of_mem _ (ly_S w h)) 0 sy_p0 rfl 0 (by decide) (C.1.2.2.2.2 _ (List.mem_cons_of_mem _ kw_116)) (fun _ h => h) rfl dc_S_nth_5 ?_
  refine aw_iload_n C dc_S_nth_8 rfl ?_
  refine aw_aald C 1 2 sy_p1 rfl i rfl hi (by decide) (y := h + sh i) rfl dc_S_nth_9 ?_
  refine aw_iload_n C dc_S_nth_10 rfl ?_
  refine kc_i (fun _ h => h) (fun _ h => h) (kc_V (n := 1) C hX (xw_k ca_le) rfl (sh i) (sy_fam (hs.2.2.2 i hi).1) rfl (f_placeAt l D h th cI cL cF I J sh fr en (sh i) (hs.2.2.2 i hi).1 j hj) kw_544 kw_541 kw_542 kw_543 kw_3 rfl (by unfold kd_; decide) ⟨rfl, rfl, by decide, by decide⟩ rfl rfl (Nat.le_of_ble_eq_true rfl) ⟨Nat.zero_le _, Nat.zero_le _⟩ dc_S_nth_11) ?_
  by_cases hc : j < cn_ (fb_ (J (sh i + 1))) 4096
  · simp only [if_pos hc]
    have hq := (sel_ok (fb_ (J (sh i + 1))) hc).1
    refine aw_istore_n C dc_S_nth_14 (by decide) rfl ?_
    refine aw_iload_n C dc_S_nth_15 rfl ?_
    refine aw_iconst C dc_S_nth_16 (v := (-1)) rfl ?_
    refine aw_icmp_ne C dc_S_nth_17 (tgt := 24) (by decide) (fun _ => ?_) (fun h9 => absurd h9 (nI_nm1 (by omega)))
    refine aw_iload_n C dc_S_nth_24 rfl ?_
    refine kc_i (fun _ h => h) (fun _ h => h) (kc_S (n := 1) C hX (xw_k ca_le) (s_mirrored l D _ _ _ _ (xw_k ca_le) (sel_ (fb_ (J (sh i + 1))) 4096 j) hq) kw_240 kw_238 kw_239 kw_1 (by unfold kd_; decide) ⟨rfl, rfl, by decide, by decide⟩ rfl rfl (Nat.le_of_ble_eq_true rfl) ⟨Nat.zero_le _, Nat.zero_le _⟩ dc_S_nth_25) ?_
    exact kc_iret C hr rfl (fun _ h => h) dc_S_nth_28
  · simp only [if_neg hc]
    refine aw_istore_n C dc_S_nth_14 (by decide) rfl ?_
    refine aw_iload_n C dc_S_nth_15 rfl ?_
    refine aw_iconst C dc_S_nth_16 (v := (-1)) rfl ?_
    refine aw_icmp_ne C dc_S_nth_17 (tgt := 24) (by decide) (fun h9 => absurd (rfl) h9) (fun _ => ?_)
    refine aw_iconst C dc_S_nth_20 (v := (-1)) rfl ?_
    refine aw_goto C dc_S_nth_21 (tgt := 28) (by decide) ?_
    exact kc_iret C hr rfl (fun _ h => h) dc_S_nth_28
set_option maxHeartbeats 4000000 in
set_option maxRecDepth 100000 in
theorem s_heaviest (l : Launch) (D : va_G) (h th : Nat) (cI cL cF : ClassId) (I : Nat → Nat → Int32) (J : Nat → Nat → Int64) (sh : Nat → Nat) (fr : Nat) (en : Int32) (hs : shok_ sh fr) (i : Nat) (hi : i < 10) (q : Nat) (hq2 : q < 4096) (hq : (hp_ (J (sh i + 1)) (hs_ I) 4096).1 = nI q) : ki_ l my_S_heaviest (Cond.code my_S_heaviest bc_S_heaviest 3 (some .int) :: tw_) ({ frames := 3, cells := 0, slots := 0, locals := 71 }) D (ty_s cI cL cF) (xw_ h th) (ca_ h) [.ref h, .int (nI i)] (kp_ D h cI cL cF I J sh fr en) (kp_ D h cI cL cF (hI_ I) J sh fr en) (nI (mr_ q 12)) := by
  refine aw_met (A := ca_ h) (own := "FamilyShelf") (by decide) rfl rfl (Nat.le_of_ble_eq_true rfl) ?_
  intro p9 e s m args below meth c C hr hX hP0
  refine aw_lw (lw' := [some (.ref h), some (.int (nI i)), none]) rfl ?_
  refine aw_iload_n C dc_S_heaviest_0 rfl ?_
  refine kc_v (fun _ h => h) (fun _ h => h) (kc_S (n := 1) C hX (xw_k ca_le) (s_checkShelf l D _ _ _ _ i hi) kw_146 kw_144 kw_145 kw_1 (by unfold kd_; decide) ⟨rfl, rfl, by decide, by decide⟩ rfl rfl (Nat.le_of_ble_eq_true rfl) ⟨Nat.zero_le _, Nat.zero_le _⟩ dc_S_heaviest_1) ?_
  refine aw_aload_n C dc_S_heaviest_4 rfl ?_
  refine aw_get C (fun w h => List.mem_cons_of_mem _ (ly_S w h)) 0 sy_p0 rfl 3 (by decide) (C.1.2.2.2.2 _ (List.mem_cons_of_mem _ kw_119)) (fun _ h => h) rfl dc_S_heaviest_5 ?_
  refine aw_aload_n C dc_S_heaviest_8 rfl ?_
  refine aw_get C (fun w h => List.mem_cons_of_mem _ (ly_S w h)) 0 sy_p0 rfl 0 (by decide) (C.1.2.2.2.2 _ (List.mem_cons_of_mem _ kw_116)) (fun _ h => h) rfl dc_S_heaviest_9 ?_
  refine aw_iload_n C dc_S_heaviest_12 rfl ?_
  refine aw_aald C 1 2 sy_p1 rfl i rfl hi (by decide) (y := h + sh i) rfl dc_S_heaviest_13 ?_
  refine kc_i (fun _ h => h) (fun _ h => h) (kc_V (n := 1) C hX (xw_k ca_le) rfl 11 sy_p11 rfl (w_heaviestPlace l D h th cI cL cF I J sh fr en (sh i) (hs.2.2.2 i hi).1) kw_570 kw_567 kw_568 kw_569 kw_6 rfl (by unfold kd_; decide) ⟨rfl, rfl, by decide, by decide⟩ rfl rfl (Nat.le_of_ble_eq_true rfl) ⟨Nat.zero_le _, Nat.zero_le _⟩ dc_S_heaviest_14) ?_
  refine aw_eqi hq ?_
  refine aw_istore_n C dc_S_heaviest_17 (by decide) rfl ?_
  refine aw_iload_n C dc_S_heaviest_18 rfl ?_
  refine kc_v (fun _ h => h) (fun _ h => h) (kc_S (n := 1) C hX (xw_k ca_le) (s_checkFound l D _ _ _ _ (nI q) (nI_nm1 (by omega))) kw_579 kw_577 kw_578 kw_1 (by unfold kd_; decide) ⟨rfl, rfl, by decide, by decide⟩ rfl rfl (Nat.le_of_ble_eq_true rfl) ⟨Nat.zero_le _, Nat.zero_le _⟩ dc_S_heaviest_19) ?_
  refine aw_iload_n C dc_S_heaviest_22 rfl ?_
  refine kc_i (fun _ h => h) (fun _ h => h) (kc_S (n := 1) C hX (xw_k ca_le) (s_mirrored l D _ _ _ _ (xw_k ca_le) q hq2) kw_240 kw_238 kw_239 kw_1 (by unfold kd_; decide) ⟨rfl, rfl, by decide, by decide⟩ rfl rfl (Nat.le_of_ble_eq_true rfl) ⟨Nat.zero_le _, Nat.zero_le _⟩ dc_S_heaviest_23) ?_
  exact kc_iret C hr rfl (fun _ h => h) dc_S_heaviest_26
set_option maxHeartbeats 4000000 in
set_option maxRecDepth 100000 in
theorem s_size (l : Launch) (D : va_G) (h th : Nat) (cI cL cF : ClassId) (I0 : Nat → Nat → Int32) (T : Nat → Nat → Nat) (J : Nat → Nat → Int64) (sh : Nat → Nat) (fr : Nat) (E : Nat) (hs : shok_ sh fr) (i : Nat) (hi : i < 10) (hT : tb_ T) : ki_ l my_S_size (Cond.code my_S_size bc_S_size 2 (some .int) :: tw_) ({ frames := 3, cells := 0, slots := 0, locals := 70 }) D (ty_s cI cL cF) (xw_ h th) (ca_ h) [.ref h, .int (nI i)] (kp_ D h cI cL cF (it_ I0 T) J sh fr (nI E)) (kp_ D h cI cL cF (it_ I0 (dl_ (d0_ T (J (sh i + 1)) 4096, 2) 12).1) J sh fr (nI (dl_ (d0_ T (J (sh i + 1)) 4096, 2) 12).2)) (nI ((dl_ (d0_ T (J (sh i + 1)) 4096, 2) 12).2 - 2)) := by
  refine aw_met (A := ca_ h) (own := "FamilyShelf") (by decide) rfl rfl (Nat.le_of_ble_eq_true rfl) ?_
  intro p9 e s m args below meth c C hr hX hP0
  refine aw_lw (lw' := [some (.ref h), some (.int (nI i))]) rfl ?_
  refine aw_iload_n C dc_S_size_0 rfl ?_
  refine kc_v (fun _ h => h) (fun _ h => h) (kc_S (n := 1) C hX (xw_k ca_le) (s_checkShelf l D _ _ _ _ i hi) kw_146 kw_144 kw_145 kw_1 (by unfold kd_; decide) ⟨rfl, rfl, by decide, by decide⟩ rfl rfl (Nat.le_of_ble_eq_true rfl) ⟨Nat.zero_le _, Nat.zero_le _⟩ dc_S_size_1) ?_
  refine aw_aload_n C dc_S_size_4 rfl ?_
  refine aw_get C (fun w h => List.mem_cons_of_mem _ (ly_S w h)) 0 sy_p0 rfl 4 (by decide) (C.1.2.2.2.2 _ (List.mem_cons_of_mem _ kw_120)) (fun _ h => h) rfl dc_S_size_5 ?_
  refine aw_aload_n C dc_S_size_8 rfl ?_
  refine aw_get C (fun w h => List.mem_cons_of_mem _ (ly_S w h)) 0 sy_p0 rfl 0 (by decide) (C.1.2.2.2.2 _ (List.mem_cons_of_mem _ kw_116)) (fun _ h => h) rfl dc_S_size_9 ?_
  refine aw_iload_n C dc_S_size_12 rfl ?_
  refine aw_aald C 1 2 sy_p1 rfl i rfl hi (by decide) (y := h + sh i) rfl dc_S_size_13 ?_
  refine kc_i (fun _ h => h) (fun _ h => h) (kc_V (n := 1) C hX (xw_k ca_le) rfl 15 sy_p15 rfl (d_nodesFor l D h th cI cL cF I0 T J sh fr E (sh i) (hs.2.2.2 i hi).1 hT) kw_606 kw_603 kw_604 kw_605 kw_7 rfl (by unfold kd_; decide) ⟨rfl, rfl, by decide, by decide⟩ rfl rfl (Nat.le_of_ble_eq_true rfl) ⟨Nat.zero_le _, Nat.zero_le _⟩ dc_S_size_14) ?_
  exact kc_iret C hr rfl (fun _ h => h) dc_S_size_17
set_option maxHeartbeats 4000000 in
set_option maxRecDepth 100000 in
theorem s_parts (l : Launch) (D : va_G) (h th : Nat) (cI cL cF : ClassId) (I : Nat → Nat → Int32) (J : Nat → Nat → Int64) (sh : Nat → Nat) (fr : Nat) (en : Int32) (hs : shok_ sh fr) (i : Nat) (hi : i < 10) : ki_ l my_S_parts (Cond.code my_S_parts bc_S_parts 3 (some .int) :: tw_) ({ frames := 3, cells := 0, slots := 0, locals := 70 }) D (ty_s cI cL cF) (xw_ h th) (ca_ h) [.ref h, .int (nI i)] (kp_ D h cI cL cF I J sh fr en) (kp_ D h cI cL cF I J sh fr en) (fia_ (fi_ (fun e => ptf_ (J (sh i + 1)) (11 - e)) 0 12)) := by
  refine aw_met (A := ca_ h) (own := "FamilyShelf") (by decide) rfl rfl (Nat.le_of_ble_eq_true rfl) ?_
  intro p9 e s m args below meth c C hr hX hP0
  refine aw_lw (lw' := [some (.ref h), some (.int (nI i)), none]) rfl ?_
  refine aw_iload_n C dc_S_parts_0 rfl ?_
  refine kc_v (fun _ h => h) (fun _ h => h) (kc_S (n := 1) C hX (xw_k ca_le) (s_checkShelf l D _ _ _ _ i hi) kw_146 kw_144 kw_145 kw_1 (by unfold kd_; decide) ⟨rfl, rfl, by decide, by decide⟩ rfl rfl (Nat.le_of_ble_eq_true rfl) ⟨Nat.zero_le _, Nat.zero_le _⟩ dc_S_parts_1) ?_
  refine aw_iconst C dc_S_parts_4 (v := nI 0) rfl ?_
  refine aw_istore_n C dc_S_parts_5 (by decide) rfl ?_
  refine aw_loopK (fun n => fi_ (fun e => ptf_ (J (sh i + 1)) (11 - e)) 0 12 = fi_ (fun e => ptf_ (J (sh i + 1)) (11 - e)) n (12 - n)) (fun _ => kp_ D h cI cL cF I J sh fr en) (fun n => [some (.ref h), some (.int (nI i)), some (.int (nI n))]) 12 rfl (fun hk => ?_) (fun n hn hk ih => ?_)
  · refine aw_iload_n C dc_S_parts_6 rfl ?_
    refine aw_bipush C dc_S_parts_7 (v := nI 12) rfl ?_
    refine aw_icmp_ge C dc_S_parts_9 (tgt := 36) (by decide) (fun _ => ?_) (fun h9 => absurd (nI_le (Nat.le_refl _) (by decide)) h9)
    refine aw_iconst C dc_S_parts_36 (v := (-1)) rfl ?_
    exact kc_iret C hr (by rw [hk]; rfl) (fun _ h => h) dc_S_parts_37
  · have hs9 : fi_ (fun e => ptf_ (J (sh i + 1)) (11 - e)) n (12 - n) = if ptf_ (J (sh i + 1)) (11 - n) then some n else fi_ (fun e => ptf_ (J (sh i + 1)) (11 - e)) (n + 1) (12 - (n + 1)) := by rw [show 12 - n = (12 - (n + 1)) + 1 by omega, fi_]
    refine aw_iload_n C dc_S_parts_6 rfl ?_
    refine aw_bipush C dc_S_parts_7 (v := nI 12) rfl ?_
    refine aw_icmp_ge C dc_S_parts_9 (tgt := 36) (by decide) (fun h9 => absurd h9 (nI_ge hn (by decide))) (fun _ => ?_)
    refine aw_aload_n C dc_S_parts_12 rfl ?_
    refine aw_get C (fun w h => List.mem_cons_of_mem _ (ly_S w h)) 0 sy_p0 rfl 0 (by decide) (C.1.2.2.2.2 _ (List.mem_cons_of_mem _ kw_116)) (fun _ h => h) rfl dc_S_parts_13 ?_
    refine aw_iload_n C dc_S_parts_16 rfl ?_
    refine aw_aald C 1 2 sy_p1 rfl i rfl hi (by decide) (y := h + sh i) rfl dc_S_parts_17 ?_
    refine aw_iload_n C dc_S_parts_18 rfl ?_
    refine kc_i (fun _ h => h) (fun _ h => h) (kc_S (n := 1) C hX (xw_k ca_le) (s_bitOf l D _ _ _ _ n hn) kw_243 kw_241 kw_242 kw_1 (by unfold kd_; decide) ⟨rfl, rfl, by decide, by decide⟩ rfl rfl (Nat.le_of_ble_eq_true rfl) ⟨Nat.zero_le _, Nat.zero_le _⟩ dc_S_parts_19) ?_
    refine kc_i (fun _ h => h) (fun _ h => h) (kc_V (n := 1) C hX (xw_k ca_le) rfl (sh i) (sy_fam (hs.2.2.2 i hi).1) rfl (f_isParted l D h th cI cL cF I J sh fr en (sh i) (hs.2.2.2 i hi).1 (11 - n) (by omega)) kw_629 kw_626 kw_627 kw_628 kw_3 rfl (by unfold kd_; decide) ⟨rfl, rfl, by decide, by decide⟩ rfl rfl (Nat.le_of_ble_eq_true rfl) ⟨Nat.zero_le _, Nat.zero_le _⟩ dc_S_parts_22) ?_
    refine aw_eqi (show _ = z1_ (ptf_ (J (sh i + 1)) (11 - n)) from rfl) ?_
    refine aw_if_eq C dc_S_parts_25 (tgt := 30) (by decide) (fun hB25 => ?_) (fun hB25 => ?_)
    · have hp : ptf_ (J (sh i + 1)) (11 - n) = false := by
        cases h9 : ptf_ (J (sh i + 1)) (11 - n)
        · rfl
        · rw [h9] at hB25; exact absurd hB25 (by decide)
      have cutp := ih (by rw [hk, hs9, hp]; rfl)
      refine aw_iinc C dc_S_parts_30 rfl (ni_inc _) (by decide) rfl ?_
      refine aw_goto C dc_S_parts_33 (tgt := 6) (by decide) ?_
      exact cutp
    · have hp : ptf_ (J (sh i + 1)) (11 - n) = true := by
        cases h9 : ptf_ (J (sh i + 1)) (11 - n)
        · rw [h9] at hB25; exact absurd rfl hB25
        · rfl
      refine aw_iload_n C dc_S_parts_28 rfl ?_
      exact kc_iret C hr (by rw [hk, hs9, hp]; rfl) (fun _ h => h) dc_S_parts_29
