theorem z1_inj {x y : Bool} (h : z1_ x = z1_ y) : x = y := by
  cases x <;> cases y
  · rfl
  · exact absurd h (by decide)
  · exact absurd h (by decide)
  · rfl
set_option maxHeartbeats 4000000 in
set_option maxRecDepth 100000 in
theorem m_isAny (l : Launch) (D : va_G) (a : Nat) (cI cL cF : ClassId) (t : Int32) (S K Qt : Nat → Int64) (O1 O2 En Ot Wt : Nat → Int32) (i : Nat) (hi : i < 10) (x n : Nat) (hx : x + n ≤ 4096) : ki_ l my_M_isAny (Cond.code my_M_isAny bc_M_isAny 5 (some .boolean) :: tw_) ({ frames := 1, cells := 0, slots := 0, locals := 22 }) D (ty_s cI cL cF) (fun _ => True) (cm_ a) [.ref a, .int (nI i), .int (nI x), .int (nI n)] (rp_ D a cI cL t S K Qt O1 O2 En Ot Wt) (rp_ D a cI cL t S K Qt O1 O2 En Ot Wt) (z1_ (ex_ (fun k => (fb_ (rw_ S i)) (x + k)) n)) := by
  refine aw_met (A := cm_ a) (own := "FamilyShelfModel") (by decide) rfl rfl (Nat.le_of_ble_eq_true rfl) ?_
  intro p9 e s m args below meth c C hr hX hP0
  refine aw_lw (lw' := [some (.ref a), some (.int (nI i)), some (.int (nI x)), some (.int (nI n)), none]) rfl ?_
  refine aw_iload_n C dc_M_isAny_0 rfl ?_
  refine aw_istore C dc_M_isAny_1 (by decide) rfl ?_
  refine aw_loopK (fun k => ex_ (fun k => (fb_ (rw_ S i)) (x + k)) k = false) (fun k => rp_ D a cI cL t S K Qt O1 O2 En Ot Wt) (fun k => [some (.ref a), some (.int (nI i)), some (.int (nI x)), some (.int (nI n)), some (.int (nI (x + k)))]) n rfl (fun hK => ?_) (fun k hk hK ih => ?_)
  · refine aw_iload C dc_M_isAny_3 rfl ?_
    refine aw_iload_n C dc_M_isAny_5 rfl ?_
    refine aw_iload_n C dc_M_isAny_6 rfl ?_
    refine aw_iadd C dc_M_isAny_7 ?_
    refine aw_eqi (nI_add _ _) ?_
    refine aw_icmp_ge C dc_M_isAny_8 (tgt := 29) (by decide) (fun _ => ?_) (fun h9 => absurd (nI_le (Nat.le_refl _) (by omega)) h9)
    refine aw_iconst C dc_M_isAny_29 (v := nI 0) rfl ?_
    exact kc_zret C hr (by decide) (by rw [hK]; rfl) (fun _ h => h) dc_M_isAny_30
  · refine aw_iload C dc_M_isAny_3 rfl ?_
    refine aw_iload_n C dc_M_isAny_5 rfl ?_
    refine aw_iload_n C dc_M_isAny_6 rfl ?_
    refine aw_iadd C dc_M_isAny_7 ?_
    refine aw_eqi (nI_add _ _) ?_
    refine aw_icmp_ge C dc_M_isAny_8 (tgt := 29) (by decide) (fun h9 => absurd h9 (nI_ge (show x + k < x + n by omega) (by omega))) (fun _ => ?_)
    refine aw_aload_n C dc_M_isAny_11 rfl ?_
    refine aw_iload_n C dc_M_isAny_12 rfl ?_
    refine aw_iload C dc_M_isAny_13 rfl ?_
    refine kc_i (fun _ h => h) (fun _ h => h) (kc_V (n := 2) C hX xk_true rfl 0 rf_p0 rfl (m_isIn l D a cI cL cF t S K Qt O1 O2 En Ot Wt i hi (x + k) (by omega)) kw_684 kw_681 kw_683 (tw_sel (q := (my_M_isIn, 9)) (by decide +kernel)) kw_8 rfl (by unfold kd_; decide) ⟨rfl, rfl, by decide, by decide⟩ rfl rfl (Nat.le_of_ble_eq_true rfl) ⟨Nat.zero_le _, Nat.zero_le _⟩ dc_M_isAny_15) ?_
    refine aw_if_eq C dc_M_isAny_18 (tgt := 23) (by decide) (fun hB18 => ?_) (fun hB18 => ?_)
    · have ih2 := ih (ex_f hK (z1_0.mp hB18))
      refine aw_iinc C dc_M_isAny_23 rfl (ni_inc _) (by decide) rfl ?_
      refine aw_goto C dc_M_isAny_26 (tgt := 3) (by decide) ?_
      exact ih2
    · have hs := ex_in (g := (fun k => (fb_ (rw_ S i)) (x + k))) (k := k) (z1_n.mp hB18) hk
      refine aw_iconst C dc_M_isAny_21 (v := nI 1) rfl ?_
      exact kc_zret C hr (by decide) (by rw [hs]; rfl) (fun _ h => h) dc_M_isAny_22
set_option maxHeartbeats 4000000 in
set_option maxRecDepth 100000 in
theorem m_alike (l : Launch) (D : va_G) (a : Nat) (cI cL cF : ClassId) (t : Int32) (S K Qt : Nat → Int64) (O1 O2 En Ot Wt : Nat → Int32) (i : Nat) (hi : i < 10) (x y n : Nat) (hx : x + n ≤ 4096) (hy : y + n ≤ 4096) : ki_ l my_M_alike (Cond.code my_M_alike bc_M_alike 6 (some .boolean) :: tw_) ({ frames := 1, cells := 0, slots := 0, locals := 22 }) D (ty_s cI cL cF) (fun _ => True) (cm_ a) [.ref a, .int (nI i), .int (nI x), .int (nI y), .int (nI n)] (rp_ D a cI cL t S K Qt O1 O2 En Ot Wt) (rp_ D a cI cL t S K Qt O1 O2 En Ot Wt) (z1_ (fa_ (fun j => (fb_ (rw_ S i)) (x + j) == (fb_ (rw_ S i)) (y + j)) n)) := by
  refine aw_met (A := cm_ a) (own := "FamilyShelfModel") (by decide) rfl rfl (Nat.le_of_ble_eq_true rfl) ?_
  intro p9 e s m args below meth c C hr hX hP0
  refine aw_lw (lw' := [some (.ref a), some (.int (nI i)), some (.int (nI x)), some (.int (nI y)), some (.int (nI n)), none]) rfl ?_
  refine aw_iconst C dc_M_alike_0 (v := nI 0) rfl ?_
  refine aw_istore C dc_M_alike_1 (by decide) rfl ?_
  refine aw_loopK (fun k => fa_ (fun j => (fb_ (rw_ S i)) (x + j) == (fb_ (rw_ S i)) (y + j)) k = true) (fun k => rp_ D a cI cL t S K Qt O1 O2 En Ot Wt) (fun k => [some (.ref a), some (.int (nI i)), some (.int (nI x)), some (.int (nI y)), some (.int (nI n)), some (.int (nI k))]) n rfl (fun hK => ?_) (fun k hk hK ih => ?_)
  · refine aw_iload C dc_M_alike_3 rfl ?_
    refine aw_iload C dc_M_alike_5 rfl ?_
    refine aw_icmp_ge C dc_M_alike_7 (tgt := 39) (by decide) (fun _ => ?_) (fun h9 => absurd (nI_le (Nat.le_refl _) (by omega)) h9)
    refine aw_iconst C dc_M_alike_39 (v := nI 1) rfl ?_
    exact kc_zret C hr (by decide) (by rw [hK]; rfl) (fun _ h => h) dc_M_alike_40
  · refine aw_iload C dc_M_alike_3 rfl ?_
    refine aw_iload C dc_M_alike_5 rfl ?_
    refine aw_icmp_ge C dc_M_alike_7 (tgt := 39) (by decide) (fun h9 => absurd h9 (nI_ge hk (by omega))) (fun _ => ?_)
    refine aw_aload_n C dc_M_alike_10 rfl ?_
    refine aw_iload_n C dc_M_alike_11 rfl ?_
    refine aw_iload_n C dc_M_alike_12 rfl ?_
    refine aw_iload C dc_M_alike_13 rfl ?_
    refine aw_iadd C dc_M_alike_15 ?_
    refine aw_eqi (nI_add _ _) ?_
    refine kc_i (fun _ h => h) (fun _ h => h) (kc_V (n := 2) C hX xk_true rfl 0 rf_p0 rfl (m_isIn l D a cI cL cF t S K Qt O1 O2 En Ot Wt i hi (x + k) (by omega)) kw_684 kw_681 kw_683 (tw_sel (q := (my_M_isIn, 9)) (by decide +kernel)) kw_8 rfl (by unfold kd_; decide) ⟨rfl, rfl, by decide, by decide⟩ rfl rfl (Nat.le_of_ble_eq_true rfl) ⟨Nat.zero_le _, Nat.zero_le _⟩ dc_M_alike_16) ?_
    refine aw_aload_n C dc_M_alike_19 rfl ?_
    refine aw_iload_n C dc_M_alike_20 rfl ?_
    refine aw_iload_n C dc_M_alike_21 rfl ?_
    refine aw_iload C dc_M_alike_22 rfl ?_
    refine aw_iadd C dc_M_alike_24 ?_
    refine aw_eqi (nI_add _ _) ?_
    refine kc_i (fun _ h => h) (fun _ h => h) (kc_V (n := 2) C hX xk_true rfl 0 rf_p0 rfl (m_isIn l D a cI cL cF t S K Qt O1 O2 En Ot Wt i hi (y + k) (by omega)) kw_684 kw_681 kw_683 (tw_sel (q := (my_M_isIn, 9)) (by decide +kernel)) kw_8 rfl (by unfold kd_; decide) ⟨rfl, rfl, by decide, by decide⟩ rfl rfl (Nat.le_of_ble_eq_true rfl) ⟨Nat.zero_le _, Nat.zero_le _⟩ dc_M_alike_25) ?_
    refine aw_icmp_eq C dc_M_alike_28 (tgt := 33) (by decide) (fun hB28 => ?_) (fun hB28 => ?_)
    · have ih2 := ih (fa_s hK (beq_iff_eq.mpr (z1_inj hB28)))
      refine aw_iinc C dc_M_alike_33 rfl (ni_inc _) (by decide) rfl ?_
      refine aw_goto C dc_M_alike_36 (tgt := 3) (by decide) ?_
      exact ih2
    · have hs := fa_no (g := (fun j => (fb_ (rw_ S i)) (x + j) == (fb_ (rw_ S i)) (y + j))) (k := k) (beq_eq_false_iff_ne.mpr (fun h9 => hB28 (congrArg z1_ h9))) hk
      refine aw_iconst C dc_M_alike_31 (v := nI 0) rfl ?_
      exact kc_zret C hr (by decide) (by rw [hs]; rfl) (fun _ h => h) dc_M_alike_32
set_option maxHeartbeats 4000000 in
set_option maxRecDepth 100000 in
theorem m_different (l : Launch) (D : va_G) (a : Nat) (cI cL cF : ClassId) (t : Int32) (S K Qt : Nat → Int64) (O1 O2 En Ot Wt : Nat → Int32) (i : Nat) (hi : i < 10) (len M9 : Nat) (hl : M9 * len = 4096) (h2 : 2 ≤ len) : ki_ l my_M_different (Cond.code my_M_different bc_M_different 7 (some .int) :: tw_) ({ frames := 2, cells := 0, slots := 0, locals := 47 }) D (ty_s cI cL cF) (fun _ => True) (cm_ a) [.ref a, .int (nI i), .int (nI len)] (rp_ D a cI cL t S K Qt O1 O2 En Ot Wt) (rp_ D a cI cL t S K Qt (oc_ O1 (dq_ (fb_ (rw_ S i)) len M9)) O2 En Ot Wt) (nI (dq_ (fb_ (rw_ S i)) len M9).1) := by
  refine aw_met (A := cm_ a) (own := "FamilyShelfModel") (by decide) rfl rfl (Nat.le_of_ble_eq_true rfl) ?_
  intro p9 e s m args below meth c C hr hX hP0
  refine aw_lw (lw' := [some (.ref a), some (.int (nI i)), some (.int (nI len)), none, none, none, none]) rfl ?_
  have hlen : len ≤ 4096 := by rw [← hl]; exact Nat.le_mul_of_pos_left _ (Nat.pos_of_ne_zero (fun h9 => by rw [h9] at hl; omega))
  have hM9 : M9 ≤ 2048 := by have := Nat.mul_le_mul_left M9 h2; omega
  refine aw_iconst C dc_M_different_0 (v := nI 0) rfl ?_
  refine aw_istore_n C dc_M_different_1 (by decide) rfl ?_
  refine aw_iconst C dc_M_different_2 (v := nI 0) rfl ?_
  refine aw_istore C dc_M_different_3 (by decide) rfl ?_
  refine aw_P (P' := rp_ D a cI cL t S K Qt (oc_ O1 (dq_ (fb_ (rw_ S i)) len 0)) O2 En Ot Wt) (fun H h => by rw [show oc_ O1 (dq_ (fb_ (rw_ S i)) len 0) = O1 from oc_0 _ _]; exact h) ?_
  refine aw_lw (lw' := [some (.ref a), some (.int (nI i)), some (.int (nI len)), some (.int (nI (dq_ (fb_ (rw_ S i)) len 0).1)), some (.int (nI (0 * len))), none, none]) (by rw [Nat.zero_mul]; rfl) ?_
  refine aw_loop (fun q => rp_ D a cI cL t S K Qt (oc_ O1 (dq_ (fb_ (rw_ S i)) len q)) O2 En Ot Wt) (fun q => [some (.ref a), some (.int (nI i)), some (.int (nI len)), some (.int (nI (dq_ (fb_ (rw_ S i)) len q).1)), some (.int (nI (q * len))), none, none]) M9 ?_ (fun q hq ih => ?_)
  · refine aw_iload C dc_M_different_5 rfl ?_
    refine aw_sipush C dc_M_different_7 (v := nI 4096) rfl ?_
    refine aw_icmp_ge C dc_M_different_10 (tgt := 99) (by decide) (fun _ => ?_) (fun h9 => absurd (by rw [hl]; exact nI_le (Nat.le_refl _) (by decide)) h9)
    refine aw_iload_n C dc_M_different_99 rfl ?_
    exact kc_iret C hr rfl (fun _ h => h) dc_M_different_100
  · have hq1 : (q + 1) * len ≤ 4096 := by rw [← hl]; exact Nat.mul_le_mul_right len hq
    rw [Nat.add_mul, Nat.one_mul] at hq1
    have hdb := dq_b (f := (fb_ (rw_ S i))) (len := len) q
    refine aw_iload C dc_M_different_5 rfl ?_
    refine aw_sipush C dc_M_different_7 (v := nI 4096) rfl ?_
    refine aw_icmp_ge C dc_M_different_10 (tgt := 99) (by decide) (fun h9 => absurd h9 (nI_ge (show q * len < 4096 by omega) (by decide))) (fun _ => ?_)
    refine aw_aload_n C dc_M_different_13 rfl ?_
    refine aw_iload_n C dc_M_different_14 rfl ?_
    refine aw_iload C dc_M_different_15 rfl ?_
    refine aw_iload_n C dc_M_different_17 rfl ?_
    refine aw_iconst C dc_M_different_18 (v := nI 2) rfl ?_
    refine aw_idiv C dc_M_different_19 (by decide) ?_
    refine aw_iadd C dc_M_different_20 ?_
    refine aw_eqi (show nI (q * len) + nI len / nI 2 = nI (q * len + len / 2) by rw [pk_div (by omega) (by decide) (by decide), nI_add]) ?_
    refine aw_iload_n C dc_M_different_21 rfl ?_
    refine aw_iconst C dc_M_different_22 (v := nI 2) rfl ?_
    refine aw_idiv C dc_M_different_23 (by decide) ?_
    refine aw_eqi (pk_div (a := len) (d := 2) (by omega) (by decide) (by decide)) ?_
    refine kc_i (fun _ h => h) (fun _ h => h) (kc_V (n := 3) C hX xk_true rfl 0 rf_p0 rfl (m_isAny l D a cI cL cF t S K Qt (oc_ O1 (dq_ (fb_ (rw_ S i)) len q)) O2 En Ot Wt i hi (q * len + len / 2) (len / 2) (by omega)) kw_835 kw_832 kw_834 (tw_sel (q := (my_M_isAny, 9)) (by decide +kernel)) kw_8 rfl (by unfold kd_; decide) ⟨rfl, rfl, by decide, by decide⟩ rfl rfl (Nat.le_of_ble_eq_true rfl) ⟨Nat.zero_le _, Nat.zero_le _⟩ dc_M_different_24) ?_
    refine aw_istore C dc_M_different_27 (by decide) rfl ?_
    refine aw_iconst C dc_M_different_29 (v := nI 0) rfl ?_
    refine aw_istore C dc_M_different_30 (by decide) rfl ?_
    cases han : (ex_ (fun k => (fb_ (rw_ S i)) (q * len + len / 2 + k)) (len / 2))
    · have hd : dn_ (fb_ (rw_ S i)) len (dq_ (fb_ (rw_ S i)) len q).2 (dq_ (fb_ (rw_ S i)) len q).1 (q * len) = false := by unfold dn_; rw [han]; rfl
      rw [dq_f hd] at ih
      refine aw_iload C dc_M_different_32 rfl ?_
      refine aw_iload_n C dc_M_different_34 rfl ?_
      refine aw_icmp_ge C dc_M_different_35 (tgt := 74) (by decide) (fun hB35 => ?_) (fun hB35 => ?_)
      · refine aw_iload C dc_M_different_74 rfl ?_
        refine aw_if_eq C dc_M_different_76 (tgt := 90) (by decide) (fun _ => ?_) (fun h9 => absurd (by decide) h9)
        refine aw_iload C dc_M_different_90 rfl ?_
        refine aw_iload_n C dc_M_different_92 rfl ?_
        refine aw_iadd C dc_M_different_93 ?_
        refine aw_eqi (show nI (q * len) + nI len = nI ((q + 1) * len) by rw [nI_add, Nat.add_mul, Nat.one_mul]) ?_
        refine aw_istore C dc_M_different_94 (by decide) rfl ?_
        refine aw_goto C dc_M_different_96 (tgt := 5) (by decide) ?_
        refine aw_sub (lw' := [some (.ref a), some (.int (nI i)), some (.int (nI len)), some (.int (nI (dq_ (fb_ (rw_ S i)) len q).1)), some (.int (nI ((q + 1) * len))), none, none]) (by
          intro k v h
          match k, h with
          | 0, h => exact h
          | 1, h => exact h
          | 2, h => exact h
          | 3, h => exact h
          | 4, h => exact h
          | 5, h => exact nomatch (show (some none : Option (Option Value)) = some (some v) from h)
          | 6, h => exact nomatch (show (some none : Option (Option Value)) = some (some v) from h)
          | n + 7, h => exact nomatch (show (none : Option (Option Value)) = some (some v) from h)) ?_
        exact ih
      · refine aw_iload C dc_M_different_38 rfl ?_
        refine aw_if_eq C dc_M_different_40 (tgt := 74) (by decide) (fun _ => ?_) (fun h9 => absurd (by decide) h9)
        refine aw_iload C dc_M_different_74 rfl ?_
        refine aw_if_eq C dc_M_different_76 (tgt := 90) (by decide) (fun _ => ?_) (fun h9 => absurd (by decide) h9)
        refine aw_iload C dc_M_different_90 rfl ?_
        refine aw_iload_n C dc_M_different_92 rfl ?_
        refine aw_iadd C dc_M_different_93 ?_
        refine aw_eqi (show nI (q * len) + nI len = nI ((q + 1) * len) by rw [nI_add, Nat.add_mul, Nat.one_mul]) ?_
        refine aw_istore C dc_M_different_94 (by decide) rfl ?_
        refine aw_goto C dc_M_different_96 (tgt := 5) (by decide) ?_
        refine aw_sub (lw' := [some (.ref a), some (.int (nI i)), some (.int (nI len)), some (.int (nI (dq_ (fb_ (rw_ S i)) len q).1)), some (.int (nI ((q + 1) * len))), none, none]) (by
          intro k v h
          match k, h with
          | 0, h => exact h
          | 1, h => exact h
          | 2, h => exact h
          | 3, h => exact h
          | 4, h => exact h
          | 5, h => exact nomatch (show (some none : Option (Option Value)) = some (some v) from h)
          | 6, h => exact nomatch (show (some none : Option (Option Value)) = some (some v) from h)
          | n + 7, h => exact nomatch (show (none : Option (Option Value)) = some (some v) from h)) ?_
        exact ih
    · refine aw_loopK (fun k => fa_ (fun k => !fa_ (fun j => (fb_ (rw_ S i)) ((dq_ (fb_ (rw_ S i)) len q).2 k + j) == (fb_ (rw_ S i)) (q * len + j)) len) k = true) (fun _ => rp_ D a cI cL t S K Qt (oc_ O1 (dq_ (fb_ (rw_ S i)) len q)) O2 En Ot Wt) (fun k => [some (.ref a), some (.int (nI i)), some (.int (nI len)), some (.int (nI (dq_ (fb_ (rw_ S i)) len q).1)), some (.int (nI (q * len))), some (.int (z1_ true)), some (.int (nI k))]) (dq_ (fb_ (rw_ S i)) len q).1 rfl (fun hK => ?_) (fun k hk hK ih2 => ?_)
      · have hd : dn_ (fb_ (rw_ S i)) len (dq_ (fb_ (rw_ S i)) len q).2 (dq_ (fb_ (rw_ S i)) len q).1 (q * len) = true := by unfold dn_; rw [han, hK]; rfl
        rw [dq_t hd] at ih
        refine aw_iload C dc_M_different_32 rfl ?_
        refine aw_iload_n C dc_M_different_34 rfl ?_
        refine aw_icmp_ge C dc_M_different_35 (tgt := 74) (by decide) (fun _ => ?_) (fun h9 => absurd (nI_le (Nat.le_refl _) (by omega)) h9)
        refine aw_iload C dc_M_different_74 rfl ?_
        refine aw_if_eq C dc_M_different_76 (tgt := 90) (by decide) (fun h9 => absurd h9 (by decide)) (fun _ => ?_)
        refine aw_aload_n C dc_M_different_79 rfl ?_
        refine aw_get C (fun w h => List.mem_cons_of_mem _ (ly_M w h)) 0 rf_p0 rfl 4 (by decide) (C.1.2.2.2.2 _ (List.mem_cons_of_mem _ kw_640)) (fun _ h => h) rfl dc_M_different_80 ?_
        refine aw_iload_n C dc_M_different_83 rfl ?_
        refine aw_iload C dc_M_different_84 rfl ?_
        refine aw_iast C rf_D 4 0 rf_p4 rfl (dq_ (fb_ (rw_ S i)) len q).1 rfl (by omega) (by decide) (ws' := rf_ a cI cL t S K Qt (oc_ O1 ((dq_ (fb_ (rw_ S i)) len q).1 + 1, va_up (dq_ (fb_ (rw_ S i)) len q).2 (dq_ (fb_ (rw_ S i)) len q).1 (q * len))) O2 En Ot Wt) (by rw [← oc_s]; rfl) dc_M_different_86 ?_
        refine aw_iinc C dc_M_different_87 rfl (ni_inc _) (by decide) rfl ?_
        refine aw_iload C dc_M_different_90 rfl ?_
        refine aw_iload_n C dc_M_different_92 rfl ?_
        refine aw_iadd C dc_M_different_93 ?_
        refine aw_eqi (show nI (q * len) + nI len = nI ((q + 1) * len) by rw [nI_add, Nat.add_mul, Nat.one_mul]) ?_
        refine aw_istore C dc_M_different_94 (by decide) rfl ?_
        refine aw_goto C dc_M_different_96 (tgt := 5) (by decide) ?_
        refine aw_sub (lw' := [some (.ref a), some (.int (nI i)), some (.int (nI len)), some (.int (nI ((dq_ (fb_ (rw_ S i)) len q).1 + 1))), some (.int (nI ((q + 1) * len))), none, none]) (by
          intro k v h
          match k, h with
          | 0, h => exact h
          | 1, h => exact h
          | 2, h => exact h
          | 3, h => exact h
          | 4, h => exact h
          | 5, h => exact nomatch (show (some none : Option (Option Value)) = some (some v) from h)
          | 6, h => exact nomatch (show (some none : Option (Option Value)) = some (some v) from h)
          | n + 7, h => exact nomatch (show (none : Option (Option Value)) = some (some v) from h)) ?_
        exact ih
      · obtain ⟨r9, hr1, hr2⟩ := hdb.2 k hk
        have hr3 : (r9 + 1) * len ≤ q * len := Nat.mul_le_mul_right len hr1
        rw [Nat.add_mul, Nat.one_mul] at hr3
        have hck : (dq_ (fb_ (rw_ S i)) len q).2 k + len ≤ 4096 := by rw [hr2]; omega
        refine aw_iload C dc_M_different_32 rfl ?_
        refine aw_iload_n C dc_M_different_34 rfl ?_
        refine aw_icmp_ge C dc_M_different_35 (tgt := 74) (by decide) (fun h9 => absurd h9 (nI_ge hk (by omega))) (fun _ => ?_)
        refine aw_iload C dc_M_different_38 rfl ?_
        refine aw_if_eq C dc_M_different_40 (tgt := 74) (by decide) (fun h9 => absurd h9 (by decide)) (fun _ => ?_)
        refine aw_aload_n C dc_M_different_43 rfl ?_
        refine aw_iload_n C dc_M_different_44 rfl ?_
        refine aw_aload_n C dc_M_different_45 rfl ?_
        refine aw_get C (fun w h => List.mem_cons_of_mem _ (ly_M w h)) 0 rf_p0 rfl 4 (by decide) (C.1.2.2.2.2 _ (List.mem_cons_of_mem _ kw_640)) (fun _ h => h) rfl dc_M_different_46 ?_
        refine aw_iload C dc_M_different_49 rfl ?_
        refine aw_iald C 4 0 rf_p4 rfl k rfl (by omega) (by decide) dc_M_different_51 ?_
        refine aw_eqi (show oc_ O1 (dq_ (fb_ (rw_ S i)) len q) k = nI ((dq_ (fb_ (rw_ S i)) len q).2 k) from if_pos hk) ?_
        refine aw_iload C dc_M_different_52 rfl ?_
        refine aw_iload_n C dc_M_different_54 rfl ?_
        refine kc_i (fun _ h => h) (fun _ h => h) (kc_V (n := 4) C hX xk_true rfl 0 rf_p0 rfl (m_alike l D a cI cL cF t S K Qt (oc_ O1 (dq_ (fb_ (rw_ S i)) len q)) O2 En Ot Wt i hi ((dq_ (fb_ (rw_ S i)) len q).2 k) (q * len) len hck (by omega)) kw_839 kw_836 kw_838 (tw_sel (q := (my_M_alike, 9)) (by decide +kernel)) kw_8 rfl (by unfold kd_; decide) ⟨rfl, rfl, by decide, by decide⟩ rfl rfl (Nat.le_of_ble_eq_true rfl) ⟨Nat.zero_le _, Nat.zero_le _⟩ dc_M_different_55) ?_
        refine aw_if_ne C dc_M_different_58 (tgt := 65) (by decide) (fun hB58 => ?_) (fun hB58 => ?_)
        · have hs := fa_no (g := (fun k => !fa_ (fun j => (fb_ (rw_ S i)) ((dq_ (fb_ (rw_ S i)) len q).2 k + j) == (fb_ (rw_ S i)) (q * len + j)) len)) (k := k) (by show (!_) = false; rw [z1_n.mp hB58]; rfl) hk
          have hd : dn_ (fb_ (rw_ S i)) len (dq_ (fb_ (rw_ S i)) len q).2 (dq_ (fb_ (rw_ S i)) len q).1 (q * len) = false := by unfold dn_; rw [hs]; exact Bool.and_false _
          rw [dq_f hd] at ih
          refine aw_iconst C dc_M_different_65 (v := nI 0) rfl ?_
          refine aw_istore C dc_M_different_66 (by decide) rfl ?_
          refine aw_iinc C dc_M_different_68 rfl (ni_inc _) (by decide) rfl ?_
          refine aw_goto C dc_M_different_71 (tgt := 32) (by decide) ?_
          refine aw_iload C dc_M_different_32 rfl ?_
          refine aw_iload_n C dc_M_different_34 rfl ?_
          refine aw_icmp_ge C dc_M_different_35 (tgt := 74) (by decide) (fun hB35 => ?_) (fun hB35 => ?_)
          · refine aw_iload C dc_M_different_74 rfl ?_
            refine aw_if_eq C dc_M_different_76 (tgt := 90) (by decide) (fun _ => ?_) (fun h9 => absurd (by decide) h9)
            refine aw_iload C dc_M_different_90 rfl ?_
            refine aw_iload_n C dc_M_different_92 rfl ?_
            refine aw_iadd C dc_M_different_93 ?_
            refine aw_eqi (show nI (q * len) + nI len = nI ((q + 1) * len) by rw [nI_add, Nat.add_mul, Nat.one_mul]) ?_
            refine aw_istore C dc_M_different_94 (by decide) rfl ?_
            refine aw_goto C dc_M_different_96 (tgt := 5) (by decide) ?_
            refine aw_sub (lw' := [some (.ref a), some (.int (nI i)), some (.int (nI len)), some (.int (nI (dq_ (fb_ (rw_ S i)) len q).1)), some (.int (nI ((q + 1) * len))), none, none]) (by
              intro k v h
              match k, h with
              | 0, h => exact h
              | 1, h => exact h
              | 2, h => exact h
              | 3, h => exact h
              | 4, h => exact h
              | 5, h => exact nomatch (show (some none : Option (Option Value)) = some (some v) from h)
              | 6, h => exact nomatch (show (some none : Option (Option Value)) = some (some v) from h)
              | n + 7, h => exact nomatch (show (none : Option (Option Value)) = some (some v) from h)) ?_
            exact ih
          · refine aw_iload C dc_M_different_38 rfl ?_
            refine aw_if_eq C dc_M_different_40 (tgt := 74) (by decide) (fun _ => ?_) (fun h9 => absurd (by decide) h9)
            refine aw_iload C dc_M_different_74 rfl ?_
            refine aw_if_eq C dc_M_different_76 (tgt := 90) (by decide) (fun _ => ?_) (fun h9 => absurd (by decide) h9)
            refine aw_iload C dc_M_different_90 rfl ?_
            refine aw_iload_n C dc_M_different_92 rfl ?_
            refine aw_iadd C dc_M_different_93 ?_
            refine aw_eqi (show nI (q * len) + nI len = nI ((q + 1) * len) by rw [nI_add, Nat.add_mul, Nat.one_mul]) ?_
            refine aw_istore C dc_M_different_94 (by decide) rfl ?_
            refine aw_goto C dc_M_different_96 (tgt := 5) (by decide) ?_
            refine aw_sub (lw' := [some (.ref a), some (.int (nI i)), some (.int (nI len)), some (.int (nI (dq_ (fb_ (rw_ S i)) len q).1)), some (.int (nI ((q + 1) * len))), none, none]) (by
              intro k v h
              match k, h with
              | 0, h => exact h
              | 1, h => exact h
              | 2, h => exact h
              | 3, h => exact h
              | 4, h => exact h
              | 5, h => exact nomatch (show (some none : Option (Option Value)) = some (some v) from h)
              | 6, h => exact nomatch (show (some none : Option (Option Value)) = some (some v) from h)
              | n + 7, h => exact nomatch (show (none : Option (Option Value)) = some (some v) from h)) ?_
            exact ih
        · have ih3 := ih2 (fa_s hK (by show (!_) = true; rw [z1_0.mp hB58]; rfl))
          refine aw_iconst C dc_M_different_61 (v := nI 1) rfl ?_
          refine aw_goto C dc_M_different_62 (tgt := 66) (by decide) ?_
          refine aw_istore C dc_M_different_66 (by decide) rfl ?_
          refine aw_iinc C dc_M_different_68 rfl (ni_inc _) (by decide) rfl ?_
          refine aw_goto C dc_M_different_71 (tgt := 32) (by decide) ?_
          exact ih3
set_option maxHeartbeats 4000000 in
set_option maxRecDepth 100000 in
theorem m_size (l : Launch) (D : va_G) (a : Nat) (cI cL cF : ClassId) (t : Int32) (S K Qt : Nat → Int64) (O1 O2 En Ot Wt : Nat → Int32) (i : Nat) (hi : i < 10) : ki_ l my_M_size (Cond.code my_M_size bc_M_size 4 (some .int) :: tw_) ({ frames := 3, cells := 0, slots := 0, locals := 73 }) D (ty_s cI cL cF) (fun _ => True) (cm_ a) [.ref a, .int (nI i)] (rp_ D a cI cL t S K Qt O1 O2 En Ot Wt) (rp_ D a cI cL (nI 0) S K Qt (szo_ (fb_ (rw_ S i)) O1 12) O2 En Ot Wt) (nI (szn_ (fb_ (rw_ S i)) 12)) := by
  refine aw_met (A := cm_ a) (own := "FamilyShelfModel") (by decide) rfl rfl (Nat.le_of_ble_eq_true rfl) ?_
  intro p9 e s m args below meth c C hr hX hP0
  refine aw_lw (lw' := [some (.ref a), some (.int (nI i)), none, none]) rfl ?_
  refine aw_aload_n C dc_M_size_0 rfl ?_
  refine aw_iload_n C dc_M_size_1 rfl ?_
  refine kc_i (fun _ h => h) (fun _ h => h) (kc_S (n := 1) C hX xk_true (m_noShelf0 l D _ _ _ _ i hi) kw_677 kw_675 kw_676 kw_8 (by unfold kd_; decide) ⟨rfl, rfl, by decide, by decide⟩ rfl rfl (Nat.le_of_ble_eq_true rfl) ⟨Nat.zero_le _, Nat.zero_le _⟩ dc_M_size_2) ?_
  refine aw_if_eq C dc_M_size_5 (tgt := 12) (by decide) (fun _ => ?_) (fun h9 => absurd (by decide) h9)
  refine aw_iconst C dc_M_size_12 (v := nI 0) rfl ?_
  refine aw_put C rf_D (fun w h => List.mem_cons_of_mem _ (ly_M w h)) ty_M ty_M_ok nm_M 0 rf_p0 rfl 0 (by decide) (C.1.2.2.2.2 _ (List.mem_cons_of_mem _ kw_636)) (fun _ h => h) rfl (ty := .int) (by decide +kernel) rfl rfl (Nat.le_of_ble_eq_true rfl) (ws' := rf_ a cI cL (nI 0) S K Qt O1 O2 En Ot Wt) rfl dc_M_size_13 ?_
  refine aw_aload_n C dc_M_size_16 rfl ?_
  refine aw_get C (fun w h => List.mem_cons_of_mem _ (ly_M w h)) 0 rf_p0 rfl 0 (by decide) (C.1.2.2.2.2 _ (List.mem_cons_of_mem _ kw_636)) (fun _ h => h) rfl dc_M_size_17 ?_
  refine aw_if_eq C dc_M_size_20 (tgt := 25) (by decide) (fun _ => ?_) (fun h9 => absurd (by decide) h9)
  refine aw_iconst C dc_M_size_25 (v := nI 0) rfl ?_
  refine aw_istore_n C dc_M_size_26 (by decide) rfl ?_
  refine aw_sipush C dc_M_size_27 (v := nI 4096) rfl ?_
  refine aw_istore_n C dc_M_size_30 (by decide) rfl ?_
  refine aw_loop (fun k => rp_ D a cI cL (nI 0) S K Qt (szo_ (fb_ (rw_ S i)) O1 k) O2 En Ot Wt) (fun k => [some (.ref a), some (.int (nI i)), some (.int (nI (szn_ (fb_ (rw_ S i)) k))), some (.int (nI (2 ^ (12 - k))))]) 12 ?_ (fun k hk ih => ?_)
  · refine aw_iload_n C dc_M_size_31 rfl ?_
    refine aw_iconst C dc_M_size_32 (v := nI 1) rfl ?_
    refine aw_icmp_le C dc_M_size_33 (tgt := 52) (by decide) (fun _ => ?_) (fun h9 => absurd (by decide) h9)
    refine aw_iload_n C dc_M_size_52 rfl ?_
    exact kc_iret C hr rfl (fun _ h => h) dc_M_size_53
  · have h2k : 2 ≤ 2 ^ (12 - k) := by rw [show 12 - k = (11 - k) + 1 by omega, Nat.pow_succ]; have := Nat.two_pow_pos (11 - k); omega
    have hk12 : 2 ^ (12 - k) ≤ 4096 := Nat.pow_le_pow_right (n := 2) (by decide) (show 12 - k ≤ 12 by omega)
    have hml : 2 ^ k * 2 ^ (12 - k) = 4096 := by rw [← Nat.pow_add, show k + (12 - k) = 12 by omega]
    have hdv : 2 ^ (12 - k) / 2 = 2 ^ (12 - (k + 1)) := by rw [show 12 - k = (12 - (k + 1)) + 1 by omega, Nat.pow_succ]; omega
    refine aw_iload_n C dc_M_size_31 rfl ?_
    refine aw_iconst C dc_M_size_32 (v := nI 1) rfl ?_
    refine aw_icmp_le C dc_M_size_33 (tgt := 52) (by decide) (fun h9 => absurd h9 (nI_ge (show 1 < 2 ^ (12 - k) by omega) (by omega))) (fun _ => ?_)
    refine aw_iload_n C dc_M_size_36 rfl ?_
    refine aw_aload_n C dc_M_size_37 rfl ?_
    refine aw_iload_n C dc_M_size_38 rfl ?_
    refine aw_iload_n C dc_M_size_39 rfl ?_
    refine kc_i (fun _ h => h) (fun _ h => h) (kc_V (n := 2) C hX xk_true rfl 0 rf_p0 rfl (m_different l D a cI cL cF (nI 0) S K Qt (szo_ (fb_ (rw_ S i)) O1 k) O2 En Ot Wt i hi (2 ^ (12 - k)) (2 ^ k) hml h2k) kw_831 kw_828 kw_830 (tw_sel (q := (my_M_different, 9)) (by decide +kernel)) kw_8 rfl (by unfold kd_; decide) ⟨rfl, rfl, by decide, by decide⟩ rfl rfl (Nat.le_of_ble_eq_true rfl) ⟨Nat.zero_le _, Nat.zero_le _⟩ dc_M_size_40) ?_
    refine aw_iadd C dc_M_size_43 ?_
    refine aw_eqi (nI_add _ _) ?_
    refine aw_istore_n C dc_M_size_44 (by decide) rfl ?_
    refine aw_iload_n C dc_M_size_45 rfl ?_
    refine aw_iconst C dc_M_size_46 (v := nI 2) rfl ?_
    refine aw_idiv C dc_M_size_47 (by decide) ?_
    refine aw_eqi (show nI (2 ^ (12 - k)) / nI 2 = nI (2 ^ (12 - (k + 1))) by rw [pk_div (by omega) (by decide) (by decide), hdv]) ?_
    refine aw_istore_n C dc_M_size_48 (by decide) rfl ?_
    refine aw_goto C dc_M_size_49 (tgt := 31) (by decide) ?_
    exact ih
set_option maxHeartbeats 4000000 in
set_option maxRecDepth 100000 in
theorem m_parts (l : Launch) (D : va_G) (a : Nat) (cI cL cF : ClassId) (t : Int32) (S K Qt : Nat → Int64) (O1 O2 En Ot Wt : Nat → Int32) (i : Nat) (hi : i < 10) : ki_ l my_M_parts (Cond.code my_M_parts bc_M_parts 6 (some .int) :: tw_) ({ frames := 1, cells := 0, slots := 0, locals := 22 }) D (ty_s cI cL cF) (fun _ => True) (cm_ a) [.ref a, .int (nI i)] (rp_ D a cI cL t S K Qt O1 O2 En Ot Wt) (rp_ D a cI cL (nI 0) S K Qt O1 O2 En Ot Wt) (fia_ (fi_ (fun k => ex_ (fun p => (fb_ (rw_ S i)) p && p.testBit (11 - k)) 4096 && ex_ (fun p => (fb_ (rw_ S i)) p && !p.testBit (11 - k)) 4096) 0 12)) := by
  refine aw_met (A := cm_ a) (own := "FamilyShelfModel") (by decide) rfl rfl (Nat.le_of_ble_eq_true rfl) ?_
  intro p9 e s m args below meth c C hr hX hP0
  refine aw_lw (lw' := [some (.ref a), some (.int (nI i)), none, none, none, none]) rfl ?_
  refine aw_aload_n C dc_M_parts_0 rfl ?_
  refine aw_iload_n C dc_M_parts_1 rfl ?_
  refine kc_i (fun _ h => h) (fun _ h => h) (kc_S (n := 1) C hX xk_true (m_noShelf0 l D _ _ _ _ i hi) kw_677 kw_675 kw_676 kw_8 (by unfold kd_; decide) ⟨rfl, rfl, by decide, by decide⟩ rfl rfl (Nat.le_of_ble_eq_true rfl) ⟨Nat.zero_le _, Nat.zero_le _⟩ dc_M_parts_2) ?_
  refine aw_if_eq C dc_M_parts_5 (tgt := 12) (by decide) (fun _ => ?_) (fun h9 => absurd (by decide) h9)
  refine aw_iconst C dc_M_parts_12 (v := nI 0) rfl ?_
  refine aw_put C rf_D (fun w h => List.mem_cons_of_mem _ (ly_M w h)) ty_M ty_M_ok nm_M 0 rf_p0 rfl 0 (by decide) (C.1.2.2.2.2 _ (List.mem_cons_of_mem _ kw_636)) (fun _ h => h) rfl (ty := .int) (by decide +kernel) rfl rfl (Nat.le_of_ble_eq_true rfl) (ws' := rf_ a cI cL (nI 0) S K Qt O1 O2 En Ot Wt) rfl dc_M_parts_13 ?_
  refine aw_aload_n C dc_M_parts_16 rfl ?_
  refine aw_get C (fun w h => List.mem_cons_of_mem _ (ly_M w h)) 0 rf_p0 rfl 0 (by decide) (C.1.2.2.2.2 _ (List.mem_cons_of_mem _ kw_636)) (fun _ h => h) rfl dc_M_parts_17 ?_
  refine aw_if_eq C dc_M_parts_20 (tgt := 25) (by decide) (fun _ => ?_) (fun h9 => absurd (by decide) h9)
  refine aw_iconst C dc_M_parts_25 (v := nI 0) rfl ?_
  refine aw_istore_n C dc_M_parts_26 (by decide) rfl ?_
  refine aw_loopK (fun k => fi_ (fun k => ex_ (fun p => (fb_ (rw_ S i)) p && p.testBit (11 - k)) 4096 && ex_ (fun p => (fb_ (rw_ S i)) p && !p.testBit (11 - k)) 4096) 0 12 = fi_ (fun k => ex_ (fun p => (fb_ (rw_ S i)) p && p.testBit (11 - k)) 4096 && ex_ (fun p => (fb_ (rw_ S i)) p && !p.testBit (11 - k)) 4096) k (12 - k)) (fun k => rp_ D a cI cL (nI 0) S K Qt O1 O2 En Ot Wt) (fun k => [some (.ref a), some (.int (nI i)), some (.int (nI k)), none, none, none]) 12 rfl (fun hK => ?_) (fun k hk hK ih => ?_)
  · refine aw_iload_n C dc_M_parts_27 rfl ?_
    refine aw_bipush C dc_M_parts_28 (v := nI 12) rfl ?_
    refine aw_icmp_ge C dc_M_parts_30 (tgt := 134) (by decide) (fun _ => ?_) (fun h9 => absurd (nI_le (Nat.le_refl _) (by decide)) h9)
    refine aw_iconst C dc_M_parts_134 (v := (-1)) rfl ?_
    exact kc_iret C hr (by rw [hK]; rfl) (fun _ h => h) dc_M_parts_135
  · have hs9 : fi_ (fun k => ex_ (fun p => (fb_ (rw_ S i)) p && p.testBit (11 - k)) 4096 && ex_ (fun p => (fb_ (rw_ S i)) p && !p.testBit (11 - k)) 4096) k (12 - k) = if ex_ (fun p => (fb_ (rw_ S i)) p && p.testBit (11 - k)) 4096 && ex_ (fun p => (fb_ (rw_ S i)) p && !p.testBit (11 - k)) 4096 then some k else fi_ (fun k => ex_ (fun p => (fb_ (rw_ S i)) p && p.testBit (11 - k)) 4096 && ex_ (fun p => (fb_ (rw_ S i)) p && !p.testBit (11 - k)) 4096) (k + 1) (12 - (k + 1)) := by rw [show 12 - k = (12 - (k + 1)) + 1 by omega, fi_]
    refine aw_iload_n C dc_M_parts_27 rfl ?_
    refine aw_bipush C dc_M_parts_28 (v := nI 12) rfl ?_
    refine aw_icmp_ge C dc_M_parts_30 (tgt := 134) (by decide) (fun h9 => absurd h9 (nI_ge hk (by decide))) (fun _ => ?_)
    refine aw_iconst C dc_M_parts_33 (v := nI 0) rfl ?_
    refine aw_istore_n C dc_M_parts_34 (by decide) rfl ?_
    refine aw_iconst C dc_M_parts_35 (v := nI 0) rfl ?_
    refine aw_istore C dc_M_parts_36 (by decide) rfl ?_
    refine aw_iconst C dc_M_parts_38 (v := nI 0) rfl ?_
    refine aw_istore C dc_M_parts_39 (by decide) rfl ?_
    refine aw_loop (fun _ => rp_ D a cI cL (nI 0) S K Qt O1 O2 En Ot Wt) (fun p => [some (.ref a), some (.int (nI i)), some (.int (nI k)), some (.int (z1_ (ex_ (fun p => (fb_ (rw_ S i)) p && p.testBit (11 - k)) p))), some (.int (z1_ (ex_ (fun p => (fb_ (rw_ S i)) p && !p.testBit (11 - k)) p))), some (.int (nI p))]) 4096 ?_ (fun p hp ih2 => ?_)
    · refine aw_iload C dc_M_parts_41 rfl ?_
      refine aw_sipush C dc_M_parts_43 (v := nI 4096) rfl ?_
      refine aw_icmp_ge C dc_M_parts_46 (tgt := 117) (by decide) (fun _ => ?_) (fun h9 => absurd (nI_le (Nat.le_refl _) (by decide)) h9)
      refine aw_iload_n C dc_M_parts_117 rfl ?_
      refine aw_if_eq C dc_M_parts_118 (tgt := 128) (by decide) (fun hB118 => ?_) (fun hB118 => ?_)
      · have hno : (ex_ (fun p => (fb_ (rw_ S i)) p && p.testBit (11 - k)) 4096 && ex_ (fun p => (fb_ (rw_ S i)) p && !p.testBit (11 - k)) 4096) = false := by rw [z1_0.mp hB118]; rfl
        have ih3 := ih (by rw [hK, hs9, hno]; rfl)
        refine aw_iinc C dc_M_parts_128 rfl (ni_inc _) (by decide) rfl ?_
        refine aw_goto C dc_M_parts_131 (tgt := 27) (by decide) ?_
        refine aw_sub (lw' := [some (.ref a), some (.int (nI i)), some (.int (nI (k + 1))), none, none, none]) (by
          intro k v h
          match k, h with
          | 0, h => exact h
          | 1, h => exact h
          | 2, h => exact h
          | 3, h => exact nomatch (show (some none : Option (Option Value)) = some (some v) from h)
          | 4, h => exact nomatch (show (some none : Option (Option Value)) = some (some v) from h)
          | 5, h => exact nomatch (show (some none : Option (Option Value)) = some (some v) from h)
          | n + 6, h => exact nomatch (show (none : Option (Option Value)) = some (some v) from h)) ?_
        exact ih3
      · have h5 := z1_n.mp hB118
        refine aw_iload C dc_M_parts_121 rfl ?_
        refine aw_if_eq C dc_M_parts_123 (tgt := 128) (by decide) (fun hB123 => ?_) (fun hB123 => ?_)
        · have hno : (ex_ (fun p => (fb_ (rw_ S i)) p && p.testBit (11 - k)) 4096 && ex_ (fun p => (fb_ (rw_ S i)) p && !p.testBit (11 - k)) 4096) = false := by rw [z1_0.mp hB123]; exact Bool.and_false _
          have ih3 := ih (by rw [hK, hs9, hno]; rfl)
          refine aw_iinc C dc_M_parts_128 rfl (ni_inc _) (by decide) rfl ?_
          refine aw_goto C dc_M_parts_131 (tgt := 27) (by decide) ?_
          refine aw_sub (lw' := [some (.ref a), some (.int (nI i)), some (.int (nI (k + 1))), none, none, none]) (by
            intro k v h
            match k, h with
            | 0, h => exact h
            | 1, h => exact h
            | 2, h => exact h
            | 3, h => exact nomatch (show (some none : Option (Option Value)) = some (some v) from h)
            | 4, h => exact nomatch (show (some none : Option (Option Value)) = some (some v) from h)
            | 5, h => exact nomatch (show (some none : Option (Option Value)) = some (some v) from h)
            | n + 6, h => exact nomatch (show (none : Option (Option Value)) = some (some v) from h)) ?_
          exact ih3
        · have hy : (ex_ (fun p => (fb_ (rw_ S i)) p && p.testBit (11 - k)) 4096 && ex_ (fun p => (fb_ (rw_ S i)) p && !p.testBit (11 - k)) 4096) = true := by rw [h5, z1_n.mp hB123]; rfl
          refine aw_iload_n C dc_M_parts_126 rfl ?_
          exact kc_iret C hr (by rw [hK, hs9, hy]; rfl) (fun _ h => h) dc_M_parts_127
    · refine aw_iload C dc_M_parts_41 rfl ?_
      refine aw_sipush C dc_M_parts_43 (v := nI 4096) rfl ?_
      refine aw_icmp_ge C dc_M_parts_46 (tgt := 117) (by decide) (fun h9 => absurd h9 (nI_ge hp (by decide))) (fun _ => ?_)
      refine aw_iload_n C dc_M_parts_49 rfl ?_
      refine aw_if_ne C dc_M_parts_50 (tgt := 73) (by decide) (fun hB50 => ?_) (fun hB50 => ?_)
      · have hs : (ex_ (fun p => (fb_ (rw_ S i)) p && p.testBit (11 - k)) (p + 1)) = true := ex_u (z1_n.mp hB50)
        refine aw_iconst C dc_M_parts_73 (v := nI 1) rfl ?_
        refine aw_eqi (show nI 1 = z1_ ((ex_ (fun p => (fb_ (rw_ S i)) p && p.testBit (11 - k)) (p + 1))) from by rw [hs]; decide) ?_
        refine aw_goto C dc_M_parts_74 (tgt := 78) (by decide) ?_
        refine aw_istore_n C dc_M_parts_78 (by decide) rfl ?_
        refine aw_iload C dc_M_parts_79 rfl ?_
        refine aw_if_ne C dc_M_parts_81 (tgt := 104) (by decide) (fun hB81 => ?_) (fun hB81 => ?_)
        · have hs : (ex_ (fun p => (fb_ (rw_ S i)) p && !p.testBit (11 - k)) (p + 1)) = true := ex_u (z1_n.mp hB81)
          refine aw_iconst C dc_M_parts_104 (v := nI 1) rfl ?_
          refine aw_eqi (show nI 1 = z1_ ((ex_ (fun p => (fb_ (rw_ S i)) p && !p.testBit (11 - k)) (p + 1))) from by rw [hs]; decide) ?_
          refine aw_goto C dc_M_parts_105 (tgt := 109) (by decide) ?_
          refine aw_istore C dc_M_parts_109 (by decide) rfl ?_
          refine aw_iinc C dc_M_parts_111 rfl (ni_inc _) (by decide) rfl ?_
          refine aw_goto C dc_M_parts_114 (tgt := 41) (by decide) ?_
          exact ih2
        · have h7 := z1_0.mp hB81
          refine aw_aload_n C dc_M_parts_84 rfl ?_
          refine aw_iload_n C dc_M_parts_85 rfl ?_
          refine aw_iload C dc_M_parts_86 rfl ?_
          refine kc_i (fun _ h => h) (fun _ h => h) (kc_V (n := 2) C hX xk_true rfl 0 rf_p0 rfl (m_isIn l D a cI cL cF (nI 0) S K Qt O1 O2 En Ot Wt i hi p hp) kw_684 kw_681 kw_683 (tw_sel (q := (my_M_isIn, 9)) (by decide +kernel)) kw_8 rfl (by unfold kd_; decide) ⟨rfl, rfl, by decide, by decide⟩ rfl rfl (Nat.le_of_ble_eq_true rfl) ⟨Nat.zero_le _, Nat.zero_le _⟩ dc_M_parts_88) ?_
          refine aw_if_eq C dc_M_parts_91 (tgt := 108) (by decide) (fun hB91 => ?_) (fun hB91 => ?_)
          · have hs : (ex_ (fun p => (fb_ (rw_ S i)) p && !p.testBit (11 - k)) (p + 1)) = false := ex_f h7 (by show (_ && _) = false; rw [z1_0.mp hB91]; rfl)
            refine aw_iconst C dc_M_parts_108 (v := nI 0) rfl ?_
            refine aw_eqi (show nI 0 = z1_ ((ex_ (fun p => (fb_ (rw_ S i)) p && !p.testBit (11 - k)) (p + 1))) from by rw [hs]; decide) ?_
            refine aw_istore C dc_M_parts_109 (by decide) rfl ?_
            refine aw_iinc C dc_M_parts_111 rfl (ni_inc _) (by decide) rfl ?_
            refine aw_goto C dc_M_parts_114 (tgt := 41) (by decide) ?_
            exact ih2
          · have h8 := z1_n.mp hB91
            refine aw_iload C dc_M_parts_94 rfl ?_
            refine aw_iload_n C dc_M_parts_96 rfl ?_
            refine kc_i (fun _ h => h) (fun _ h => h) (kc_S (n := 1) C hX xk_true (m_bitOf l D _ _ _ _ k hk) kw_752 kw_750 kw_751 kw_8 (by unfold kd_; decide) ⟨rfl, rfl, by decide, by decide⟩ rfl rfl (Nat.le_of_ble_eq_true rfl) ⟨Nat.zero_le _, Nat.zero_le _⟩ dc_M_parts_97) ?_
            refine aw_iand C dc_M_parts_100 ?_
            refine aw_if_ne C dc_M_parts_101 (tgt := 108) (by decide) (fun hB101 => ?_) (fun hB101 => ?_)
            · have hb : p.testBit (11 - k) = true := by
                cases h9 : p.testBit (11 - k)
                · exact absurd ((ms_and hp (by omega)).mpr h9) hB101
                · rfl
              have hs : (ex_ (fun p => (fb_ (rw_ S i)) p && !p.testBit (11 - k)) (p + 1)) = false := ex_f h7 (by show (_ && !_) = false; rw [hb]; exact Bool.and_false _)
              refine aw_iconst C dc_M_parts_108 (v := nI 0) rfl ?_
              refine aw_eqi (show nI 0 = z1_ ((ex_ (fun p => (fb_ (rw_ S i)) p && !p.testBit (11 - k)) (p + 1))) from by rw [hs]; decide) ?_
              refine aw_istore C dc_M_parts_109 (by decide) rfl ?_
              refine aw_iinc C dc_M_parts_111 rfl (ni_inc _) (by decide) rfl ?_
              refine aw_goto C dc_M_parts_114 (tgt := 41) (by decide) ?_
              exact ih2
            · have hb : p.testBit (11 - k) = false := (ms_and hp (by omega)).mp hB101
              have hs : (ex_ (fun p => (fb_ (rw_ S i)) p && !p.testBit (11 - k)) (p + 1)) = true := ex_t (by show (_ && !_) = true; rw [h8, hb]; rfl)
              refine aw_iconst C dc_M_parts_104 (v := nI 1) rfl ?_
              refine aw_eqi (show nI 1 = z1_ ((ex_ (fun p => (fb_ (rw_ S i)) p && !p.testBit (11 - k)) (p + 1))) from by rw [hs]; decide) ?_
              refine aw_goto C dc_M_parts_105 (tgt := 109) (by decide) ?_
              refine aw_istore C dc_M_parts_109 (by decide) rfl ?_
              refine aw_iinc C dc_M_parts_111 rfl (ni_inc _) (by decide) rfl ?_
              refine aw_goto C dc_M_parts_114 (tgt := 41) (by decide) ?_
              exact ih2
      · have h5 := z1_0.mp hB50
        refine aw_aload_n C dc_M_parts_53 rfl ?_
        refine aw_iload_n C dc_M_parts_54 rfl ?_
        refine aw_iload C dc_M_parts_55 rfl ?_
        refine kc_i (fun _ h => h) (fun _ h => h) (kc_V (n := 2) C hX xk_true rfl 0 rf_p0 rfl (m_isIn l D a cI cL cF (nI 0) S K Qt O1 O2 En Ot Wt i hi p hp) kw_684 kw_681 kw_683 (tw_sel (q := (my_M_isIn, 9)) (by decide +kernel)) kw_8 rfl (by unfold kd_; decide) ⟨rfl, rfl, by decide, by decide⟩ rfl rfl (Nat.le_of_ble_eq_true rfl) ⟨Nat.zero_le _, Nat.zero_le _⟩ dc_M_parts_57) ?_
        refine aw_if_eq C dc_M_parts_60 (tgt := 77) (by decide) (fun hB60 => ?_) (fun hB60 => ?_)
        · have hs : (ex_ (fun p => (fb_ (rw_ S i)) p && p.testBit (11 - k)) (p + 1)) = false := ex_f h5 (by show (_ && _) = false; rw [z1_0.mp hB60]; rfl)
          refine aw_iconst C dc_M_parts_77 (v := nI 0) rfl ?_
          refine aw_eqi (show nI 0 = z1_ ((ex_ (fun p => (fb_ (rw_ S i)) p && p.testBit (11 - k)) (p + 1))) from by rw [hs]; decide) ?_
          refine aw_istore_n C dc_M_parts_78 (by decide) rfl ?_
          refine aw_iload C dc_M_parts_79 rfl ?_
          refine aw_if_ne C dc_M_parts_81 (tgt := 104) (by decide) (fun hB81 => ?_) (fun hB81 => ?_)
          · have hs : (ex_ (fun p => (fb_ (rw_ S i)) p && !p.testBit (11 - k)) (p + 1)) = true := ex_u (z1_n.mp hB81)
            refine aw_iconst C dc_M_parts_104 (v := nI 1) rfl ?_
            refine aw_eqi (show nI 1 = z1_ ((ex_ (fun p => (fb_ (rw_ S i)) p && !p.testBit (11 - k)) (p + 1))) from by rw [hs]; decide) ?_
            refine aw_goto C dc_M_parts_105 (tgt := 109) (by decide) ?_
            refine aw_istore C dc_M_parts_109 (by decide) rfl ?_
            refine aw_iinc C dc_M_parts_111 rfl (ni_inc _) (by decide) rfl ?_
            refine aw_goto C dc_M_parts_114 (tgt := 41) (by decide) ?_
            exact ih2
          · have h7 := z1_0.mp hB81
            refine aw_aload_n C dc_M_parts_84 rfl ?_
            refine aw_iload_n C dc_M_parts_85 rfl ?_
            refine aw_iload C dc_M_parts_86 rfl ?_
            refine kc_i (fun _ h => h) (fun _ h => h) (kc_V (n := 2) C hX xk_true rfl 0 rf_p0 rfl (m_isIn l D a cI cL cF (nI 0) S K Qt O1 O2 En Ot Wt i hi p hp) kw_684 kw_681 kw_683 (tw_sel (q := (my_M_isIn, 9)) (by decide +kernel)) kw_8 rfl (by unfold kd_; decide) ⟨rfl, rfl, by decide, by decide⟩ rfl rfl (Nat.le_of_ble_eq_true rfl) ⟨Nat.zero_le _, Nat.zero_le _⟩ dc_M_parts_88) ?_
            refine aw_if_eq C dc_M_parts_91 (tgt := 108) (by decide) (fun hB91 => ?_) (fun hB91 => ?_)
            · have hs : (ex_ (fun p => (fb_ (rw_ S i)) p && !p.testBit (11 - k)) (p + 1)) = false := ex_f h7 (by show (_ && _) = false; rw [z1_0.mp hB91]; rfl)
              refine aw_iconst C dc_M_parts_108 (v := nI 0) rfl ?_
              refine aw_eqi (show nI 0 = z1_ ((ex_ (fun p => (fb_ (rw_ S i)) p && !p.testBit (11 - k)) (p + 1))) from by rw [hs]; decide) ?_
              refine aw_istore C dc_M_parts_109 (by decide) rfl ?_
              refine aw_iinc C dc_M_parts_111 rfl (ni_inc _) (by decide) rfl ?_
              refine aw_goto C dc_M_parts_114 (tgt := 41) (by decide) ?_
              exact ih2
            · have h8 := z1_n.mp hB91
              refine aw_iload C dc_M_parts_94 rfl ?_
              refine aw_iload_n C dc_M_parts_96 rfl ?_
              refine kc_i (fun _ h => h) (fun _ h => h) (kc_S (n := 1) C hX xk_true (m_bitOf l D _ _ _ _ k hk) kw_752 kw_750 kw_751 kw_8 (by unfold kd_; decide) ⟨rfl, rfl, by decide, by decide⟩ rfl rfl (Nat.le_of_ble_eq_true rfl) ⟨Nat.zero_le _, Nat.zero_le _⟩ dc_M_parts_97) ?_
              refine aw_iand C dc_M_parts_100 ?_
              refine aw_if_ne C dc_M_parts_101 (tgt := 108) (by decide) (fun hB101 => ?_) (fun hB101 => ?_)
              · have hb : p.testBit (11 - k) = true := by
                  cases h9 : p.testBit (11 - k)
                  · exact absurd ((ms_and hp (by omega)).mpr h9) hB101
                  · rfl
                have hs : (ex_ (fun p => (fb_ (rw_ S i)) p && !p.testBit (11 - k)) (p + 1)) = false := ex_f h7 (by show (_ && !_) = false; rw [hb]; exact Bool.and_false _)
                refine aw_iconst C dc_M_parts_108 (v := nI 0) rfl ?_
                refine aw_eqi (show nI 0 = z1_ ((ex_ (fun p => (fb_ (rw_ S i)) p && !p.testBit (11 - k)) (p + 1))) from by rw [hs]; decide) ?_
                refine aw_istore C dc_M_parts_109 (by decide) rfl ?_
                refine aw_iinc C dc_M_parts_111 rfl (ni_inc _) (by decide) rfl ?_
                refine aw_goto C dc_M_parts_114 (tgt := 41) (by decide) ?_
                exact ih2
              · have hb : p.testBit (11 - k) = false := (ms_and hp (by omega)).mp hB101
                have hs : (ex_ (fun p => (fb_ (rw_ S i)) p && !p.testBit (11 - k)) (p + 1)) = true := ex_t (by show (_ && !_) = true; rw [h8, hb]; rfl)
                refine aw_iconst C dc_M_parts_104 (v := nI 1) rfl ?_
                refine aw_eqi (show nI 1 = z1_ ((ex_ (fun p => (fb_ (rw_ S i)) p && !p.testBit (11 - k)) (p + 1))) from by rw [hs]; decide) ?_
                refine aw_goto C dc_M_parts_105 (tgt := 109) (by decide) ?_
                refine aw_istore C dc_M_parts_109 (by decide) rfl ?_
                refine aw_iinc C dc_M_parts_111 rfl (ni_inc _) (by decide) rfl ?_
                refine aw_goto C dc_M_parts_114 (tgt := 41) (by decide) ?_
                exact ih2
        · have h6 := z1_n.mp hB60
          refine aw_iload C dc_M_parts_63 rfl ?_
          refine aw_iload_n C dc_M_parts_65 rfl ?_
          refine kc_i (fun _ h => h) (fun _ h => h) (kc_S (n := 1) C hX xk_true (m_bitOf l D _ _ _ _ k hk) kw_752 kw_750 kw_751 kw_8 (by unfold kd_; decide) ⟨rfl, rfl, by decide, by decide⟩ rfl rfl (Nat.le_of_ble_eq_true rfl) ⟨Nat.zero_le _, Nat.zero_le _⟩ dc_M_parts_66) ?_
          refine aw_iand C dc_M_parts_69 ?_
          refine aw_if_eq C dc_M_parts_70 (tgt := 77) (by decide) (fun hB70 => ?_) (fun hB70 => ?_)
          · have hb : p.testBit (11 - k) = false := (ms_and hp (by omega)).mp hB70
            have hs : (ex_ (fun p => (fb_ (rw_ S i)) p && p.testBit (11 - k)) (p + 1)) = false := ex_f h5 (by show (_ && _) = false; rw [hb]; exact Bool.and_false _)
            refine aw_iconst C dc_M_parts_77 (v := nI 0) rfl ?_
            refine aw_eqi (show nI 0 = z1_ ((ex_ (fun p => (fb_ (rw_ S i)) p && p.testBit (11 - k)) (p + 1))) from by rw [hs]; decide) ?_
            refine aw_istore_n C dc_M_parts_78 (by decide) rfl ?_
            refine aw_iload C dc_M_parts_79 rfl ?_
            refine aw_if_ne C dc_M_parts_81 (tgt := 104) (by decide) (fun hB81 => ?_) (fun hB81 => ?_)
            · have hs : (ex_ (fun p => (fb_ (rw_ S i)) p && !p.testBit (11 - k)) (p + 1)) = true := ex_u (z1_n.mp hB81)
              refine aw_iconst C dc_M_parts_104 (v := nI 1) rfl ?_
              refine aw_eqi (show nI 1 = z1_ ((ex_ (fun p => (fb_ (rw_ S i)) p && !p.testBit (11 - k)) (p + 1))) from by rw [hs]; decide) ?_
              refine aw_goto C dc_M_parts_105 (tgt := 109) (by decide) ?_
              refine aw_istore C dc_M_parts_109 (by decide) rfl ?_
              refine aw_iinc C dc_M_parts_111 rfl (ni_inc _) (by decide) rfl ?_
              refine aw_goto C dc_M_parts_114 (tgt := 41) (by decide) ?_
              exact ih2
            · have h7 := z1_0.mp hB81
              refine aw_aload_n C dc_M_parts_84 rfl ?_
              refine aw_iload_n C dc_M_parts_85 rfl ?_
              refine aw_iload C dc_M_parts_86 rfl ?_
              refine kc_i (fun _ h => h) (fun _ h => h) (kc_V (n := 2) C hX xk_true rfl 0 rf_p0 rfl (m_isIn l D a cI cL cF (nI 0) S K Qt O1 O2 En Ot Wt i hi p hp) kw_684 kw_681 kw_683 (tw_sel (q := (my_M_isIn, 9)) (by decide +kernel)) kw_8 rfl (by unfold kd_; decide) ⟨rfl, rfl, by decide, by decide⟩ rfl rfl (Nat.le_of_ble_eq_true rfl) ⟨Nat.zero_le _, Nat.zero_le _⟩ dc_M_parts_88) ?_
              refine aw_if_eq C dc_M_parts_91 (tgt := 108) (by decide) (fun hB91 => ?_) (fun hB91 => ?_)
              · have hs : (ex_ (fun p => (fb_ (rw_ S i)) p && !p.testBit (11 - k)) (p + 1)) = false := ex_f h7 (by show (_ && _) = false; rw [z1_0.mp hB91]; rfl)
                refine aw_iconst C dc_M_parts_108 (v := nI 0) rfl ?_
                refine aw_eqi (show nI 0 = z1_ ((ex_ (fun p => (fb_ (rw_ S i)) p && !p.testBit (11 - k)) (p + 1))) from by rw [hs]; decide) ?_
                refine aw_istore C dc_M_parts_109 (by decide) rfl ?_
                refine aw_iinc C dc_M_parts_111 rfl (ni_inc _) (by decide) rfl ?_
                refine aw_goto C dc_M_parts_114 (tgt := 41) (by decide) ?_
                exact ih2
              · have h8 := z1_n.mp hB91
                refine aw_iload C dc_M_parts_94 rfl ?_
                refine aw_iload_n C dc_M_parts_96 rfl ?_
                refine kc_i (fun _ h => h) (fun _ h => h) (kc_S (n := 1) C hX xk_true (m_bitOf l D _ _ _ _ k hk) kw_752 kw_750 kw_751 kw_8 (by unfold kd_; decide) ⟨rfl, rfl, by decide, by decide⟩ rfl rfl (Nat.le_of_ble_eq_true rfl) ⟨Nat.zero_le _, Nat.zero_le _⟩ dc_M_parts_97) ?_
                refine aw_iand C dc_M_parts_100 ?_
                refine aw_if_ne C dc_M_parts_101 (tgt := 108) (by decide) (fun hB101 => ?_) (fun hB101 => ?_)
                · have hb : p.testBit (11 - k) = true := by
                    cases h9 : p.testBit (11 - k)
                    · exact absurd ((ms_and hp (by omega)).mpr h9) hB101
                    · rfl
                  have hs : (ex_ (fun p => (fb_ (rw_ S i)) p && !p.testBit (11 - k)) (p + 1)) = false := ex_f h7 (by show (_ && !_) = false; rw [hb]; exact Bool.and_false _)
                  refine aw_iconst C dc_M_parts_108 (v := nI 0) rfl ?_
                  refine aw_eqi (show nI 0 = z1_ ((ex_ (fun p => (fb_ (rw_ S i)) p && !p.testBit (11 - k)) (p + 1))) from by rw [hs]; decide) ?_
                  refine aw_istore C dc_M_parts_109 (by decide) rfl ?_
                  refine aw_iinc C dc_M_parts_111 rfl (ni_inc _) (by decide) rfl ?_
                  refine aw_goto C dc_M_parts_114 (tgt := 41) (by decide) ?_
                  exact ih2
                · have hb : p.testBit (11 - k) = false := (ms_and hp (by omega)).mp hB101
                  have hs : (ex_ (fun p => (fb_ (rw_ S i)) p && !p.testBit (11 - k)) (p + 1)) = true := ex_t (by show (_ && !_) = true; rw [h8, hb]; rfl)
                  refine aw_iconst C dc_M_parts_104 (v := nI 1) rfl ?_
                  refine aw_eqi (show nI 1 = z1_ ((ex_ (fun p => (fb_ (rw_ S i)) p && !p.testBit (11 - k)) (p + 1))) from by rw [hs]; decide) ?_
                  refine aw_goto C dc_M_parts_105 (tgt := 109) (by decide) ?_
                  refine aw_istore C dc_M_parts_109 (by decide) rfl ?_
                  refine aw_iinc C dc_M_parts_111 rfl (ni_inc _) (by decide) rfl ?_
                  refine aw_goto C dc_M_parts_114 (tgt := 41) (by decide) ?_
                  exact ih2
          · have hb : p.testBit (11 - k) = true := by
              cases h9 : p.testBit (11 - k)
              · exact absurd ((ms_and hp (by omega)).mpr h9) hB70
              · rfl
            have hs : (ex_ (fun p => (fb_ (rw_ S i)) p && p.testBit (11 - k)) (p + 1)) = true := ex_t (by show (_ && _) = true; rw [h6, hb]; rfl)
            refine aw_iconst C dc_M_parts_73 (v := nI 1) rfl ?_
            refine aw_eqi (show nI 1 = z1_ ((ex_ (fun p => (fb_ (rw_ S i)) p && p.testBit (11 - k)) (p + 1))) from by rw [hs]; decide) ?_
            refine aw_goto C dc_M_parts_74 (tgt := 78) (by decide) ?_
            refine aw_istore_n C dc_M_parts_78 (by decide) rfl ?_
            refine aw_iload C dc_M_parts_79 rfl ?_
            refine aw_if_ne C dc_M_parts_81 (tgt := 104) (by decide) (fun hB81 => ?_) (fun hB81 => ?_)
            · have hs : (ex_ (fun p => (fb_ (rw_ S i)) p && !p.testBit (11 - k)) (p + 1)) = true := ex_u (z1_n.mp hB81)
              refine aw_iconst C dc_M_parts_104 (v := nI 1) rfl ?_
              refine aw_eqi (show nI 1 = z1_ ((ex_ (fun p => (fb_ (rw_ S i)) p && !p.testBit (11 - k)) (p + 1))) from by rw [hs]; decide) ?_
              refine aw_goto C dc_M_parts_105 (tgt := 109) (by decide) ?_
              refine aw_istore C dc_M_parts_109 (by decide) rfl ?_
              refine aw_iinc C dc_M_parts_111 rfl (ni_inc _) (by decide) rfl ?_
              refine aw_goto C dc_M_parts_114 (tgt := 41) (by decide) ?_
              exact ih2
            · have h7 := z1_0.mp hB81
              refine aw_aload_n C dc_M_parts_84 rfl ?_
              refine aw_iload_n C dc_M_parts_85 rfl ?_
              refine aw_iload C dc_M_parts_86 rfl ?_
              refine kc_i (fun _ h => h) (fun _ h => h) (kc_V (n := 2) C hX xk_true rfl 0 rf_p0 rfl (m_isIn l D a cI cL cF (nI 0) S K Qt O1 O2 En Ot Wt i hi p hp) kw_684 kw_681 kw_683 (tw_sel (q := (my_M_isIn, 9)) (by decide +kernel)) kw_8 rfl (by unfold kd_; decide) ⟨rfl, rfl, by decide, by decide⟩ rfl rfl (Nat.le_of_ble_eq_true rfl) ⟨Nat.zero_le _, Nat.zero_le _⟩ dc_M_parts_88) ?_
              refine aw_if_eq C dc_M_parts_91 (tgt := 108) (by decide) (fun hB91 => ?_) (fun hB91 => ?_)
              · have hs : (ex_ (fun p => (fb_ (rw_ S i)) p && !p.testBit (11 - k)) (p + 1)) = false := ex_f h7 (by show (_ && _) = false; rw [z1_0.mp hB91]; rfl)
                refine aw_iconst C dc_M_parts_108 (v := nI 0) rfl ?_
                refine aw_eqi (show nI 0 = z1_ ((ex_ (fun p => (fb_ (rw_ S i)) p && !p.testBit (11 - k)) (p + 1))) from by rw [hs]; decide) ?_
                refine aw_istore C dc_M_parts_109 (by decide) rfl ?_
                refine aw_iinc C dc_M_parts_111 rfl (ni_inc _) (by decide) rfl ?_
                refine aw_goto C dc_M_parts_114 (tgt := 41) (by decide) ?_
                exact ih2
              · have h8 := z1_n.mp hB91
                refine aw_iload C dc_M_parts_94 rfl ?_
                refine aw_iload_n C dc_M_parts_96 rfl ?_
                refine kc_i (fun _ h => h) (fun _ h => h) (kc_S (n := 1) C hX xk_true (m_bitOf l D _ _ _ _ k hk) kw_752 kw_750 kw_751 kw_8 (by unfold kd_; decide) ⟨rfl, rfl, by decide, by decide⟩ rfl rfl (Nat.le_of_ble_eq_true rfl) ⟨Nat.zero_le _, Nat.zero_le _⟩ dc_M_parts_97) ?_
                refine aw_iand C dc_M_parts_100 ?_
                refine aw_if_ne C dc_M_parts_101 (tgt := 108) (by decide) (fun hB101 => ?_) (fun hB101 => ?_)
                · have hb : p.testBit (11 - k) = true := by
                    cases h9 : p.testBit (11 - k)
                    · exact absurd ((ms_and hp (by omega)).mpr h9) hB101
                    · rfl
                  have hs : (ex_ (fun p => (fb_ (rw_ S i)) p && !p.testBit (11 - k)) (p + 1)) = false := ex_f h7 (by show (_ && !_) = false; rw [hb]; exact Bool.and_false _)
                  refine aw_iconst C dc_M_parts_108 (v := nI 0) rfl ?_
                  refine aw_eqi (show nI 0 = z1_ ((ex_ (fun p => (fb_ (rw_ S i)) p && !p.testBit (11 - k)) (p + 1))) from by rw [hs]; decide) ?_
                  refine aw_istore C dc_M_parts_109 (by decide) rfl ?_
                  refine aw_iinc C dc_M_parts_111 rfl (ni_inc _) (by decide) rfl ?_
                  refine aw_goto C dc_M_parts_114 (tgt := 41) (by decide) ?_
                  exact ih2
                · have hb : p.testBit (11 - k) = false := (ms_and hp (by omega)).mp hB101
                  have hs : (ex_ (fun p => (fb_ (rw_ S i)) p && !p.testBit (11 - k)) (p + 1)) = true := ex_t (by show (_ && !_) = true; rw [h8, hb]; rfl)
                  refine aw_iconst C dc_M_parts_104 (v := nI 1) rfl ?_
                  refine aw_eqi (show nI 1 = z1_ ((ex_ (fun p => (fb_ (rw_ S i)) p && !p.testBit (11 - k)) (p + 1))) from by rw [hs]; decide) ?_
                  refine aw_goto C dc_M_parts_105 (tgt := 109) (by decide) ?_
                  refine aw_istore C dc_M_parts_109 (by decide) rfl ?_
                  refine aw_iinc C dc_M_parts_111 rfl (ni_inc _) (by decide) rfl ?_
                  refine aw_goto C dc_M_parts_114 (tgt := 41) (by decide) ?_
                  exact ih2
