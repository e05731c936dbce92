set_option maxHeartbeats 4000000 in
set_option maxRecDepth 100000 in
theorem m_nthNeg (l : Launch) (D : va_G) (a : Nat) (cI cL cF : ClassId) (t : Int32) (S K Qt : Nat → Int64) (O1 O2 En Ot Wt : Nat → Int32) (i : Nat) (hi : i < 10) (x : Int32) (hx : x < 0) : ki_ l my_M_nth (Cond.code my_M_nth bc_M_nth 5 (some .int) :: tw_) ({ frames := 1, cells := 0, slots := 0, locals := 22 }) D (ty_s cI cL cF) (fun _ => True) (cm_ a) [.ref a, .int (nI i), .int x] (rp_ D a cI cL t S K Qt O1 O2 En Ot Wt) (rp_ D a cI cL (nI 0) S K Qt O1 O2 En Ot Wt) (-1) := by
  refine aw_met (A := cm_ a) (own := "FamilyShelfModel") (by decide) rfl rfl (Nat.le_of_ble_eq_true rfl) ?_
  intro p9 e s m args below meth c C hr hX hP0
  refine aw_lw (lw' := [some (.ref a), some (.int (nI i)), some (.int x), none, none]) rfl ?_
  refine aw_aload_n C dc_M_nth_0 rfl ?_
  refine aw_iload_n C dc_M_nth_1 rfl ?_
  refine kc_i (fun _ h => h) (fun _ h => h) (kc_S (n := 1) C hX xk_true (m_noShelf0 l D _ _ _ _ i hi) kw_677 kw_675 kw_676 kw_8 (by unfold kd_; decide) ⟨rfl, rfl, by decide, by decide⟩ rfl rfl (Nat.le_of_ble_eq_true rfl) ⟨Nat.zero_le _, Nat.zero_le _⟩ dc_M_nth_2) ?_
  refine aw_if_eq C dc_M_nth_5 (tgt := 12) (by decide) (fun _ => ?_) (fun h9 => absurd (by decide) h9)
  refine aw_iconst C dc_M_nth_12 (v := nI 0) rfl ?_
  refine aw_put C rf_D (fun w h => List.mem_cons_of_mem _ (ly_M w h)) ty_M ty_M_ok nm_M 0 rf_p0 rfl 0 (by decide) (C.1.2.2.2.2 _ (List.mem_cons_of_mem _ kw_636)) (fun _ h => h) rfl (ty := .int) (by decide +kernel) rfl rfl (Nat.le_of_ble_eq_true rfl) (ws' := rf_ a cI cL (nI 0) S K Qt O1 O2 En Ot Wt) rfl dc_M_nth_13 ?_
  refine aw_aload_n C dc_M_nth_16 rfl ?_
  refine aw_get C (fun w h => List.mem_cons_of_mem _ (ly_M w h)) 0 rf_p0 rfl 0 (by decide) (C.1.2.2.2.2 _ (List.mem_cons_of_mem _ kw_636)) (fun _ h => h) rfl dc_M_nth_17 ?_
  refine aw_if_eq C dc_M_nth_20 (tgt := 25) (by decide) (fun _ => ?_) (fun h9 => absurd (by decide) h9)
  refine aw_iload_n C dc_M_nth_25 rfl ?_
  refine aw_istore_n C dc_M_nth_26 (by decide) rfl ?_
  refine aw_iconst C dc_M_nth_27 (v := nI 0) rfl ?_
  refine aw_istore C dc_M_nth_28 (by decide) rfl ?_
  refine aw_iload C dc_M_nth_30 rfl ?_
  refine aw_sipush C dc_M_nth_32 (v := nI 4096) rfl ?_
  refine aw_icmp_ge C dc_M_nth_35 (tgt := 74) (by decide) (fun h9 => absurd h9 (by decide)) (fun _ => ?_)
  refine aw_iload_n C dc_M_nth_38 rfl ?_
  refine aw_if_lt C dc_M_nth_39 (tgt := 74) (by decide) (fun _ => ?_) (fun h9 => absurd (hx) h9)
  refine aw_iconst C dc_M_nth_74 (v := (-1)) rfl ?_
  exact kc_iret C hr rfl (fun _ h => h) dc_M_nth_75
set_option maxHeartbeats 4000000 in
set_option maxRecDepth 100000 in
theorem m_nth (l : Launch) (D : va_G) (a : Nat) (cI cL cF : ClassId) (t : Int32) (S K Qt : Nat → Int64) (O1 O2 En Ot Wt : Nat → Int32) (i : Nat) (hi : i < 10) (j : Nat) (hj : j < 2 ^ 31) : ki_ l my_M_nth (Cond.code my_M_nth bc_M_nth 5 (some .int) :: tw_) ({ frames := 1, cells := 0, slots := 0, locals := 22 }) D (ty_s cI cL cF) (fun _ => True) (cm_ a) [.ref a, .int (nI i), .int (nI j)] (rp_ D a cI cL t S K Qt O1 O2 En Ot Wt) (rp_ D a cI cL (nI 0) S K Qt O1 O2 En Ot Wt) (if j < cn_ (fb_ (rw_ S i)) 4096 then nI (tu_ (sel_ (fb_ (rw_ S i)) 4096 j) 12) else -1) := by
  refine aw_met (A := cm_ a) (own := "FamilyShelfModel") (by decide) rfl rfl (Nat.le_of_ble_eq_true rfl) ?_
  intro p9 e s m args below meth c C hr hX hP0
  refine aw_lw (lw' := [some (.ref a), some (.int (nI i)), some (.int (nI j)), none, none]) rfl ?_
  refine aw_aload_n C dc_M_nth_0 rfl ?_
  refine aw_iload_n C dc_M_nth_1 rfl ?_
  refine kc_i (fun _ h => h) (fun _ h => h) (kc_S (n := 1) C hX xk_true (m_noShelf0 l D _ _ _ _ i hi) kw_677 kw_675 kw_676 kw_8 (by unfold kd_; decide) ⟨rfl, rfl, by decide, by decide⟩ rfl rfl (Nat.le_of_ble_eq_true rfl) ⟨Nat.zero_le _, Nat.zero_le _⟩ dc_M_nth_2) ?_
  refine aw_if_eq C dc_M_nth_5 (tgt := 12) (by decide) (fun _ => ?_) (fun h9 => absurd (by decide) h9)
  refine aw_iconst C dc_M_nth_12 (v := nI 0) rfl ?_
  refine aw_put C rf_D (fun w h => List.mem_cons_of_mem _ (ly_M w h)) ty_M ty_M_ok nm_M 0 rf_p0 rfl 0 (by decide) (C.1.2.2.2.2 _ (List.mem_cons_of_mem _ kw_636)) (fun _ h => h) rfl (ty := .int) (by decide +kernel) rfl rfl (Nat.le_of_ble_eq_true rfl) (ws' := rf_ a cI cL (nI 0) S K Qt O1 O2 En Ot Wt) rfl dc_M_nth_13 ?_
  refine aw_aload_n C dc_M_nth_16 rfl ?_
  refine aw_get C (fun w h => List.mem_cons_of_mem _ (ly_M w h)) 0 rf_p0 rfl 0 (by decide) (C.1.2.2.2.2 _ (List.mem_cons_of_mem _ kw_636)) (fun _ h => h) rfl dc_M_nth_17 ?_
  refine aw_if_eq C dc_M_nth_20 (tgt := 25) (by decide) (fun _ => ?_) (fun h9 => absurd (by decide) h9)
  refine aw_iload_n C dc_M_nth_25 rfl ?_
  refine aw_istore_n C dc_M_nth_26 (by decide) rfl ?_
  refine aw_iconst C dc_M_nth_27 (v := nI 0) rfl ?_
  refine aw_istore C dc_M_nth_28 (by decide) rfl ?_
  refine aw_loopK (fun k => cn_ (fb_ (rw_ S i)) k ≤ j) (fun k => rp_ D a cI cL (nI 0) S K Qt O1 O2 En Ot Wt) (fun k => [some (.ref a), some (.int (nI i)), some (.int (nI j)), some (.int (nI (j - cn_ (fb_ (rw_ S i)) k))), some (.int (nI k))]) 4096 (Nat.zero_le _) (fun hK => ?_) (fun k hk hK ih => ?_)
  · refine aw_iload C dc_M_nth_30 rfl ?_
    refine aw_sipush C dc_M_nth_32 (v := nI 4096) rfl ?_
    refine aw_icmp_ge C dc_M_nth_35 (tgt := 74) (by decide) (fun _ => ?_) (fun h9 => absurd (nI_le (Nat.le_refl _) (by decide)) h9)
    refine aw_iconst C dc_M_nth_74 (v := (-1)) rfl ?_
    exact kc_iret C hr (by rw [if_neg (by omega)]) (fun _ h => h) dc_M_nth_75
  · refine aw_iload C dc_M_nth_30 rfl ?_
    refine aw_sipush C dc_M_nth_32 (v := nI 4096) rfl ?_
    refine aw_icmp_ge C dc_M_nth_35 (tgt := 74) (by decide) (fun h9 => absurd h9 (nI_ge hk (by decide))) (fun _ => ?_)
    refine aw_iload_n C dc_M_nth_38 rfl ?_
    refine aw_if_lt C dc_M_nth_39 (tgt := 74) (by decide) (fun h9 => absurd h9 (nI_pos (by omega))) (fun _ => ?_)
    refine aw_aload_n C dc_M_nth_42 rfl ?_
    refine aw_iload_n C dc_M_nth_43 rfl ?_
    refine aw_iload C dc_M_nth_44 rfl ?_
    refine kc_i (fun _ h => h) (fun _ h => h) (kc_V (n := 2) C hX xk_true rfl 0 rf_p0 rfl (m_isIn l D a cI cL cF (nI 0) S K Qt O1 O2 En Ot Wt i hi k hk) kw_684 kw_681 kw_683 (tw_sel (q := (my_M_isIn, 9)) (by decide +kernel)) kw_8 rfl (by unfold kd_; decide) ⟨rfl, rfl, by decide, by decide⟩ rfl rfl (Nat.le_of_ble_eq_true rfl) ⟨Nat.zero_le _, Nat.zero_le _⟩ dc_M_nth_46) ?_
    refine aw_if_ne C dc_M_nth_49 (tgt := 55) (by decide) (fun hB49 => ?_) (fun hB49 => ?_)
    · have hb := z1_n.mp hB49
      refine aw_iload_n C dc_M_nth_55 rfl ?_
      refine aw_if_ne C dc_M_nth_56 (tgt := 65) (by decide) (fun hB56 => ?_) (fun hB56 => ?_)
      · have h0 : ¬ j - cn_ (fb_ (rw_ S i)) k = 0 := fun h9 => hB56 (by rw [h9]; rfl)
        have e9 := cn_true hb
        have ih2 := ih (by rw [e9]; omega)
        rw [e9] at ih2
        refine aw_iinc C dc_M_nth_65 rfl (show nI (j - cn_ (fb_ (rw_ S i)) k) + Int32.ofInt (-1) = nI (j - (cn_ (fb_ (rw_ S i)) k + 1)) by rw [show j - cn_ (fb_ (rw_ S i)) k = (j - (cn_ (fb_ (rw_ S i)) k + 1)) + 1 by omega]; exact ni_dec _) (by decide) rfl ?_
        refine aw_iinc C dc_M_nth_68 rfl (ni_inc _) (by decide) rfl ?_
        refine aw_goto C dc_M_nth_71 (tgt := 30) (by decide) ?_
        exact ih2
      · have h0 : j - cn_ (fb_ (rw_ S i)) k = 0 := (ni_z (by omega)).mp hB56
        have hc : cn_ (fb_ (rw_ S i)) k = j := by omega
        have hl : j < cn_ (fb_ (rw_ S i)) 4096 := by have := cn_step hb hk; omega
        refine aw_iload C dc_M_nth_59 rfl ?_
        refine kc_i (fun _ h => h) (fun _ h => h) (kc_S (n := 1) C hX xk_true (m_turned l D _ _ _ _ k hk) kw_680 kw_678 kw_679 kw_8 (by unfold kd_; decide) ⟨rfl, rfl, by decide, by decide⟩ rfl rfl (Nat.le_of_ble_eq_true rfl) ⟨Nat.zero_le _, Nat.zero_le _⟩ dc_M_nth_61) ?_
        exact kc_iret C hr (by rw [if_pos hl, sel_eq hk hb hc]) (fun _ h => h) dc_M_nth_64
    · have e9 := cn_false (z1_0.mp hB49)
      have ih2 := ih (by rw [e9]; exact hK)
      rw [e9] at ih2
      refine aw_goto C dc_M_nth_52 (tgt := 68) (by decide) ?_
      refine aw_iinc C dc_M_nth_68 rfl (ni_inc _) (by decide) rfl ?_
      refine aw_goto C dc_M_nth_71 (tgt := 30) (by decide) ?_
      exact ih2
set_option maxHeartbeats 4000000 in
set_option maxRecDepth 100000 in
theorem m_rank (l : Launch) (D : va_G) (a : Nat) (cI cL cF : ClassId) (t : Int32) (S K Qt : Nat → Int64) (O1 O2 En Ot Wt : Nat → Int32) (i : Nat) (hi : i < 10) (n : Nat) (hn : n < 4096) : ki_ l my_M_rank (Cond.code my_M_rank bc_M_rank 6 (some .int) :: tw_) ({ frames := 2, cells := 0, slots := 0, locals := 41 }) D (ty_s cI cL cF) (fun _ => True) (cm_ a) [.ref a, .int (nI i), .int (nI n)] (rp_ D a cI cL t S K Qt O1 O2 En Ot Wt) (rp_ D a cI cL (nI 0) S K Qt O1 O2 En Ot Wt) (nI (cn_ (fb_ (rw_ S i)) (tu_ n 12))) := by
  refine aw_met (A := cm_ a) (own := "FamilyShelfModel") (by decide) rfl rfl (Nat.le_of_ble_eq_true rfl) ?_
  intro p9 e s m args below meth c C hr hX hP0
  refine aw_lw (lw' := [some (.ref a), some (.int (nI i)), some (.int (nI n)), none, none, none]) rfl ?_
  have hq := tu_12 n
  refine aw_aload_n C dc_M_rank_0 rfl ?_
  refine aw_iload_n C dc_M_rank_1 rfl ?_
  refine aw_iload_n C dc_M_rank_2 rfl ?_
  refine kc_i (fun _ h => h) (fun _ h => h) (kc_S (n := 2) C hX xk_true (m_asked0 l D _ _ _ _ xk_true i hi n hn) kw_674 kw_672 kw_673 kw_8 (by unfold kd_; decide) ⟨rfl, rfl, by decide, by decide⟩ rfl rfl (Nat.le_of_ble_eq_true rfl) ⟨Nat.zero_le _, Nat.zero_le _⟩ dc_M_rank_3) ?_
  refine aw_put C rf_D (fun w h => List.mem_cons_of_mem _ (ly_M w h)) ty_M ty_M_ok nm_M 0 rf_p0 rfl 0 (by decide) (C.1.2.2.2.2 _ (List.mem_cons_of_mem _ kw_636)) (fun _ h => h) rfl (ty := .int) (by decide +kernel) rfl rfl (Nat.le_of_ble_eq_true rfl) (ws' := rf_ a cI cL (nI 0) S K Qt O1 O2 En Ot Wt) rfl dc_M_rank_6 ?_
  refine aw_aload_n C dc_M_rank_9 rfl ?_
  refine aw_get C (fun w h => List.mem_cons_of_mem _ (ly_M w h)) 0 rf_p0 rfl 0 (by decide) (C.1.2.2.2.2 _ (List.mem_cons_of_mem _ kw_636)) (fun _ h => h) rfl dc_M_rank_10 ?_
  refine aw_if_eq C dc_M_rank_13 (tgt := 18) (by decide) (fun _ => ?_) (fun h9 => absurd (by decide) h9)
  refine aw_iconst C dc_M_rank_18 (v := nI 0) rfl ?_
  refine aw_istore_n C dc_M_rank_19 (by decide) rfl ?_
  refine aw_iload_n C dc_M_rank_20 rfl ?_
  refine kc_i (fun _ h => h) (fun _ h => h) (kc_S (n := 1) C hX xk_true (m_turned l D _ _ _ _ n hn) kw_680 kw_678 kw_679 kw_8 (by unfold kd_; decide) ⟨rfl, rfl, by decide, by decide⟩ rfl rfl (Nat.le_of_ble_eq_true rfl) ⟨Nat.zero_le _, Nat.zero_le _⟩ dc_M_rank_21) ?_
  refine aw_istore C dc_M_rank_24 (by decide) rfl ?_
  refine aw_iconst C dc_M_rank_26 (v := nI 0) rfl ?_
  refine aw_istore C dc_M_rank_27 (by decide) rfl ?_
  refine aw_loop (fun k => rp_ D a cI cL (nI 0) S K Qt O1 O2 En Ot Wt) (fun k => [some (.ref a), some (.int (nI i)), some (.int (nI n)), some (.int (nI (cn_ (fb_ (rw_ S i)) k))), some (.int (nI (tu_ n 12))), some (.int (nI k))]) (tu_ n 12) ?_ (fun k hk ih => ?_)
  · refine aw_iload C dc_M_rank_29 rfl ?_
    refine aw_iload C dc_M_rank_31 rfl ?_
    refine aw_icmp_ge C dc_M_rank_33 (tgt := 60) (by decide) (fun _ => ?_) (fun h9 => absurd (nI_le (Nat.le_refl _) (by omega)) h9)
    refine aw_iload_n C dc_M_rank_60 rfl ?_
    exact kc_iret C hr rfl (fun _ h => h) dc_M_rank_61
  · refine aw_iload C dc_M_rank_29 rfl ?_
    refine aw_iload C dc_M_rank_31 rfl ?_
    refine aw_icmp_ge C dc_M_rank_33 (tgt := 60) (by decide) (fun h9 => absurd h9 (nI_ge hk (by omega))) (fun _ => ?_)
    refine aw_iload_n C dc_M_rank_36 rfl ?_
    refine aw_aload_n C dc_M_rank_37 rfl ?_
    refine aw_iload_n C dc_M_rank_38 rfl ?_
    refine aw_iload C dc_M_rank_39 rfl ?_
    refine kc_i (fun _ h => h) (fun _ h => h) (kc_V (n := 2) C hX xk_true rfl 0 rf_p0 rfl (m_isIn l D a cI cL cF (nI 0) S K Qt O1 O2 En Ot Wt i hi k (by omega)) kw_684 kw_681 kw_683 (tw_sel (q := (my_M_isIn, 9)) (by decide +kernel)) kw_8 rfl (by unfold kd_; decide) ⟨rfl, rfl, by decide, by decide⟩ rfl rfl (Nat.le_of_ble_eq_true rfl) ⟨Nat.zero_le _, Nat.zero_le _⟩ dc_M_rank_41) ?_
    refine aw_if_eq C dc_M_rank_44 (tgt := 51) (by decide) (fun hB44 => ?_) (fun hB44 => ?_)
    · rw [cn_false (z1_0.mp hB44)] at ih
      refine aw_iconst C dc_M_rank_51 (v := nI 0) rfl ?_
      refine aw_iadd C dc_M_rank_52 ?_
      refine aw_eqi (nI_add _ _) ?_
      refine aw_istore_n C dc_M_rank_53 (by decide) rfl ?_
      refine aw_iinc C dc_M_rank_54 rfl (ni_inc _) (by decide) rfl ?_
      refine aw_goto C dc_M_rank_57 (tgt := 29) (by decide) ?_
      exact ih
    · rw [cn_true (z1_n.mp hB44)] at ih
      refine aw_iconst C dc_M_rank_47 (v := nI 1) rfl ?_
      refine aw_goto C dc_M_rank_48 (tgt := 52) (by decide) ?_
      refine aw_iadd C dc_M_rank_52 ?_
      refine aw_eqi (nI_add _ _) ?_
      refine aw_istore_n C dc_M_rank_53 (by decide) rfl ?_
      refine aw_iinc C dc_M_rank_54 rfl (ni_inc _) (by decide) rfl ?_
      refine aw_goto C dc_M_rank_57 (tgt := 29) (by decide) ?_
      exact ih
set_option maxHeartbeats 4000000 in
set_option maxRecDepth 100000 in
theorem m_weigh (l : Launch) (D : va_G) (a : Nat) (cI cL cF : ClassId) (t : Int32) (S K Qt : Nat → Int64) (O1 O2 En Ot Wt : Nat → Int32) (p : Nat) (hp : p < 4096) : ki_ l my_M_weigh (Cond.code my_M_weigh bc_M_weigh 4 (some .int) :: tw_) ({ frames := 1, cells := 0, slots := 0, locals := 20 }) D (ty_s cI cL cF) (fun _ => True) (cm_ a) [.ref a, .int (nI p)] (rp_ D a cI cL t S K Qt O1 O2 En Ot Wt) (rp_ D a cI cL t S K Qt O1 O2 En Ot Wt) (we_ Wt p 12) := by
  refine aw_met (A := cm_ a) (own := "FamilyShelfModel") (by decide) rfl rfl (Nat.le_of_ble_eq_true rfl) ?_
  intro p9 e s m args below meth c C hr hX hP0
  refine aw_lw (lw' := [some (.ref a), some (.int (nI p)), none, none]) rfl ?_
  refine aw_iconst C dc_M_weigh_0 (v := nI 0) rfl ?_
  refine aw_istore_n C dc_M_weigh_1 (by decide) rfl ?_
  refine aw_iconst C dc_M_weigh_2 (v := nI 0) rfl ?_
  refine aw_istore_n C dc_M_weigh_3 (by decide) rfl ?_
  refine aw_loop (fun k => rp_ D a cI cL t S K Qt O1 O2 En Ot Wt) (fun k => [some (.ref a), some (.int (nI p)), some (.int (we_ Wt p k)), some (.int (nI k))]) 12 ?_ (fun k hk ih => ?_)
  · refine aw_iload_n C dc_M_weigh_4 rfl ?_
    refine aw_bipush C dc_M_weigh_5 (v := nI 12) rfl ?_
    refine aw_icmp_ge C dc_M_weigh_7 (tgt := 38) (by decide) (fun _ => ?_) (fun h9 => absurd (nI_le (Nat.le_refl _) (by decide)) h9)
    refine aw_iload_n C dc_M_weigh_38 rfl ?_
    exact kc_iret C hr rfl (fun _ h => h) dc_M_weigh_39
  · refine aw_iload_n C dc_M_weigh_4 rfl ?_
    refine aw_bipush C dc_M_weigh_5 (v := nI 12) rfl ?_
    refine aw_icmp_ge C dc_M_weigh_7 (tgt := 38) (by decide) (fun h9 => absurd h9 (nI_ge hk (by decide))) (fun _ => ?_)
    refine aw_iload_n C dc_M_weigh_10 rfl ?_
    refine aw_iload_n C dc_M_weigh_11 rfl ?_
    refine aw_iload_n C dc_M_weigh_12 rfl ?_
    refine kc_i (fun _ h => h) (fun _ h => h) (kc_S (n := 1) C hX xk_true (m_bitOf l D _ _ _ _ k hk) kw_752 kw_750 kw_751 kw_8 (by unfold kd_; decide) ⟨rfl, rfl, by decide, by decide⟩ rfl rfl (Nat.le_of_ble_eq_true rfl) ⟨Nat.zero_le _, Nat.zero_le _⟩ dc_M_weigh_13) ?_
    refine aw_iand C dc_M_weigh_16 ?_
    refine aw_if_eq C dc_M_weigh_17 (tgt := 29) (by decide) (fun hB17 => ?_) (fun hB17 => ?_)
    · have hb : p.testBit (11 - k) = false := (ms_and hp (by omega)).mp hB17
      have e9 : we_ Wt p (k + 1) = we_ Wt p k + nI 0 := by rw [we_, hb]; rfl
      rw [e9] at ih
      refine aw_iconst C dc_M_weigh_29 (v := nI 0) rfl ?_
      refine aw_iadd C dc_M_weigh_30 ?_
      refine aw_istore_n C dc_M_weigh_31 (by decide) rfl ?_
      refine aw_iinc C dc_M_weigh_32 rfl (ni_inc _) (by decide) rfl ?_
      refine aw_goto C dc_M_weigh_35 (tgt := 4) (by decide) ?_
      exact ih
    · have hb : p.testBit (11 - k) = true := by
        cases h9 : p.testBit (11 - k)
        · exact absurd ((ms_and hp (by omega)).mpr h9) hB17
        · rfl
      have e9 : we_ Wt p (k + 1) = we_ Wt p k + Wt k := by rw [we_, hb]; rfl
      rw [e9] at ih
      refine aw_aload_n C dc_M_weigh_20 rfl ?_
      refine aw_get C (fun w h => List.mem_cons_of_mem _ (ly_M w h)) 0 rf_p0 rfl 8 (by decide) (C.1.2.2.2.2 _ (List.mem_cons_of_mem _ kw_644)) (fun _ h => h) rfl dc_M_weigh_21 ?_
      refine aw_iload_n C dc_M_weigh_24 rfl ?_
      refine aw_iald C 8 0 rf_p8 rfl k rfl (by omega) (by decide) dc_M_weigh_25 ?_
      refine aw_goto C dc_M_weigh_26 (tgt := 30) (by decide) ?_
      refine aw_iadd C dc_M_weigh_30 ?_
      refine aw_istore_n C dc_M_weigh_31 (by decide) rfl ?_
      refine aw_iinc C dc_M_weigh_32 rfl (ni_inc _) (by decide) rfl ?_
      refine aw_goto C dc_M_weigh_35 (tgt := 4) (by decide) ?_
      exact ih
set_option maxHeartbeats 4000000 in
set_option maxRecDepth 100000 in
theorem m_heaviest (l : Launch) (D : va_G) (a : Nat) (cI cL cF : ClassId) (t : Int32) (S K Qt : Nat → Int64) (O1 O2 En Ot Wt : Nat → Int32) (i : Nat) (hi : i < 10) (q : Nat) (hq : (ho_ (fb_ (rw_ S i)) (fun p => we_ Wt p 12) 4096) = some q) : ki_ l my_M_heaviest (Cond.code my_M_heaviest bc_M_heaviest 6 (some .int) :: tw_) ({ frames := 2, cells := 0, slots := 0, locals := 43 }) D (ty_s cI cL cF) (fun _ => True) (cm_ a) [.ref a, .int (nI i)] (rp_ D a cI cL t S K Qt O1 O2 En Ot Wt) (rp_ D a cI cL (nI 0) S K Qt O1 O2 En Ot Wt) (nI (tu_ q 12)) := by
  refine aw_met (A := cm_ a) (own := "FamilyShelfModel") (by decide) rfl rfl (Nat.le_of_ble_eq_true rfl) ?_
  intro p9 e s m args below meth c C hr hX hP0
  refine aw_lw (lw' := [some (.ref a), some (.int (nI i)), none, none, none, none]) rfl ?_
  refine aw_aload_n C dc_M_heaviest_0 rfl ?_
  refine aw_iload_n C dc_M_heaviest_1 rfl ?_
  refine kc_i (fun _ h => h) (fun _ h => h) (kc_S (n := 1) C hX xk_true (m_noShelf0 l D _ _ _ _ i hi) kw_677 kw_675 kw_676 kw_8 (by unfold kd_; decide) ⟨rfl, rfl, by decide, by decide⟩ rfl rfl (Nat.le_of_ble_eq_true rfl) ⟨Nat.zero_le _, Nat.zero_le _⟩ dc_M_heaviest_2) ?_
  refine aw_if_eq C dc_M_heaviest_5 (tgt := 12) (by decide) (fun _ => ?_) (fun h9 => absurd (by decide) h9)
  refine aw_iconst C dc_M_heaviest_12 (v := nI 0) rfl ?_
  refine aw_put C rf_D (fun w h => List.mem_cons_of_mem _ (ly_M w h)) ty_M ty_M_ok nm_M 0 rf_p0 rfl 0 (by decide) (C.1.2.2.2.2 _ (List.mem_cons_of_mem _ kw_636)) (fun _ h => h) rfl (ty := .int) (by decide +kernel) rfl rfl (Nat.le_of_ble_eq_true rfl) (ws' := rf_ a cI cL (nI 0) S K Qt O1 O2 En Ot Wt) rfl dc_M_heaviest_13 ?_
  refine aw_aload_n C dc_M_heaviest_16 rfl ?_
  refine aw_get C (fun w h => List.mem_cons_of_mem _ (ly_M w h)) 0 rf_p0 rfl 0 (by decide) (C.1.2.2.2.2 _ (List.mem_cons_of_mem _ kw_636)) (fun _ h => h) rfl dc_M_heaviest_17 ?_
  refine aw_if_eq C dc_M_heaviest_20 (tgt := 25) (by decide) (fun _ => ?_) (fun h9 => absurd (by decide) h9)
  refine aw_iconst C dc_M_heaviest_25 (v := (-1)) rfl ?_
  refine aw_istore_n C dc_M_heaviest_26 (by decide) rfl ?_
  refine aw_iconst C dc_M_heaviest_27 (v := nI 0) rfl ?_
  refine aw_istore_n C dc_M_heaviest_28 (by decide) rfl ?_
  refine aw_iconst C dc_M_heaviest_29 (v := nI 0) rfl ?_
  refine aw_istore C dc_M_heaviest_30 (by decide) rfl ?_
  refine aw_loop (fun k => rp_ D a cI cL (nI 0) S K Qt O1 O2 En Ot Wt) (fun k => [some (.ref a), some (.int (nI i)), some (.int (fia_ (ho_ (fb_ (rw_ S i)) (fun p => we_ Wt p 12) k))), some (.int (hw_ (fun p => we_ Wt p 12) (ho_ (fb_ (rw_ S i)) (fun p => we_ Wt p 12) k))), some (.int (nI k)), none]) 4096 ?_ (fun k hk ih => ?_)
  · have hq4 := ho_lt hq
    refine aw_lw (lw' := [some (.ref a), some (.int (nI i)), some (.int (nI q)), some (.int (hw_ (fun p => we_ Wt p 12) (ho_ (fb_ (rw_ S i)) (fun p => we_ Wt p 12) 4096))), some (.int (nI 4096)), none]) (by rw [hq]; rfl) ?_
    refine aw_iload C dc_M_heaviest_32 rfl ?_
    refine aw_sipush C dc_M_heaviest_34 (v := nI 4096) rfl ?_
    refine aw_icmp_ge C dc_M_heaviest_37 (tgt := 111) (by decide) (fun _ => ?_) (fun h9 => absurd (nI_le (Nat.le_refl _) (by decide)) h9)
    refine aw_aload_n C dc_M_heaviest_111 rfl ?_
    refine aw_iload_n C dc_M_heaviest_112 rfl ?_
    refine aw_if_ge C dc_M_heaviest_113 (tgt := 120) (by decide) (fun _ => ?_) (fun h9 => absurd (nI_pos' (by omega)) h9)
    refine aw_iconst C dc_M_heaviest_120 (v := nI 0) rfl ?_
    refine aw_put C rf_D (fun w h => List.mem_cons_of_mem _ (ly_M w h)) ty_M ty_M_ok nm_M 0 rf_p0 rfl 0 (by decide) (C.1.2.2.2.2 _ (List.mem_cons_of_mem _ kw_636)) (fun _ h => h) rfl (ty := .int) (by decide +kernel) rfl rfl (Nat.le_of_ble_eq_true rfl) (ws' := rf_ a cI cL (nI 0) S K Qt O1 O2 En Ot Wt) rfl dc_M_heaviest_121 ?_
    refine aw_iload_n C dc_M_heaviest_124 rfl ?_
    refine aw_if_ge C dc_M_heaviest_125 (tgt := 132) (by decide) (fun _ => ?_) (fun h9 => absurd (nI_pos' (by omega)) h9)
    refine aw_iload_n C dc_M_heaviest_132 rfl ?_
    refine kc_i (fun _ h => h) (fun _ h => h) (kc_S (n := 1) C hX xk_true (m_turned l D _ _ _ _ q hq4) kw_680 kw_678 kw_679 kw_8 (by unfold kd_; decide) ⟨rfl, rfl, by decide, by decide⟩ rfl rfl (Nat.le_of_ble_eq_true rfl) ⟨Nat.zero_le _, Nat.zero_le _⟩ dc_M_heaviest_133) ?_
    exact kc_iret C hr rfl (fun _ h => h) dc_M_heaviest_136
  · refine aw_iload C dc_M_heaviest_32 rfl ?_
    refine aw_sipush C dc_M_heaviest_34 (v := nI 4096) rfl ?_
    refine aw_icmp_ge C dc_M_heaviest_37 (tgt := 111) (by decide) (fun h9 => absurd h9 (nI_ge hk (by decide))) (fun _ => ?_)
    refine aw_aload_n C dc_M_heaviest_40 rfl ?_
    refine aw_iload_n C dc_M_heaviest_41 rfl ?_
    refine aw_iload C dc_M_heaviest_42 rfl ?_
    refine kc_i (fun _ h => h) (fun _ h => h) (kc_V (n := 2) C hX xk_true rfl 0 rf_p0 rfl (m_isIn l D a cI cL cF (nI 0) S K Qt O1 O2 En Ot Wt i hi k hk) kw_684 kw_681 kw_683 (tw_sel (q := (my_M_isIn, 9)) (by decide +kernel)) kw_8 rfl (by unfold kd_; decide) ⟨rfl, rfl, by decide, by decide⟩ rfl rfl (Nat.le_of_ble_eq_true rfl) ⟨Nat.zero_le _, Nat.zero_le _⟩ dc_M_heaviest_44) ?_
    refine aw_if_ne C dc_M_heaviest_47 (tgt := 53) (by decide) (fun hB47 => ?_) (fun hB47 => ?_)
    · have hb := z1_n.mp hB47
      refine aw_aload_n C dc_M_heaviest_53 rfl ?_
      refine aw_iload C dc_M_heaviest_54 rfl ?_
      refine kc_i (fun _ h => h) (fun _ h => h) (kc_V (n := 1) C hX xk_true rfl 0 rf_p0 rfl (m_weigh l D a cI cL cF (nI 0) S K Qt O1 O2 En Ot Wt k hk) kw_823 kw_820 kw_822 (tw_sel (q := (my_M_weigh, 9)) (by decide +kernel)) kw_8 rfl (by unfold kd_; decide) ⟨rfl, rfl, by decide, by decide⟩ rfl rfl (Nat.le_of_ble_eq_true rfl) ⟨Nat.zero_le _, Nat.zero_le _⟩ dc_M_heaviest_56) ?_
      refine aw_istore C dc_M_heaviest_59 (by decide) rfl ?_
      cases hh : (ho_ (fb_ (rw_ S i)) (fun p => we_ Wt p 12) k) with
      | none =>
        have e9 : (ho_ (fb_ (rw_ S i)) (fun p => we_ Wt p 12) (k + 1)) = some k := by rw [ho_, if_pos hb, hh]
        rw [e9] at ih
        refine aw_lw (lw' := [some (.ref a), some (.int (nI i)), some (.int (-1)), some (.int 0), some (.int (nI k)), some (.int (we_ Wt k 12))]) rfl ?_
        refine aw_iload_n C dc_M_heaviest_61 rfl ?_
        refine aw_if_lt C dc_M_heaviest_62 (tgt := 71) (by decide) (fun _ => ?_) (fun h9 => absurd (by decide) h9)
        refine aw_iload C dc_M_heaviest_71 rfl ?_
        refine aw_goto C dc_M_heaviest_73 (tgt := 77) (by decide) ?_
        refine aw_istore_n C dc_M_heaviest_77 (by decide) rfl ?_
        refine aw_iload_n C dc_M_heaviest_78 rfl ?_
        refine aw_if_lt C dc_M_heaviest_79 (tgt := 98) (by decide) (fun _ => ?_) (fun h9 => absurd (by decide) h9)
        refine aw_iload C dc_M_heaviest_98 rfl ?_
        refine aw_goto C dc_M_heaviest_100 (tgt := 104) (by decide) ?_
        refine aw_istore_n C dc_M_heaviest_104 (by decide) rfl ?_
        refine aw_iinc C dc_M_heaviest_105 rfl (ni_inc _) (by decide) rfl ?_
        refine aw_goto C dc_M_heaviest_108 (tgt := 32) (by decide) ?_
        refine aw_sub (lw' := [some (.ref a), some (.int (nI i)), some (.int (nI k)), some (.int (we_ Wt k 12)), some (.int (nI (k + 1))), none]) (by
          intro k v h
          match k, h with
          | 0, h => exact h
          | 1, h => exact h
          | 2, h => exact h
          | 3, h => exact h
          | 4, h => exact h
          | 5, h => exact nomatch (show (some none : Option (Option Value)) = some (some v) from h)
          | n + 6, h => exact nomatch (show (none : Option (Option Value)) = some (some v) from h)) ?_
        exact ih
      | some q9 =>
        have hq4 : q9 < 4096 := Nat.lt_trans (ho_lt hh) hk
        refine aw_lw (lw' := [some (.ref a), some (.int (nI i)), some (.int (nI q9)), some (.int (we_ Wt q9 12)), some (.int (nI k)), some (.int (we_ Wt k 12))]) rfl ?_
        by_cases hlt : we_ Wt q9 12 < we_ Wt k 12
        · have e9 : (ho_ (fb_ (rw_ S i)) (fun p => we_ Wt p 12) (k + 1)) = some k := by rw [ho_, if_pos hb, hh]; exact if_pos hlt
          rw [e9] at ih
          refine aw_iload_n C dc_M_heaviest_61 rfl ?_
          refine aw_if_lt C dc_M_heaviest_62 (tgt := 71) (by decide) (fun h9 => absurd h9 (nI_pos (by omega))) (fun _ => ?_)
          refine aw_iload C dc_M_heaviest_65 rfl ?_
          refine aw_iload_n C dc_M_heaviest_67 rfl ?_
          refine aw_icmp_le C dc_M_heaviest_68 (tgt := 76) (by decide) (fun h9 => absurd h9 (Int32.not_le.mpr hlt)) (fun _ => ?_)
          refine aw_iload C dc_M_heaviest_71 rfl ?_
          refine aw_goto C dc_M_heaviest_73 (tgt := 77) (by decide) ?_
          refine aw_istore_n C dc_M_heaviest_77 (by decide) rfl ?_
          refine aw_iload_n C dc_M_heaviest_78 rfl ?_
          refine aw_if_lt C dc_M_heaviest_79 (tgt := 98) (by decide) (fun h9 => absurd h9 (nI_pos (by omega))) (fun _ => ?_)
          refine aw_iload C dc_M_heaviest_82 rfl ?_
          refine aw_iload_n C dc_M_heaviest_84 rfl ?_
          refine aw_icmp_ne C dc_M_heaviest_85 (tgt := 103) (by decide) (fun h9 => absurd (rfl) h9) (fun _ => ?_)
          refine aw_aload_n C dc_M_heaviest_88 rfl ?_
          refine aw_iload_n C dc_M_heaviest_89 rfl ?_
          refine kc_i (fun _ h => h) (fun _ h => h) (kc_V (n := 1) C hX xk_true rfl 0 rf_p0 rfl (m_weigh l D a cI cL cF (nI 0) S K Qt O1 O2 En Ot Wt q9 hq4) kw_823 kw_820 kw_822 (tw_sel (q := (my_M_weigh, 9)) (by decide +kernel)) kw_8 rfl (by unfold kd_; decide) ⟨rfl, rfl, by decide, by decide⟩ rfl rfl (Nat.le_of_ble_eq_true rfl) ⟨Nat.zero_le _, Nat.zero_le _⟩ dc_M_heaviest_90) ?_
          refine aw_iload C dc_M_heaviest_93 rfl ?_
          refine aw_icmp_ge C dc_M_heaviest_95 (tgt := 103) (by decide) (fun h9 => absurd h9 (Int32.not_le.mpr hlt)) (fun _ => ?_)
          refine aw_iload C dc_M_heaviest_98 rfl ?_
          refine aw_goto C dc_M_heaviest_100 (tgt := 104) (by decide) ?_
          refine aw_istore_n C dc_M_heaviest_104 (by decide) rfl ?_
          refine aw_iinc C dc_M_heaviest_105 rfl (ni_inc _) (by decide) rfl ?_
          refine aw_goto C dc_M_heaviest_108 (tgt := 32) (by decide) ?_
          refine aw_sub (lw' := [some (.ref a), some (.int (nI i)), some (.int (nI k)), some (.int (we_ Wt k 12)), some (.int (nI (k + 1))), none]) (by
            intro k v h
            match k, h with
            | 0, h => exact h
            | 1, h => exact h
            | 2, h => exact h
            | 3, h => exact h
            | 4, h => exact h
            | 5, h => exact nomatch (show (some none : Option (Option Value)) = some (some v) from h)
            | n + 6, h => exact nomatch (show (none : Option (Option Value)) = some (some v) from h)) ?_
          exact ih
        · have e9 : (ho_ (fb_ (rw_ S i)) (fun p => we_ Wt p 12) (k + 1)) = some q9 := by rw [ho_, if_pos hb, hh]; exact if_neg hlt
          rw [e9] at ih
          refine aw_iload_n C dc_M_heaviest_61 rfl ?_
          refine aw_if_lt C dc_M_heaviest_62 (tgt := 71) (by decide) (fun h9 => absurd h9 (nI_pos (by omega))) (fun _ => ?_)
          refine aw_iload C dc_M_heaviest_65 rfl ?_
          refine aw_iload_n C dc_M_heaviest_67 rfl ?_
          refine aw_icmp_le C dc_M_heaviest_68 (tgt := 76) (by decide) (fun _ => ?_) (fun h9 => absurd (Int32.not_lt.mp hlt) h9)
          refine aw_iload_n C dc_M_heaviest_76 rfl ?_
          refine aw_istore_n C dc_M_heaviest_77 (by decide) rfl ?_
          refine aw_iload_n C dc_M_heaviest_78 rfl ?_
          refine aw_if_lt C dc_M_heaviest_79 (tgt := 98) (by decide) (fun h9 => absurd h9 (nI_pos (by omega))) (fun _ => ?_)
          refine aw_iload C dc_M_heaviest_82 rfl ?_
          refine aw_iload_n C dc_M_heaviest_84 rfl ?_
          refine aw_icmp_ne C dc_M_heaviest_85 (tgt := 103) (by decide) (fun hB85 => ?_) (fun hB85 => ?_)
          · refine aw_iload_n C dc_M_heaviest_103 rfl ?_
            refine aw_istore_n C dc_M_heaviest_104 (by decide) rfl ?_
            refine aw_iinc C dc_M_heaviest_105 rfl (ni_inc _) (by decide) rfl ?_
            refine aw_goto C dc_M_heaviest_108 (tgt := 32) (by decide) ?_
            refine aw_sub (lw' := [some (.ref a), some (.int (nI i)), some (.int (nI q9)), some (.int (we_ Wt q9 12)), some (.int (nI (k + 1))), none]) (by
              intro k v h
              match k, h with
              | 0, h => exact h
              | 1, h => exact h
              | 2, h => exact h
              | 3, h => exact h
              | 4, h => exact h
              | 5, h => exact nomatch (show (some none : Option (Option Value)) = some (some v) from h)
              | n + 6, h => exact nomatch (show (none : Option (Option Value)) = some (some v) from h)) ?_
            exact ih
          · refine aw_aload_n C dc_M_heaviest_88 rfl ?_
            refine aw_iload_n C dc_M_heaviest_89 rfl ?_
            refine kc_i (fun _ h => h) (fun _ h => h) (kc_V (n := 1) C hX xk_true rfl 0 rf_p0 rfl (m_weigh l D a cI cL cF (nI 0) S K Qt O1 O2 En Ot Wt q9 hq4) kw_823 kw_820 kw_822 (tw_sel (q := (my_M_weigh, 9)) (by decide +kernel)) kw_8 rfl (by unfold kd_; decide) ⟨rfl, rfl, by decide, by decide⟩ rfl rfl (Nat.le_of_ble_eq_true rfl) ⟨Nat.zero_le _, Nat.zero_le _⟩ dc_M_heaviest_90) ?_
            refine aw_iload C dc_M_heaviest_93 rfl ?_
            refine aw_icmp_ge C dc_M_heaviest_95 (tgt := 103) (by decide) (fun _ => ?_) (fun h9 => absurd (Int32.not_lt.mp hlt) h9)
            refine aw_iload_n C dc_M_heaviest_103 rfl ?_
            refine aw_istore_n C dc_M_heaviest_104 (by decide) rfl ?_
            refine aw_iinc C dc_M_heaviest_105 rfl (ni_inc _) (by decide) rfl ?_
            refine aw_goto C dc_M_heaviest_108 (tgt := 32) (by decide) ?_
            refine aw_sub (lw' := [some (.ref a), some (.int (nI i)), some (.int (nI q9)), some (.int (we_ Wt q9 12)), some (.int (nI (k + 1))), none]) (by
              intro k v h
              match k, h with
              | 0, h => exact h
              | 1, h => exact h
              | 2, h => exact h
              | 3, h => exact h
              | 4, h => exact h
              | 5, h => exact nomatch (show (some none : Option (Option Value)) = some (some v) from h)
              | n + 6, h => exact nomatch (show (none : Option (Option Value)) = some (some v) from h)) ?_
            exact ih
    · have hb := z1_0.mp hB47
      have e9 : (ho_ (fb_ (rw_ S i)) (fun p => we_ Wt p 12) (k + 1)) = (ho_ (fb_ (rw_ S i)) (fun p => we_ Wt p 12) k) := by rw [ho_, if_neg (by rw [hb]; decide)]
      rw [e9] at ih
      refine aw_goto C dc_M_heaviest_50 (tgt := 105) (by decide) ?_
      refine aw_iinc C dc_M_heaviest_105 rfl (ni_inc _) (by decide) rfl ?_
      refine aw_goto C dc_M_heaviest_108 (tgt := 32) (by decide) ?_
      exact ih
set_option maxHeartbeats 4000000 in
set_option maxRecDepth 100000 in
theorem m_heaviestNone (l : Launch) (D : va_G) (a : Nat) (cI cL cF : ClassId) (t : Int32) (S K Qt : Nat → Int64) (O1 O2 En Ot Wt : Nat → Int32) (i : Nat) (hi : i < 10) (hq : (ho_ (fb_ (rw_ S i)) (fun p => we_ Wt p 12) 4096) = none) : ki_ l my_M_heaviest (Cond.code my_M_heaviest bc_M_heaviest 6 (some .int) :: tw_) ({ frames := 2, cells := 0, slots := 0, locals := 43 }) D (ty_s cI cL cF) (fun _ => True) (cm_ a) [.ref a, .int (nI i)] (rp_ D a cI cL t S K Qt O1 O2 En Ot Wt) (rp_ D a cI cL (nI 2) S K Qt O1 O2 En Ot Wt) 0 := by
  refine aw_met (A := cm_ a) (own := "FamilyShelfModel") (by decide) rfl rfl (Nat.le_of_ble_eq_true rfl) ?_
  intro p9 e s m args below meth c C hr hX hP0
  refine aw_lw (lw' := [some (.ref a), some (.int (nI i)), none, none, none, none]) rfl ?_
  refine aw_aload_n C dc_M_heaviest_0 rfl ?_
  refine aw_iload_n C dc_M_heaviest_1 rfl ?_
  refine kc_i (fun _ h => h) (fun _ h => h) (kc_S (n := 1) C hX xk_true (m_noShelf0 l D _ _ _ _ i hi) kw_677 kw_675 kw_676 kw_8 (by unfold kd_; decide) ⟨rfl, rfl, by decide, by decide⟩ rfl rfl (Nat.le_of_ble_eq_true rfl) ⟨Nat.zero_le _, Nat.zero_le _⟩ dc_M_heaviest_2) ?_
  refine aw_if_eq C dc_M_heaviest_5 (tgt := 12) (by decide) (fun _ => ?_) (fun h9 => absurd (by decide) h9)
  refine aw_iconst C dc_M_heaviest_12 (v := nI 0) rfl ?_
  refine aw_put C rf_D (fun w h => List.mem_cons_of_mem _ (ly_M w h)) ty_M ty_M_ok nm_M 0 rf_p0 rfl 0 (by decide) (C.1.2.2.2.2 _ (List.mem_cons_of_mem _ kw_636)) (fun _ h => h) rfl (ty := .int) (by decide +kernel) rfl rfl (Nat.le_of_ble_eq_true rfl) (ws' := rf_ a cI cL (nI 0) S K Qt O1 O2 En Ot Wt) rfl dc_M_heaviest_13 ?_
  refine aw_aload_n C dc_M_heaviest_16 rfl ?_
  refine aw_get C (fun w h => List.mem_cons_of_mem _ (ly_M w h)) 0 rf_p0 rfl 0 (by decide) (C.1.2.2.2.2 _ (List.mem_cons_of_mem _ kw_636)) (fun _ h => h) rfl dc_M_heaviest_17 ?_
  refine aw_if_eq C dc_M_heaviest_20 (tgt := 25) (by decide) (fun _ => ?_) (fun h9 => absurd (by decide) h9)
  refine aw_iconst C dc_M_heaviest_25 (v := (-1)) rfl ?_
  refine aw_istore_n C dc_M_heaviest_26 (by decide) rfl ?_
  refine aw_iconst C dc_M_heaviest_27 (v := nI 0) rfl ?_
  refine aw_istore_n C dc_M_heaviest_28 (by decide) rfl ?_
  refine aw_iconst C dc_M_heaviest_29 (v := nI 0) rfl ?_
  refine aw_istore C dc_M_heaviest_30 (by decide) rfl ?_
  refine aw_loop (fun k => rp_ D a cI cL (nI 0) S K Qt O1 O2 En Ot Wt) (fun k => [some (.ref a), some (.int (nI i)), some (.int (fia_ (ho_ (fb_ (rw_ S i)) (fun p => we_ Wt p 12) k))), some (.int (hw_ (fun p => we_ Wt p 12) (ho_ (fb_ (rw_ S i)) (fun p => we_ Wt p 12) k))), some (.int (nI k)), none]) 4096 ?_ (fun k hk ih => ?_)
  · refine aw_lw (lw' := [some (.ref a), some (.int (nI i)), some (.int (-1)), some (.int (hw_ (fun p => we_ Wt p 12) (ho_ (fb_ (rw_ S i)) (fun p => we_ Wt p 12) 4096))), some (.int (nI 4096)), none]) (by rw [hq]; rfl) ?_
    refine aw_iload C dc_M_heaviest_32 rfl ?_
    refine aw_sipush C dc_M_heaviest_34 (v := nI 4096) rfl ?_
    refine aw_icmp_ge C dc_M_heaviest_37 (tgt := 111) (by decide) (fun _ => ?_) (fun h9 => absurd (nI_le (Nat.le_refl _) (by decide)) h9)
    refine aw_aload_n C dc_M_heaviest_111 rfl ?_
    refine aw_iload_n C dc_M_heaviest_112 rfl ?_
    refine aw_if_ge C dc_M_heaviest_113 (tgt := 120) (by decide) (fun h9 => absurd h9 (by decide)) (fun _ => ?_)
    refine aw_iconst C dc_M_heaviest_116 (v := nI 2) rfl ?_
    refine aw_goto C dc_M_heaviest_117 (tgt := 121) (by decide) ?_
    refine aw_put C rf_D (fun w h => List.mem_cons_of_mem _ (ly_M w h)) ty_M ty_M_ok nm_M 0 rf_p0 rfl 0 (by decide) (C.1.2.2.2.2 _ (List.mem_cons_of_mem _ kw_636)) (fun _ h => h) rfl (ty := .int) (by decide +kernel) rfl rfl (Nat.le_of_ble_eq_true rfl) (ws' := rf_ a cI cL (nI 2) S K Qt O1 O2 En Ot Wt) rfl dc_M_heaviest_121 ?_
    refine aw_iload_n C dc_M_heaviest_124 rfl ?_
    refine aw_if_ge C dc_M_heaviest_125 (tgt := 132) (by decide) (fun h9 => absurd h9 (by decide)) (fun _ => ?_)
    refine aw_iconst C dc_M_heaviest_128 (v := nI 0) rfl ?_
    refine aw_goto C dc_M_heaviest_129 (tgt := 136) (by decide) ?_
    exact kc_iret C hr rfl (fun _ h => h) dc_M_heaviest_136
  · refine aw_iload C dc_M_heaviest_32 rfl ?_
    refine aw_sipush C dc_M_heaviest_34 (v := nI 4096) rfl ?_
    refine aw_icmp_ge C dc_M_heaviest_37 (tgt := 111) (by decide) (fun h9 => absurd h9 (nI_ge hk (by decide))) (fun _ => ?_)
    refine aw_aload_n C dc_M_heaviest_40 rfl ?_
    refine aw_iload_n C dc_M_heaviest_41 rfl ?_
    refine aw_iload C dc_M_heaviest_42 rfl ?_
    refine kc_i (fun _ h => h) (fun _ h => h) (kc_V (n := 2) C hX xk_true rfl 0 rf_p0 rfl (m_isIn l D a cI cL cF (nI 0) S K Qt O1 O2 En Ot Wt i hi k hk) kw_684 kw_681 kw_683 (tw_sel (q := (my_M_isIn, 9)) (by decide +kernel)) kw_8 rfl (by unfold kd_; decide) ⟨rfl, rfl, by decide, by decide⟩ rfl rfl (Nat.le_of_ble_eq_true rfl) ⟨Nat.zero_le _, Nat.zero_le _⟩ dc_M_heaviest_44) ?_
    refine aw_if_ne C dc_M_heaviest_47 (tgt := 53) (by decide) (fun hB47 => ?_) (fun hB47 => ?_)
    · have hb := z1_n.mp hB47
      refine aw_aload_n C dc_M_heaviest_53 rfl ?_
      refine aw_iload C dc_M_heaviest_54 rfl ?_
      refine kc_i (fun _ h => h) (fun _ h => h) (kc_V (n := 1) C hX xk_true rfl 0 rf_p0 rfl (m_weigh l D a cI cL cF (nI 0) S K Qt O1 O2 En Ot Wt k hk) kw_823 kw_820 kw_822 (tw_sel (q := (my_M_weigh, 9)) (by decide +kernel)) kw_8 rfl (by unfold kd_; decide) ⟨rfl, rfl, by decide, by decide⟩ rfl rfl (Nat.le_of_ble_eq_true rfl) ⟨Nat.zero_le _, Nat.zero_le _⟩ dc_M_heaviest_56) ?_
      refine aw_istore C dc_M_heaviest_59 (by decide) rfl ?_
      cases hh : (ho_ (fb_ (rw_ S i)) (fun p => we_ Wt p 12) k) with
      | none =>
        have e9 : (ho_ (fb_ (rw_ S i)) (fun p => we_ Wt p 12) (k + 1)) = some k := by rw [ho_, if_pos hb, hh]
        rw [e9] at ih
        refine aw_lw (lw' := [some (.ref a), some (.int (nI i)), some (.int (-1)), some (.int 0), some (.int (nI k)), some (.int (we_ Wt k 12))]) rfl ?_
        refine aw_iload_n C dc_M_heaviest_61 rfl ?_
        refine aw_if_lt C dc_M_heaviest_62 (tgt := 71) (by decide) (fun _ => ?_) (fun h9 => absurd (by decide) h9)
        refine aw_iload C dc_M_heaviest_71 rfl ?_
        refine aw_goto C dc_M_heaviest_73 (tgt := 77) (by decide) ?_
        refine aw_istore_n C dc_M_heaviest_77 (by decide) rfl ?_
        refine aw_iload_n C dc_M_heaviest_78 rfl ?_
        refine aw_if_lt C dc_M_heaviest_79 (tgt := 98) (by decide) (fun _ => ?_) (fun h9 => absurd (by decide) h9)
        refine aw_iload C dc_M_heaviest_98 rfl ?_
        refine aw_goto C dc_M_heaviest_100 (tgt := 104) (by decide) ?_
        refine aw_istore_n C dc_M_heaviest_104 (by decide) rfl ?_
        refine aw_iinc C dc_M_heaviest_105 rfl (ni_inc _) (by decide) rfl ?_
        refine aw_goto C dc_M_heaviest_108 (tgt := 32) (by decide) ?_
        refine aw_sub (lw' := [some (.ref a), some (.int (nI i)), some (.int (nI k)), some (.int (we_ Wt k 12)), some (.int (nI (k + 1))), none]) (by
          intro k v h
          match k, h with
          | 0, h => exact h
          | 1, h => exact h
          | 2, h => exact h
          | 3, h => exact h
          | 4, h => exact h
          | 5, h => exact nomatch (show (some none : Option (Option Value)) = some (some v) from h)
          | n + 6, h => exact nomatch (show (none : Option (Option Value)) = some (some v) from h)) ?_
        exact ih
      | some q9 =>
        have hq4 : q9 < 4096 := Nat.lt_trans (ho_lt hh) hk
        refine aw_lw (lw' := [some (.ref a), some (.int (nI i)), some (.int (nI q9)), some (.int (we_ Wt q9 12)), some (.int (nI k)), some (.int (we_ Wt k 12))]) rfl ?_
        by_cases hlt : we_ Wt q9 12 < we_ Wt k 12
        · have e9 : (ho_ (fb_ (rw_ S i)) (fun p => we_ Wt p 12) (k + 1)) = some k := by rw [ho_, if_pos hb, hh]; exact if_pos hlt
          rw [e9] at ih
          refine aw_iload_n C dc_M_heaviest_61 rfl ?_
          refine aw_if_lt C dc_M_heaviest_62 (tgt := 71) (by decide) (fun h9 => absurd h9 (nI_pos (by omega))) (fun _ => ?_)
          refine aw_iload C dc_M_heaviest_65 rfl ?_
          refine aw_iload_n C dc_M_heaviest_67 rfl ?_
          refine aw_icmp_le C dc_M_heaviest_68 (tgt := 76) (by decide) (fun h9 => absurd h9 (Int32.not_le.mpr hlt)) (fun _ => ?_)
          refine aw_iload C dc_M_heaviest_71 rfl ?_
          refine aw_goto C dc_M_heaviest_73 (tgt := 77) (by decide) ?_
          refine aw_istore_n C dc_M_heaviest_77 (by decide) rfl ?_
          refine aw_iload_n C dc_M_heaviest_78 rfl ?_
          refine aw_if_lt C dc_M_heaviest_79 (tgt := 98) (by decide) (fun h9 => absurd h9 (nI_pos (by omega))) (fun _ => ?_)
          refine aw_iload C dc_M_heaviest_82 rfl ?_
          refine aw_iload_n C dc_M_heaviest_84 rfl ?_
          refine aw_icmp_ne C dc_M_heaviest_85 (tgt := 103) (by decide) (fun h9 => absurd (rfl) h9) (fun _ => ?_)
          refine aw_aload_n C dc_M_heaviest_88 rfl ?_
          refine aw_iload_n C dc_M_heaviest_89 rfl ?_
          refine kc_i (fun _ h => h) (fun _ h => h) (kc_V (n := 1) C hX xk_true rfl 0 rf_p0 rfl (m_weigh l D a cI cL cF (nI 0) S K Qt O1 O2 En Ot Wt q9 hq4) kw_823 kw_820 kw_822 (tw_sel (q := (my_M_weigh, 9)) (by decide +kernel)) kw_8 rfl (by unfold kd_; decide) ⟨rfl, rfl, by decide, by decide⟩ rfl rfl (Nat.le_of_ble_eq_true rfl) ⟨Nat.zero_le _, Nat.zero_le _⟩ dc_M_heaviest_90) ?_
          refine aw_iload C dc_M_heaviest_93 rfl ?_
          refine aw_icmp_ge C dc_M_heaviest_95 (tgt := 103) (by decide) (fun h9 => absurd h9 (Int32.not_le.mpr hlt)) (fun _ => ?_)
          refine aw_iload C dc_M_heaviest_98 rfl ?_
          refine aw_goto C dc_M_heaviest_100 (tgt := 104) (by decide) ?_
          refine aw_istore_n C dc_M_heaviest_104 (by decide) rfl ?_
          refine aw_iinc C dc_M_heaviest_105 rfl (ni_inc _) (by decide) rfl ?_
          refine aw_goto C dc_M_heaviest_108 (tgt := 32) (by decide) ?_
          refine aw_sub (lw' := [some (.ref a), some (.int (nI i)), some (.int (nI k)), some (.int (we_ Wt k 12)), some (.int (nI (k + 1))), none]) (by
            intro k v h
            match k, h with
            | 0, h => exact h
            | 1, h => exact h
            | 2, h => exact h
            | 3, h => exact h
            | 4, h => exact h
            | 5, h => exact nomatch (show (some none : Option (Option Value)) = some (some v) from h)
            | n + 6, h => exact nomatch (show (none : Option (Option Value)) = some (some v) from h)) ?_
          exact ih
        · have e9 : (ho_ (fb_ (rw_ S i)) (fun p => we_ Wt p 12) (k + 1)) = some q9 := by rw [ho_, if_pos hb, hh]; exact if_neg hlt
          rw [e9] at ih
          refine aw_iload_n C dc_M_heaviest_61 rfl ?_
          refine aw_if_lt C dc_M_heaviest_62 (tgt := 71) (by decide) (fun h9 => absurd h9 (nI_pos (by omega))) (fun _ => ?_)
          refine aw_iload C dc_M_heaviest_65 rfl ?_
          refine aw_iload_n C dc_M_heaviest_67 rfl ?_
          refine aw_icmp_le C dc_M_heaviest_68 (tgt := 76) (by decide) (fun _ => ?_) (fun h9 => absurd (Int32.not_lt.mp hlt) h9)
          refine aw_iload_n C dc_M_heaviest_76 rfl ?_
          refine aw_istore_n C dc_M_heaviest_77 (by decide) rfl ?_
          refine aw_iload_n C dc_M_heaviest_78 rfl ?_
          refine aw_if_lt C dc_M_heaviest_79 (tgt := 98) (by decide) (fun h9 => absurd h9 (nI_pos (by omega))) (fun _ => ?_)
          refine aw_iload C dc_M_heaviest_82 rfl ?_
          refine aw_iload_n C dc_M_heaviest_84 rfl ?_
          refine aw_icmp_ne C dc_M_heaviest_85 (tgt := 103) (by decide) (fun hB85 => ?_) (fun hB85 => ?_)
          · refine aw_iload_n C dc_M_heaviest_103 rfl ?_
            refine aw_istore_n C dc_M_heaviest_104 (by decide) rfl ?_
            refine aw_iinc C dc_M_heaviest_105 rfl (ni_inc _) (by decide) rfl ?_
            refine aw_goto C dc_M_heaviest_108 (tgt := 32) (by decide) ?_
            refine aw_sub (lw' := [some (.ref a), some (.int (nI i)), some (.int (nI q9)), some (.int (we_ Wt q9 12)), some (.int (nI (k + 1))), none]) (by
              intro k v h
              match k, h with
              | 0, h => exact h
              | 1, h => exact h
              | 2, h => exact h
              | 3, h => exact h
              | 4, h => exact h
              | 5, h => exact nomatch (show (some none : Option (Option Value)) = some (some v) from h)
              | n + 6, h => exact nomatch (show (none : Option (Option Value)) = some (some v) from h)) ?_
            exact ih
          · refine aw_aload_n C dc_M_heaviest_88 rfl ?_
            refine aw_iload_n C dc_M_heaviest_89 rfl ?_
            refine kc_i (fun _ h => h) (fun _ h => h) (kc_V (n := 1) C hX xk_true rfl 0 rf_p0 rfl (m_weigh l D a cI cL cF (nI 0) S K Qt O1 O2 En Ot Wt q9 hq4) kw_823 kw_820 kw_822 (tw_sel (q := (my_M_weigh, 9)) (by decide +kernel)) kw_8 rfl (by unfold kd_; decide) ⟨rfl, rfl, by decide, by decide⟩ rfl rfl (Nat.le_of_ble_eq_true rfl) ⟨Nat.zero_le _, Nat.zero_le _⟩ dc_M_heaviest_90) ?_
            refine aw_iload C dc_M_heaviest_93 rfl ?_
            refine aw_icmp_ge C dc_M_heaviest_95 (tgt := 103) (by decide) (fun _ => ?_) (fun h9 => absurd (Int32.not_lt.mp hlt) h9)
            refine aw_iload_n C dc_M_heaviest_103 rfl ?_
            refine aw_istore_n C dc_M_heaviest_104 (by decide) rfl ?_
            refine aw_iinc C dc_M_heaviest_105 rfl (ni_inc _) (by decide) rfl ?_
            refine aw_goto C dc_M_heaviest_108 (tgt := 32) (by decide) ?_
            refine aw_sub (lw' := [some (.ref a), some (.int (nI i)), some (.int (nI q9)), some (.int (we_ Wt q9 12)), some (.int (nI (k + 1))), none]) (by
              intro k v h
              match k, h with
              | 0, h => exact h
              | 1, h => exact h
              | 2, h => exact h
              | 3, h => exact h
              | 4, h => exact h
              | 5, h => exact nomatch (show (some none : Option (Option Value)) = some (some v) from h)
              | n + 6, h => exact nomatch (show (none : Option (Option Value)) = some (some v) from h)) ?_
            exact ih
    · have hb := z1_0.mp hB47
      have e9 : (ho_ (fb_ (rw_ S i)) (fun p => we_ Wt p 12) (k + 1)) = (ho_ (fb_ (rw_ S i)) (fun p => we_ Wt p 12) k) := by rw [ho_, if_neg (by rw [hb]; decide)]
      rw [e9] at ih
      refine aw_goto C dc_M_heaviest_50 (tgt := 105) (by decide) ?_
      refine aw_iinc C dc_M_heaviest_105 rfl (ni_inc _) (by decide) rfl ?_
      refine aw_goto C dc_M_heaviest_108 (tgt := 32) (by decide) ?_
      exact ih
