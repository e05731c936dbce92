set_option maxHeartbeats 4000000 in
set_option maxRecDepth 100000 in
theorem m_change0 (l : Launch) (D : va_G) (a : Nat) (cI cL cF : ClassId) (t : Int32) (S K Qt : Nat → Int64) (O1 O2 En Ot Wt : Nat → Int32) (i : Nat) (hi : i < 10) (f9 : Nat) (hf : f9 < 10) (e9 : Nat) (he : e9 < 12) : ki_ l my_M_change (Cond.code my_M_change bc_M_change 8 (some .int) :: tw_) ({ frames := 3, cells := 0, slots := 0, locals := 68 }) D (ty_s cI cL cF) (fun _ => True) (cm_ a) [.ref a, .int (nI i), .int (nI 0), .int (nI f9), .int (nI e9)] (rp_ D a cI cL t S K Qt O1 O2 En Ot Wt) (rp_ D a cI cL (nI 0) (sl_ S i (mkl_ (fl_ K 64 0) (fun p => (fb_ (rw_ S f9)) p && p.testBit (11 - e9)) (fun p => p ^^^ 2 ^ (11 - e9)) 4096) 64) (mkl_ (fl_ K 64 0) (fun p => (fb_ (rw_ S f9)) p && p.testBit (11 - e9)) (fun p => p ^^^ 2 ^ (11 - e9)) 4096) Qt O1 O2 En Ot Wt) (nI (tw64_ (rw_ (sl_ S i (mkl_ (fl_ K 64 0) (fun p => (fb_ (rw_ S f9)) p && p.testBit (11 - e9)) (fun p => p ^^^ 2 ^ (11 - e9)) 4096) 64) i) 64)) := by
  refine aw_met (A := cm_ a) (own := "FamilyShelfModel") (by decide) rfl rfl (Nat.le_of_ble_eq_true rfl) ?_
  intro p9 e s m args below meth c C hr hX hP0
  refine aw_lw (lw' := [some (.ref a), some (.int (nI i)), some (.int (nI 0)), some (.int (nI f9)), some (.int (nI e9)), none, none, none]) rfl ?_
  refine aw_aload_n C dc_M_change_0 rfl ?_
  refine aw_iload_n C dc_M_change_1 rfl ?_
  refine kc_i (fun _ h => h) (fun _ h => h) (kc_S (n := 1) C hX xk_true (m_noShelf0 l D _ _ _ _ i hi) kw_677 kw_675 kw_676 kw_8 (by unfold kd_; decide) ⟨rfl, rfl, by decide, by decide⟩ rfl rfl (Nat.le_of_ble_eq_true rfl) ⟨Nat.zero_le _, Nat.zero_le _⟩ dc_M_change_2) ?_
  refine aw_if_ne C dc_M_change_5 (tgt := 23) (by decide) (fun h9 => absurd (by decide) h9) (fun _ => ?_)
  refine aw_iload_n C dc_M_change_8 rfl ?_
  refine kc_i (fun _ h => h) (fun _ h => h) (kc_S (n := 1) C hX xk_true (m_noShelf0 l D _ _ _ _ f9 hf) kw_677 kw_675 kw_676 kw_8 (by unfold kd_; decide) ⟨rfl, rfl, by decide, by decide⟩ rfl rfl (Nat.le_of_ble_eq_true rfl) ⟨Nat.zero_le _, Nat.zero_le _⟩ dc_M_change_9) ?_
  refine aw_if_ne C dc_M_change_12 (tgt := 23) (by decide) (fun h9 => absurd (by decide) h9) (fun _ => ?_)
  refine aw_iload C dc_M_change_15 rfl ?_
  refine kc_i (fun _ h => h) (fun _ h => h) (kc_S (n := 1) C hX xk_true (m_noElement0 l D _ _ _ _ e9 he) kw_749 kw_747 kw_748 kw_8 (by unfold kd_; decide) ⟨rfl, rfl, by decide, by decide⟩ rfl rfl (Nat.le_of_ble_eq_true rfl) ⟨Nat.zero_le _, Nat.zero_le _⟩ dc_M_change_17) ?_
  refine aw_if_eq C dc_M_change_20 (tgt := 27) (by decide) (fun _ => ?_) (fun h9 => absurd (by decide) h9)
  refine aw_iload_n C dc_M_change_27 rfl ?_
  refine aw_if_lt C dc_M_change_28 (tgt := 36) (by decide) (fun h9 => absurd h9 (by decide)) (fun _ => ?_)
  refine aw_iload_n C dc_M_change_31 rfl ?_
  refine aw_iconst C dc_M_change_32 (v := nI 2) rfl ?_
  refine aw_icmp_le C dc_M_change_33 (tgt := 40) (by decide) (fun _ => ?_) (fun h9 => absurd (by decide) h9)
  refine aw_iconst C dc_M_change_40 (v := nI 0) rfl ?_
  refine aw_put C rf_D (fun w h => List.mem_cons_of_mem _ (ly_M w h)) ty_M ty_M_ok nm_M 0 rf_p0 rfl 0 (by decide) (C.1.2.2.2.2 _ (List.mem_cons_of_mem _ kw_636)) (fun _ h => h) rfl (ty := .int) (by decide +kernel) rfl rfl (Nat.le_of_ble_eq_true rfl) (ws' := rf_ a cI cL (nI 0) S K Qt O1 O2 En Ot Wt) rfl dc_M_change_41 ?_
  refine aw_aload_n C dc_M_change_44 rfl ?_
  refine aw_get C (fun w h => List.mem_cons_of_mem _ (ly_M w h)) 0 rf_p0 rfl 0 (by decide) (C.1.2.2.2.2 _ (List.mem_cons_of_mem _ kw_636)) (fun _ h => h) rfl dc_M_change_45 ?_
  refine aw_if_eq C dc_M_change_48 (tgt := 53) (by decide) (fun _ => ?_) (fun h9 => absurd (by decide) h9)
  refine aw_aload_n C dc_M_change_53 rfl ?_
  refine kc_v (fun _ h => h) (fun _ h => h) (kc_V (n := 0) C hX xk_true rfl 0 rf_p0 rfl (m_begin l D a cI cL cF (nI 0) S K Qt O1 O2 En Ot Wt) kw_708 kw_705 kw_707 (tw_sel (q := (my_M_begin, 9)) (by decide +kernel)) kw_8 rfl (by unfold kd_; decide) ⟨rfl, rfl, by decide, by decide⟩ rfl rfl (Nat.le_of_ble_eq_true rfl) ⟨Nat.zero_le _, Nat.zero_le _⟩ dc_M_change_54) ?_
  refine aw_iload C dc_M_change_57 rfl ?_
  refine kc_i (fun _ h => h) (fun _ h => h) (kc_S (n := 1) C hX xk_true (m_bitOf l D _ _ _ _ e9 he) kw_752 kw_750 kw_751 kw_8 (by unfold kd_; decide) ⟨rfl, rfl, by decide, by decide⟩ rfl rfl (Nat.le_of_ble_eq_true rfl) ⟨Nat.zero_le _, Nat.zero_le _⟩ dc_M_change_59) ?_
  refine aw_istore C dc_M_change_62 (by decide) rfl ?_
  refine aw_iconst C dc_M_change_64 (v := nI 0) rfl ?_
  refine aw_istore C dc_M_change_65 (by decide) rfl ?_
  refine aw_loop (fun k => rp_ D a cI cL (nI 0) S (mkl_ (fl_ K 64 0) (fun p => (fb_ (rw_ S f9)) p && p.testBit (11 - e9)) (fun p => p ^^^ 2 ^ (11 - e9)) k) Qt O1 O2 En Ot Wt) (fun k => [some (.ref a), some (.int (nI i)), some (.int (nI 0)), some (.int (nI f9)), some (.int (nI e9)), some (.int (nI (2 ^ (11 - e9)))), some (.int (nI k)), none]) 4096 ?_ (fun k hk ih => ?_)
  · refine aw_iload C dc_M_change_67 rfl ?_
    refine aw_sipush C dc_M_change_69 (v := nI 4096) rfl ?_
    refine aw_icmp_ge C dc_M_change_72 (tgt := 144) (by decide) (fun _ => ?_) (fun h9 => absurd (nI_le (Nat.le_refl _) (by decide)) h9)
    refine aw_aload_n C dc_M_change_144 rfl ?_
    refine aw_iload_n C dc_M_change_145 rfl ?_
    refine kc_i (fun _ h => h) (fun _ h => h) (kc_V (n := 1) C hX xk_true rfl 0 rf_p0 rfl (m_lay l D a cI cL cF (nI 0) S (mkl_ (fl_ K 64 0) (fun p => (fb_ (rw_ S f9)) p && p.testBit (11 - e9)) (fun p => p ^^^ 2 ^ (11 - e9)) 4096) Qt O1 O2 En Ot Wt i hi) kw_742 kw_739 kw_741 (tw_sel (q := (my_M_lay, 9)) (by decide +kernel)) kw_8 rfl (by unfold kd_; decide) ⟨rfl, rfl, by decide, by decide⟩ rfl rfl (Nat.le_of_ble_eq_true rfl) ⟨Nat.zero_le _, Nat.zero_le _⟩ dc_M_change_146) ?_
    exact kc_iret C hr rfl (fun _ h => h) dc_M_change_149
  · refine aw_iload C dc_M_change_67 rfl ?_
    refine aw_sipush C dc_M_change_69 (v := nI 4096) rfl ?_
    refine aw_icmp_ge C dc_M_change_72 (tgt := 144) (by decide) (fun h9 => absurd h9 (nI_ge hk (by decide))) (fun _ => ?_)
    refine aw_iload C dc_M_change_75 rfl ?_
    refine aw_iload C dc_M_change_77 rfl ?_
    refine aw_iand C dc_M_change_79 ?_
    refine aw_if_eq C dc_M_change_80 (tgt := 87) (by decide) (fun hB80 => ?_) (fun hB80 => ?_)
    · have ht : k.testBit (11 - e9) = false := (ms_and hk (by omega)).mp hB80
      refine aw_iconst C dc_M_change_87 (v := nI 0) rfl ?_
      refine aw_istore C dc_M_change_88 (by decide) rfl ?_
      refine aw_aload_n C dc_M_change_90 rfl ?_
      refine aw_iload_n C dc_M_change_91 rfl ?_
      refine aw_iload C dc_M_change_92 rfl ?_
      refine kc_i (fun _ h => h) (fun _ h => h) (kc_V (n := 2) C hX xk_true rfl 0 rf_p0 rfl (m_isIn l D a cI cL cF (nI 0) S (mkl_ (fl_ K 64 0) (fun p => (fb_ (rw_ S f9)) p && p.testBit (11 - e9)) (fun p => p ^^^ 2 ^ (11 - e9)) k) Qt O1 O2 En Ot Wt f9 hf k hk) kw_684 kw_681 kw_683 (tw_sel (q := (my_M_isIn, 9)) (by decide +kernel)) kw_8 rfl (by unfold kd_; decide) ⟨rfl, rfl, by decide, by decide⟩ rfl rfl (Nat.le_of_ble_eq_true rfl) ⟨Nat.zero_le _, Nat.zero_le _⟩ dc_M_change_94) ?_
      refine aw_if_eq C dc_M_change_97 (tgt := 138) (by decide) (fun hB97 => ?_) (fun hB97 => ?_)
      · rw [mkl_f (n := k) (f := (fun p => (fb_ (rw_ S f9)) p && p.testBit (11 - e9))) (by show (_ && _) = false; rw [z1_0.mp hB97]; rfl)] at ih
        refine aw_iinc C dc_M_change_138 rfl (ni_inc _) (by decide) rfl ?_
        refine aw_goto C dc_M_change_141 (tgt := 67) (by decide) ?_
        refine aw_sub (lw' := [some (.ref a), some (.int (nI i)), some (.int (nI 0)), some (.int (nI f9)), some (.int (nI e9)), some (.int (nI (2 ^ (11 - e9)))), some (.int (nI (k + 1))), none]) (by
          intro k v h
          match k, h with
          | 0, h => exact h
          | 1, h => exact h
          | 2, h => exact h
          | 3, h => exact h
          | 4, h => exact h
          | 5, h => exact h
          | 6, h => exact h
          | 7, h => exact nomatch (show (some none : Option (Option Value)) = some (some v) from h)
          | n + 8, h => exact nomatch (show (none : Option (Option Value)) = some (some v) from h)) ?_
        exact ih
      · rw [mkl_f (n := k) (f := (fun p => (fb_ (rw_ S f9)) p && p.testBit (11 - e9))) (by show (_ && _) = false; rw [ht]; exact Bool.and_false _)] at ih
        refine aw_iload_n C dc_M_change_100 rfl ?_
        refine aw_iconst C dc_M_change_101 (v := nI 2) rfl ?_
        refine aw_icmp_eq C dc_M_change_102 (tgt := 119) (by decide) (fun h9 => absurd h9 (by decide)) (fun _ => ?_)
        refine aw_iload C dc_M_change_105 rfl ?_
        refine aw_iload_n C dc_M_change_107 rfl ?_
        refine aw_if_ne C dc_M_change_108 (tgt := 115) (by decide) (fun h9 => absurd (by decide) h9) (fun _ => ?_)
        refine aw_iconst C dc_M_change_111 (v := nI 1) rfl ?_
        refine aw_goto C dc_M_change_112 (tgt := 116) (by decide) ?_
        refine aw_icmp_ne C dc_M_change_116 (tgt := 138) (by decide) (fun _ => ?_) (fun h9 => absurd h9 (by decide))
        refine aw_iinc C dc_M_change_138 rfl (ni_inc _) (by decide) rfl ?_
        refine aw_goto C dc_M_change_141 (tgt := 67) (by decide) ?_
        refine aw_sub (lw' := [some (.ref a), some (.int (nI i)), some (.int (nI 0)), some (.int (nI f9)), some (.int (nI e9)), some (.int (nI (2 ^ (11 - e9)))), some (.int (nI (k + 1))), none]) (by
          intro k v h
          match k, h with
          | 0, h => exact h
          | 1, h => exact h
          | 2, h => exact h
          | 3, h => exact h
          | 4, h => exact h
          | 5, h => exact h
          | 6, h => exact h
          | 7, h => exact nomatch (show (some none : Option (Option Value)) = some (some v) from h)
          | n + 8, h => exact nomatch (show (none : Option (Option Value)) = some (some v) from h)) ?_
        exact ih
    · have ht : k.testBit (11 - e9) = true := by
        cases h9 : k.testBit (11 - e9)
        · exact absurd ((ms_and hk (by omega)).mpr h9) hB80
        · rfl
      refine aw_iconst C dc_M_change_83 (v := nI 1) rfl ?_
      refine aw_goto C dc_M_change_84 (tgt := 88) (by decide) ?_
      refine aw_istore C dc_M_change_88 (by decide) rfl ?_
      refine aw_aload_n C dc_M_change_90 rfl ?_
      refine aw_iload_n C dc_M_change_91 rfl ?_
      refine aw_iload C dc_M_change_92 rfl ?_
      refine kc_i (fun _ h => h) (fun _ h => h) (kc_V (n := 2) C hX xk_true rfl 0 rf_p0 rfl (m_isIn l D a cI cL cF (nI 0) S (mkl_ (fl_ K 64 0) (fun p => (fb_ (rw_ S f9)) p && p.testBit (11 - e9)) (fun p => p ^^^ 2 ^ (11 - e9)) k) Qt O1 O2 En Ot Wt f9 hf k hk) kw_684 kw_681 kw_683 (tw_sel (q := (my_M_isIn, 9)) (by decide +kernel)) kw_8 rfl (by unfold kd_; decide) ⟨rfl, rfl, by decide, by decide⟩ rfl rfl (Nat.le_of_ble_eq_true rfl) ⟨Nat.zero_le _, Nat.zero_le _⟩ dc_M_change_94) ?_
      refine aw_if_eq C dc_M_change_97 (tgt := 138) (by decide) (fun hB97 => ?_) (fun hB97 => ?_)
      · rw [mkl_f (n := k) (f := (fun p => (fb_ (rw_ S f9)) p && p.testBit (11 - e9))) (by show (_ && _) = false; rw [z1_0.mp hB97]; rfl)] at ih
        refine aw_iinc C dc_M_change_138 rfl (ni_inc _) (by decide) rfl ?_
        refine aw_goto C dc_M_change_141 (tgt := 67) (by decide) ?_
        refine aw_sub (lw' := [some (.ref a), some (.int (nI i)), some (.int (nI 0)), some (.int (nI f9)), some (.int (nI e9)), some (.int (nI (2 ^ (11 - e9)))), some (.int (nI (k + 1))), none]) (by
          intro k v h
          match k, h with
          | 0, h => exact h
          | 1, h => exact h
          | 2, h => exact h
          | 3, h => exact h
          | 4, h => exact h
          | 5, h => exact h
          | 6, h => exact h
          | 7, h => exact nomatch (show (some none : Option (Option Value)) = some (some v) from h)
          | n + 8, h => exact nomatch (show (none : Option (Option Value)) = some (some v) from h)) ?_
        exact ih
      · rw [mkl_t (n := k) (f := (fun p => (fb_ (rw_ S f9)) p && p.testBit (11 - e9))) (by show (_ && _) = true; rw [z1_n.mp hB97, ht]; rfl)] at ih
        refine aw_iload_n C dc_M_change_100 rfl ?_
        refine aw_iconst C dc_M_change_101 (v := nI 2) rfl ?_
        refine aw_icmp_eq C dc_M_change_102 (tgt := 119) (by decide) (fun h9 => absurd h9 (by decide)) (fun _ => ?_)
        refine aw_iload C dc_M_change_105 rfl ?_
        refine aw_iload_n C dc_M_change_107 rfl ?_
        refine aw_if_ne C dc_M_change_108 (tgt := 115) (by decide) (fun h9 => absurd (by decide) h9) (fun _ => ?_)
        refine aw_iconst C dc_M_change_111 (v := nI 1) rfl ?_
        refine aw_goto C dc_M_change_112 (tgt := 116) (by decide) ?_
        refine aw_icmp_ne C dc_M_change_116 (tgt := 138) (by decide) (fun h9 => absurd (by decide) h9) (fun _ => ?_)
        refine aw_aload_n C dc_M_change_119 rfl ?_
        refine aw_iload_n C dc_M_change_120 rfl ?_
        refine aw_iconst C dc_M_change_121 (v := nI 1) rfl ?_
        refine aw_icmp_ne C dc_M_change_122 (tgt := 130) (by decide) (fun _ => ?_) (fun h9 => absurd h9 (by decide))
        refine aw_iload C dc_M_change_130 rfl ?_
        refine aw_iload C dc_M_change_132 rfl ?_
        refine aw_ixor C dc_M_change_134 ?_
        refine aw_eqi (ni_xor _ _) ?_
        refine kc_v (fun _ h => h) (fun _ h => h) (kc_V (n := 1) C hX xk_true rfl 0 rf_p0 rfl (m_make l D a cI cL cF (nI 0) S (mkl_ (fl_ K 64 0) (fun p => (fb_ (rw_ S f9)) p && p.testBit (11 - e9)) (fun p => p ^^^ 2 ^ (11 - e9)) k) Qt O1 O2 En Ot Wt (k ^^^ 2 ^ (11 - e9)) (ms_xor hk (by omega))) kw_726 kw_723 kw_725 (tw_sel (q := (my_M_make, 9)) (by decide +kernel)) kw_8 rfl (by unfold kd_; decide) ⟨rfl, rfl, by decide, by decide⟩ rfl rfl (Nat.le_of_ble_eq_true rfl) ⟨Nat.zero_le _, Nat.zero_le _⟩ dc_M_change_135) ?_
        refine aw_iinc C dc_M_change_138 rfl (ni_inc _) (by decide) rfl ?_
        refine aw_goto C dc_M_change_141 (tgt := 67) (by decide) ?_
        refine aw_sub (lw' := [some (.ref a), some (.int (nI i)), some (.int (nI 0)), some (.int (nI f9)), some (.int (nI e9)), some (.int (nI (2 ^ (11 - e9)))), some (.int (nI (k + 1))), none]) (by
          intro k v h
          match k, h with
          | 0, h => exact h
          | 1, h => exact h
          | 2, h => exact h
          | 3, h => exact h
          | 4, h => exact h
          | 5, h => exact h
          | 6, h => exact h
          | 7, h => exact nomatch (show (some none : Option (Option Value)) = some (some v) from h)
          | n + 8, h => exact nomatch (show (none : Option (Option Value)) = some (some v) from h)) ?_
        exact ih
set_option maxHeartbeats 4000000 in
set_option maxRecDepth 100000 in
theorem m_change1 (l : Launch) (D : va_G) (a : Nat) (cI cL cF : ClassId) (t : Int32) (S K Qt : Nat → Int64) (O1 O2 En Ot Wt : Nat → Int32) (i : Nat) (hi : i < 10) (f9 : Nat) (hf : f9 < 10) (e9 : Nat) (he : e9 < 12) : ki_ l my_M_change (Cond.code my_M_change bc_M_change 8 (some .int) :: tw_) ({ frames := 3, cells := 0, slots := 0, locals := 68 }) D (ty_s cI cL cF) (fun _ => True) (cm_ a) [.ref a, .int (nI i), .int (nI 1), .int (nI f9), .int (nI e9)] (rp_ D a cI cL t S K Qt O1 O2 En Ot Wt) (rp_ D a cI cL (nI 0) (sl_ S i (mkl_ (fl_ K 64 0) (fun p => (fb_ (rw_ S f9)) p && !p.testBit (11 - e9)) (fun p => p) 4096) 64) (mkl_ (fl_ K 64 0) (fun p => (fb_ (rw_ S f9)) p && !p.testBit (11 - e9)) (fun p => p) 4096) Qt O1 O2 En Ot Wt) (nI (tw64_ (rw_ (sl_ S i (mkl_ (fl_ K 64 0) (fun p => (fb_ (rw_ S f9)) p && !p.testBit (11 - e9)) (fun p => p) 4096) 64) i) 64)) := by
  refine aw_met (A := cm_ a) (own := "FamilyShelfModel") (by decide) rfl rfl (Nat.le_of_ble_eq_true rfl) ?_
  intro p9 e s m args below meth c C hr hX hP0
  refine aw_lw (lw' := [some (.ref a), some (.int (nI i)), some (.int (nI 1)), some (.int (nI f9)), some (.int (nI e9)), none, none, none]) rfl ?_
  refine aw_aload_n C dc_M_change_0 rfl ?_
  refine aw_iload_n C dc_M_change_1 rfl ?_
  refine kc_i (fun _ h => h) (fun _ h => h) (kc_S (n := 1) C hX xk_true (m_noShelf0 l D _ _ _ _ i hi) kw_677 kw_675 kw_676 kw_8 (by unfold kd_; decide) ⟨rfl, rfl, by decide, by decide⟩ rfl rfl (Nat.le_of_ble_eq_true rfl) ⟨Nat.zero_le _, Nat.zero_le _⟩ dc_M_change_2) ?_
  refine aw_if_ne C dc_M_change_5 (tgt := 23) (by decide) (fun h9 => absurd (by decide) h9) (fun _ => ?_)
  refine aw_iload_n C dc_M_change_8 rfl ?_
  refine kc_i (fun _ h => h) (fun _ h => h) (kc_S (n := 1) C hX xk_true (m_noShelf0 l D _ _ _ _ f9 hf) kw_677 kw_675 kw_676 kw_8 (by unfold kd_; decide) ⟨rfl, rfl, by decide, by decide⟩ rfl rfl (Nat.le_of_ble_eq_true rfl) ⟨Nat.zero_le _, Nat.zero_le _⟩ dc_M_change_9) ?_
  refine aw_if_ne C dc_M_change_12 (tgt := 23) (by decide) (fun h9 => absurd (by decide) h9) (fun _ => ?_)
  refine aw_iload C dc_M_change_15 rfl ?_
  refine kc_i (fun _ h => h) (fun _ h => h) (kc_S (n := 1) C hX xk_true (m_noElement0 l D _ _ _ _ e9 he) kw_749 kw_747 kw_748 kw_8 (by unfold kd_; decide) ⟨rfl, rfl, by decide, by decide⟩ rfl rfl (Nat.le_of_ble_eq_true rfl) ⟨Nat.zero_le _, Nat.zero_le _⟩ dc_M_change_17) ?_
  refine aw_if_eq C dc_M_change_20 (tgt := 27) (by decide) (fun _ => ?_) (fun h9 => absurd (by decide) h9)
  refine aw_iload_n C dc_M_change_27 rfl ?_
  refine aw_if_lt C dc_M_change_28 (tgt := 36) (by decide) (fun h9 => absurd h9 (by decide)) (fun _ => ?_)
  refine aw_iload_n C dc_M_change_31 rfl ?_
  refine aw_iconst C dc_M_change_32 (v := nI 2) rfl ?_
  refine aw_icmp_le C dc_M_change_33 (tgt := 40) (by decide) (fun _ => ?_) (fun h9 => absurd (by decide) h9)
  refine aw_iconst C dc_M_change_40 (v := nI 0) rfl ?_
  refine aw_put C rf_D (fun w h => List.mem_cons_of_mem _ (ly_M w h)) ty_M ty_M_ok nm_M 0 rf_p0 rfl 0 (by decide) (C.1.2.2.2.2 _ (List.mem_cons_of_mem _ kw_636)) (fun _ h => h) rfl (ty := .int) (by decide +kernel) rfl rfl (Nat.le_of_ble_eq_true rfl) (ws' := rf_ a cI cL (nI 0) S K Qt O1 O2 En Ot Wt) rfl dc_M_change_41 ?_
  refine aw_aload_n C dc_M_change_44 rfl ?_
  refine aw_get C (fun w h => List.mem_cons_of_mem _ (ly_M w h)) 0 rf_p0 rfl 0 (by decide) (C.1.2.2.2.2 _ (List.mem_cons_of_mem _ kw_636)) (fun _ h => h) rfl dc_M_change_45 ?_
  refine aw_if_eq C dc_M_change_48 (tgt := 53) (by decide) (fun _ => ?_) (fun h9 => absurd (by decide) h9)
  refine aw_aload_n C dc_M_change_53 rfl ?_
  refine kc_v (fun _ h => h) (fun _ h => h) (kc_V (n := 0) C hX xk_true rfl 0 rf_p0 rfl (m_begin l D a cI cL cF (nI 0) S K Qt O1 O2 En Ot Wt) kw_708 kw_705 kw_707 (tw_sel (q := (my_M_begin, 9)) (by decide +kernel)) kw_8 rfl (by unfold kd_; decide) ⟨rfl, rfl, by decide, by decide⟩ rfl rfl (Nat.le_of_ble_eq_true rfl) ⟨Nat.zero_le _, Nat.zero_le _⟩ dc_M_change_54) ?_
  refine aw_iload C dc_M_change_57 rfl ?_
  refine kc_i (fun _ h => h) (fun _ h => h) (kc_S (n := 1) C hX xk_true (m_bitOf l D _ _ _ _ e9 he) kw_752 kw_750 kw_751 kw_8 (by unfold kd_; decide) ⟨rfl, rfl, by decide, by decide⟩ rfl rfl (Nat.le_of_ble_eq_true rfl) ⟨Nat.zero_le _, Nat.zero_le _⟩ dc_M_change_59) ?_
  refine aw_istore C dc_M_change_62 (by decide) rfl ?_
  refine aw_iconst C dc_M_change_64 (v := nI 0) rfl ?_
  refine aw_istore C dc_M_change_65 (by decide) rfl ?_
  refine aw_loop (fun k => rp_ D a cI cL (nI 0) S (mkl_ (fl_ K 64 0) (fun p => (fb_ (rw_ S f9)) p && !p.testBit (11 - e9)) (fun p => p) k) Qt O1 O2 En Ot Wt) (fun k => [some (.ref a), some (.int (nI i)), some (.int (nI 1)), some (.int (nI f9)), some (.int (nI e9)), some (.int (nI (2 ^ (11 - e9)))), some (.int (nI k)), none]) 4096 ?_ (fun k hk ih => ?_)
  · refine aw_iload C dc_M_change_67 rfl ?_
    refine aw_sipush C dc_M_change_69 (v := nI 4096) rfl ?_
    refine aw_icmp_ge C dc_M_change_72 (tgt := 144) (by decide) (fun _ => ?_) (fun h9 => absurd (nI_le (Nat.le_refl _) (by decide)) h9)
    refine aw_aload_n C dc_M_change_144 rfl ?_
    refine aw_iload_n C dc_M_change_145 rfl ?_
    refine kc_i (fun _ h => h) (fun _ h => h) (kc_V (n := 1) C hX xk_true rfl 0 rf_p0 rfl (m_lay l D a cI cL cF (nI 0) S (mkl_ (fl_ K 64 0) (fun p => (fb_ (rw_ S f9)) p && !p.testBit (11 - e9)) (fun p => p) 4096) Qt O1 O2 En Ot Wt i hi) kw_742 kw_739 kw_741 (tw_sel (q := (my_M_lay, 9)) (by decide +kernel)) kw_8 rfl (by unfold kd_; decide) ⟨rfl, rfl, by decide, by decide⟩ rfl rfl (Nat.le_of_ble_eq_true rfl) ⟨Nat.zero_le _, Nat.zero_le _⟩ dc_M_change_146) ?_
    exact kc_iret C hr rfl (fun _ h => h) dc_M_change_149
  · refine aw_iload C dc_M_change_67 rfl ?_
    refine aw_sipush C dc_M_change_69 (v := nI 4096) rfl ?_
    refine aw_icmp_ge C dc_M_change_72 (tgt := 144) (by decide) (fun h9 => absurd h9 (nI_ge hk (by decide))) (fun _ => ?_)
    refine aw_iload C dc_M_change_75 rfl ?_
    refine aw_iload C dc_M_change_77 rfl ?_
    refine aw_iand C dc_M_change_79 ?_
    refine aw_if_eq C dc_M_change_80 (tgt := 87) (by decide) (fun hB80 => ?_) (fun hB80 => ?_)
    · have ht : k.testBit (11 - e9) = false := (ms_and hk (by omega)).mp hB80
      refine aw_iconst C dc_M_change_87 (v := nI 0) rfl ?_
      refine aw_istore C dc_M_change_88 (by decide) rfl ?_
      refine aw_aload_n C dc_M_change_90 rfl ?_
      refine aw_iload_n C dc_M_change_91 rfl ?_
      refine aw_iload C dc_M_change_92 rfl ?_
      refine kc_i (fun _ h => h) (fun _ h => h) (kc_V (n := 2) C hX xk_true rfl 0 rf_p0 rfl (m_isIn l D a cI cL cF (nI 0) S (mkl_ (fl_ K 64 0) (fun p => (fb_ (rw_ S f9)) p && !p.testBit (11 - e9)) (fun p => p) k) Qt O1 O2 En Ot Wt f9 hf k hk) kw_684 kw_681 kw_683 (tw_sel (q := (my_M_isIn, 9)) (by decide +kernel)) kw_8 rfl (by unfold kd_; decide) ⟨rfl, rfl, by decide, by decide⟩ rfl rfl (Nat.le_of_ble_eq_true rfl) ⟨Nat.zero_le _, Nat.zero_le _⟩ dc_M_change_94) ?_
      refine aw_if_eq C dc_M_change_97 (tgt := 138) (by decide) (fun hB97 => ?_) (fun hB97 => ?_)
      · rw [mkl_f (n := k) (f := (fun p => (fb_ (rw_ S f9)) p && !p.testBit (11 - e9))) (by show (_ && !_) = false; rw [z1_0.mp hB97]; rfl)] at ih
        refine aw_iinc C dc_M_change_138 rfl (ni_inc _) (by decide) rfl ?_
        refine aw_goto C dc_M_change_141 (tgt := 67) (by decide) ?_
        refine aw_sub (lw' := [some (.ref a), some (.int (nI i)), some (.int (nI 1)), some (.int (nI f9)), some (.int (nI e9)), some (.int (nI (2 ^ (11 - e9)))), some (.int (nI (k + 1))), none]) (by
          intro k v h
          match k, h with
          | 0, h => exact h
          | 1, h => exact h
          | 2, h => exact h
          | 3, h => exact h
          | 4, h => exact h
          | 5, h => exact h
          | 6, h => exact h
          | 7, h => exact nomatch (show (some none : Option (Option Value)) = some (some v) from h)
          | n + 8, h => exact nomatch (show (none : Option (Option Value)) = some (some v) from h)) ?_
        exact ih
      · rw [mkl_t (n := k) (f := (fun p => (fb_ (rw_ S f9)) p && !p.testBit (11 - e9))) (by show (_ && !_) = true; rw [z1_n.mp hB97, ht]; rfl)] at ih
        refine aw_iload_n C dc_M_change_100 rfl ?_
        refine aw_iconst C dc_M_change_101 (v := nI 2) rfl ?_
        refine aw_icmp_eq C dc_M_change_102 (tgt := 119) (by decide) (fun h9 => absurd h9 (by decide)) (fun _ => ?_)
        refine aw_iload C dc_M_change_105 rfl ?_
        refine aw_iload_n C dc_M_change_107 rfl ?_
        refine aw_if_ne C dc_M_change_108 (tgt := 115) (by decide) (fun _ => ?_) (fun h9 => absurd h9 (by decide))
        refine aw_iconst C dc_M_change_115 (v := nI 0) rfl ?_
        refine aw_icmp_ne C dc_M_change_116 (tgt := 138) (by decide) (fun h9 => absurd (by decide) h9) (fun _ => ?_)
        refine aw_aload_n C dc_M_change_119 rfl ?_
        refine aw_iload_n C dc_M_change_120 rfl ?_
        refine aw_iconst C dc_M_change_121 (v := nI 1) rfl ?_
        refine aw_icmp_ne C dc_M_change_122 (tgt := 130) (by decide) (fun h9 => absurd (by decide) h9) (fun _ => ?_)
        refine aw_iload C dc_M_change_125 rfl ?_
        refine aw_goto C dc_M_change_127 (tgt := 135) (by decide) ?_
        refine kc_v (fun _ h => h) (fun _ h => h) (kc_V (n := 1) C hX xk_true rfl 0 rf_p0 rfl (m_make l D a cI cL cF (nI 0) S (mkl_ (fl_ K 64 0) (fun p => (fb_ (rw_ S f9)) p && !p.testBit (11 - e9)) (fun p => p) k) Qt O1 O2 En Ot Wt k hk) kw_726 kw_723 kw_725 (tw_sel (q := (my_M_make, 9)) (by decide +kernel)) kw_8 rfl (by unfold kd_; decide) ⟨rfl, rfl, by decide, by decide⟩ rfl rfl (Nat.le_of_ble_eq_true rfl) ⟨Nat.zero_le _, Nat.zero_le _⟩ dc_M_change_135) ?_
        refine aw_iinc C dc_M_change_138 rfl (ni_inc _) (by decide) rfl ?_
        refine aw_goto C dc_M_change_141 (tgt := 67) (by decide) ?_
        refine aw_sub (lw' := [some (.ref a), some (.int (nI i)), some (.int (nI 1)), some (.int (nI f9)), some (.int (nI e9)), some (.int (nI (2 ^ (11 - e9)))), some (.int (nI (k + 1))), none]) (by
          intro k v h
          match k, h with
          | 0, h => exact h
          | 1, h => exact h
          | 2, h => exact h
          | 3, h => exact h
          | 4, h => exact h
          | 5, h => exact h
          | 6, h => exact h
          | 7, h => exact nomatch (show (some none : Option (Option Value)) = some (some v) from h)
          | n + 8, h => exact nomatch (show (none : Option (Option Value)) = some (some v) from h)) ?_
        exact ih
    · have ht : k.testBit (11 - e9) = true := by
        cases h9 : k.testBit (11 - e9)
        · exact absurd ((ms_and hk (by omega)).mpr h9) hB80
        · rfl
      refine aw_iconst C dc_M_change_83 (v := nI 1) rfl ?_
      refine aw_goto C dc_M_change_84 (tgt := 88) (by decide) ?_
      refine aw_istore C dc_M_change_88 (by decide) rfl ?_
      refine aw_aload_n C dc_M_change_90 rfl ?_
      refine aw_iload_n C dc_M_change_91 rfl ?_
      refine aw_iload C dc_M_change_92 rfl ?_
      refine kc_i (fun _ h => h) (fun _ h => h) (kc_V (n := 2) C hX xk_true rfl 0 rf_p0 rfl (m_isIn l D a cI cL cF (nI 0) S (mkl_ (fl_ K 64 0) (fun p => (fb_ (rw_ S f9)) p && !p.testBit (11 - e9)) (fun p => p) k) Qt O1 O2 En Ot Wt f9 hf k hk) kw_684 kw_681 kw_683 (tw_sel (q := (my_M_isIn, 9)) (by decide +kernel)) kw_8 rfl (by unfold kd_; decide) ⟨rfl, rfl, by decide, by decide⟩ rfl rfl (Nat.le_of_ble_eq_true rfl) ⟨Nat.zero_le _, Nat.zero_le _⟩ dc_M_change_94) ?_
      refine aw_if_eq C dc_M_change_97 (tgt := 138) (by decide) (fun hB97 => ?_) (fun hB97 => ?_)
      · rw [mkl_f (n := k) (f := (fun p => (fb_ (rw_ S f9)) p && !p.testBit (11 - e9))) (by show (_ && !_) = false; rw [z1_0.mp hB97]; rfl)] at ih
        refine aw_iinc C dc_M_change_138 rfl (ni_inc _) (by decide) rfl ?_
        refine aw_goto C dc_M_change_141 (tgt := 67) (by decide) ?_
        refine aw_sub (lw' := [some (.ref a), some (.int (nI i)), some (.int (nI 1)), some (.int (nI f9)), some (.int (nI e9)), some (.int (nI (2 ^ (11 - e9)))), some (.int (nI (k + 1))), none]) (by
          intro k v h
          match k, h with
          | 0, h => exact h
          | 1, h => exact h
          | 2, h => exact h
          | 3, h => exact h
          | 4, h => exact h
          | 5, h => exact h
          | 6, h => exact h
          | 7, h => exact nomatch (show (some none : Option (Option Value)) = some (some v) from h)
          | n + 8, h => exact nomatch (show (none : Option (Option Value)) = some (some v) from h)) ?_
        exact ih
      · rw [mkl_f (n := k) (f := (fun p => (fb_ (rw_ S f9)) p && !p.testBit (11 - e9))) (by show (_ && !_) = false; rw [ht]; exact Bool.and_false _)] at ih
        refine aw_iload_n C dc_M_change_100 rfl ?_
        refine aw_iconst C dc_M_change_101 (v := nI 2) rfl ?_
        refine aw_icmp_eq C dc_M_change_102 (tgt := 119) (by decide) (fun h9 => absurd h9 (by decide)) (fun _ => ?_)
        refine aw_iload C dc_M_change_105 rfl ?_
        refine aw_iload_n C dc_M_change_107 rfl ?_
        refine aw_if_ne C dc_M_change_108 (tgt := 115) (by decide) (fun _ => ?_) (fun h9 => absurd h9 (by decide))
        refine aw_iconst C dc_M_change_115 (v := nI 0) rfl ?_
        refine aw_icmp_ne C dc_M_change_116 (tgt := 138) (by decide) (fun _ => ?_) (fun h9 => absurd h9 (by decide))
        refine aw_iinc C dc_M_change_138 rfl (ni_inc _) (by decide) rfl ?_
        refine aw_goto C dc_M_change_141 (tgt := 67) (by decide) ?_
        refine aw_sub (lw' := [some (.ref a), some (.int (nI i)), some (.int (nI 1)), some (.int (nI f9)), some (.int (nI e9)), some (.int (nI (2 ^ (11 - e9)))), some (.int (nI (k + 1))), none]) (by
          intro k v h
          match k, h with
          | 0, h => exact h
          | 1, h => exact h
          | 2, h => exact h
          | 3, h => exact h
          | 4, h => exact h
          | 5, h => exact h
          | 6, h => exact h
          | 7, h => exact nomatch (show (some none : Option (Option Value)) = some (some v) from h)
          | n + 8, h => exact nomatch (show (none : Option (Option Value)) = some (some v) from h)) ?_
        exact ih
set_option maxHeartbeats 4000000 in
set_option maxRecDepth 100000 in
theorem m_change2 (l : Launch) (D : va_G) (a : Nat) (cI cL cF : ClassId) (t : Int32) (S K Qt : Nat → Int64) (O1 O2 En Ot Wt : Nat → Int32) (i : Nat) (hi : i < 10) (f9 : Nat) (hf : f9 < 10) (e9 : Nat) (he : e9 < 12) : ki_ l my_M_change (Cond.code my_M_change bc_M_change 8 (some .int) :: tw_) ({ frames := 3, cells := 0, slots := 0, locals := 68 }) D (ty_s cI cL cF) (fun _ => True) (cm_ a) [.ref a, .int (nI i), .int (nI 2), .int (nI f9), .int (nI e9)] (rp_ D a cI cL t S K Qt O1 O2 En Ot Wt) (rp_ D a cI cL (nI 0) (sl_ S i (mkl_ (fl_ K 64 0) (fun p => (fb_ (rw_ S f9)) p) (fun p => p ^^^ 2 ^ (11 - e9)) 4096) 64) (mkl_ (fl_ K 64 0) (fun p => (fb_ (rw_ S f9)) p) (fun p => p ^^^ 2 ^ (11 - e9)) 4096) Qt O1 O2 En Ot Wt) (nI (tw64_ (rw_ (sl_ S i (mkl_ (fl_ K 64 0) (fun p => (fb_ (rw_ S f9)) p) (fun p => p ^^^ 2 ^ (11 - e9)) 4096) 64) i) 64)) := by
  refine aw_met (A := cm_ a) (own := "FamilyShelfModel") (by decide) rfl rfl (Nat.le_of_ble_eq_true rfl) ?_
  intro p9 e s m args below meth c C hr hX hP0
  refine aw_lw (lw' := [some (.ref a), some (.int (nI i)), some (.int (nI 2)), some (.int (nI f9)), some (.int (nI e9)), none, none, none]) rfl ?_
  refine aw_aload_n C dc_M_change_0 rfl ?_
  refine aw_iload_n C dc_M_change_1 rfl ?_
  refine kc_i (fun _ h => h) (fun _ h => h) (kc_S (n := 1) C hX xk_true (m_noShelf0 l D _ _ _ _ i hi) kw_677 kw_675 kw_676 kw_8 (by unfold kd_; decide) ⟨rfl, rfl, by decide, by decide⟩ rfl rfl (Nat.le_of_ble_eq_true rfl) ⟨Nat.zero_le _, Nat.zero_le _⟩ dc_M_change_2) ?_
  refine aw_if_ne C dc_M_change_5 (tgt := 23) (by decide) (fun h9 => absurd (by decide) h9) (fun _ => ?_)
  refine aw_iload_n C dc_M_change_8 rfl ?_
  refine kc_i (fun _ h => h) (fun _ h => h) (kc_S (n := 1) C hX xk_true (m_noShelf0 l D _ _ _ _ f9 hf) kw_677 kw_675 kw_676 kw_8 (by unfold kd_; decide) ⟨rfl, rfl, by decide, by decide⟩ rfl rfl (Nat.le_of_ble_eq_true rfl) ⟨Nat.zero_le _, Nat.zero_le _⟩ dc_M_change_9) ?_
  refine aw_if_ne C dc_M_change_12 (tgt := 23) (by decide) (fun h9 => absurd (by decide) h9) (fun _ => ?_)
  refine aw_iload C dc_M_change_15 rfl ?_
  refine kc_i (fun _ h => h) (fun _ h => h) (kc_S (n := 1) C hX xk_true (m_noElement0 l D _ _ _ _ e9 he) kw_749 kw_747 kw_748 kw_8 (by unfold kd_; decide) ⟨rfl, rfl, by decide, by decide⟩ rfl rfl (Nat.le_of_ble_eq_true rfl) ⟨Nat.zero_le _, Nat.zero_le _⟩ dc_M_change_17) ?_
  refine aw_if_eq C dc_M_change_20 (tgt := 27) (by decide) (fun _ => ?_) (fun h9 => absurd (by decide) h9)
  refine aw_iload_n C dc_M_change_27 rfl ?_
  refine aw_if_lt C dc_M_change_28 (tgt := 36) (by decide) (fun h9 => absurd h9 (by decide)) (fun _ => ?_)
  refine aw_iload_n C dc_M_change_31 rfl ?_
  refine aw_iconst C dc_M_change_32 (v := nI 2) rfl ?_
  refine aw_icmp_le C dc_M_change_33 (tgt := 40) (by decide) (fun _ => ?_) (fun h9 => absurd (by decide) h9)
  refine aw_iconst C dc_M_change_40 (v := nI 0) rfl ?_
  refine aw_put C rf_D (fun w h => List.mem_cons_of_mem _ (ly_M w h)) ty_M ty_M_ok nm_M 0 rf_p0 rfl 0 (by decide) (C.1.2.2.2.2 _ (List.mem_cons_of_mem _ kw_636)) (fun _ h => h) rfl (ty := .int) (by decide +kernel) rfl rfl (Nat.le_of_ble_eq_true rfl) (ws' := rf_ a cI cL (nI 0) S K Qt O1 O2 En Ot Wt) rfl dc_M_change_41 ?_
  refine aw_aload_n C dc_M_change_44 rfl ?_
  refine aw_get C (fun w h => List.mem_cons_of_mem _ (ly_M w h)) 0 rf_p0 rfl 0 (by decide) (C.1.2.2.2.2 _ (List.mem_cons_of_mem _ kw_636)) (fun _ h => h) rfl dc_M_change_45 ?_
  refine aw_if_eq C dc_M_change_48 (tgt := 53) (by decide) (fun _ => ?_) (fun h9 => absurd (by decide) h9)
  refine aw_aload_n C dc_M_change_53 rfl ?_
  refine kc_v (fun _ h => h) (fun _ h => h) (kc_V (n := 0) C hX xk_true rfl 0 rf_p0 rfl (m_begin l D a cI cL cF (nI 0) S K Qt O1 O2 En Ot Wt) kw_708 kw_705 kw_707 (tw_sel (q := (my_M_begin, 9)) (by decide +kernel)) kw_8 rfl (by unfold kd_; decide) ⟨rfl, rfl, by decide, by decide⟩ rfl rfl (Nat.le_of_ble_eq_true rfl) ⟨Nat.zero_le _, Nat.zero_le _⟩ dc_M_change_54) ?_
  refine aw_iload C dc_M_change_57 rfl ?_
  refine kc_i (fun _ h => h) (fun _ h => h) (kc_S (n := 1) C hX xk_true (m_bitOf l D _ _ _ _ e9 he) kw_752 kw_750 kw_751 kw_8 (by unfold kd_; decide) ⟨rfl, rfl, by decide, by decide⟩ rfl rfl (Nat.le_of_ble_eq_true rfl) ⟨Nat.zero_le _, Nat.zero_le _⟩ dc_M_change_59) ?_
  refine aw_istore C dc_M_change_62 (by decide) rfl ?_
  refine aw_iconst C dc_M_change_64 (v := nI 0) rfl ?_
  refine aw_istore C dc_M_change_65 (by decide) rfl ?_
  refine aw_loop (fun k => rp_ D a cI cL (nI 0) S (mkl_ (fl_ K 64 0) (fun p => (fb_ (rw_ S f9)) p) (fun p => p ^^^ 2 ^ (11 - e9)) k) Qt O1 O2 En Ot Wt) (fun k => [some (.ref a), some (.int (nI i)), some (.int (nI 2)), some (.int (nI f9)), some (.int (nI e9)), some (.int (nI (2 ^ (11 - e9)))), some (.int (nI k)), none]) 4096 ?_ (fun k hk ih => ?_)
  · refine aw_iload C dc_M_change_67 rfl ?_
    refine aw_sipush C dc_M_change_69 (v := nI 4096) rfl ?_
    refine aw_icmp_ge C dc_M_change_72 (tgt := 144) (by decide) (fun _ => ?_) (fun h9 => absurd (nI_le (Nat.le_refl _) (by decide)) h9)
    refine aw_aload_n C dc_M_change_144 rfl ?_
    refine aw_iload_n C dc_M_change_145 rfl ?_
    refine kc_i (fun _ h => h) (fun _ h => h) (kc_V (n := 1) C hX xk_true rfl 0 rf_p0 rfl (m_lay l D a cI cL cF (nI 0) S (mkl_ (fl_ K 64 0) (fun p => (fb_ (rw_ S f9)) p) (fun p => p ^^^ 2 ^ (11 - e9)) 4096) Qt O1 O2 En Ot Wt i hi) kw_742 kw_739 kw_741 (tw_sel (q := (my_M_lay, 9)) (by decide +kernel)) kw_8 rfl (by unfold kd_; decide) ⟨rfl, rfl, by decide, by decide⟩ rfl rfl (Nat.le_of_ble_eq_true rfl) ⟨Nat.zero_le _, Nat.zero_le _⟩ dc_M_change_146) ?_
    exact kc_iret C hr rfl (fun _ h => h) dc_M_change_149
  · refine aw_iload C dc_M_change_67 rfl ?_
    refine aw_sipush C dc_M_change_69 (v := nI 4096) rfl ?_
    refine aw_icmp_ge C dc_M_change_72 (tgt := 144) (by decide) (fun h9 => absurd h9 (nI_ge hk (by decide))) (fun _ => ?_)
    refine aw_iload C dc_M_change_75 rfl ?_
    refine aw_iload C dc_M_change_77 rfl ?_
    refine aw_iand C dc_M_change_79 ?_
    refine aw_if_eq C dc_M_change_80 (tgt := 87) (by decide) (fun hB80 => ?_) (fun hB80 => ?_)
    · have ht : k.testBit (11 - e9) = false := (ms_and hk (by omega)).mp hB80
      refine aw_iconst C dc_M_change_87 (v := nI 0) rfl ?_
      refine aw_istore C dc_M_change_88 (by decide) rfl ?_
      refine aw_aload_n C dc_M_change_90 rfl ?_
      refine aw_iload_n C dc_M_change_91 rfl ?_
      refine aw_iload C dc_M_change_92 rfl ?_
      refine kc_i (fun _ h => h) (fun _ h => h) (kc_V (n := 2) C hX xk_true rfl 0 rf_p0 rfl (m_isIn l D a cI cL cF (nI 0) S (mkl_ (fl_ K 64 0) (fun p => (fb_ (rw_ S f9)) p) (fun p => p ^^^ 2 ^ (11 - e9)) k) Qt O1 O2 En Ot Wt f9 hf k hk) kw_684 kw_681 kw_683 (tw_sel (q := (my_M_isIn, 9)) (by decide +kernel)) kw_8 rfl (by unfold kd_; decide) ⟨rfl, rfl, by decide, by decide⟩ rfl rfl (Nat.le_of_ble_eq_true rfl) ⟨Nat.zero_le _, Nat.zero_le _⟩ dc_M_change_94) ?_
      refine aw_if_eq C dc_M_change_97 (tgt := 138) (by decide) (fun hB97 => ?_) (fun hB97 => ?_)
      · rw [mkl_f (n := k) (f := (fun p => (fb_ (rw_ S f9)) p)) (by show _ = false; rw [z1_0.mp hB97])] at ih
        refine aw_iinc C dc_M_change_138 rfl (ni_inc _) (by decide) rfl ?_
        refine aw_goto C dc_M_change_141 (tgt := 67) (by decide) ?_
        refine aw_sub (lw' := [some (.ref a), some (.int (nI i)), some (.int (nI 2)), some (.int (nI f9)), some (.int (nI e9)), some (.int (nI (2 ^ (11 - e9)))), some (.int (nI (k + 1))), none]) (by
          intro k v h
          match k, h with
          | 0, h => exact h
          | 1, h => exact h
          | 2, h => exact h
          | 3, h => exact h
          | 4, h => exact h
          | 5, h => exact h
          | 6, h => exact h
          | 7, h => exact nomatch (show (some none : Option (Option Value)) = some (some v) from h)
          | n + 8, h => exact nomatch (show (none : Option (Option Value)) = some (some v) from h)) ?_
        exact ih
      · rw [mkl_t (n := k) (f := (fun p => (fb_ (rw_ S f9)) p)) (by show _ = true; rw [z1_n.mp hB97])] at ih
        refine aw_iload_n C dc_M_change_100 rfl ?_
        refine aw_iconst C dc_M_change_101 (v := nI 2) rfl ?_
        refine aw_icmp_eq C dc_M_change_102 (tgt := 119) (by decide) (fun _ => ?_) (fun h9 => absurd (by decide) h9)
        refine aw_aload_n C dc_M_change_119 rfl ?_
        refine aw_iload_n C dc_M_change_120 rfl ?_
        refine aw_iconst C dc_M_change_121 (v := nI 1) rfl ?_
        refine aw_icmp_ne C dc_M_change_122 (tgt := 130) (by decide) (fun _ => ?_) (fun h9 => absurd h9 (by decide))
        refine aw_iload C dc_M_change_130 rfl ?_
        refine aw_iload C dc_M_change_132 rfl ?_
        refine aw_ixor C dc_M_change_134 ?_
        refine aw_eqi (ni_xor _ _) ?_
        refine kc_v (fun _ h => h) (fun _ h => h) (kc_V (n := 1) C hX xk_true rfl 0 rf_p0 rfl (m_make l D a cI cL cF (nI 0) S (mkl_ (fl_ K 64 0) (fun p => (fb_ (rw_ S f9)) p) (fun p => p ^^^ 2 ^ (11 - e9)) k) Qt O1 O2 En Ot Wt (k ^^^ 2 ^ (11 - e9)) (ms_xor hk (by omega))) kw_726 kw_723 kw_725 (tw_sel (q := (my_M_make, 9)) (by decide +kernel)) kw_8 rfl (by unfold kd_; decide) ⟨rfl, rfl, by decide, by decide⟩ rfl rfl (Nat.le_of_ble_eq_true rfl) ⟨Nat.zero_le _, Nat.zero_le _⟩ dc_M_change_135) ?_
        refine aw_iinc C dc_M_change_138 rfl (ni_inc _) (by decide) rfl ?_
        refine aw_goto C dc_M_change_141 (tgt := 67) (by decide) ?_
        refine aw_sub (lw' := [some (.ref a), some (.int (nI i)), some (.int (nI 2)), some (.int (nI f9)), some (.int (nI e9)), some (.int (nI (2 ^ (11 - e9)))), some (.int (nI (k + 1))), none]) (by
          intro k v h
          match k, h with
          | 0, h => exact h
          | 1, h => exact h
          | 2, h => exact h
          | 3, h => exact h
          | 4, h => exact h
          | 5, h => exact h
          | 6, h => exact h
          | 7, h => exact nomatch (show (some none : Option (Option Value)) = some (some v) from h)
          | n + 8, h => exact nomatch (show (none : Option (Option Value)) = some (some v) from h)) ?_
        exact ih
    · have ht : k.testBit (11 - e9) = true := by
        cases h9 : k.testBit (11 - e9)
        · exact absurd ((ms_and hk (by omega)).mpr h9) hB80
        · rfl
      refine aw_iconst C dc_M_change_83 (v := nI 1) rfl ?_
      refine aw_goto C dc_M_change_84 (tgt := 88) (by decide) ?_
      refine aw_istore C dc_M_change_88 (by decide) rfl ?_
      refine aw_aload_n C dc_M_change_90 rfl ?_
      refine aw_iload_n C dc_M_change_91 rfl ?_
      refine aw_iload C dc_M_change_92 rfl ?_
      refine kc_i (fun _ h => h) (fun _ h => h) (kc_V (n := 2) C hX xk_true rfl 0 rf_p0 rfl (m_isIn l D a cI cL cF (nI 0) S (mkl_ (fl_ K 64 0) (fun p => (fb_ (rw_ S f9)) p) (fun p => p ^^^ 2 ^ (11 - e9)) k) Qt O1 O2 En Ot Wt f9 hf k hk) kw_684 kw_681 kw_683 (tw_sel (q := (my_M_isIn, 9)) (by decide +kernel)) kw_8 rfl (by unfold kd_; decide) ⟨rfl, rfl, by decide, by decide⟩ rfl rfl (Nat.le_of_ble_eq_true rfl) ⟨Nat.zero_le _, Nat.zero_le _⟩ dc_M_change_94) ?_
      refine aw_if_eq C dc_M_change_97 (tgt := 138) (by decide) (fun hB97 => ?_) (fun hB97 => ?_)
      · rw [mkl_f (n := k) (f := (fun p => (fb_ (rw_ S f9)) p)) (by show _ = false; rw [z1_0.mp hB97])] at ih
        refine aw_iinc C dc_M_change_138 rfl (ni_inc _) (by decide) rfl ?_
        refine aw_goto C dc_M_change_141 (tgt := 67) (by decide) ?_
        refine aw_sub (lw' := [some (.ref a), some (.int (nI i)), some (.int (nI 2)), some (.int (nI f9)), some (.int (nI e9)), some (.int (nI (2 ^ (11 - e9)))), some (.int (nI (k + 1))), none]) (by
          intro k v h
          match k, h with
          | 0, h => exact h
          | 1, h => exact h
          | 2, h => exact h
          | 3, h => exact h
          | 4, h => exact h
          | 5, h => exact h
          | 6, h => exact h
          | 7, h => exact nomatch (show (some none : Option (Option Value)) = some (some v) from h)
          | n + 8, h => exact nomatch (show (none : Option (Option Value)) = some (some v) from h)) ?_
        exact ih
      · rw [mkl_t (n := k) (f := (fun p => (fb_ (rw_ S f9)) p)) (by show _ = true; rw [z1_n.mp hB97])] at ih
        refine aw_iload_n C dc_M_change_100 rfl ?_
        refine aw_iconst C dc_M_change_101 (v := nI 2) rfl ?_
        refine aw_icmp_eq C dc_M_change_102 (tgt := 119) (by decide) (fun _ => ?_) (fun h9 => absurd (by decide) h9)
        refine aw_aload_n C dc_M_change_119 rfl ?_
        refine aw_iload_n C dc_M_change_120 rfl ?_
        refine aw_iconst C dc_M_change_121 (v := nI 1) rfl ?_
        refine aw_icmp_ne C dc_M_change_122 (tgt := 130) (by decide) (fun _ => ?_) (fun h9 => absurd h9 (by decide))
        refine aw_iload C dc_M_change_130 rfl ?_
        refine aw_iload C dc_M_change_132 rfl ?_
        refine aw_ixor C dc_M_change_134 ?_
        refine aw_eqi (ni_xor _ _) ?_
        refine kc_v (fun _ h => h) (fun _ h => h) (kc_V (n := 1) C hX xk_true rfl 0 rf_p0 rfl (m_make l D a cI cL cF (nI 0) S (mkl_ (fl_ K 64 0) (fun p => (fb_ (rw_ S f9)) p) (fun p => p ^^^ 2 ^ (11 - e9)) k) Qt O1 O2 En Ot Wt (k ^^^ 2 ^ (11 - e9)) (ms_xor hk (by omega))) kw_726 kw_723 kw_725 (tw_sel (q := (my_M_make, 9)) (by decide +kernel)) kw_8 rfl (by unfold kd_; decide) ⟨rfl, rfl, by decide, by decide⟩ rfl rfl (Nat.le_of_ble_eq_true rfl) ⟨Nat.zero_le _, Nat.zero_le _⟩ dc_M_change_135) ?_
        refine aw_iinc C dc_M_change_138 rfl (ni_inc _) (by decide) rfl ?_
        refine aw_goto C dc_M_change_141 (tgt := 67) (by decide) ?_
        refine aw_sub (lw' := [some (.ref a), some (.int (nI i)), some (.int (nI 2)), some (.int (nI f9)), some (.int (nI e9)), some (.int (nI (2 ^ (11 - e9)))), some (.int (nI (k + 1))), none]) (by
          intro k v h
          match k, h with
          | 0, h => exact h
          | 1, h => exact h
          | 2, h => exact h
          | 3, h => exact h
          | 4, h => exact h
          | 5, h => exact h
          | 6, h => exact h
          | 7, h => exact nomatch (show (some none : Option (Option Value)) = some (some v) from h)
          | n + 8, h => exact nomatch (show (none : Option (Option Value)) = some (some v) from h)) ?_
        exact ih
set_option maxHeartbeats 4000000 in
set_option maxRecDepth 100000 in
theorem m_extreme (l : Launch) (D : va_G) (a : Nat) (cI cL cF : ClassId) (t : Int32) (S K Qt : Nat → Int64) (O1 O2 En Ot Wt : Nat → Int32) (i : Nat) (hi : i < 10) (f9 : Nat) (hf : f9 < 10) (ov : Bool) : ki_ l my_M_extreme (Cond.code my_M_extreme bc_M_extreme 5 (some .int) :: tw_) ({ frames := 3, cells := 0, slots := 0, locals := 68 }) D (ty_s cI cL cF) (fun _ => True) (cm_ a) [.ref a, .int (nI i), .int (nI f9), .int (z1_ ov)] (rp_ D a cI cL t S K Qt O1 O2 En Ot Wt) (rp_ D a cI cL (nI 0) (sl_ S i (mkl_ (fl_ K 64 0) (fun p => (fb_ (rw_ S f9)) p && decide ((zo_ (· + ·) ov (ll_ (fb_ (rw_ S f9)) O1 4096) 12) p = nI 1)) (fun p => p) 4096) 64) (mkl_ (fl_ K 64 0) (fun p => (fb_ (rw_ S f9)) p && decide ((zo_ (· + ·) ov (ll_ (fb_ (rw_ S f9)) O1 4096) 12) p = nI 1)) (fun p => p) 4096) Qt (zo_ (· + ·) ov (ll_ (fb_ (rw_ S f9)) O1 4096) 12) O2 En Ot Wt) (nI (tw64_ (rw_ (sl_ S i (mkl_ (fl_ K 64 0) (fun p => (fb_ (rw_ S f9)) p && decide ((zo_ (· + ·) ov (ll_ (fb_ (rw_ S f9)) O1 4096) 12) p = nI 1)) (fun p => p) 4096) 64) i) 64)) := by
  refine aw_met (A := cm_ a) (own := "FamilyShelfModel") (by decide) rfl rfl (Nat.le_of_ble_eq_true rfl) ?_
  intro p9 e s m args below meth c C hr hX hP0
  refine aw_lw (lw' := [some (.ref a), some (.int (nI i)), some (.int (nI f9)), some (.int (z1_ ov)), none]) rfl ?_
  refine aw_aload_n C dc_M_extreme_0 rfl ?_
  refine aw_iload_n C dc_M_extreme_1 rfl ?_
  refine kc_i (fun _ h => h) (fun _ h => h) (kc_S (n := 1) C hX xk_true (m_noShelf0 l D _ _ _ _ i hi) kw_677 kw_675 kw_676 kw_8 (by unfold kd_; decide) ⟨rfl, rfl, by decide, by decide⟩ rfl rfl (Nat.le_of_ble_eq_true rfl) ⟨Nat.zero_le _, Nat.zero_le _⟩ dc_M_extreme_2) ?_
  refine aw_if_ne C dc_M_extreme_5 (tgt := 15) (by decide) (fun h9 => absurd (by decide) h9) (fun _ => ?_)
  refine aw_iload_n C dc_M_extreme_8 rfl ?_
  refine kc_i (fun _ h => h) (fun _ h => h) (kc_S (n := 1) C hX xk_true (m_noShelf0 l D _ _ _ _ f9 hf) kw_677 kw_675 kw_676 kw_8 (by unfold kd_; decide) ⟨rfl, rfl, by decide, by decide⟩ rfl rfl (Nat.le_of_ble_eq_true rfl) ⟨Nat.zero_le _, Nat.zero_le _⟩ dc_M_extreme_9) ?_
  refine aw_if_eq C dc_M_extreme_12 (tgt := 19) (by decide) (fun _ => ?_) (fun h9 => absurd (by decide) h9)
  refine aw_iconst C dc_M_extreme_19 (v := nI 0) rfl ?_
  refine aw_put C rf_D (fun w h => List.mem_cons_of_mem _ (ly_M w h)) ty_M ty_M_ok nm_M 0 rf_p0 rfl 0 (by decide) (C.1.2.2.2.2 _ (List.mem_cons_of_mem _ kw_636)) (fun _ h => h) rfl (ty := .int) (by decide +kernel) rfl rfl (Nat.le_of_ble_eq_true rfl) (ws' := rf_ a cI cL (nI 0) S K Qt O1 O2 En Ot Wt) rfl dc_M_extreme_20 ?_
  refine aw_aload_n C dc_M_extreme_23 rfl ?_
  refine aw_get C (fun w h => List.mem_cons_of_mem _ (ly_M w h)) 0 rf_p0 rfl 0 (by decide) (C.1.2.2.2.2 _ (List.mem_cons_of_mem _ kw_636)) (fun _ h => h) rfl dc_M_extreme_24 ?_
  refine aw_if_eq C dc_M_extreme_27 (tgt := 32) (by decide) (fun _ => ?_) (fun h9 => absurd (by decide) h9)
  refine aw_aload_n C dc_M_extreme_32 rfl ?_
  refine kc_v (fun _ h => h) (fun _ h => h) (kc_V (n := 0) C hX xk_true rfl 0 rf_p0 rfl (m_begin l D a cI cL cF (nI 0) S K Qt O1 O2 En Ot Wt) kw_708 kw_705 kw_707 (tw_sel (q := (my_M_begin, 9)) (by decide +kernel)) kw_8 rfl (by unfold kd_; decide) ⟨rfl, rfl, by decide, by decide⟩ rfl rfl (Nat.le_of_ble_eq_true rfl) ⟨Nat.zero_le _, Nat.zero_le _⟩ dc_M_extreme_33) ?_
  refine aw_aload_n C dc_M_extreme_36 rfl ?_
  refine aw_aload_n C dc_M_extreme_37 rfl ?_
  refine aw_get C (fun w h => List.mem_cons_of_mem _ (ly_M w h)) 0 rf_p0 rfl 4 (by decide) (C.1.2.2.2.2 _ (List.mem_cons_of_mem _ kw_640)) (fun _ h => h) rfl dc_M_extreme_38 ?_
  refine aw_iload_n C dc_M_extreme_41 rfl ?_
  refine kc_v (fun _ h => h) (fun _ h => h) (kc_V (n := 2) C hX xk_true rfl 0 rf_p0 rfl (m_load4 l D a cI cL cF (nI 0) S (fl_ K 64 0) Qt O1 O2 En Ot Wt f9 hf) kw_716 kw_713 kw_715 (tw_sel (q := (my_M_load, 9)) (by decide +kernel)) kw_8 rfl (by unfold kd_; decide) ⟨rfl, rfl, by decide, by decide⟩ rfl rfl (Nat.le_of_ble_eq_true rfl) ⟨Nat.zero_le _, Nat.zero_le _⟩ dc_M_extreme_42) ?_
  refine aw_aload_n C dc_M_extreme_45 rfl ?_
  refine aw_get C (fun w h => List.mem_cons_of_mem _ (ly_M w h)) 0 rf_p0 rfl 4 (by decide) (C.1.2.2.2.2 _ (List.mem_cons_of_mem _ kw_640)) (fun _ h => h) rfl dc_M_extreme_46 ?_
  refine aw_iload_n C dc_M_extreme_49 rfl ?_
  refine kc_v (fun _ h => h) (fun _ h => h) (kc_S (n := 2) C hX xk_true (m_sum l D _ _ _ (rf_ a cI cL (nI 0) S (fl_ K 64 0) Qt (ll_ (fb_ (rw_ S f9)) O1 4096) O2 En Ot Wt) rf_D 4 0 (a + 4) cI (ll_ (fb_ (rw_ S f9)) O1 4096) rf_p4 rfl ov) kw_719 kw_717 kw_718 kw_8 (by unfold kd_; decide) ⟨rfl, rfl, by decide, by decide⟩ rfl rfl (Nat.le_of_ble_eq_true rfl) ⟨Nat.zero_le _, Nat.zero_le _⟩ dc_M_extreme_50) ?_
  refine aw_P (P' := rp_ D a cI cL (nI 0) S (fl_ K 64 0) Qt (zo_ (· + ·) ov (ll_ (fb_ (rw_ S f9)) O1 4096) 12) O2 En Ot Wt) (fun H h => h) ?_
  refine aw_iconst C dc_M_extreme_53 (v := nI 0) rfl ?_
  refine aw_istore C dc_M_extreme_54 (by decide) rfl ?_
  refine aw_loop (fun k => rp_ D a cI cL (nI 0) S (mkl_ (fl_ K 64 0) (fun p => (fb_ (rw_ S f9)) p && decide ((zo_ (· + ·) ov (ll_ (fb_ (rw_ S f9)) O1 4096) 12) p = nI 1)) (fun p => p) k) Qt (zo_ (· + ·) ov (ll_ (fb_ (rw_ S f9)) O1 4096) 12) O2 En Ot Wt) (fun k => [some (.ref a), some (.int (nI i)), some (.int (nI f9)), some (.int (z1_ ov)), some (.int (nI k))]) 4096 ?_ (fun k hk ih => ?_)
  · refine aw_iload C dc_M_extreme_56 rfl ?_
    refine aw_sipush C dc_M_extreme_58 (v := nI 4096) rfl ?_
    refine aw_icmp_ge C dc_M_extreme_61 (tgt := 97) (by decide) (fun _ => ?_) (fun h9 => absurd (nI_le (Nat.le_refl _) (by decide)) h9)
    refine aw_aload_n C dc_M_extreme_97 rfl ?_
    refine aw_iload_n C dc_M_extreme_98 rfl ?_
    refine kc_i (fun _ h => h) (fun _ h => h) (kc_V (n := 1) C hX xk_true rfl 0 rf_p0 rfl (m_lay l D a cI cL cF (nI 0) S (mkl_ (fl_ K 64 0) (fun p => (fb_ (rw_ S f9)) p && decide ((zo_ (· + ·) ov (ll_ (fb_ (rw_ S f9)) O1 4096) 12) p = nI 1)) (fun p => p) 4096) Qt (zo_ (· + ·) ov (ll_ (fb_ (rw_ S f9)) O1 4096) 12) O2 En Ot Wt i hi) kw_742 kw_739 kw_741 (tw_sel (q := (my_M_lay, 9)) (by decide +kernel)) kw_8 rfl (by unfold kd_; decide) ⟨rfl, rfl, by decide, by decide⟩ rfl rfl (Nat.le_of_ble_eq_true rfl) ⟨Nat.zero_le _, Nat.zero_le _⟩ dc_M_extreme_99) ?_
    exact kc_iret C hr rfl (fun _ h => h) dc_M_extreme_102
  · refine aw_iload C dc_M_extreme_56 rfl ?_
    refine aw_sipush C dc_M_extreme_58 (v := nI 4096) rfl ?_
    refine aw_icmp_ge C dc_M_extreme_61 (tgt := 97) (by decide) (fun h9 => absurd h9 (nI_ge hk (by decide))) (fun _ => ?_)
    refine aw_aload_n C dc_M_extreme_64 rfl ?_
    refine aw_iload_n C dc_M_extreme_65 rfl ?_
    refine aw_iload C dc_M_extreme_66 rfl ?_
    refine kc_i (fun _ h => h) (fun _ h => h) (kc_V (n := 2) C hX xk_true rfl 0 rf_p0 rfl (m_isIn l D a cI cL cF (nI 0) S (mkl_ (fl_ K 64 0) (fun p => (fb_ (rw_ S f9)) p && decide ((zo_ (· + ·) ov (ll_ (fb_ (rw_ S f9)) O1 4096) 12) p = nI 1)) (fun p => p) k) Qt (zo_ (· + ·) ov (ll_ (fb_ (rw_ S f9)) O1 4096) 12) O2 En Ot Wt f9 hf k hk) kw_684 kw_681 kw_683 (tw_sel (q := (my_M_isIn, 9)) (by decide +kernel)) kw_8 rfl (by unfold kd_; decide) ⟨rfl, rfl, by decide, by decide⟩ rfl rfl (Nat.le_of_ble_eq_true rfl) ⟨Nat.zero_le _, Nat.zero_le _⟩ dc_M_extreme_68) ?_
    refine aw_if_eq C dc_M_extreme_71 (tgt := 91) (by decide) (fun hB71 => ?_) (fun hB71 => ?_)
    · rw [mkl_f (n := k) (f := (fun p => (fb_ (rw_ S f9)) p && decide ((zo_ (· + ·) ov (ll_ (fb_ (rw_ S f9)) O1 4096) 12) p = nI 1))) (by show (_ && _) = false; rw [z1_0.mp hB71]; rfl)] at ih
      refine aw_iinc C dc_M_extreme_91 rfl (ni_inc _) (by decide) rfl ?_
      refine aw_goto C dc_M_extreme_94 (tgt := 56) (by decide) ?_
      exact ih
    · have hb := z1_n.mp hB71
      refine aw_aload_n C dc_M_extreme_74 rfl ?_
      refine aw_get C (fun w h => List.mem_cons_of_mem _ (ly_M w h)) 0 rf_p0 rfl 4 (by decide) (C.1.2.2.2.2 _ (List.mem_cons_of_mem _ kw_640)) (fun _ h => h) rfl dc_M_extreme_75 ?_
      refine aw_iload C dc_M_extreme_78 rfl ?_
      refine aw_iald C 4 0 rf_p4 rfl k rfl (by omega) (by decide) dc_M_extreme_80 ?_
      refine aw_iconst C dc_M_extreme_81 (v := nI 1) rfl ?_
      refine aw_icmp_ne C dc_M_extreme_82 (tgt := 91) (by decide) (fun hB82 => ?_) (fun hB82 => ?_)
      · rw [mkl_f (n := k) (f := (fun p => (fb_ (rw_ S f9)) p && decide ((zo_ (· + ·) ov (ll_ (fb_ (rw_ S f9)) O1 4096) 12) p = nI 1))) (by show (_ && _) = false; rw [hb, decide_eq_false hB82]; rfl)] at ih
        refine aw_iinc C dc_M_extreme_91 rfl (ni_inc _) (by decide) rfl ?_
        refine aw_goto C dc_M_extreme_94 (tgt := 56) (by decide) ?_
        exact ih
      · rw [mkl_t (n := k) (f := (fun p => (fb_ (rw_ S f9)) p && decide ((zo_ (· + ·) ov (ll_ (fb_ (rw_ S f9)) O1 4096) 12) p = nI 1))) (by show (_ && _) = true; rw [hb, decide_eq_true hB82]; rfl)] at ih
        refine aw_aload_n C dc_M_extreme_85 rfl ?_
        refine aw_iload C dc_M_extreme_86 rfl ?_
        refine kc_v (fun _ h => h) (fun _ h => h) (kc_V (n := 1) C hX xk_true rfl 0 rf_p0 rfl (m_make l D a cI cL cF (nI 0) S (mkl_ (fl_ K 64 0) (fun p => (fb_ (rw_ S f9)) p && decide ((zo_ (· + ·) ov (ll_ (fb_ (rw_ S f9)) O1 4096) 12) p = nI 1)) (fun p => p) k) Qt (zo_ (· + ·) ov (ll_ (fb_ (rw_ S f9)) O1 4096) 12) O2 En Ot Wt k hk) kw_726 kw_723 kw_725 (tw_sel (q := (my_M_make, 9)) (by decide +kernel)) kw_8 rfl (by unfold kd_; decide) ⟨rfl, rfl, by decide, by decide⟩ rfl rfl (Nat.le_of_ble_eq_true rfl) ⟨Nat.zero_le _, Nat.zero_le _⟩ dc_M_extreme_88) ?_
        refine aw_iinc C dc_M_extreme_91 rfl (ni_inc _) (by decide) rfl ?_
        refine aw_goto C dc_M_extreme_94 (tgt := 56) (by decide) ?_
        exact ih
set_option maxHeartbeats 4000000 in
set_option maxRecDepth 100000 in
theorem m_sized (l : Launch) (D : va_G) (a : Nat) (cI cL cF : ClassId) (t : Int32) (S K Qt : Nat → Int64) (O1 O2 En Ot Wt : Nat → Int32) (i : Nat) (hi : i < 10) (f9 : Nat) (hf : f9 < 10) (n : Nat) (hn : n ≤ 12) : ki_ l my_M_sized (Cond.code my_M_sized bc_M_sized 5 (some .int) :: tw_) ({ frames := 3, cells := 0, slots := 0, locals := 68 }) D (ty_s cI cL cF) (fun _ => True) (cm_ a) [.ref a, .int (nI i), .int (nI f9), .int (nI n)] (rp_ D a cI cL t S K Qt O1 O2 En Ot Wt) (rp_ D a cI cL (nI 0) (sl_ S i (mkl_ (fl_ K 64 0) (fun p => (fb_ (rw_ S f9)) p && decide (nI (lc_ (nI p).toInt64) = nI n)) (fun p => p) 4096) 64) (mkl_ (fl_ K 64 0) (fun p => (fb_ (rw_ S f9)) p && decide (nI (lc_ (nI p).toInt64) = nI n)) (fun p => p) 4096) Qt O1 O2 En Ot Wt) (nI (tw64_ (rw_ (sl_ S i (mkl_ (fl_ K 64 0) (fun p => (fb_ (rw_ S f9)) p && decide (nI (lc_ (nI p).toInt64) = nI n)) (fun p => p) 4096) 64) i) 64)) := by
  refine aw_met (A := cm_ a) (own := "FamilyShelfModel") (by decide) rfl rfl (Nat.le_of_ble_eq_true rfl) ?_
  intro p9 e s m args below meth c C hr hX hP0
  refine aw_lw (lw' := [some (.ref a), some (.int (nI i)), some (.int (nI f9)), some (.int (nI n)), none]) rfl ?_
  refine aw_aload_n C dc_M_sized_0 rfl ?_
  refine aw_iload_n C dc_M_sized_1 rfl ?_
  refine kc_i (fun _ h => h) (fun _ h => h) (kc_S (n := 1) C hX xk_true (m_noShelf0 l D _ _ _ _ i hi) kw_677 kw_675 kw_676 kw_8 (by unfold kd_; decide) ⟨rfl, rfl, by decide, by decide⟩ rfl rfl (Nat.le_of_ble_eq_true rfl) ⟨Nat.zero_le _, Nat.zero_le _⟩ dc_M_sized_2) ?_
  refine aw_if_ne C dc_M_sized_5 (tgt := 15) (by decide) (fun h9 => absurd (by decide) h9) (fun _ => ?_)
  refine aw_iload_n C dc_M_sized_8 rfl ?_
  refine kc_i (fun _ h => h) (fun _ h => h) (kc_S (n := 1) C hX xk_true (m_noShelf0 l D _ _ _ _ f9 hf) kw_677 kw_675 kw_676 kw_8 (by unfold kd_; decide) ⟨rfl, rfl, by decide, by decide⟩ rfl rfl (Nat.le_of_ble_eq_true rfl) ⟨Nat.zero_le _, Nat.zero_le _⟩ dc_M_sized_9) ?_
  refine aw_if_eq C dc_M_sized_12 (tgt := 19) (by decide) (fun _ => ?_) (fun h9 => absurd (by decide) h9)
  refine aw_iload_n C dc_M_sized_19 rfl ?_
  refine aw_if_lt C dc_M_sized_20 (tgt := 29) (by decide) (fun h9 => absurd h9 (nI_pos (by omega))) (fun _ => ?_)
  refine aw_iload_n C dc_M_sized_23 rfl ?_
  refine aw_bipush C dc_M_sized_24 (v := nI 12) rfl ?_
  refine aw_icmp_le C dc_M_sized_26 (tgt := 33) (by decide) (fun _ => ?_) (fun h9 => absurd (nI_le hn (by decide)) h9)
  refine aw_iconst C dc_M_sized_33 (v := nI 0) rfl ?_
  refine aw_put C rf_D (fun w h => List.mem_cons_of_mem _ (ly_M w h)) ty_M ty_M_ok nm_M 0 rf_p0 rfl 0 (by decide) (C.1.2.2.2.2 _ (List.mem_cons_of_mem _ kw_636)) (fun _ h => h) rfl (ty := .int) (by decide +kernel) rfl rfl (Nat.le_of_ble_eq_true rfl) (ws' := rf_ a cI cL (nI 0) S K Qt O1 O2 En Ot Wt) rfl dc_M_sized_34 ?_
  refine aw_aload_n C dc_M_sized_37 rfl ?_
  refine aw_get C (fun w h => List.mem_cons_of_mem _ (ly_M w h)) 0 rf_p0 rfl 0 (by decide) (C.1.2.2.2.2 _ (List.mem_cons_of_mem _ kw_636)) (fun _ h => h) rfl dc_M_sized_38 ?_
  refine aw_if_eq C dc_M_sized_41 (tgt := 46) (by decide) (fun _ => ?_) (fun h9 => absurd (by decide) h9)
  refine aw_aload_n C dc_M_sized_46 rfl ?_
  refine kc_v (fun _ h => h) (fun _ h => h) (kc_V (n := 0) C hX xk_true rfl 0 rf_p0 rfl (m_begin l D a cI cL cF (nI 0) S K Qt O1 O2 En Ot Wt) kw_708 kw_705 kw_707 (tw_sel (q := (my_M_begin, 9)) (by decide +kernel)) kw_8 rfl (by unfold kd_; decide) ⟨rfl, rfl, by decide, by decide⟩ rfl rfl (Nat.le_of_ble_eq_true rfl) ⟨Nat.zero_le _, Nat.zero_le _⟩ dc_M_sized_47) ?_
  refine aw_iconst C dc_M_sized_50 (v := nI 0) rfl ?_
  refine aw_istore C dc_M_sized_51 (by decide) rfl ?_
  refine aw_loop (fun k => rp_ D a cI cL (nI 0) S (mkl_ (fl_ K 64 0) (fun p => (fb_ (rw_ S f9)) p && decide (nI (lc_ (nI p).toInt64) = nI n)) (fun p => p) k) Qt O1 O2 En Ot Wt) (fun k => [some (.ref a), some (.int (nI i)), some (.int (nI f9)), some (.int (nI n)), some (.int (nI k))]) 4096 ?_ (fun k hk ih => ?_)
  · refine aw_iload C dc_M_sized_53 rfl ?_
    refine aw_sipush C dc_M_sized_55 (v := nI 4096) rfl ?_
    refine aw_icmp_ge C dc_M_sized_58 (tgt := 93) (by decide) (fun _ => ?_) (fun h9 => absurd (nI_le (Nat.le_refl _) (by decide)) h9)
    refine aw_aload_n C dc_M_sized_93 rfl ?_
    refine aw_iload_n C dc_M_sized_94 rfl ?_
    refine kc_i (fun _ h => h) (fun _ h => h) (kc_V (n := 1) C hX xk_true rfl 0 rf_p0 rfl (m_lay l D a cI cL cF (nI 0) S (mkl_ (fl_ K 64 0) (fun p => (fb_ (rw_ S f9)) p && decide (nI (lc_ (nI p).toInt64) = nI n)) (fun p => p) 4096) Qt O1 O2 En Ot Wt i hi) kw_742 kw_739 kw_741 (tw_sel (q := (my_M_lay, 9)) (by decide +kernel)) kw_8 rfl (by unfold kd_; decide) ⟨rfl, rfl, by decide, by decide⟩ rfl rfl (Nat.le_of_ble_eq_true rfl) ⟨Nat.zero_le _, Nat.zero_le _⟩ dc_M_sized_95) ?_
    exact kc_iret C hr rfl (fun _ h => h) dc_M_sized_98
  · refine aw_iload C dc_M_sized_53 rfl ?_
    refine aw_sipush C dc_M_sized_55 (v := nI 4096) rfl ?_
    refine aw_icmp_ge C dc_M_sized_58 (tgt := 93) (by decide) (fun h9 => absurd h9 (nI_ge hk (by decide))) (fun _ => ?_)
    refine aw_aload_n C dc_M_sized_61 rfl ?_
    refine aw_iload_n C dc_M_sized_62 rfl ?_
    refine aw_iload C dc_M_sized_63 rfl ?_
    refine kc_i (fun _ h => h) (fun _ h => h) (kc_V (n := 2) C hX xk_true rfl 0 rf_p0 rfl (m_isIn l D a cI cL cF (nI 0) S (mkl_ (fl_ K 64 0) (fun p => (fb_ (rw_ S f9)) p && decide (nI (lc_ (nI p).toInt64) = nI n)) (fun p => p) k) Qt O1 O2 En Ot Wt f9 hf k hk) kw_684 kw_681 kw_683 (tw_sel (q := (my_M_isIn, 9)) (by decide +kernel)) kw_8 rfl (by unfold kd_; decide) ⟨rfl, rfl, by decide, by decide⟩ rfl rfl (Nat.le_of_ble_eq_true rfl) ⟨Nat.zero_le _, Nat.zero_le _⟩ dc_M_sized_65) ?_
    refine aw_if_eq C dc_M_sized_68 (tgt := 87) (by decide) (fun hB68 => ?_) (fun hB68 => ?_)
    · rw [mkl_f (n := k) (f := (fun p => (fb_ (rw_ S f9)) p && decide (nI (lc_ (nI p).toInt64) = nI n))) (by show (_ && _) = false; rw [z1_0.mp hB68]; rfl)] at ih
      refine aw_iinc C dc_M_sized_87 rfl (ni_inc _) (by decide) rfl ?_
      refine aw_goto C dc_M_sized_90 (tgt := 53) (by decide) ?_
      exact ih
    · have hb := z1_n.mp hB68
      refine aw_iload C dc_M_sized_71 rfl ?_
      refine aw_i2l C dc_M_sized_73 ?_
      refine kc_i (fun _ h => h) (fun _ h => h) (kc_S (n := 1) C hX xk_true (m_ones l D _ _ _ _ _) kw_700 kw_698 kw_699 kw_8 (by unfold kd_; decide) ⟨rfl, rfl, by decide, by decide⟩ rfl rfl (Nat.le_of_ble_eq_true rfl) ⟨Nat.zero_le _, Nat.zero_le _⟩ dc_M_sized_74) ?_
      refine aw_iload_n C dc_M_sized_77 rfl ?_
      refine aw_icmp_ne C dc_M_sized_78 (tgt := 87) (by decide) (fun hB78 => ?_) (fun hB78 => ?_)
      · rw [mkl_f (n := k) (f := (fun p => (fb_ (rw_ S f9)) p && decide (nI (lc_ (nI p).toInt64) = nI n))) (by show (_ && _) = false; rw [hb, decide_eq_false hB78]; rfl)] at ih
        refine aw_iinc C dc_M_sized_87 rfl (ni_inc _) (by decide) rfl ?_
        refine aw_goto C dc_M_sized_90 (tgt := 53) (by decide) ?_
        exact ih
      · rw [mkl_t (n := k) (f := (fun p => (fb_ (rw_ S f9)) p && decide (nI (lc_ (nI p).toInt64) = nI n))) (by show (_ && _) = true; rw [hb, decide_eq_true hB78]; rfl)] at ih
        refine aw_aload_n C dc_M_sized_81 rfl ?_
        refine aw_iload C dc_M_sized_82 rfl ?_
        refine kc_v (fun _ h => h) (fun _ h => h) (kc_V (n := 1) C hX xk_true rfl 0 rf_p0 rfl (m_make l D a cI cL cF (nI 0) S (mkl_ (fl_ K 64 0) (fun p => (fb_ (rw_ S f9)) p && decide (nI (lc_ (nI p).toInt64) = nI n)) (fun p => p) k) Qt O1 O2 En Ot Wt k hk) kw_726 kw_723 kw_725 (tw_sel (q := (my_M_make, 9)) (by decide +kernel)) kw_8 rfl (by unfold kd_; decide) ⟨rfl, rfl, by decide, by decide⟩ rfl rfl (Nat.le_of_ble_eq_true rfl) ⟨Nat.zero_le _, Nat.zero_le _⟩ dc_M_sized_84) ?_
        refine aw_iinc C dc_M_sized_87 rfl (ni_inc _) (by decide) rfl ?_
        refine aw_goto C dc_M_sized_90 (tgt := 53) (by decide) ?_
        exact ih
set_option maxHeartbeats 4000000 in
set_option maxRecDepth 100000 in
theorem m_edge (l : Launch) (D : va_G) (a : Nat) (cI cL cF : ClassId) (t : Int32) (S K Qt : Nat → Int64) (O1 O2 En Ot Wt : Nat → Int32) (e9 : Nat) (he : e9 < 12) (u : Nat) (hu : u < 7) (v : Nat) (hv : v < 7) (huv : ¬ u = v) : kv_ l my_M_edge (Cond.code my_M_edge bc_M_edge 4 none :: tw_) ({ frames := 1, cells := 0, slots := 0, locals := 20 }) D (ty_s cI cL cF) (fun _ => True) (cm_ a) [.ref a, .int (nI e9), .int (nI u), .int (nI v)] (rp_ D a cI cL t S K Qt O1 O2 En Ot Wt) (rp_ D a cI cL (nI 0) S K Qt O1 O2 (upd En e9 (nI u)) (upd Ot e9 (nI v)) Wt) := by
  refine aw_met (A := cm_ a) (own := "FamilyShelfModel") (by decide) rfl rfl (Nat.le_of_ble_eq_true rfl) ?_
  intro p9 e s m args below meth c C hr hX hP0
  refine aw_lw (lw' := [some (.ref a), some (.int (nI e9)), some (.int (nI u)), some (.int (nI v))]) rfl ?_
  refine aw_aload_n C dc_M_edge_0 rfl ?_
  refine aw_iload_n C dc_M_edge_1 rfl ?_
  refine kc_i (fun _ h => h) (fun _ h => h) (kc_S (n := 1) C hX xk_true (m_noElement0 l D _ _ _ _ e9 he) kw_749 kw_747 kw_748 kw_8 (by unfold kd_; decide) ⟨rfl, rfl, by decide, by decide⟩ rfl rfl (Nat.le_of_ble_eq_true rfl) ⟨Nat.zero_le _, Nat.zero_le _⟩ dc_M_edge_2) ?_
  refine aw_if_ne C dc_M_edge_5 (tgt := 22) (by decide) (fun h9 => absurd (by decide) h9) (fun _ => ?_)
  refine aw_iload_n C dc_M_edge_8 rfl ?_
  refine kc_i (fun _ h => h) (fun _ h => h) (kc_S (n := 1) C hX xk_true (m_noVertex0 l D _ _ _ _ u hu) kw_767 kw_765 kw_766 kw_8 (by unfold kd_; decide) ⟨rfl, rfl, by decide, by decide⟩ rfl rfl (Nat.le_of_ble_eq_true rfl) ⟨Nat.zero_le _, Nat.zero_le _⟩ dc_M_edge_9) ?_
  refine aw_if_ne C dc_M_edge_12 (tgt := 22) (by decide) (fun h9 => absurd (by decide) h9) (fun _ => ?_)
  refine aw_iload_n C dc_M_edge_15 rfl ?_
  refine kc_i (fun _ h => h) (fun _ h => h) (kc_S (n := 1) C hX xk_true (m_noVertex0 l D _ _ _ _ v hv) kw_767 kw_765 kw_766 kw_8 (by unfold kd_; decide) ⟨rfl, rfl, by decide, by decide⟩ rfl rfl (Nat.le_of_ble_eq_true rfl) ⟨Nat.zero_le _, Nat.zero_le _⟩ dc_M_edge_16) ?_
  refine aw_if_eq C dc_M_edge_19 (tgt := 26) (by decide) (fun _ => ?_) (fun h9 => absurd (by decide) h9)
  refine aw_iload_n C dc_M_edge_26 rfl ?_
  refine aw_iload_n C dc_M_edge_27 rfl ?_
  refine aw_icmp_ne C dc_M_edge_28 (tgt := 35) (by decide) (fun _ => ?_) (fun h9 => absurd h9 (fun h9 => huv ((nI_eq (by omega) (by omega)).mp h9)))
  refine aw_iconst C dc_M_edge_35 (v := nI 0) rfl ?_
  refine aw_put C rf_D (fun w h => List.mem_cons_of_mem _ (ly_M w h)) ty_M ty_M_ok nm_M 0 rf_p0 rfl 0 (by decide) (C.1.2.2.2.2 _ (List.mem_cons_of_mem _ kw_636)) (fun _ h => h) rfl (ty := .int) (by decide +kernel) rfl rfl (Nat.le_of_ble_eq_true rfl) (ws' := rf_ a cI cL (nI 0) S K Qt O1 O2 En Ot Wt) rfl dc_M_edge_36 ?_
  refine aw_aload_n C dc_M_edge_39 rfl ?_
  refine aw_get C (fun w h => List.mem_cons_of_mem _ (ly_M w h)) 0 rf_p0 rfl 0 (by decide) (C.1.2.2.2.2 _ (List.mem_cons_of_mem _ kw_636)) (fun _ h => h) rfl dc_M_edge_40 ?_
  refine aw_if_eq C dc_M_edge_43 (tgt := 47) (by decide) (fun _ => ?_) (fun h9 => absurd (by decide) h9)
  refine aw_aload_n C dc_M_edge_47 rfl ?_
  refine aw_get C (fun w h => List.mem_cons_of_mem _ (ly_M w h)) 0 rf_p0 rfl 6 (by decide) (C.1.2.2.2.2 _ (List.mem_cons_of_mem _ kw_642)) (fun _ h => h) rfl dc_M_edge_48 ?_
  refine aw_iload_n C dc_M_edge_51 rfl ?_
  refine aw_iload_n C dc_M_edge_52 rfl ?_
  refine aw_iast C rf_D 6 0 rf_p6 rfl e9 rfl (by omega) (by decide) (ws' := rf_ a cI cL (nI 0) S K Qt O1 O2 (upd En e9 (nI u)) Ot Wt) (rfl) dc_M_edge_53 ?_
  refine aw_aload_n C dc_M_edge_54 rfl ?_
  refine aw_get C (fun w h => List.mem_cons_of_mem _ (ly_M w h)) 0 rf_p0 rfl 7 (by decide) (C.1.2.2.2.2 _ (List.mem_cons_of_mem _ kw_643)) (fun _ h => h) rfl dc_M_edge_55 ?_
  refine aw_iload_n C dc_M_edge_58 rfl ?_
  refine aw_iload_n C dc_M_edge_59 rfl ?_
  refine aw_iast C rf_D 7 0 rf_p7 rfl e9 rfl (by omega) (by decide) (ws' := rf_ a cI cL (nI 0) S K Qt O1 O2 (upd En e9 (nI u)) (upd Ot e9 (nI v)) Wt) (rfl) dc_M_edge_60 ?_
  exact kc_vret C hr (fun _ h => h) dc_M_edge_61
set_option maxHeartbeats 4000000 in
set_option maxRecDepth 100000 in
theorem m_cut (l : Launch) (D : va_G) (a : Nat) (cI cL cF : ClassId) (t : Int32) (S K Qt : Nat → Int64) (O1 O2 En Ot Wt : Nat → Int32) (e9 : Nat) (he : e9 < 12) : ki_ l my_M_cut (Cond.code my_M_cut bc_M_cut 3 (some .boolean) :: tw_) ({ frames := 1, cells := 0, slots := 0, locals := 20 }) D (ty_s cI cL cF) (fun _ => True) (cm_ a) [.ref a, .int (nI e9)] (rp_ D a cI cL t S K Qt O1 O2 En Ot Wt) (rp_ D a cI cL (nI 0) S K Qt O1 O2 (upd En e9 (-1)) Ot Wt) (z1_ (!decide (En e9 < 0))) := by
  refine aw_met (A := cm_ a) (own := "FamilyShelfModel") (by decide) rfl rfl (Nat.le_of_ble_eq_true rfl) ?_
  intro p9 e s m args below meth c C hr hX hP0
  refine aw_lw (lw' := [some (.ref a), some (.int (nI e9)), none]) rfl ?_
  refine aw_aload_n C dc_M_cut_0 rfl ?_
  refine aw_iload_n C dc_M_cut_1 rfl ?_
  refine kc_i (fun _ h => h) (fun _ h => h) (kc_S (n := 1) C hX xk_true (m_noElement0 l D _ _ _ _ e9 he) kw_749 kw_747 kw_748 kw_8 (by unfold kd_; decide) ⟨rfl, rfl, by decide, by decide⟩ rfl rfl (Nat.le_of_ble_eq_true rfl) ⟨Nat.zero_le _, Nat.zero_le _⟩ dc_M_cut_2) ?_
  refine aw_if_eq C dc_M_cut_5 (tgt := 12) (by decide) (fun _ => ?_) (fun h9 => absurd (by decide) h9)
  refine aw_iconst C dc_M_cut_12 (v := nI 0) rfl ?_
  refine aw_put C rf_D (fun w h => List.mem_cons_of_mem _ (ly_M w h)) ty_M ty_M_ok nm_M 0 rf_p0 rfl 0 (by decide) (C.1.2.2.2.2 _ (List.mem_cons_of_mem _ kw_636)) (fun _ h => h) rfl (ty := .int) (by decide +kernel) rfl rfl (Nat.le_of_ble_eq_true rfl) (ws' := rf_ a cI cL (nI 0) S K Qt O1 O2 En Ot Wt) rfl dc_M_cut_13 ?_
  refine aw_aload_n C dc_M_cut_16 rfl ?_
  refine aw_get C (fun w h => List.mem_cons_of_mem _ (ly_M w h)) 0 rf_p0 rfl 0 (by decide) (C.1.2.2.2.2 _ (List.mem_cons_of_mem _ kw_636)) (fun _ h => h) rfl dc_M_cut_17 ?_
  refine aw_if_eq C dc_M_cut_20 (tgt := 25) (by decide) (fun _ => ?_) (fun h9 => absurd (by decide) h9)
  refine aw_aload_n C dc_M_cut_25 rfl ?_
  refine aw_get C (fun w h => List.mem_cons_of_mem _ (ly_M w h)) 0 rf_p0 rfl 6 (by decide) (C.1.2.2.2.2 _ (List.mem_cons_of_mem _ kw_642)) (fun _ h => h) rfl dc_M_cut_26 ?_
  refine aw_iload_n C dc_M_cut_29 rfl ?_
  refine aw_iald C 6 0 rf_p6 rfl e9 rfl (by omega) (by decide) dc_M_cut_30 ?_
  refine aw_if_lt C dc_M_cut_31 (tgt := 38) (by decide) (fun hB31 => ?_) (fun hB31 => ?_)
  · have hb := decide_eq_true hB31
    refine aw_iconst C dc_M_cut_38 (v := nI 0) rfl ?_
    refine aw_istore_n C dc_M_cut_39 (by decide) rfl ?_
    refine aw_aload_n C dc_M_cut_40 rfl ?_
    refine aw_get C (fun w h => List.mem_cons_of_mem _ (ly_M w h)) 0 rf_p0 rfl 6 (by decide) (C.1.2.2.2.2 _ (List.mem_cons_of_mem _ kw_642)) (fun _ h => h) rfl dc_M_cut_41 ?_
    refine aw_iload_n C dc_M_cut_44 rfl ?_
    refine aw_iconst C dc_M_cut_45 (v := (-1)) rfl ?_
    refine aw_iast C rf_D 6 0 rf_p6 rfl e9 rfl (by omega) (by decide) (ws' := rf_ a cI cL (nI 0) S K Qt O1 O2 (upd En e9 (-1)) Ot Wt) (rfl) dc_M_cut_46 ?_
    refine aw_iload_n C dc_M_cut_47 rfl ?_
    exact kc_zret C hr (by decide) (by rw [hb]; rfl) (fun _ h => h) dc_M_cut_48
  · have hb := decide_eq_false hB31
    refine aw_iconst C dc_M_cut_34 (v := nI 1) rfl ?_
    refine aw_goto C dc_M_cut_35 (tgt := 39) (by decide) ?_
    refine aw_istore_n C dc_M_cut_39 (by decide) rfl ?_
    refine aw_aload_n C dc_M_cut_40 rfl ?_
    refine aw_get C (fun w h => List.mem_cons_of_mem _ (ly_M w h)) 0 rf_p0 rfl 6 (by decide) (C.1.2.2.2.2 _ (List.mem_cons_of_mem _ kw_642)) (fun _ h => h) rfl dc_M_cut_41 ?_
    refine aw_iload_n C dc_M_cut_44 rfl ?_
    refine aw_iconst C dc_M_cut_45 (v := (-1)) rfl ?_
    refine aw_iast C rf_D 6 0 rf_p6 rfl e9 rfl (by omega) (by decide) (ws' := rf_ a cI cL (nI 0) S K Qt O1 O2 (upd En e9 (-1)) Ot Wt) (rfl) dc_M_cut_46 ?_
    refine aw_iload_n C dc_M_cut_47 rfl ?_
    exact kc_zret C hr (by decide) (by rw [hb]; rfl) (fun _ h => h) dc_M_cut_48
set_option maxHeartbeats 4000000 in
set_option maxRecDepth 100000 in
theorem m_weight (l : Launch) (D : va_G) (a : Nat) (cI cL cF : ClassId) (t : Int32) (S K Qt : Nat → Int64) (O1 O2 En Ot Wt : Nat → Int32) (e9 : Nat) (he : e9 < 12) (x : Int32) (h1 : ¬ x < -99) (h2 : x ≤ nI 99) : ki_ l my_M_weight (Cond.code my_M_weight bc_M_weight 4 (some .int) :: tw_) ({ frames := 1, cells := 0, slots := 0, locals := 20 }) D (ty_s cI cL cF) (fun _ => True) (cm_ a) [.ref a, .int (nI e9), .int x] (rp_ D a cI cL t S K Qt O1 O2 En Ot Wt) (rp_ D a cI cL (nI 0) S K Qt O1 O2 En Ot (upd Wt e9 x)) (Wt e9) := by
  refine aw_met (A := cm_ a) (own := "FamilyShelfModel") (by decide) rfl rfl (Nat.le_of_ble_eq_true rfl) ?_
  intro p9 e s m args below meth c C hr hX hP0
  refine aw_lw (lw' := [some (.ref a), some (.int (nI e9)), some (.int x), none]) rfl ?_
  refine aw_aload_n C dc_M_weight_0 rfl ?_
  refine aw_iload_n C dc_M_weight_1 rfl ?_
  refine kc_i (fun _ h => h) (fun _ h => h) (kc_S (n := 1) C hX xk_true (m_noElement0 l D _ _ _ _ e9 he) kw_749 kw_747 kw_748 kw_8 (by unfold kd_; decide) ⟨rfl, rfl, by decide, by decide⟩ rfl rfl (Nat.le_of_ble_eq_true rfl) ⟨Nat.zero_le _, Nat.zero_le _⟩ dc_M_weight_2) ?_
  refine aw_if_eq C dc_M_weight_5 (tgt := 12) (by decide) (fun _ => ?_) (fun h9 => absurd (by decide) h9)
  refine aw_iload_n C dc_M_weight_12 rfl ?_
  refine aw_bipush C dc_M_weight_13 (v := (-99)) rfl ?_
  refine aw_icmp_lt C dc_M_weight_15 (tgt := 24) (by decide) (fun h9 => absurd h9 (h1)) (fun _ => ?_)
  refine aw_iload_n C dc_M_weight_18 rfl ?_
  refine aw_bipush C dc_M_weight_19 (v := nI 99) rfl ?_
  refine aw_icmp_le C dc_M_weight_21 (tgt := 28) (by decide) (fun _ => ?_) (fun h9 => absurd (h2) h9)
  refine aw_iconst C dc_M_weight_28 (v := nI 0) rfl ?_
  refine aw_put C rf_D (fun w h => List.mem_cons_of_mem _ (ly_M w h)) ty_M ty_M_ok nm_M 0 rf_p0 rfl 0 (by decide) (C.1.2.2.2.2 _ (List.mem_cons_of_mem _ kw_636)) (fun _ h => h) rfl (ty := .int) (by decide +kernel) rfl rfl (Nat.le_of_ble_eq_true rfl) (ws' := rf_ a cI cL (nI 0) S K Qt O1 O2 En Ot Wt) rfl dc_M_weight_29 ?_
  refine aw_aload_n C dc_M_weight_32 rfl ?_
  refine aw_get C (fun w h => List.mem_cons_of_mem _ (ly_M w h)) 0 rf_p0 rfl 0 (by decide) (C.1.2.2.2.2 _ (List.mem_cons_of_mem _ kw_636)) (fun _ h => h) rfl dc_M_weight_33 ?_
  refine aw_if_eq C dc_M_weight_36 (tgt := 41) (by decide) (fun _ => ?_) (fun h9 => absurd (by decide) h9)
  refine aw_aload_n C dc_M_weight_41 rfl ?_
  refine aw_get C (fun w h => List.mem_cons_of_mem _ (ly_M w h)) 0 rf_p0 rfl 8 (by decide) (C.1.2.2.2.2 _ (List.mem_cons_of_mem _ kw_644)) (fun _ h => h) rfl dc_M_weight_42 ?_
  refine aw_iload_n C dc_M_weight_45 rfl ?_
  refine aw_iald C 8 0 rf_p8 rfl e9 rfl (by omega) (by decide) dc_M_weight_46 ?_
  refine aw_istore_n C dc_M_weight_47 (by decide) rfl ?_
  refine aw_aload_n C dc_M_weight_48 rfl ?_
  refine aw_get C (fun w h => List.mem_cons_of_mem _ (ly_M w h)) 0 rf_p0 rfl 8 (by decide) (C.1.2.2.2.2 _ (List.mem_cons_of_mem _ kw_644)) (fun _ h => h) rfl dc_M_weight_49 ?_
  refine aw_iload_n C dc_M_weight_52 rfl ?_
  refine aw_iload_n C dc_M_weight_53 rfl ?_
  refine aw_iast C rf_D 8 0 rf_p8 rfl e9 rfl (by omega) (by decide) (ws' := rf_ a cI cL (nI 0) S K Qt O1 O2 En Ot (upd Wt e9 x)) (rfl) dc_M_weight_54 ?_
  refine aw_iload_n C dc_M_weight_55 rfl ?_
  exact kc_iret C hr rfl (fun _ h => h) dc_M_weight_56
set_option maxHeartbeats 4000000 in
set_option maxRecDepth 100000 in
theorem m_count (l : Launch) (D : va_G) (a : Nat) (cI cL cF : ClassId) (t : Int32) (S K Qt : Nat → Int64) (O1 O2 En Ot Wt : Nat → Int32) (i : Nat) (hi : i < 10) : ki_ l my_M_count (Cond.code my_M_count bc_M_count 2 (some .int) :: tw_) ({ frames := 2, cells := 0, slots := 0, locals := 46 }) D (ty_s cI cL cF) (fun _ => True) (cm_ a) [.ref a, .int (nI i)] (rp_ D a cI cL t S K Qt O1 O2 En Ot Wt) (rp_ D a cI cL (nI 0) S K Qt O1 O2 En Ot Wt) (nI (tw64_ (rw_ S i) 64)) := by
  refine aw_met (A := cm_ a) (own := "FamilyShelfModel") (by decide) rfl rfl (Nat.le_of_ble_eq_true rfl) ?_
  intro p9 e s m args below meth c C hr hX hP0
  refine aw_lw (lw' := [some (.ref a), some (.int (nI i))]) rfl ?_
  refine aw_aload_n C dc_M_count_0 rfl ?_
  refine aw_iload_n C dc_M_count_1 rfl ?_
  refine kc_i (fun _ h => h) (fun _ h => h) (kc_S (n := 1) C hX xk_true (m_noShelf0 l D _ _ _ _ i hi) kw_677 kw_675 kw_676 kw_8 (by unfold kd_; decide) ⟨rfl, rfl, by decide, by decide⟩ rfl rfl (Nat.le_of_ble_eq_true rfl) ⟨Nat.zero_le _, Nat.zero_le _⟩ dc_M_count_2) ?_
  refine aw_if_eq C dc_M_count_5 (tgt := 12) (by decide) (fun _ => ?_) (fun h9 => absurd (by decide) h9)
  refine aw_iconst C dc_M_count_12 (v := nI 0) rfl ?_
  refine aw_put C rf_D (fun w h => List.mem_cons_of_mem _ (ly_M w h)) ty_M ty_M_ok nm_M 0 rf_p0 rfl 0 (by decide) (C.1.2.2.2.2 _ (List.mem_cons_of_mem _ kw_636)) (fun _ h => h) rfl (ty := .int) (by decide +kernel) rfl rfl (Nat.le_of_ble_eq_true rfl) (ws' := rf_ a cI cL (nI 0) S K Qt O1 O2 En Ot Wt) rfl dc_M_count_13 ?_
  refine aw_aload_n C dc_M_count_16 rfl ?_
  refine aw_get C (fun w h => List.mem_cons_of_mem _ (ly_M w h)) 0 rf_p0 rfl 0 (by decide) (C.1.2.2.2.2 _ (List.mem_cons_of_mem _ kw_636)) (fun _ h => h) rfl dc_M_count_17 ?_
  refine aw_if_ne C dc_M_count_20 (tgt := 31) (by decide) (fun h9 => absurd (by decide) h9) (fun _ => ?_)
  refine aw_aload_n C dc_M_count_23 rfl ?_
  refine aw_iload_n C dc_M_count_24 rfl ?_
  refine kc_i (fun _ h => h) (fun _ h => h) (kc_V (n := 1) C hX xk_true rfl 0 rf_p0 rfl (m_countOf l D a cI cL cF (nI 0) S K Qt O1 O2 En Ot Wt i hi) kw_697 kw_694 kw_696 (tw_sel (q := (my_M_countOf, 9)) (by decide +kernel)) kw_8 rfl (by unfold kd_; decide) ⟨rfl, rfl, by decide, by decide⟩ rfl rfl (Nat.le_of_ble_eq_true rfl) ⟨Nat.zero_le _, Nat.zero_le _⟩ dc_M_count_25) ?_
  refine aw_goto C dc_M_count_28 (tgt := 32) (by decide) ?_
  exact kc_iret C hr rfl (fun _ h => h) dc_M_count_32
set_option maxHeartbeats 4000000 in
set_option maxRecDepth 100000 in
theorem m_has (l : Launch) (D : va_G) (a : Nat) (cI cL cF : ClassId) (t : Int32) (S K Qt : Nat → Int64) (O1 O2 En Ot Wt : Nat → Int32) (i : Nat) (hi : i < 10) (n : Nat) (hn : n < 4096) : ki_ l my_M_has (Cond.code my_M_has bc_M_has 3 (some .boolean) :: tw_) ({ frames := 2, cells := 0, slots := 0, locals := 41 }) D (ty_s cI cL cF) (fun _ => True) (cm_ a) [.ref a, .int (nI i), .int (nI n)] (rp_ D a cI cL t S K Qt O1 O2 En Ot Wt) (rp_ D a cI cL (nI 0) S K Qt O1 O2 En Ot Wt) (z1_ (fb_ (rw_ S i) (tu_ n 12))) := by
  refine aw_met (A := cm_ a) (own := "FamilyShelfModel") (by decide) rfl rfl (Nat.le_of_ble_eq_true rfl) ?_
  intro p9 e s m args below meth c C hr hX hP0
  refine aw_lw (lw' := [some (.ref a), some (.int (nI i)), some (.int (nI n))]) rfl ?_
  refine aw_aload_n C dc_M_has_0 rfl ?_
  refine aw_iload_n C dc_M_has_1 rfl ?_
  refine aw_iload_n C dc_M_has_2 rfl ?_
  refine kc_i (fun _ h => h) (fun _ h => h) (kc_S (n := 2) C hX xk_true (m_asked0 l D _ _ _ _ xk_true i hi n hn) kw_674 kw_672 kw_673 kw_8 (by unfold kd_; decide) ⟨rfl, rfl, by decide, by decide⟩ rfl rfl (Nat.le_of_ble_eq_true rfl) ⟨Nat.zero_le _, Nat.zero_le _⟩ dc_M_has_3) ?_
  refine aw_put C rf_D (fun w h => List.mem_cons_of_mem _ (ly_M w h)) ty_M ty_M_ok nm_M 0 rf_p0 rfl 0 (by decide) (C.1.2.2.2.2 _ (List.mem_cons_of_mem _ kw_636)) (fun _ h => h) rfl (ty := .int) (by decide +kernel) rfl rfl (Nat.le_of_ble_eq_true rfl) (ws' := rf_ a cI cL (nI 0) S K Qt O1 O2 En Ot Wt) rfl dc_M_has_6 ?_
  refine aw_aload_n C dc_M_has_9 rfl ?_
  refine aw_get C (fun w h => List.mem_cons_of_mem _ (ly_M w h)) 0 rf_p0 rfl 0 (by decide) (C.1.2.2.2.2 _ (List.mem_cons_of_mem _ kw_636)) (fun _ h => h) rfl dc_M_has_10 ?_
  refine aw_if_ne C dc_M_has_13 (tgt := 32) (by decide) (fun h9 => absurd (by decide) h9) (fun _ => ?_)
  refine aw_aload_n C dc_M_has_16 rfl ?_
  refine aw_iload_n C dc_M_has_17 rfl ?_
  refine aw_iload_n C dc_M_has_18 rfl ?_
  refine kc_i (fun _ h => h) (fun _ h => h) (kc_S (n := 1) C hX xk_true (m_turned l D _ _ _ _ n hn) kw_680 kw_678 kw_679 kw_8 (by unfold kd_; decide) ⟨rfl, rfl, by decide, by decide⟩ rfl rfl (Nat.le_of_ble_eq_true rfl) ⟨Nat.zero_le _, Nat.zero_le _⟩ dc_M_has_19) ?_
  refine kc_i (fun _ h => h) (fun _ h => h) (kc_V (n := 2) C hX xk_true rfl 0 rf_p0 rfl (m_isIn l D a cI cL cF (nI 0) S K Qt O1 O2 En Ot Wt i hi (tu_ n 12) (tu_12 n)) kw_684 kw_681 kw_683 (tw_sel (q := (my_M_isIn, 9)) (by decide +kernel)) kw_8 rfl (by unfold kd_; decide) ⟨rfl, rfl, by decide, by decide⟩ rfl rfl (Nat.le_of_ble_eq_true rfl) ⟨Nat.zero_le _, Nat.zero_le _⟩ dc_M_has_22) ?_
  refine aw_if_eq C dc_M_has_25 (tgt := 32) (by decide) (fun hB25 => ?_) (fun hB25 => ?_)
  · have hb := z1_0.mp hB25
    refine aw_iconst C dc_M_has_32 (v := nI 0) rfl ?_
    exact kc_zret C hr (by decide) (by rw [hb]; rfl) (fun _ h => h) dc_M_has_33
  · have hb := z1_n.mp hB25
    refine aw_iconst C dc_M_has_28 (v := nI 1) rfl ?_
    refine aw_goto C dc_M_has_29 (tgt := 33) (by decide) ?_
    exact kc_zret C hr (by decide) (by rw [hb]; rfl) (fun _ h => h) dc_M_has_33
