set_option maxHeartbeats 4000000 in
set_option maxRecDepth 100000 in
theorem m_put (l : Launch) (D : va_G) (a : Nat) (cI cL cF : ClassId) (t : Int32) (S K Qt : Nat → Int64) (O1 O2 En Ot Wt : Nat → Int32) (i : Nat) (hi : i < 10) (n : Nat) (hn : n < 4096) : ki_ l my_M_put (Cond.code my_M_put bc_M_put 5 (some .boolean) :: tw_) ({ frames := 2, cells := 0, slots := 0, locals := 41 }) D (ty_s cI cL cF) (fun _ => True) (cm_ a) [.ref a, .int (nI i), .int (nI n)] (rp_ D a cI cL t S K Qt O1 O2 En Ot Wt) (rp_ D a cI cL (nI 0) (ps_ S i (tu_ n 12)) K Qt O1 O2 En Ot Wt) (z1_ (!fb_ (rw_ S i) (tu_ n 12))) := by
  refine aw_met (A := cm_ a) (own := "FamilyShelfModel") (by decide) rfl rfl (Nat.le_of_ble_eq_true rfl) ?_
  intro p9 e s m args below meth c C hr hX hP0
  refine aw_lw (lw' := [some (.ref a), some (.int (nI i)), some (.int (nI n)), none, none]) rfl ?_
  have hq := tu_12 n
  refine aw_aload_n C dc_M_put_0 rfl ?_
  refine aw_iload_n C dc_M_put_1 rfl ?_
  refine aw_iload_n C dc_M_put_2 rfl ?_
  refine kc_i (fun _ h => h) (fun _ h => h) (kc_S (n := 2) C hX xk_true (m_asked0 l D _ _ _ _ xk_true i hi n hn) kw_674 kw_672 kw_673 kw_8 (by unfold kd_; decide) ⟨rfl, rfl, by decide, by decide⟩ rfl rfl (Nat.le_of_ble_eq_true rfl) ⟨Nat.zero_le _, Nat.zero_le _⟩ dc_M_put_3) ?_
  refine aw_put C rf_D (fun w h => List.mem_cons_of_mem _ (ly_M w h)) ty_M ty_M_ok nm_M 0 rf_p0 rfl 0 (by decide) (C.1.2.2.2.2 _ (List.mem_cons_of_mem _ kw_636)) (fun _ h => h) rfl (ty := .int) (by decide +kernel) rfl rfl (Nat.le_of_ble_eq_true rfl) (ws' := rf_ a cI cL (nI 0) S K Qt O1 O2 En Ot Wt) rfl dc_M_put_6 ?_
  refine aw_aload_n C dc_M_put_9 rfl ?_
  refine aw_get C (fun w h => List.mem_cons_of_mem _ (ly_M w h)) 0 rf_p0 rfl 0 (by decide) (C.1.2.2.2.2 _ (List.mem_cons_of_mem _ kw_636)) (fun _ h => h) rfl dc_M_put_10 ?_
  refine aw_if_eq C dc_M_put_13 (tgt := 18) (by decide) (fun _ => ?_) (fun h9 => absurd (by decide) h9)
  refine aw_iload_n C dc_M_put_18 rfl ?_
  refine kc_i (fun _ h => h) (fun _ h => h) (kc_S (n := 1) C hX xk_true (m_turned l D _ _ _ _ n hn) kw_680 kw_678 kw_679 kw_8 (by unfold kd_; decide) ⟨rfl, rfl, by decide, by decide⟩ rfl rfl (Nat.le_of_ble_eq_true rfl) ⟨Nat.zero_le _, Nat.zero_le _⟩ dc_M_put_19) ?_
  refine aw_istore_n C dc_M_put_22 (by decide) rfl ?_
  refine aw_aload_n C dc_M_put_23 rfl ?_
  refine aw_iload_n C dc_M_put_24 rfl ?_
  refine aw_iload_n C dc_M_put_25 rfl ?_
  refine kc_i (fun _ h => h) (fun _ h => h) (kc_V (n := 2) C hX xk_true rfl 0 rf_p0 rfl (m_isIn l D a cI cL cF (nI 0) S K Qt O1 O2 En Ot Wt i hi (tu_ n 12) hq) kw_684 kw_681 kw_683 (tw_sel (q := (my_M_isIn, 9)) (by decide +kernel)) kw_8 rfl (by unfold kd_; decide) ⟨rfl, rfl, by decide, by decide⟩ rfl rfl (Nat.le_of_ble_eq_true rfl) ⟨Nat.zero_le _, Nat.zero_le _⟩ dc_M_put_26) ?_
  refine aw_if_ne C dc_M_put_29 (tgt := 36) (by decide) (fun hB29 => ?_) (fun hB29 => ?_)
  · have hb := z1_n.mp hB29
    refine aw_iconst C dc_M_put_36 (v := nI 0) rfl ?_
    refine aw_istore C dc_M_put_37 (by decide) rfl ?_
    refine aw_aload_n C dc_M_put_39 rfl ?_
    refine aw_get C (fun w h => List.mem_cons_of_mem _ (ly_M w h)) 0 rf_p0 rfl 1 (by decide) (C.1.2.2.2.2 _ (List.mem_cons_of_mem _ kw_637)) (fun _ h => h) rfl dc_M_put_40 ?_
    refine aw_bipush C dc_M_put_43 (v := nI 64) rfl ?_
    refine aw_iload_n C dc_M_put_45 rfl ?_
    refine aw_imul C dc_M_put_46 ?_
    refine aw_iload_n C dc_M_put_47 rfl ?_
    refine aw_bipush C dc_M_put_48 (v := nI 64) rfl ?_
    refine aw_idiv C dc_M_put_50 (by decide) ?_
    refine aw_iadd C dc_M_put_51 ?_
    refine aw_aload_n C dc_M_put_52 rfl ?_
    refine aw_get C (fun w h => List.mem_cons_of_mem _ (ly_M w h)) 0 rf_p0 rfl 1 (by decide) (C.1.2.2.2.2 _ (List.mem_cons_of_mem _ kw_637)) (fun _ h => h) rfl dc_M_put_53 ?_
    refine aw_bipush C dc_M_put_56 (v := nI 64) rfl ?_
    refine aw_iload_n C dc_M_put_58 rfl ?_
    refine aw_imul C dc_M_put_59 ?_
    refine aw_iload_n C dc_M_put_60 rfl ?_
    refine aw_bipush C dc_M_put_61 (v := nI 64) rfl ?_
    refine aw_idiv C dc_M_put_63 (by decide) ?_
    refine aw_iadd C dc_M_put_64 ?_
    refine aw_lald C 1 1 rf_p1 rfl (64 * i + (tu_ n 12) / 64) (ms_ix hq) (by omega) (by decide) dc_M_put_65 ?_
    refine aw_lconst C dc_M_put_66 (v := 1) rfl ?_
    refine aw_iload_n C dc_M_put_67 rfl ?_
    refine aw_bipush C dc_M_put_68 (v := nI 64) rfl ?_
    refine aw_irem C dc_M_put_70 (by decide) ?_
    refine aw_eqi (ms_rm hq) ?_
    refine aw_lshl C dc_M_put_71 ?_
    refine aw_lor C dc_M_put_72 ?_
    refine aw_last C rf_D 1 1 rf_p1 rfl (64 * i + (tu_ n 12) / 64) (ms_ix hq) (by omega) (by decide) (ws' := rf_ a cI cL (nI 0) (ps_ S i (tu_ n 12)) K Qt O1 O2 En Ot Wt) (rfl) dc_M_put_73 ?_
    refine aw_iload C dc_M_put_74 rfl ?_
    exact kc_zret C hr (by decide) (by rw [hb]; rfl) (fun _ h => h) dc_M_put_76
  · have hb := z1_0.mp hB29
    refine aw_iconst C dc_M_put_32 (v := nI 1) rfl ?_
    refine aw_goto C dc_M_put_33 (tgt := 37) (by decide) ?_
    refine aw_istore C dc_M_put_37 (by decide) rfl ?_
    refine aw_aload_n C dc_M_put_39 rfl ?_
    refine aw_get C (fun w h => List.mem_cons_of_mem _ (ly_M w h)) 0 rf_p0 rfl 1 (by decide) (C.1.2.2.2.2 _ (List.mem_cons_of_mem _ kw_637)) (fun _ h => h) rfl dc_M_put_40 ?_
    refine aw_bipush C dc_M_put_43 (v := nI 64) rfl ?_
    refine aw_iload_n C dc_M_put_45 rfl ?_
    refine aw_imul C dc_M_put_46 ?_
    refine aw_iload_n C dc_M_put_47 rfl ?_
    refine aw_bipush C dc_M_put_48 (v := nI 64) rfl ?_
    refine aw_idiv C dc_M_put_50 (by decide) ?_
    refine aw_iadd C dc_M_put_51 ?_
    refine aw_aload_n C dc_M_put_52 rfl ?_
    refine aw_get C (fun w h => List.mem_cons_of_mem _ (ly_M w h)) 0 rf_p0 rfl 1 (by decide) (C.1.2.2.2.2 _ (List.mem_cons_of_mem _ kw_637)) (fun _ h => h) rfl dc_M_put_53 ?_
    refine aw_bipush C dc_M_put_56 (v := nI 64) rfl ?_
    refine aw_iload_n C dc_M_put_58 rfl ?_
    refine aw_imul C dc_M_put_59 ?_
    refine aw_iload_n C dc_M_put_60 rfl ?_
    refine aw_bipush C dc_M_put_61 (v := nI 64) rfl ?_
    refine aw_idiv C dc_M_put_63 (by decide) ?_
    refine aw_iadd C dc_M_put_64 ?_
    refine aw_lald C 1 1 rf_p1 rfl (64 * i + (tu_ n 12) / 64) (ms_ix hq) (by omega) (by decide) dc_M_put_65 ?_
    refine aw_lconst C dc_M_put_66 (v := 1) rfl ?_
    refine aw_iload_n C dc_M_put_67 rfl ?_
    refine aw_bipush C dc_M_put_68 (v := nI 64) rfl ?_
    refine aw_irem C dc_M_put_70 (by decide) ?_
    refine aw_eqi (ms_rm hq) ?_
    refine aw_lshl C dc_M_put_71 ?_
    refine aw_lor C dc_M_put_72 ?_
    refine aw_last C rf_D 1 1 rf_p1 rfl (64 * i + (tu_ n 12) / 64) (ms_ix hq) (by omega) (by decide) (ws' := rf_ a cI cL (nI 0) (ps_ S i (tu_ n 12)) K Qt O1 O2 En Ot Wt) (rfl) dc_M_put_73 ?_
    refine aw_iload C dc_M_put_74 rfl ?_
    exact kc_zret C hr (by decide) (by rw [hb]; rfl) (fun _ h => h) dc_M_put_76
set_option maxHeartbeats 4000000 in
set_option maxRecDepth 100000 in
theorem m_take (l : Launch) (D : va_G) (a : Nat) (cI cL cF : ClassId) (t : Int32) (S K Qt : Nat → Int64) (O1 O2 En Ot Wt : Nat → Int32) (i : Nat) (hi : i < 10) (n : Nat) (hn : n < 4096) : ki_ l my_M_take (Cond.code my_M_take bc_M_take 5 (some .boolean) :: tw_) ({ frames := 2, cells := 0, slots := 0, locals := 41 }) D (ty_s cI cL cF) (fun _ => True) (cm_ a) [.ref a, .int (nI i), .int (nI n)] (rp_ D a cI cL t S K Qt O1 O2 En Ot Wt) (rp_ D a cI cL (nI 0) (ts_ S i (tu_ n 12)) K Qt O1 O2 En Ot Wt) (z1_ (fb_ (rw_ S i) (tu_ n 12))) := by
  refine aw_met (A := cm_ a) (own := "FamilyShelfModel") (by decide) rfl rfl (Nat.le_of_ble_eq_true rfl) ?_
  intro p9 e s m args below meth c C hr hX hP0
  refine aw_lw (lw' := [some (.ref a), some (.int (nI i)), some (.int (nI n)), none, none]) rfl ?_
  have hq := tu_12 n
  refine aw_aload_n C dc_M_take_0 rfl ?_
  refine aw_iload_n C dc_M_take_1 rfl ?_
  refine aw_iload_n C dc_M_take_2 rfl ?_
  refine kc_i (fun _ h => h) (fun _ h => h) (kc_S (n := 2) C hX xk_true (m_asked0 l D _ _ _ _ xk_true i hi n hn) kw_674 kw_672 kw_673 kw_8 (by unfold kd_; decide) ⟨rfl, rfl, by decide, by decide⟩ rfl rfl (Nat.le_of_ble_eq_true rfl) ⟨Nat.zero_le _, Nat.zero_le _⟩ dc_M_take_3) ?_
  refine aw_put C rf_D (fun w h => List.mem_cons_of_mem _ (ly_M w h)) ty_M ty_M_ok nm_M 0 rf_p0 rfl 0 (by decide) (C.1.2.2.2.2 _ (List.mem_cons_of_mem _ kw_636)) (fun _ h => h) rfl (ty := .int) (by decide +kernel) rfl rfl (Nat.le_of_ble_eq_true rfl) (ws' := rf_ a cI cL (nI 0) S K Qt O1 O2 En Ot Wt) rfl dc_M_take_6 ?_
  refine aw_aload_n C dc_M_take_9 rfl ?_
  refine aw_get C (fun w h => List.mem_cons_of_mem _ (ly_M w h)) 0 rf_p0 rfl 0 (by decide) (C.1.2.2.2.2 _ (List.mem_cons_of_mem _ kw_636)) (fun _ h => h) rfl dc_M_take_10 ?_
  refine aw_if_eq C dc_M_take_13 (tgt := 18) (by decide) (fun _ => ?_) (fun h9 => absurd (by decide) h9)
  refine aw_iload_n C dc_M_take_18 rfl ?_
  refine kc_i (fun _ h => h) (fun _ h => h) (kc_S (n := 1) C hX xk_true (m_turned l D _ _ _ _ n hn) kw_680 kw_678 kw_679 kw_8 (by unfold kd_; decide) ⟨rfl, rfl, by decide, by decide⟩ rfl rfl (Nat.le_of_ble_eq_true rfl) ⟨Nat.zero_le _, Nat.zero_le _⟩ dc_M_take_19) ?_
  refine aw_istore_n C dc_M_take_22 (by decide) rfl ?_
  refine aw_aload_n C dc_M_take_23 rfl ?_
  refine aw_iload_n C dc_M_take_24 rfl ?_
  refine aw_iload_n C dc_M_take_25 rfl ?_
  refine kc_i (fun _ h => h) (fun _ h => h) (kc_V (n := 2) C hX xk_true rfl 0 rf_p0 rfl (m_isIn l D a cI cL cF (nI 0) S K Qt O1 O2 En Ot Wt i hi (tu_ n 12) hq) kw_684 kw_681 kw_683 (tw_sel (q := (my_M_isIn, 9)) (by decide +kernel)) kw_8 rfl (by unfold kd_; decide) ⟨rfl, rfl, by decide, by decide⟩ rfl rfl (Nat.le_of_ble_eq_true rfl) ⟨Nat.zero_le _, Nat.zero_le _⟩ dc_M_take_26) ?_
  refine aw_istore C dc_M_take_29 (by decide) rfl ?_
  refine aw_aload_n C dc_M_take_31 rfl ?_
  refine aw_get C (fun w h => List.mem_cons_of_mem _ (ly_M w h)) 0 rf_p0 rfl 1 (by decide) (C.1.2.2.2.2 _ (List.mem_cons_of_mem _ kw_637)) (fun _ h => h) rfl dc_M_take_32 ?_
  refine aw_bipush C dc_M_take_35 (v := nI 64) rfl ?_
  refine aw_iload_n C dc_M_take_37 rfl ?_
  refine aw_imul C dc_M_take_38 ?_
  refine aw_iload_n C dc_M_take_39 rfl ?_
  refine aw_bipush C dc_M_take_40 (v := nI 64) rfl ?_
  refine aw_idiv C dc_M_take_42 (by decide) ?_
  refine aw_iadd C dc_M_take_43 ?_
  refine aw_aload_n C dc_M_take_44 rfl ?_
  refine aw_get C (fun w h => List.mem_cons_of_mem _ (ly_M w h)) 0 rf_p0 rfl 1 (by decide) (C.1.2.2.2.2 _ (List.mem_cons_of_mem _ kw_637)) (fun _ h => h) rfl dc_M_take_45 ?_
  refine aw_bipush C dc_M_take_48 (v := nI 64) rfl ?_
  refine aw_iload_n C dc_M_take_50 rfl ?_
  refine aw_imul C dc_M_take_51 ?_
  refine aw_iload_n C dc_M_take_52 rfl ?_
  refine aw_bipush C dc_M_take_53 (v := nI 64) rfl ?_
  refine aw_idiv C dc_M_take_55 (by decide) ?_
  refine aw_iadd C dc_M_take_56 ?_
  refine aw_lald C 1 1 rf_p1 rfl (64 * i + (tu_ n 12) / 64) (ms_ix hq) (by omega) (by decide) dc_M_take_57 ?_
  refine aw_lconst C dc_M_take_58 (v := 1) rfl ?_
  refine aw_iload_n C dc_M_take_59 rfl ?_
  refine aw_bipush C dc_M_take_60 (v := nI 64) rfl ?_
  refine aw_irem C dc_M_take_62 (by decide) ?_
  refine aw_eqi (ms_rm hq) ?_
  refine aw_lshl C dc_M_take_63 ?_
  refine aw_ldc2 C (C.1.2.2.2.2 _ (List.mem_cons_of_mem _ kw_689)) dc_M_take_64 ?_
  refine aw_lxor C dc_M_take_67 ?_
  refine aw_land C dc_M_take_68 ?_
  refine aw_last C rf_D 1 1 rf_p1 rfl (64 * i + (tu_ n 12) / 64) (ms_ix hq) (by omega) (by decide) (ws' := rf_ a cI cL (nI 0) (ts_ S i (tu_ n 12)) K Qt O1 O2 En Ot Wt) (rfl) dc_M_take_69 ?_
  refine aw_iload C dc_M_take_70 rfl ?_
  exact kc_zret C hr (z1_01 _) rfl (fun _ h => h) dc_M_take_72
set_option maxHeartbeats 4000000 in
set_option maxRecDepth 100000 in
theorem m_clear (l : Launch) (D : va_G) (a : Nat) (cI cL cF : ClassId) (t : Int32) (S K Qt : Nat → Int64) (O1 O2 En Ot Wt : Nat → Int32) (i : Nat) (hi : i < 10) : ki_ l my_M_clear (Cond.code my_M_clear bc_M_clear 4 (some .int) :: tw_) ({ frames := 2, cells := 0, slots := 0, locals := 46 }) D (ty_s cI cL cF) (fun _ => True) (cm_ a) [.ref a, .int (nI i)] (rp_ D a cI cL t S K Qt O1 O2 En Ot Wt) (rp_ D a cI cL (nI 0) (sl_ S i (fun _ => 0) 64) K Qt O1 O2 En Ot Wt) (nI (tw64_ (rw_ S i) 64)) := by
  refine aw_met (A := cm_ a) (own := "FamilyShelfModel") (by decide) rfl rfl (Nat.le_of_ble_eq_true rfl) ?_
  intro p9 e s m args below meth c C hr hX hP0
  refine aw_lw (lw' := [some (.ref a), some (.int (nI i)), none, none]) rfl ?_
  refine aw_aload_n C dc_M_clear_0 rfl ?_
  refine aw_iload_n C dc_M_clear_1 rfl ?_
  refine kc_i (fun _ h => h) (fun _ h => h) (kc_S (n := 1) C hX xk_true (m_noShelf0 l D _ _ _ _ i hi) kw_677 kw_675 kw_676 kw_8 (by unfold kd_; decide) ⟨rfl, rfl, by decide, by decide⟩ rfl rfl (Nat.le_of_ble_eq_true rfl) ⟨Nat.zero_le _, Nat.zero_le _⟩ dc_M_clear_2) ?_
  refine aw_if_eq C dc_M_clear_5 (tgt := 12) (by decide) (fun _ => ?_) (fun h9 => absurd (by decide) h9)
  refine aw_iconst C dc_M_clear_12 (v := nI 0) rfl ?_
  refine aw_put C rf_D (fun w h => List.mem_cons_of_mem _ (ly_M w h)) ty_M ty_M_ok nm_M 0 rf_p0 rfl 0 (by decide) (C.1.2.2.2.2 _ (List.mem_cons_of_mem _ kw_636)) (fun _ h => h) rfl (ty := .int) (by decide +kernel) rfl rfl (Nat.le_of_ble_eq_true rfl) (ws' := rf_ a cI cL (nI 0) S K Qt O1 O2 En Ot Wt) rfl dc_M_clear_13 ?_
  refine aw_aload_n C dc_M_clear_16 rfl ?_
  refine aw_get C (fun w h => List.mem_cons_of_mem _ (ly_M w h)) 0 rf_p0 rfl 0 (by decide) (C.1.2.2.2.2 _ (List.mem_cons_of_mem _ kw_636)) (fun _ h => h) rfl dc_M_clear_17 ?_
  refine aw_if_eq C dc_M_clear_20 (tgt := 25) (by decide) (fun _ => ?_) (fun h9 => absurd (by decide) h9)
  refine aw_aload_n C dc_M_clear_25 rfl ?_
  refine aw_iload_n C dc_M_clear_26 rfl ?_
  refine kc_i (fun _ h => h) (fun _ h => h) (kc_V (n := 1) C hX xk_true rfl 0 rf_p0 rfl (m_countOf l D a cI cL cF (nI 0) S K Qt O1 O2 En Ot Wt i hi) kw_697 kw_694 kw_696 (tw_sel (q := (my_M_countOf, 9)) (by decide +kernel)) kw_8 rfl (by unfold kd_; decide) ⟨rfl, rfl, by decide, by decide⟩ rfl rfl (Nat.le_of_ble_eq_true rfl) ⟨Nat.zero_le _, Nat.zero_le _⟩ dc_M_clear_27) ?_
  refine aw_istore_n C dc_M_clear_30 (by decide) rfl ?_
  refine aw_iconst C dc_M_clear_31 (v := nI 0) rfl ?_
  refine aw_istore_n C dc_M_clear_32 (by decide) rfl ?_
  refine aw_P (P' := rp_ D a cI cL (nI 0) (sl_ S i (fun _ => 0) 0) K Qt O1 O2 En Ot Wt) (fun H h => by rw [sl_0]; exact h) ?_
  refine aw_loop (fun k => rp_ D a cI cL (nI 0) (sl_ S i (fun _ => 0) k) K Qt O1 O2 En Ot Wt) (fun k => [some (.ref a), some (.int (nI i)), some (.int (nI (tw64_ (rw_ S i) 64))), some (.int (nI k))]) 64 ?_ (fun k hk ih => ?_)
  · refine aw_iload_n C dc_M_clear_33 rfl ?_
    refine aw_bipush C dc_M_clear_34 (v := nI 64) rfl ?_
    refine aw_icmp_ge C dc_M_clear_36 (tgt := 57) (by decide) (fun _ => ?_) (fun h9 => absurd (nI_le (Nat.le_refl _) (by decide)) h9)
    refine aw_iload_n C dc_M_clear_57 rfl ?_
    exact kc_iret C hr rfl (fun _ h => h) dc_M_clear_58
  · refine aw_iload_n C dc_M_clear_33 rfl ?_
    refine aw_bipush C dc_M_clear_34 (v := nI 64) rfl ?_
    refine aw_icmp_ge C dc_M_clear_36 (tgt := 57) (by decide) (fun h9 => absurd h9 (nI_ge hk (by decide))) (fun _ => ?_)
    refine aw_aload_n C dc_M_clear_39 rfl ?_
    refine aw_get C (fun w h => List.mem_cons_of_mem _ (ly_M w h)) 0 rf_p0 rfl 1 (by decide) (C.1.2.2.2.2 _ (List.mem_cons_of_mem _ kw_637)) (fun _ h => h) rfl dc_M_clear_40 ?_
    refine aw_bipush C dc_M_clear_43 (v := nI 64) rfl ?_
    refine aw_iload_n C dc_M_clear_45 rfl ?_
    refine aw_imul C dc_M_clear_46 ?_
    refine aw_iload_n C dc_M_clear_47 rfl ?_
    refine aw_iadd C dc_M_clear_48 ?_
    refine aw_lconst C dc_M_clear_49 (v := 0) rfl ?_
    refine aw_last C rf_D 1 1 rf_p1 rfl (64 * i + k) (ms_i2 i k) (by omega) (by decide) (ws' := rf_ a cI cL (nI 0) (sl_ S i (fun _ => 0) (k + 1)) K Qt O1 O2 En Ot Wt) (by rw [← sl_s]; rfl) dc_M_clear_50 ?_
    refine aw_iinc C dc_M_clear_51 rfl (ni_inc _) (by decide) rfl ?_
    refine aw_goto C dc_M_clear_54 (tgt := 33) (by decide) ?_
    exact ih
set_option maxHeartbeats 4000000 in
set_option maxRecDepth 100000 in
theorem m_makePairs (l : Launch) (D : va_G) (a : Nat) (cI cL cF : ClassId) (t : Int32) (S K Qt : Nat → Int64) (O1 O2 En Ot Wt : Nat → Int32) (f9 : Nat) (hf : f9 < 10) (g9 : Nat) (hg : g9 < 10) (ov : Bool) : kv_ l my_M_makePairs (Cond.code my_M_makePairs bc_M_makePairs 5 none :: tw_) ({ frames := 2, cells := 0, slots := 0, locals := 45 }) D (ty_s cI cL cF) (fun _ => True) (cm_ a) [.ref a, .int (nI f9), .int (nI g9), .int (z1_ ov)] (rp_ D a cI cL t S K Qt O1 O2 En Ot Wt) (rp_ D a cI cL t S (mkl_ K (fun p => decide (0 < (pz_ ov (fb_ (rw_ S f9)) (fb_ (rw_ S g9)) O1 O2) p)) (fun p => p) 4096) Qt (pz_ ov (fb_ (rw_ S f9)) (fb_ (rw_ S g9)) O1 O2) (zo_ (· + ·) ov (ll_ (fb_ (rw_ S g9)) O2 4096) 12) En Ot Wt) := by
  refine aw_met (A := cm_ a) (own := "FamilyShelfModel") (by decide) rfl rfl (Nat.le_of_ble_eq_true rfl) ?_
  intro p9 e s m args below meth c C hr hX hP0
  refine aw_lw (lw' := [some (.ref a), some (.int (nI f9)), some (.int (nI g9)), some (.int (z1_ ov)), none]) rfl ?_
  refine aw_aload_n C dc_M_makePairs_0 rfl ?_
  refine aw_aload_n C dc_M_makePairs_1 rfl ?_
  refine aw_get C (fun w h => List.mem_cons_of_mem _ (ly_M w h)) 0 rf_p0 rfl 4 (by decide) (C.1.2.2.2.2 _ (List.mem_cons_of_mem _ kw_640)) (fun _ h => h) rfl dc_M_makePairs_2 ?_
  refine aw_iload_n C dc_M_makePairs_5 rfl ?_
  refine kc_v (fun _ h => h) (fun _ h => h) (kc_V (n := 2) C hX xk_true rfl 0 rf_p0 rfl (m_load4 l D a cI cL cF t S K Qt O1 O2 En Ot Wt f9 hf) kw_716 kw_713 kw_715 (tw_sel (q := (my_M_load, 9)) (by decide +kernel)) kw_8 rfl (by unfold kd_; decide) ⟨rfl, rfl, by decide, by decide⟩ rfl rfl (Nat.le_of_ble_eq_true rfl) ⟨Nat.zero_le _, Nat.zero_le _⟩ dc_M_makePairs_6) ?_
  refine aw_aload_n C dc_M_makePairs_9 rfl ?_
  refine aw_aload_n C dc_M_makePairs_10 rfl ?_
  refine aw_get C (fun w h => List.mem_cons_of_mem _ (ly_M w h)) 0 rf_p0 rfl 5 (by decide) (C.1.2.2.2.2 _ (List.mem_cons_of_mem _ kw_641)) (fun _ h => h) rfl dc_M_makePairs_11 ?_
  refine aw_iload_n C dc_M_makePairs_14 rfl ?_
  refine kc_v (fun _ h => h) (fun _ h => h) (kc_V (n := 2) C hX xk_true rfl 0 rf_p0 rfl (m_load5 l D a cI cL cF t S K Qt (ll_ (fb_ (rw_ S f9)) O1 4096) O2 En Ot Wt g9 hg) kw_716 kw_713 kw_715 (tw_sel (q := (my_M_load, 9)) (by decide +kernel)) kw_8 rfl (by unfold kd_; decide) ⟨rfl, rfl, by decide, by decide⟩ rfl rfl (Nat.le_of_ble_eq_true rfl) ⟨Nat.zero_le _, Nat.zero_le _⟩ dc_M_makePairs_15) ?_
  refine aw_aload_n C dc_M_makePairs_18 rfl ?_
  refine aw_get C (fun w h => List.mem_cons_of_mem _ (ly_M w h)) 0 rf_p0 rfl 4 (by decide) (C.1.2.2.2.2 _ (List.mem_cons_of_mem _ kw_640)) (fun _ h => h) rfl dc_M_makePairs_19 ?_
  refine aw_iload_n C dc_M_makePairs_22 rfl ?_
  refine kc_v (fun _ h => h) (fun _ h => h) (kc_S (n := 2) C hX xk_true (m_sum l D _ _ _ (rf_ a cI cL t S K Qt (ll_ (fb_ (rw_ S f9)) O1 4096) (ll_ (fb_ (rw_ S g9)) O2 4096) En Ot Wt) rf_D 4 0 (a + 4) cI (ll_ (fb_ (rw_ S f9)) O1 4096) rf_p4 rfl ov) kw_719 kw_717 kw_718 kw_8 (by unfold kd_; decide) ⟨rfl, rfl, by decide, by decide⟩ rfl rfl (Nat.le_of_ble_eq_true rfl) ⟨Nat.zero_le _, Nat.zero_le _⟩ dc_M_makePairs_23) ?_
  refine aw_P (P' := rp_ D a cI cL t S K Qt (zo_ (· + ·) ov (ll_ (fb_ (rw_ S f9)) O1 4096) 12) (ll_ (fb_ (rw_ S g9)) O2 4096) En Ot Wt) (fun H h => h) ?_
  refine aw_aload_n C dc_M_makePairs_26 rfl ?_
  refine aw_get C (fun w h => List.mem_cons_of_mem _ (ly_M w h)) 0 rf_p0 rfl 5 (by decide) (C.1.2.2.2.2 _ (List.mem_cons_of_mem _ kw_641)) (fun _ h => h) rfl dc_M_makePairs_27 ?_
  refine aw_iload_n C dc_M_makePairs_30 rfl ?_
  refine kc_v (fun _ h => h) (fun _ h => h) (kc_S (n := 2) C hX xk_true (m_sum l D _ _ _ (rf_ a cI cL t S K Qt (zo_ (· + ·) ov (ll_ (fb_ (rw_ S f9)) O1 4096) 12) (ll_ (fb_ (rw_ S g9)) O2 4096) En Ot Wt) rf_D 5 0 (a + 5) cI (ll_ (fb_ (rw_ S g9)) O2 4096) rf_p5 rfl ov) kw_719 kw_717 kw_718 kw_8 (by unfold kd_; decide) ⟨rfl, rfl, by decide, by decide⟩ rfl rfl (Nat.le_of_ble_eq_true rfl) ⟨Nat.zero_le _, Nat.zero_le _⟩ dc_M_makePairs_31) ?_
  refine aw_P (P' := rp_ D a cI cL t S K Qt (zo_ (· + ·) ov (ll_ (fb_ (rw_ S f9)) O1 4096) 12) (zo_ (· + ·) ov (ll_ (fb_ (rw_ S g9)) O2 4096) 12) En Ot Wt) (fun H h => h) ?_
  refine aw_iconst C dc_M_makePairs_34 (v := nI 0) rfl ?_
  refine aw_istore C dc_M_makePairs_35 (by decide) rfl ?_
  refine aw_P (P' := rp_ D a cI cL t S K Qt (mul_ (zo_ (· + ·) ov (ll_ (fb_ (rw_ S f9)) O1 4096) 12) (zo_ (· + ·) ov (ll_ (fb_ (rw_ S g9)) O2 4096) 12) 0) (zo_ (· + ·) ov (ll_ (fb_ (rw_ S g9)) O2 4096) 12) En Ot Wt) (fun H h => by rw [mul_0]; exact h) ?_
  refine aw_loop (fun k => rp_ D a cI cL t S K Qt (mul_ (zo_ (· + ·) ov (ll_ (fb_ (rw_ S f9)) O1 4096) 12) (zo_ (· + ·) ov (ll_ (fb_ (rw_ S g9)) O2 4096) 12) k) (zo_ (· + ·) ov (ll_ (fb_ (rw_ S g9)) O2 4096) 12) En Ot Wt) (fun k => [some (.ref a), some (.int (nI f9)), some (.int (nI g9)), some (.int (z1_ ov)), some (.int (nI k))]) 4096 ?_ (fun k hk ih => ?_)
  · refine aw_iload C dc_M_makePairs_37 rfl ?_
    refine aw_sipush C dc_M_makePairs_39 (v := nI 4096) rfl ?_
    refine aw_icmp_ge C dc_M_makePairs_42 (tgt := 73) (by decide) (fun _ => ?_) (fun h9 => absurd (nI_le (Nat.le_refl _) (by decide)) h9)
    refine aw_aload_n C dc_M_makePairs_73 rfl ?_
    refine aw_get C (fun w h => List.mem_cons_of_mem _ (ly_M w h)) 0 rf_p0 rfl 4 (by decide) (C.1.2.2.2.2 _ (List.mem_cons_of_mem _ kw_640)) (fun _ h => h) rfl dc_M_makePairs_74 ?_
    refine aw_iload_n C dc_M_makePairs_77 rfl ?_
    refine kc_v (fun _ h => h) (fun _ h => h) (kc_S (n := 2) C hX xk_true (m_part l D _ _ _ (rf_ a cI cL t S K Qt (mul_ (zo_ (· + ·) ov (ll_ (fb_ (rw_ S f9)) O1 4096) 12) (zo_ (· + ·) ov (ll_ (fb_ (rw_ S g9)) O2 4096) 12) 4096) (zo_ (· + ·) ov (ll_ (fb_ (rw_ S g9)) O2 4096) 12) En Ot Wt) rf_D 4 0 (a + 4) cI (mul_ (zo_ (· + ·) ov (ll_ (fb_ (rw_ S f9)) O1 4096) 12) (zo_ (· + ·) ov (ll_ (fb_ (rw_ S g9)) O2 4096) 12) 4096) rf_p4 rfl ov) kw_722 kw_720 kw_721 kw_8 (by unfold kd_; decide) ⟨rfl, rfl, by decide, by decide⟩ rfl rfl (Nat.le_of_ble_eq_true rfl) ⟨Nat.zero_le _, Nat.zero_le _⟩ dc_M_makePairs_78) ?_
    refine aw_P (P' := rp_ D a cI cL t S K Qt (pz_ ov (fb_ (rw_ S f9)) (fb_ (rw_ S g9)) O1 O2) (zo_ (· + ·) ov (ll_ (fb_ (rw_ S g9)) O2 4096) 12) En Ot Wt) (fun H h => h) ?_
    refine aw_iconst C dc_M_makePairs_81 (v := nI 0) rfl ?_
    refine aw_istore C dc_M_makePairs_82 (by decide) rfl ?_
    refine aw_loop (fun k => rp_ D a cI cL t S (mkl_ K (fun p => decide (0 < (pz_ ov (fb_ (rw_ S f9)) (fb_ (rw_ S g9)) O1 O2) p)) (fun p => p) k) Qt (pz_ ov (fb_ (rw_ S f9)) (fb_ (rw_ S g9)) O1 O2) (zo_ (· + ·) ov (ll_ (fb_ (rw_ S g9)) O2 4096) 12) En Ot Wt) (fun k => [some (.ref a), some (.int (nI f9)), some (.int (nI g9)), some (.int (z1_ ov)), some (.int (nI k))]) 4096 ?_ (fun k hk ih => ?_)
    · refine aw_iload C dc_M_makePairs_84 rfl ?_
      refine aw_sipush C dc_M_makePairs_86 (v := nI 4096) rfl ?_
      refine aw_icmp_ge C dc_M_makePairs_89 (tgt := 114) (by decide) (fun _ => ?_) (fun h9 => absurd (nI_le (Nat.le_refl _) (by decide)) h9)
      exact kc_vret C hr (fun _ h => h) dc_M_makePairs_114
    · refine aw_iload C dc_M_makePairs_84 rfl ?_
      refine aw_sipush C dc_M_makePairs_86 (v := nI 4096) rfl ?_
      refine aw_icmp_ge C dc_M_makePairs_89 (tgt := 114) (by decide) (fun h9 => absurd h9 (nI_ge hk (by decide))) (fun _ => ?_)
      refine aw_aload_n C dc_M_makePairs_92 rfl ?_
      refine aw_get C (fun w h => List.mem_cons_of_mem _ (ly_M w h)) 0 rf_p0 rfl 4 (by decide) (C.1.2.2.2.2 _ (List.mem_cons_of_mem _ kw_640)) (fun _ h => h) rfl dc_M_makePairs_93 ?_
      refine aw_iload C dc_M_makePairs_96 rfl ?_
      refine aw_iald C 4 0 rf_p4 rfl k rfl (by omega) (by decide) dc_M_makePairs_98 ?_
      refine aw_if_le C dc_M_makePairs_99 (tgt := 108) (by decide) (fun hB99 => ?_) (fun hB99 => ?_)
      · rw [mkl_f (n := k) (f := (fun p => decide (0 < (pz_ ov (fb_ (rw_ S f9)) (fb_ (rw_ S g9)) O1 O2) p))) (decide_eq_false (Int32.not_lt.mpr hB99))] at ih
        refine aw_iinc C dc_M_makePairs_108 rfl (ni_inc _) (by decide) rfl ?_
        refine aw_goto C dc_M_makePairs_111 (tgt := 84) (by decide) ?_
        exact ih
      · rw [mkl_t (n := k) (f := (fun p => decide (0 < (pz_ ov (fb_ (rw_ S f9)) (fb_ (rw_ S g9)) O1 O2) p))) (decide_eq_true (Int32.not_le.mp hB99))] at ih
        refine aw_aload_n C dc_M_makePairs_102 rfl ?_
        refine aw_iload C dc_M_makePairs_103 rfl ?_
        refine kc_v (fun _ h => h) (fun _ h => h) (kc_V (n := 1) C hX xk_true rfl 0 rf_p0 rfl (m_make l D a cI cL cF t S (mkl_ K (fun p => decide (0 < (pz_ ov (fb_ (rw_ S f9)) (fb_ (rw_ S g9)) O1 O2) p)) (fun p => p) k) Qt (pz_ ov (fb_ (rw_ S f9)) (fb_ (rw_ S g9)) O1 O2) (zo_ (· + ·) ov (ll_ (fb_ (rw_ S g9)) O2 4096) 12) En Ot Wt k hk) kw_726 kw_723 kw_725 (tw_sel (q := (my_M_make, 9)) (by decide +kernel)) kw_8 rfl (by unfold kd_; decide) ⟨rfl, rfl, by decide, by decide⟩ rfl rfl (Nat.le_of_ble_eq_true rfl) ⟨Nat.zero_le _, Nat.zero_le _⟩ dc_M_makePairs_105) ?_
        refine aw_iinc C dc_M_makePairs_108 rfl (ni_inc _) (by decide) rfl ?_
        refine aw_goto C dc_M_makePairs_111 (tgt := 84) (by decide) ?_
        exact ih
  · refine aw_iload C dc_M_makePairs_37 rfl ?_
    refine aw_sipush C dc_M_makePairs_39 (v := nI 4096) rfl ?_
    refine aw_icmp_ge C dc_M_makePairs_42 (tgt := 73) (by decide) (fun h9 => absurd h9 (nI_ge hk (by decide))) (fun _ => ?_)
    refine aw_aload_n C dc_M_makePairs_45 rfl ?_
    refine aw_get C (fun w h => List.mem_cons_of_mem _ (ly_M w h)) 0 rf_p0 rfl 4 (by decide) (C.1.2.2.2.2 _ (List.mem_cons_of_mem _ kw_640)) (fun _ h => h) rfl dc_M_makePairs_46 ?_
    refine aw_iload C dc_M_makePairs_49 rfl ?_
    refine aw_aload_n C dc_M_makePairs_51 rfl ?_
    refine aw_get C (fun w h => List.mem_cons_of_mem _ (ly_M w h)) 0 rf_p0 rfl 4 (by decide) (C.1.2.2.2.2 _ (List.mem_cons_of_mem _ kw_640)) (fun _ h => h) rfl dc_M_makePairs_52 ?_
    refine aw_iload C dc_M_makePairs_55 rfl ?_
    refine aw_iald C 4 0 rf_p4 rfl k rfl (by omega) (by decide) dc_M_makePairs_57 ?_
    refine aw_aload_n C dc_M_makePairs_58 rfl ?_
    refine aw_get C (fun w h => List.mem_cons_of_mem _ (ly_M w h)) 0 rf_p0 rfl 5 (by decide) (C.1.2.2.2.2 _ (List.mem_cons_of_mem _ kw_641)) (fun _ h => h) rfl dc_M_makePairs_59 ?_
    refine aw_iload C dc_M_makePairs_62 rfl ?_
    refine aw_iald C 5 0 rf_p5 rfl k rfl (by omega) (by decide) dc_M_makePairs_64 ?_
    refine aw_imul C dc_M_makePairs_65 ?_
    refine aw_iast C rf_D 4 0 rf_p4 rfl k rfl (by omega) (by decide) (ws' := rf_ a cI cL t S K Qt (mul_ (zo_ (· + ·) ov (ll_ (fb_ (rw_ S f9)) O1 4096) 12) (zo_ (· + ·) ov (ll_ (fb_ (rw_ S g9)) O2 4096) 12) (k + 1)) (zo_ (· + ·) ov (ll_ (fb_ (rw_ S g9)) O2 4096) 12) En Ot Wt) (by rw [← mul_s]; rfl) dc_M_makePairs_66 ?_
    refine aw_iinc C dc_M_makePairs_67 rfl (ni_inc _) (by decide) rfl ?_
    refine aw_goto C dc_M_makePairs_70 (tgt := 37) (by decide) ?_
    exact ih
set_option maxHeartbeats 4000000 in
set_option maxRecDepth 100000 in
theorem m_makeFree (l : Launch) (D : va_G) (a : Nat) (cI cL cF : ClassId) (t : Int32) (S K Qt : Nat → Int64) (O1 O2 En Ot Wt : Nat → Int32) (f9 : Nat) (hf : f9 < 10) (g9 : Nat) (hg : g9 < 10) (ov : Bool) : kv_ l my_M_makeFree (Cond.code my_M_makeFree bc_M_makeFree 5 none :: tw_) ({ frames := 2, cells := 0, slots := 0, locals := 45 }) D (ty_s cI cL cF) (fun _ => True) (cm_ a) [.ref a, .int (nI f9), .int (nI g9), .int (z1_ ov)] (rp_ D a cI cL t S K Qt O1 O2 En Ot Wt) (rp_ D a cI cL t S (mkl_ K (fun p => (fb_ (rw_ S f9)) p && decide ((zo_ (· + ·) ov (ll_ (fb_ (rw_ S g9)) O2 4096) 12) p = 0)) (fun p => p) 4096) Qt O1 (zo_ (· + ·) ov (ll_ (fb_ (rw_ S g9)) O2 4096) 12) En Ot Wt) := by
  refine aw_met (A := cm_ a) (own := "FamilyShelfModel") (by decide) rfl rfl (Nat.le_of_ble_eq_true rfl) ?_
  intro p9 e s m args below meth c C hr hX hP0
  refine aw_lw (lw' := [some (.ref a), some (.int (nI f9)), some (.int (nI g9)), some (.int (z1_ ov)), none]) rfl ?_
  refine aw_aload_n C dc_M_makeFree_0 rfl ?_
  refine aw_aload_n C dc_M_makeFree_1 rfl ?_
  refine aw_get C (fun w h => List.mem_cons_of_mem _ (ly_M w h)) 0 rf_p0 rfl 5 (by decide) (C.1.2.2.2.2 _ (List.mem_cons_of_mem _ kw_641)) (fun _ h => h) rfl dc_M_makeFree_2 ?_
  refine aw_iload_n C dc_M_makeFree_5 rfl ?_
  refine kc_v (fun _ h => h) (fun _ h => h) (kc_V (n := 2) C hX xk_true rfl 0 rf_p0 rfl (m_load5 l D a cI cL cF t S K Qt O1 O2 En Ot Wt g9 hg) kw_716 kw_713 kw_715 (tw_sel (q := (my_M_load, 9)) (by decide +kernel)) kw_8 rfl (by unfold kd_; decide) ⟨rfl, rfl, by decide, by decide⟩ rfl rfl (Nat.le_of_ble_eq_true rfl) ⟨Nat.zero_le _, Nat.zero_le _⟩ dc_M_makeFree_6) ?_
  refine aw_aload_n C dc_M_makeFree_9 rfl ?_
  refine aw_get C (fun w h => List.mem_cons_of_mem _ (ly_M w h)) 0 rf_p0 rfl 5 (by decide) (C.1.2.2.2.2 _ (List.mem_cons_of_mem _ kw_641)) (fun _ h => h) rfl dc_M_makeFree_10 ?_
  refine aw_iload_n C dc_M_makeFree_13 rfl ?_
  refine kc_v (fun _ h => h) (fun _ h => h) (kc_S (n := 2) C hX xk_true (m_sum l D _ _ _ (rf_ a cI cL t S K Qt O1 (ll_ (fb_ (rw_ S g9)) O2 4096) En Ot Wt) rf_D 5 0 (a + 5) cI (ll_ (fb_ (rw_ S g9)) O2 4096) rf_p5 rfl ov) kw_719 kw_717 kw_718 kw_8 (by unfold kd_; decide) ⟨rfl, rfl, by decide, by decide⟩ rfl rfl (Nat.le_of_ble_eq_true rfl) ⟨Nat.zero_le _, Nat.zero_le _⟩ dc_M_makeFree_14) ?_
  refine aw_P (P' := rp_ D a cI cL t S K Qt O1 (zo_ (· + ·) ov (ll_ (fb_ (rw_ S g9)) O2 4096) 12) En Ot Wt) (fun H h => h) ?_
  refine aw_iconst C dc_M_makeFree_17 (v := nI 0) rfl ?_
  refine aw_istore C dc_M_makeFree_18 (by decide) rfl ?_
  refine aw_loop (fun k => rp_ D a cI cL t S (mkl_ K (fun p => (fb_ (rw_ S f9)) p && decide ((zo_ (· + ·) ov (ll_ (fb_ (rw_ S g9)) O2 4096) 12) p = 0)) (fun p => p) k) Qt O1 (zo_ (· + ·) ov (ll_ (fb_ (rw_ S g9)) O2 4096) 12) En Ot Wt) (fun k => [some (.ref a), some (.int (nI f9)), some (.int (nI g9)), some (.int (z1_ ov)), some (.int (nI k))]) 4096 ?_ (fun k hk ih => ?_)
  · refine aw_iload C dc_M_makeFree_20 rfl ?_
    refine aw_sipush C dc_M_makeFree_22 (v := nI 4096) rfl ?_
    refine aw_icmp_ge C dc_M_makeFree_25 (tgt := 60) (by decide) (fun _ => ?_) (fun h9 => absurd (nI_le (Nat.le_refl _) (by decide)) h9)
    exact kc_vret C hr (fun _ h => h) dc_M_makeFree_60
  · refine aw_iload C dc_M_makeFree_20 rfl ?_
    refine aw_sipush C dc_M_makeFree_22 (v := nI 4096) rfl ?_
    refine aw_icmp_ge C dc_M_makeFree_25 (tgt := 60) (by decide) (fun h9 => absurd h9 (nI_ge hk (by decide))) (fun _ => ?_)
    refine aw_aload_n C dc_M_makeFree_28 rfl ?_
    refine aw_iload_n C dc_M_makeFree_29 rfl ?_
    refine aw_iload C dc_M_makeFree_30 rfl ?_
    refine kc_i (fun _ h => h) (fun _ h => h) (kc_V (n := 2) C hX xk_true rfl 0 rf_p0 rfl (m_isIn l D a cI cL cF t S (mkl_ K (fun p => (fb_ (rw_ S f9)) p && decide ((zo_ (· + ·) ov (ll_ (fb_ (rw_ S g9)) O2 4096) 12) p = 0)) (fun p => p) k) Qt O1 (zo_ (· + ·) ov (ll_ (fb_ (rw_ S g9)) O2 4096) 12) En Ot Wt f9 hf k hk) kw_684 kw_681 kw_683 (tw_sel (q := (my_M_isIn, 9)) (by decide +kernel)) kw_8 rfl (by unfold kd_; decide) ⟨rfl, rfl, by decide, by decide⟩ rfl rfl (Nat.le_of_ble_eq_true rfl) ⟨Nat.zero_le _, Nat.zero_le _⟩ dc_M_makeFree_32) ?_
    refine aw_if_eq C dc_M_makeFree_35 (tgt := 54) (by decide) (fun hB35 => ?_) (fun hB35 => ?_)
    · rw [mkl_f (n := k) (f := (fun p => (fb_ (rw_ S f9)) p && decide ((zo_ (· + ·) ov (ll_ (fb_ (rw_ S g9)) O2 4096) 12) p = 0))) (by show (_ && _) = false; rw [z1_0.mp hB35]; rfl)] at ih
      refine aw_iinc C dc_M_makeFree_54 rfl (ni_inc _) (by decide) rfl ?_
      refine aw_goto C dc_M_makeFree_57 (tgt := 20) (by decide) ?_
      exact ih
    · have hb := z1_n.mp hB35
      refine aw_aload_n C dc_M_makeFree_38 rfl ?_
      refine aw_get C (fun w h => List.mem_cons_of_mem _ (ly_M w h)) 0 rf_p0 rfl 5 (by decide) (C.1.2.2.2.2 _ (List.mem_cons_of_mem _ kw_641)) (fun _ h => h) rfl dc_M_makeFree_39 ?_
      refine aw_iload C dc_M_makeFree_42 rfl ?_
      refine aw_iald C 5 0 rf_p5 rfl k rfl (by omega) (by decide) dc_M_makeFree_44 ?_
      refine aw_if_ne C dc_M_makeFree_45 (tgt := 54) (by decide) (fun hB45 => ?_) (fun hB45 => ?_)
      · rw [mkl_f (n := k) (f := (fun p => (fb_ (rw_ S f9)) p && decide ((zo_ (· + ·) ov (ll_ (fb_ (rw_ S g9)) O2 4096) 12) p = 0))) (by show (_ && _) = false; rw [hb, decide_eq_false hB45]; rfl)] at ih
        refine aw_iinc C dc_M_makeFree_54 rfl (ni_inc _) (by decide) rfl ?_
        refine aw_goto C dc_M_makeFree_57 (tgt := 20) (by decide) ?_
        exact ih
      · rw [mkl_t (n := k) (f := (fun p => (fb_ (rw_ S f9)) p && decide ((zo_ (· + ·) ov (ll_ (fb_ (rw_ S g9)) O2 4096) 12) p = 0))) (by show (_ && _) = true; rw [hb, decide_eq_true hB45]; rfl)] at ih
        refine aw_aload_n C dc_M_makeFree_48 rfl ?_
        refine aw_iload C dc_M_makeFree_49 rfl ?_
        refine kc_v (fun _ h => h) (fun _ h => h) (kc_V (n := 1) C hX xk_true rfl 0 rf_p0 rfl (m_make l D a cI cL cF t S (mkl_ K (fun p => (fb_ (rw_ S f9)) p && decide ((zo_ (· + ·) ov (ll_ (fb_ (rw_ S g9)) O2 4096) 12) p = 0)) (fun p => p) k) Qt O1 (zo_ (· + ·) ov (ll_ (fb_ (rw_ S g9)) O2 4096) 12) En Ot Wt k hk) kw_726 kw_723 kw_725 (tw_sel (q := (my_M_make, 9)) (by decide +kernel)) kw_8 rfl (by unfold kd_; decide) ⟨rfl, rfl, by decide, by decide⟩ rfl rfl (Nat.le_of_ble_eq_true rfl) ⟨Nat.zero_le _, Nat.zero_le _⟩ dc_M_makeFree_51) ?_
        refine aw_iinc C dc_M_makeFree_54 rfl (ni_inc _) (by decide) rfl ?_
        refine aw_goto C dc_M_makeFree_57 (tgt := 20) (by decide) ?_
        exact ih
set_option maxHeartbeats 4000000 in
set_option maxRecDepth 100000 in
theorem m_makeQuotient (l : Launch) (D : va_G) (a : Nat) (cI cL cF : ClassId) (t : Int32) (S K Qt : Nat → Int64) (O1 O2 En Ot Wt : Nat → Int32) (f9 : Nat) (hf : f9 < 10) (g9 : Nat) (hg : g9 < 10) : kv_ l my_M_makeQuotient (Cond.code my_M_makeQuotient bc_M_makeQuotient 7 none :: tw_) ({ frames := 1, cells := 0, slots := 0, locals := 22 }) D (ty_s cI cL cF) (fun _ => True) (cm_ a) [.ref a, .int (nI f9), .int (nI g9)] (rp_ D a cI cL t S K Qt O1 O2 En Ot Wt) (rp_ D a cI cL t S (mkl_ K (qo_ (fb_ (rw_ S f9)) (fb_ (rw_ S g9)) (al_ (fb_ (rw_ S g9)) 4096)) (fun p => p) 4096) Qt O1 O2 En Ot Wt) := by
  refine aw_met (A := cm_ a) (own := "FamilyShelfModel") (by decide) rfl rfl (Nat.le_of_ble_eq_true rfl) ?_
  intro p9 e s m args below meth c C hr hX hP0
  refine aw_lw (lw' := [some (.ref a), some (.int (nI f9)), some (.int (nI g9)), none, none, none, none]) rfl ?_
  refine aw_iconst C dc_M_makeQuotient_0 (v := nI 0) rfl ?_
  refine aw_istore_n C dc_M_makeQuotient_1 (by decide) rfl ?_
  refine aw_iconst C dc_M_makeQuotient_2 (v := nI 0) rfl ?_
  refine aw_istore C dc_M_makeQuotient_3 (by decide) rfl ?_
  have hal : (al_ (fb_ (rw_ S g9)) 4096) < 4096 := al_lt _ (Nat.le_refl _)
  refine aw_loop (fun k => rp_ D a cI cL t S K Qt O1 O2 En Ot Wt) (fun k => [some (.ref a), some (.int (nI f9)), some (.int (nI g9)), some (.int (nI (al_ (fb_ (rw_ S g9)) k))), some (.int (nI k)), none, none]) 4096 ?_ (fun k hk ih => ?_)
  · refine aw_iload C dc_M_makeQuotient_5 rfl ?_
    refine aw_sipush C dc_M_makeQuotient_7 (v := nI 4096) rfl ?_
    refine aw_icmp_ge C dc_M_makeQuotient_10 (tgt := 38) (by decide) (fun _ => ?_) (fun h9 => absurd (nI_le (Nat.le_refl _) (by decide)) h9)
    refine aw_iconst C dc_M_makeQuotient_38 (v := nI 0) rfl ?_
    refine aw_istore C dc_M_makeQuotient_39 (by decide) rfl ?_
    refine aw_loop (fun k => rp_ D a cI cL t S (mkl_ K (qo_ (fb_ (rw_ S f9)) (fb_ (rw_ S g9)) (al_ (fb_ (rw_ S g9)) 4096)) (fun p => p) k) Qt O1 O2 En Ot Wt) (fun k => [some (.ref a), some (.int (nI f9)), some (.int (nI g9)), some (.int (nI (al_ (fb_ (rw_ S g9)) 4096))), some (.int (nI k)), none, none]) 4096 ?_ (fun k hk ih => ?_)
    · refine aw_iload C dc_M_makeQuotient_41 rfl ?_
      refine aw_sipush C dc_M_makeQuotient_43 (v := nI 4096) rfl ?_
      refine aw_icmp_ge C dc_M_makeQuotient_46 (tgt := 143) (by decide) (fun _ => ?_) (fun h9 => absurd (nI_le (Nat.le_refl _) (by decide)) h9)
      exact kc_vret C hr (fun _ h => h) dc_M_makeQuotient_143
    · refine aw_iload C dc_M_makeQuotient_41 rfl ?_
      refine aw_sipush C dc_M_makeQuotient_43 (v := nI 4096) rfl ?_
      refine aw_icmp_ge C dc_M_makeQuotient_46 (tgt := 143) (by decide) (fun h9 => absurd h9 (nI_ge hk (by decide))) (fun _ => ?_)
      refine aw_iload C dc_M_makeQuotient_49 rfl ?_
      refine aw_iload_n C dc_M_makeQuotient_51 rfl ?_
      refine aw_iand C dc_M_makeQuotient_52 ?_
      refine aw_eqi ((ni_and _ _).trans rfl) ?_
      have hlt : k &&& (al_ (fb_ (rw_ S g9)) 4096) < 2 ^ 31 := Nat.lt_of_le_of_lt Nat.and_le_left (by omega)
      refine aw_if_ne C dc_M_makeQuotient_53 (tgt := 60) (by decide) (fun hB53 => ?_) (fun hB53 => ?_)
      · have hq : (qo_ (fb_ (rw_ S f9)) (fb_ (rw_ S g9)) (al_ (fb_ (rw_ S g9)) 4096)) k = false := by unfold qo_; rw [if_neg (fun h9 => hB53 ((ni_z hlt).mpr h9))]
        rw [mkl_f hq] at ih
        refine aw_iconst C dc_M_makeQuotient_60 (v := nI 0) rfl ?_
        refine aw_istore C dc_M_makeQuotient_61 (by decide) rfl ?_
        refine aw_iload_n C dc_M_makeQuotient_63 rfl ?_
        refine aw_istore C dc_M_makeQuotient_64 (by decide) rfl ?_
        refine aw_iload C dc_M_makeQuotient_66 rfl ?_
        refine aw_if_eq C dc_M_makeQuotient_68 (tgt := 126) (by decide) (fun _ => ?_) (fun h9 => absurd (by decide) h9)
        refine aw_iload C dc_M_makeQuotient_126 rfl ?_
        refine aw_if_eq C dc_M_makeQuotient_128 (tgt := 137) (by decide) (fun _ => ?_) (fun h9 => absurd (by decide) h9)
        refine aw_iinc C dc_M_makeQuotient_137 rfl (ni_inc _) (by decide) rfl ?_
        refine aw_goto C dc_M_makeQuotient_140 (tgt := 41) (by decide) ?_
        refine aw_sub (lw' := [some (.ref a), some (.int (nI f9)), some (.int (nI g9)), some (.int (nI (al_ (fb_ (rw_ S g9)) 4096))), some (.int (nI (k + 1))), none, none]) (by
          intro k v h
          match k, h with
          | 0, h => exact h
          | 1, h => exact h
          | 2, h => exact h
          | 3, h => exact h
          | 4, h => exact h
          | 5, h => exact nomatch (show (some none : Option (Option Value)) = some (some v) from h)
          | 6, h => exact nomatch (show (some none : Option (Option Value)) = some (some v) from h)
          | n + 7, h => exact nomatch (show (none : Option (Option Value)) = some (some v) from h)) ?_
        exact ih
      · have hq : (qo_ (fb_ (rw_ S f9)) (fb_ (rw_ S g9)) (al_ (fb_ (rw_ S g9)) 4096)) k = sq_ (fun b => !(fb_ (rw_ S g9)) b || (fb_ (rw_ S f9)) (k ||| b)) (al_ (fb_ (rw_ S g9)) 4096) 4096 (al_ (fb_ (rw_ S g9)) 4096) := by unfold qo_; rw [if_pos ((ni_z hlt).mp hB53)]
        refine aw_iconst C dc_M_makeQuotient_56 (v := nI 1) rfl ?_
        refine aw_goto C dc_M_makeQuotient_57 (tgt := 61) (by decide) ?_
        refine aw_istore C dc_M_makeQuotient_61 (by decide) rfl ?_
        refine aw_iload_n C dc_M_makeQuotient_63 rfl ?_
        refine aw_istore C dc_M_makeQuotient_64 (by decide) rfl ?_
        refine aw_fuel (pc2 := 126) (fun b : Nat => b < 4096) (fun b => b) (fun _ => rp_ D a cI cL t S (mkl_ K (qo_ (fb_ (rw_ S f9)) (fb_ (rw_ S g9)) (al_ (fb_ (rw_ S g9)) 4096)) (fun p => p) k) Qt O1 O2 En Ot Wt) (fun b => [some (.ref a), some (.int (nI f9)), some (.int (nI g9)), some (.int (nI (al_ (fb_ (rw_ S g9)) 4096))), some (.int (nI k)), some (.int (nI 1)), some (.int (nI b))]) (fun _ _ => rp_ D a cI cL t S (mkl_ K (qo_ (fb_ (rw_ S f9)) (fb_ (rw_ S g9)) (al_ (fb_ (rw_ S g9)) 4096)) (fun p => p) k) Qt O1 O2 En Ot Wt) (fun n b => [some (.ref a), some (.int (nI f9)), some (.int (nI g9)), some (.int (nI (al_ (fb_ (rw_ S g9)) 4096))), some (.int (nI k)), some (.int (z1_ (sq_ (fun b => !(fb_ (rw_ S g9)) b || (fb_ (rw_ S f9)) (k ||| b)) (al_ (fb_ (rw_ S g9)) 4096) n b))), none]) 4096 (al_ (fb_ (rw_ S g9)) 4096) hal hal ?_ (fun n b hb4 hb hk2 hE => ?_)
        · cases hv : sq_ (fun b => !(fb_ (rw_ S g9)) b || (fb_ (rw_ S f9)) (k ||| b)) (al_ (fb_ (rw_ S g9)) 4096) 4096 (al_ (fb_ (rw_ S g9)) 4096)
          · rw [mkl_f (hq.trans hv)] at ih
            refine aw_iload C dc_M_makeQuotient_126 rfl ?_
            refine aw_if_eq C dc_M_makeQuotient_128 (tgt := 137) (by decide) (fun _ => ?_) (fun h9 => absurd (by decide) h9)
            refine aw_iinc C dc_M_makeQuotient_137 rfl (ni_inc _) (by decide) rfl ?_
            refine aw_goto C dc_M_makeQuotient_140 (tgt := 41) (by decide) ?_
            refine aw_sub (lw' := [some (.ref a), some (.int (nI f9)), some (.int (nI g9)), some (.int (nI (al_ (fb_ (rw_ S g9)) 4096))), some (.int (nI (k + 1))), none, none]) (by
              intro k v h
              match k, h with
              | 0, h => exact h
              | 1, h => exact h
              | 2, h => exact h
              | 3, h => exact h
              | 4, h => exact h
              | 5, h => exact nomatch (show (some none : Option (Option Value)) = some (some v) from h)
              | 6, h => exact nomatch (show (some none : Option (Option Value)) = some (some v) from h)
              | n + 7, h => exact nomatch (show (none : Option (Option Value)) = some (some v) from h)) ?_
            exact ih
          · rw [mkl_t (hq.trans hv)] at ih
            refine aw_iload C dc_M_makeQuotient_126 rfl ?_
            refine aw_if_eq C dc_M_makeQuotient_128 (tgt := 137) (by decide) (fun h9 => absurd h9 (by decide)) (fun _ => ?_)
            refine aw_aload_n C dc_M_makeQuotient_131 rfl ?_
            refine aw_iload C dc_M_makeQuotient_132 rfl ?_
            refine kc_v (fun _ h => h) (fun _ h => h) (kc_V (n := 1) C hX xk_true rfl 0 rf_p0 rfl (m_make l D a cI cL cF t S (mkl_ K (qo_ (fb_ (rw_ S f9)) (fb_ (rw_ S g9)) (al_ (fb_ (rw_ S g9)) 4096)) (fun p => p) k) Qt O1 O2 En Ot Wt k hk) kw_726 kw_723 kw_725 (tw_sel (q := (my_M_make, 9)) (by decide +kernel)) kw_8 rfl (by unfold kd_; decide) ⟨rfl, rfl, by decide, by decide⟩ rfl rfl (Nat.le_of_ble_eq_true rfl) ⟨Nat.zero_le _, Nat.zero_le _⟩ dc_M_makeQuotient_134) ?_
            refine aw_iinc C dc_M_makeQuotient_137 rfl (ni_inc _) (by decide) rfl ?_
            refine aw_goto C dc_M_makeQuotient_140 (tgt := 41) (by decide) ?_
            refine aw_sub (lw' := [some (.ref a), some (.int (nI f9)), some (.int (nI g9)), some (.int (nI (al_ (fb_ (rw_ S g9)) 4096))), some (.int (nI (k + 1))), none, none]) (by
              intro k v h
              match k, h with
              | 0, h => exact h
              | 1, h => exact h
              | 2, h => exact h
              | 3, h => exact h
              | 4, h => exact h
              | 5, h => exact nomatch (show (some none : Option (Option Value)) = some (some v) from h)
              | 6, h => exact nomatch (show (some none : Option (Option Value)) = some (some v) from h)
              | n + 7, h => exact nomatch (show (none : Option (Option Value)) = some (some v) from h)) ?_
            exact ih
        · refine aw_iload C dc_M_makeQuotient_66 rfl ?_
          refine aw_if_eq C dc_M_makeQuotient_68 (tgt := 126) (by decide) (fun h9 => absurd h9 (by decide)) (fun _ => ?_)
          refine aw_iload C dc_M_makeQuotient_71 rfl ?_
          refine aw_if_lt C dc_M_makeQuotient_73 (tgt := 126) (by decide) (fun h9 => absurd h9 (nI_pos (by omega))) (fun _ => ?_)
          refine aw_aload_n C dc_M_makeQuotient_76 rfl ?_
          refine aw_iload_n C dc_M_makeQuotient_77 rfl ?_
          refine aw_iload C dc_M_makeQuotient_78 rfl ?_
          refine kc_i (fun _ h => h) (fun _ h => h) (kc_V (n := 2) C hX xk_true rfl 0 rf_p0 rfl (m_isIn l D a cI cL cF t S (mkl_ K (qo_ (fb_ (rw_ S f9)) (fb_ (rw_ S g9)) (al_ (fb_ (rw_ S g9)) 4096)) (fun p => p) k) Qt O1 O2 En Ot Wt g9 hg b hb4) kw_684 kw_681 kw_683 (tw_sel (q := (my_M_isIn, 9)) (by decide +kernel)) kw_8 rfl (by unfold kd_; decide) ⟨rfl, rfl, by decide, by decide⟩ rfl rfl (Nat.le_of_ble_eq_true rfl) ⟨Nat.zero_le _, Nat.zero_le _⟩ dc_M_makeQuotient_80) ?_
          refine aw_if_eq C dc_M_makeQuotient_83 (tgt := 99) (by decide) (fun hB83 => ?_) (fun hB83 => ?_)
          · have hok : (fun b => !(fb_ (rw_ S g9)) b || (fb_ (rw_ S f9)) (k ||| b)) b = true := by show (!_ || _) = true; rw [z1_0.mp hB83]; rfl
            refine aw_iconst C dc_M_makeQuotient_99 (v := nI 1) rfl ?_
            refine aw_goto C dc_M_makeQuotient_100 (tgt := 104) (by decide) ?_
            refine aw_istore C dc_M_makeQuotient_104 (by decide) rfl ?_
            refine aw_iload C dc_M_makeQuotient_106 rfl ?_
            refine aw_if_ne C dc_M_makeQuotient_108 (tgt := 115) (by decide) (fun hB108 => ?_) (fun hB108 => ?_)
            · have hb0 : ¬ b = 0 := fun h9 => hB108 (by rw [h9]; rfl)
              refine aw_iload C dc_M_makeQuotient_115 rfl ?_
              refine aw_iconst C dc_M_makeQuotient_117 (v := nI 1) rfl ?_
              refine aw_isub C dc_M_makeQuotient_118 ?_
              refine aw_eqi (ni_sub (b := 1) (by omega)) ?_
              refine aw_iload_n C dc_M_makeQuotient_119 rfl ?_
              refine aw_iand C dc_M_makeQuotient_120 ?_
              refine aw_eqi (ni_and _ _) ?_
              refine aw_istore C dc_M_makeQuotient_121 (by decide) rfl ?_
              refine aw_goto C dc_M_makeQuotient_123 (tgt := 66) (by decide) ?_
              have e9 : sq_ (fun b => !(fb_ (rw_ S g9)) b || (fb_ (rw_ S f9)) (k ||| b)) (al_ (fb_ (rw_ S g9)) 4096) (n + 1) b = sq_ (fun b => !(fb_ (rw_ S g9)) b || (fb_ (rw_ S f9)) (k ||| b)) (al_ (fb_ (rw_ S g9)) 4096) n ((b - 1) &&& (al_ (fb_ (rw_ S g9)) 4096)) := sq_n hok hb0
              rw [e9] at hE
              exact hk2 ((b - 1) &&& (al_ (fb_ (rw_ S g9)) 4096)) (by have := sm_lt (all := (al_ (fb_ (rw_ S g9)) 4096)) hb0; omega) (by have := sm_lt (all := (al_ (fb_ (rw_ S g9)) 4096)) hb0; omega) hE
            · have hb0 : b = 0 := (ni_z (by omega)).mp hB108
              have e9 : sq_ (fun b => !(fb_ (rw_ S g9)) b || (fb_ (rw_ S f9)) (k ||| b)) (al_ (fb_ (rw_ S g9)) 4096) (n + 1) b = true := sq_0 hok hb0
              rw [e9] at hE
              refine aw_iconst C dc_M_makeQuotient_111 (v := (-1)) rfl ?_
              refine aw_goto C dc_M_makeQuotient_112 (tgt := 121) (by decide) ?_
              refine aw_istore C dc_M_makeQuotient_121 (by decide) rfl ?_
              refine aw_goto C dc_M_makeQuotient_123 (tgt := 66) (by decide) ?_
              refine aw_iload C dc_M_makeQuotient_66 rfl ?_
              refine aw_if_eq C dc_M_makeQuotient_68 (tgt := 126) (by decide) (fun h9 => absurd h9 (by decide)) (fun _ => ?_)
              refine aw_iload C dc_M_makeQuotient_71 rfl ?_
              refine aw_if_lt C dc_M_makeQuotient_73 (tgt := 126) (by decide) (fun _ => ?_) (fun h9 => absurd (by decide) h9)
              refine aw_sub (lw' := [some (.ref a), some (.int (nI f9)), some (.int (nI g9)), some (.int (nI (al_ (fb_ (rw_ S g9)) 4096))), some (.int (nI k)), some (.int (z1_ true)), none]) (by
                intro k v h
                match k, h with
                | 0, h => exact h
                | 1, h => exact h
                | 2, h => exact h
                | 3, h => exact h
                | 4, h => exact h
                | 5, h => exact h
                | 6, h => exact nomatch (show (some none : Option (Option Value)) = some (some v) from h)
                | n + 7, h => exact nomatch (show (none : Option (Option Value)) = some (some v) from h)) ?_
              exact hE
          · refine aw_aload_n C dc_M_makeQuotient_86 rfl ?_
            refine aw_iload_n C dc_M_makeQuotient_87 rfl ?_
            refine aw_iload C dc_M_makeQuotient_88 rfl ?_
            refine aw_iload C dc_M_makeQuotient_90 rfl ?_
            refine aw_ior C dc_M_makeQuotient_92 ?_
            refine aw_eqi (ni_or _ _) ?_
            refine kc_i (fun _ h => h) (fun _ h => h) (kc_V (n := 2) C hX xk_true rfl 0 rf_p0 rfl (m_isIn l D a cI cL cF t S (mkl_ K (qo_ (fb_ (rw_ S f9)) (fb_ (rw_ S g9)) (al_ (fb_ (rw_ S g9)) 4096)) (fun p => p) k) Qt O1 O2 En Ot Wt f9 hf (k ||| b) (or12 hk hb4)) kw_684 kw_681 kw_683 (tw_sel (q := (my_M_isIn, 9)) (by decide +kernel)) kw_8 rfl (by unfold kd_; decide) ⟨rfl, rfl, by decide, by decide⟩ rfl rfl (Nat.le_of_ble_eq_true rfl) ⟨Nat.zero_le _, Nat.zero_le _⟩ dc_M_makeQuotient_93) ?_
            refine aw_if_eq C dc_M_makeQuotient_96 (tgt := 103) (by decide) (fun hB96 => ?_) (fun hB96 => ?_)
            · have hok : (fun b => !(fb_ (rw_ S g9)) b || (fb_ (rw_ S f9)) (k ||| b)) b = false := by show (!_ || _) = false; rw [z1_n.mp hB83, z1_0.mp hB96]; rfl
              refine aw_iconst C dc_M_makeQuotient_103 (v := nI 0) rfl ?_
              refine aw_istore C dc_M_makeQuotient_104 (by decide) rfl ?_
              refine aw_iload C dc_M_makeQuotient_106 rfl ?_
              refine aw_if_ne C dc_M_makeQuotient_108 (tgt := 115) (by decide) (fun hB108 => ?_) (fun hB108 => ?_)
              · have hb0 : ¬ b = 0 := fun h9 => hB108 (by rw [h9]; rfl)
                have e9 : sq_ (fun b => !(fb_ (rw_ S g9)) b || (fb_ (rw_ S f9)) (k ||| b)) (al_ (fb_ (rw_ S g9)) 4096) (n + 1) b = false := sq_f hok
                rw [e9] at hE
                refine aw_iload C dc_M_makeQuotient_115 rfl ?_
                refine aw_iconst C dc_M_makeQuotient_117 (v := nI 1) rfl ?_
                refine aw_isub C dc_M_makeQuotient_118 ?_
                refine aw_eqi (ni_sub (b := 1) (by omega)) ?_
                refine aw_iload_n C dc_M_makeQuotient_119 rfl ?_
                refine aw_iand C dc_M_makeQuotient_120 ?_
                refine aw_eqi (ni_and _ _) ?_
                refine aw_istore C dc_M_makeQuotient_121 (by decide) rfl ?_
                refine aw_goto C dc_M_makeQuotient_123 (tgt := 66) (by decide) ?_
                refine aw_iload C dc_M_makeQuotient_66 rfl ?_
                refine aw_if_eq C dc_M_makeQuotient_68 (tgt := 126) (by decide) (fun _ => ?_) (fun h9 => absurd (by decide) h9)
                refine aw_sub (lw' := [some (.ref a), some (.int (nI f9)), some (.int (nI g9)), some (.int (nI (al_ (fb_ (rw_ S g9)) 4096))), some (.int (nI k)), some (.int (z1_ false)), none]) (by
                  intro k v h
                  match k, h with
                  | 0, h => exact h
                  | 1, h => exact h
                  | 2, h => exact h
                  | 3, h => exact h
                  | 4, h => exact h
                  | 5, h => exact h
                  | 6, h => exact nomatch (show (some none : Option (Option Value)) = some (some v) from h)
                  | n + 7, h => exact nomatch (show (none : Option (Option Value)) = some (some v) from h)) ?_
                exact hE
              · have hb0 : b = 0 := (ni_z (by omega)).mp hB108
                have e9 : sq_ (fun b => !(fb_ (rw_ S g9)) b || (fb_ (rw_ S f9)) (k ||| b)) (al_ (fb_ (rw_ S g9)) 4096) (n + 1) b = false := sq_f hok
                rw [e9] at hE
                refine aw_iconst C dc_M_makeQuotient_111 (v := (-1)) rfl ?_
                refine aw_goto C dc_M_makeQuotient_112 (tgt := 121) (by decide) ?_
                refine aw_istore C dc_M_makeQuotient_121 (by decide) rfl ?_
                refine aw_goto C dc_M_makeQuotient_123 (tgt := 66) (by decide) ?_
                refine aw_iload C dc_M_makeQuotient_66 rfl ?_
                refine aw_if_eq C dc_M_makeQuotient_68 (tgt := 126) (by decide) (fun _ => ?_) (fun h9 => absurd (by decide) h9)
                refine aw_sub (lw' := [some (.ref a), some (.int (nI f9)), some (.int (nI g9)), some (.int (nI (al_ (fb_ (rw_ S g9)) 4096))), some (.int (nI k)), some (.int (z1_ false)), none]) (by
                  intro k v h
                  match k, h with
                  | 0, h => exact h
                  | 1, h => exact h
                  | 2, h => exact h
                  | 3, h => exact h
                  | 4, h => exact h
                  | 5, h => exact h
                  | 6, h => exact nomatch (show (some none : Option (Option Value)) = some (some v) from h)
                  | n + 7, h => exact nomatch (show (none : Option (Option Value)) = some (some v) from h)) ?_
                exact hE
            · have hok : (fun b => !(fb_ (rw_ S g9)) b || (fb_ (rw_ S f9)) (k ||| b)) b = true := by show (!_ || _) = true; rw [z1_n.mp hB96]; cases (fb_ (rw_ S g9)) b <;> rfl
              refine aw_iconst C dc_M_makeQuotient_99 (v := nI 1) rfl ?_
              refine aw_goto C dc_M_makeQuotient_100 (tgt := 104) (by decide) ?_
              refine aw_istore C dc_M_makeQuotient_104 (by decide) rfl ?_
              refine aw_iload C dc_M_makeQuotient_106 rfl ?_
              refine aw_if_ne C dc_M_makeQuotient_108 (tgt := 115) (by decide) (fun hB108 => ?_) (fun hB108 => ?_)
              · have hb0 : ¬ b = 0 := fun h9 => hB108 (by rw [h9]; rfl)
                refine aw_iload C dc_M_makeQuotient_115 rfl ?_
                refine aw_iconst C dc_M_makeQuotient_117 (v := nI 1) rfl ?_
                refine aw_isub C dc_M_makeQuotient_118 ?_
                refine aw_eqi (ni_sub (b := 1) (by omega)) ?_
                refine aw_iload_n C dc_M_makeQuotient_119 rfl ?_
                refine aw_iand C dc_M_makeQuotient_120 ?_
                refine aw_eqi (ni_and _ _) ?_
                refine aw_istore C dc_M_makeQuotient_121 (by decide) rfl ?_
                refine aw_goto C dc_M_makeQuotient_123 (tgt := 66) (by decide) ?_
                have e9 : sq_ (fun b => !(fb_ (rw_ S g9)) b || (fb_ (rw_ S f9)) (k ||| b)) (al_ (fb_ (rw_ S g9)) 4096) (n + 1) b = sq_ (fun b => !(fb_ (rw_ S g9)) b || (fb_ (rw_ S f9)) (k ||| b)) (al_ (fb_ (rw_ S g9)) 4096) n ((b - 1) &&& (al_ (fb_ (rw_ S g9)) 4096)) := sq_n hok hb0
                rw [e9] at hE
                exact hk2 ((b - 1) &&& (al_ (fb_ (rw_ S g9)) 4096)) (by have := sm_lt (all := (al_ (fb_ (rw_ S g9)) 4096)) hb0; omega) (by have := sm_lt (all := (al_ (fb_ (rw_ S g9)) 4096)) hb0; omega) hE
              · have hb0 : b = 0 := (ni_z (by omega)).mp hB108
                have e9 : sq_ (fun b => !(fb_ (rw_ S g9)) b || (fb_ (rw_ S f9)) (k ||| b)) (al_ (fb_ (rw_ S g9)) 4096) (n + 1) b = true := sq_0 hok hb0
                rw [e9] at hE
                refine aw_iconst C dc_M_makeQuotient_111 (v := (-1)) rfl ?_
                refine aw_goto C dc_M_makeQuotient_112 (tgt := 121) (by decide) ?_
                refine aw_istore C dc_M_makeQuotient_121 (by decide) rfl ?_
                refine aw_goto C dc_M_makeQuotient_123 (tgt := 66) (by decide) ?_
                refine aw_iload C dc_M_makeQuotient_66 rfl ?_
                refine aw_if_eq C dc_M_makeQuotient_68 (tgt := 126) (by decide) (fun h9 => absurd h9 (by decide)) (fun _ => ?_)
                refine aw_iload C dc_M_makeQuotient_71 rfl ?_
                refine aw_if_lt C dc_M_makeQuotient_73 (tgt := 126) (by decide) (fun _ => ?_) (fun h9 => absurd (by decide) h9)
                refine aw_sub (lw' := [some (.ref a), some (.int (nI f9)), some (.int (nI g9)), some (.int (nI (al_ (fb_ (rw_ S g9)) 4096))), some (.int (nI k)), some (.int (z1_ true)), none]) (by
                  intro k v h
                  match k, h with
                  | 0, h => exact h
                  | 1, h => exact h
                  | 2, h => exact h
                  | 3, h => exact h
                  | 4, h => exact h
                  | 5, h => exact h
                  | 6, h => exact nomatch (show (some none : Option (Option Value)) = some (some v) from h)
                  | n + 7, h => exact nomatch (show (none : Option (Option Value)) = some (some v) from h)) ?_
                exact hE
  · refine aw_iload C dc_M_makeQuotient_5 rfl ?_
    refine aw_sipush C dc_M_makeQuotient_7 (v := nI 4096) rfl ?_
    refine aw_icmp_ge C dc_M_makeQuotient_10 (tgt := 38) (by decide) (fun h9 => absurd h9 (nI_ge hk (by decide))) (fun _ => ?_)
    refine aw_aload_n C dc_M_makeQuotient_13 rfl ?_
    refine aw_iload_n C dc_M_makeQuotient_14 rfl ?_
    refine aw_iload C dc_M_makeQuotient_15 rfl ?_
    refine kc_i (fun _ h => h) (fun _ h => h) (kc_V (n := 2) C hX xk_true rfl 0 rf_p0 rfl (m_isIn l D a cI cL cF t S K Qt O1 O2 En Ot Wt g9 hg k hk) kw_684 kw_681 kw_683 (tw_sel (q := (my_M_isIn, 9)) (by decide +kernel)) kw_8 rfl (by unfold kd_; decide) ⟨rfl, rfl, by decide, by decide⟩ rfl rfl (Nat.le_of_ble_eq_true rfl) ⟨Nat.zero_le _, Nat.zero_le _⟩ dc_M_makeQuotient_17) ?_
    refine aw_if_eq C dc_M_makeQuotient_20 (tgt := 30) (by decide) (fun hB20 => ?_) (fun hB20 => ?_)
    · have e9 : al_ (fb_ (rw_ S g9)) (k + 1) = al_ (fb_ (rw_ S g9)) k := by rw [al_, if_neg (by rw [z1_0.mp hB20]; decide)]
      rw [e9] at ih
      refine aw_iload_n C dc_M_makeQuotient_30 rfl ?_
      refine aw_istore_n C dc_M_makeQuotient_31 (by decide) rfl ?_
      refine aw_iinc C dc_M_makeQuotient_32 rfl (ni_inc _) (by decide) rfl ?_
      refine aw_goto C dc_M_makeQuotient_35 (tgt := 5) (by decide) ?_
      exact ih
    · have e9 : al_ (fb_ (rw_ S g9)) (k + 1) = al_ (fb_ (rw_ S g9)) k ||| k := by rw [al_, if_pos (z1_n.mp hB20)]
      rw [e9] at ih
      refine aw_iload_n C dc_M_makeQuotient_23 rfl ?_
      refine aw_iload C dc_M_makeQuotient_24 rfl ?_
      refine aw_ior C dc_M_makeQuotient_26 ?_
      refine aw_eqi (ni_or _ _) ?_
      refine aw_goto C dc_M_makeQuotient_27 (tgt := 31) (by decide) ?_
      refine aw_istore_n C dc_M_makeQuotient_31 (by decide) rfl ?_
      refine aw_iinc C dc_M_makeQuotient_32 rfl (ni_inc _) (by decide) rfl ?_
      refine aw_goto C dc_M_makeQuotient_35 (tgt := 5) (by decide) ?_
      exact ih
