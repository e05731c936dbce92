set_option maxHeartbeats 4000000 in
set_option maxRecDepth 100000 in
theorem m_thrown (l : Launch) (D : va_G) (a : Nat) (cI cL cF : ClassId) (t : Int32) (S K Qt : Nat → Int64) (O1 O2 En Ot Wt : Nat → Int32)  : ki_ l my_M_thrown (Cond.code my_M_thrown bc_M_thrown 1 (some .int) :: tw_) rm0 D (ty_s cI cL cF) (fun _ => True) (cm_ a) [.ref a] (rp_ D a cI cL t S K Qt O1 O2 En Ot Wt) (rp_ D a cI cL t S K Qt O1 O2 En Ot Wt) t := by
  refine aw_met (A := cm_ a) (own := "FamilyShelfModel") (by decide) rfl rfl (Nat.le_of_ble_eq_true rfl) ?_
  intro p9 e s m args below meth c C hr hX hP0
  refine aw_lw (lw' := [some (.ref a)]) rfl ?_
  refine aw_aload_n C dc_M_thrown_0 rfl ?_
  refine aw_get C (fun w h => List.mem_cons_of_mem _ (ly_M w h)) 0 rf_p0 rfl 0 (by decide) (C.1.2.2.2.2 _ (List.mem_cons_of_mem _ kw_636)) (fun _ h => h) rfl dc_M_thrown_1 ?_
  exact kc_iret C hr rfl (fun _ h => h) dc_M_thrown_4
set_option maxHeartbeats 4000000 in
set_option maxRecDepth 100000 in
theorem m_turned (l : Launch) (D : va_G) (tys : List (ClassId × FieldType)) (X : State → Prop) (A : Nat → Prop) (P : Heap → Prop) (n : Nat) (hn : n < 4096) : ki_ l my_M_turned (Cond.code my_M_turned bc_M_turned 3 (some .int) :: tw_) rm0 D tys X A [.int (nI n)] P P (nI (tu_ n 12)) := by
  refine aw_met (A := A) (own := "FamilyShelfModel") (by decide) rfl rfl (Nat.le_of_ble_eq_true rfl) ?_
  intro p9 e s m args below meth c C hr hX hP0
  refine aw_lw (lw' := [some (.int (nI n)), none, none]) rfl ?_
  refine aw_iconst C dc_M_turned_0 (v := nI 0) rfl ?_
  refine aw_istore_n C dc_M_turned_1 (by decide) rfl ?_
  refine aw_iconst C dc_M_turned_2 (v := nI 0) rfl ?_
  refine aw_istore_n C dc_M_turned_3 (by decide) rfl ?_
  refine aw_loop (fun k => P) (fun k => [some (.int (nI n)), some (.int (nI (tu_ n k))), some (.int (nI k))]) 12 ?_ (fun k hk ih => ?_)
  · refine aw_iload_n C dc_M_turned_4 rfl ?_
    refine aw_bipush C dc_M_turned_5 (v := nI 12) rfl ?_
    refine aw_icmp_ge C dc_M_turned_7 (tgt := 26) (by decide) (fun _ => ?_) (fun h9 => absurd (nI_le (Nat.le_refl _) (by decide)) h9)
    refine aw_iload_n C dc_M_turned_26 rfl ?_
    exact kc_iret C hr rfl (fun _ h => h) dc_M_turned_27
  · refine aw_iload_n C dc_M_turned_4 rfl ?_
    refine aw_bipush C dc_M_turned_5 (v := nI 12) rfl ?_
    refine aw_icmp_ge C dc_M_turned_7 (tgt := 26) (by decide) (fun h9 => absurd h9 (nI_ge hk (by decide))) (fun _ => ?_)
    refine aw_iload_n C dc_M_turned_10 rfl ?_
    refine aw_iconst C dc_M_turned_11 (v := nI 1) rfl ?_
    refine aw_ishl C dc_M_turned_12 ?_
    refine aw_eqi (ni_shl (k := 1) (by decide) (by have h1 := tu_lt n k; have h2 : 2 ^ k ≤ 2 ^ 12 := Nat.pow_le_pow_right (by decide) (by omega); omega)) ?_
    refine aw_iload_n C dc_M_turned_13 rfl ?_
    refine aw_iload_n C dc_M_turned_14 rfl ?_
    refine aw_ishr C dc_M_turned_15 ?_
    refine aw_iconst C dc_M_turned_16 (v := nI 1) rfl ?_
    refine aw_iand C dc_M_turned_17 ?_
    refine aw_eqi (ni_tb (by omega) (by omega)) ?_
    refine aw_ior C dc_M_turned_18 ?_
    refine aw_eqi (ni_or _ _) ?_
    refine aw_istore_n C dc_M_turned_19 (by decide) rfl ?_
    refine aw_iinc C dc_M_turned_20 rfl (ni_inc _) (by decide) rfl ?_
    refine aw_goto C dc_M_turned_23 (tgt := 4) (by decide) ?_
    exact ih
set_option maxHeartbeats 4000000 in
set_option maxRecDepth 100000 in
theorem m_isIn (l : Launch) (D : va_G) (a : Nat) (cI cL cF : ClassId) (t : Int32) (S K Qt : Nat → Int64) (O1 O2 En Ot Wt : Nat → Int32) (i : Nat) (hi : i < 10) (p : Nat) (hp : p < 4096) : ki_ l my_M_isIn (Cond.code my_M_isIn bc_M_isIn 3 (some .boolean) :: tw_) rm0 D (ty_s cI cL cF) (fun _ => True) (cm_ a) [.ref a, .int (nI i), .int (nI p)] (rp_ D a cI cL t S K Qt O1 O2 En Ot Wt) (rp_ D a cI cL t S K Qt O1 O2 En Ot Wt) (z1_ (fb_ (rw_ S i) p)) := by
  refine aw_met (A := cm_ a) (own := "FamilyShelfModel") (by decide) rfl rfl (Nat.le_of_ble_eq_true rfl) ?_
  intro p9 e s m args below meth c C hr hX hP0
  refine aw_lw (lw' := [some (.ref a), some (.int (nI i)), some (.int (nI p))]) rfl ?_
  refine aw_aload_n C dc_M_isIn_0 rfl ?_
  refine aw_get C (fun w h => List.mem_cons_of_mem _ (ly_M w h)) 0 rf_p0 rfl 1 (by decide) (C.1.2.2.2.2 _ (List.mem_cons_of_mem _ kw_637)) (fun _ h => h) rfl dc_M_isIn_1 ?_
  refine aw_bipush C dc_M_isIn_4 (v := nI 64) rfl ?_
  refine aw_iload_n C dc_M_isIn_6 rfl ?_
  refine aw_imul C dc_M_isIn_7 ?_
  refine aw_iload_n C dc_M_isIn_8 rfl ?_
  refine aw_bipush C dc_M_isIn_9 (v := nI 64) rfl ?_
  refine aw_idiv C dc_M_isIn_11 (by decide) ?_
  refine aw_iadd C dc_M_isIn_12 ?_
  refine aw_lald C 1 1 rf_p1 rfl (64 * i + p / 64) (ms_ix hp) (by omega) (by decide) dc_M_isIn_13 ?_
  refine aw_iload_n C dc_M_isIn_14 rfl ?_
  refine aw_bipush C dc_M_isIn_15 (v := nI 64) rfl ?_
  refine aw_irem C dc_M_isIn_17 (by decide) ?_
  refine aw_eqi (ms_rm hp) ?_
  refine aw_lshr C dc_M_isIn_18 ?_
  refine aw_lconst C dc_M_isIn_19 (v := 1) rfl ?_
  refine aw_land C dc_M_isIn_20 ?_
  refine aw_lconst C dc_M_isIn_21 (v := 1) rfl ?_
  refine aw_lcmp C dc_M_isIn_22 ?_
  refine aw_if_ne C dc_M_isIn_23 (tgt := 30) (by decide) (fun hB23 => ?_) (fun hB23 => ?_)
  · have hb : fb_ (rw_ S i) p = false := by
      cases h9 : fb_ (rw_ S i) p
      · rfl
      · exact absurd ((lb_sarT _ (by omega)).mpr h9) hB23
    refine aw_iconst C dc_M_isIn_30 (v := nI 0) rfl ?_
    exact kc_zret C hr (by decide) (by rw [hb]; rfl) (fun _ h => h) dc_M_isIn_31
  · have hb : fb_ (rw_ S i) p = true := (lb_sarT _ (by omega)).mp hB23
    refine aw_iconst C dc_M_isIn_26 (v := nI 1) rfl ?_
    refine aw_goto C dc_M_isIn_27 (tgt := 31) (by decide) ?_
    exact kc_zret C hr (by decide) (by rw [hb]; rfl) (fun _ h => h) dc_M_isIn_31
set_option maxHeartbeats 4000000 in
set_option maxRecDepth 100000 in
theorem m_ones (l : Launch) (D : va_G) (tys : List (ClassId × FieldType)) (X : State → Prop) (A : Nat → Prop) (P : Heap → Prop) (x : Int64) : ki_ l my_M_ones (Cond.code my_M_ones bc_M_ones 4 (some .int) :: tw_) rm0 D tys X A [.long x] P P (nI (lc_ x)) := by
  refine aw_met (A := A) (own := "FamilyShelfModel") (by decide) rfl rfl (Nat.le_of_ble_eq_true rfl) ?_
  intro p9 e s m args below meth c C hr hX hP0
  refine aw_lw (lw' := [some (.long x), none, none, none]) rfl ?_
  refine aw_iconst C dc_M_ones_0 (v := nI 0) rfl ?_
  refine aw_istore_n C dc_M_ones_1 (by decide) rfl ?_
  refine aw_iconst C dc_M_ones_2 (v := nI 0) rfl ?_
  refine aw_istore_n C dc_M_ones_3 (by decide) rfl ?_
  refine aw_loop (fun k => P) (fun k => [some (.long x), none, some (.int (nI (cn_ (fun i => lb_ x i) k))), some (.int (nI k))]) 64 ?_ (fun k hk ih => ?_)
  · refine aw_iload_n C dc_M_ones_4 rfl ?_
    refine aw_bipush C dc_M_ones_5 (v := nI 64) rfl ?_
    refine aw_icmp_ge C dc_M_ones_7 (tgt := 25) (by decide) (fun _ => ?_) (fun h9 => absurd (nI_le (Nat.le_refl _) (by decide)) h9)
    refine aw_iload_n C dc_M_ones_25 rfl ?_
    exact kc_iret C hr rfl (fun _ h => h) dc_M_ones_26
  · refine aw_iload_n C dc_M_ones_4 rfl ?_
    refine aw_bipush C dc_M_ones_5 (v := nI 64) rfl ?_
    refine aw_icmp_ge C dc_M_ones_7 (tgt := 25) (by decide) (fun h9 => absurd h9 (nI_ge hk (by decide))) (fun _ => ?_)
    refine aw_iload_n C dc_M_ones_10 rfl ?_
    refine aw_lload_n C dc_M_ones_11 rfl ?_
    refine aw_iload_n C dc_M_ones_12 rfl ?_
    refine aw_lshr C dc_M_ones_13 ?_
    refine aw_lconst C dc_M_ones_14 (v := 1) rfl ?_
    refine aw_land C dc_M_ones_15 ?_
    refine aw_l2i C dc_M_ones_16 ?_
    refine aw_eqi (lb_sarI x hk) ?_
    refine aw_iadd C dc_M_ones_17 ?_
    refine aw_eqi ((nI_add _ _).trans (show _ = nI (cn_ (fun i => lb_ x i) (k + 1)) from rfl)) ?_
    refine aw_istore_n C dc_M_ones_18 (by decide) rfl ?_
    refine aw_iinc C dc_M_ones_19 rfl (ni_inc _) (by decide) rfl ?_
    refine aw_goto C dc_M_ones_22 (tgt := 4) (by decide) ?_
    exact ih
set_option maxHeartbeats 4000000 in
set_option maxRecDepth 100000 in
theorem m_countOf (l : Launch) (D : va_G) (a : Nat) (cI cL cF : ClassId) (t : Int32) (S K Qt : Nat → Int64) (O1 O2 En Ot Wt : Nat → Int32) (i : Nat) (hi : i < 10) : ki_ l my_M_countOf (Cond.code my_M_countOf bc_M_countOf 4 (some .int) :: tw_) ({ frames := 1, cells := 0, slots := 0, locals := 23 }) D (ty_s cI cL cF) (fun _ => True) (cm_ a) [.ref a, .int (nI i)] (rp_ D a cI cL t S K Qt O1 O2 En Ot Wt) (rp_ D a cI cL t S K Qt O1 O2 En Ot Wt) (nI (tw64_ (rw_ S i) 64)) := by
  refine aw_met (A := cm_ a) (own := "FamilyShelfModel") (by decide) rfl rfl (Nat.le_of_ble_eq_true rfl) ?_
  intro p9 e s m args below meth c C hr hX hP0
  refine aw_lw (lw' := [some (.ref a), some (.int (nI i)), none, none]) rfl ?_
  refine aw_iconst C dc_M_countOf_0 (v := nI 0) rfl ?_
  refine aw_istore_n C dc_M_countOf_1 (by decide) rfl ?_
  refine aw_iconst C dc_M_countOf_2 (v := nI 0) rfl ?_
  refine aw_istore_n C dc_M_countOf_3 (by decide) rfl ?_
  refine aw_loop (fun k => rp_ D a cI cL t S K Qt O1 O2 En Ot Wt) (fun k => [some (.ref a), some (.int (nI i)), some (.int (nI (tw64_ (rw_ S i) k))), some (.int (nI k))]) 64 ?_ (fun k hk ih => ?_)
  · refine aw_iload_n C dc_M_countOf_4 rfl ?_
    refine aw_bipush C dc_M_countOf_5 (v := nI 64) rfl ?_
    refine aw_icmp_ge C dc_M_countOf_7 (tgt := 33) (by decide) (fun _ => ?_) (fun h9 => absurd (nI_le (Nat.le_refl _) (by decide)) h9)
    refine aw_iload_n C dc_M_countOf_33 rfl ?_
    exact kc_iret C hr rfl (fun _ h => h) dc_M_countOf_34
  · refine aw_iload_n C dc_M_countOf_4 rfl ?_
    refine aw_bipush C dc_M_countOf_5 (v := nI 64) rfl ?_
    refine aw_icmp_ge C dc_M_countOf_7 (tgt := 33) (by decide) (fun h9 => absurd h9 (nI_ge hk (by decide))) (fun _ => ?_)
    refine aw_iload_n C dc_M_countOf_10 rfl ?_
    refine aw_aload_n C dc_M_countOf_11 rfl ?_
    refine aw_get C (fun w h => List.mem_cons_of_mem _ (ly_M w h)) 0 rf_p0 rfl 1 (by decide) (C.1.2.2.2.2 _ (List.mem_cons_of_mem _ kw_637)) (fun _ h => h) rfl dc_M_countOf_12 ?_
    refine aw_bipush C dc_M_countOf_15 (v := nI 64) rfl ?_
    refine aw_iload_n C dc_M_countOf_17 rfl ?_
    refine aw_imul C dc_M_countOf_18 ?_
    refine aw_iload_n C dc_M_countOf_19 rfl ?_
    refine aw_iadd C dc_M_countOf_20 ?_
    refine aw_lald C 1 1 rf_p1 rfl (64 * i + k) (ms_i2 i k) (by omega) (by decide) dc_M_countOf_21 ?_
    refine kc_i (fun _ h => h) (fun _ h => h) (kc_S (n := 1) C hX xk_true (m_ones l D _ _ _ _ (S (64 * i + k))) kw_700 kw_698 kw_699 kw_8 (by unfold kd_; decide) ⟨rfl, rfl, by decide, by decide⟩ rfl rfl (Nat.le_of_ble_eq_true rfl) ⟨Nat.zero_le _, Nat.zero_le _⟩ dc_M_countOf_22) ?_
    refine aw_iadd C dc_M_countOf_25 ?_
    refine aw_eqi (nI_add _ _) ?_
    refine aw_istore_n C dc_M_countOf_26 (by decide) rfl ?_
    refine aw_iinc C dc_M_countOf_27 rfl (ni_inc _) (by decide) rfl ?_
    refine aw_goto C dc_M_countOf_30 (tgt := 4) (by decide) ?_
    exact ih
set_option maxHeartbeats 4000000 in
set_option maxRecDepth 100000 in
theorem m_begin (l : Launch) (D : va_G) (a : Nat) (cI cL cF : ClassId) (t : Int32) (S K Qt : Nat → Int64) (O1 O2 En Ot Wt : Nat → Int32)  : kv_ l my_M_begin (Cond.code my_M_begin bc_M_begin 2 none :: tw_) rm0 D (ty_s cI cL cF) (fun _ => True) (cm_ a) [.ref a] (rp_ D a cI cL t S K Qt O1 O2 En Ot Wt) (rp_ D a cI cL t S (fl_ K 64 0) Qt O1 O2 En Ot Wt) := by
  refine aw_met (A := cm_ a) (own := "FamilyShelfModel") (by decide) rfl rfl (Nat.le_of_ble_eq_true rfl) ?_
  intro p9 e s m args below meth c C hr hX hP0
  refine aw_lw (lw' := [some (.ref a), none]) rfl ?_
  refine aw_iconst C dc_M_begin_0 (v := nI 0) rfl ?_
  refine aw_istore_n C dc_M_begin_1 (by decide) rfl ?_
  refine aw_P (P' := rp_ D a cI cL t S (fl_ K 0 0) Qt O1 O2 En Ot Wt) (fun H h => by rw [fl_0]; exact h) ?_
  refine aw_loop (fun k => rp_ D a cI cL t S (fl_ K k 0) Qt O1 O2 En Ot Wt) (fun k => [some (.ref a), some (.int (nI k))]) 64 ?_ (fun k hk ih => ?_)
  · refine aw_iload_n C dc_M_begin_2 rfl ?_
    refine aw_bipush C dc_M_begin_3 (v := nI 64) rfl ?_
    refine aw_icmp_ge C dc_M_begin_5 (tgt := 21) (by decide) (fun _ => ?_) (fun h9 => absurd (nI_le (Nat.le_refl _) (by decide)) h9)
    exact kc_vret C hr (fun _ h => h) dc_M_begin_21
  · refine aw_iload_n C dc_M_begin_2 rfl ?_
    refine aw_bipush C dc_M_begin_3 (v := nI 64) rfl ?_
    refine aw_icmp_ge C dc_M_begin_5 (tgt := 21) (by decide) (fun h9 => absurd h9 (nI_ge hk (by decide))) (fun _ => ?_)
    refine aw_aload_n C dc_M_begin_8 rfl ?_
    refine aw_get C (fun w h => List.mem_cons_of_mem _ (ly_M w h)) 0 rf_p0 rfl 2 (by decide) (C.1.2.2.2.2 _ (List.mem_cons_of_mem _ kw_638)) (fun _ h => h) rfl dc_M_begin_9 ?_
    refine aw_iload_n C dc_M_begin_12 rfl ?_
    refine aw_lconst C dc_M_begin_13 (v := 0) rfl ?_
    refine aw_last C rf_D 2 1 rf_p2 rfl k rfl (by omega) (by decide) (ws' := rf_ a cI cL t S (fl_ K (k + 1) 0) Qt O1 O2 En Ot Wt) (by rw [← fl_sL]; rfl) dc_M_begin_14 ?_
    refine aw_iinc C dc_M_begin_15 rfl (ni_inc _) (by decide) rfl ?_
    refine aw_goto C dc_M_begin_18 (tgt := 2) (by decide) ?_
    exact ih
set_option maxHeartbeats 4000000 in
set_option maxRecDepth 100000 in
theorem m_make (l : Launch) (D : va_G) (a : Nat) (cI cL cF : ClassId) (t : Int32) (S K Qt : Nat → Int64) (O1 O2 En Ot Wt : Nat → Int32) (p : Nat) (hp : p < 4096) : kv_ l my_M_make (Cond.code my_M_make bc_M_make 2 none :: tw_) rm0 D (ty_s cI cL cF) (fun _ => True) (cm_ a) [.ref a, .int (nI p)] (rp_ D a cI cL t S K Qt O1 O2 En Ot Wt) (rp_ D a cI cL t S (mk_ K p) Qt O1 O2 En Ot Wt) := by
  refine aw_met (A := cm_ a) (own := "FamilyShelfModel") (by decide) rfl rfl (Nat.le_of_ble_eq_true rfl) ?_
  intro p9 e s m args below meth c C hr hX hP0
  refine aw_lw (lw' := [some (.ref a), some (.int (nI p))]) rfl ?_
  refine aw_aload_n C dc_M_make_0 rfl ?_
  refine aw_get C (fun w h => List.mem_cons_of_mem _ (ly_M w h)) 0 rf_p0 rfl 2 (by decide) (C.1.2.2.2.2 _ (List.mem_cons_of_mem _ kw_638)) (fun _ h => h) rfl dc_M_make_1 ?_
  refine aw_iload_n C dc_M_make_4 rfl ?_
  refine aw_bipush C dc_M_make_5 (v := nI 64) rfl ?_
  refine aw_idiv C dc_M_make_7 (by decide) ?_
  refine aw_aload_n C dc_M_make_8 rfl ?_
  refine aw_get C (fun w h => List.mem_cons_of_mem _ (ly_M w h)) 0 rf_p0 rfl 2 (by decide) (C.1.2.2.2.2 _ (List.mem_cons_of_mem _ kw_638)) (fun _ h => h) rfl dc_M_make_9 ?_
  refine aw_iload_n C dc_M_make_12 rfl ?_
  refine aw_bipush C dc_M_make_13 (v := nI 64) rfl ?_
  refine aw_idiv C dc_M_make_15 (by decide) ?_
  refine aw_lald C 2 1 rf_p2 rfl (p / 64) (ms_dv hp) (by omega) (by decide) dc_M_make_16 ?_
  refine aw_lconst C dc_M_make_17 (v := 1) rfl ?_
  refine aw_iload_n C dc_M_make_18 rfl ?_
  refine aw_bipush C dc_M_make_19 (v := nI 64) rfl ?_
  refine aw_irem C dc_M_make_21 (by decide) ?_
  refine aw_eqi (ms_rm hp) ?_
  refine aw_lshl C dc_M_make_22 ?_
  refine aw_lor C dc_M_make_23 ?_
  refine aw_last C rf_D 2 1 rf_p2 rfl (p / 64) (ms_dv hp) (by omega) (by decide) (ws' := rf_ a cI cL t S (mk_ K p) Qt O1 O2 En Ot Wt) (rfl) dc_M_make_24 ?_
  exact kc_vret C hr (fun _ h => h) dc_M_make_25
set_option maxHeartbeats 4000000 in
set_option maxRecDepth 100000 in
theorem m_lay (l : Launch) (D : va_G) (a : Nat) (cI cL cF : ClassId) (t : Int32) (S K Qt : Nat → Int64) (O1 O2 En Ot Wt : Nat → Int32) (i : Nat) (hi : i < 10) : ki_ l my_M_lay (Cond.code my_M_lay bc_M_lay 3 (some .int) :: tw_) ({ frames := 2, cells := 0, slots := 0, locals := 46 }) D (ty_s cI cL cF) (fun _ => True) (cm_ a) [.ref a, .int (nI i)] (rp_ D a cI cL t S K Qt O1 O2 En Ot Wt) (rp_ D a cI cL t (sl_ S i K 64) K Qt O1 O2 En Ot Wt) (nI (tw64_ (rw_ (sl_ S i K 64) i) 64)) := by
  refine aw_met (A := cm_ a) (own := "FamilyShelfModel") (by decide) rfl rfl (Nat.le_of_ble_eq_true rfl) ?_
  intro p9 e s m args below meth c C hr hX hP0
  refine aw_lw (lw' := [some (.ref a), some (.int (nI i)), none]) rfl ?_
  refine aw_iconst C dc_M_lay_0 (v := nI 0) rfl ?_
  refine aw_istore_n C dc_M_lay_1 (by decide) rfl ?_
  refine aw_P (P' := rp_ D a cI cL t (sl_ S i K 0) K Qt O1 O2 En Ot Wt) (fun H h => by rw [sl_0]; exact h) ?_
  refine aw_loop (fun k => rp_ D a cI cL t (sl_ S i K k) K Qt O1 O2 En Ot Wt) (fun k => [some (.ref a), some (.int (nI i)), some (.int (nI k))]) 64 ?_ (fun k hk ih => ?_)
  · refine aw_iload_n C dc_M_lay_2 rfl ?_
    refine aw_bipush C dc_M_lay_3 (v := nI 64) rfl ?_
    refine aw_icmp_ge C dc_M_lay_5 (tgt := 31) (by decide) (fun _ => ?_) (fun h9 => absurd (nI_le (Nat.le_refl _) (by decide)) h9)
    refine aw_aload_n C dc_M_lay_31 rfl ?_
    refine aw_iload_n C dc_M_lay_32 rfl ?_
    refine kc_i (fun _ h => h) (fun _ h => h) (kc_V (n := 1) C hX xk_true rfl 0 rf_p0 rfl (m_countOf l D a cI cL cF t (sl_ S i K 64) K Qt O1 O2 En Ot Wt i hi) kw_697 kw_694 kw_696 (tw_sel (q := (my_M_countOf, 9)) (by decide +kernel)) kw_8 rfl (by unfold kd_; decide) ⟨rfl, rfl, by decide, by decide⟩ rfl rfl (Nat.le_of_ble_eq_true rfl) ⟨Nat.zero_le _, Nat.zero_le _⟩ dc_M_lay_33) ?_
    exact kc_iret C hr rfl (fun _ h => h) dc_M_lay_36
  · refine aw_iload_n C dc_M_lay_2 rfl ?_
    refine aw_bipush C dc_M_lay_3 (v := nI 64) rfl ?_
    refine aw_icmp_ge C dc_M_lay_5 (tgt := 31) (by decide) (fun h9 => absurd h9 (nI_ge hk (by decide))) (fun _ => ?_)
    refine aw_aload_n C dc_M_lay_8 rfl ?_
    refine aw_get C (fun w h => List.mem_cons_of_mem _ (ly_M w h)) 0 rf_p0 rfl 1 (by decide) (C.1.2.2.2.2 _ (List.mem_cons_of_mem _ kw_637)) (fun _ h => h) rfl dc_M_lay_9 ?_
    refine aw_bipush C dc_M_lay_12 (v := nI 64) rfl ?_
    refine aw_iload_n C dc_M_lay_14 rfl ?_
    refine aw_imul C dc_M_lay_15 ?_
    refine aw_iload_n C dc_M_lay_16 rfl ?_
    refine aw_iadd C dc_M_lay_17 ?_
    refine aw_aload_n C dc_M_lay_18 rfl ?_
    refine aw_get C (fun w h => List.mem_cons_of_mem _ (ly_M w h)) 0 rf_p0 rfl 2 (by decide) (C.1.2.2.2.2 _ (List.mem_cons_of_mem _ kw_638)) (fun _ h => h) rfl dc_M_lay_19 ?_
    refine aw_iload_n C dc_M_lay_22 rfl ?_
    refine aw_lald C 2 1 rf_p2 rfl k rfl (by omega) (by decide) dc_M_lay_23 ?_
    refine aw_last C rf_D 1 1 rf_p1 rfl (64 * i + k) (ms_i2 i k) (by omega) (by decide) (ws' := rf_ a cI cL t (sl_ S i K (k + 1)) K Qt O1 O2 En Ot Wt) (by rw [← sl_s]; rfl) dc_M_lay_24 ?_
    refine aw_iinc C dc_M_lay_25 rfl (ni_inc _) (by decide) rfl ?_
    refine aw_goto C dc_M_lay_28 (tgt := 2) (by decide) ?_
    exact ih
set_option maxHeartbeats 4000000 in
set_option maxRecDepth 100000 in
theorem m_noShelf0 (l : Launch) (D : va_G) (tys : List (ClassId × FieldType)) (X : State → Prop) (A : Nat → Prop) (P : Heap → Prop) (k : Nat) (hk : k < 10) : ki_ l my_M_noShelf (Cond.code my_M_noShelf bc_M_noShelf 1 (some .boolean) :: tw_) rm0 D tys X A [.int (nI k)] P P 0 := by
  refine aw_met (A := A) (own := "FamilyShelfModel") (by decide) rfl rfl (Nat.le_of_ble_eq_true rfl) ?_
  intro p9 e s m args below meth c C hr hX hP0
  refine aw_lw (lw' := [some (.int (nI k))]) rfl ?_
  refine aw_iload_n C dc_M_noShelf_0 rfl ?_
  refine aw_if_lt C dc_M_noShelf_1 (tgt := 10) (by decide) (fun h9 => absurd h9 (nI_pos (by omega))) (fun _ => ?_)
  refine aw_iload_n C dc_M_noShelf_4 rfl ?_
  refine aw_bipush C dc_M_noShelf_5 (v := nI 10) rfl ?_
  refine aw_icmp_lt C dc_M_noShelf_7 (tgt := 14) (by decide) (fun _ => ?_) (fun h9 => absurd (nI_lt hk (by decide)) h9)
  refine aw_iconst C dc_M_noShelf_14 (v := nI 0) rfl ?_
  exact kc_zret C hr (by decide) (rfl) (fun _ h => h) dc_M_noShelf_15
set_option maxHeartbeats 4000000 in
set_option maxRecDepth 100000 in
theorem m_noShelf1 (l : Launch) (D : va_G) (tys : List (ClassId × FieldType)) (X : State → Prop) (A : Nat → Prop) (P : Heap → Prop) (x : Int32) (hx : x < 0 ∨ nI 10 ≤ x) : ki_ l my_M_noShelf (Cond.code my_M_noShelf bc_M_noShelf 1 (some .boolean) :: tw_) rm0 D tys X A [.int x] P P 1 := by
  refine aw_met (A := A) (own := "FamilyShelfModel") (by decide) rfl rfl (Nat.le_of_ble_eq_true rfl) ?_
  intro p9 e s m args below meth c C hr hX hP0
  refine aw_lw (lw' := [some (.int x)]) rfl ?_
  refine aw_iload_n C dc_M_noShelf_0 rfl ?_
  refine aw_if_lt C dc_M_noShelf_1 (tgt := 10) (by decide) (fun hB1 => ?_) (fun hB1 => ?_)
  · refine aw_iconst C dc_M_noShelf_10 (v := nI 1) rfl ?_
    refine aw_goto C dc_M_noShelf_11 (tgt := 15) (by decide) ?_
    exact kc_zret C hr (by decide) (rfl) (fun _ h => h) dc_M_noShelf_15
  · refine aw_iload_n C dc_M_noShelf_4 rfl ?_
    refine aw_bipush C dc_M_noShelf_5 (v := nI 10) rfl ?_
    refine aw_icmp_lt C dc_M_noShelf_7 (tgt := 14) (by decide) (fun h9 => absurd h9 (fun h9 => hx.elim hB1 (fun h8 => absurd h9 (Int32.not_lt.mpr h8)))) (fun _ => ?_)
    refine aw_iconst C dc_M_noShelf_10 (v := nI 1) rfl ?_
    refine aw_goto C dc_M_noShelf_11 (tgt := 15) (by decide) ?_
    exact kc_zret C hr (by decide) (rfl) (fun _ h => h) dc_M_noShelf_15
set_option maxHeartbeats 4000000 in
set_option maxRecDepth 100000 in
theorem m_noElement0 (l : Launch) (D : va_G) (tys : List (ClassId × FieldType)) (X : State → Prop) (A : Nat → Prop) (P : Heap → Prop) (k : Nat) (hk : k < 12) : ki_ l my_M_noElement (Cond.code my_M_noElement bc_M_noElement 1 (some .boolean) :: tw_) rm0 D tys X A [.int (nI k)] P P 0 := by
  refine aw_met (A := A) (own := "FamilyShelfModel") (by decide) rfl rfl (Nat.le_of_ble_eq_true rfl) ?_
  intro p9 e s m args below meth c C hr hX hP0
  refine aw_lw (lw' := [some (.int (nI k))]) rfl ?_
  refine aw_iload_n C dc_M_noElement_0 rfl ?_
  refine aw_if_lt C dc_M_noElement_1 (tgt := 10) (by decide) (fun h9 => absurd h9 (nI_pos (by omega))) (fun _ => ?_)
  refine aw_iload_n C dc_M_noElement_4 rfl ?_
  refine aw_bipush C dc_M_noElement_5 (v := nI 12) rfl ?_
  refine aw_icmp_lt C dc_M_noElement_7 (tgt := 14) (by decide) (fun _ => ?_) (fun h9 => absurd (nI_lt hk (by decide)) h9)
  refine aw_iconst C dc_M_noElement_14 (v := nI 0) rfl ?_
  exact kc_zret C hr (by decide) (rfl) (fun _ h => h) dc_M_noElement_15
set_option maxHeartbeats 4000000 in
set_option maxRecDepth 100000 in
theorem m_noElement1 (l : Launch) (D : va_G) (tys : List (ClassId × FieldType)) (X : State → Prop) (A : Nat → Prop) (P : Heap → Prop) (x : Int32) (hx : x < 0 ∨ nI 12 ≤ x) : ki_ l my_M_noElement (Cond.code my_M_noElement bc_M_noElement 1 (some .boolean) :: tw_) rm0 D tys X A [.int x] P P 1 := by
  refine aw_met (A := A) (own := "FamilyShelfModel") (by decide) rfl rfl (Nat.le_of_ble_eq_true rfl) ?_
  intro p9 e s m args below meth c C hr hX hP0
  refine aw_lw (lw' := [some (.int x)]) rfl ?_
  refine aw_iload_n C dc_M_noElement_0 rfl ?_
  refine aw_if_lt C dc_M_noElement_1 (tgt := 10) (by decide) (fun hB1 => ?_) (fun hB1 => ?_)
  · refine aw_iconst C dc_M_noElement_10 (v := nI 1) rfl ?_
    refine aw_goto C dc_M_noElement_11 (tgt := 15) (by decide) ?_
    exact kc_zret C hr (by decide) (rfl) (fun _ h => h) dc_M_noElement_15
  · refine aw_iload_n C dc_M_noElement_4 rfl ?_
    refine aw_bipush C dc_M_noElement_5 (v := nI 12) rfl ?_
    refine aw_icmp_lt C dc_M_noElement_7 (tgt := 14) (by decide) (fun h9 => absurd h9 (fun h9 => hx.elim hB1 (fun h8 => absurd h9 (Int32.not_lt.mpr h8)))) (fun _ => ?_)
    refine aw_iconst C dc_M_noElement_10 (v := nI 1) rfl ?_
    refine aw_goto C dc_M_noElement_11 (tgt := 15) (by decide) ?_
    exact kc_zret C hr (by decide) (rfl) (fun _ h => h) dc_M_noElement_15
set_option maxHeartbeats 4000000 in
set_option maxRecDepth 100000 in
theorem m_noVertex0 (l : Launch) (D : va_G) (tys : List (ClassId × FieldType)) (X : State → Prop) (A : Nat → Prop) (P : Heap → Prop) (k : Nat) (hk : k < 7) : ki_ l my_M_noVertex (Cond.code my_M_noVertex bc_M_noVertex 1 (some .boolean) :: tw_) rm0 D tys X A [.int (nI k)] P P 0 := by
  refine aw_met (A := A) (own := "FamilyShelfModel") (by decide) rfl rfl (Nat.le_of_ble_eq_true rfl) ?_
  intro p9 e s m args below meth c C hr hX hP0
  refine aw_lw (lw' := [some (.int (nI k))]) rfl ?_
  refine aw_iload_n C dc_M_noVertex_0 rfl ?_
  refine aw_if_lt C dc_M_noVertex_1 (tgt := 10) (by decide) (fun h9 => absurd h9 (nI_pos (by omega))) (fun _ => ?_)
  refine aw_iload_n C dc_M_noVertex_4 rfl ?_
  refine aw_bipush C dc_M_noVertex_5 (v := nI 7) rfl ?_
  refine aw_icmp_lt C dc_M_noVertex_7 (tgt := 14) (by decide) (fun _ => ?_) (fun h9 => absurd (nI_lt hk (by decide)) h9)
  refine aw_iconst C dc_M_noVertex_14 (v := nI 0) rfl ?_
  exact kc_zret C hr (by decide) (rfl) (fun _ h => h) dc_M_noVertex_15
set_option maxHeartbeats 4000000 in
set_option maxRecDepth 100000 in
theorem m_noVertex1 (l : Launch) (D : va_G) (tys : List (ClassId × FieldType)) (X : State → Prop) (A : Nat → Prop) (P : Heap → Prop) (x : Int32) (hx : x < 0 ∨ nI 7 ≤ x) : ki_ l my_M_noVertex (Cond.code my_M_noVertex bc_M_noVertex 1 (some .boolean) :: tw_) rm0 D tys X A [.int x] P P 1 := by
  refine aw_met (A := A) (own := "FamilyShelfModel") (by decide) rfl rfl (Nat.le_of_ble_eq_true rfl) ?_
  intro p9 e s m args below meth c C hr hX hP0
  refine aw_lw (lw' := [some (.int x)]) rfl ?_
  refine aw_iload_n C dc_M_noVertex_0 rfl ?_
  refine aw_if_lt C dc_M_noVertex_1 (tgt := 10) (by decide) (fun hB1 => ?_) (fun hB1 => ?_)
  · refine aw_iconst C dc_M_noVertex_10 (v := nI 1) rfl ?_
    refine aw_goto C dc_M_noVertex_11 (tgt := 15) (by decide) ?_
    exact kc_zret C hr (by decide) (rfl) (fun _ h => h) dc_M_noVertex_15
  · refine aw_iload_n C dc_M_noVertex_4 rfl ?_
    refine aw_bipush C dc_M_noVertex_5 (v := nI 7) rfl ?_
    refine aw_icmp_lt C dc_M_noVertex_7 (tgt := 14) (by decide) (fun h9 => absurd h9 (fun h9 => hx.elim hB1 (fun h8 => absurd h9 (Int32.not_lt.mpr h8)))) (fun _ => ?_)
    refine aw_iconst C dc_M_noVertex_10 (v := nI 1) rfl ?_
    refine aw_goto C dc_M_noVertex_11 (tgt := 15) (by decide) ?_
    exact kc_zret C hr (by decide) (rfl) (fun _ h => h) dc_M_noVertex_15
set_option maxHeartbeats 4000000 in
set_option maxRecDepth 100000 in
theorem m_asked0 (l : Launch) (D : va_G) (tys : List (ClassId × FieldType)) (X : State → Prop) (A : Nat → Prop) (P : Heap → Prop) (hk9 : xk A X) (i : Nat) (hi : i < 10) (n : Nat) (hn : n < 4096) : ki_ l my_M_asked (Cond.code my_M_asked bc_M_asked 2 (some .int) :: tw_) ({ frames := 1, cells := 0, slots := 0, locals := 20 }) D tys X A [.int (nI i), .int (nI n)] P P (nI 0) := by
  refine aw_met (A := A) (own := "FamilyShelfModel") (by decide) rfl rfl (Nat.le_of_ble_eq_true rfl) ?_
  intro p9 e s m args below meth c C hr hX hP0
  refine aw_lw (lw' := [some (.int (nI i)), some (.int (nI n))]) rfl ?_
  refine aw_iload_n C dc_M_asked_0 rfl ?_
  refine kc_i (fun _ h => h) (fun _ h => h) (kc_S (n := 1) C hX hk9 (m_noShelf0 l D _ _ _ _ i hi) kw_677 kw_675 kw_676 kw_8 (by unfold kd_; decide) ⟨rfl, rfl, by decide, by decide⟩ rfl rfl (Nat.le_of_ble_eq_true rfl) ⟨Nat.zero_le _, Nat.zero_le _⟩ dc_M_asked_1) ?_
  refine aw_if_eq C dc_M_asked_4 (tgt := 11) (by decide) (fun _ => ?_) (fun h9 => absurd (rfl) h9)
  refine aw_iload_n C dc_M_asked_11 rfl ?_
  refine aw_if_lt C dc_M_asked_12 (tgt := 22) (by decide) (fun h9 => absurd h9 (nI_pos (by omega))) (fun _ => ?_)
  refine aw_iload_n C dc_M_asked_15 rfl ?_
  refine aw_sipush C dc_M_asked_16 (v := nI 4096) rfl ?_
  refine aw_icmp_lt C dc_M_asked_19 (tgt := 26) (by decide) (fun _ => ?_) (fun h9 => absurd (nI_lt hn (by decide)) h9)
  refine aw_iconst C dc_M_asked_26 (v := nI 0) rfl ?_
  exact kc_iret C hr rfl (fun _ h => h) dc_M_asked_27
set_option maxHeartbeats 4000000 in
set_option maxRecDepth 100000 in
theorem m_asked1 (l : Launch) (D : va_G) (tys : List (ClassId × FieldType)) (X : State → Prop) (A : Nat → Prop) (P : Heap → Prop) (hk9 : xk A X) (x : Int32) (hx : x < 0 ∨ nI 10 ≤ x) (y : Int32) : ki_ l my_M_asked (Cond.code my_M_asked bc_M_asked 2 (some .int) :: tw_) ({ frames := 1, cells := 0, slots := 0, locals := 20 }) D tys X A [.int x, .int y] P P (nI 1) := by
  refine aw_met (A := A) (own := "FamilyShelfModel") (by decide) rfl rfl (Nat.le_of_ble_eq_true rfl) ?_
  intro p9 e s m args below meth c C hr hX hP0
  refine aw_lw (lw' := [some (.int x), some (.int y)]) rfl ?_
  refine aw_iload_n C dc_M_asked_0 rfl ?_
  refine kc_i (fun _ h => h) (fun _ h => h) (kc_S (n := 1) C hX hk9 (m_noShelf1 l D _ _ _ _ x hx) kw_677 kw_675 kw_676 kw_8 (by unfold kd_; decide) ⟨rfl, rfl, by decide, by decide⟩ rfl rfl (Nat.le_of_ble_eq_true rfl) ⟨Nat.zero_le _, Nat.zero_le _⟩ dc_M_asked_1) ?_
  refine aw_if_eq C dc_M_asked_4 (tgt := 11) (by decide) (fun h9 => absurd h9 (by decide)) (fun _ => ?_)
  refine aw_iconst C dc_M_asked_7 (v := nI 1) rfl ?_
  refine aw_goto C dc_M_asked_8 (tgt := 27) (by decide) ?_
  exact kc_iret C hr rfl (fun _ h => h) dc_M_asked_27
set_option maxHeartbeats 4000000 in
set_option maxRecDepth 100000 in
theorem m_asked2 (l : Launch) (D : va_G) (tys : List (ClassId × FieldType)) (X : State → Prop) (A : Nat → Prop) (P : Heap → Prop) (hk9 : xk A X) (i : Nat) (hi : i < 10) (x : Int32) (hx : x < 0 ∨ nI 4096 ≤ x) : ki_ l my_M_asked (Cond.code my_M_asked bc_M_asked 2 (some .int) :: tw_) ({ frames := 1, cells := 0, slots := 0, locals := 20 }) D tys X A [.int (nI i), .int x] P P (nI 2) := by
  refine aw_met (A := A) (own := "FamilyShelfModel") (by decide) rfl rfl (Nat.le_of_ble_eq_true rfl) ?_
  intro p9 e s m args below meth c C hr hX hP0
  refine aw_lw (lw' := [some (.int (nI i)), some (.int x)]) rfl ?_
  refine aw_iload_n C dc_M_asked_0 rfl ?_
  refine kc_i (fun _ h => h) (fun _ h => h) (kc_S (n := 1) C hX hk9 (m_noShelf0 l D _ _ _ _ i hi) kw_677 kw_675 kw_676 kw_8 (by unfold kd_; decide) ⟨rfl, rfl, by decide, by decide⟩ rfl rfl (Nat.le_of_ble_eq_true rfl) ⟨Nat.zero_le _, Nat.zero_le _⟩ dc_M_asked_1) ?_
  refine aw_if_eq C dc_M_asked_4 (tgt := 11) (by decide) (fun _ => ?_) (fun h9 => absurd (rfl) h9)
  refine aw_iload_n C dc_M_asked_11 rfl ?_
  refine aw_if_lt C dc_M_asked_12 (tgt := 22) (by decide) (fun hB12 => ?_) (fun hB12 => ?_)
  · refine aw_iconst C dc_M_asked_22 (v := nI 2) rfl ?_
    refine aw_goto C dc_M_asked_23 (tgt := 27) (by decide) ?_
    exact kc_iret C hr rfl (fun _ h => h) dc_M_asked_27
  · refine aw_iload_n C dc_M_asked_15 rfl ?_
    refine aw_sipush C dc_M_asked_16 (v := nI 4096) rfl ?_
    refine aw_icmp_lt C dc_M_asked_19 (tgt := 26) (by decide) (fun h9 => absurd h9 (fun h9 => hx.elim hB12 (fun h8 => absurd h9 (Int32.not_lt.mpr h8)))) (fun _ => ?_)
    refine aw_iconst C dc_M_asked_22 (v := nI 2) rfl ?_
    refine aw_goto C dc_M_asked_23 (tgt := 27) (by decide) ?_
    exact kc_iret C hr rfl (fun _ h => h) dc_M_asked_27
set_option maxHeartbeats 4000000 in
set_option maxRecDepth 100000 in
theorem m_bitOf (l : Launch) (D : va_G) (tys : List (ClassId × FieldType)) (X : State → Prop) (A : Nat → Prop) (P : Heap → Prop) (e9 : Nat) (he : e9 < 12) : ki_ l my_M_bitOf (Cond.code my_M_bitOf bc_M_bitOf 1 (some .int) :: tw_) rm0 D tys X A [.int (nI e9)] P P (nI (2 ^ (11 - e9))) := by
  refine aw_met (A := A) (own := "FamilyShelfModel") (by decide) rfl rfl (Nat.le_of_ble_eq_true rfl) ?_
  intro p9 e s m args below meth c C hr hX hP0
  refine aw_lw (lw' := [some (.int (nI e9))]) rfl ?_
  refine aw_iconst C dc_M_bitOf_0 (v := nI 1) rfl ?_
  refine aw_bipush C dc_M_bitOf_1 (v := nI 11) rfl ?_
  refine aw_iload_n C dc_M_bitOf_3 rfl ?_
  refine aw_isub C dc_M_bitOf_4 ?_
  refine aw_eqi (pk_sub (by omega)) ?_
  refine aw_ishl C dc_M_bitOf_5 ?_
  refine aw_eqi (ni_bit (by omega)) ?_
  exact kc_iret C hr rfl (fun _ h => h) dc_M_bitOf_6
set_option maxHeartbeats 4000000 in
set_option maxRecDepth 100000 in
theorem m_load4 (l : Launch) (D : va_G) (a : Nat) (cI cL cF : ClassId) (t : Int32) (S K Qt : Nat → Int64) (O1 O2 En Ot Wt : Nat → Int32) (i : Nat) (hi : i < 10) : kv_ l my_M_load (Cond.code my_M_load bc_M_load 4 none :: tw_) ({ frames := 1, cells := 0, slots := 0, locals := 22 }) D (ty_s cI cL cF) (fun _ => True) (cm_ a) [.ref a, .ref (a + 4), .int (nI i)] (rp_ D a cI cL t S K Qt O1 O2 En Ot Wt) (rp_ D a cI cL t S K Qt (ll_ (fb_ (rw_ S i)) O1 4096) O2 En Ot Wt) := by
  refine aw_met (A := cm_ a) (own := "FamilyShelfModel") (by decide) rfl rfl (Nat.le_of_ble_eq_true rfl) ?_
  intro p9 e s m args below meth c C hr hX hP0
  refine aw_lw (lw' := [some (.ref a), some (.ref (a + 4)), some (.int (nI i)), none]) rfl ?_
  refine aw_iconst C dc_M_load_0 (v := nI 0) rfl ?_
  refine aw_istore_n C dc_M_load_1 (by decide) rfl ?_
  refine aw_P (P' := rp_ D a cI cL t S K Qt (ll_ (fb_ (rw_ S i)) O1 0) O2 En Ot Wt) (fun H h => by rw [ll_0]; exact h) ?_
  refine aw_loop (fun k => rp_ D a cI cL t S K Qt (ll_ (fb_ (rw_ S i)) O1 k) O2 En Ot Wt) (fun k => [some (.ref a), some (.ref (a + 4)), some (.int (nI i)), some (.int (nI k))]) 4096 ?_ (fun k hk ih => ?_)
  · refine aw_iload_n C dc_M_load_2 rfl ?_
    refine aw_sipush C dc_M_load_3 (v := nI 4096) rfl ?_
    refine aw_icmp_ge C dc_M_load_6 (tgt := 32) (by decide) (fun _ => ?_) (fun h9 => absurd (nI_le (Nat.le_refl _) (by decide)) h9)
    exact kc_vret C hr (fun _ h => h) dc_M_load_32
  · refine aw_iload_n C dc_M_load_2 rfl ?_
    refine aw_sipush C dc_M_load_3 (v := nI 4096) rfl ?_
    refine aw_icmp_ge C dc_M_load_6 (tgt := 32) (by decide) (fun h9 => absurd h9 (nI_ge hk (by decide))) (fun _ => ?_)
    refine aw_aload_n C dc_M_load_9 rfl ?_
    refine aw_iload_n C dc_M_load_10 rfl ?_
    refine aw_aload_n C dc_M_load_11 rfl ?_
    refine aw_iload_n C dc_M_load_12 rfl ?_
    refine aw_iload_n C dc_M_load_13 rfl ?_
    refine kc_i (fun _ h => h) (fun _ h => h) (kc_V (n := 2) C hX xk_true rfl 0 rf_p0 rfl (m_isIn l D a cI cL cF t S K Qt (ll_ (fb_ (rw_ S i)) O1 k) O2 En Ot Wt i hi k hk) kw_684 kw_681 kw_683 (tw_sel (q := (my_M_isIn, 9)) (by decide +kernel)) kw_8 rfl (by unfold kd_; decide) ⟨rfl, rfl, by decide, by decide⟩ rfl rfl (Nat.le_of_ble_eq_true rfl) ⟨Nat.zero_le _, Nat.zero_le _⟩ dc_M_load_14) ?_
    refine aw_if_eq C dc_M_load_17 (tgt := 24) (by decide) (fun hB17 => ?_) (fun hB17 => ?_)
    · have hb := z1_0.mp hB17
      refine aw_iconst C dc_M_load_24 (v := nI 0) rfl ?_
      refine aw_iast C rf_D 4 0 rf_p4 rfl k rfl (by omega) (by decide) (ws' := rf_ a cI cL t S K Qt (ll_ (fb_ (rw_ S i)) O1 (k + 1)) O2 En Ot Wt) (by rw [← ll_s, hb]; rfl) dc_M_load_25 ?_
      refine aw_iinc C dc_M_load_26 rfl (ni_inc _) (by decide) rfl ?_
      refine aw_goto C dc_M_load_29 (tgt := 2) (by decide) ?_
      exact ih
    · have hb := z1_n.mp hB17
      refine aw_iconst C dc_M_load_20 (v := nI 1) rfl ?_
      refine aw_goto C dc_M_load_21 (tgt := 25) (by decide) ?_
      refine aw_iast C rf_D 4 0 rf_p4 rfl k rfl (by omega) (by decide) (ws' := rf_ a cI cL t S K Qt (ll_ (fb_ (rw_ S i)) O1 (k + 1)) O2 En Ot Wt) (by rw [← ll_s, hb]; rfl) dc_M_load_25 ?_
      refine aw_iinc C dc_M_load_26 rfl (ni_inc _) (by decide) rfl ?_
      refine aw_goto C dc_M_load_29 (tgt := 2) (by decide) ?_
      exact ih
set_option maxHeartbeats 4000000 in
set_option maxRecDepth 100000 in
theorem m_load5 (l : Launch) (D : va_G) (a : Nat) (cI cL cF : ClassId) (t : Int32) (S K Qt : Nat → Int64) (O1 O2 En Ot Wt : Nat → Int32) (i : Nat) (hi : i < 10) : kv_ l my_M_load (Cond.code my_M_load bc_M_load 4 none :: tw_) ({ frames := 1, cells := 0, slots := 0, locals := 22 }) D (ty_s cI cL cF) (fun _ => True) (cm_ a) [.ref a, .ref (a + 5), .int (nI i)] (rp_ D a cI cL t S K Qt O1 O2 En Ot Wt) (rp_ D a cI cL t S K Qt O1 (ll_ (fb_ (rw_ S i)) O2 4096) En Ot Wt) := by
  refine aw_met (A := cm_ a) (own := "FamilyShelfModel") (by decide) rfl rfl (Nat.le_of_ble_eq_true rfl) ?_
  intro p9 e s m args below meth c C hr hX hP0
  refine aw_lw (lw' := [some (.ref a), some (.ref (a + 5)), some (.int (nI i)), none]) rfl ?_
  refine aw_iconst C dc_M_load_0 (v := nI 0) rfl ?_
  refine aw_istore_n C dc_M_load_1 (by decide) rfl ?_
  refine aw_P (P' := rp_ D a cI cL t S K Qt O1 (ll_ (fb_ (rw_ S i)) O2 0) En Ot Wt) (fun H h => by rw [ll_0]; exact h) ?_
  refine aw_loop (fun k => rp_ D a cI cL t S K Qt O1 (ll_ (fb_ (rw_ S i)) O2 k) En Ot Wt) (fun k => [some (.ref a), some (.ref (a + 5)), some (.int (nI i)), some (.int (nI k))]) 4096 ?_ (fun k hk ih => ?_)
  · refine aw_iload_n C dc_M_load_2 rfl ?_
    refine aw_sipush C dc_M_load_3 (v := nI 4096) rfl ?_
    refine aw_icmp_ge C dc_M_load_6 (tgt := 32) (by decide) (fun _ => ?_) (fun h9 => absurd (nI_le (Nat.le_refl _) (by decide)) h9)
    exact kc_vret C hr (fun _ h => h) dc_M_load_32
  · refine aw_iload_n C dc_M_load_2 rfl ?_
    refine aw_sipush C dc_M_load_3 (v := nI 4096) rfl ?_
    refine aw_icmp_ge C dc_M_load_6 (tgt := 32) (by decide) (fun h9 => absurd h9 (nI_ge hk (by decide))) (fun _ => ?_)
    refine aw_aload_n C dc_M_load_9 rfl ?_
    refine aw_iload_n C dc_M_load_10 rfl ?_
    refine aw_aload_n C dc_M_load_11 rfl ?_
    refine aw_iload_n C dc_M_load_12 rfl ?_
    refine aw_iload_n C dc_M_load_13 rfl ?_
    refine kc_i (fun _ h => h) (fun _ h => h) (kc_V (n := 2) C hX xk_true rfl 0 rf_p0 rfl (m_isIn l D a cI cL cF t S K Qt O1 (ll_ (fb_ (rw_ S i)) O2 k) En Ot Wt i hi k hk) kw_684 kw_681 kw_683 (tw_sel (q := (my_M_isIn, 9)) (by decide +kernel)) kw_8 rfl (by unfold kd_; decide) ⟨rfl, rfl, by decide, by decide⟩ rfl rfl (Nat.le_of_ble_eq_true rfl) ⟨Nat.zero_le _, Nat.zero_le _⟩ dc_M_load_14) ?_
    refine aw_if_eq C dc_M_load_17 (tgt := 24) (by decide) (fun hB17 => ?_) (fun hB17 => ?_)
    · have hb := z1_0.mp hB17
      refine aw_iconst C dc_M_load_24 (v := nI 0) rfl ?_
      refine aw_iast C rf_D 5 0 rf_p5 rfl k rfl (by omega) (by decide) (ws' := rf_ a cI cL t S K Qt O1 (ll_ (fb_ (rw_ S i)) O2 (k + 1)) En Ot Wt) (by rw [← ll_s, hb]; rfl) dc_M_load_25 ?_
      refine aw_iinc C dc_M_load_26 rfl (ni_inc _) (by decide) rfl ?_
      refine aw_goto C dc_M_load_29 (tgt := 2) (by decide) ?_
      exact ih
    · have hb := z1_n.mp hB17
      refine aw_iconst C dc_M_load_20 (v := nI 1) rfl ?_
      refine aw_goto C dc_M_load_21 (tgt := 25) (by decide) ?_
      refine aw_iast C rf_D 5 0 rf_p5 rfl k rfl (by omega) (by decide) (ws' := rf_ a cI cL t S K Qt O1 (ll_ (fb_ (rw_ S i)) O2 (k + 1)) En Ot Wt) (by rw [← ll_s, hb]; rfl) dc_M_load_25 ?_
      refine aw_iinc C dc_M_load_26 rfl (ni_inc _) (by decide) rfl ?_
      refine aw_goto C dc_M_load_29 (tgt := 2) (by decide) ?_
      exact ih
set_option maxHeartbeats 4000000 in
set_option maxRecDepth 100000 in
theorem m_sum (l : Launch) (D : va_G) (tys : List (ClassId × FieldType)) (X : State → Prop) (A : Nat → Prop) (ws : va_W) (hD : va_D A ws) (q t0 aa : Nat) (cA : ClassId) (f : Nat → Int32) (hq : ws[q]? = some (aa, .inl (cA, 4096, .inl f))) (ht : tys[t0]? = some (cA, .int)) (ov : Bool) : kv_ l my_M_sum (Cond.code my_M_sum bc_M_sum 4 none :: tw_) rm0 D tys X A [.ref aa, .int (z1_ ov)] (va_P D cl_ ws) (va_P D cl_ (ws.set q (aa, .inl (cA, 4096, .inl (zo_ (· + ·) ov f 12))))) := by
  refine aw_met (A := A) (own := "FamilyShelfModel") (by decide) rfl rfl (Nat.le_of_ble_eq_true rfl) ?_
  intro p9 e s m args below meth c C hr hX hP0
  refine aw_lw (lw' := [some (.ref aa), some (.int (z1_ ov)), none, none]) rfl ?_
  refine aw_iconst C dc_M_sum_0 (v := nI 1) rfl ?_
  refine aw_istore_n C dc_M_sum_1 (by decide) rfl ?_
  have h0 : ws = ws.set q (aa, .inl (cA, 4096, .inl (zo_ (· + ·) ov f 0))) := by
    rw [zo_]
    apply List.ext_getElem?
    intro j
    rw [List.getElem?_set]
    by_cases hj : q = j
    · subst hj
      rw [if_pos rfl, hq, if_pos (List.getElem?_eq_some_iff.mp hq).1]
    · rw [if_neg hj]
  refine aw_P (P' := va_P D cl_ (ws.set q (aa, .inl (cA, 4096, .inl (zo_ (· + ·) ov f 0))))) (fun H h => by rw [← h0]; exact h) ?_
  refine aw_loop (fun b => va_P D cl_ (ws.set q (aa, .inl (cA, 4096, .inl (zo_ (· + ·) ov f b))))) (fun b => [some (.ref aa), some (.int (z1_ ov)), some (.int (nI (2 ^ b))), none]) 12 ?_ (fun b hb ih => ?_)
  · refine aw_iload_n C dc_M_sum_2 rfl ?_
    refine aw_sipush C dc_M_sum_3 (v := nI 4096) rfl ?_
    refine aw_icmp_ge C dc_M_sum_6 (tgt := 73) (by decide) (fun _ => ?_) (fun h9 => absurd (nI_le (Nat.le_refl _) (by decide)) h9)
    exact kc_vret C hr (fun _ h => h) dc_M_sum_73
  · refine aw_iload_n C dc_M_sum_2 rfl ?_
    refine aw_sipush C dc_M_sum_3 (v := nI 4096) rfl ?_
    refine aw_icmp_ge C dc_M_sum_6 (tgt := 73) (by decide) (fun h9 => absurd h9 (nI_ge (ms_2b hb) (by decide))) (fun _ => ?_)
    refine aw_iconst C dc_M_sum_9 (v := nI 0) rfl ?_
    refine aw_istore_n C dc_M_sum_10 (by decide) rfl ?_
    refine aw_loop (fun p => va_P D cl_ (ws.set q (aa, .inl (cA, 4096, .inl (zi_ (· + ·) ov b (zo_ (· + ·) ov f b) p))))) (fun p => [some (.ref aa), some (.int (z1_ ov)), some (.int (nI (2 ^ b))), some (.int (nI p))]) 4096 ?_ (fun p hp ih2 => ?_)
    · refine aw_iload_n C dc_M_sum_11 rfl ?_
      refine aw_sipush C dc_M_sum_12 (v := nI 4096) rfl ?_
      refine aw_icmp_ge C dc_M_sum_15 (tgt := 66) (by decide) (fun _ => ?_) (fun h9 => absurd (nI_le (Nat.le_refl _) (by decide)) h9)
      refine aw_iload_n C dc_M_sum_66 rfl ?_
      refine aw_iconst C dc_M_sum_67 (v := nI 1) rfl ?_
      refine aw_ishl C dc_M_sum_68 ?_
      refine aw_eqi (ni_shl (k := 1) (by decide) (by have := ms_2b hb; omega)) ?_
      refine aw_eqi (show nI (2 ^ b * 2 ^ 1) = nI (2 ^ (b + 1)) from rfl) ?_
      refine aw_istore_n C dc_M_sum_69 (by decide) rfl ?_
      refine aw_goto C dc_M_sum_70 (tgt := 2) (by decide) ?_
      refine aw_sub (lw' := [some (.ref aa), some (.int (z1_ ov)), some (.int (nI (2 ^ (b + 1)))), none]) (by
        intro k v h
        match k, h with
        | 0, h => exact h
        | 1, h => exact h
        | 2, h => exact h
        | 3, h => exact nomatch (show (some none : Option (Option Value)) = some (some v) from h)
        | n + 4, h => exact nomatch (show (none : Option (Option Value)) = some (some v) from h)) ?_
      exact ih
    · refine aw_iload_n C dc_M_sum_11 rfl ?_
      refine aw_sipush C dc_M_sum_12 (v := nI 4096) rfl ?_
      refine aw_icmp_ge C dc_M_sum_15 (tgt := 66) (by decide) (fun h9 => absurd h9 (nI_ge hp (by decide))) (fun _ => ?_)
      refine aw_iload_n C dc_M_sum_18 rfl ?_
      refine aw_iload_n C dc_M_sum_19 rfl ?_
      refine aw_iand C dc_M_sum_20 ?_
      refine aw_if_ne C dc_M_sum_21 (tgt := 39) (by decide) (fun hB21 => ?_) (fun hB21 => ?_)
      · have hb1 : p.testBit b = true := by
          cases h9 : p.testBit b
          · exact absurd ((ms_and hp hb).mpr h9) hB21
          · rfl
        refine aw_iload_n C dc_M_sum_39 rfl ?_
        refine aw_iload_n C dc_M_sum_40 rfl ?_
        refine aw_iand C dc_M_sum_41 ?_
        refine aw_if_eq C dc_M_sum_42 (tgt := 60) (by decide) (fun h9 => absurd h9 (fun h9 => hB21 h9)) (fun _ => ?_)
        refine aw_iload_n C dc_M_sum_45 rfl ?_
        refine aw_if_ne C dc_M_sum_46 (tgt := 60) (by decide) (fun hB46 => ?_) (fun hB46 => ?_)
        · have hb2 := z1_n.mp hB46
          have e9 : (zi_ (· + ·) ov b (zo_ (· + ·) ov f b) (p + 1)) = (zi_ (· + ·) ov b (zo_ (· + ·) ov f b) p) := by rw [zi_, hb1, hb2]; rfl
          rw [e9] at ih2
          refine aw_iinc C dc_M_sum_60 rfl (ni_inc _) (by decide) rfl ?_
          refine aw_goto C dc_M_sum_63 (tgt := 11) (by decide) ?_
          exact ih2
        · have hb2 := z1_0.mp hB46
          refine aw_aload_n C dc_M_sum_49 rfl ?_
          refine aw_iload_n C dc_M_sum_50 rfl ?_
          refine aw_dup2_11 C dc_M_sum_51 rfl rfl ?_
          refine aw_iald C q t0 (f := (zi_ (· + ·) ov b (zo_ (· + ·) ov f b) p)) (by rw [List.getElem?_set, if_pos rfl, if_pos (List.getElem?_eq_some_iff.mp hq).1]) ht p rfl hp (by decide) dc_M_sum_52 ?_
          refine aw_aload_n C dc_M_sum_53 rfl ?_
          refine aw_iload_n C dc_M_sum_54 rfl ?_
          refine aw_iload_n C dc_M_sum_55 rfl ?_
          refine aw_ixor C dc_M_sum_56 ?_
          refine aw_iald C q t0 (f := (zi_ (· + ·) ov b (zo_ (· + ·) ov f b) p)) (by rw [List.getElem?_set, if_pos rfl, if_pos (List.getElem?_eq_some_iff.mp hq).1]) ht (p ^^^ 2 ^ b) (ni_xor _ _) (ms_xor hp hb) (by decide) dc_M_sum_57 ?_
          refine aw_iadd C dc_M_sum_58 ?_
          refine aw_iast C (va_D.set hD hq) q t0 (f := (zi_ (· + ·) ov b (zo_ (· + ·) ov f b) p)) (by rw [List.getElem?_set, if_pos rfl, if_pos (List.getElem?_eq_some_iff.mp hq).1]) ht p rfl hp (by decide) (ws' := ws.set q (aa, .inl (cA, 4096, .inl (zi_ (· + ·) ov b (zo_ (· + ·) ov f b) (p + 1))))) (by rw [List.set_set, zi_, hb1, hb2]; rfl) dc_M_sum_59 ?_
          refine aw_iinc C dc_M_sum_60 rfl (ni_inc _) (by decide) rfl ?_
          refine aw_goto C dc_M_sum_63 (tgt := 11) (by decide) ?_
          exact ih2
      · have hb1 : p.testBit b = false := (ms_and hp hb).mp hB21
        refine aw_iload_n C dc_M_sum_24 rfl ?_
        refine aw_if_eq C dc_M_sum_25 (tgt := 39) (by decide) (fun hB25 => ?_) (fun hB25 => ?_)
        · have hb2 := z1_0.mp hB25
          have e9 : (zi_ (· + ·) ov b (zo_ (· + ·) ov f b) (p + 1)) = (zi_ (· + ·) ov b (zo_ (· + ·) ov f b) p) := by rw [zi_, hb1, hb2]; rfl
          rw [e9] at ih2
          refine aw_iload_n C dc_M_sum_39 rfl ?_
          refine aw_iload_n C dc_M_sum_40 rfl ?_
          refine aw_iand C dc_M_sum_41 ?_
          refine aw_if_eq C dc_M_sum_42 (tgt := 60) (by decide) (fun _ => ?_) (fun h9 => absurd (hB21) h9)
          refine aw_iinc C dc_M_sum_60 rfl (ni_inc _) (by decide) rfl ?_
          refine aw_goto C dc_M_sum_63 (tgt := 11) (by decide) ?_
          exact ih2
        · have hb2 := z1_n.mp hB25
          refine aw_aload_n C dc_M_sum_28 rfl ?_
          refine aw_iload_n C dc_M_sum_29 rfl ?_
          refine aw_dup2_11 C dc_M_sum_30 rfl rfl ?_
          refine aw_iald C q t0 (f := (zi_ (· + ·) ov b (zo_ (· + ·) ov f b) p)) (by rw [List.getElem?_set, if_pos rfl, if_pos (List.getElem?_eq_some_iff.mp hq).1]) ht p rfl hp (by decide) dc_M_sum_31 ?_
          refine aw_aload_n C dc_M_sum_32 rfl ?_
          refine aw_iload_n C dc_M_sum_33 rfl ?_
          refine aw_iload_n C dc_M_sum_34 rfl ?_
          refine aw_ior C dc_M_sum_35 ?_
          refine aw_iald C q t0 (f := (zi_ (· + ·) ov b (zo_ (· + ·) ov f b) p)) (by rw [List.getElem?_set, if_pos rfl, if_pos (List.getElem?_eq_some_iff.mp hq).1]) ht (p ||| 2 ^ b) (ni_or _ _) (ms_or hp hb) (by decide) dc_M_sum_36 ?_
          refine aw_iadd C dc_M_sum_37 ?_
          refine aw_iast C (va_D.set hD hq) q t0 (f := (zi_ (· + ·) ov b (zo_ (· + ·) ov f b) p)) (by rw [List.getElem?_set, if_pos rfl, if_pos (List.getElem?_eq_some_iff.mp hq).1]) ht p rfl hp (by decide) (ws' := ws.set q (aa, .inl (cA, 4096, .inl (zi_ (· + ·) ov b (zo_ (· + ·) ov f b) (p + 1))))) (by rw [List.set_set, zi_, hb1, hb2]; rfl) dc_M_sum_38 ?_
          refine aw_iload_n C dc_M_sum_39 rfl ?_
          refine aw_iload_n C dc_M_sum_40 rfl ?_
          refine aw_iand C dc_M_sum_41 ?_
          refine aw_if_eq C dc_M_sum_42 (tgt := 60) (by decide) (fun _ => ?_) (fun h9 => absurd (hB21) h9)
          refine aw_iinc C dc_M_sum_60 rfl (ni_inc _) (by decide) rfl ?_
          refine aw_goto C dc_M_sum_63 (tgt := 11) (by decide) ?_
          exact ih2
set_option maxHeartbeats 4000000 in
set_option maxRecDepth 100000 in
theorem m_part (l : Launch) (D : va_G) (tys : List (ClassId × FieldType)) (X : State → Prop) (A : Nat → Prop) (ws : va_W) (hD : va_D A ws) (q t0 aa : Nat) (cA : ClassId) (f : Nat → Int32) (hq : ws[q]? = some (aa, .inl (cA, 4096, .inl f))) (ht : tys[t0]? = some (cA, .int)) (ov : Bool) : kv_ l my_M_part (Cond.code my_M_part bc_M_part 4 none :: tw_) rm0 D tys X A [.ref aa, .int (z1_ ov)] (va_P D cl_ ws) (va_P D cl_ (ws.set q (aa, .inl (cA, 4096, .inl (zo_ (· - ·) ov f 12))))) := by
  refine aw_met (A := A) (own := "FamilyShelfModel") (by decide) rfl rfl (Nat.le_of_ble_eq_true rfl) ?_
  intro p9 e s m args below meth c C hr hX hP0
  refine aw_lw (lw' := [some (.ref aa), some (.int (z1_ ov)), none, none]) rfl ?_
  refine aw_iconst C dc_M_part_0 (v := nI 1) rfl ?_
  refine aw_istore_n C dc_M_part_1 (by decide) rfl ?_
  have h0 : ws = ws.set q (aa, .inl (cA, 4096, .inl (zo_ (· - ·) ov f 0))) := by
    rw [zo_]
    apply List.ext_getElem?
    intro j
    rw [List.getElem?_set]
    by_cases hj : q = j
    · subst hj
      rw [if_pos rfl, hq, if_pos (List.getElem?_eq_some_iff.mp hq).1]
    · rw [if_neg hj]
  refine aw_P (P' := va_P D cl_ (ws.set q (aa, .inl (cA, 4096, .inl (zo_ (· - ·) ov f 0))))) (fun H h => by rw [← h0]; exact h) ?_
  refine aw_loop (fun b => va_P D cl_ (ws.set q (aa, .inl (cA, 4096, .inl (zo_ (· - ·) ov f b))))) (fun b => [some (.ref aa), some (.int (z1_ ov)), some (.int (nI (2 ^ b))), none]) 12 ?_ (fun b hb ih => ?_)
  · refine aw_iload_n C dc_M_part_2 rfl ?_
    refine aw_sipush C dc_M_part_3 (v := nI 4096) rfl ?_
    refine aw_icmp_ge C dc_M_part_6 (tgt := 73) (by decide) (fun _ => ?_) (fun h9 => absurd (nI_le (Nat.le_refl _) (by decide)) h9)
    exact kc_vret C hr (fun _ h => h) dc_M_part_73
  · refine aw_iload_n C dc_M_part_2 rfl ?_
    refine aw_sipush C dc_M_part_3 (v := nI 4096) rfl ?_
    refine aw_icmp_ge C dc_M_part_6 (tgt := 73) (by decide) (fun h9 => absurd h9 (nI_ge (ms_2b hb) (by decide))) (fun _ => ?_)
    refine aw_iconst C dc_M_part_9 (v := nI 0) rfl ?_
    refine aw_istore_n C dc_M_part_10 (by decide) rfl ?_
    refine aw_loop (fun p => va_P D cl_ (ws.set q (aa, .inl (cA, 4096, .inl (zi_ (· - ·) ov b (zo_ (· - ·) ov f b) p))))) (fun p => [some (.ref aa), some (.int (z1_ ov)), some (.int (nI (2 ^ b))), some (.int (nI p))]) 4096 ?_ (fun p hp ih2 => ?_)
    · refine aw_iload_n C dc_M_part_11 rfl ?_
      refine aw_sipush C dc_M_part_12 (v := nI 4096) rfl ?_
      refine aw_icmp_ge C dc_M_part_15 (tgt := 66) (by decide) (fun _ => ?_) (fun h9 => absurd (nI_le (Nat.le_refl _) (by decide)) h9)
      refine aw_iload_n C dc_M_part_66 rfl ?_
      refine aw_iconst C dc_M_part_67 (v := nI 1) rfl ?_
      refine aw_ishl C dc_M_part_68 ?_
      refine aw_eqi (ni_shl (k := 1) (by decide) (by have := ms_2b hb; omega)) ?_
      refine aw_eqi (show nI (2 ^ b * 2 ^ 1) = nI (2 ^ (b + 1)) from rfl) ?_
      refine aw_istore_n C dc_M_part_69 (by decide) rfl ?_
      refine aw_goto C dc_M_part_70 (tgt := 2) (by decide) ?_
      refine aw_sub (lw' := [some (.ref aa), some (.int (z1_ ov)), some (.int (nI (2 ^ (b + 1)))), none]) (by
        intro k v h
        match k, h with
        | 0, h => exact h
        | 1, h => exact h
        | 2, h => exact h
        | 3, h => exact nomatch (show (some none : Option (Option Value)) = some (some v) from h)
        | n + 4, h => exact nomatch (show (none : Option (Option Value)) = some (some v) from h)) ?_
      exact ih
    · refine aw_iload_n C dc_M_part_11 rfl ?_
      refine aw_sipush C dc_M_part_12 (v := nI 4096) rfl ?_
      refine aw_icmp_ge C dc_M_part_15 (tgt := 66) (by decide) (fun h9 => absurd h9 (nI_ge hp (by decide))) (fun _ => ?_)
      refine aw_iload_n C dc_M_part_18 rfl ?_
      refine aw_iload_n C dc_M_part_19 rfl ?_
      refine aw_iand C dc_M_part_20 ?_
      refine aw_if_ne C dc_M_part_21 (tgt := 39) (by decide) (fun hB21 => ?_) (fun hB21 => ?_)
      · have hb1 : p.testBit b = true := by
          cases h9 : p.testBit b
          · exact absurd ((ms_and hp hb).mpr h9) hB21
          · rfl
        refine aw_iload_n C dc_M_part_39 rfl ?_
        refine aw_iload_n C dc_M_part_40 rfl ?_
        refine aw_iand C dc_M_part_41 ?_
        refine aw_if_eq C dc_M_part_42 (tgt := 60) (by decide) (fun h9 => absurd h9 (fun h9 => hB21 h9)) (fun _ => ?_)
        refine aw_iload_n C dc_M_part_45 rfl ?_
        refine aw_if_ne C dc_M_part_46 (tgt := 60) (by decide) (fun hB46 => ?_) (fun hB46 => ?_)
        · have hb2 := z1_n.mp hB46
          have e9 : (zi_ (· - ·) ov b (zo_ (· - ·) ov f b) (p + 1)) = (zi_ (· - ·) ov b (zo_ (· - ·) ov f b) p) := by rw [zi_, hb1, hb2]; rfl
          rw [e9] at ih2
          refine aw_iinc C dc_M_part_60 rfl (ni_inc _) (by decide) rfl ?_
          refine aw_goto C dc_M_part_63 (tgt := 11) (by decide) ?_
          exact ih2
        · have hb2 := z1_0.mp hB46
          refine aw_aload_n C dc_M_part_49 rfl ?_
          refine aw_iload_n C dc_M_part_50 rfl ?_
          refine aw_dup2_11 C dc_M_part_51 rfl rfl ?_
          refine aw_iald C q t0 (f := (zi_ (· - ·) ov b (zo_ (· - ·) ov f b) p)) (by rw [List.getElem?_set, if_pos rfl, if_pos (List.getElem?_eq_some_iff.mp hq).1]) ht p rfl hp (by decide) dc_M_part_52 ?_
          refine aw_aload_n C dc_M_part_53 rfl ?_
          refine aw_iload_n C dc_M_part_54 rfl ?_
          refine aw_iload_n C dc_M_part_55 rfl ?_
          refine aw_ixor C dc_M_part_56 ?_
          refine aw_iald C q t0 (f := (zi_ (· - ·) ov b (zo_ (· - ·) ov f b) p)) (by rw [List.getElem?_set, if_pos rfl, if_pos (List.getElem?_eq_some_iff.mp hq).1]) ht (p ^^^ 2 ^ b) (ni_xor _ _) (ms_xor hp hb) (by decide) dc_M_part_57 ?_
          refine aw_isub C dc_M_part_58 ?_
          refine aw_iast C (va_D.set hD hq) q t0 (f := (zi_ (· - ·) ov b (zo_ (· - ·) ov f b) p)) (by rw [List.getElem?_set, if_pos rfl, if_pos (List.getElem?_eq_some_iff.mp hq).1]) ht p rfl hp (by decide) (ws' := ws.set q (aa, .inl (cA, 4096, .inl (zi_ (· - ·) ov b (zo_ (· - ·) ov f b) (p + 1))))) (by rw [List.set_set, zi_, hb1, hb2]; rfl) dc_M_part_59 ?_
          refine aw_iinc C dc_M_part_60 rfl (ni_inc _) (by decide) rfl ?_
          refine aw_goto C dc_M_part_63 (tgt := 11) (by decide) ?_
          exact ih2
      · have hb1 : p.testBit b = false := (ms_and hp hb).mp hB21
        refine aw_iload_n C dc_M_part_24 rfl ?_
        refine aw_if_eq C dc_M_part_25 (tgt := 39) (by decide) (fun hB25 => ?_) (fun hB25 => ?_)
        · have hb2 := z1_0.mp hB25
          have e9 : (zi_ (· - ·) ov b (zo_ (· - ·) ov f b) (p + 1)) = (zi_ (· - ·) ov b (zo_ (· - ·) ov f b) p) := by rw [zi_, hb1, hb2]; rfl
          rw [e9] at ih2
          refine aw_iload_n C dc_M_part_39 rfl ?_
          refine aw_iload_n C dc_M_part_40 rfl ?_
          refine aw_iand C dc_M_part_41 ?_
          refine aw_if_eq C dc_M_part_42 (tgt := 60) (by decide) (fun _ => ?_) (fun h9 => absurd (hB21) h9)
          refine aw_iinc C dc_M_part_60 rfl (ni_inc _) (by decide) rfl ?_
          refine aw_goto C dc_M_part_63 (tgt := 11) (by decide) ?_
          exact ih2
        · have hb2 := z1_n.mp hB25
          refine aw_aload_n C dc_M_part_28 rfl ?_
          refine aw_iload_n C dc_M_part_29 rfl ?_
          refine aw_dup2_11 C dc_M_part_30 rfl rfl ?_
          refine aw_iald C q t0 (f := (zi_ (· - ·) ov b (zo_ (· - ·) ov f b) p)) (by rw [List.getElem?_set, if_pos rfl, if_pos (List.getElem?_eq_some_iff.mp hq).1]) ht p rfl hp (by decide) dc_M_part_31 ?_
          refine aw_aload_n C dc_M_part_32 rfl ?_
          refine aw_iload_n C dc_M_part_33 rfl ?_
          refine aw_iload_n C dc_M_part_34 rfl ?_
          refine aw_ior C dc_M_part_35 ?_
          refine aw_iald C q t0 (f := (zi_ (· - ·) ov b (zo_ (· - ·) ov f b) p)) (by rw [List.getElem?_set, if_pos rfl, if_pos (List.getElem?_eq_some_iff.mp hq).1]) ht (p ||| 2 ^ b) (ni_or _ _) (ms_or hp hb) (by decide) dc_M_part_36 ?_
          refine aw_isub C dc_M_part_37 ?_
          refine aw_iast C (va_D.set hD hq) q t0 (f := (zi_ (· - ·) ov b (zo_ (· - ·) ov f b) p)) (by rw [List.getElem?_set, if_pos rfl, if_pos (List.getElem?_eq_some_iff.mp hq).1]) ht p rfl hp (by decide) (ws' := ws.set q (aa, .inl (cA, 4096, .inl (zi_ (· - ·) ov b (zo_ (· - ·) ov f b) (p + 1))))) (by rw [List.set_set, zi_, hb1, hb2]; rfl) dc_M_part_38 ?_
          refine aw_iload_n C dc_M_part_39 rfl ?_
          refine aw_iload_n C dc_M_part_40 rfl ?_
          refine aw_iand C dc_M_part_41 ?_
          refine aw_if_eq C dc_M_part_42 (tgt := 60) (by decide) (fun _ => ?_) (fun h9 => absurd (hB21) h9)
          refine aw_iinc C dc_M_part_60 rfl (ni_inc _) (by decide) rfl ?_
          refine aw_goto C dc_M_part_63 (tgt := 11) (by decide) ?_
          exact ih2
