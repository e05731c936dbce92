set_option maxHeartbeats 4000000 in
set_option maxRecDepth 100000 in
theorem r_put_0 (l : Launch) (D : va_G) (a : Nat) (cI cL cF : ClassId) (t : Int32) (S K Qt : Nat → Int64) (O1 O2 En Ot Wt : Nat → Int32) (xa : Int32) (hx : xa < 0 ∨ nI 10 ≤ xa) (ykb : Int32) : ki_ l my_M_put (Cond.code my_M_put bc_M_put 5 (some .boolean) :: tw_) ({ frames := 2, cells := 0, slots := 0, locals := 41 }) D (ty_s cI cL cF) (fun _ => True) (cm_ a) [.ref a, .int xa, .int ykb] (rp_ D a cI cL t S K Qt O1 O2 En Ot Wt) (rp_ D a cI cL (nI 1) S K Qt O1 O2 En Ot Wt) 0 := by
  refine aw_met (A := cm_ a) (own := "FamilyShelfModel") (by decide) rfl rfl (Nat.le_of_ble_eq_true rfl) ?_
  intro p9 e s m args below meth c C hr hX hP0
  refine aw_lw (lw' := [some (.ref a), some (.int xa), some (.int ykb), none, none]) rfl ?_
  refine aw_aload_n C dc_M_put_0 rfl ?_
  refine aw_iload_n C dc_M_put_1 rfl ?_
  refine aw_iload_n C dc_M_put_2 rfl ?_
  refine kc_i (fun _ h => h) (fun _ h => h) (kc_S (n := 2) C hX xk_true (m_asked1 l D _ _ _ _ xk_true xa hx ykb) kw_674 kw_672 kw_673 kw_8 (by unfold kd_; decide) ⟨rfl, rfl, by decide, by decide⟩ rfl rfl (Nat.le_of_ble_eq_true rfl) ⟨Nat.zero_le _, Nat.zero_le _⟩ dc_M_put_3) ?_
  refine aw_put C rf_D (fun w h => List.mem_cons_of_mem _ (ly_M w h)) ty_M ty_M_ok nm_M 0 rf_p0 rfl 0 (by decide) (C.1.2.2.2.2 _ (List.mem_cons_of_mem _ kw_636)) (fun _ h => h) rfl (ty := .int) (by decide +kernel) rfl rfl (Nat.le_of_ble_eq_true rfl) (ws' := rf_ a cI cL (nI 1) S K Qt O1 O2 En Ot Wt) rfl dc_M_put_6 ?_
  refine aw_aload_n C dc_M_put_9 rfl ?_
  refine aw_get C (fun w h => List.mem_cons_of_mem _ (ly_M w h)) 0 rf_p0 rfl 0 (by decide) (C.1.2.2.2.2 _ (List.mem_cons_of_mem _ kw_636)) (fun _ h => h) rfl dc_M_put_10 ?_
  refine aw_if_eq C dc_M_put_13 (tgt := 18) (by decide) (fun h9 => absurd h9 (by decide)) (fun _ => ?_)
  refine aw_iconst C dc_M_put_16 (v := nI 0) rfl ?_
  exact kc_zret C hr (by decide) (rfl) (fun _ h => h) dc_M_put_17
set_option maxHeartbeats 4000000 in
set_option maxRecDepth 100000 in
theorem r_put_1 (l : Launch) (D : va_G) (a : Nat) (cI cL cF : ClassId) (t : Int32) (S K Qt : Nat → Int64) (O1 O2 En Ot Wt : Nat → Int32) (ka : Nat) (hka : ka < 10) (xb : Int32) (hx : xb < 0 ∨ nI 4096 ≤ xb) : ki_ l my_M_put (Cond.code my_M_put bc_M_put 5 (some .boolean) :: tw_) ({ frames := 2, cells := 0, slots := 0, locals := 41 }) D (ty_s cI cL cF) (fun _ => True) (cm_ a) [.ref a, .int (nI ka), .int xb] (rp_ D a cI cL t S K Qt O1 O2 En Ot Wt) (rp_ D a cI cL (nI 2) S K Qt O1 O2 En Ot Wt) 0 := by
  refine aw_met (A := cm_ a) (own := "FamilyShelfModel") (by decide) rfl rfl (Nat.le_of_ble_eq_true rfl) ?_
  intro p9 e s m args below meth c C hr hX hP0
  refine aw_lw (lw' := [some (.ref a), some (.int (nI ka)), some (.int xb), none, none]) rfl ?_
  refine aw_aload_n C dc_M_put_0 rfl ?_
  refine aw_iload_n C dc_M_put_1 rfl ?_
  refine aw_iload_n C dc_M_put_2 rfl ?_
  refine kc_i (fun _ h => h) (fun _ h => h) (kc_S (n := 2) C hX xk_true (m_asked2 l D _ _ _ _ xk_true ka hka xb hx) kw_674 kw_672 kw_673 kw_8 (by unfold kd_; decide) ⟨rfl, rfl, by decide, by decide⟩ rfl rfl (Nat.le_of_ble_eq_true rfl) ⟨Nat.zero_le _, Nat.zero_le _⟩ dc_M_put_3) ?_
  refine aw_put C rf_D (fun w h => List.mem_cons_of_mem _ (ly_M w h)) ty_M ty_M_ok nm_M 0 rf_p0 rfl 0 (by decide) (C.1.2.2.2.2 _ (List.mem_cons_of_mem _ kw_636)) (fun _ h => h) rfl (ty := .int) (by decide +kernel) rfl rfl (Nat.le_of_ble_eq_true rfl) (ws' := rf_ a cI cL (nI 2) S K Qt O1 O2 En Ot Wt) rfl dc_M_put_6 ?_
  refine aw_aload_n C dc_M_put_9 rfl ?_
  refine aw_get C (fun w h => List.mem_cons_of_mem _ (ly_M w h)) 0 rf_p0 rfl 0 (by decide) (C.1.2.2.2.2 _ (List.mem_cons_of_mem _ kw_636)) (fun _ h => h) rfl dc_M_put_10 ?_
  refine aw_if_eq C dc_M_put_13 (tgt := 18) (by decide) (fun h9 => absurd h9 (by decide)) (fun _ => ?_)
  refine aw_iconst C dc_M_put_16 (v := nI 0) rfl ?_
  exact kc_zret C hr (by decide) (rfl) (fun _ h => h) dc_M_put_17
set_option maxHeartbeats 4000000 in
set_option maxRecDepth 100000 in
theorem r_take_0 (l : Launch) (D : va_G) (a : Nat) (cI cL cF : ClassId) (t : Int32) (S K Qt : Nat → Int64) (O1 O2 En Ot Wt : Nat → Int32) (xa : Int32) (hx : xa < 0 ∨ nI 10 ≤ xa) (ykb : Int32) : ki_ l my_M_take (Cond.code my_M_take bc_M_take 5 (some .boolean) :: tw_) ({ frames := 2, cells := 0, slots := 0, locals := 41 }) D (ty_s cI cL cF) (fun _ => True) (cm_ a) [.ref a, .int xa, .int ykb] (rp_ D a cI cL t S K Qt O1 O2 En Ot Wt) (rp_ D a cI cL (nI 1) S K Qt O1 O2 En Ot Wt) 0 := by
  refine aw_met (A := cm_ a) (own := "FamilyShelfModel") (by decide) rfl rfl (Nat.le_of_ble_eq_true rfl) ?_
  intro p9 e s m args below meth c C hr hX hP0
  refine aw_lw (lw' := [some (.ref a), some (.int xa), some (.int ykb), none, none]) rfl ?_
  refine aw_aload_n C dc_M_take_0 rfl ?_
  refine aw_iload_n C dc_M_take_1 rfl ?_
  refine aw_iload_n C dc_M_take_2 rfl ?_
  refine kc_i (fun _ h => h) (fun _ h => h) (kc_S (n := 2) C hX xk_true (m_asked1 l D _ _ _ _ xk_true xa hx ykb) kw_674 kw_672 kw_673 kw_8 (by unfold kd_; decide) ⟨rfl, rfl, by decide, by decide⟩ rfl rfl (Nat.le_of_ble_eq_true rfl) ⟨Nat.zero_le _, Nat.zero_le _⟩ dc_M_take_3) ?_
  refine aw_put C rf_D (fun w h => List.mem_cons_of_mem _ (ly_M w h)) ty_M ty_M_ok nm_M 0 rf_p0 rfl 0 (by decide) (C.1.2.2.2.2 _ (List.mem_cons_of_mem _ kw_636)) (fun _ h => h) rfl (ty := .int) (by decide +kernel) rfl rfl (Nat.le_of_ble_eq_true rfl) (ws' := rf_ a cI cL (nI 1) S K Qt O1 O2 En Ot Wt) rfl dc_M_take_6 ?_
  refine aw_aload_n C dc_M_take_9 rfl ?_
  refine aw_get C (fun w h => List.mem_cons_of_mem _ (ly_M w h)) 0 rf_p0 rfl 0 (by decide) (C.1.2.2.2.2 _ (List.mem_cons_of_mem _ kw_636)) (fun _ h => h) rfl dc_M_take_10 ?_
  refine aw_if_eq C dc_M_take_13 (tgt := 18) (by decide) (fun h9 => absurd h9 (by decide)) (fun _ => ?_)
  refine aw_iconst C dc_M_take_16 (v := nI 0) rfl ?_
  exact kc_zret C hr (by decide) (rfl) (fun _ h => h) dc_M_take_17
set_option maxHeartbeats 4000000 in
set_option maxRecDepth 100000 in
theorem r_take_1 (l : Launch) (D : va_G) (a : Nat) (cI cL cF : ClassId) (t : Int32) (S K Qt : Nat → Int64) (O1 O2 En Ot Wt : Nat → Int32) (ka : Nat) (hka : ka < 10) (xb : Int32) (hx : xb < 0 ∨ nI 4096 ≤ xb) : ki_ l my_M_take (Cond.code my_M_take bc_M_take 5 (some .boolean) :: tw_) ({ frames := 2, cells := 0, slots := 0, locals := 41 }) D (ty_s cI cL cF) (fun _ => True) (cm_ a) [.ref a, .int (nI ka), .int xb] (rp_ D a cI cL t S K Qt O1 O2 En Ot Wt) (rp_ D a cI cL (nI 2) S K Qt O1 O2 En Ot Wt) 0 := by
  refine aw_met (A := cm_ a) (own := "FamilyShelfModel") (by decide) rfl rfl (Nat.le_of_ble_eq_true rfl) ?_
  intro p9 e s m args below meth c C hr hX hP0
  refine aw_lw (lw' := [some (.ref a), some (.int (nI ka)), some (.int xb), none, none]) rfl ?_
  refine aw_aload_n C dc_M_take_0 rfl ?_
  refine aw_iload_n C dc_M_take_1 rfl ?_
  refine aw_iload_n C dc_M_take_2 rfl ?_
  refine kc_i (fun _ h => h) (fun _ h => h) (kc_S (n := 2) C hX xk_true (m_asked2 l D _ _ _ _ xk_true ka hka xb hx) kw_674 kw_672 kw_673 kw_8 (by unfold kd_; decide) ⟨rfl, rfl, by decide, by decide⟩ rfl rfl (Nat.le_of_ble_eq_true rfl) ⟨Nat.zero_le _, Nat.zero_le _⟩ dc_M_take_3) ?_
  refine aw_put C rf_D (fun w h => List.mem_cons_of_mem _ (ly_M w h)) ty_M ty_M_ok nm_M 0 rf_p0 rfl 0 (by decide) (C.1.2.2.2.2 _ (List.mem_cons_of_mem _ kw_636)) (fun _ h => h) rfl (ty := .int) (by decide +kernel) rfl rfl (Nat.le_of_ble_eq_true rfl) (ws' := rf_ a cI cL (nI 2) S K Qt O1 O2 En Ot Wt) rfl dc_M_take_6 ?_
  refine aw_aload_n C dc_M_take_9 rfl ?_
  refine aw_get C (fun w h => List.mem_cons_of_mem _ (ly_M w h)) 0 rf_p0 rfl 0 (by decide) (C.1.2.2.2.2 _ (List.mem_cons_of_mem _ kw_636)) (fun _ h => h) rfl dc_M_take_10 ?_
  refine aw_if_eq C dc_M_take_13 (tgt := 18) (by decide) (fun h9 => absurd h9 (by decide)) (fun _ => ?_)
  refine aw_iconst C dc_M_take_16 (v := nI 0) rfl ?_
  exact kc_zret C hr (by decide) (rfl) (fun _ h => h) dc_M_take_17
set_option maxHeartbeats 4000000 in
set_option maxRecDepth 100000 in
theorem r_has_0 (l : Launch) (D : va_G) (a : Nat) (cI cL cF : ClassId) (t : Int32) (S K Qt : Nat → Int64) (O1 O2 En Ot Wt : Nat → Int32) (xa : Int32) (hx : xa < 0 ∨ nI 10 ≤ xa) (ykb : Int32) : ki_ l my_M_has (Cond.code my_M_has bc_M_has 3 (some .boolean) :: tw_) ({ frames := 2, cells := 0, slots := 0, locals := 41 }) D (ty_s cI cL cF) (fun _ => True) (cm_ a) [.ref a, .int xa, .int ykb] (rp_ D a cI cL t S K Qt O1 O2 En Ot Wt) (rp_ D a cI cL (nI 1) S K Qt O1 O2 En Ot Wt) 0 := by
  refine aw_met (A := cm_ a) (own := "FamilyShelfModel") (by decide) rfl rfl (Nat.le_of_ble_eq_true rfl) ?_
  intro p9 e s m args below meth c C hr hX hP0
  refine aw_lw (lw' := [some (.ref a), some (.int xa), some (.int ykb)]) rfl ?_
  refine aw_aload_n C dc_M_has_0 rfl ?_
  refine aw_iload_n C dc_M_has_1 rfl ?_
  refine aw_iload_n C dc_M_has_2 rfl ?_
  refine kc_i (fun _ h => h) (fun _ h => h) (kc_S (n := 2) C hX xk_true (m_asked1 l D _ _ _ _ xk_true xa hx ykb) kw_674 kw_672 kw_673 kw_8 (by unfold kd_; decide) ⟨rfl, rfl, by decide, by decide⟩ rfl rfl (Nat.le_of_ble_eq_true rfl) ⟨Nat.zero_le _, Nat.zero_le _⟩ dc_M_has_3) ?_
  refine aw_put C rf_D (fun w h => List.mem_cons_of_mem _ (ly_M w h)) ty_M ty_M_ok nm_M 0 rf_p0 rfl 0 (by decide) (C.1.2.2.2.2 _ (List.mem_cons_of_mem _ kw_636)) (fun _ h => h) rfl (ty := .int) (by decide +kernel) rfl rfl (Nat.le_of_ble_eq_true rfl) (ws' := rf_ a cI cL (nI 1) S K Qt O1 O2 En Ot Wt) rfl dc_M_has_6 ?_
  refine aw_aload_n C dc_M_has_9 rfl ?_
  refine aw_get C (fun w h => List.mem_cons_of_mem _ (ly_M w h)) 0 rf_p0 rfl 0 (by decide) (C.1.2.2.2.2 _ (List.mem_cons_of_mem _ kw_636)) (fun _ h => h) rfl dc_M_has_10 ?_
  refine aw_if_ne C dc_M_has_13 (tgt := 32) (by decide) (fun _ => ?_) (fun h9 => absurd h9 (by decide))
  refine aw_iconst C dc_M_has_32 (v := nI 0) rfl ?_
  exact kc_zret C hr (by decide) (rfl) (fun _ h => h) dc_M_has_33
set_option maxHeartbeats 4000000 in
set_option maxRecDepth 100000 in
theorem r_has_1 (l : Launch) (D : va_G) (a : Nat) (cI cL cF : ClassId) (t : Int32) (S K Qt : Nat → Int64) (O1 O2 En Ot Wt : Nat → Int32) (ka : Nat) (hka : ka < 10) (xb : Int32) (hx : xb < 0 ∨ nI 4096 ≤ xb) : ki_ l my_M_has (Cond.code my_M_has bc_M_has 3 (some .boolean) :: tw_) ({ frames := 2, cells := 0, slots := 0, locals := 41 }) D (ty_s cI cL cF) (fun _ => True) (cm_ a) [.ref a, .int (nI ka), .int xb] (rp_ D a cI cL t S K Qt O1 O2 En Ot Wt) (rp_ D a cI cL (nI 2) S K Qt O1 O2 En Ot Wt) 0 := by
  refine aw_met (A := cm_ a) (own := "FamilyShelfModel") (by decide) rfl rfl (Nat.le_of_ble_eq_true rfl) ?_
  intro p9 e s m args below meth c C hr hX hP0
  refine aw_lw (lw' := [some (.ref a), some (.int (nI ka)), some (.int xb)]) rfl ?_
  refine aw_aload_n C dc_M_has_0 rfl ?_
  refine aw_iload_n C dc_M_has_1 rfl ?_
  refine aw_iload_n C dc_M_has_2 rfl ?_
  refine kc_i (fun _ h => h) (fun _ h => h) (kc_S (n := 2) C hX xk_true (m_asked2 l D _ _ _ _ xk_true ka hka xb hx) kw_674 kw_672 kw_673 kw_8 (by unfold kd_; decide) ⟨rfl, rfl, by decide, by decide⟩ rfl rfl (Nat.le_of_ble_eq_true rfl) ⟨Nat.zero_le _, Nat.zero_le _⟩ dc_M_has_3) ?_
  refine aw_put C rf_D (fun w h => List.mem_cons_of_mem _ (ly_M w h)) ty_M ty_M_ok nm_M 0 rf_p0 rfl 0 (by decide) (C.1.2.2.2.2 _ (List.mem_cons_of_mem _ kw_636)) (fun _ h => h) rfl (ty := .int) (by decide +kernel) rfl rfl (Nat.le_of_ble_eq_true rfl) (ws' := rf_ a cI cL (nI 2) S K Qt O1 O2 En Ot Wt) rfl dc_M_has_6 ?_
  refine aw_aload_n C dc_M_has_9 rfl ?_
  refine aw_get C (fun w h => List.mem_cons_of_mem _ (ly_M w h)) 0 rf_p0 rfl 0 (by decide) (C.1.2.2.2.2 _ (List.mem_cons_of_mem _ kw_636)) (fun _ h => h) rfl dc_M_has_10 ?_
  refine aw_if_ne C dc_M_has_13 (tgt := 32) (by decide) (fun _ => ?_) (fun h9 => absurd h9 (by decide))
  refine aw_iconst C dc_M_has_32 (v := nI 0) rfl ?_
  exact kc_zret C hr (by decide) (rfl) (fun _ h => h) dc_M_has_33
set_option maxHeartbeats 4000000 in
set_option maxRecDepth 100000 in
theorem r_rank_0 (l : Launch) (D : va_G) (a : Nat) (cI cL cF : ClassId) (t : Int32) (S K Qt : Nat → Int64) (O1 O2 En Ot Wt : Nat → Int32) (xa : Int32) (hx : xa < 0 ∨ nI 10 ≤ xa) (ykb : Int32) : ki_ l my_M_rank (Cond.code my_M_rank bc_M_rank 6 (some .int) :: tw_) ({ frames := 2, cells := 0, slots := 0, locals := 41 }) D (ty_s cI cL cF) (fun _ => True) (cm_ a) [.ref a, .int xa, .int ykb] (rp_ D a cI cL t S K Qt O1 O2 En Ot Wt) (rp_ D a cI cL (nI 1) S K Qt O1 O2 En Ot Wt) 0 := by
  refine aw_met (A := cm_ a) (own := "FamilyShelfModel") (by decide) rfl rfl (Nat.le_of_ble_eq_true rfl) ?_
  intro p9 e s m args below meth c C hr hX hP0
  refine aw_lw (lw' := [some (.ref a), some (.int xa), some (.int ykb), none, none, none]) rfl ?_
  refine aw_aload_n C dc_M_rank_0 rfl ?_
  refine aw_iload_n C dc_M_rank_1 rfl ?_
  refine aw_iload_n C dc_M_rank_2 rfl ?_
  refine kc_i (fun _ h => h) (fun _ h => h) (kc_S (n := 2) C hX xk_true (m_asked1 l D _ _ _ _ xk_true xa hx ykb) kw_674 kw_672 kw_673 kw_8 (by unfold kd_; decide) ⟨rfl, rfl, by decide, by decide⟩ rfl rfl (Nat.le_of_ble_eq_true rfl) ⟨Nat.zero_le _, Nat.zero_le _⟩ dc_M_rank_3) ?_
  refine aw_put C rf_D (fun w h => List.mem_cons_of_mem _ (ly_M w h)) ty_M ty_M_ok nm_M 0 rf_p0 rfl 0 (by decide) (C.1.2.2.2.2 _ (List.mem_cons_of_mem _ kw_636)) (fun _ h => h) rfl (ty := .int) (by decide +kernel) rfl rfl (Nat.le_of_ble_eq_true rfl) (ws' := rf_ a cI cL (nI 1) S K Qt O1 O2 En Ot Wt) rfl dc_M_rank_6 ?_
  refine aw_aload_n C dc_M_rank_9 rfl ?_
  refine aw_get C (fun w h => List.mem_cons_of_mem _ (ly_M w h)) 0 rf_p0 rfl 0 (by decide) (C.1.2.2.2.2 _ (List.mem_cons_of_mem _ kw_636)) (fun _ h => h) rfl dc_M_rank_10 ?_
  refine aw_if_eq C dc_M_rank_13 (tgt := 18) (by decide) (fun h9 => absurd h9 (by decide)) (fun _ => ?_)
  refine aw_iconst C dc_M_rank_16 (v := nI 0) rfl ?_
  exact kc_iret C hr rfl (fun _ h => h) dc_M_rank_17
set_option maxHeartbeats 4000000 in
set_option maxRecDepth 100000 in
theorem r_rank_1 (l : Launch) (D : va_G) (a : Nat) (cI cL cF : ClassId) (t : Int32) (S K Qt : Nat → Int64) (O1 O2 En Ot Wt : Nat → Int32) (ka : Nat) (hka : ka < 10) (xb : Int32) (hx : xb < 0 ∨ nI 4096 ≤ xb) : ki_ l my_M_rank (Cond.code my_M_rank bc_M_rank 6 (some .int) :: tw_) ({ frames := 2, cells := 0, slots := 0, locals := 41 }) D (ty_s cI cL cF) (fun _ => True) (cm_ a) [.ref a, .int (nI ka), .int xb] (rp_ D a cI cL t S K Qt O1 O2 En Ot Wt) (rp_ D a cI cL (nI 2) S K Qt O1 O2 En Ot Wt) 0 := by
  refine aw_met (A := cm_ a) (own := "FamilyShelfModel") (by decide) rfl rfl (Nat.le_of_ble_eq_true rfl) ?_
  intro p9 e s m args below meth c C hr hX hP0
  refine aw_lw (lw' := [some (.ref a), some (.int (nI ka)), some (.int xb), none, none, none]) rfl ?_
  refine aw_aload_n C dc_M_rank_0 rfl ?_
  refine aw_iload_n C dc_M_rank_1 rfl ?_
  refine aw_iload_n C dc_M_rank_2 rfl ?_
  refine kc_i (fun _ h => h) (fun _ h => h) (kc_S (n := 2) C hX xk_true (m_asked2 l D _ _ _ _ xk_true ka hka xb hx) kw_674 kw_672 kw_673 kw_8 (by unfold kd_; decide) ⟨rfl, rfl, by decide, by decide⟩ rfl rfl (Nat.le_of_ble_eq_true rfl) ⟨Nat.zero_le _, Nat.zero_le _⟩ dc_M_rank_3) ?_
  refine aw_put C rf_D (fun w h => List.mem_cons_of_mem _ (ly_M w h)) ty_M ty_M_ok nm_M 0 rf_p0 rfl 0 (by decide) (C.1.2.2.2.2 _ (List.mem_cons_of_mem _ kw_636)) (fun _ h => h) rfl (ty := .int) (by decide +kernel) rfl rfl (Nat.le_of_ble_eq_true rfl) (ws' := rf_ a cI cL (nI 2) S K Qt O1 O2 En Ot Wt) rfl dc_M_rank_6 ?_
  refine aw_aload_n C dc_M_rank_9 rfl ?_
  refine aw_get C (fun w h => List.mem_cons_of_mem _ (ly_M w h)) 0 rf_p0 rfl 0 (by decide) (C.1.2.2.2.2 _ (List.mem_cons_of_mem _ kw_636)) (fun _ h => h) rfl dc_M_rank_10 ?_
  refine aw_if_eq C dc_M_rank_13 (tgt := 18) (by decide) (fun h9 => absurd h9 (by decide)) (fun _ => ?_)
  refine aw_iconst C dc_M_rank_16 (v := nI 0) rfl ?_
  exact kc_iret C hr rfl (fun _ h => h) dc_M_rank_17
set_option maxHeartbeats 4000000 in
set_option maxRecDepth 100000 in
theorem r_clear_0 (l : Launch) (D : va_G) (a : Nat) (cI cL cF : ClassId) (t : Int32) (S K Qt : Nat → Int64) (O1 O2 En Ot Wt : Nat → Int32) (xka : Int32) (hx : xka < 0 ∨ nI 10 ≤ xka) : ki_ l my_M_clear (Cond.code my_M_clear bc_M_clear 4 (some .int) :: tw_) ({ frames := 2, cells := 0, slots := 0, locals := 46 }) D (ty_s cI cL cF) (fun _ => True) (cm_ a) [.ref a, .int xka] (rp_ D a cI cL t S K Qt O1 O2 En Ot Wt) (rp_ D a cI cL (nI 1) S K Qt O1 O2 En Ot Wt) 0 := by
  refine aw_met (A := cm_ a) (own := "FamilyShelfModel") (by decide) rfl rfl (Nat.le_of_ble_eq_true rfl) ?_
  intro p9 e s m args below meth c C hr hX hP0
  refine aw_lw (lw' := [some (.ref a), some (.int xka), none, none]) rfl ?_
  refine aw_aload_n C dc_M_clear_0 rfl ?_
  refine aw_iload_n C dc_M_clear_1 rfl ?_
  refine kc_i (fun _ h => h) (fun _ h => h) (kc_S (n := 1) C hX xk_true (m_noShelf1 l D _ _ _ _ xka hx) kw_677 kw_675 kw_676 kw_8 (by unfold kd_; decide) ⟨rfl, rfl, by decide, by decide⟩ rfl rfl (Nat.le_of_ble_eq_true rfl) ⟨Nat.zero_le _, Nat.zero_le _⟩ dc_M_clear_2) ?_
  refine aw_if_eq C dc_M_clear_5 (tgt := 12) (by decide) (fun h9 => absurd h9 (by decide)) (fun _ => ?_)
  refine aw_iconst C dc_M_clear_8 (v := nI 1) rfl ?_
  refine aw_goto C dc_M_clear_9 (tgt := 13) (by decide) ?_
  refine aw_put C rf_D (fun w h => List.mem_cons_of_mem _ (ly_M w h)) ty_M ty_M_ok nm_M 0 rf_p0 rfl 0 (by decide) (C.1.2.2.2.2 _ (List.mem_cons_of_mem _ kw_636)) (fun _ h => h) rfl (ty := .int) (by decide +kernel) rfl rfl (Nat.le_of_ble_eq_true rfl) (ws' := rf_ a cI cL (nI 1) S K Qt O1 O2 En Ot Wt) rfl dc_M_clear_13 ?_
  refine aw_aload_n C dc_M_clear_16 rfl ?_
  refine aw_get C (fun w h => List.mem_cons_of_mem _ (ly_M w h)) 0 rf_p0 rfl 0 (by decide) (C.1.2.2.2.2 _ (List.mem_cons_of_mem _ kw_636)) (fun _ h => h) rfl dc_M_clear_17 ?_
  refine aw_if_eq C dc_M_clear_20 (tgt := 25) (by decide) (fun h9 => absurd h9 (by decide)) (fun _ => ?_)
  refine aw_iconst C dc_M_clear_23 (v := nI 0) rfl ?_
  exact kc_iret C hr rfl (fun _ h => h) dc_M_clear_24
set_option maxHeartbeats 4000000 in
set_option maxRecDepth 100000 in
theorem r_matchings_0 (l : Launch) (D : va_G) (a : Nat) (cI cL cF : ClassId) (t : Int32) (S K Qt : Nat → Int64) (O1 O2 En Ot Wt : Nat → Int32) (xka : Int32) (hx : xka < 0 ∨ nI 10 ≤ xka) : ki_ l my_M_matchings (Cond.code my_M_matchings bc_M_matchings 3 (some .int) :: tw_) ({ frames := 3, cells := 0, slots := 0, locals := 68 }) D (ty_s cI cL cF) (fun _ => True) (cm_ a) [.ref a, .int xka] (rp_ D a cI cL t S K Qt O1 O2 En Ot Wt) (rp_ D a cI cL (nI 1) S K Qt O1 O2 En Ot Wt) 0 := by
  refine aw_met (A := cm_ a) (own := "FamilyShelfModel") (by decide) rfl rfl (Nat.le_of_ble_eq_true rfl) ?_
  intro p9 e s m args below meth c C hr hX hP0
  refine aw_lw (lw' := [some (.ref a), some (.int xka), none]) rfl ?_
  refine aw_aload_n C dc_M_matchings_0 rfl ?_
  refine aw_iload_n C dc_M_matchings_1 rfl ?_
  refine kc_i (fun _ h => h) (fun _ h => h) (kc_S (n := 1) C hX xk_true (m_noShelf1 l D _ _ _ _ xka hx) kw_677 kw_675 kw_676 kw_8 (by unfold kd_; decide) ⟨rfl, rfl, by decide, by decide⟩ rfl rfl (Nat.le_of_ble_eq_true rfl) ⟨Nat.zero_le _, Nat.zero_le _⟩ dc_M_matchings_2) ?_
  refine aw_if_eq C dc_M_matchings_5 (tgt := 12) (by decide) (fun h9 => absurd h9 (by decide)) (fun _ => ?_)
  refine aw_iconst C dc_M_matchings_8 (v := nI 1) rfl ?_
  refine aw_goto C dc_M_matchings_9 (tgt := 13) (by decide) ?_
  refine aw_put C rf_D (fun w h => List.mem_cons_of_mem _ (ly_M w h)) ty_M ty_M_ok nm_M 0 rf_p0 rfl 0 (by decide) (C.1.2.2.2.2 _ (List.mem_cons_of_mem _ kw_636)) (fun _ h => h) rfl (ty := .int) (by decide +kernel) rfl rfl (Nat.le_of_ble_eq_true rfl) (ws' := rf_ a cI cL (nI 1) S K Qt O1 O2 En Ot Wt) rfl dc_M_matchings_13 ?_
  refine aw_aload_n C dc_M_matchings_16 rfl ?_
  refine aw_get C (fun w h => List.mem_cons_of_mem _ (ly_M w h)) 0 rf_p0 rfl 0 (by decide) (C.1.2.2.2.2 _ (List.mem_cons_of_mem _ kw_636)) (fun _ h => h) rfl dc_M_matchings_17 ?_
  refine aw_if_eq C dc_M_matchings_20 (tgt := 25) (by decide) (fun h9 => absurd h9 (by decide)) (fun _ => ?_)
  refine aw_iconst C dc_M_matchings_23 (v := nI 0) rfl ?_
  exact kc_iret C hr rfl (fun _ h => h) dc_M_matchings_24
set_option maxHeartbeats 4000000 in
set_option maxRecDepth 100000 in
theorem r_count_0 (l : Launch) (D : va_G) (a : Nat) (cI cL cF : ClassId) (t : Int32) (S K Qt : Nat → Int64) (O1 O2 En Ot Wt : Nat → Int32) (xka : Int32) (hx : xka < 0 ∨ nI 10 ≤ xka) : ki_ l my_M_count (Cond.code my_M_count bc_M_count 2 (some .int) :: tw_) ({ frames := 2, cells := 0, slots := 0, locals := 46 }) D (ty_s cI cL cF) (fun _ => True) (cm_ a) [.ref a, .int xka] (rp_ D a cI cL t S K Qt O1 O2 En Ot Wt) (rp_ D a cI cL (nI 1) S K Qt O1 O2 En Ot Wt) 0 := by
  refine aw_met (A := cm_ a) (own := "FamilyShelfModel") (by decide) rfl rfl (Nat.le_of_ble_eq_true rfl) ?_
  intro p9 e s m args below meth c C hr hX hP0
  refine aw_lw (lw' := [some (.ref a), some (.int xka)]) rfl ?_
  refine aw_aload_n C dc_M_count_0 rfl ?_
  refine aw_iload_n C dc_M_count_1 rfl ?_
  refine kc_i (fun _ h => h) (fun _ h => h) (kc_S (n := 1) C hX xk_true (m_noShelf1 l D _ _ _ _ xka hx) kw_677 kw_675 kw_676 kw_8 (by unfold kd_; decide) ⟨rfl, rfl, by decide, by decide⟩ rfl rfl (Nat.le_of_ble_eq_true rfl) ⟨Nat.zero_le _, Nat.zero_le _⟩ dc_M_count_2) ?_
  refine aw_if_eq C dc_M_count_5 (tgt := 12) (by decide) (fun h9 => absurd h9 (by decide)) (fun _ => ?_)
  refine aw_iconst C dc_M_count_8 (v := nI 1) rfl ?_
  refine aw_goto C dc_M_count_9 (tgt := 13) (by decide) ?_
  refine aw_put C rf_D (fun w h => List.mem_cons_of_mem _ (ly_M w h)) ty_M ty_M_ok nm_M 0 rf_p0 rfl 0 (by decide) (C.1.2.2.2.2 _ (List.mem_cons_of_mem _ kw_636)) (fun _ h => h) rfl (ty := .int) (by decide +kernel) rfl rfl (Nat.le_of_ble_eq_true rfl) (ws' := rf_ a cI cL (nI 1) S K Qt O1 O2 En Ot Wt) rfl dc_M_count_13 ?_
  refine aw_aload_n C dc_M_count_16 rfl ?_
  refine aw_get C (fun w h => List.mem_cons_of_mem _ (ly_M w h)) 0 rf_p0 rfl 0 (by decide) (C.1.2.2.2.2 _ (List.mem_cons_of_mem _ kw_636)) (fun _ h => h) rfl dc_M_count_17 ?_
  refine aw_if_ne C dc_M_count_20 (tgt := 31) (by decide) (fun _ => ?_) (fun h9 => absurd h9 (by decide))
  refine aw_iconst C dc_M_count_31 (v := nI 0) rfl ?_
  exact kc_iret C hr rfl (fun _ h => h) dc_M_count_32
set_option maxHeartbeats 4000000 in
set_option maxRecDepth 100000 in
theorem r_size_0 (l : Launch) (D : va_G) (a : Nat) (cI cL cF : ClassId) (t : Int32) (S K Qt : Nat → Int64) (O1 O2 En Ot Wt : Nat → Int32) (xka : Int32) (hx : xka < 0 ∨ nI 10 ≤ xka) : ki_ l my_M_size (Cond.code my_M_size bc_M_size 4 (some .int) :: tw_) ({ frames := 3, cells := 0, slots := 0, locals := 73 }) D (ty_s cI cL cF) (fun _ => True) (cm_ a) [.ref a, .int xka] (rp_ D a cI cL t S K Qt O1 O2 En Ot Wt) (rp_ D a cI cL (nI 1) S K Qt O1 O2 En Ot Wt) 0 := by
  refine aw_met (A := cm_ a) (own := "FamilyShelfModel") (by decide) rfl rfl (Nat.le_of_ble_eq_true rfl) ?_
  intro p9 e s m args below meth c C hr hX hP0
  refine aw_lw (lw' := [some (.ref a), some (.int xka), none, none]) rfl ?_
  refine aw_aload_n C dc_M_size_0 rfl ?_
  refine aw_iload_n C dc_M_size_1 rfl ?_
  refine kc_i (fun _ h => h) (fun _ h => h) (kc_S (n := 1) C hX xk_true (m_noShelf1 l D _ _ _ _ xka hx) kw_677 kw_675 kw_676 kw_8 (by unfold kd_; decide) ⟨rfl, rfl, by decide, by decide⟩ rfl rfl (Nat.le_of_ble_eq_true rfl) ⟨Nat.zero_le _, Nat.zero_le _⟩ dc_M_size_2) ?_
  refine aw_if_eq C dc_M_size_5 (tgt := 12) (by decide) (fun h9 => absurd h9 (by decide)) (fun _ => ?_)
  refine aw_iconst C dc_M_size_8 (v := nI 1) rfl ?_
  refine aw_goto C dc_M_size_9 (tgt := 13) (by decide) ?_
  refine aw_put C rf_D (fun w h => List.mem_cons_of_mem _ (ly_M w h)) ty_M ty_M_ok nm_M 0 rf_p0 rfl 0 (by decide) (C.1.2.2.2.2 _ (List.mem_cons_of_mem _ kw_636)) (fun _ h => h) rfl (ty := .int) (by decide +kernel) rfl rfl (Nat.le_of_ble_eq_true rfl) (ws' := rf_ a cI cL (nI 1) S K Qt O1 O2 En Ot Wt) rfl dc_M_size_13 ?_
  refine aw_aload_n C dc_M_size_16 rfl ?_
  refine aw_get C (fun w h => List.mem_cons_of_mem _ (ly_M w h)) 0 rf_p0 rfl 0 (by decide) (C.1.2.2.2.2 _ (List.mem_cons_of_mem _ kw_636)) (fun _ h => h) rfl dc_M_size_17 ?_
  refine aw_if_eq C dc_M_size_20 (tgt := 25) (by decide) (fun h9 => absurd h9 (by decide)) (fun _ => ?_)
  refine aw_iconst C dc_M_size_23 (v := nI 0) rfl ?_
  exact kc_iret C hr rfl (fun _ h => h) dc_M_size_24
set_option maxHeartbeats 4000000 in
set_option maxRecDepth 100000 in
theorem r_parts_0 (l : Launch) (D : va_G) (a : Nat) (cI cL cF : ClassId) (t : Int32) (S K Qt : Nat → Int64) (O1 O2 En Ot Wt : Nat → Int32) (xka : Int32) (hx : xka < 0 ∨ nI 10 ≤ xka) : ki_ l my_M_parts (Cond.code my_M_parts bc_M_parts 6 (some .int) :: tw_) ({ frames := 1, cells := 0, slots := 0, locals := 22 }) D (ty_s cI cL cF) (fun _ => True) (cm_ a) [.ref a, .int xka] (rp_ D a cI cL t S K Qt O1 O2 En Ot Wt) (rp_ D a cI cL (nI 1) S K Qt O1 O2 En Ot Wt) 0 := by
  refine aw_met (A := cm_ a) (own := "FamilyShelfModel") (by decide) rfl rfl (Nat.le_of_ble_eq_true rfl) ?_
  intro p9 e s m args below meth c C hr hX hP0
  refine aw_lw (lw' := [some (.ref a), some (.int xka), none, none, none, none]) rfl ?_
  refine aw_aload_n C dc_M_parts_0 rfl ?_
  refine aw_iload_n C dc_M_parts_1 rfl ?_
  refine kc_i (fun _ h => h) (fun _ h => h) (kc_S (n := 1) C hX xk_true (m_noShelf1 l D _ _ _ _ xka hx) kw_677 kw_675 kw_676 kw_8 (by unfold kd_; decide) ⟨rfl, rfl, by decide, by decide⟩ rfl rfl (Nat.le_of_ble_eq_true rfl) ⟨Nat.zero_le _, Nat.zero_le _⟩ dc_M_parts_2) ?_
  refine aw_if_eq C dc_M_parts_5 (tgt := 12) (by decide) (fun h9 => absurd h9 (by decide)) (fun _ => ?_)
  refine aw_iconst C dc_M_parts_8 (v := nI 1) rfl ?_
  refine aw_goto C dc_M_parts_9 (tgt := 13) (by decide) ?_
  refine aw_put C rf_D (fun w h => List.mem_cons_of_mem _ (ly_M w h)) ty_M ty_M_ok nm_M 0 rf_p0 rfl 0 (by decide) (C.1.2.2.2.2 _ (List.mem_cons_of_mem _ kw_636)) (fun _ h => h) rfl (ty := .int) (by decide +kernel) rfl rfl (Nat.le_of_ble_eq_true rfl) (ws' := rf_ a cI cL (nI 1) S K Qt O1 O2 En Ot Wt) rfl dc_M_parts_13 ?_
  refine aw_aload_n C dc_M_parts_16 rfl ?_
  refine aw_get C (fun w h => List.mem_cons_of_mem _ (ly_M w h)) 0 rf_p0 rfl 0 (by decide) (C.1.2.2.2.2 _ (List.mem_cons_of_mem _ kw_636)) (fun _ h => h) rfl dc_M_parts_17 ?_
  refine aw_if_eq C dc_M_parts_20 (tgt := 25) (by decide) (fun h9 => absurd h9 (by decide)) (fun _ => ?_)
  refine aw_iconst C dc_M_parts_23 (v := nI 0) rfl ?_
  exact kc_iret C hr rfl (fun _ h => h) dc_M_parts_24
set_option maxHeartbeats 4000000 in
set_option maxRecDepth 100000 in
theorem r_nth_0 (l : Launch) (D : va_G) (a : Nat) (cI cL cF : ClassId) (t : Int32) (S K Qt : Nat → Int64) (O1 O2 En Ot Wt : Nat → Int32) (xka : Int32) (hx : xka < 0 ∨ nI 10 ≤ xka) (ykb : Int32) : ki_ l my_M_nth (Cond.code my_M_nth bc_M_nth 5 (some .int) :: tw_) ({ frames := 1, cells := 0, slots := 0, locals := 22 }) D (ty_s cI cL cF) (fun _ => True) (cm_ a) [.ref a, .int xka, .int ykb] (rp_ D a cI cL t S K Qt O1 O2 En Ot Wt) (rp_ D a cI cL (nI 1) S K Qt O1 O2 En Ot Wt) 0 := by
  refine aw_met (A := cm_ a) (own := "FamilyShelfModel") (by decide) rfl rfl (Nat.le_of_ble_eq_true rfl) ?_
  intro p9 e s m args below meth c C hr hX hP0
  refine aw_lw (lw' := [some (.ref a), some (.int xka), some (.int ykb), none, none]) rfl ?_
  refine aw_aload_n C dc_M_nth_0 rfl ?_
  refine aw_iload_n C dc_M_nth_1 rfl ?_
  refine kc_i (fun _ h => h) (fun _ h => h) (kc_S (n := 1) C hX xk_true (m_noShelf1 l D _ _ _ _ xka hx) kw_677 kw_675 kw_676 kw_8 (by unfold kd_; decide) ⟨rfl, rfl, by decide, by decide⟩ rfl rfl (Nat.le_of_ble_eq_true rfl) ⟨Nat.zero_le _, Nat.zero_le _⟩ dc_M_nth_2) ?_
  refine aw_if_eq C dc_M_nth_5 (tgt := 12) (by decide) (fun h9 => absurd h9 (by decide)) (fun _ => ?_)
  refine aw_iconst C dc_M_nth_8 (v := nI 1) rfl ?_
  refine aw_goto C dc_M_nth_9 (tgt := 13) (by decide) ?_
  refine aw_put C rf_D (fun w h => List.mem_cons_of_mem _ (ly_M w h)) ty_M ty_M_ok nm_M 0 rf_p0 rfl 0 (by decide) (C.1.2.2.2.2 _ (List.mem_cons_of_mem _ kw_636)) (fun _ h => h) rfl (ty := .int) (by decide +kernel) rfl rfl (Nat.le_of_ble_eq_true rfl) (ws' := rf_ a cI cL (nI 1) S K Qt O1 O2 En Ot Wt) rfl dc_M_nth_13 ?_
  refine aw_aload_n C dc_M_nth_16 rfl ?_
  refine aw_get C (fun w h => List.mem_cons_of_mem _ (ly_M w h)) 0 rf_p0 rfl 0 (by decide) (C.1.2.2.2.2 _ (List.mem_cons_of_mem _ kw_636)) (fun _ h => h) rfl dc_M_nth_17 ?_
  refine aw_if_eq C dc_M_nth_20 (tgt := 25) (by decide) (fun h9 => absurd h9 (by decide)) (fun _ => ?_)
  refine aw_iconst C dc_M_nth_23 (v := nI 0) rfl ?_
  exact kc_iret C hr rfl (fun _ h => h) dc_M_nth_24
set_option maxHeartbeats 4000000 in
set_option maxRecDepth 100000 in
theorem r_heaviest_0 (l : Launch) (D : va_G) (a : Nat) (cI cL cF : ClassId) (t : Int32) (S K Qt : Nat → Int64) (O1 O2 En Ot Wt : Nat → Int32) (xka : Int32) (hx : xka < 0 ∨ nI 10 ≤ xka) : ki_ l my_M_heaviest (Cond.code my_M_heaviest bc_M_heaviest 6 (some .int) :: tw_) ({ frames := 2, cells := 0, slots := 0, locals := 43 }) D (ty_s cI cL cF) (fun _ => True) (cm_ a) [.ref a, .int xka] (rp_ D a cI cL t S K Qt O1 O2 En Ot Wt) (rp_ D a cI cL (nI 1) S K Qt O1 O2 En Ot Wt) 0 := by
  refine aw_met (A := cm_ a) (own := "FamilyShelfModel") (by decide) rfl rfl (Nat.le_of_ble_eq_true rfl) ?_
  intro p9 e s m args below meth c C hr hX hP0
  refine aw_lw (lw' := [some (.ref a), some (.int xka), none, none, none, none]) rfl ?_
  refine aw_aload_n C dc_M_heaviest_0 rfl ?_
  refine aw_iload_n C dc_M_heaviest_1 rfl ?_
  refine kc_i (fun _ h => h) (fun _ h => h) (kc_S (n := 1) C hX xk_true (m_noShelf1 l D _ _ _ _ xka hx) kw_677 kw_675 kw_676 kw_8 (by unfold kd_; decide) ⟨rfl, rfl, by decide, by decide⟩ rfl rfl (Nat.le_of_ble_eq_true rfl) ⟨Nat.zero_le _, Nat.zero_le _⟩ dc_M_heaviest_2) ?_
  refine aw_if_eq C dc_M_heaviest_5 (tgt := 12) (by decide) (fun h9 => absurd h9 (by decide)) (fun _ => ?_)
  refine aw_iconst C dc_M_heaviest_8 (v := nI 1) rfl ?_
  refine aw_goto C dc_M_heaviest_9 (tgt := 13) (by decide) ?_
  refine aw_put C rf_D (fun w h => List.mem_cons_of_mem _ (ly_M w h)) ty_M ty_M_ok nm_M 0 rf_p0 rfl 0 (by decide) (C.1.2.2.2.2 _ (List.mem_cons_of_mem _ kw_636)) (fun _ h => h) rfl (ty := .int) (by decide +kernel) rfl rfl (Nat.le_of_ble_eq_true rfl) (ws' := rf_ a cI cL (nI 1) S K Qt O1 O2 En Ot Wt) rfl dc_M_heaviest_13 ?_
  refine aw_aload_n C dc_M_heaviest_16 rfl ?_
  refine aw_get C (fun w h => List.mem_cons_of_mem _ (ly_M w h)) 0 rf_p0 rfl 0 (by decide) (C.1.2.2.2.2 _ (List.mem_cons_of_mem _ kw_636)) (fun _ h => h) rfl dc_M_heaviest_17 ?_
  refine aw_if_eq C dc_M_heaviest_20 (tgt := 25) (by decide) (fun h9 => absurd h9 (by decide)) (fun _ => ?_)
  refine aw_iconst C dc_M_heaviest_23 (v := nI 0) rfl ?_
  exact kc_iret C hr rfl (fun _ h => h) dc_M_heaviest_24
set_option maxHeartbeats 4000000 in
set_option maxRecDepth 100000 in
theorem r_combine_0 (l : Launch) (D : va_G) (a : Nat) (cI cL cF : ClassId) (t : Int32) (S K Qt : Nat → Int64) (O1 O2 En Ot Wt : Nat → Int32) (xka : Int32) (hx : xka < 0 ∨ nI 10 ≤ xka) (ykb : Int32) (ykc : Int32) (ykd : Int32) : ki_ l my_M_combine (Cond.code my_M_combine bc_M_combine 10 (some .int) :: tw_) ({ frames := 3, cells := 0, slots := 0, locals := 75 }) D (ty_s cI cL cF) (fun _ => True) (cm_ a) [.ref a, .int xka, .int ykb, .int ykc, .int ykd] (rp_ D a cI cL t S K Qt O1 O2 En Ot Wt) (rp_ D a cI cL (nI 1) S K Qt O1 O2 En Ot Wt) 0 := by
  refine aw_met (A := cm_ a) (own := "FamilyShelfModel") (by decide) rfl rfl (Nat.le_of_ble_eq_true rfl) ?_
  intro p9 e s m args below meth c C hr hX hP0
  refine aw_lw (lw' := [some (.ref a), some (.int xka), some (.int ykb), some (.int ykc), some (.int ykd), none, none, none, none, none]) rfl ?_
  refine aw_aload_n C dc_M_combine_0 rfl ?_
  refine aw_iload_n C dc_M_combine_1 rfl ?_
  refine kc_i (fun _ h => h) (fun _ h => h) (kc_S (n := 1) C hX xk_true (m_noShelf1 l D _ _ _ _ xka hx) kw_677 kw_675 kw_676 kw_8 (by unfold kd_; decide) ⟨rfl, rfl, by decide, by decide⟩ rfl rfl (Nat.le_of_ble_eq_true rfl) ⟨Nat.zero_le _, Nat.zero_le _⟩ dc_M_combine_2) ?_
  refine aw_if_ne C dc_M_combine_5 (tgt := 23) (by decide) (fun _ => ?_) (fun h9 => absurd h9 (by decide))
  refine aw_iconst C dc_M_combine_23 (v := nI 1) rfl ?_
  refine aw_goto C dc_M_combine_24 (tgt := 61) (by decide) ?_
  refine aw_put C rf_D (fun w h => List.mem_cons_of_mem _ (ly_M w h)) ty_M ty_M_ok nm_M 0 rf_p0 rfl 0 (by decide) (C.1.2.2.2.2 _ (List.mem_cons_of_mem _ kw_636)) (fun _ h => h) rfl (ty := .int) (by decide +kernel) rfl rfl (Nat.le_of_ble_eq_true rfl) (ws' := rf_ a cI cL (nI 1) S K Qt O1 O2 En Ot Wt) rfl dc_M_combine_61 ?_
  refine aw_aload_n C dc_M_combine_64 rfl ?_
  refine aw_get C (fun w h => List.mem_cons_of_mem _ (ly_M w h)) 0 rf_p0 rfl 0 (by decide) (C.1.2.2.2.2 _ (List.mem_cons_of_mem _ kw_636)) (fun _ h => h) rfl dc_M_combine_65 ?_
  refine aw_if_eq C dc_M_combine_68 (tgt := 73) (by decide) (fun h9 => absurd h9 (by decide)) (fun _ => ?_)
  refine aw_iconst C dc_M_combine_71 (v := nI 0) rfl ?_
  exact kc_iret C hr rfl (fun _ h => h) dc_M_combine_72
set_option maxHeartbeats 4000000 in
set_option maxRecDepth 100000 in
theorem r_combine_1 (l : Launch) (D : va_G) (a : Nat) (cI cL cF : ClassId) (t : Int32) (S K Qt : Nat → Int64) (O1 O2 En Ot Wt : Nat → Int32) (ka : Nat) (hka : ka < 10) (xkc : Int32) (hx : xkc < 0 ∨ nI 10 ≤ xkc) (ykb : Int32) (ykd : Int32) : ki_ l my_M_combine (Cond.code my_M_combine bc_M_combine 10 (some .int) :: tw_) ({ frames := 3, cells := 0, slots := 0, locals := 75 }) D (ty_s cI cL cF) (fun _ => True) (cm_ a) [.ref a, .int (nI ka), .int ykb, .int xkc, .int ykd] (rp_ D a cI cL t S K Qt O1 O2 En Ot Wt) (rp_ D a cI cL (nI 1) S K Qt O1 O2 En Ot Wt) 0 := by
  refine aw_met (A := cm_ a) (own := "FamilyShelfModel") (by decide) rfl rfl (Nat.le_of_ble_eq_true rfl) ?_
  intro p9 e s m args below meth c C hr hX hP0
  refine aw_lw (lw' := [some (.ref a), some (.int (nI ka)), some (.int ykb), some (.int xkc), some (.int ykd), none, none, none, none, none]) rfl ?_
  refine aw_aload_n C dc_M_combine_0 rfl ?_
  refine aw_iload_n C dc_M_combine_1 rfl ?_
  refine kc_i (fun _ h => h) (fun _ h => h) (kc_S (n := 1) C hX xk_true (m_noShelf0 l D _ _ _ _ ka hka) kw_677 kw_675 kw_676 kw_8 (by unfold kd_; decide) ⟨rfl, rfl, by decide, by decide⟩ rfl rfl (Nat.le_of_ble_eq_true rfl) ⟨Nat.zero_le _, Nat.zero_le _⟩ dc_M_combine_2) ?_
  refine aw_if_ne C dc_M_combine_5 (tgt := 23) (by decide) (fun h9 => absurd (by decide) h9) (fun _ => ?_)
  refine aw_iload_n C dc_M_combine_8 rfl ?_
  refine kc_i (fun _ h => h) (fun _ h => h) (kc_S (n := 1) C hX xk_true (m_noShelf1 l D _ _ _ _ xkc hx) kw_677 kw_675 kw_676 kw_8 (by unfold kd_; decide) ⟨rfl, rfl, by decide, by decide⟩ rfl rfl (Nat.le_of_ble_eq_true rfl) ⟨Nat.zero_le _, Nat.zero_le _⟩ dc_M_combine_9) ?_
  refine aw_if_ne C dc_M_combine_12 (tgt := 23) (by decide) (fun _ => ?_) (fun h9 => absurd h9 (by decide))
  refine aw_iconst C dc_M_combine_23 (v := nI 1) rfl ?_
  refine aw_goto C dc_M_combine_24 (tgt := 61) (by decide) ?_
  refine aw_put C rf_D (fun w h => List.mem_cons_of_mem _ (ly_M w h)) ty_M ty_M_ok nm_M 0 rf_p0 rfl 0 (by decide) (C.1.2.2.2.2 _ (List.mem_cons_of_mem _ kw_636)) (fun _ h => h) rfl (ty := .int) (by decide +kernel) rfl rfl (Nat.le_of_ble_eq_true rfl) (ws' := rf_ a cI cL (nI 1) S K Qt O1 O2 En Ot Wt) rfl dc_M_combine_61 ?_
  refine aw_aload_n C dc_M_combine_64 rfl ?_
  refine aw_get C (fun w h => List.mem_cons_of_mem _ (ly_M w h)) 0 rf_p0 rfl 0 (by decide) (C.1.2.2.2.2 _ (List.mem_cons_of_mem _ kw_636)) (fun _ h => h) rfl dc_M_combine_65 ?_
  refine aw_if_eq C dc_M_combine_68 (tgt := 73) (by decide) (fun h9 => absurd h9 (by decide)) (fun _ => ?_)
  refine aw_iconst C dc_M_combine_71 (v := nI 0) rfl ?_
  exact kc_iret C hr rfl (fun _ h => h) dc_M_combine_72
set_option maxHeartbeats 4000000 in
set_option maxRecDepth 100000 in
theorem r_combine_2 (l : Launch) (D : va_G) (a : Nat) (cI cL cF : ClassId) (t : Int32) (S K Qt : Nat → Int64) (O1 O2 En Ot Wt : Nat → Int32) (ka : Nat) (hka : ka < 10) (kc : Nat) (hkc : kc < 10) (xkd : Int32) (hx : xkd < 0 ∨ nI 10 ≤ xkd) (ykb : Int32) : ki_ l my_M_combine (Cond.code my_M_combine bc_M_combine 10 (some .int) :: tw_) ({ frames := 3, cells := 0, slots := 0, locals := 75 }) D (ty_s cI cL cF) (fun _ => True) (cm_ a) [.ref a, .int (nI ka), .int ykb, .int (nI kc), .int xkd] (rp_ D a cI cL t S K Qt O1 O2 En Ot Wt) (rp_ D a cI cL (nI 1) S K Qt O1 O2 En Ot Wt) 0 := by
  refine aw_met (A := cm_ a) (own := "FamilyShelfModel") (by decide) rfl rfl (Nat.le_of_ble_eq_true rfl) ?_
  intro p9 e s m args below meth c C hr hX hP0
  refine aw_lw (lw' := [some (.ref a), some (.int (nI ka)), some (.int ykb), some (.int (nI kc)), some (.int xkd), none, none, none, none, none]) rfl ?_
  refine aw_aload_n C dc_M_combine_0 rfl ?_
  refine aw_iload_n C dc_M_combine_1 rfl ?_
  refine kc_i (fun _ h => h) (fun _ h => h) (kc_S (n := 1) C hX xk_true (m_noShelf0 l D _ _ _ _ ka hka) kw_677 kw_675 kw_676 kw_8 (by unfold kd_; decide) ⟨rfl, rfl, by decide, by decide⟩ rfl rfl (Nat.le_of_ble_eq_true rfl) ⟨Nat.zero_le _, Nat.zero_le _⟩ dc_M_combine_2) ?_
  refine aw_if_ne C dc_M_combine_5 (tgt := 23) (by decide) (fun h9 => absurd (by decide) h9) (fun _ => ?_)
  refine aw_iload_n C dc_M_combine_8 rfl ?_
  refine kc_i (fun _ h => h) (fun _ h => h) (kc_S (n := 1) C hX xk_true (m_noShelf0 l D _ _ _ _ kc hkc) kw_677 kw_675 kw_676 kw_8 (by unfold kd_; decide) ⟨rfl, rfl, by decide, by decide⟩ rfl rfl (Nat.le_of_ble_eq_true rfl) ⟨Nat.zero_le _, Nat.zero_le _⟩ dc_M_combine_9) ?_
  refine aw_if_ne C dc_M_combine_12 (tgt := 23) (by decide) (fun h9 => absurd (by decide) h9) (fun _ => ?_)
  refine aw_iload C dc_M_combine_15 rfl ?_
  refine kc_i (fun _ h => h) (fun _ h => h) (kc_S (n := 1) C hX xk_true (m_noShelf1 l D _ _ _ _ xkd hx) kw_677 kw_675 kw_676 kw_8 (by unfold kd_; decide) ⟨rfl, rfl, by decide, by decide⟩ rfl rfl (Nat.le_of_ble_eq_true rfl) ⟨Nat.zero_le _, Nat.zero_le _⟩ dc_M_combine_17) ?_
  refine aw_if_eq C dc_M_combine_20 (tgt := 27) (by decide) (fun h9 => absurd h9 (by decide)) (fun _ => ?_)
  refine aw_iconst C dc_M_combine_23 (v := nI 1) rfl ?_
  refine aw_goto C dc_M_combine_24 (tgt := 61) (by decide) ?_
  refine aw_put C rf_D (fun w h => List.mem_cons_of_mem _ (ly_M w h)) ty_M ty_M_ok nm_M 0 rf_p0 rfl 0 (by decide) (C.1.2.2.2.2 _ (List.mem_cons_of_mem _ kw_636)) (fun _ h => h) rfl (ty := .int) (by decide +kernel) rfl rfl (Nat.le_of_ble_eq_true rfl) (ws' := rf_ a cI cL (nI 1) S K Qt O1 O2 En Ot Wt) rfl dc_M_combine_61 ?_
  refine aw_aload_n C dc_M_combine_64 rfl ?_
  refine aw_get C (fun w h => List.mem_cons_of_mem _ (ly_M w h)) 0 rf_p0 rfl 0 (by decide) (C.1.2.2.2.2 _ (List.mem_cons_of_mem _ kw_636)) (fun _ h => h) rfl dc_M_combine_65 ?_
  refine aw_if_eq C dc_M_combine_68 (tgt := 73) (by decide) (fun h9 => absurd h9 (by decide)) (fun _ => ?_)
  refine aw_iconst C dc_M_combine_71 (v := nI 0) rfl ?_
  exact kc_iret C hr rfl (fun _ h => h) dc_M_combine_72
set_option maxHeartbeats 4000000 in
set_option maxRecDepth 100000 in
theorem r_combine_3 (l : Launch) (D : va_G) (a : Nat) (cI cL cF : ClassId) (t : Int32) (S K Qt : Nat → Int64) (O1 O2 En Ot Wt : Nat → Int32) (ka : Nat) (hka : ka < 10) (kc : Nat) (hkc : kc < 10) (kd : Nat) (hkd : kd < 10) (xkb : Int32) (hx : xkb < 0 ∨ nI 8 < xkb) : ki_ l my_M_combine (Cond.code my_M_combine bc_M_combine 10 (some .int) :: tw_) ({ frames := 3, cells := 0, slots := 0, locals := 75 }) D (ty_s cI cL cF) (fun _ => True) (cm_ a) [.ref a, .int (nI ka), .int xkb, .int (nI kc), .int (nI kd)] (rp_ D a cI cL t S K Qt O1 O2 En Ot Wt) (rp_ D a cI cL (nI 2) S K Qt O1 O2 En Ot Wt) 0 := by
  refine aw_met (A := cm_ a) (own := "FamilyShelfModel") (by decide) rfl rfl (Nat.le_of_ble_eq_true rfl) ?_
  intro p9 e s m args below meth c C hr hX hP0
  refine aw_lw (lw' := [some (.ref a), some (.int (nI ka)), some (.int xkb), some (.int (nI kc)), some (.int (nI kd)), none, none, none, none, none]) rfl ?_
  refine aw_aload_n C dc_M_combine_0 rfl ?_
  refine aw_iload_n C dc_M_combine_1 rfl ?_
  refine kc_i (fun _ h => h) (fun _ h => h) (kc_S (n := 1) C hX xk_true (m_noShelf0 l D _ _ _ _ ka hka) kw_677 kw_675 kw_676 kw_8 (by unfold kd_; decide) ⟨rfl, rfl, by decide, by decide⟩ rfl rfl (Nat.le_of_ble_eq_true rfl) ⟨Nat.zero_le _, Nat.zero_le _⟩ dc_M_combine_2) ?_
  refine aw_if_ne C dc_M_combine_5 (tgt := 23) (by decide) (fun h9 => absurd (by decide) h9) (fun _ => ?_)
  refine aw_iload_n C dc_M_combine_8 rfl ?_
  refine kc_i (fun _ h => h) (fun _ h => h) (kc_S (n := 1) C hX xk_true (m_noShelf0 l D _ _ _ _ kc hkc) kw_677 kw_675 kw_676 kw_8 (by unfold kd_; decide) ⟨rfl, rfl, by decide, by decide⟩ rfl rfl (Nat.le_of_ble_eq_true rfl) ⟨Nat.zero_le _, Nat.zero_le _⟩ dc_M_combine_9) ?_
  refine aw_if_ne C dc_M_combine_12 (tgt := 23) (by decide) (fun h9 => absurd (by decide) h9) (fun _ => ?_)
  refine aw_iload C dc_M_combine_15 rfl ?_
  refine kc_i (fun _ h => h) (fun _ h => h) (kc_S (n := 1) C hX xk_true (m_noShelf0 l D _ _ _ _ kd hkd) kw_677 kw_675 kw_676 kw_8 (by unfold kd_; decide) ⟨rfl, rfl, by decide, by decide⟩ rfl rfl (Nat.le_of_ble_eq_true rfl) ⟨Nat.zero_le _, Nat.zero_le _⟩ dc_M_combine_17) ?_
  refine aw_if_eq C dc_M_combine_20 (tgt := 27) (by decide) (fun _ => ?_) (fun h9 => absurd (by decide) h9)
  refine aw_iload_n C dc_M_combine_27 rfl ?_
  refine aw_if_lt C dc_M_combine_28 (tgt := 37) (by decide) (fun hB28 => ?_) (fun hB28 => ?_)
  · refine aw_iconst C dc_M_combine_37 (v := nI 2) rfl ?_
    refine aw_goto C dc_M_combine_38 (tgt := 61) (by decide) ?_
    refine aw_put C rf_D (fun w h => List.mem_cons_of_mem _ (ly_M w h)) ty_M ty_M_ok nm_M 0 rf_p0 rfl 0 (by decide) (C.1.2.2.2.2 _ (List.mem_cons_of_mem _ kw_636)) (fun _ h => h) rfl (ty := .int) (by decide +kernel) rfl rfl (Nat.le_of_ble_eq_true rfl) (ws' := rf_ a cI cL (nI 2) S K Qt O1 O2 En Ot Wt) rfl dc_M_combine_61 ?_
    refine aw_aload_n C dc_M_combine_64 rfl ?_
    refine aw_get C (fun w h => List.mem_cons_of_mem _ (ly_M w h)) 0 rf_p0 rfl 0 (by decide) (C.1.2.2.2.2 _ (List.mem_cons_of_mem _ kw_636)) (fun _ h => h) rfl dc_M_combine_65 ?_
    refine aw_if_eq C dc_M_combine_68 (tgt := 73) (by decide) (fun h9 => absurd h9 (by decide)) (fun _ => ?_)
    refine aw_iconst C dc_M_combine_71 (v := nI 0) rfl ?_
    exact kc_iret C hr rfl (fun _ h => h) dc_M_combine_72
  · refine aw_iload_n C dc_M_combine_31 rfl ?_
    refine aw_bipush C dc_M_combine_32 (v := nI 8) rfl ?_
    refine aw_icmp_le C dc_M_combine_34 (tgt := 41) (by decide) (fun h9 => absurd h9 (fun h9 => hx.elim hB28 (fun h8 => absurd h9 (Int32.not_le.mpr h8)))) (fun _ => ?_)
    refine aw_iconst C dc_M_combine_37 (v := nI 2) rfl ?_
    refine aw_goto C dc_M_combine_38 (tgt := 61) (by decide) ?_
    refine aw_put C rf_D (fun w h => List.mem_cons_of_mem _ (ly_M w h)) ty_M ty_M_ok nm_M 0 rf_p0 rfl 0 (by decide) (C.1.2.2.2.2 _ (List.mem_cons_of_mem _ kw_636)) (fun _ h => h) rfl (ty := .int) (by decide +kernel) rfl rfl (Nat.le_of_ble_eq_true rfl) (ws' := rf_ a cI cL (nI 2) S K Qt O1 O2 En Ot Wt) rfl dc_M_combine_61 ?_
    refine aw_aload_n C dc_M_combine_64 rfl ?_
    refine aw_get C (fun w h => List.mem_cons_of_mem _ (ly_M w h)) 0 rf_p0 rfl 0 (by decide) (C.1.2.2.2.2 _ (List.mem_cons_of_mem _ kw_636)) (fun _ h => h) rfl dc_M_combine_65 ?_
    refine aw_if_eq C dc_M_combine_68 (tgt := 73) (by decide) (fun h9 => absurd h9 (by decide)) (fun _ => ?_)
    refine aw_iconst C dc_M_combine_71 (v := nI 0) rfl ?_
    exact kc_iret C hr rfl (fun _ h => h) dc_M_combine_72
set_option maxHeartbeats 4000000 in
set_option maxRecDepth 100000 in
theorem r_change_0 (l : Launch) (D : va_G) (a : Nat) (cI cL cF : ClassId) (t : Int32) (S K Qt : Nat → Int64) (O1 O2 En Ot Wt : Nat → Int32) (xka : Int32) (hx : xka < 0 ∨ nI 10 ≤ xka) (ykb : Int32) (ykc : Int32) (ykd : Int32) : ki_ l my_M_change (Cond.code my_M_change bc_M_change 8 (some .int) :: tw_) ({ frames := 3, cells := 0, slots := 0, locals := 68 }) D (ty_s cI cL cF) (fun _ => True) (cm_ a) [.ref a, .int xka, .int ykb, .int ykc, .int ykd] (rp_ D a cI cL t S K Qt O1 O2 En Ot Wt) (rp_ D a cI cL (nI 1) S K Qt O1 O2 En Ot Wt) 0 := by
  refine aw_met (A := cm_ a) (own := "FamilyShelfModel") (by decide) rfl rfl (Nat.le_of_ble_eq_true rfl) ?_
  intro p9 e s m args below meth c C hr hX hP0
  refine aw_lw (lw' := [some (.ref a), some (.int xka), some (.int ykb), some (.int ykc), some (.int ykd), none, none, none]) rfl ?_
  refine aw_aload_n C dc_M_change_0 rfl ?_
  refine aw_iload_n C dc_M_change_1 rfl ?_
  refine kc_i (fun _ h => h) (fun _ h => h) (kc_S (n := 1) C hX xk_true (m_noShelf1 l D _ _ _ _ xka hx) kw_677 kw_675 kw_676 kw_8 (by unfold kd_; decide) ⟨rfl, rfl, by decide, by decide⟩ rfl rfl (Nat.le_of_ble_eq_true rfl) ⟨Nat.zero_le _, Nat.zero_le _⟩ dc_M_change_2) ?_
  refine aw_if_ne C dc_M_change_5 (tgt := 23) (by decide) (fun _ => ?_) (fun h9 => absurd h9 (by decide))
  refine aw_iconst C dc_M_change_23 (v := nI 1) rfl ?_
  refine aw_goto C dc_M_change_24 (tgt := 41) (by decide) ?_
  refine aw_put C rf_D (fun w h => List.mem_cons_of_mem _ (ly_M w h)) ty_M ty_M_ok nm_M 0 rf_p0 rfl 0 (by decide) (C.1.2.2.2.2 _ (List.mem_cons_of_mem _ kw_636)) (fun _ h => h) rfl (ty := .int) (by decide +kernel) rfl rfl (Nat.le_of_ble_eq_true rfl) (ws' := rf_ a cI cL (nI 1) S K Qt O1 O2 En Ot Wt) rfl dc_M_change_41 ?_
  refine aw_aload_n C dc_M_change_44 rfl ?_
  refine aw_get C (fun w h => List.mem_cons_of_mem _ (ly_M w h)) 0 rf_p0 rfl 0 (by decide) (C.1.2.2.2.2 _ (List.mem_cons_of_mem _ kw_636)) (fun _ h => h) rfl dc_M_change_45 ?_
  refine aw_if_eq C dc_M_change_48 (tgt := 53) (by decide) (fun h9 => absurd h9 (by decide)) (fun _ => ?_)
  refine aw_iconst C dc_M_change_51 (v := nI 0) rfl ?_
  exact kc_iret C hr rfl (fun _ h => h) dc_M_change_52
set_option maxHeartbeats 4000000 in
set_option maxRecDepth 100000 in
theorem r_change_1 (l : Launch) (D : va_G) (a : Nat) (cI cL cF : ClassId) (t : Int32) (S K Qt : Nat → Int64) (O1 O2 En Ot Wt : Nat → Int32) (ka : Nat) (hka : ka < 10) (xkc : Int32) (hx : xkc < 0 ∨ nI 10 ≤ xkc) (ykb : Int32) (ykd : Int32) : ki_ l my_M_change (Cond.code my_M_change bc_M_change 8 (some .int) :: tw_) ({ frames := 3, cells := 0, slots := 0, locals := 68 }) D (ty_s cI cL cF) (fun _ => True) (cm_ a) [.ref a, .int (nI ka), .int ykb, .int xkc, .int ykd] (rp_ D a cI cL t S K Qt O1 O2 En Ot Wt) (rp_ D a cI cL (nI 1) S K Qt O1 O2 En Ot Wt) 0 := by
  refine aw_met (A := cm_ a) (own := "FamilyShelfModel") (by decide) rfl rfl (Nat.le_of_ble_eq_true rfl) ?_
  intro p9 e s m args below meth c C hr hX hP0
  refine aw_lw (lw' := [some (.ref a), some (.int (nI ka)), some (.int ykb), some (.int xkc), some (.int ykd), none, none, none]) rfl ?_
  refine aw_aload_n C dc_M_change_0 rfl ?_
  refine aw_iload_n C dc_M_change_1 rfl ?_
  refine kc_i (fun _ h => h) (fun _ h => h) (kc_S (n := 1) C hX xk_true (m_noShelf0 l D _ _ _ _ ka hka) kw_677 kw_675 kw_676 kw_8 (by unfold kd_; decide) ⟨rfl, rfl, by decide, by decide⟩ rfl rfl (Nat.le_of_ble_eq_true rfl) ⟨Nat.zero_le _, Nat.zero_le _⟩ dc_M_change_2) ?_
  refine aw_if_ne C dc_M_change_5 (tgt := 23) (by decide) (fun h9 => absurd (by decide) h9) (fun _ => ?_)
  refine aw_iload_n C dc_M_change_8 rfl ?_
  refine kc_i (fun _ h => h) (fun _ h => h) (kc_S (n := 1) C hX xk_true (m_noShelf1 l D _ _ _ _ xkc hx) kw_677 kw_675 kw_676 kw_8 (by unfold kd_; decide) ⟨rfl, rfl, by decide, by decide⟩ rfl rfl (Nat.le_of_ble_eq_true rfl) ⟨Nat.zero_le _, Nat.zero_le _⟩ dc_M_change_9) ?_
  refine aw_if_ne C dc_M_change_12 (tgt := 23) (by decide) (fun _ => ?_) (fun h9 => absurd h9 (by decide))
  refine aw_iconst C dc_M_change_23 (v := nI 1) rfl ?_
  refine aw_goto C dc_M_change_24 (tgt := 41) (by decide) ?_
  refine aw_put C rf_D (fun w h => List.mem_cons_of_mem _ (ly_M w h)) ty_M ty_M_ok nm_M 0 rf_p0 rfl 0 (by decide) (C.1.2.2.2.2 _ (List.mem_cons_of_mem _ kw_636)) (fun _ h => h) rfl (ty := .int) (by decide +kernel) rfl rfl (Nat.le_of_ble_eq_true rfl) (ws' := rf_ a cI cL (nI 1) S K Qt O1 O2 En Ot Wt) rfl dc_M_change_41 ?_
  refine aw_aload_n C dc_M_change_44 rfl ?_
  refine aw_get C (fun w h => List.mem_cons_of_mem _ (ly_M w h)) 0 rf_p0 rfl 0 (by decide) (C.1.2.2.2.2 _ (List.mem_cons_of_mem _ kw_636)) (fun _ h => h) rfl dc_M_change_45 ?_
  refine aw_if_eq C dc_M_change_48 (tgt := 53) (by decide) (fun h9 => absurd h9 (by decide)) (fun _ => ?_)
  refine aw_iconst C dc_M_change_51 (v := nI 0) rfl ?_
  exact kc_iret C hr rfl (fun _ h => h) dc_M_change_52
set_option maxHeartbeats 4000000 in
set_option maxRecDepth 100000 in
theorem r_change_2 (l : Launch) (D : va_G) (a : Nat) (cI cL cF : ClassId) (t : Int32) (S K Qt : Nat → Int64) (O1 O2 En Ot Wt : Nat → Int32) (ka : Nat) (hka : ka < 10) (kc : Nat) (hkc : kc < 10) (xkd : Int32) (hx : xkd < 0 ∨ nI 12 ≤ xkd) (ykb : Int32) : ki_ l my_M_change (Cond.code my_M_change bc_M_change 8 (some .int) :: tw_) ({ frames := 3, cells := 0, slots := 0, locals := 68 }) D (ty_s cI cL cF) (fun _ => True) (cm_ a) [.ref a, .int (nI ka), .int ykb, .int (nI kc), .int xkd] (rp_ D a cI cL t S K Qt O1 O2 En Ot Wt) (rp_ D a cI cL (nI 1) S K Qt O1 O2 En Ot Wt) 0 := by
  refine aw_met (A := cm_ a) (own := "FamilyShelfModel") (by decide) rfl rfl (Nat.le_of_ble_eq_true rfl) ?_
  intro p9 e s m args below meth c C hr hX hP0
  refine aw_lw (lw' := [some (.ref a), some (.int (nI ka)), some (.int ykb), some (.int (nI kc)), some (.int xkd), none, none, none]) rfl ?_
  refine aw_aload_n C dc_M_change_0 rfl ?_
  refine aw_iload_n C dc_M_change_1 rfl ?_
  refine kc_i (fun _ h => h) (fun _ h => h) (kc_S (n := 1) C hX xk_true (m_noShelf0 l D _ _ _ _ ka hka) kw_677 kw_675 kw_676 kw_8 (by unfold kd_; decide) ⟨rfl, rfl, by decide, by decide⟩ rfl rfl (Nat.le_of_ble_eq_true rfl) ⟨Nat.zero_le _, Nat.zero_le _⟩ dc_M_change_2) ?_
  refine aw_if_ne C dc_M_change_5 (tgt := 23) (by decide) (fun h9 => absurd (by decide) h9) (fun _ => ?_)
  refine aw_iload_n C dc_M_change_8 rfl ?_
  refine kc_i (fun _ h => h) (fun _ h => h) (kc_S (n := 1) C hX xk_true (m_noShelf0 l D _ _ _ _ kc hkc) kw_677 kw_675 kw_676 kw_8 (by unfold kd_; decide) ⟨rfl, rfl, by decide, by decide⟩ rfl rfl (Nat.le_of_ble_eq_true rfl) ⟨Nat.zero_le _, Nat.zero_le _⟩ dc_M_change_9) ?_
  refine aw_if_ne C dc_M_change_12 (tgt := 23) (by decide) (fun h9 => absurd (by decide) h9) (fun _ => ?_)
  refine aw_iload C dc_M_change_15 rfl ?_
  refine kc_i (fun _ h => h) (fun _ h => h) (kc_S (n := 1) C hX xk_true (m_noElement1 l D _ _ _ _ xkd hx) kw_749 kw_747 kw_748 kw_8 (by unfold kd_; decide) ⟨rfl, rfl, by decide, by decide⟩ rfl rfl (Nat.le_of_ble_eq_true rfl) ⟨Nat.zero_le _, Nat.zero_le _⟩ dc_M_change_17) ?_
  refine aw_if_eq C dc_M_change_20 (tgt := 27) (by decide) (fun h9 => absurd h9 (by decide)) (fun _ => ?_)
  refine aw_iconst C dc_M_change_23 (v := nI 1) rfl ?_
  refine aw_goto C dc_M_change_24 (tgt := 41) (by decide) ?_
  refine aw_put C rf_D (fun w h => List.mem_cons_of_mem _ (ly_M w h)) ty_M ty_M_ok nm_M 0 rf_p0 rfl 0 (by decide) (C.1.2.2.2.2 _ (List.mem_cons_of_mem _ kw_636)) (fun _ h => h) rfl (ty := .int) (by decide +kernel) rfl rfl (Nat.le_of_ble_eq_true rfl) (ws' := rf_ a cI cL (nI 1) S K Qt O1 O2 En Ot Wt) rfl dc_M_change_41 ?_
  refine aw_aload_n C dc_M_change_44 rfl ?_
  refine aw_get C (fun w h => List.mem_cons_of_mem _ (ly_M w h)) 0 rf_p0 rfl 0 (by decide) (C.1.2.2.2.2 _ (List.mem_cons_of_mem _ kw_636)) (fun _ h => h) rfl dc_M_change_45 ?_
  refine aw_if_eq C dc_M_change_48 (tgt := 53) (by decide) (fun h9 => absurd h9 (by decide)) (fun _ => ?_)
  refine aw_iconst C dc_M_change_51 (v := nI 0) rfl ?_
  exact kc_iret C hr rfl (fun _ h => h) dc_M_change_52
set_option maxHeartbeats 4000000 in
set_option maxRecDepth 100000 in
theorem r_change_3 (l : Launch) (D : va_G) (a : Nat) (cI cL cF : ClassId) (t : Int32) (S K Qt : Nat → Int64) (O1 O2 En Ot Wt : Nat → Int32) (ka : Nat) (hka : ka < 10) (kc : Nat) (hkc : kc < 10) (kd : Nat) (hkd : kd < 12) (xkb : Int32) (hx : xkb < 0 ∨ nI 2 < xkb) : ki_ l my_M_change (Cond.code my_M_change bc_M_change 8 (some .int) :: tw_) ({ frames := 3, cells := 0, slots := 0, locals := 68 }) D (ty_s cI cL cF) (fun _ => True) (cm_ a) [.ref a, .int (nI ka), .int xkb, .int (nI kc), .int (nI kd)] (rp_ D a cI cL t S K Qt O1 O2 En Ot Wt) (rp_ D a cI cL (nI 2) S K Qt O1 O2 En Ot Wt) 0 := by
  refine aw_met (A := cm_ a) (own := "FamilyShelfModel") (by decide) rfl rfl (Nat.le_of_ble_eq_true rfl) ?_
  intro p9 e s m args below meth c C hr hX hP0
  refine aw_lw (lw' := [some (.ref a), some (.int (nI ka)), some (.int xkb), some (.int (nI kc)), some (.int (nI kd)), none, none, none]) rfl ?_
  refine aw_aload_n C dc_M_change_0 rfl ?_
  refine aw_iload_n C dc_M_change_1 rfl ?_
  refine kc_i (fun _ h => h) (fun _ h => h) (kc_S (n := 1) C hX xk_true (m_noShelf0 l D _ _ _ _ ka hka) kw_677 kw_675 kw_676 kw_8 (by unfold kd_; decide) ⟨rfl, rfl, by decide, by decide⟩ rfl rfl (Nat.le_of_ble_eq_true rfl) ⟨Nat.zero_le _, Nat.zero_le _⟩ dc_M_change_2) ?_
  refine aw_if_ne C dc_M_change_5 (tgt := 23) (by decide) (fun h9 => absurd (by decide) h9) (fun _ => ?_)
  refine aw_iload_n C dc_M_change_8 rfl ?_
  refine kc_i (fun _ h => h) (fun _ h => h) (kc_S (n := 1) C hX xk_true (m_noShelf0 l D _ _ _ _ kc hkc) kw_677 kw_675 kw_676 kw_8 (by unfold kd_; decide) ⟨rfl, rfl, by decide, by decide⟩ rfl rfl (Nat.le_of_ble_eq_true rfl) ⟨Nat.zero_le _, Nat.zero_le _⟩ dc_M_change_9) ?_
  refine aw_if_ne C dc_M_change_12 (tgt := 23) (by decide) (fun h9 => absurd (by decide) h9) (fun _ => ?_)
  refine aw_iload C dc_M_change_15 rfl ?_
  refine kc_i (fun _ h => h) (fun _ h => h) (kc_S (n := 1) C hX xk_true (m_noElement0 l D _ _ _ _ kd hkd) kw_749 kw_747 kw_748 kw_8 (by unfold kd_; decide) ⟨rfl, rfl, by decide, by decide⟩ rfl rfl (Nat.le_of_ble_eq_true rfl) ⟨Nat.zero_le _, Nat.zero_le _⟩ dc_M_change_17) ?_
  refine aw_if_eq C dc_M_change_20 (tgt := 27) (by decide) (fun _ => ?_) (fun h9 => absurd (by decide) h9)
  refine aw_iload_n C dc_M_change_27 rfl ?_
  refine aw_if_lt C dc_M_change_28 (tgt := 36) (by decide) (fun hB28 => ?_) (fun hB28 => ?_)
  · refine aw_iconst C dc_M_change_36 (v := nI 2) rfl ?_
    refine aw_goto C dc_M_change_37 (tgt := 41) (by decide) ?_
    refine aw_put C rf_D (fun w h => List.mem_cons_of_mem _ (ly_M w h)) ty_M ty_M_ok nm_M 0 rf_p0 rfl 0 (by decide) (C.1.2.2.2.2 _ (List.mem_cons_of_mem _ kw_636)) (fun _ h => h) rfl (ty := .int) (by decide +kernel) rfl rfl (Nat.le_of_ble_eq_true rfl) (ws' := rf_ a cI cL (nI 2) S K Qt O1 O2 En Ot Wt) rfl dc_M_change_41 ?_
    refine aw_aload_n C dc_M_change_44 rfl ?_
    refine aw_get C (fun w h => List.mem_cons_of_mem _ (ly_M w h)) 0 rf_p0 rfl 0 (by decide) (C.1.2.2.2.2 _ (List.mem_cons_of_mem _ kw_636)) (fun _ h => h) rfl dc_M_change_45 ?_
    refine aw_if_eq C dc_M_change_48 (tgt := 53) (by decide) (fun h9 => absurd h9 (by decide)) (fun _ => ?_)
    refine aw_iconst C dc_M_change_51 (v := nI 0) rfl ?_
    exact kc_iret C hr rfl (fun _ h => h) dc_M_change_52
  · refine aw_iload_n C dc_M_change_31 rfl ?_
    refine aw_iconst C dc_M_change_32 (v := nI 2) rfl ?_
    refine aw_icmp_le C dc_M_change_33 (tgt := 40) (by decide) (fun h9 => absurd h9 (fun h9 => hx.elim hB28 (fun h8 => absurd h9 (Int32.not_le.mpr h8)))) (fun _ => ?_)
    refine aw_iconst C dc_M_change_36 (v := nI 2) rfl ?_
    refine aw_goto C dc_M_change_37 (tgt := 41) (by decide) ?_
    refine aw_put C rf_D (fun w h => List.mem_cons_of_mem _ (ly_M w h)) ty_M ty_M_ok nm_M 0 rf_p0 rfl 0 (by decide) (C.1.2.2.2.2 _ (List.mem_cons_of_mem _ kw_636)) (fun _ h => h) rfl (ty := .int) (by decide +kernel) rfl rfl (Nat.le_of_ble_eq_true rfl) (ws' := rf_ a cI cL (nI 2) S K Qt O1 O2 En Ot Wt) rfl dc_M_change_41 ?_
    refine aw_aload_n C dc_M_change_44 rfl ?_
    refine aw_get C (fun w h => List.mem_cons_of_mem _ (ly_M w h)) 0 rf_p0 rfl 0 (by decide) (C.1.2.2.2.2 _ (List.mem_cons_of_mem _ kw_636)) (fun _ h => h) rfl dc_M_change_45 ?_
    refine aw_if_eq C dc_M_change_48 (tgt := 53) (by decide) (fun h9 => absurd h9 (by decide)) (fun _ => ?_)
    refine aw_iconst C dc_M_change_51 (v := nI 0) rfl ?_
    exact kc_iret C hr rfl (fun _ h => h) dc_M_change_52
set_option maxHeartbeats 4000000 in
set_option maxRecDepth 100000 in
theorem r_extreme_0 (l : Launch) (D : va_G) (a : Nat) (cI cL cF : ClassId) (t : Int32) (S K Qt : Nat → Int64) (O1 O2 En Ot Wt : Nat → Int32) (xka : Int32) (hx : xka < 0 ∨ nI 10 ≤ xka) (ykb : Int32) (ykc : Int32) : ki_ l my_M_extreme (Cond.code my_M_extreme bc_M_extreme 5 (some .int) :: tw_) ({ frames := 3, cells := 0, slots := 0, locals := 68 }) D (ty_s cI cL cF) (fun _ => True) (cm_ a) [.ref a, .int xka, .int ykb, .int ykc] (rp_ D a cI cL t S K Qt O1 O2 En Ot Wt) (rp_ D a cI cL (nI 1) S K Qt O1 O2 En Ot Wt) 0 := by
  refine aw_met (A := cm_ a) (own := "FamilyShelfModel") (by decide) rfl rfl (Nat.le_of_ble_eq_true rfl) ?_
  intro p9 e s m args below meth c C hr hX hP0
  refine aw_lw (lw' := [some (.ref a), some (.int xka), some (.int ykb), some (.int ykc), none]) rfl ?_
  refine aw_aload_n C dc_M_extreme_0 rfl ?_
  refine aw_iload_n C dc_M_extreme_1 rfl ?_
  refine kc_i (fun _ h => h) (fun _ h => h) (kc_S (n := 1) C hX xk_true (m_noShelf1 l D _ _ _ _ xka hx) kw_677 kw_675 kw_676 kw_8 (by unfold kd_; decide) ⟨rfl, rfl, by decide, by decide⟩ rfl rfl (Nat.le_of_ble_eq_true rfl) ⟨Nat.zero_le _, Nat.zero_le _⟩ dc_M_extreme_2) ?_
  refine aw_if_ne C dc_M_extreme_5 (tgt := 15) (by decide) (fun _ => ?_) (fun h9 => absurd h9 (by decide))
  refine aw_iconst C dc_M_extreme_15 (v := nI 1) rfl ?_
  refine aw_goto C dc_M_extreme_16 (tgt := 20) (by decide) ?_
  refine aw_put C rf_D (fun w h => List.mem_cons_of_mem _ (ly_M w h)) ty_M ty_M_ok nm_M 0 rf_p0 rfl 0 (by decide) (C.1.2.2.2.2 _ (List.mem_cons_of_mem _ kw_636)) (fun _ h => h) rfl (ty := .int) (by decide +kernel) rfl rfl (Nat.le_of_ble_eq_true rfl) (ws' := rf_ a cI cL (nI 1) S K Qt O1 O2 En Ot Wt) rfl dc_M_extreme_20 ?_
  refine aw_aload_n C dc_M_extreme_23 rfl ?_
  refine aw_get C (fun w h => List.mem_cons_of_mem _ (ly_M w h)) 0 rf_p0 rfl 0 (by decide) (C.1.2.2.2.2 _ (List.mem_cons_of_mem _ kw_636)) (fun _ h => h) rfl dc_M_extreme_24 ?_
  refine aw_if_eq C dc_M_extreme_27 (tgt := 32) (by decide) (fun h9 => absurd h9 (by decide)) (fun _ => ?_)
  refine aw_iconst C dc_M_extreme_30 (v := nI 0) rfl ?_
  exact kc_iret C hr rfl (fun _ h => h) dc_M_extreme_31
set_option maxHeartbeats 4000000 in
set_option maxRecDepth 100000 in
theorem r_extreme_1 (l : Launch) (D : va_G) (a : Nat) (cI cL cF : ClassId) (t : Int32) (S K Qt : Nat → Int64) (O1 O2 En Ot Wt : Nat → Int32) (ka : Nat) (hka : ka < 10) (xkb : Int32) (hx : xkb < 0 ∨ nI 10 ≤ xkb) (ykc : Int32) : ki_ l my_M_extreme (Cond.code my_M_extreme bc_M_extreme 5 (some .int) :: tw_) ({ frames := 3, cells := 0, slots := 0, locals := 68 }) D (ty_s cI cL cF) (fun _ => True) (cm_ a) [.ref a, .int (nI ka), .int xkb, .int ykc] (rp_ D a cI cL t S K Qt O1 O2 En Ot Wt) (rp_ D a cI cL (nI 1) S K Qt O1 O2 En Ot Wt) 0 := by
  refine aw_met (A := cm_ a) (own := "FamilyShelfModel") (by decide) rfl rfl (Nat.le_of_ble_eq_true rfl) ?_
  intro p9 e s m args below meth c C hr hX hP0
  refine aw_lw (lw' := [some (.ref a), some (.int (nI ka)), some (.int xkb), some (.int ykc), none]) rfl ?_
  refine aw_aload_n C dc_M_extreme_0 rfl ?_
  refine aw_iload_n C dc_M_extreme_1 rfl ?_
  refine kc_i (fun _ h => h) (fun _ h => h) (kc_S (n := 1) C hX xk_true (m_noShelf0 l D _ _ _ _ ka hka) kw_677 kw_675 kw_676 kw_8 (by unfold kd_; decide) ⟨rfl, rfl, by decide, by decide⟩ rfl rfl (Nat.le_of_ble_eq_true rfl) ⟨Nat.zero_le _, Nat.zero_le _⟩ dc_M_extreme_2) ?_
  refine aw_if_ne C dc_M_extreme_5 (tgt := 15) (by decide) (fun h9 => absurd (by decide) h9) (fun _ => ?_)
  refine aw_iload_n C dc_M_extreme_8 rfl ?_
  refine kc_i (fun _ h => h) (fun _ h => h) (kc_S (n := 1) C hX xk_true (m_noShelf1 l D _ _ _ _ xkb hx) kw_677 kw_675 kw_676 kw_8 (by unfold kd_; decide) ⟨rfl, rfl, by decide, by decide⟩ rfl rfl (Nat.le_of_ble_eq_true rfl) ⟨Nat.zero_le _, Nat.zero_le _⟩ dc_M_extreme_9) ?_
  refine aw_if_eq C dc_M_extreme_12 (tgt := 19) (by decide) (fun h9 => absurd h9 (by decide)) (fun _ => ?_)
  refine aw_iconst C dc_M_extreme_15 (v := nI 1) rfl ?_
  refine aw_goto C dc_M_extreme_16 (tgt := 20) (by decide) ?_
  refine aw_put C rf_D (fun w h => List.mem_cons_of_mem _ (ly_M w h)) ty_M ty_M_ok nm_M 0 rf_p0 rfl 0 (by decide) (C.1.2.2.2.2 _ (List.mem_cons_of_mem _ kw_636)) (fun _ h => h) rfl (ty := .int) (by decide +kernel) rfl rfl (Nat.le_of_ble_eq_true rfl) (ws' := rf_ a cI cL (nI 1) S K Qt O1 O2 En Ot Wt) rfl dc_M_extreme_20 ?_
  refine aw_aload_n C dc_M_extreme_23 rfl ?_
  refine aw_get C (fun w h => List.mem_cons_of_mem _ (ly_M w h)) 0 rf_p0 rfl 0 (by decide) (C.1.2.2.2.2 _ (List.mem_cons_of_mem _ kw_636)) (fun _ h => h) rfl dc_M_extreme_24 ?_
  refine aw_if_eq C dc_M_extreme_27 (tgt := 32) (by decide) (fun h9 => absurd h9 (by decide)) (fun _ => ?_)
  refine aw_iconst C dc_M_extreme_30 (v := nI 0) rfl ?_
  exact kc_iret C hr rfl (fun _ h => h) dc_M_extreme_31
set_option maxHeartbeats 4000000 in
set_option maxRecDepth 100000 in
theorem r_sized_0 (l : Launch) (D : va_G) (a : Nat) (cI cL cF : ClassId) (t : Int32) (S K Qt : Nat → Int64) (O1 O2 En Ot Wt : Nat → Int32) (xka : Int32) (hx : xka < 0 ∨ nI 10 ≤ xka) (ykb : Int32) (ykc : Int32) : ki_ l my_M_sized (Cond.code my_M_sized bc_M_sized 5 (some .int) :: tw_) ({ frames := 3, cells := 0, slots := 0, locals := 68 }) D (ty_s cI cL cF) (fun _ => True) (cm_ a) [.ref a, .int xka, .int ykb, .int ykc] (rp_ D a cI cL t S K Qt O1 O2 En Ot Wt) (rp_ D a cI cL (nI 1) S K Qt O1 O2 En Ot Wt) 0 := by
  refine aw_met (A := cm_ a) (own := "FamilyShelfModel") (by decide) rfl rfl (Nat.le_of_ble_eq_true rfl) ?_
  intro p9 e s m args below meth c C hr hX hP0
  refine aw_lw (lw' := [some (.ref a), some (.int xka), some (.int ykb), some (.int ykc), none]) rfl ?_
  refine aw_aload_n C dc_M_sized_0 rfl ?_
  refine aw_iload_n C dc_M_sized_1 rfl ?_
  refine kc_i (fun _ h => h) (fun _ h => h) (kc_S (n := 1) C hX xk_true (m_noShelf1 l D _ _ _ _ xka hx) kw_677 kw_675 kw_676 kw_8 (by unfold kd_; decide) ⟨rfl, rfl, by decide, by decide⟩ rfl rfl (Nat.le_of_ble_eq_true rfl) ⟨Nat.zero_le _, Nat.zero_le _⟩ dc_M_sized_2) ?_
  refine aw_if_ne C dc_M_sized_5 (tgt := 15) (by decide) (fun _ => ?_) (fun h9 => absurd h9 (by decide))
  refine aw_iconst C dc_M_sized_15 (v := nI 1) rfl ?_
  refine aw_goto C dc_M_sized_16 (tgt := 34) (by decide) ?_
  refine aw_put C rf_D (fun w h => List.mem_cons_of_mem _ (ly_M w h)) ty_M ty_M_ok nm_M 0 rf_p0 rfl 0 (by decide) (C.1.2.2.2.2 _ (List.mem_cons_of_mem _ kw_636)) (fun _ h => h) rfl (ty := .int) (by decide +kernel) rfl rfl (Nat.le_of_ble_eq_true rfl) (ws' := rf_ a cI cL (nI 1) S K Qt O1 O2 En Ot Wt) rfl dc_M_sized_34 ?_
  refine aw_aload_n C dc_M_sized_37 rfl ?_
  refine aw_get C (fun w h => List.mem_cons_of_mem _ (ly_M w h)) 0 rf_p0 rfl 0 (by decide) (C.1.2.2.2.2 _ (List.mem_cons_of_mem _ kw_636)) (fun _ h => h) rfl dc_M_sized_38 ?_
  refine aw_if_eq C dc_M_sized_41 (tgt := 46) (by decide) (fun h9 => absurd h9 (by decide)) (fun _ => ?_)
  refine aw_iconst C dc_M_sized_44 (v := nI 0) rfl ?_
  exact kc_iret C hr rfl (fun _ h => h) dc_M_sized_45
set_option maxHeartbeats 4000000 in
set_option maxRecDepth 100000 in
theorem r_sized_1 (l : Launch) (D : va_G) (a : Nat) (cI cL cF : ClassId) (t : Int32) (S K Qt : Nat → Int64) (O1 O2 En Ot Wt : Nat → Int32) (ka : Nat) (hka : ka < 10) (xkb : Int32) (hx : xkb < 0 ∨ nI 10 ≤ xkb) (ykc : Int32) : ki_ l my_M_sized (Cond.code my_M_sized bc_M_sized 5 (some .int) :: tw_) ({ frames := 3, cells := 0, slots := 0, locals := 68 }) D (ty_s cI cL cF) (fun _ => True) (cm_ a) [.ref a, .int (nI ka), .int xkb, .int ykc] (rp_ D a cI cL t S K Qt O1 O2 En Ot Wt) (rp_ D a cI cL (nI 1) S K Qt O1 O2 En Ot Wt) 0 := by
  refine aw_met (A := cm_ a) (own := "FamilyShelfModel") (by decide) rfl rfl (Nat.le_of_ble_eq_true rfl) ?_
  intro p9 e s m args below meth c C hr hX hP0
  refine aw_lw (lw' := [some (.ref a), some (.int (nI ka)), some (.int xkb), some (.int ykc), none]) rfl ?_
  refine aw_aload_n C dc_M_sized_0 rfl ?_
  refine aw_iload_n C dc_M_sized_1 rfl ?_
  refine kc_i (fun _ h => h) (fun _ h => h) (kc_S (n := 1) C hX xk_true (m_noShelf0 l D _ _ _ _ ka hka) kw_677 kw_675 kw_676 kw_8 (by unfold kd_; decide) ⟨rfl, rfl, by decide, by decide⟩ rfl rfl (Nat.le_of_ble_eq_true rfl) ⟨Nat.zero_le _, Nat.zero_le _⟩ dc_M_sized_2) ?_
  refine aw_if_ne C dc_M_sized_5 (tgt := 15) (by decide) (fun h9 => absurd (by decide) h9) (fun _ => ?_)
  refine aw_iload_n C dc_M_sized_8 rfl ?_
  refine kc_i (fun _ h => h) (fun _ h => h) (kc_S (n := 1) C hX xk_true (m_noShelf1 l D _ _ _ _ xkb hx) kw_677 kw_675 kw_676 kw_8 (by unfold kd_; decide) ⟨rfl, rfl, by decide, by decide⟩ rfl rfl (Nat.le_of_ble_eq_true rfl) ⟨Nat.zero_le _, Nat.zero_le _⟩ dc_M_sized_9) ?_
  refine aw_if_eq C dc_M_sized_12 (tgt := 19) (by decide) (fun h9 => absurd h9 (by decide)) (fun _ => ?_)
  refine aw_iconst C dc_M_sized_15 (v := nI 1) rfl ?_
  refine aw_goto C dc_M_sized_16 (tgt := 34) (by decide) ?_
  refine aw_put C rf_D (fun w h => List.mem_cons_of_mem _ (ly_M w h)) ty_M ty_M_ok nm_M 0 rf_p0 rfl 0 (by decide) (C.1.2.2.2.2 _ (List.mem_cons_of_mem _ kw_636)) (fun _ h => h) rfl (ty := .int) (by decide +kernel) rfl rfl (Nat.le_of_ble_eq_true rfl) (ws' := rf_ a cI cL (nI 1) S K Qt O1 O2 En Ot Wt) rfl dc_M_sized_34 ?_
  refine aw_aload_n C dc_M_sized_37 rfl ?_
  refine aw_get C (fun w h => List.mem_cons_of_mem _ (ly_M w h)) 0 rf_p0 rfl 0 (by decide) (C.1.2.2.2.2 _ (List.mem_cons_of_mem _ kw_636)) (fun _ h => h) rfl dc_M_sized_38 ?_
  refine aw_if_eq C dc_M_sized_41 (tgt := 46) (by decide) (fun h9 => absurd h9 (by decide)) (fun _ => ?_)
  refine aw_iconst C dc_M_sized_44 (v := nI 0) rfl ?_
  exact kc_iret C hr rfl (fun _ h => h) dc_M_sized_45
set_option maxHeartbeats 4000000 in
set_option maxRecDepth 100000 in
theorem r_sized_2 (l : Launch) (D : va_G) (a : Nat) (cI cL cF : ClassId) (t : Int32) (S K Qt : Nat → Int64) (O1 O2 En Ot Wt : Nat → Int32) (ka : Nat) (hka : ka < 10) (kb : Nat) (hkb : kb < 10) (xkc : Int32) (hx : xkc < 0 ∨ nI 12 < xkc) : ki_ l my_M_sized (Cond.code my_M_sized bc_M_sized 5 (some .int) :: tw_) ({ frames := 3, cells := 0, slots := 0, locals := 68 }) D (ty_s cI cL cF) (fun _ => True) (cm_ a) [.ref a, .int (nI ka), .int (nI kb), .int xkc] (rp_ D a cI cL t S K Qt O1 O2 En Ot Wt) (rp_ D a cI cL (nI 2) S K Qt O1 O2 En Ot Wt) 0 := by
  refine aw_met (A := cm_ a) (own := "FamilyShelfModel") (by decide) rfl rfl (Nat.le_of_ble_eq_true rfl) ?_
  intro p9 e s m args below meth c C hr hX hP0
  refine aw_lw (lw' := [some (.ref a), some (.int (nI ka)), some (.int (nI kb)), some (.int xkc), none]) rfl ?_
  refine aw_aload_n C dc_M_sized_0 rfl ?_
  refine aw_iload_n C dc_M_sized_1 rfl ?_
  refine kc_i (fun _ h => h) (fun _ h => h) (kc_S (n := 1) C hX xk_true (m_noShelf0 l D _ _ _ _ ka hka) kw_677 kw_675 kw_676 kw_8 (by unfold kd_; decide) ⟨rfl, rfl, by decide, by decide⟩ rfl rfl (Nat.le_of_ble_eq_true rfl) ⟨Nat.zero_le _, Nat.zero_le _⟩ dc_M_sized_2) ?_
  refine aw_if_ne C dc_M_sized_5 (tgt := 15) (by decide) (fun h9 => absurd (by decide) h9) (fun _ => ?_)
  refine aw_iload_n C dc_M_sized_8 rfl ?_
  refine kc_i (fun _ h => h) (fun _ h => h) (kc_S (n := 1) C hX xk_true (m_noShelf0 l D _ _ _ _ kb hkb) kw_677 kw_675 kw_676 kw_8 (by unfold kd_; decide) ⟨rfl, rfl, by decide, by decide⟩ rfl rfl (Nat.le_of_ble_eq_true rfl) ⟨Nat.zero_le _, Nat.zero_le _⟩ dc_M_sized_9) ?_
  refine aw_if_eq C dc_M_sized_12 (tgt := 19) (by decide) (fun _ => ?_) (fun h9 => absurd (by decide) h9)
  refine aw_iload_n C dc_M_sized_19 rfl ?_
  refine aw_if_lt C dc_M_sized_20 (tgt := 29) (by decide) (fun hB20 => ?_) (fun hB20 => ?_)
  · refine aw_iconst C dc_M_sized_29 (v := nI 2) rfl ?_
    refine aw_goto C dc_M_sized_30 (tgt := 34) (by decide) ?_
    refine aw_put C rf_D (fun w h => List.mem_cons_of_mem _ (ly_M w h)) ty_M ty_M_ok nm_M 0 rf_p0 rfl 0 (by decide) (C.1.2.2.2.2 _ (List.mem_cons_of_mem _ kw_636)) (fun _ h => h) rfl (ty := .int) (by decide +kernel) rfl rfl (Nat.le_of_ble_eq_true rfl) (ws' := rf_ a cI cL (nI 2) S K Qt O1 O2 En Ot Wt) rfl dc_M_sized_34 ?_
    refine aw_aload_n C dc_M_sized_37 rfl ?_
    refine aw_get C (fun w h => List.mem_cons_of_mem _ (ly_M w h)) 0 rf_p0 rfl 0 (by decide) (C.1.2.2.2.2 _ (List.mem_cons_of_mem _ kw_636)) (fun _ h => h) rfl dc_M_sized_38 ?_
    refine aw_if_eq C dc_M_sized_41 (tgt := 46) (by decide) (fun h9 => absurd h9 (by decide)) (fun _ => ?_)
    refine aw_iconst C dc_M_sized_44 (v := nI 0) rfl ?_
    exact kc_iret C hr rfl (fun _ h => h) dc_M_sized_45
  · refine aw_iload_n C dc_M_sized_23 rfl ?_
    refine aw_bipush C dc_M_sized_24 (v := nI 12) rfl ?_
    refine aw_icmp_le C dc_M_sized_26 (tgt := 33) (by decide) (fun h9 => absurd h9 (fun h9 => hx.elim hB20 (fun h8 => absurd h9 (Int32.not_le.mpr h8)))) (fun _ => ?_)
    refine aw_iconst C dc_M_sized_29 (v := nI 2) rfl ?_
    refine aw_goto C dc_M_sized_30 (tgt := 34) (by decide) ?_
    refine aw_put C rf_D (fun w h => List.mem_cons_of_mem _ (ly_M w h)) ty_M ty_M_ok nm_M 0 rf_p0 rfl 0 (by decide) (C.1.2.2.2.2 _ (List.mem_cons_of_mem _ kw_636)) (fun _ h => h) rfl (ty := .int) (by decide +kernel) rfl rfl (Nat.le_of_ble_eq_true rfl) (ws' := rf_ a cI cL (nI 2) S K Qt O1 O2 En Ot Wt) rfl dc_M_sized_34 ?_
    refine aw_aload_n C dc_M_sized_37 rfl ?_
    refine aw_get C (fun w h => List.mem_cons_of_mem _ (ly_M w h)) 0 rf_p0 rfl 0 (by decide) (C.1.2.2.2.2 _ (List.mem_cons_of_mem _ kw_636)) (fun _ h => h) rfl dc_M_sized_38 ?_
    refine aw_if_eq C dc_M_sized_41 (tgt := 46) (by decide) (fun h9 => absurd h9 (by decide)) (fun _ => ?_)
    refine aw_iconst C dc_M_sized_44 (v := nI 0) rfl ?_
    exact kc_iret C hr rfl (fun _ h => h) dc_M_sized_45
set_option maxHeartbeats 4000000 in
set_option maxRecDepth 100000 in
theorem r_edge_0 (l : Launch) (D : va_G) (a : Nat) (cI cL cF : ClassId) (t : Int32) (S K Qt : Nat → Int64) (O1 O2 En Ot Wt : Nat → Int32) (xka : Int32) (hx : xka < 0 ∨ nI 12 ≤ xka) (ykb : Int32) (ykc : Int32) : kv_ l my_M_edge (Cond.code my_M_edge bc_M_edge 4 none :: tw_) ({ frames := 1, cells := 0, slots := 0, locals := 20 }) D (ty_s cI cL cF) (fun _ => True) (cm_ a) [.ref a, .int xka, .int ykb, .int ykc] (rp_ D a cI cL t S K Qt O1 O2 En Ot Wt) (rp_ D a cI cL (nI 1) S K Qt O1 O2 En Ot Wt) := by
  refine aw_met (A := cm_ a) (own := "FamilyShelfModel") (by decide) rfl rfl (Nat.le_of_ble_eq_true rfl) ?_
  intro p9 e s m args below meth c C hr hX hP0
  refine aw_lw (lw' := [some (.ref a), some (.int xka), some (.int ykb), some (.int ykc)]) rfl ?_
  refine aw_aload_n C dc_M_edge_0 rfl ?_
  refine aw_iload_n C dc_M_edge_1 rfl ?_
  refine kc_i (fun _ h => h) (fun _ h => h) (kc_S (n := 1) C hX xk_true (m_noElement1 l D _ _ _ _ xka hx) kw_749 kw_747 kw_748 kw_8 (by unfold kd_; decide) ⟨rfl, rfl, by decide, by decide⟩ rfl rfl (Nat.le_of_ble_eq_true rfl) ⟨Nat.zero_le _, Nat.zero_le _⟩ dc_M_edge_2) ?_
  refine aw_if_ne C dc_M_edge_5 (tgt := 22) (by decide) (fun _ => ?_) (fun h9 => absurd h9 (by decide))
  refine aw_iconst C dc_M_edge_22 (v := nI 1) rfl ?_
  refine aw_goto C dc_M_edge_23 (tgt := 36) (by decide) ?_
  refine aw_put C rf_D (fun w h => List.mem_cons_of_mem _ (ly_M w h)) ty_M ty_M_ok nm_M 0 rf_p0 rfl 0 (by decide) (C.1.2.2.2.2 _ (List.mem_cons_of_mem _ kw_636)) (fun _ h => h) rfl (ty := .int) (by decide +kernel) rfl rfl (Nat.le_of_ble_eq_true rfl) (ws' := rf_ a cI cL (nI 1) S K Qt O1 O2 En Ot Wt) rfl dc_M_edge_36 ?_
  refine aw_aload_n C dc_M_edge_39 rfl ?_
  refine aw_get C (fun w h => List.mem_cons_of_mem _ (ly_M w h)) 0 rf_p0 rfl 0 (by decide) (C.1.2.2.2.2 _ (List.mem_cons_of_mem _ kw_636)) (fun _ h => h) rfl dc_M_edge_40 ?_
  refine aw_if_eq C dc_M_edge_43 (tgt := 47) (by decide) (fun h9 => absurd h9 (by decide)) (fun _ => ?_)
  exact kc_vret C hr (fun _ h => h) dc_M_edge_46
set_option maxHeartbeats 4000000 in
set_option maxRecDepth 100000 in
theorem r_edge_1 (l : Launch) (D : va_G) (a : Nat) (cI cL cF : ClassId) (t : Int32) (S K Qt : Nat → Int64) (O1 O2 En Ot Wt : Nat → Int32) (ka : Nat) (hka : ka < 12) (xkb : Int32) (hx : xkb < 0 ∨ nI 7 ≤ xkb) (ykc : Int32) : kv_ l my_M_edge (Cond.code my_M_edge bc_M_edge 4 none :: tw_) ({ frames := 1, cells := 0, slots := 0, locals := 20 }) D (ty_s cI cL cF) (fun _ => True) (cm_ a) [.ref a, .int (nI ka), .int xkb, .int ykc] (rp_ D a cI cL t S K Qt O1 O2 En Ot Wt) (rp_ D a cI cL (nI 1) S K Qt O1 O2 En Ot Wt) := by
  refine aw_met (A := cm_ a) (own := "FamilyShelfModel") (by decide) rfl rfl (Nat.le_of_ble_eq_true rfl) ?_
  intro p9 e s m args below meth c C hr hX hP0
  refine aw_lw (lw' := [some (.ref a), some (.int (nI ka)), some (.int xkb), some (.int ykc)]) rfl ?_
  refine aw_aload_n C dc_M_edge_0 rfl ?_
  refine aw_iload_n C dc_M_edge_1 rfl ?_
  refine kc_i (fun _ h => h) (fun _ h => h) (kc_S (n := 1) C hX xk_true (m_noElement0 l D _ _ _ _ ka hka) kw_749 kw_747 kw_748 kw_8 (by unfold kd_; decide) ⟨rfl, rfl, by decide, by decide⟩ rfl rfl (Nat.le_of_ble_eq_true rfl) ⟨Nat.zero_le _, Nat.zero_le _⟩ dc_M_edge_2) ?_
  refine aw_if_ne C dc_M_edge_5 (tgt := 22) (by decide) (fun h9 => absurd (by decide) h9) (fun _ => ?_)
  refine aw_iload_n C dc_M_edge_8 rfl ?_
  refine kc_i (fun _ h => h) (fun _ h => h) (kc_S (n := 1) C hX xk_true (m_noVertex1 l D _ _ _ _ xkb hx) kw_767 kw_765 kw_766 kw_8 (by unfold kd_; decide) ⟨rfl, rfl, by decide, by decide⟩ rfl rfl (Nat.le_of_ble_eq_true rfl) ⟨Nat.zero_le _, Nat.zero_le _⟩ dc_M_edge_9) ?_
  refine aw_if_ne C dc_M_edge_12 (tgt := 22) (by decide) (fun _ => ?_) (fun h9 => absurd h9 (by decide))
  refine aw_iconst C dc_M_edge_22 (v := nI 1) rfl ?_
  refine aw_goto C dc_M_edge_23 (tgt := 36) (by decide) ?_
  refine aw_put C rf_D (fun w h => List.mem_cons_of_mem _ (ly_M w h)) ty_M ty_M_ok nm_M 0 rf_p0 rfl 0 (by decide) (C.1.2.2.2.2 _ (List.mem_cons_of_mem _ kw_636)) (fun _ h => h) rfl (ty := .int) (by decide +kernel) rfl rfl (Nat.le_of_ble_eq_true rfl) (ws' := rf_ a cI cL (nI 1) S K Qt O1 O2 En Ot Wt) rfl dc_M_edge_36 ?_
  refine aw_aload_n C dc_M_edge_39 rfl ?_
  refine aw_get C (fun w h => List.mem_cons_of_mem _ (ly_M w h)) 0 rf_p0 rfl 0 (by decide) (C.1.2.2.2.2 _ (List.mem_cons_of_mem _ kw_636)) (fun _ h => h) rfl dc_M_edge_40 ?_
  refine aw_if_eq C dc_M_edge_43 (tgt := 47) (by decide) (fun h9 => absurd h9 (by decide)) (fun _ => ?_)
  exact kc_vret C hr (fun _ h => h) dc_M_edge_46
set_option maxHeartbeats 4000000 in
set_option maxRecDepth 100000 in
theorem r_edge_2 (l : Launch) (D : va_G) (a : Nat) (cI cL cF : ClassId) (t : Int32) (S K Qt : Nat → Int64) (O1 O2 En Ot Wt : Nat → Int32) (ka : Nat) (hka : ka < 12) (kb : Nat) (hkb : kb < 7) (xkc : Int32) (hx : xkc < 0 ∨ nI 7 ≤ xkc) : kv_ l my_M_edge (Cond.code my_M_edge bc_M_edge 4 none :: tw_) ({ frames := 1, cells := 0, slots := 0, locals := 20 }) D (ty_s cI cL cF) (fun _ => True) (cm_ a) [.ref a, .int (nI ka), .int (nI kb), .int xkc] (rp_ D a cI cL t S K Qt O1 O2 En Ot Wt) (rp_ D a cI cL (nI 1) S K Qt O1 O2 En Ot Wt) := by
  refine aw_met (A := cm_ a) (own := "FamilyShelfModel") (by decide) rfl rfl (Nat.le_of_ble_eq_true rfl) ?_
  intro p9 e s m args below meth c C hr hX hP0
  refine aw_lw (lw' := [some (.ref a), some (.int (nI ka)), some (.int (nI kb)), some (.int xkc)]) rfl ?_
  refine aw_aload_n C dc_M_edge_0 rfl ?_
  refine aw_iload_n C dc_M_edge_1 rfl ?_
  refine kc_i (fun _ h => h) (fun _ h => h) (kc_S (n := 1) C hX xk_true (m_noElement0 l D _ _ _ _ ka hka) kw_749 kw_747 kw_748 kw_8 (by unfold kd_; decide) ⟨rfl, rfl, by decide, by decide⟩ rfl rfl (Nat.le_of_ble_eq_true rfl) ⟨Nat.zero_le _, Nat.zero_le _⟩ dc_M_edge_2) ?_
  refine aw_if_ne C dc_M_edge_5 (tgt := 22) (by decide) (fun h9 => absurd (by decide) h9) (fun _ => ?_)
  refine aw_iload_n C dc_M_edge_8 rfl ?_
  refine kc_i (fun _ h => h) (fun _ h => h) (kc_S (n := 1) C hX xk_true (m_noVertex0 l D _ _ _ _ kb hkb) kw_767 kw_765 kw_766 kw_8 (by unfold kd_; decide) ⟨rfl, rfl, by decide, by decide⟩ rfl rfl (Nat.le_of_ble_eq_true rfl) ⟨Nat.zero_le _, Nat.zero_le _⟩ dc_M_edge_9) ?_
  refine aw_if_ne C dc_M_edge_12 (tgt := 22) (by decide) (fun h9 => absurd (by decide) h9) (fun _ => ?_)
  refine aw_iload_n C dc_M_edge_15 rfl ?_
  refine kc_i (fun _ h => h) (fun _ h => h) (kc_S (n := 1) C hX xk_true (m_noVertex1 l D _ _ _ _ xkc hx) kw_767 kw_765 kw_766 kw_8 (by unfold kd_; decide) ⟨rfl, rfl, by decide, by decide⟩ rfl rfl (Nat.le_of_ble_eq_true rfl) ⟨Nat.zero_le _, Nat.zero_le _⟩ dc_M_edge_16) ?_
  refine aw_if_eq C dc_M_edge_19 (tgt := 26) (by decide) (fun h9 => absurd h9 (by decide)) (fun _ => ?_)
  refine aw_iconst C dc_M_edge_22 (v := nI 1) rfl ?_
  refine aw_goto C dc_M_edge_23 (tgt := 36) (by decide) ?_
  refine aw_put C rf_D (fun w h => List.mem_cons_of_mem _ (ly_M w h)) ty_M ty_M_ok nm_M 0 rf_p0 rfl 0 (by decide) (C.1.2.2.2.2 _ (List.mem_cons_of_mem _ kw_636)) (fun _ h => h) rfl (ty := .int) (by decide +kernel) rfl rfl (Nat.le_of_ble_eq_true rfl) (ws' := rf_ a cI cL (nI 1) S K Qt O1 O2 En Ot Wt) rfl dc_M_edge_36 ?_
  refine aw_aload_n C dc_M_edge_39 rfl ?_
  refine aw_get C (fun w h => List.mem_cons_of_mem _ (ly_M w h)) 0 rf_p0 rfl 0 (by decide) (C.1.2.2.2.2 _ (List.mem_cons_of_mem _ kw_636)) (fun _ h => h) rfl dc_M_edge_40 ?_
  refine aw_if_eq C dc_M_edge_43 (tgt := 47) (by decide) (fun h9 => absurd h9 (by decide)) (fun _ => ?_)
  exact kc_vret C hr (fun _ h => h) dc_M_edge_46
set_option maxHeartbeats 4000000 in
set_option maxRecDepth 100000 in
theorem r_cut_0 (l : Launch) (D : va_G) (a : Nat) (cI cL cF : ClassId) (t : Int32) (S K Qt : Nat → Int64) (O1 O2 En Ot Wt : Nat → Int32) (xka : Int32) (hx : xka < 0 ∨ nI 12 ≤ xka) : ki_ l my_M_cut (Cond.code my_M_cut bc_M_cut 3 (some .boolean) :: tw_) ({ frames := 1, cells := 0, slots := 0, locals := 20 }) D (ty_s cI cL cF) (fun _ => True) (cm_ a) [.ref a, .int xka] (rp_ D a cI cL t S K Qt O1 O2 En Ot Wt) (rp_ D a cI cL (nI 1) S K Qt O1 O2 En Ot Wt) 0 := by
  refine aw_met (A := cm_ a) (own := "FamilyShelfModel") (by decide) rfl rfl (Nat.le_of_ble_eq_true rfl) ?_
  intro p9 e s m args below meth c C hr hX hP0
  refine aw_lw (lw' := [some (.ref a), some (.int xka), none]) rfl ?_
  refine aw_aload_n C dc_M_cut_0 rfl ?_
  refine aw_iload_n C dc_M_cut_1 rfl ?_
  refine kc_i (fun _ h => h) (fun _ h => h) (kc_S (n := 1) C hX xk_true (m_noElement1 l D _ _ _ _ xka hx) kw_749 kw_747 kw_748 kw_8 (by unfold kd_; decide) ⟨rfl, rfl, by decide, by decide⟩ rfl rfl (Nat.le_of_ble_eq_true rfl) ⟨Nat.zero_le _, Nat.zero_le _⟩ dc_M_cut_2) ?_
  refine aw_if_eq C dc_M_cut_5 (tgt := 12) (by decide) (fun h9 => absurd h9 (by decide)) (fun _ => ?_)
  refine aw_iconst C dc_M_cut_8 (v := nI 1) rfl ?_
  refine aw_goto C dc_M_cut_9 (tgt := 13) (by decide) ?_
  refine aw_put C rf_D (fun w h => List.mem_cons_of_mem _ (ly_M w h)) ty_M ty_M_ok nm_M 0 rf_p0 rfl 0 (by decide) (C.1.2.2.2.2 _ (List.mem_cons_of_mem _ kw_636)) (fun _ h => h) rfl (ty := .int) (by decide +kernel) rfl rfl (Nat.le_of_ble_eq_true rfl) (ws' := rf_ a cI cL (nI 1) S K Qt O1 O2 En Ot Wt) rfl dc_M_cut_13 ?_
  refine aw_aload_n C dc_M_cut_16 rfl ?_
  refine aw_get C (fun w h => List.mem_cons_of_mem _ (ly_M w h)) 0 rf_p0 rfl 0 (by decide) (C.1.2.2.2.2 _ (List.mem_cons_of_mem _ kw_636)) (fun _ h => h) rfl dc_M_cut_17 ?_
  refine aw_if_eq C dc_M_cut_20 (tgt := 25) (by decide) (fun h9 => absurd h9 (by decide)) (fun _ => ?_)
  refine aw_iconst C dc_M_cut_23 (v := nI 0) rfl ?_
  exact kc_zret C hr (by decide) (rfl) (fun _ h => h) dc_M_cut_24
set_option maxHeartbeats 4000000 in
set_option maxRecDepth 100000 in
theorem r_paths_0 (l : Launch) (D : va_G) (a : Nat) (cI cL cF : ClassId) (t : Int32) (S K Qt : Nat → Int64) (O1 O2 En Ot Wt : Nat → Int32) (xka : Int32) (hx : xka < 0 ∨ nI 10 ≤ xka) (ykb : Int32) (ykc : Int32) : ki_ l my_M_paths (Cond.code my_M_paths bc_M_paths 5 (some .int) :: tw_) ({ frames := 3, cells := 0, slots := 0, locals := 68 }) D (ty_s cI cL cF) (fun _ => True) (cm_ a) [.ref a, .int xka, .int ykb, .int ykc] (rp_ D a cI cL t S K Qt O1 O2 En Ot Wt) (rp_ D a cI cL (nI 1) S K Qt O1 O2 En Ot Wt) 0 := by
  refine aw_met (A := cm_ a) (own := "FamilyShelfModel") (by decide) rfl rfl (Nat.le_of_ble_eq_true rfl) ?_
  intro p9 e s m args below meth c C hr hX hP0
  refine aw_lw (lw' := [some (.ref a), some (.int xka), some (.int ykb), some (.int ykc), none]) rfl ?_
  refine aw_aload_n C dc_M_paths_0 rfl ?_
  refine aw_iload_n C dc_M_paths_1 rfl ?_
  refine kc_i (fun _ h => h) (fun _ h => h) (kc_S (n := 1) C hX xk_true (m_noShelf1 l D _ _ _ _ xka hx) kw_677 kw_675 kw_676 kw_8 (by unfold kd_; decide) ⟨rfl, rfl, by decide, by decide⟩ rfl rfl (Nat.le_of_ble_eq_true rfl) ⟨Nat.zero_le _, Nat.zero_le _⟩ dc_M_paths_2) ?_
  refine aw_if_ne C dc_M_paths_5 (tgt := 22) (by decide) (fun _ => ?_) (fun h9 => absurd h9 (by decide))
  refine aw_iconst C dc_M_paths_22 (v := nI 1) rfl ?_
  refine aw_goto C dc_M_paths_23 (tgt := 27) (by decide) ?_
  refine aw_put C rf_D (fun w h => List.mem_cons_of_mem _ (ly_M w h)) ty_M ty_M_ok nm_M 0 rf_p0 rfl 0 (by decide) (C.1.2.2.2.2 _ (List.mem_cons_of_mem _ kw_636)) (fun _ h => h) rfl (ty := .int) (by decide +kernel) rfl rfl (Nat.le_of_ble_eq_true rfl) (ws' := rf_ a cI cL (nI 1) S K Qt O1 O2 En Ot Wt) rfl dc_M_paths_27 ?_
  refine aw_aload_n C dc_M_paths_30 rfl ?_
  refine aw_get C (fun w h => List.mem_cons_of_mem _ (ly_M w h)) 0 rf_p0 rfl 0 (by decide) (C.1.2.2.2.2 _ (List.mem_cons_of_mem _ kw_636)) (fun _ h => h) rfl dc_M_paths_31 ?_
  refine aw_if_eq C dc_M_paths_34 (tgt := 39) (by decide) (fun h9 => absurd h9 (by decide)) (fun _ => ?_)
  refine aw_iconst C dc_M_paths_37 (v := nI 0) rfl ?_
  exact kc_iret C hr rfl (fun _ h => h) dc_M_paths_38
set_option maxHeartbeats 4000000 in
set_option maxRecDepth 100000 in
theorem r_paths_1 (l : Launch) (D : va_G) (a : Nat) (cI cL cF : ClassId) (t : Int32) (S K Qt : Nat → Int64) (O1 O2 En Ot Wt : Nat → Int32) (ka : Nat) (hka : ka < 10) (xkb : Int32) (hx : xkb < 0 ∨ nI 7 ≤ xkb) (ykc : Int32) : ki_ l my_M_paths (Cond.code my_M_paths bc_M_paths 5 (some .int) :: tw_) ({ frames := 3, cells := 0, slots := 0, locals := 68 }) D (ty_s cI cL cF) (fun _ => True) (cm_ a) [.ref a, .int (nI ka), .int xkb, .int ykc] (rp_ D a cI cL t S K Qt O1 O2 En Ot Wt) (rp_ D a cI cL (nI 1) S K Qt O1 O2 En Ot Wt) 0 := by
  refine aw_met (A := cm_ a) (own := "FamilyShelfModel") (by decide) rfl rfl (Nat.le_of_ble_eq_true rfl) ?_
  intro p9 e s m args below meth c C hr hX hP0
  refine aw_lw (lw' := [some (.ref a), some (.int (nI ka)), some (.int xkb), some (.int ykc), none]) rfl ?_
  refine aw_aload_n C dc_M_paths_0 rfl ?_
  refine aw_iload_n C dc_M_paths_1 rfl ?_
  refine kc_i (fun _ h => h) (fun _ h => h) (kc_S (n := 1) C hX xk_true (m_noShelf0 l D _ _ _ _ ka hka) kw_677 kw_675 kw_676 kw_8 (by unfold kd_; decide) ⟨rfl, rfl, by decide, by decide⟩ rfl rfl (Nat.le_of_ble_eq_true rfl) ⟨Nat.zero_le _, Nat.zero_le _⟩ dc_M_paths_2) ?_
  refine aw_if_ne C dc_M_paths_5 (tgt := 22) (by decide) (fun h9 => absurd (by decide) h9) (fun _ => ?_)
  refine aw_iload_n C dc_M_paths_8 rfl ?_
  refine kc_i (fun _ h => h) (fun _ h => h) (kc_S (n := 1) C hX xk_true (m_noVertex1 l D _ _ _ _ xkb hx) kw_767 kw_765 kw_766 kw_8 (by unfold kd_; decide) ⟨rfl, rfl, by decide, by decide⟩ rfl rfl (Nat.le_of_ble_eq_true rfl) ⟨Nat.zero_le _, Nat.zero_le _⟩ dc_M_paths_9) ?_
  refine aw_if_ne C dc_M_paths_12 (tgt := 22) (by decide) (fun _ => ?_) (fun h9 => absurd h9 (by decide))
  refine aw_iconst C dc_M_paths_22 (v := nI 1) rfl ?_
  refine aw_goto C dc_M_paths_23 (tgt := 27) (by decide) ?_
  refine aw_put C rf_D (fun w h => List.mem_cons_of_mem _ (ly_M w h)) ty_M ty_M_ok nm_M 0 rf_p0 rfl 0 (by decide) (C.1.2.2.2.2 _ (List.mem_cons_of_mem _ kw_636)) (fun _ h => h) rfl (ty := .int) (by decide +kernel) rfl rfl (Nat.le_of_ble_eq_true rfl) (ws' := rf_ a cI cL (nI 1) S K Qt O1 O2 En Ot Wt) rfl dc_M_paths_27 ?_
  refine aw_aload_n C dc_M_paths_30 rfl ?_
  refine aw_get C (fun w h => List.mem_cons_of_mem _ (ly_M w h)) 0 rf_p0 rfl 0 (by decide) (C.1.2.2.2.2 _ (List.mem_cons_of_mem _ kw_636)) (fun _ h => h) rfl dc_M_paths_31 ?_
  refine aw_if_eq C dc_M_paths_34 (tgt := 39) (by decide) (fun h9 => absurd h9 (by decide)) (fun _ => ?_)
  refine aw_iconst C dc_M_paths_37 (v := nI 0) rfl ?_
  exact kc_iret C hr rfl (fun _ h => h) dc_M_paths_38
set_option maxHeartbeats 4000000 in
set_option maxRecDepth 100000 in
theorem r_paths_2 (l : Launch) (D : va_G) (a : Nat) (cI cL cF : ClassId) (t : Int32) (S K Qt : Nat → Int64) (O1 O2 En Ot Wt : Nat → Int32) (ka : Nat) (hka : ka < 10) (kb : Nat) (hkb : kb < 7) (xkc : Int32) (hx : xkc < 0 ∨ nI 7 ≤ xkc) : ki_ l my_M_paths (Cond.code my_M_paths bc_M_paths 5 (some .int) :: tw_) ({ frames := 3, cells := 0, slots := 0, locals := 68 }) D (ty_s cI cL cF) (fun _ => True) (cm_ a) [.ref a, .int (nI ka), .int (nI kb), .int xkc] (rp_ D a cI cL t S K Qt O1 O2 En Ot Wt) (rp_ D a cI cL (nI 1) S K Qt O1 O2 En Ot Wt) 0 := by
  refine aw_met (A := cm_ a) (own := "FamilyShelfModel") (by decide) rfl rfl (Nat.le_of_ble_eq_true rfl) ?_
  intro p9 e s m args below meth c C hr hX hP0
  refine aw_lw (lw' := [some (.ref a), some (.int (nI ka)), some (.int (nI kb)), some (.int xkc), none]) rfl ?_
  refine aw_aload_n C dc_M_paths_0 rfl ?_
  refine aw_iload_n C dc_M_paths_1 rfl ?_
  refine kc_i (fun _ h => h) (fun _ h => h) (kc_S (n := 1) C hX xk_true (m_noShelf0 l D _ _ _ _ ka hka) kw_677 kw_675 kw_676 kw_8 (by unfold kd_; decide) ⟨rfl, rfl, by decide, by decide⟩ rfl rfl (Nat.le_of_ble_eq_true rfl) ⟨Nat.zero_le _, Nat.zero_le _⟩ dc_M_paths_2) ?_
  refine aw_if_ne C dc_M_paths_5 (tgt := 22) (by decide) (fun h9 => absurd (by decide) h9) (fun _ => ?_)
  refine aw_iload_n C dc_M_paths_8 rfl ?_
  refine kc_i (fun _ h => h) (fun _ h => h) (kc_S (n := 1) C hX xk_true (m_noVertex0 l D _ _ _ _ kb hkb) kw_767 kw_765 kw_766 kw_8 (by unfold kd_; decide) ⟨rfl, rfl, by decide, by decide⟩ rfl rfl (Nat.le_of_ble_eq_true rfl) ⟨Nat.zero_le _, Nat.zero_le _⟩ dc_M_paths_9) ?_
  refine aw_if_ne C dc_M_paths_12 (tgt := 22) (by decide) (fun h9 => absurd (by decide) h9) (fun _ => ?_)
  refine aw_iload_n C dc_M_paths_15 rfl ?_
  refine kc_i (fun _ h => h) (fun _ h => h) (kc_S (n := 1) C hX xk_true (m_noVertex1 l D _ _ _ _ xkc hx) kw_767 kw_765 kw_766 kw_8 (by unfold kd_; decide) ⟨rfl, rfl, by decide, by decide⟩ rfl rfl (Nat.le_of_ble_eq_true rfl) ⟨Nat.zero_le _, Nat.zero_le _⟩ dc_M_paths_16) ?_
  refine aw_if_eq C dc_M_paths_19 (tgt := 26) (by decide) (fun h9 => absurd h9 (by decide)) (fun _ => ?_)
  refine aw_iconst C dc_M_paths_22 (v := nI 1) rfl ?_
  refine aw_goto C dc_M_paths_23 (tgt := 27) (by decide) ?_
  refine aw_put C rf_D (fun w h => List.mem_cons_of_mem _ (ly_M w h)) ty_M ty_M_ok nm_M 0 rf_p0 rfl 0 (by decide) (C.1.2.2.2.2 _ (List.mem_cons_of_mem _ kw_636)) (fun _ h => h) rfl (ty := .int) (by decide +kernel) rfl rfl (Nat.le_of_ble_eq_true rfl) (ws' := rf_ a cI cL (nI 1) S K Qt O1 O2 En Ot Wt) rfl dc_M_paths_27 ?_
  refine aw_aload_n C dc_M_paths_30 rfl ?_
  refine aw_get C (fun w h => List.mem_cons_of_mem _ (ly_M w h)) 0 rf_p0 rfl 0 (by decide) (C.1.2.2.2.2 _ (List.mem_cons_of_mem _ kw_636)) (fun _ h => h) rfl dc_M_paths_31 ?_
  refine aw_if_eq C dc_M_paths_34 (tgt := 39) (by decide) (fun h9 => absurd h9 (by decide)) (fun _ => ?_)
  refine aw_iconst C dc_M_paths_37 (v := nI 0) rfl ?_
  exact kc_iret C hr rfl (fun _ h => h) dc_M_paths_38
set_option maxHeartbeats 4000000 in
set_option maxRecDepth 100000 in
theorem r_weight_0 (l : Launch) (D : va_G) (a : Nat) (cI cL cF : ClassId) (t : Int32) (S K Qt : Nat → Int64) (O1 O2 En Ot Wt : Nat → Int32) (xka : Int32) (hx : xka < 0 ∨ nI 12 ≤ xka) (ykb : Int32) : ki_ l my_M_weight (Cond.code my_M_weight bc_M_weight 4 (some .int) :: tw_) ({ frames := 1, cells := 0, slots := 0, locals := 20 }) D (ty_s cI cL cF) (fun _ => True) (cm_ a) [.ref a, .int xka, .int ykb] (rp_ D a cI cL t S K Qt O1 O2 En Ot Wt) (rp_ D a cI cL (nI 1) S K Qt O1 O2 En Ot Wt) 0 := by
  refine aw_met (A := cm_ a) (own := "FamilyShelfModel") (by decide) rfl rfl (Nat.le_of_ble_eq_true rfl) ?_
  intro p9 e s m args below meth c C hr hX hP0
  refine aw_lw (lw' := [some (.ref a), some (.int xka), some (.int ykb), none]) rfl ?_
  refine aw_aload_n C dc_M_weight_0 rfl ?_
  refine aw_iload_n C dc_M_weight_1 rfl ?_
  refine kc_i (fun _ h => h) (fun _ h => h) (kc_S (n := 1) C hX xk_true (m_noElement1 l D _ _ _ _ xka hx) kw_749 kw_747 kw_748 kw_8 (by unfold kd_; decide) ⟨rfl, rfl, by decide, by decide⟩ rfl rfl (Nat.le_of_ble_eq_true rfl) ⟨Nat.zero_le _, Nat.zero_le _⟩ dc_M_weight_2) ?_
  refine aw_if_eq C dc_M_weight_5 (tgt := 12) (by decide) (fun h9 => absurd h9 (by decide)) (fun _ => ?_)
  refine aw_iconst C dc_M_weight_8 (v := nI 1) rfl ?_
  refine aw_goto C dc_M_weight_9 (tgt := 29) (by decide) ?_
  refine aw_put C rf_D (fun w h => List.mem_cons_of_mem _ (ly_M w h)) ty_M ty_M_ok nm_M 0 rf_p0 rfl 0 (by decide) (C.1.2.2.2.2 _ (List.mem_cons_of_mem _ kw_636)) (fun _ h => h) rfl (ty := .int) (by decide +kernel) rfl rfl (Nat.le_of_ble_eq_true rfl) (ws' := rf_ a cI cL (nI 1) S K Qt O1 O2 En Ot Wt) rfl dc_M_weight_29 ?_
  refine aw_aload_n C dc_M_weight_32 rfl ?_
  refine aw_get C (fun w h => List.mem_cons_of_mem _ (ly_M w h)) 0 rf_p0 rfl 0 (by decide) (C.1.2.2.2.2 _ (List.mem_cons_of_mem _ kw_636)) (fun _ h => h) rfl dc_M_weight_33 ?_
  refine aw_if_eq C dc_M_weight_36 (tgt := 41) (by decide) (fun h9 => absurd h9 (by decide)) (fun _ => ?_)
  refine aw_iconst C dc_M_weight_39 (v := nI 0) rfl ?_
  exact kc_iret C hr rfl (fun _ h => h) dc_M_weight_40
set_option maxHeartbeats 4000000 in
set_option maxRecDepth 100000 in
theorem r_weight_1 (l : Launch) (D : va_G) (a : Nat) (cI cL cF : ClassId) (t : Int32) (S K Qt : Nat → Int64) (O1 O2 En Ot Wt : Nat → Int32) (ka : Nat) (hka : ka < 12) (xkb : Int32) (hx : xkb < (-99) ∨ nI 99 < xkb) : ki_ l my_M_weight (Cond.code my_M_weight bc_M_weight 4 (some .int) :: tw_) ({ frames := 1, cells := 0, slots := 0, locals := 20 }) D (ty_s cI cL cF) (fun _ => True) (cm_ a) [.ref a, .int (nI ka), .int xkb] (rp_ D a cI cL t S K Qt O1 O2 En Ot Wt) (rp_ D a cI cL (nI 2) S K Qt O1 O2 En Ot Wt) 0 := by
  refine aw_met (A := cm_ a) (own := "FamilyShelfModel") (by decide) rfl rfl (Nat.le_of_ble_eq_true rfl) ?_
  intro p9 e s m args below meth c C hr hX hP0
  refine aw_lw (lw' := [some (.ref a), some (.int (nI ka)), some (.int xkb), none]) rfl ?_
  refine aw_aload_n C dc_M_weight_0 rfl ?_
  refine aw_iload_n C dc_M_weight_1 rfl ?_
  refine kc_i (fun _ h => h) (fun _ h => h) (kc_S (n := 1) C hX xk_true (m_noElement0 l D _ _ _ _ ka hka) kw_749 kw_747 kw_748 kw_8 (by unfold kd_; decide) ⟨rfl, rfl, by decide, by decide⟩ rfl rfl (Nat.le_of_ble_eq_true rfl) ⟨Nat.zero_le _, Nat.zero_le _⟩ dc_M_weight_2) ?_
  refine aw_if_eq C dc_M_weight_5 (tgt := 12) (by decide) (fun _ => ?_) (fun h9 => absurd (by decide) h9)
  refine aw_iload_n C dc_M_weight_12 rfl ?_
  refine aw_bipush C dc_M_weight_13 (v := (-99)) rfl ?_
  refine aw_icmp_lt C dc_M_weight_15 (tgt := 24) (by decide) (fun hB15 => ?_) (fun hB15 => ?_)
  · refine aw_iconst C dc_M_weight_24 (v := nI 2) rfl ?_
    refine aw_goto C dc_M_weight_25 (tgt := 29) (by decide) ?_
    refine aw_put C rf_D (fun w h => List.mem_cons_of_mem _ (ly_M w h)) ty_M ty_M_ok nm_M 0 rf_p0 rfl 0 (by decide) (C.1.2.2.2.2 _ (List.mem_cons_of_mem _ kw_636)) (fun _ h => h) rfl (ty := .int) (by decide +kernel) rfl rfl (Nat.le_of_ble_eq_true rfl) (ws' := rf_ a cI cL (nI 2) S K Qt O1 O2 En Ot Wt) rfl dc_M_weight_29 ?_
    refine aw_aload_n C dc_M_weight_32 rfl ?_
    refine aw_get C (fun w h => List.mem_cons_of_mem _ (ly_M w h)) 0 rf_p0 rfl 0 (by decide) (C.1.2.2.2.2 _ (List.mem_cons_of_mem _ kw_636)) (fun _ h => h) rfl dc_M_weight_33 ?_
    refine aw_if_eq C dc_M_weight_36 (tgt := 41) (by decide) (fun h9 => absurd h9 (by decide)) (fun _ => ?_)
    refine aw_iconst C dc_M_weight_39 (v := nI 0) rfl ?_
    exact kc_iret C hr rfl (fun _ h => h) dc_M_weight_40
  · refine aw_iload_n C dc_M_weight_18 rfl ?_
    refine aw_bipush C dc_M_weight_19 (v := nI 99) rfl ?_
    refine aw_icmp_le C dc_M_weight_21 (tgt := 28) (by decide) (fun h9 => absurd h9 (fun h9 => hx.elim hB15 (fun h8 => absurd h9 (Int32.not_le.mpr h8)))) (fun _ => ?_)
    refine aw_iconst C dc_M_weight_24 (v := nI 2) rfl ?_
    refine aw_goto C dc_M_weight_25 (tgt := 29) (by decide) ?_
    refine aw_put C rf_D (fun w h => List.mem_cons_of_mem _ (ly_M w h)) ty_M ty_M_ok nm_M 0 rf_p0 rfl 0 (by decide) (C.1.2.2.2.2 _ (List.mem_cons_of_mem _ kw_636)) (fun _ h => h) rfl (ty := .int) (by decide +kernel) rfl rfl (Nat.le_of_ble_eq_true rfl) (ws' := rf_ a cI cL (nI 2) S K Qt O1 O2 En Ot Wt) rfl dc_M_weight_29 ?_
    refine aw_aload_n C dc_M_weight_32 rfl ?_
    refine aw_get C (fun w h => List.mem_cons_of_mem _ (ly_M w h)) 0 rf_p0 rfl 0 (by decide) (C.1.2.2.2.2 _ (List.mem_cons_of_mem _ kw_636)) (fun _ h => h) rfl dc_M_weight_33 ?_
    refine aw_if_eq C dc_M_weight_36 (tgt := 41) (by decide) (fun h9 => absurd h9 (by decide)) (fun _ => ?_)
    refine aw_iconst C dc_M_weight_39 (v := nI 0) rfl ?_
    exact kc_iret C hr rfl (fun _ h => h) dc_M_weight_40
set_option maxHeartbeats 4000000 in
set_option maxRecDepth 100000 in
theorem r_edge_3 (l : Launch) (D : va_G) (a : Nat) (cI cL cF : ClassId) (t : Int32) (S K Qt : Nat → Int64) (O1 O2 En Ot Wt : Nat → Int32) (e9 : Nat) (he : e9 < 12) (u : Nat) (hu : u < 7) : kv_ l my_M_edge (Cond.code my_M_edge bc_M_edge 4 none :: tw_) ({ frames := 1, cells := 0, slots := 0, locals := 20 }) D (ty_s cI cL cF) (fun _ => True) (cm_ a) [.ref a, .int (nI e9), .int (nI u), .int (nI u)] (rp_ D a cI cL t S K Qt O1 O2 En Ot Wt) (rp_ D a cI cL (nI 2) S K Qt O1 O2 En Ot Wt) := by
  refine aw_met (A := cm_ a) (own := "FamilyShelfModel") (by decide) rfl rfl (Nat.le_of_ble_eq_true rfl) ?_
  intro p9 e s m args below meth c C hr hX hP0
  refine aw_lw (lw' := [some (.ref a), some (.int (nI e9)), some (.int (nI u)), some (.int (nI u))]) rfl ?_
  refine aw_aload_n C dc_M_edge_0 rfl ?_
  refine aw_iload_n C dc_M_edge_1 rfl ?_
  refine kc_i (fun _ h => h) (fun _ h => h) (kc_S (n := 1) C hX xk_true (m_noElement0 l D _ _ _ _ e9 he) kw_749 kw_747 kw_748 kw_8 (by unfold kd_; decide) ⟨rfl, rfl, by decide, by decide⟩ rfl rfl (Nat.le_of_ble_eq_true rfl) ⟨Nat.zero_le _, Nat.zero_le _⟩ dc_M_edge_2) ?_
  refine aw_if_ne C dc_M_edge_5 (tgt := 22) (by decide) (fun h9 => absurd (by decide) h9) (fun _ => ?_)
  refine aw_iload_n C dc_M_edge_8 rfl ?_
  refine kc_i (fun _ h => h) (fun _ h => h) (kc_S (n := 1) C hX xk_true (m_noVertex0 l D _ _ _ _ u hu) kw_767 kw_765 kw_766 kw_8 (by unfold kd_; decide) ⟨rfl, rfl, by decide, by decide⟩ rfl rfl (Nat.le_of_ble_eq_true rfl) ⟨Nat.zero_le _, Nat.zero_le _⟩ dc_M_edge_9) ?_
  refine aw_if_ne C dc_M_edge_12 (tgt := 22) (by decide) (fun h9 => absurd (by decide) h9) (fun _ => ?_)
  refine aw_iload_n C dc_M_edge_15 rfl ?_
  refine kc_i (fun _ h => h) (fun _ h => h) (kc_S (n := 1) C hX xk_true (m_noVertex0 l D _ _ _ _ u hu) kw_767 kw_765 kw_766 kw_8 (by unfold kd_; decide) ⟨rfl, rfl, by decide, by decide⟩ rfl rfl (Nat.le_of_ble_eq_true rfl) ⟨Nat.zero_le _, Nat.zero_le _⟩ dc_M_edge_16) ?_
  refine aw_if_eq C dc_M_edge_19 (tgt := 26) (by decide) (fun _ => ?_) (fun h9 => absurd (by decide) h9)
  refine aw_iload_n C dc_M_edge_26 rfl ?_
  refine aw_iload_n C dc_M_edge_27 rfl ?_
  refine aw_icmp_ne C dc_M_edge_28 (tgt := 35) (by decide) (fun h9 => absurd (rfl) h9) (fun _ => ?_)
  refine aw_iconst C dc_M_edge_31 (v := nI 2) rfl ?_
  refine aw_goto C dc_M_edge_32 (tgt := 36) (by decide) ?_
  refine aw_put C rf_D (fun w h => List.mem_cons_of_mem _ (ly_M w h)) ty_M ty_M_ok nm_M 0 rf_p0 rfl 0 (by decide) (C.1.2.2.2.2 _ (List.mem_cons_of_mem _ kw_636)) (fun _ h => h) rfl (ty := .int) (by decide +kernel) rfl rfl (Nat.le_of_ble_eq_true rfl) (ws' := rf_ a cI cL (nI 2) S K Qt O1 O2 En Ot Wt) rfl dc_M_edge_36 ?_
  refine aw_aload_n C dc_M_edge_39 rfl ?_
  refine aw_get C (fun w h => List.mem_cons_of_mem _ (ly_M w h)) 0 rf_p0 rfl 0 (by decide) (C.1.2.2.2.2 _ (List.mem_cons_of_mem _ kw_636)) (fun _ h => h) rfl dc_M_edge_40 ?_
  refine aw_if_eq C dc_M_edge_43 (tgt := 47) (by decide) (fun h9 => absurd h9 (by decide)) (fun _ => ?_)
  exact kc_vret C hr (fun _ h => h) dc_M_edge_46
set_option maxHeartbeats 4000000 in
set_option maxRecDepth 100000 in
theorem r_combine_d7 (l : Launch) (D : va_G) (a : Nat) (cI cL cF : ClassId) (t : Int32) (S K Qt : Nat → Int64) (O1 O2 En Ot Wt : Nat → Int32) (i : Nat) (hi : i < 10) (f9 : Nat) (hf : f9 < 10) (g9 : Nat) (hg : g9 < 10) (hz : tw64_ (rw_ S g9) 64 = 0) : ki_ l my_M_combine (Cond.code my_M_combine bc_M_combine 10 (some .int) :: tw_) ({ frames := 3, cells := 0, slots := 0, locals := 75 }) D (ty_s cI cL cF) (fun _ => True) (cm_ a) [.ref a, .int (nI i), .int (nI 7), .int (nI f9), .int (nI g9)] (rp_ D a cI cL t S K Qt O1 O2 En Ot Wt) (rp_ D a cI cL (nI 3) S K Qt O1 O2 En Ot Wt) 0 := by
  refine aw_met (A := cm_ a) (own := "FamilyShelfModel") (by decide) rfl rfl (Nat.le_of_ble_eq_true rfl) ?_
  intro p9 e s m args below meth c C hr hX hP0
  refine aw_lw (lw' := [some (.ref a), some (.int (nI i)), some (.int (nI 7)), some (.int (nI f9)), some (.int (nI g9)), none, none, none, none, none]) rfl ?_
  refine aw_aload_n C dc_M_combine_0 rfl ?_
  refine aw_iload_n C dc_M_combine_1 rfl ?_
  refine kc_i (fun _ h => h) (fun _ h => h) (kc_S (n := 1) C hX xk_true (m_noShelf0 l D _ _ _ _ i hi) kw_677 kw_675 kw_676 kw_8 (by unfold kd_; decide) ⟨rfl, rfl, by decide, by decide⟩ rfl rfl (Nat.le_of_ble_eq_true rfl) ⟨Nat.zero_le _, Nat.zero_le _⟩ dc_M_combine_2) ?_
  refine aw_if_ne C dc_M_combine_5 (tgt := 23) (by decide) (fun h9 => absurd (by decide) h9) (fun _ => ?_)
  refine aw_iload_n C dc_M_combine_8 rfl ?_
  refine kc_i (fun _ h => h) (fun _ h => h) (kc_S (n := 1) C hX xk_true (m_noShelf0 l D _ _ _ _ f9 hf) kw_677 kw_675 kw_676 kw_8 (by unfold kd_; decide) ⟨rfl, rfl, by decide, by decide⟩ rfl rfl (Nat.le_of_ble_eq_true rfl) ⟨Nat.zero_le _, Nat.zero_le _⟩ dc_M_combine_9) ?_
  refine aw_if_ne C dc_M_combine_12 (tgt := 23) (by decide) (fun h9 => absurd (by decide) h9) (fun _ => ?_)
  refine aw_iload C dc_M_combine_15 rfl ?_
  refine kc_i (fun _ h => h) (fun _ h => h) (kc_S (n := 1) C hX xk_true (m_noShelf0 l D _ _ _ _ g9 hg) kw_677 kw_675 kw_676 kw_8 (by unfold kd_; decide) ⟨rfl, rfl, by decide, by decide⟩ rfl rfl (Nat.le_of_ble_eq_true rfl) ⟨Nat.zero_le _, Nat.zero_le _⟩ dc_M_combine_17) ?_
  refine aw_if_eq C dc_M_combine_20 (tgt := 27) (by decide) (fun _ => ?_) (fun h9 => absurd (by decide) h9)
  refine aw_iload_n C dc_M_combine_27 rfl ?_
  refine aw_if_lt C dc_M_combine_28 (tgt := 37) (by decide) (fun h9 => absurd h9 (by decide)) (fun _ => ?_)
  refine aw_iload_n C dc_M_combine_31 rfl ?_
  refine aw_bipush C dc_M_combine_32 (v := nI 8) rfl ?_
  refine aw_icmp_le C dc_M_combine_34 (tgt := 41) (by decide) (fun _ => ?_) (fun h9 => absurd (by decide) h9)
  refine aw_iload_n C dc_M_combine_41 rfl ?_
  refine aw_bipush C dc_M_combine_42 (v := nI 6) rfl ?_
  refine aw_icmp_le C dc_M_combine_44 (tgt := 60) (by decide) (fun h9 => absurd h9 (by decide)) (fun _ => ?_)
  refine aw_aload_n C dc_M_combine_47 rfl ?_
  refine aw_iload C dc_M_combine_48 rfl ?_
  refine kc_i (fun _ h => h) (fun _ h => h) (kc_V (n := 1) C hX xk_true rfl 0 rf_p0 rfl (m_countOf l D a cI cL cF t S K Qt O1 O2 En Ot Wt g9 hg) kw_697 kw_694 kw_696 (tw_sel (q := (my_M_countOf, 9)) (by decide +kernel)) kw_8 rfl (by unfold kd_; decide) ⟨rfl, rfl, by decide, by decide⟩ rfl rfl (Nat.le_of_ble_eq_true rfl) ⟨Nat.zero_le _, Nat.zero_le _⟩ dc_M_combine_50) ?_
  refine aw_if_ne C dc_M_combine_53 (tgt := 60) (by decide) (fun h9 => absurd (by rw [hz]; rfl) h9) (fun _ => ?_)
  refine aw_iconst C dc_M_combine_56 (v := nI 3) rfl ?_
  refine aw_goto C dc_M_combine_57 (tgt := 61) (by decide) ?_
  refine aw_put C rf_D (fun w h => List.mem_cons_of_mem _ (ly_M w h)) ty_M ty_M_ok nm_M 0 rf_p0 rfl 0 (by decide) (C.1.2.2.2.2 _ (List.mem_cons_of_mem _ kw_636)) (fun _ h => h) rfl (ty := .int) (by decide +kernel) rfl rfl (Nat.le_of_ble_eq_true rfl) (ws' := rf_ a cI cL (nI 3) S K Qt O1 O2 En Ot Wt) rfl dc_M_combine_61 ?_
  refine aw_aload_n C dc_M_combine_64 rfl ?_
  refine aw_get C (fun w h => List.mem_cons_of_mem _ (ly_M w h)) 0 rf_p0 rfl 0 (by decide) (C.1.2.2.2.2 _ (List.mem_cons_of_mem _ kw_636)) (fun _ h => h) rfl dc_M_combine_65 ?_
  refine aw_if_eq C dc_M_combine_68 (tgt := 73) (by decide) (fun h9 => absurd h9 (by decide)) (fun _ => ?_)
  refine aw_iconst C dc_M_combine_71 (v := nI 0) rfl ?_
  exact kc_iret C hr rfl (fun _ h => h) dc_M_combine_72
set_option maxHeartbeats 4000000 in
set_option maxRecDepth 100000 in
theorem r_combine_d8 (l : Launch) (D : va_G) (a : Nat) (cI cL cF : ClassId) (t : Int32) (S K Qt : Nat → Int64) (O1 O2 En Ot Wt : Nat → Int32) (i : Nat) (hi : i < 10) (f9 : Nat) (hf : f9 < 10) (g9 : Nat) (hg : g9 < 10) (hz : tw64_ (rw_ S g9) 64 = 0) : ki_ l my_M_combine (Cond.code my_M_combine bc_M_combine 10 (some .int) :: tw_) ({ frames := 3, cells := 0, slots := 0, locals := 75 }) D (ty_s cI cL cF) (fun _ => True) (cm_ a) [.ref a, .int (nI i), .int (nI 8), .int (nI f9), .int (nI g9)] (rp_ D a cI cL t S K Qt O1 O2 En Ot Wt) (rp_ D a cI cL (nI 3) S K Qt O1 O2 En Ot Wt) 0 := by
  refine aw_met (A := cm_ a) (own := "FamilyShelfModel") (by decide) rfl rfl (Nat.le_of_ble_eq_true rfl) ?_
  intro p9 e s m args below meth c C hr hX hP0
  refine aw_lw (lw' := [some (.ref a), some (.int (nI i)), some (.int (nI 8)), some (.int (nI f9)), some (.int (nI g9)), none, none, none, none, none]) rfl ?_
  refine aw_aload_n C dc_M_combine_0 rfl ?_
  refine aw_iload_n C dc_M_combine_1 rfl ?_
  refine kc_i (fun _ h => h) (fun _ h => h) (kc_S (n := 1) C hX xk_true (m_noShelf0 l D _ _ _ _ i hi) kw_677 kw_675 kw_676 kw_8 (by unfold kd_; decide) ⟨rfl, rfl, by decide, by decide⟩ rfl rfl (Nat.le_of_ble_eq_true rfl) ⟨Nat.zero_le _, Nat.zero_le _⟩ dc_M_combine_2) ?_
  refine aw_if_ne C dc_M_combine_5 (tgt := 23) (by decide) (fun h9 => absurd (by decide) h9) (fun _ => ?_)
  refine aw_iload_n C dc_M_combine_8 rfl ?_
  refine kc_i (fun _ h => h) (fun _ h => h) (kc_S (n := 1) C hX xk_true (m_noShelf0 l D _ _ _ _ f9 hf) kw_677 kw_675 kw_676 kw_8 (by unfold kd_; decide) ⟨rfl, rfl, by decide, by decide⟩ rfl rfl (Nat.le_of_ble_eq_true rfl) ⟨Nat.zero_le _, Nat.zero_le _⟩ dc_M_combine_9) ?_
  refine aw_if_ne C dc_M_combine_12 (tgt := 23) (by decide) (fun h9 => absurd (by decide) h9) (fun _ => ?_)
  refine aw_iload C dc_M_combine_15 rfl ?_
  refine kc_i (fun _ h => h) (fun _ h => h) (kc_S (n := 1) C hX xk_true (m_noShelf0 l D _ _ _ _ g9 hg) kw_677 kw_675 kw_676 kw_8 (by unfold kd_; decide) ⟨rfl, rfl, by decide, by decide⟩ rfl rfl (Nat.le_of_ble_eq_true rfl) ⟨Nat.zero_le _, Nat.zero_le _⟩ dc_M_combine_17) ?_
  refine aw_if_eq C dc_M_combine_20 (tgt := 27) (by decide) (fun _ => ?_) (fun h9 => absurd (by decide) h9)
  refine aw_iload_n C dc_M_combine_27 rfl ?_
  refine aw_if_lt C dc_M_combine_28 (tgt := 37) (by decide) (fun h9 => absurd h9 (by decide)) (fun _ => ?_)
  refine aw_iload_n C dc_M_combine_31 rfl ?_
  refine aw_bipush C dc_M_combine_32 (v := nI 8) rfl ?_
  refine aw_icmp_le C dc_M_combine_34 (tgt := 41) (by decide) (fun _ => ?_) (fun h9 => absurd (by decide) h9)
  refine aw_iload_n C dc_M_combine_41 rfl ?_
  refine aw_bipush C dc_M_combine_42 (v := nI 6) rfl ?_
  refine aw_icmp_le C dc_M_combine_44 (tgt := 60) (by decide) (fun h9 => absurd h9 (by decide)) (fun _ => ?_)
  refine aw_aload_n C dc_M_combine_47 rfl ?_
  refine aw_iload C dc_M_combine_48 rfl ?_
  refine kc_i (fun _ h => h) (fun _ h => h) (kc_V (n := 1) C hX xk_true rfl 0 rf_p0 rfl (m_countOf l D a cI cL cF t S K Qt O1 O2 En Ot Wt g9 hg) kw_697 kw_694 kw_696 (tw_sel (q := (my_M_countOf, 9)) (by decide +kernel)) kw_8 rfl (by unfold kd_; decide) ⟨rfl, rfl, by decide, by decide⟩ rfl rfl (Nat.le_of_ble_eq_true rfl) ⟨Nat.zero_le _, Nat.zero_le _⟩ dc_M_combine_50) ?_
  refine aw_if_ne C dc_M_combine_53 (tgt := 60) (by decide) (fun h9 => absurd (by rw [hz]; rfl) h9) (fun _ => ?_)
  refine aw_iconst C dc_M_combine_56 (v := nI 3) rfl ?_
  refine aw_goto C dc_M_combine_57 (tgt := 61) (by decide) ?_
  refine aw_put C rf_D (fun w h => List.mem_cons_of_mem _ (ly_M w h)) ty_M ty_M_ok nm_M 0 rf_p0 rfl 0 (by decide) (C.1.2.2.2.2 _ (List.mem_cons_of_mem _ kw_636)) (fun _ h => h) rfl (ty := .int) (by decide +kernel) rfl rfl (Nat.le_of_ble_eq_true rfl) (ws' := rf_ a cI cL (nI 3) S K Qt O1 O2 En Ot Wt) rfl dc_M_combine_61 ?_
  refine aw_aload_n C dc_M_combine_64 rfl ?_
  refine aw_get C (fun w h => List.mem_cons_of_mem _ (ly_M w h)) 0 rf_p0 rfl 0 (by decide) (C.1.2.2.2.2 _ (List.mem_cons_of_mem _ kw_636)) (fun _ h => h) rfl dc_M_combine_65 ?_
  refine aw_if_eq C dc_M_combine_68 (tgt := 73) (by decide) (fun h9 => absurd h9 (by decide)) (fun _ => ?_)
  refine aw_iconst C dc_M_combine_71 (v := nI 0) rfl ?_
  exact kc_iret C hr rfl (fun _ h => h) dc_M_combine_72
