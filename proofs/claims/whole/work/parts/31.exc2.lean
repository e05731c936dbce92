set_option maxHeartbeats 4000000 in
set_option maxRecDepth 100000 in
theorem t_put_0 (l : Launch) (hl : l.stackTraces = false) (D : va_G) (h th : Nat) (cI cL cF : ClassId) (I : Nat → Nat → Int32) (J : Nat → Nat → Int64) (sh : Nat → Nat) (fr : Nat) (en : Int32) (xka : Int32) (hx : xka < 0 ∨ nI 10 ≤ xka) (ykb : Int32) : kt_ l my_S_put (Cond.code my_S_put bc_S_put 5 (some .boolean) :: tw_) { frames := 40, cells := 1, slots := 6, locals := 2000 } D (ty_s cI cL cF) (xp_ h th) (ca_ h) (ni_ (ca_ h)) [.ref h, .int xka, .int ykb] (kp_ D h cI cL cF I J sh fr en) (kp_ D h cI cL cF I J sh fr en) "java/lang/IndexOutOfBoundsException" := by
  refine aw_metX (A := ca_ h) (own := "FamilyShelf") (by decide) rfl rfl (Nat.le_of_ble_eq_true rfl) ?_
  intro p9 e s m args below meth c C hr hno hX hP0
  refine aw_lw (lw' := [some (.ref h), some (.int xka), some (.int ykb), none, none]) rfl ?_
  refine aw_iload_n C dc_S_put_0 rfl ?_
  exact kx_S (n := 1) C hX.2 (xe_k ca_le) hno (t_checkShelf l hl D (ty_s cI cL cF) h (ca_ h) ca_le _ xka hx) kw_146 kw_144 kw_145 kw_1 (by unfold kd_; decide) ⟨rfl, rfl, by decide, by decide⟩ rfl rfl (Nat.le_of_ble_eq_true rfl) (by decide) (by decide) (fun _ h => h) dc_S_put_1
set_option maxHeartbeats 4000000 in
set_option maxRecDepth 100000 in
theorem t_put_1 (l : Launch) (hl : l.stackTraces = false) (D : va_G) (h th : Nat) (cI cL cF : ClassId) (I : Nat → Nat → Int32) (J : Nat → Nat → Int64) (sh : Nat → Nat) (fr : Nat) (en : Int32) (ka : Nat) (hka : ka < 10) (xkb : Int32) (hx : xkb < nI 0 ∨ nI 4095 < xkb) : kt_ l my_S_put (Cond.code my_S_put bc_S_put 5 (some .boolean) :: tw_) { frames := 40, cells := 1, slots := 6, locals := 2000 } D (ty_s cI cL cF) (xp_ h th) (ca_ h) (ni_ (ca_ h)) [.ref h, .int (nI ka), .int xkb] (kp_ D h cI cL cF I J sh fr en) (kp_ D h cI cL cF I J sh fr en) "java/lang/IllegalArgumentException" := by
  refine aw_metX (A := ca_ h) (own := "FamilyShelf") (by decide) rfl rfl (Nat.le_of_ble_eq_true rfl) ?_
  intro p9 e s m args below meth c C hr hno hX hP0
  refine aw_lw (lw' := [some (.ref h), some (.int (nI ka)), some (.int xkb), none, none]) rfl ?_
  refine aw_iload_n C dc_S_put_0 rfl ?_
  refine kc_v (fun _ h => h) (fun _ h => h) (kc_S (n := 1) C hX.1 (xw_k ca_le) (s_checkShelf l D _ _ _ _ ka hka) kw_146 kw_144 kw_145 kw_1 (by unfold kd_; decide) ⟨rfl, rfl, by decide, by decide⟩ rfl rfl (Nat.le_of_ble_eq_true rfl) ⟨Nat.zero_le _, Nat.zero_le _⟩ dc_S_put_1) ?_
  refine aw_iload_n C dc_S_put_4 rfl ?_
  exact kx_S (n := 1) C hX.2 (xe_k ca_le) hno (t_checkSet l hl D (ty_s cI cL cF) h (ca_ h) ca_le _ xkb hx) kw_218 kw_216 kw_217 kw_1 (by unfold kd_; decide) ⟨rfl, rfl, by decide, by decide⟩ rfl rfl (Nat.le_of_ble_eq_true rfl) (by decide) (by decide) (fun _ h => h) dc_S_put_5
set_option maxHeartbeats 4000000 in
set_option maxRecDepth 100000 in
theorem t_take_0 (l : Launch) (hl : l.stackTraces = false) (D : va_G) (h th : Nat) (cI cL cF : ClassId) (I : Nat → Nat → Int32) (J : Nat → Nat → Int64) (sh : Nat → Nat) (fr : Nat) (en : Int32) (xka : Int32) (hx : xka < 0 ∨ nI 10 ≤ xka) (ykb : Int32) : kt_ l my_S_take (Cond.code my_S_take bc_S_take 5 (some .boolean) :: tw_) { frames := 40, cells := 1, slots := 6, locals := 2000 } D (ty_s cI cL cF) (xp_ h th) (ca_ h) (ni_ (ca_ h)) [.ref h, .int xka, .int ykb] (kp_ D h cI cL cF I J sh fr en) (kp_ D h cI cL cF I J sh fr en) "java/lang/IndexOutOfBoundsException" := by
  refine aw_metX (A := ca_ h) (own := "FamilyShelf") (by decide) rfl rfl (Nat.le_of_ble_eq_true rfl) ?_
  intro p9 e s m args below meth c C hr hno hX hP0
  refine aw_lw (lw' := [some (.ref h), some (.int xka), some (.int ykb), none, none]) rfl ?_
  refine aw_iload_n C dc_S_take_0 rfl ?_
  exact kx_S (n := 1) C hX.2 (xe_k ca_le) hno (t_checkShelf l hl D (ty_s cI cL cF) h (ca_ h) ca_le _ xka hx) kw_146 kw_144 kw_145 kw_1 (by unfold kd_; decide) ⟨rfl, rfl, by decide, by decide⟩ rfl rfl (Nat.le_of_ble_eq_true rfl) (by decide) (by decide) (fun _ h => h) dc_S_take_1
set_option maxHeartbeats 4000000 in
set_option maxRecDepth 100000 in
theorem t_take_1 (l : Launch) (hl : l.stackTraces = false) (D : va_G) (h th : Nat) (cI cL cF : ClassId) (I : Nat → Nat → Int32) (J : Nat → Nat → Int64) (sh : Nat → Nat) (fr : Nat) (en : Int32) (ka : Nat) (hka : ka < 10) (xkb : Int32) (hx : xkb < nI 0 ∨ nI 4095 < xkb) : kt_ l my_S_take (Cond.code my_S_take bc_S_take 5 (some .boolean) :: tw_) { frames := 40, cells := 1, slots := 6, locals := 2000 } D (ty_s cI cL cF) (xp_ h th) (ca_ h) (ni_ (ca_ h)) [.ref h, .int (nI ka), .int xkb] (kp_ D h cI cL cF I J sh fr en) (kp_ D h cI cL cF I J sh fr en) "java/lang/IllegalArgumentException" := by
  refine aw_metX (A := ca_ h) (own := "FamilyShelf") (by decide) rfl rfl (Nat.le_of_ble_eq_true rfl) ?_
  intro p9 e s m args below meth c C hr hno hX hP0
  refine aw_lw (lw' := [some (.ref h), some (.int (nI ka)), some (.int xkb), none, none]) rfl ?_
  refine aw_iload_n C dc_S_take_0 rfl ?_
  refine kc_v (fun _ h => h) (fun _ h => h) (kc_S (n := 1) C hX.1 (xw_k ca_le) (s_checkShelf l D _ _ _ _ ka hka) kw_146 kw_144 kw_145 kw_1 (by unfold kd_; decide) ⟨rfl, rfl, by decide, by decide⟩ rfl rfl (Nat.le_of_ble_eq_true rfl) ⟨Nat.zero_le _, Nat.zero_le _⟩ dc_S_take_1) ?_
  refine aw_iload_n C dc_S_take_4 rfl ?_
  exact kx_S (n := 1) C hX.2 (xe_k ca_le) hno (t_checkSet l hl D (ty_s cI cL cF) h (ca_ h) ca_le _ xkb hx) kw_218 kw_216 kw_217 kw_1 (by unfold kd_; decide) ⟨rfl, rfl, by decide, by decide⟩ rfl rfl (Nat.le_of_ble_eq_true rfl) (by decide) (by decide) (fun _ h => h) dc_S_take_5
set_option maxHeartbeats 4000000 in
set_option maxRecDepth 100000 in
theorem t_has_0 (l : Launch) (hl : l.stackTraces = false) (D : va_G) (h th : Nat) (cI cL cF : ClassId) (I : Nat → Nat → Int32) (J : Nat → Nat → Int64) (sh : Nat → Nat) (fr : Nat) (en : Int32) (xka : Int32) (hx : xka < 0 ∨ nI 10 ≤ xka) (ykb : Int32) : kt_ l my_S_has (Cond.code my_S_has bc_S_has 3 (some .boolean) :: tw_) { frames := 40, cells := 1, slots := 6, locals := 2000 } D (ty_s cI cL cF) (xp_ h th) (ca_ h) (ni_ (ca_ h)) [.ref h, .int xka, .int ykb] (kp_ D h cI cL cF I J sh fr en) (kp_ D h cI cL cF I J sh fr en) "java/lang/IndexOutOfBoundsException" := by
  refine aw_metX (A := ca_ h) (own := "FamilyShelf") (by decide) rfl rfl (Nat.le_of_ble_eq_true rfl) ?_
  intro p9 e s m args below meth c C hr hno hX hP0
  refine aw_lw (lw' := [some (.ref h), some (.int xka), some (.int ykb)]) rfl ?_
  refine aw_iload_n C dc_S_has_0 rfl ?_
  exact kx_S (n := 1) C hX.2 (xe_k ca_le) hno (t_checkShelf l hl D (ty_s cI cL cF) h (ca_ h) ca_le _ xka hx) kw_146 kw_144 kw_145 kw_1 (by unfold kd_; decide) ⟨rfl, rfl, by decide, by decide⟩ rfl rfl (Nat.le_of_ble_eq_true rfl) (by decide) (by decide) (fun _ h => h) dc_S_has_1
set_option maxHeartbeats 4000000 in
set_option maxRecDepth 100000 in
theorem t_has_1 (l : Launch) (hl : l.stackTraces = false) (D : va_G) (h th : Nat) (cI cL cF : ClassId) (I : Nat → Nat → Int32) (J : Nat → Nat → Int64) (sh : Nat → Nat) (fr : Nat) (en : Int32) (ka : Nat) (hka : ka < 10) (xkb : Int32) (hx : xkb < nI 0 ∨ nI 4095 < xkb) : kt_ l my_S_has (Cond.code my_S_has bc_S_has 3 (some .boolean) :: tw_) { frames := 40, cells := 1, slots := 6, locals := 2000 } D (ty_s cI cL cF) (xp_ h th) (ca_ h) (ni_ (ca_ h)) [.ref h, .int (nI ka), .int xkb] (kp_ D h cI cL cF I J sh fr en) (kp_ D h cI cL cF I J sh fr en) "java/lang/IllegalArgumentException" := by
  refine aw_metX (A := ca_ h) (own := "FamilyShelf") (by decide) rfl rfl (Nat.le_of_ble_eq_true rfl) ?_
  intro p9 e s m args below meth c C hr hno hX hP0
  refine aw_lw (lw' := [some (.ref h), some (.int (nI ka)), some (.int xkb)]) rfl ?_
  refine aw_iload_n C dc_S_has_0 rfl ?_
  refine kc_v (fun _ h => h) (fun _ h => h) (kc_S (n := 1) C hX.1 (xw_k ca_le) (s_checkShelf l D _ _ _ _ ka hka) kw_146 kw_144 kw_145 kw_1 (by unfold kd_; decide) ⟨rfl, rfl, by decide, by decide⟩ rfl rfl (Nat.le_of_ble_eq_true rfl) ⟨Nat.zero_le _, Nat.zero_le _⟩ dc_S_has_1) ?_
  refine aw_iload_n C dc_S_has_4 rfl ?_
  exact kx_S (n := 1) C hX.2 (xe_k ca_le) hno (t_checkSet l hl D (ty_s cI cL cF) h (ca_ h) ca_le _ xkb hx) kw_218 kw_216 kw_217 kw_1 (by unfold kd_; decide) ⟨rfl, rfl, by decide, by decide⟩ rfl rfl (Nat.le_of_ble_eq_true rfl) (by decide) (by decide) (fun _ h => h) dc_S_has_5
set_option maxHeartbeats 4000000 in
set_option maxRecDepth 100000 in
theorem t_rank_0 (l : Launch) (hl : l.stackTraces = false) (D : va_G) (h th : Nat) (cI cL cF : ClassId) (I : Nat → Nat → Int32) (J : Nat → Nat → Int64) (sh : Nat → Nat) (fr : Nat) (en : Int32) (xka : Int32) (hx : xka < 0 ∨ nI 10 ≤ xka) (ykb : Int32) : kt_ l my_S_rank (Cond.code my_S_rank bc_S_rank 3 (some .int) :: tw_) { frames := 40, cells := 1, slots := 6, locals := 2000 } D (ty_s cI cL cF) (xp_ h th) (ca_ h) (ni_ (ca_ h)) [.ref h, .int xka, .int ykb] (kp_ D h cI cL cF I J sh fr en) (kp_ D h cI cL cF I J sh fr en) "java/lang/IndexOutOfBoundsException" := by
  refine aw_metX (A := ca_ h) (own := "FamilyShelf") (by decide) rfl rfl (Nat.le_of_ble_eq_true rfl) ?_
  intro p9 e s m args below meth c C hr hno hX hP0
  refine aw_lw (lw' := [some (.ref h), some (.int xka), some (.int ykb)]) rfl ?_
  refine aw_iload_n C dc_S_rank_0 rfl ?_
  exact kx_S (n := 1) C hX.2 (xe_k ca_le) hno (t_checkShelf l hl D (ty_s cI cL cF) h (ca_ h) ca_le _ xka hx) kw_146 kw_144 kw_145 kw_1 (by unfold kd_; decide) ⟨rfl, rfl, by decide, by decide⟩ rfl rfl (Nat.le_of_ble_eq_true rfl) (by decide) (by decide) (fun _ h => h) dc_S_rank_1
set_option maxHeartbeats 4000000 in
set_option maxRecDepth 100000 in
theorem t_rank_1 (l : Launch) (hl : l.stackTraces = false) (D : va_G) (h th : Nat) (cI cL cF : ClassId) (I : Nat → Nat → Int32) (J : Nat → Nat → Int64) (sh : Nat → Nat) (fr : Nat) (en : Int32) (ka : Nat) (hka : ka < 10) (xkb : Int32) (hx : xkb < nI 0 ∨ nI 4095 < xkb) : kt_ l my_S_rank (Cond.code my_S_rank bc_S_rank 3 (some .int) :: tw_) { frames := 40, cells := 1, slots := 6, locals := 2000 } D (ty_s cI cL cF) (xp_ h th) (ca_ h) (ni_ (ca_ h)) [.ref h, .int (nI ka), .int xkb] (kp_ D h cI cL cF I J sh fr en) (kp_ D h cI cL cF I J sh fr en) "java/lang/IllegalArgumentException" := by
  refine aw_metX (A := ca_ h) (own := "FamilyShelf") (by decide) rfl rfl (Nat.le_of_ble_eq_true rfl) ?_
  intro p9 e s m args below meth c C hr hno hX hP0
  refine aw_lw (lw' := [some (.ref h), some (.int (nI ka)), some (.int xkb)]) rfl ?_
  refine aw_iload_n C dc_S_rank_0 rfl ?_
  refine kc_v (fun _ h => h) (fun _ h => h) (kc_S (n := 1) C hX.1 (xw_k ca_le) (s_checkShelf l D _ _ _ _ ka hka) kw_146 kw_144 kw_145 kw_1 (by unfold kd_; decide) ⟨rfl, rfl, by decide, by decide⟩ rfl rfl (Nat.le_of_ble_eq_true rfl) ⟨Nat.zero_le _, Nat.zero_le _⟩ dc_S_rank_1) ?_
  refine aw_iload_n C dc_S_rank_4 rfl ?_
  exact kx_S (n := 1) C hX.2 (xe_k ca_le) hno (t_checkSet l hl D (ty_s cI cL cF) h (ca_ h) ca_le _ xkb hx) kw_218 kw_216 kw_217 kw_1 (by unfold kd_; decide) ⟨rfl, rfl, by decide, by decide⟩ rfl rfl (Nat.le_of_ble_eq_true rfl) (by decide) (by decide) (fun _ h => h) dc_S_rank_5
set_option maxHeartbeats 4000000 in
set_option maxRecDepth 100000 in
theorem t_clear_0 (l : Launch) (hl : l.stackTraces = false) (D : va_G) (h th : Nat) (cI cL cF : ClassId) (I : Nat → Nat → Int32) (J : Nat → Nat → Int64) (sh : Nat → Nat) (fr : Nat) (en : Int32) (xka : Int32) (hx : xka < 0 ∨ nI 10 ≤ xka) : kt_ l my_S_clear (Cond.code my_S_clear bc_S_clear 3 (some .int) :: tw_) { frames := 40, cells := 1, slots := 6, locals := 2000 } D (ty_s cI cL cF) (xp_ h th) (ca_ h) (ni_ (ca_ h)) [.ref h, .int xka] (kp_ D h cI cL cF I J sh fr en) (kp_ D h cI cL cF I J sh fr en) "java/lang/IndexOutOfBoundsException" := by
  refine aw_metX (A := ca_ h) (own := "FamilyShelf") (by decide) rfl rfl (Nat.le_of_ble_eq_true rfl) ?_
  intro p9 e s m args below meth c C hr hno hX hP0
  refine aw_lw (lw' := [some (.ref h), some (.int xka), none]) rfl ?_
  refine aw_iload_n C dc_S_clear_0 rfl ?_
  exact kx_S (n := 1) C hX.2 (xe_k ca_le) hno (t_checkShelf l hl D (ty_s cI cL cF) h (ca_ h) ca_le _ xka hx) kw_146 kw_144 kw_145 kw_1 (by unfold kd_; decide) ⟨rfl, rfl, by decide, by decide⟩ rfl rfl (Nat.le_of_ble_eq_true rfl) (by decide) (by decide) (fun _ h => h) dc_S_clear_1
set_option maxHeartbeats 4000000 in
set_option maxRecDepth 100000 in
theorem t_matchings_0 (l : Launch) (hl : l.stackTraces = false) (D : va_G) (h th : Nat) (cI cL cF : ClassId) (I : Nat → Nat → Int32) (J : Nat → Nat → Int64) (sh : Nat → Nat) (fr : Nat) (en : Int32) (xka : Int32) (hx : xka < 0 ∨ nI 10 ≤ xka) : kt_ l my_S_matchings (Cond.code my_S_matchings bc_S_matchings 2 (some .int) :: tw_) { frames := 40, cells := 1, slots := 6, locals := 2000 } D (ty_s cI cL cF) (xp_ h th) (ca_ h) (ni_ (ca_ h)) [.ref h, .int xka] (kp_ D h cI cL cF I J sh fr en) (kp_ D h cI cL cF I J sh fr en) "java/lang/IndexOutOfBoundsException" := by
  refine aw_metX (A := ca_ h) (own := "FamilyShelf") (by decide) rfl rfl (Nat.le_of_ble_eq_true rfl) ?_
  intro p9 e s m args below meth c C hr hno hX hP0
  refine aw_lw (lw' := [some (.ref h), some (.int xka)]) rfl ?_
  refine aw_iload_n C dc_S_matchings_0 rfl ?_
  exact kx_S (n := 1) C hX.2 (xe_k ca_le) hno (t_checkShelf l hl D (ty_s cI cL cF) h (ca_ h) ca_le _ xka hx) kw_146 kw_144 kw_145 kw_1 (by unfold kd_; decide) ⟨rfl, rfl, by decide, by decide⟩ rfl rfl (Nat.le_of_ble_eq_true rfl) (by decide) (by decide) (fun _ h => h) dc_S_matchings_1
set_option maxHeartbeats 4000000 in
set_option maxRecDepth 100000 in
theorem t_count_0 (l : Launch) (hl : l.stackTraces = false) (D : va_G) (h th : Nat) (cI cL cF : ClassId) (I : Nat → Nat → Int32) (J : Nat → Nat → Int64) (sh : Nat → Nat) (fr : Nat) (en : Int32) (xka : Int32) (hx : xka < 0 ∨ nI 10 ≤ xka) : kt_ l my_S_count (Cond.code my_S_count bc_S_count 2 (some .int) :: tw_) { frames := 40, cells := 1, slots := 6, locals := 2000 } D (ty_s cI cL cF) (xp_ h th) (ca_ h) (ni_ (ca_ h)) [.ref h, .int xka] (kp_ D h cI cL cF I J sh fr en) (kp_ D h cI cL cF I J sh fr en) "java/lang/IndexOutOfBoundsException" := by
  refine aw_metX (A := ca_ h) (own := "FamilyShelf") (by decide) rfl rfl (Nat.le_of_ble_eq_true rfl) ?_
  intro p9 e s m args below meth c C hr hno hX hP0
  refine aw_lw (lw' := [some (.ref h), some (.int xka)]) rfl ?_
  refine aw_iload_n C dc_S_count_0 rfl ?_
  exact kx_S (n := 1) C hX.2 (xe_k ca_le) hno (t_checkShelf l hl D (ty_s cI cL cF) h (ca_ h) ca_le _ xka hx) kw_146 kw_144 kw_145 kw_1 (by unfold kd_; decide) ⟨rfl, rfl, by decide, by decide⟩ rfl rfl (Nat.le_of_ble_eq_true rfl) (by decide) (by decide) (fun _ h => h) dc_S_count_1
set_option maxHeartbeats 4000000 in
set_option maxRecDepth 100000 in
theorem t_size_0 (l : Launch) (hl : l.stackTraces = false) (D : va_G) (h th : Nat) (cI cL cF : ClassId) (I : Nat → Nat → Int32) (J : Nat → Nat → Int64) (sh : Nat → Nat) (fr : Nat) (en : Int32) (xka : Int32) (hx : xka < 0 ∨ nI 10 ≤ xka) : kt_ l my_S_size (Cond.code my_S_size bc_S_size 2 (some .int) :: tw_) { frames := 40, cells := 1, slots := 6, locals := 2000 } D (ty_s cI cL cF) (xp_ h th) (ca_ h) (ni_ (ca_ h)) [.ref h, .int xka] (kp_ D h cI cL cF I J sh fr en) (kp_ D h cI cL cF I J sh fr en) "java/lang/IndexOutOfBoundsException" := by
  refine aw_metX (A := ca_ h) (own := "FamilyShelf") (by decide) rfl rfl (Nat.le_of_ble_eq_true rfl) ?_
  intro p9 e s m args below meth c C hr hno hX hP0
  refine aw_lw (lw' := [some (.ref h), some (.int xka)]) rfl ?_
  refine aw_iload_n C dc_S_size_0 rfl ?_
  exact kx_S (n := 1) C hX.2 (xe_k ca_le) hno (t_checkShelf l hl D (ty_s cI cL cF) h (ca_ h) ca_le _ xka hx) kw_146 kw_144 kw_145 kw_1 (by unfold kd_; decide) ⟨rfl, rfl, by decide, by decide⟩ rfl rfl (Nat.le_of_ble_eq_true rfl) (by decide) (by decide) (fun _ h => h) dc_S_size_1
set_option maxHeartbeats 4000000 in
set_option maxRecDepth 100000 in
theorem t_parts_0 (l : Launch) (hl : l.stackTraces = false) (D : va_G) (h th : Nat) (cI cL cF : ClassId) (I : Nat → Nat → Int32) (J : Nat → Nat → Int64) (sh : Nat → Nat) (fr : Nat) (en : Int32) (xka : Int32) (hx : xka < 0 ∨ nI 10 ≤ xka) : kt_ l my_S_parts (Cond.code my_S_parts bc_S_parts 3 (some .int) :: tw_) { frames := 40, cells := 1, slots := 6, locals := 2000 } D (ty_s cI cL cF) (xp_ h th) (ca_ h) (ni_ (ca_ h)) [.ref h, .int xka] (kp_ D h cI cL cF I J sh fr en) (kp_ D h cI cL cF I J sh fr en) "java/lang/IndexOutOfBoundsException" := by
  refine aw_metX (A := ca_ h) (own := "FamilyShelf") (by decide) rfl rfl (Nat.le_of_ble_eq_true rfl) ?_
  intro p9 e s m args below meth c C hr hno hX hP0
  refine aw_lw (lw' := [some (.ref h), some (.int xka), none]) rfl ?_
  refine aw_iload_n C dc_S_parts_0 rfl ?_
  exact kx_S (n := 1) C hX.2 (xe_k ca_le) hno (t_checkShelf l hl D (ty_s cI cL cF) h (ca_ h) ca_le _ xka hx) kw_146 kw_144 kw_145 kw_1 (by unfold kd_; decide) ⟨rfl, rfl, by decide, by decide⟩ rfl rfl (Nat.le_of_ble_eq_true rfl) (by decide) (by decide) (fun _ h => h) dc_S_parts_1
set_option maxHeartbeats 4000000 in
set_option maxRecDepth 100000 in
theorem t_nth_0 (l : Launch) (hl : l.stackTraces = false) (D : va_G) (h th : Nat) (cI cL cF : ClassId) (I : Nat → Nat → Int32) (J : Nat → Nat → Int64) (sh : Nat → Nat) (fr : Nat) (en : Int32) (xka : Int32) (hx : xka < 0 ∨ nI 10 ≤ xka) (ykb : Int32) : kt_ l my_S_nth (Cond.code my_S_nth bc_S_nth 4 (some .int) :: tw_) { frames := 40, cells := 1, slots := 6, locals := 2000 } D (ty_s cI cL cF) (xp_ h th) (ca_ h) (ni_ (ca_ h)) [.ref h, .int xka, .int ykb] (kp_ D h cI cL cF I J sh fr en) (kp_ D h cI cL cF I J sh fr en) "java/lang/IndexOutOfBoundsException" := by
  refine aw_metX (A := ca_ h) (own := "FamilyShelf") (by decide) rfl rfl (Nat.le_of_ble_eq_true rfl) ?_
  intro p9 e s m args below meth c C hr hno hX hP0
  refine aw_lw (lw' := [some (.ref h), some (.int xka), some (.int ykb), none]) rfl ?_
  refine aw_iload_n C dc_S_nth_0 rfl ?_
  exact kx_S (n := 1) C hX.2 (xe_k ca_le) hno (t_checkShelf l hl D (ty_s cI cL cF) h (ca_ h) ca_le _ xka hx) kw_146 kw_144 kw_145 kw_1 (by unfold kd_; decide) ⟨rfl, rfl, by decide, by decide⟩ rfl rfl (Nat.le_of_ble_eq_true rfl) (by decide) (by decide) (fun _ h => h) dc_S_nth_1
set_option maxHeartbeats 4000000 in
set_option maxRecDepth 100000 in
theorem t_heaviest_0 (l : Launch) (hl : l.stackTraces = false) (D : va_G) (h th : Nat) (cI cL cF : ClassId) (I : Nat → Nat → Int32) (J : Nat → Nat → Int64) (sh : Nat → Nat) (fr : Nat) (en : Int32) (xka : Int32) (hx : xka < 0 ∨ nI 10 ≤ xka) : kt_ l my_S_heaviest (Cond.code my_S_heaviest bc_S_heaviest 3 (some .int) :: tw_) { frames := 40, cells := 1, slots := 6, locals := 2000 } D (ty_s cI cL cF) (xp_ h th) (ca_ h) (ni_ (ca_ h)) [.ref h, .int xka] (kp_ D h cI cL cF I J sh fr en) (kp_ D h cI cL cF I J sh fr en) "java/lang/IndexOutOfBoundsException" := by
  refine aw_metX (A := ca_ h) (own := "FamilyShelf") (by decide) rfl rfl (Nat.le_of_ble_eq_true rfl) ?_
  intro p9 e s m args below meth c C hr hno hX hP0
  refine aw_lw (lw' := [some (.ref h), some (.int xka), none]) rfl ?_
  refine aw_iload_n C dc_S_heaviest_0 rfl ?_
  exact kx_S (n := 1) C hX.2 (xe_k ca_le) hno (t_checkShelf l hl D (ty_s cI cL cF) h (ca_ h) ca_le _ xka hx) kw_146 kw_144 kw_145 kw_1 (by unfold kd_; decide) ⟨rfl, rfl, by decide, by decide⟩ rfl rfl (Nat.le_of_ble_eq_true rfl) (by decide) (by decide) (fun _ h => h) dc_S_heaviest_1
set_option maxHeartbeats 4000000 in
set_option maxRecDepth 100000 in
theorem t_combine_0 (l : Launch) (hl : l.stackTraces = false) (D : va_G) (h th : Nat) (cI cL cF : ClassId) (I : Nat → Nat → Int32) (J : Nat → Nat → Int64) (sh : Nat → Nat) (fr : Nat) (en : Int32) (xka : Int32) (hx : xka < 0 ∨ nI 10 ≤ xka) (ykb : Int32) (ykc : Int32) (ykd : Int32) : kt_ l my_S_combine (Cond.code my_S_combine bc_S_combine 5 (some .int) :: tw_) { frames := 40, cells := 1, slots := 6, locals := 2000 } D (ty_s cI cL cF) (xp_ h th) (ca_ h) (ni_ (ca_ h)) [.ref h, .int xka, .int ykb, .int ykc, .int ykd] (kp_ D h cI cL cF I J sh fr en) (kp_ D h cI cL cF I J sh fr en) "java/lang/IndexOutOfBoundsException" := by
  refine aw_metX (A := ca_ h) (own := "FamilyShelf") (by decide) rfl rfl (Nat.le_of_ble_eq_true rfl) ?_
  intro p9 e s m args below meth c C hr hno hX hP0
  refine aw_lw (lw' := [some (.ref h), some (.int xka), some (.int ykb), some (.int ykc), some (.int ykd)]) rfl ?_
  refine aw_iload_n C dc_S_combine_0 rfl ?_
  exact kx_S (n := 1) C hX.2 (xe_k ca_le) hno (t_checkShelf l hl D (ty_s cI cL cF) h (ca_ h) ca_le _ xka hx) kw_146 kw_144 kw_145 kw_1 (by unfold kd_; decide) ⟨rfl, rfl, by decide, by decide⟩ rfl rfl (Nat.le_of_ble_eq_true rfl) (by decide) (by decide) (fun _ h => h) dc_S_combine_1
set_option maxHeartbeats 4000000 in
set_option maxRecDepth 100000 in
theorem t_combine_1 (l : Launch) (hl : l.stackTraces = false) (D : va_G) (h th : Nat) (cI cL cF : ClassId) (I : Nat → Nat → Int32) (J : Nat → Nat → Int64) (sh : Nat → Nat) (fr : Nat) (en : Int32) (ka : Nat) (hka : ka < 10) (xkc : Int32) (hx : xkc < 0 ∨ nI 10 ≤ xkc) (ykb : Int32) (ykd : Int32) : kt_ l my_S_combine (Cond.code my_S_combine bc_S_combine 5 (some .int) :: tw_) { frames := 40, cells := 1, slots := 6, locals := 2000 } D (ty_s cI cL cF) (xp_ h th) (ca_ h) (ni_ (ca_ h)) [.ref h, .int (nI ka), .int ykb, .int xkc, .int ykd] (kp_ D h cI cL cF I J sh fr en) (kp_ D h cI cL cF I J sh fr en) "java/lang/IndexOutOfBoundsException" := by
  refine aw_metX (A := ca_ h) (own := "FamilyShelf") (by decide) rfl rfl (Nat.le_of_ble_eq_true rfl) ?_
  intro p9 e s m args below meth c C hr hno hX hP0
  refine aw_lw (lw' := [some (.ref h), some (.int (nI ka)), some (.int ykb), some (.int xkc), some (.int ykd)]) rfl ?_
  refine aw_iload_n C dc_S_combine_0 rfl ?_
  refine kc_v (fun _ h => h) (fun _ h => h) (kc_S (n := 1) C hX.1 (xw_k ca_le) (s_checkShelf l D _ _ _ _ ka hka) kw_146 kw_144 kw_145 kw_1 (by unfold kd_; decide) ⟨rfl, rfl, by decide, by decide⟩ rfl rfl (Nat.le_of_ble_eq_true rfl) ⟨Nat.zero_le _, Nat.zero_le _⟩ dc_S_combine_1) ?_
  refine aw_iload_n C dc_S_combine_4 rfl ?_
  exact kx_S (n := 1) C hX.2 (xe_k ca_le) hno (t_checkShelf l hl D (ty_s cI cL cF) h (ca_ h) ca_le _ xkc hx) kw_146 kw_144 kw_145 kw_1 (by unfold kd_; decide) ⟨rfl, rfl, by decide, by decide⟩ rfl rfl (Nat.le_of_ble_eq_true rfl) (by decide) (by decide) (fun _ h => h) dc_S_combine_5
set_option maxHeartbeats 4000000 in
set_option maxRecDepth 100000 in
theorem t_combine_2 (l : Launch) (hl : l.stackTraces = false) (D : va_G) (h th : Nat) (cI cL cF : ClassId) (I : Nat → Nat → Int32) (J : Nat → Nat → Int64) (sh : Nat → Nat) (fr : Nat) (en : Int32) (ka : Nat) (hka : ka < 10) (kc : Nat) (hkc : kc < 10) (xkd : Int32) (hx : xkd < 0 ∨ nI 10 ≤ xkd) (ykb : Int32) : kt_ l my_S_combine (Cond.code my_S_combine bc_S_combine 5 (some .int) :: tw_) { frames := 40, cells := 1, slots := 6, locals := 2000 } D (ty_s cI cL cF) (xp_ h th) (ca_ h) (ni_ (ca_ h)) [.ref h, .int (nI ka), .int ykb, .int (nI kc), .int xkd] (kp_ D h cI cL cF I J sh fr en) (kp_ D h cI cL cF I J sh fr en) "java/lang/IndexOutOfBoundsException" := by
  refine aw_metX (A := ca_ h) (own := "FamilyShelf") (by decide) rfl rfl (Nat.le_of_ble_eq_true rfl) ?_
  intro p9 e s m args below meth c C hr hno hX hP0
  refine aw_lw (lw' := [some (.ref h), some (.int (nI ka)), some (.int ykb), some (.int (nI kc)), some (.int xkd)]) rfl ?_
  refine aw_iload_n C dc_S_combine_0 rfl ?_
  refine kc_v (fun _ h => h) (fun _ h => h) (kc_S (n := 1) C hX.1 (xw_k ca_le) (s_checkShelf l D _ _ _ _ ka hka) kw_146 kw_144 kw_145 kw_1 (by unfold kd_; decide) ⟨rfl, rfl, by decide, by decide⟩ rfl rfl (Nat.le_of_ble_eq_true rfl) ⟨Nat.zero_le _, Nat.zero_le _⟩ dc_S_combine_1) ?_
  refine aw_iload_n C dc_S_combine_4 rfl ?_
  refine kc_v (fun _ h => h) (fun _ h => h) (kc_S (n := 1) C hX.1 (xw_k ca_le) (s_checkShelf l D _ _ _ _ kc hkc) kw_146 kw_144 kw_145 kw_1 (by unfold kd_; decide) ⟨rfl, rfl, by decide, by decide⟩ rfl rfl (Nat.le_of_ble_eq_true rfl) ⟨Nat.zero_le _, Nat.zero_le _⟩ dc_S_combine_5) ?_
  refine aw_iload C dc_S_combine_8 rfl ?_
  exact kx_S (n := 1) C hX.2 (xe_k ca_le) hno (t_checkShelf l hl D (ty_s cI cL cF) h (ca_ h) ca_le _ xkd hx) kw_146 kw_144 kw_145 kw_1 (by unfold kd_; decide) ⟨rfl, rfl, by decide, by decide⟩ rfl rfl (Nat.le_of_ble_eq_true rfl) (by decide) (by decide) (fun _ h => h) dc_S_combine_10
set_option maxHeartbeats 4000000 in
set_option maxRecDepth 100000 in
theorem t_combine_3 (l : Launch) (hl : l.stackTraces = false) (D : va_G) (h th : Nat) (cI cL cF : ClassId) (I : Nat → Nat → Int32) (J : Nat → Nat → Int64) (sh : Nat → Nat) (fr : Nat) (en : Int32) (ka : Nat) (hka : ka < 10) (kc : Nat) (hkc : kc < 10) (kd : Nat) (hkd : kd < 10) (xkb : Int32) (hx : xkb < (nI 0) ∨ (nI 8) < xkb) : kt_ l my_S_combine (Cond.code my_S_combine bc_S_combine 5 (some .int) :: tw_) { frames := 40, cells := 1, slots := 6, locals := 2000 } D (ty_s cI cL cF) (xp_ h th) (ca_ h) (ni_ (ca_ h)) [.ref h, .int (nI ka), .int xkb, .int (nI kc), .int (nI kd)] (kp_ D h cI cL cF I J sh fr en) (kp_ D h cI cL cF I J sh fr en) "java/lang/IllegalArgumentException" := by
  refine aw_metX (A := ca_ h) (own := "FamilyShelf") (by decide) rfl rfl (Nat.le_of_ble_eq_true rfl) ?_
  intro p9 e s m args below meth c C hr hno hX hP0
  refine aw_lw (lw' := [some (.ref h), some (.int (nI ka)), some (.int xkb), some (.int (nI kc)), some (.int (nI kd))]) rfl ?_
  refine aw_iload_n C dc_S_combine_0 rfl ?_
  refine kc_v (fun _ h => h) (fun _ h => h) (kc_S (n := 1) C hX.1 (xw_k ca_le) (s_checkShelf l D _ _ _ _ ka hka) kw_146 kw_144 kw_145 kw_1 (by unfold kd_; decide) ⟨rfl, rfl, by decide, by decide⟩ rfl rfl (Nat.le_of_ble_eq_true rfl) ⟨Nat.zero_le _, Nat.zero_le _⟩ dc_S_combine_1) ?_
  refine aw_iload_n C dc_S_combine_4 rfl ?_
  refine kc_v (fun _ h => h) (fun _ h => h) (kc_S (n := 1) C hX.1 (xw_k ca_le) (s_checkShelf l D _ _ _ _ kc hkc) kw_146 kw_144 kw_145 kw_1 (by unfold kd_; decide) ⟨rfl, rfl, by decide, by decide⟩ rfl rfl (Nat.le_of_ble_eq_true rfl) ⟨Nat.zero_le _, Nat.zero_le _⟩ dc_S_combine_5) ?_
  refine aw_iload C dc_S_combine_8 rfl ?_
  refine kc_v (fun _ h => h) (fun _ h => h) (kc_S (n := 1) C hX.1 (xw_k ca_le) (s_checkShelf l D _ _ _ _ kd hkd) kw_146 kw_144 kw_145 kw_1 (by unfold kd_; decide) ⟨rfl, rfl, by decide, by decide⟩ rfl rfl (Nat.le_of_ble_eq_true rfl) ⟨Nat.zero_le _, Nat.zero_le _⟩ dc_S_combine_10) ?_
  refine aw_iload_n C dc_S_combine_13 rfl ?_
  refine aw_iconst C dc_S_combine_14 (v := nI 0) rfl ?_
  refine aw_bipush C dc_S_combine_15 (v := nI 8) rfl ?_
  exact kx_S (n := 3) C hX.2 (xe_k ca_le) hno (t_checkRange l hl D (ty_s cI cL cF) h (ca_ h) ca_le _ xkb (nI 0) (nI 8) hx) kw_221 kw_219 kw_220 kw_1 (by unfold kd_; decide) ⟨rfl, rfl, by decide, by decide⟩ rfl rfl (Nat.le_of_ble_eq_true rfl) (by decide) (by decide) (fun _ h => h) dc_S_combine_17
set_option maxHeartbeats 4000000 in
set_option maxRecDepth 100000 in
theorem t_change_0 (l : Launch) (hl : l.stackTraces = false) (D : va_G) (h th : Nat) (cI cL cF : ClassId) (I : Nat → Nat → Int32) (J : Nat → Nat → Int64) (sh : Nat → Nat) (fr : Nat) (en : Int32) (xka : Int32) (hx : xka < 0 ∨ nI 10 ≤ xka) (ykb : Int32) (ykc : Int32) (ykd : Int32) : kt_ l my_S_change (Cond.code my_S_change bc_S_change 5 (some .int) :: tw_) { frames := 40, cells := 1, slots := 6, locals := 2000 } D (ty_s cI cL cF) (xp_ h th) (ca_ h) (ni_ (ca_ h)) [.ref h, .int xka, .int ykb, .int ykc, .int ykd] (kp_ D h cI cL cF I J sh fr en) (kp_ D h cI cL cF I J sh fr en) "java/lang/IndexOutOfBoundsException" := by
  refine aw_metX (A := ca_ h) (own := "FamilyShelf") (by decide) rfl rfl (Nat.le_of_ble_eq_true rfl) ?_
  intro p9 e s m args below meth c C hr hno hX hP0
  refine aw_lw (lw' := [some (.ref h), some (.int xka), some (.int ykb), some (.int ykc), some (.int ykd)]) rfl ?_
  refine aw_iload_n C dc_S_change_0 rfl ?_
  exact kx_S (n := 1) C hX.2 (xe_k ca_le) hno (t_checkShelf l hl D (ty_s cI cL cF) h (ca_ h) ca_le _ xka hx) kw_146 kw_144 kw_145 kw_1 (by unfold kd_; decide) ⟨rfl, rfl, by decide, by decide⟩ rfl rfl (Nat.le_of_ble_eq_true rfl) (by decide) (by decide) (fun _ h => h) dc_S_change_1
set_option maxHeartbeats 4000000 in
set_option maxRecDepth 100000 in
theorem t_change_1 (l : Launch) (hl : l.stackTraces = false) (D : va_G) (h th : Nat) (cI cL cF : ClassId) (I : Nat → Nat → Int32) (J : Nat → Nat → Int64) (sh : Nat → Nat) (fr : Nat) (en : Int32) (ka : Nat) (hka : ka < 10) (xkc : Int32) (hx : xkc < 0 ∨ nI 10 ≤ xkc) (ykb : Int32) (ykd : Int32) : kt_ l my_S_change (Cond.code my_S_change bc_S_change 5 (some .int) :: tw_) { frames := 40, cells := 1, slots := 6, locals := 2000 } D (ty_s cI cL cF) (xp_ h th) (ca_ h) (ni_ (ca_ h)) [.ref h, .int (nI ka), .int ykb, .int xkc, .int ykd] (kp_ D h cI cL cF I J sh fr en) (kp_ D h cI cL cF I J sh fr en) "java/lang/IndexOutOfBoundsException" := by
  refine aw_metX (A := ca_ h) (own := "FamilyShelf") (by decide) rfl rfl (Nat.le_of_ble_eq_true rfl) ?_
  intro p9 e s m args below meth c C hr hno hX hP0
  refine aw_lw (lw' := [some (.ref h), some (.int (nI ka)), some (.int ykb), some (.int xkc), some (.int ykd)]) rfl ?_
  refine aw_iload_n C dc_S_change_0 rfl ?_
  refine kc_v (fun _ h => h) (fun _ h => h) (kc_S (n := 1) C hX.1 (xw_k ca_le) (s_checkShelf l D _ _ _ _ ka hka) kw_146 kw_144 kw_145 kw_1 (by unfold kd_; decide) ⟨rfl, rfl, by decide, by decide⟩ rfl rfl (Nat.le_of_ble_eq_true rfl) ⟨Nat.zero_le _, Nat.zero_le _⟩ dc_S_change_1) ?_
  refine aw_iload_n C dc_S_change_4 rfl ?_
  exact kx_S (n := 1) C hX.2 (xe_k ca_le) hno (t_checkShelf l hl D (ty_s cI cL cF) h (ca_ h) ca_le _ xkc hx) kw_146 kw_144 kw_145 kw_1 (by unfold kd_; decide) ⟨rfl, rfl, by decide, by decide⟩ rfl rfl (Nat.le_of_ble_eq_true rfl) (by decide) (by decide) (fun _ h => h) dc_S_change_5
set_option maxHeartbeats 4000000 in
set_option maxRecDepth 100000 in
theorem t_change_2 (l : Launch) (hl : l.stackTraces = false) (D : va_G) (h th : Nat) (cI cL cF : ClassId) (I : Nat → Nat → Int32) (J : Nat → Nat → Int64) (sh : Nat → Nat) (fr : Nat) (en : Int32) (ka : Nat) (hka : ka < 10) (kc : Nat) (hkc : kc < 10) (xkd : Int32) (hx : xkd < 0 ∨ nI 12 ≤ xkd) (ykb : Int32) : kt_ l my_S_change (Cond.code my_S_change bc_S_change 5 (some .int) :: tw_) { frames := 40, cells := 1, slots := 6, locals := 2000 } D (ty_s cI cL cF) (xp_ h th) (ca_ h) (ni_ (ca_ h)) [.ref h, .int (nI ka), .int ykb, .int (nI kc), .int xkd] (kp_ D h cI cL cF I J sh fr en) (kp_ D h cI cL cF I J sh fr en) "java/lang/IndexOutOfBoundsException" := by
  refine aw_metX (A := ca_ h) (own := "FamilyShelf") (by decide) rfl rfl (Nat.le_of_ble_eq_true rfl) ?_
  intro p9 e s m args below meth c C hr hno hX hP0
  refine aw_lw (lw' := [some (.ref h), some (.int (nI ka)), some (.int ykb), some (.int (nI kc)), some (.int xkd)]) rfl ?_
  refine aw_iload_n C dc_S_change_0 rfl ?_
  refine kc_v (fun _ h => h) (fun _ h => h) (kc_S (n := 1) C hX.1 (xw_k ca_le) (s_checkShelf l D _ _ _ _ ka hka) kw_146 kw_144 kw_145 kw_1 (by unfold kd_; decide) ⟨rfl, rfl, by decide, by decide⟩ rfl rfl (Nat.le_of_ble_eq_true rfl) ⟨Nat.zero_le _, Nat.zero_le _⟩ dc_S_change_1) ?_
  refine aw_iload_n C dc_S_change_4 rfl ?_
  refine kc_v (fun _ h => h) (fun _ h => h) (kc_S (n := 1) C hX.1 (xw_k ca_le) (s_checkShelf l D _ _ _ _ kc hkc) kw_146 kw_144 kw_145 kw_1 (by unfold kd_; decide) ⟨rfl, rfl, by decide, by decide⟩ rfl rfl (Nat.le_of_ble_eq_true rfl) ⟨Nat.zero_le _, Nat.zero_le _⟩ dc_S_change_5) ?_
  refine aw_iload C dc_S_change_8 rfl ?_
  exact kx_S (n := 1) C hX.2 (xe_k ca_le) hno (t_checkElement l hl D (ty_s cI cL cF) h (ca_ h) ca_le _ xkd hx) kw_416 kw_414 kw_415 kw_1 (by unfold kd_; decide) ⟨rfl, rfl, by decide, by decide⟩ rfl rfl (Nat.le_of_ble_eq_true rfl) (by decide) (by decide) (fun _ h => h) dc_S_change_10
set_option maxHeartbeats 4000000 in
set_option maxRecDepth 100000 in
theorem t_change_3 (l : Launch) (hl : l.stackTraces = false) (D : va_G) (h th : Nat) (cI cL cF : ClassId) (I : Nat → Nat → Int32) (J : Nat → Nat → Int64) (sh : Nat → Nat) (fr : Nat) (en : Int32) (ka : Nat) (hka : ka < 10) (kc : Nat) (hkc : kc < 10) (kd : Nat) (hkd : kd < 12) (xkb : Int32) (hx : xkb < (nI 0) ∨ (nI 2) < xkb) : kt_ l my_S_change (Cond.code my_S_change bc_S_change 5 (some .int) :: tw_) { frames := 40, cells := 1, slots := 6, locals := 2000 } D (ty_s cI cL cF) (xp_ h th) (ca_ h) (ni_ (ca_ h)) [.ref h, .int (nI ka), .int xkb, .int (nI kc), .int (nI kd)] (kp_ D h cI cL cF I J sh fr en) (kp_ D h cI cL cF I J sh fr en) "java/lang/IllegalArgumentException" := by
  refine aw_metX (A := ca_ h) (own := "FamilyShelf") (by decide) rfl rfl (Nat.le_of_ble_eq_true rfl) ?_
  intro p9 e s m args below meth c C hr hno hX hP0
  refine aw_lw (lw' := [some (.ref h), some (.int (nI ka)), some (.int xkb), some (.int (nI kc)), some (.int (nI kd))]) rfl ?_
  refine aw_iload_n C dc_S_change_0 rfl ?_
  refine kc_v (fun _ h => h) (fun _ h => h) (kc_S (n := 1) C hX.1 (xw_k ca_le) (s_checkShelf l D _ _ _ _ ka hka) kw_146 kw_144 kw_145 kw_1 (by unfold kd_; decide) ⟨rfl, rfl, by decide, by decide⟩ rfl rfl (Nat.le_of_ble_eq_true rfl) ⟨Nat.zero_le _, Nat.zero_le _⟩ dc_S_change_1) ?_
  refine aw_iload_n C dc_S_change_4 rfl ?_
  refine kc_v (fun _ h => h) (fun _ h => h) (kc_S (n := 1) C hX.1 (xw_k ca_le) (s_checkShelf l D _ _ _ _ kc hkc) kw_146 kw_144 kw_145 kw_1 (by unfold kd_; decide) ⟨rfl, rfl, by decide, by decide⟩ rfl rfl (Nat.le_of_ble_eq_true rfl) ⟨Nat.zero_le _, Nat.zero_le _⟩ dc_S_change_5) ?_
  refine aw_iload C dc_S_change_8 rfl ?_
  refine kc_v (fun _ h => h) (fun _ h => h) (kc_S (n := 1) C hX.1 (xw_k ca_le) (s_checkElement l D _ _ _ _ kd hkd) kw_416 kw_414 kw_415 kw_1 (by unfold kd_; decide) ⟨rfl, rfl, by decide, by decide⟩ rfl rfl (Nat.le_of_ble_eq_true rfl) ⟨Nat.zero_le _, Nat.zero_le _⟩ dc_S_change_10) ?_
  refine aw_iload_n C dc_S_change_13 rfl ?_
  refine aw_iconst C dc_S_change_14 (v := nI 0) rfl ?_
  refine aw_iconst C dc_S_change_15 (v := nI 2) rfl ?_
  exact kx_S (n := 3) C hX.2 (xe_k ca_le) hno (t_checkRange l hl D (ty_s cI cL cF) h (ca_ h) ca_le _ xkb (nI 0) (nI 2) hx) kw_221 kw_219 kw_220 kw_1 (by unfold kd_; decide) ⟨rfl, rfl, by decide, by decide⟩ rfl rfl (Nat.le_of_ble_eq_true rfl) (by decide) (by decide) (fun _ h => h) dc_S_change_16
set_option maxHeartbeats 4000000 in
set_option maxRecDepth 100000 in
theorem t_extreme_0 (l : Launch) (hl : l.stackTraces = false) (D : va_G) (h th : Nat) (cI cL cF : ClassId) (I : Nat → Nat → Int32) (J : Nat → Nat → Int64) (sh : Nat → Nat) (fr : Nat) (en : Int32) (xka : Int32) (hx : xka < 0 ∨ nI 10 ≤ xka) (ykb : Int32) (ykc : Int32) : kt_ l my_S_extreme (Cond.code my_S_extreme bc_S_extreme 4 (some .int) :: tw_) { frames := 40, cells := 1, slots := 6, locals := 2000 } D (ty_s cI cL cF) (xp_ h th) (ca_ h) (ni_ (ca_ h)) [.ref h, .int xka, .int ykb, .int ykc] (kp_ D h cI cL cF I J sh fr en) (kp_ D h cI cL cF I J sh fr en) "java/lang/IndexOutOfBoundsException" := by
  refine aw_metX (A := ca_ h) (own := "FamilyShelf") (by decide) rfl rfl (Nat.le_of_ble_eq_true rfl) ?_
  intro p9 e s m args below meth c C hr hno hX hP0
  refine aw_lw (lw' := [some (.ref h), some (.int xka), some (.int ykb), some (.int ykc)]) rfl ?_
  refine aw_iload_n C dc_S_extreme_0 rfl ?_
  exact kx_S (n := 1) C hX.2 (xe_k ca_le) hno (t_checkShelf l hl D (ty_s cI cL cF) h (ca_ h) ca_le _ xka hx) kw_146 kw_144 kw_145 kw_1 (by unfold kd_; decide) ⟨rfl, rfl, by decide, by decide⟩ rfl rfl (Nat.le_of_ble_eq_true rfl) (by decide) (by decide) (fun _ h => h) dc_S_extreme_1
set_option maxHeartbeats 4000000 in
set_option maxRecDepth 100000 in
theorem t_extreme_1 (l : Launch) (hl : l.stackTraces = false) (D : va_G) (h th : Nat) (cI cL cF : ClassId) (I : Nat → Nat → Int32) (J : Nat → Nat → Int64) (sh : Nat → Nat) (fr : Nat) (en : Int32) (ka : Nat) (hka : ka < 10) (xkb : Int32) (hx : xkb < 0 ∨ nI 10 ≤ xkb) (ykc : Int32) : kt_ l my_S_extreme (Cond.code my_S_extreme bc_S_extreme 4 (some .int) :: tw_) { frames := 40, cells := 1, slots := 6, locals := 2000 } D (ty_s cI cL cF) (xp_ h th) (ca_ h) (ni_ (ca_ h)) [.ref h, .int (nI ka), .int xkb, .int ykc] (kp_ D h cI cL cF I J sh fr en) (kp_ D h cI cL cF I J sh fr en) "java/lang/IndexOutOfBoundsException" := by
  refine aw_metX (A := ca_ h) (own := "FamilyShelf") (by decide) rfl rfl (Nat.le_of_ble_eq_true rfl) ?_
  intro p9 e s m args below meth c C hr hno hX hP0
  refine aw_lw (lw' := [some (.ref h), some (.int (nI ka)), some (.int xkb), some (.int ykc)]) rfl ?_
  refine aw_iload_n C dc_S_extreme_0 rfl ?_
  refine kc_v (fun _ h => h) (fun _ h => h) (kc_S (n := 1) C hX.1 (xw_k ca_le) (s_checkShelf l D _ _ _ _ ka hka) kw_146 kw_144 kw_145 kw_1 (by unfold kd_; decide) ⟨rfl, rfl, by decide, by decide⟩ rfl rfl (Nat.le_of_ble_eq_true rfl) ⟨Nat.zero_le _, Nat.zero_le _⟩ dc_S_extreme_1) ?_
  refine aw_iload_n C dc_S_extreme_4 rfl ?_
  exact kx_S (n := 1) C hX.2 (xe_k ca_le) hno (t_checkShelf l hl D (ty_s cI cL cF) h (ca_ h) ca_le _ xkb hx) kw_146 kw_144 kw_145 kw_1 (by unfold kd_; decide) ⟨rfl, rfl, by decide, by decide⟩ rfl rfl (Nat.le_of_ble_eq_true rfl) (by decide) (by decide) (fun _ h => h) dc_S_extreme_5
set_option maxHeartbeats 4000000 in
set_option maxRecDepth 100000 in
theorem t_sized_0 (l : Launch) (hl : l.stackTraces = false) (D : va_G) (h th : Nat) (cI cL cF : ClassId) (I : Nat → Nat → Int32) (J : Nat → Nat → Int64) (sh : Nat → Nat) (fr : Nat) (en : Int32) (xka : Int32) (hx : xka < 0 ∨ nI 10 ≤ xka) (ykb : Int32) (ykc : Int32) : kt_ l my_S_sized (Cond.code my_S_sized bc_S_sized 4 (some .int) :: tw_) { frames := 40, cells := 1, slots := 6, locals := 2000 } D (ty_s cI cL cF) (xp_ h th) (ca_ h) (ni_ (ca_ h)) [.ref h, .int xka, .int ykb, .int ykc] (kp_ D h cI cL cF I J sh fr en) (kp_ D h cI cL cF I J sh fr en) "java/lang/IndexOutOfBoundsException" := by
  refine aw_metX (A := ca_ h) (own := "FamilyShelf") (by decide) rfl rfl (Nat.le_of_ble_eq_true rfl) ?_
  intro p9 e s m args below meth c C hr hno hX hP0
  refine aw_lw (lw' := [some (.ref h), some (.int xka), some (.int ykb), some (.int ykc)]) rfl ?_
  refine aw_iload_n C dc_S_sized_0 rfl ?_
  exact kx_S (n := 1) C hX.2 (xe_k ca_le) hno (t_checkShelf l hl D (ty_s cI cL cF) h (ca_ h) ca_le _ xka hx) kw_146 kw_144 kw_145 kw_1 (by unfold kd_; decide) ⟨rfl, rfl, by decide, by decide⟩ rfl rfl (Nat.le_of_ble_eq_true rfl) (by decide) (by decide) (fun _ h => h) dc_S_sized_1
set_option maxHeartbeats 4000000 in
set_option maxRecDepth 100000 in
theorem t_sized_1 (l : Launch) (hl : l.stackTraces = false) (D : va_G) (h th : Nat) (cI cL cF : ClassId) (I : Nat → Nat → Int32) (J : Nat → Nat → Int64) (sh : Nat → Nat) (fr : Nat) (en : Int32) (ka : Nat) (hka : ka < 10) (xkb : Int32) (hx : xkb < 0 ∨ nI 10 ≤ xkb) (ykc : Int32) : kt_ l my_S_sized (Cond.code my_S_sized bc_S_sized 4 (some .int) :: tw_) { frames := 40, cells := 1, slots := 6, locals := 2000 } D (ty_s cI cL cF) (xp_ h th) (ca_ h) (ni_ (ca_ h)) [.ref h, .int (nI ka), .int xkb, .int ykc] (kp_ D h cI cL cF I J sh fr en) (kp_ D h cI cL cF I J sh fr en) "java/lang/IndexOutOfBoundsException" := by
  refine aw_metX (A := ca_ h) (own := "FamilyShelf") (by decide) rfl rfl (Nat.le_of_ble_eq_true rfl) ?_
  intro p9 e s m args below meth c C hr hno hX hP0
  refine aw_lw (lw' := [some (.ref h), some (.int (nI ka)), some (.int xkb), some (.int ykc)]) rfl ?_
  refine aw_iload_n C dc_S_sized_0 rfl ?_
  refine kc_v (fun _ h => h) (fun _ h => h) (kc_S (n := 1) C hX.1 (xw_k ca_le) (s_checkShelf l D _ _ _ _ ka hka) kw_146 kw_144 kw_145 kw_1 (by unfold kd_; decide) ⟨rfl, rfl, by decide, by decide⟩ rfl rfl (Nat.le_of_ble_eq_true rfl) ⟨Nat.zero_le _, Nat.zero_le _⟩ dc_S_sized_1) ?_
  refine aw_iload_n C dc_S_sized_4 rfl ?_
  exact kx_S (n := 1) C hX.2 (xe_k ca_le) hno (t_checkShelf l hl D (ty_s cI cL cF) h (ca_ h) ca_le _ xkb hx) kw_146 kw_144 kw_145 kw_1 (by unfold kd_; decide) ⟨rfl, rfl, by decide, by decide⟩ rfl rfl (Nat.le_of_ble_eq_true rfl) (by decide) (by decide) (fun _ h => h) dc_S_sized_5
set_option maxHeartbeats 4000000 in
set_option maxRecDepth 100000 in
theorem t_sized_2 (l : Launch) (hl : l.stackTraces = false) (D : va_G) (h th : Nat) (cI cL cF : ClassId) (I : Nat → Nat → Int32) (J : Nat → Nat → Int64) (sh : Nat → Nat) (fr : Nat) (en : Int32) (ka : Nat) (hka : ka < 10) (kb : Nat) (hkb : kb < 10) (xkc : Int32) (hx : xkc < (nI 0) ∨ (nI 12) < xkc) : kt_ l my_S_sized (Cond.code my_S_sized bc_S_sized 4 (some .int) :: tw_) { frames := 40, cells := 1, slots := 6, locals := 2000 } D (ty_s cI cL cF) (xp_ h th) (ca_ h) (ni_ (ca_ h)) [.ref h, .int (nI ka), .int (nI kb), .int xkc] (kp_ D h cI cL cF I J sh fr en) (kp_ D h cI cL cF I J sh fr en) "java/lang/IllegalArgumentException" := by
  refine aw_metX (A := ca_ h) (own := "FamilyShelf") (by decide) rfl rfl (Nat.le_of_ble_eq_true rfl) ?_
  intro p9 e s m args below meth c C hr hno hX hP0
  refine aw_lw (lw' := [some (.ref h), some (.int (nI ka)), some (.int (nI kb)), some (.int xkc)]) rfl ?_
  refine aw_iload_n C dc_S_sized_0 rfl ?_
  refine kc_v (fun _ h => h) (fun _ h => h) (kc_S (n := 1) C hX.1 (xw_k ca_le) (s_checkShelf l D _ _ _ _ ka hka) kw_146 kw_144 kw_145 kw_1 (by unfold kd_; decide) ⟨rfl, rfl, by decide, by decide⟩ rfl rfl (Nat.le_of_ble_eq_true rfl) ⟨Nat.zero_le _, Nat.zero_le _⟩ dc_S_sized_1) ?_
  refine aw_iload_n C dc_S_sized_4 rfl ?_
  refine kc_v (fun _ h => h) (fun _ h => h) (kc_S (n := 1) C hX.1 (xw_k ca_le) (s_checkShelf l D _ _ _ _ kb hkb) kw_146 kw_144 kw_145 kw_1 (by unfold kd_; decide) ⟨rfl, rfl, by decide, by decide⟩ rfl rfl (Nat.le_of_ble_eq_true rfl) ⟨Nat.zero_le _, Nat.zero_le _⟩ dc_S_sized_5) ?_
  refine aw_iload_n C dc_S_sized_8 rfl ?_
  refine aw_iconst C dc_S_sized_9 (v := nI 0) rfl ?_
  refine aw_bipush C dc_S_sized_10 (v := nI 12) rfl ?_
  exact kx_S (n := 3) C hX.2 (xe_k ca_le) hno (t_checkRange l hl D (ty_s cI cL cF) h (ca_ h) ca_le _ xkc (nI 0) (nI 12) hx) kw_221 kw_219 kw_220 kw_1 (by unfold kd_; decide) ⟨rfl, rfl, by decide, by decide⟩ rfl rfl (Nat.le_of_ble_eq_true rfl) (by decide) (by decide) (fun _ h => h) dc_S_sized_12
set_option maxHeartbeats 4000000 in
set_option maxRecDepth 100000 in
theorem t_edge_0 (l : Launch) (hl : l.stackTraces = false) (D : va_G) (h th : Nat) (cI cL cF : ClassId) (I : Nat → Nat → Int32) (J : Nat → Nat → Int64) (sh : Nat → Nat) (fr : Nat) (en : Int32) (xka : Int32) (hx : xka < 0 ∨ nI 12 ≤ xka) (ykb : Int32) (ykc : Int32) : kt_ l my_S_edge (Cond.code my_S_edge bc_S_edge 4 none :: tw_) { frames := 40, cells := 1, slots := 6, locals := 2000 } D (ty_s cI cL cF) (xp_ h th) (ca_ h) (nv_ (ca_ h)) [.ref h, .int xka, .int ykb, .int ykc] (kp_ D h cI cL cF I J sh fr en) (kp_ D h cI cL cF I J sh fr en) "java/lang/IndexOutOfBoundsException" := by
  refine aw_metX (A := ca_ h) (own := "FamilyShelf") (by decide) rfl rfl (Nat.le_of_ble_eq_true rfl) ?_
  intro p9 e s m args below meth c C hr hno hX hP0
  refine aw_lw (lw' := [some (.ref h), some (.int xka), some (.int ykb), some (.int ykc)]) rfl ?_
  refine aw_iload_n C dc_S_edge_0 rfl ?_
  exact kx_S (n := 1) C hX.2 (xe_k ca_le) hno (t_checkElement l hl D (ty_s cI cL cF) h (ca_ h) ca_le _ xka hx) kw_416 kw_414 kw_415 kw_1 (by unfold kd_; decide) ⟨rfl, rfl, by decide, by decide⟩ rfl rfl (Nat.le_of_ble_eq_true rfl) (by decide) (by decide) (fun _ h => h) dc_S_edge_1
set_option maxHeartbeats 4000000 in
set_option maxRecDepth 100000 in
theorem t_edge_1 (l : Launch) (hl : l.stackTraces = false) (D : va_G) (h th : Nat) (cI cL cF : ClassId) (I : Nat → Nat → Int32) (J : Nat → Nat → Int64) (sh : Nat → Nat) (fr : Nat) (en : Int32) (ka : Nat) (hka : ka < 12) (xkb : Int32) (hx : xkb < 0 ∨ nI 7 ≤ xkb) (ykc : Int32) : kt_ l my_S_edge (Cond.code my_S_edge bc_S_edge 4 none :: tw_) { frames := 40, cells := 1, slots := 6, locals := 2000 } D (ty_s cI cL cF) (xp_ h th) (ca_ h) (nv_ (ca_ h)) [.ref h, .int (nI ka), .int xkb, .int ykc] (kp_ D h cI cL cF I J sh fr en) (kp_ D h cI cL cF I J sh fr en) "java/lang/IndexOutOfBoundsException" := by
  refine aw_metX (A := ca_ h) (own := "FamilyShelf") (by decide) rfl rfl (Nat.le_of_ble_eq_true rfl) ?_
  intro p9 e s m args below meth c C hr hno hX hP0
  refine aw_lw (lw' := [some (.ref h), some (.int (nI ka)), some (.int xkb), some (.int ykc)]) rfl ?_
  refine aw_iload_n C dc_S_edge_0 rfl ?_
  refine kc_v (fun _ h => h) (fun _ h => h) (kc_S (n := 1) C hX.1 (xw_k ca_le) (s_checkElement l D _ _ _ _ ka hka) kw_416 kw_414 kw_415 kw_1 (by unfold kd_; decide) ⟨rfl, rfl, by decide, by decide⟩ rfl rfl (Nat.le_of_ble_eq_true rfl) ⟨Nat.zero_le _, Nat.zero_le _⟩ dc_S_edge_1) ?_
  refine aw_iload_n C dc_S_edge_4 rfl ?_
  exact kx_S (n := 1) C hX.2 (xe_k ca_le) hno (t_checkVertex l hl D (ty_s cI cL cF) h (ca_ h) ca_le _ xkb hx) kw_461 kw_459 kw_460 kw_1 (by unfold kd_; decide) ⟨rfl, rfl, by decide, by decide⟩ rfl rfl (Nat.le_of_ble_eq_true rfl) (by decide) (by decide) (fun _ h => h) dc_S_edge_5
set_option maxHeartbeats 4000000 in
set_option maxRecDepth 100000 in
theorem t_edge_2 (l : Launch) (hl : l.stackTraces = false) (D : va_G) (h th : Nat) (cI cL cF : ClassId) (I : Nat → Nat → Int32) (J : Nat → Nat → Int64) (sh : Nat → Nat) (fr : Nat) (en : Int32) (ka : Nat) (hka : ka < 12) (kb : Nat) (hkb : kb < 7) (xkc : Int32) (hx : xkc < 0 ∨ nI 7 ≤ xkc) : kt_ l my_S_edge (Cond.code my_S_edge bc_S_edge 4 none :: tw_) { frames := 40, cells := 1, slots := 6, locals := 2000 } D (ty_s cI cL cF) (xp_ h th) (ca_ h) (nv_ (ca_ h)) [.ref h, .int (nI ka), .int (nI kb), .int xkc] (kp_ D h cI cL cF I J sh fr en) (kp_ D h cI cL cF I J sh fr en) "java/lang/IndexOutOfBoundsException" := by
  refine aw_metX (A := ca_ h) (own := "FamilyShelf") (by decide) rfl rfl (Nat.le_of_ble_eq_true rfl) ?_
  intro p9 e s m args below meth c C hr hno hX hP0
  refine aw_lw (lw' := [some (.ref h), some (.int (nI ka)), some (.int (nI kb)), some (.int xkc)]) rfl ?_
  refine aw_iload_n C dc_S_edge_0 rfl ?_
  refine kc_v (fun _ h => h) (fun _ h => h) (kc_S (n := 1) C hX.1 (xw_k ca_le) (s_checkElement l D _ _ _ _ ka hka) kw_416 kw_414 kw_415 kw_1 (by unfold kd_; decide) ⟨rfl, rfl, by decide, by decide⟩ rfl rfl (Nat.le_of_ble_eq_true rfl) ⟨Nat.zero_le _, Nat.zero_le _⟩ dc_S_edge_1) ?_
  refine aw_iload_n C dc_S_edge_4 rfl ?_
  refine kc_v (fun _ h => h) (fun _ h => h) (kc_S (n := 1) C hX.1 (xw_k ca_le) (s_checkVertex l D _ _ _ _ kb hkb) kw_461 kw_459 kw_460 kw_1 (by unfold kd_; decide) ⟨rfl, rfl, by decide, by decide⟩ rfl rfl (Nat.le_of_ble_eq_true rfl) ⟨Nat.zero_le _, Nat.zero_le _⟩ dc_S_edge_5) ?_
  refine aw_iload_n C dc_S_edge_8 rfl ?_
  exact kx_S (n := 1) C hX.2 (xe_k ca_le) hno (t_checkVertex l hl D (ty_s cI cL cF) h (ca_ h) ca_le _ xkc hx) kw_461 kw_459 kw_460 kw_1 (by unfold kd_; decide) ⟨rfl, rfl, by decide, by decide⟩ rfl rfl (Nat.le_of_ble_eq_true rfl) (by decide) (by decide) (fun _ h => h) dc_S_edge_9
set_option maxHeartbeats 4000000 in
set_option maxRecDepth 100000 in
theorem t_cut_0 (l : Launch) (hl : l.stackTraces = false) (D : va_G) (h th : Nat) (cI cL cF : ClassId) (I : Nat → Nat → Int32) (J : Nat → Nat → Int64) (sh : Nat → Nat) (fr : Nat) (en : Int32) (xka : Int32) (hx : xka < 0 ∨ nI 12 ≤ xka) : kt_ l my_S_cut (Cond.code my_S_cut bc_S_cut 2 (some .boolean) :: tw_) { frames := 40, cells := 1, slots := 6, locals := 2000 } D (ty_s cI cL cF) (xp_ h th) (ca_ h) (ni_ (ca_ h)) [.ref h, .int xka] (kp_ D h cI cL cF I J sh fr en) (kp_ D h cI cL cF I J sh fr en) "java/lang/IndexOutOfBoundsException" := by
  refine aw_metX (A := ca_ h) (own := "FamilyShelf") (by decide) rfl rfl (Nat.le_of_ble_eq_true rfl) ?_
  intro p9 e s m args below meth c C hr hno hX hP0
  refine aw_lw (lw' := [some (.ref h), some (.int xka)]) rfl ?_
  refine aw_iload_n C dc_S_cut_0 rfl ?_
  exact kx_S (n := 1) C hX.2 (xe_k ca_le) hno (t_checkElement l hl D (ty_s cI cL cF) h (ca_ h) ca_le _ xka hx) kw_416 kw_414 kw_415 kw_1 (by unfold kd_; decide) ⟨rfl, rfl, by decide, by decide⟩ rfl rfl (Nat.le_of_ble_eq_true rfl) (by decide) (by decide) (fun _ h => h) dc_S_cut_1
set_option maxHeartbeats 4000000 in
set_option maxRecDepth 100000 in
theorem t_paths_0 (l : Launch) (hl : l.stackTraces = false) (D : va_G) (h th : Nat) (cI cL cF : ClassId) (I : Nat → Nat → Int32) (J : Nat → Nat → Int64) (sh : Nat → Nat) (fr : Nat) (en : Int32) (xka : Int32) (hx : xka < 0 ∨ nI 10 ≤ xka) (ykb : Int32) (ykc : Int32) : kt_ l my_S_paths (Cond.code my_S_paths bc_S_paths 4 (some .int) :: tw_) { frames := 40, cells := 1, slots := 6, locals := 2000 } D (ty_s cI cL cF) (xp_ h th) (ca_ h) (ni_ (ca_ h)) [.ref h, .int xka, .int ykb, .int ykc] (kp_ D h cI cL cF I J sh fr en) (kp_ D h cI cL cF I J sh fr en) "java/lang/IndexOutOfBoundsException" := by
  refine aw_metX (A := ca_ h) (own := "FamilyShelf") (by decide) rfl rfl (Nat.le_of_ble_eq_true rfl) ?_
  intro p9 e s m args below meth c C hr hno hX hP0
  refine aw_lw (lw' := [some (.ref h), some (.int xka), some (.int ykb), some (.int ykc)]) rfl ?_
  refine aw_iload_n C dc_S_paths_0 rfl ?_
  exact kx_S (n := 1) C hX.2 (xe_k ca_le) hno (t_checkShelf l hl D (ty_s cI cL cF) h (ca_ h) ca_le _ xka hx) kw_146 kw_144 kw_145 kw_1 (by unfold kd_; decide) ⟨rfl, rfl, by decide, by decide⟩ rfl rfl (Nat.le_of_ble_eq_true rfl) (by decide) (by decide) (fun _ h => h) dc_S_paths_1
set_option maxHeartbeats 4000000 in
set_option maxRecDepth 100000 in
theorem t_paths_1 (l : Launch) (hl : l.stackTraces = false) (D : va_G) (h th : Nat) (cI cL cF : ClassId) (I : Nat → Nat → Int32) (J : Nat → Nat → Int64) (sh : Nat → Nat) (fr : Nat) (en : Int32) (ka : Nat) (hka : ka < 10) (xkb : Int32) (hx : xkb < 0 ∨ nI 7 ≤ xkb) (ykc : Int32) : kt_ l my_S_paths (Cond.code my_S_paths bc_S_paths 4 (some .int) :: tw_) { frames := 40, cells := 1, slots := 6, locals := 2000 } D (ty_s cI cL cF) (xp_ h th) (ca_ h) (ni_ (ca_ h)) [.ref h, .int (nI ka), .int xkb, .int ykc] (kp_ D h cI cL cF I J sh fr en) (kp_ D h cI cL cF I J sh fr en) "java/lang/IndexOutOfBoundsException" := by
  refine aw_metX (A := ca_ h) (own := "FamilyShelf") (by decide) rfl rfl (Nat.le_of_ble_eq_true rfl) ?_
  intro p9 e s m args below meth c C hr hno hX hP0
  refine aw_lw (lw' := [some (.ref h), some (.int (nI ka)), some (.int xkb), some (.int ykc)]) rfl ?_
  refine aw_iload_n C dc_S_paths_0 rfl ?_
  refine kc_v (fun _ h => h) (fun _ h => h) (kc_S (n := 1) C hX.1 (xw_k ca_le) (s_checkShelf l D _ _ _ _ ka hka) kw_146 kw_144 kw_145 kw_1 (by unfold kd_; decide) ⟨rfl, rfl, by decide, by decide⟩ rfl rfl (Nat.le_of_ble_eq_true rfl) ⟨Nat.zero_le _, Nat.zero_le _⟩ dc_S_paths_1) ?_
  refine aw_iload_n C dc_S_paths_4 rfl ?_
  exact kx_S (n := 1) C hX.2 (xe_k ca_le) hno (t_checkVertex l hl D (ty_s cI cL cF) h (ca_ h) ca_le _ xkb hx) kw_461 kw_459 kw_460 kw_1 (by unfold kd_; decide) ⟨rfl, rfl, by decide, by decide⟩ rfl rfl (Nat.le_of_ble_eq_true rfl) (by decide) (by decide) (fun _ h => h) dc_S_paths_5
set_option maxHeartbeats 4000000 in
set_option maxRecDepth 100000 in
theorem t_paths_2 (l : Launch) (hl : l.stackTraces = false) (D : va_G) (h th : Nat) (cI cL cF : ClassId) (I : Nat → Nat → Int32) (J : Nat → Nat → Int64) (sh : Nat → Nat) (fr : Nat) (en : Int32) (ka : Nat) (hka : ka < 10) (kb : Nat) (hkb : kb < 7) (xkc : Int32) (hx : xkc < 0 ∨ nI 7 ≤ xkc) : kt_ l my_S_paths (Cond.code my_S_paths bc_S_paths 4 (some .int) :: tw_) { frames := 40, cells := 1, slots := 6, locals := 2000 } D (ty_s cI cL cF) (xp_ h th) (ca_ h) (ni_ (ca_ h)) [.ref h, .int (nI ka), .int (nI kb), .int xkc] (kp_ D h cI cL cF I J sh fr en) (kp_ D h cI cL cF I J sh fr en) "java/lang/IndexOutOfBoundsException" := by
  refine aw_metX (A := ca_ h) (own := "FamilyShelf") (by decide) rfl rfl (Nat.le_of_ble_eq_true rfl) ?_
  intro p9 e s m args below meth c C hr hno hX hP0
  refine aw_lw (lw' := [some (.ref h), some (.int (nI ka)), some (.int (nI kb)), some (.int xkc)]) rfl ?_
  refine aw_iload_n C dc_S_paths_0 rfl ?_
  refine kc_v (fun _ h => h) (fun _ h => h) (kc_S (n := 1) C hX.1 (xw_k ca_le) (s_checkShelf l D _ _ _ _ ka hka) kw_146 kw_144 kw_145 kw_1 (by unfold kd_; decide) ⟨rfl, rfl, by decide, by decide⟩ rfl rfl (Nat.le_of_ble_eq_true rfl) ⟨Nat.zero_le _, Nat.zero_le _⟩ dc_S_paths_1) ?_
  refine aw_iload_n C dc_S_paths_4 rfl ?_
  refine kc_v (fun _ h => h) (fun _ h => h) (kc_S (n := 1) C hX.1 (xw_k ca_le) (s_checkVertex l D _ _ _ _ kb hkb) kw_461 kw_459 kw_460 kw_1 (by unfold kd_; decide) ⟨rfl, rfl, by decide, by decide⟩ rfl rfl (Nat.le_of_ble_eq_true rfl) ⟨Nat.zero_le _, Nat.zero_le _⟩ dc_S_paths_5) ?_
  refine aw_iload_n C dc_S_paths_8 rfl ?_
  exact kx_S (n := 1) C hX.2 (xe_k ca_le) hno (t_checkVertex l hl D (ty_s cI cL cF) h (ca_ h) ca_le _ xkc hx) kw_461 kw_459 kw_460 kw_1 (by unfold kd_; decide) ⟨rfl, rfl, by decide, by decide⟩ rfl rfl (Nat.le_of_ble_eq_true rfl) (by decide) (by decide) (fun _ h => h) dc_S_paths_9
set_option maxHeartbeats 4000000 in
set_option maxRecDepth 100000 in
theorem t_weight_0 (l : Launch) (hl : l.stackTraces = false) (D : va_G) (h th : Nat) (cI cL cF : ClassId) (I : Nat → Nat → Int32) (J : Nat → Nat → Int64) (sh : Nat → Nat) (fr : Nat) (en : Int32) (xka : Int32) (hx : xka < 0 ∨ nI 12 ≤ xka) (ykb : Int32) : kt_ l my_S_weight (Cond.code my_S_weight bc_S_weight 3 (some .int) :: tw_) { frames := 40, cells := 1, slots := 6, locals := 2000 } D (ty_s cI cL cF) (xp_ h th) (ca_ h) (ni_ (ca_ h)) [.ref h, .int xka, .int ykb] (kp_ D h cI cL cF I J sh fr en) (kp_ D h cI cL cF I J sh fr en) "java/lang/IndexOutOfBoundsException" := by
  refine aw_metX (A := ca_ h) (own := "FamilyShelf") (by decide) rfl rfl (Nat.le_of_ble_eq_true rfl) ?_
  intro p9 e s m args below meth c C hr hno hX hP0
  refine aw_lw (lw' := [some (.ref h), some (.int xka), some (.int ykb)]) rfl ?_
  refine aw_iload_n C dc_S_weight_0 rfl ?_
  exact kx_S (n := 1) C hX.2 (xe_k ca_le) hno (t_checkElement l hl D (ty_s cI cL cF) h (ca_ h) ca_le _ xka hx) kw_416 kw_414 kw_415 kw_1 (by unfold kd_; decide) ⟨rfl, rfl, by decide, by decide⟩ rfl rfl (Nat.le_of_ble_eq_true rfl) (by decide) (by decide) (fun _ h => h) dc_S_weight_1
set_option maxHeartbeats 4000000 in
set_option maxRecDepth 100000 in
theorem t_weight_1 (l : Launch) (hl : l.stackTraces = false) (D : va_G) (h th : Nat) (cI cL cF : ClassId) (I : Nat → Nat → Int32) (J : Nat → Nat → Int64) (sh : Nat → Nat) (fr : Nat) (en : Int32) (ka : Nat) (hka : ka < 12) (xkb : Int32) (hx : xkb < (-99) ∨ (nI 99) < xkb) : kt_ l my_S_weight (Cond.code my_S_weight bc_S_weight 3 (some .int) :: tw_) { frames := 40, cells := 1, slots := 6, locals := 2000 } D (ty_s cI cL cF) (xp_ h th) (ca_ h) (ni_ (ca_ h)) [.ref h, .int (nI ka), .int xkb] (kp_ D h cI cL cF I J sh fr en) (kp_ D h cI cL cF I J sh fr en) "java/lang/IllegalArgumentException" := by
  refine aw_metX (A := ca_ h) (own := "FamilyShelf") (by decide) rfl rfl (Nat.le_of_ble_eq_true rfl) ?_
  intro p9 e s m args below meth c C hr hno hX hP0
  refine aw_lw (lw' := [some (.ref h), some (.int (nI ka)), some (.int xkb)]) rfl ?_
  refine aw_iload_n C dc_S_weight_0 rfl ?_
  refine kc_v (fun _ h => h) (fun _ h => h) (kc_S (n := 1) C hX.1 (xw_k ca_le) (s_checkElement l D _ _ _ _ ka hka) kw_416 kw_414 kw_415 kw_1 (by unfold kd_; decide) ⟨rfl, rfl, by decide, by decide⟩ rfl rfl (Nat.le_of_ble_eq_true rfl) ⟨Nat.zero_le _, Nat.zero_le _⟩ dc_S_weight_1) ?_
  refine aw_iload_n C dc_S_weight_4 rfl ?_
  refine aw_bipush C dc_S_weight_5 (v := (-99)) rfl ?_
  refine aw_bipush C dc_S_weight_7 (v := nI 99) rfl ?_
  exact kx_S (n := 3) C hX.2 (xe_k ca_le) hno (t_checkRange l hl D (ty_s cI cL cF) h (ca_ h) ca_le _ xkb (-99) (nI 99) hx) kw_221 kw_219 kw_220 kw_1 (by unfold kd_; decide) ⟨rfl, rfl, by decide, by decide⟩ rfl rfl (Nat.le_of_ble_eq_true rfl) (by decide) (by decide) (fun _ h => h) dc_S_weight_9
set_option maxHeartbeats 4000000 in
set_option maxRecDepth 100000 in
theorem t_edge_3 (l : Launch) (hl : l.stackTraces = false) (D : va_G) (h th : Nat) (cI cL cF : ClassId) (I : Nat → Nat → Int32) (J : Nat → Nat → Int64) (sh : Nat → Nat) (fr : Nat) (en : Int32) (a : Nat) (ha : a < 12) (u : Nat) (hu : u < 7) : kt_ l my_S_edge (Cond.code my_S_edge bc_S_edge 4 none :: tw_) { frames := 40, cells := 1, slots := 6, locals := 2000 } D (ty_s cI cL cF) (xp_ h th) (ca_ h) (nv_ (ca_ h)) [.ref h, .int (nI a), .int (nI u), .int (nI u)] (kp_ D h cI cL cF I J sh fr en) (kp_ D h cI cL cF I J sh fr en) "java/lang/IllegalArgumentException" := by
  refine aw_metX (A := ca_ h) (own := "FamilyShelf") (by decide) rfl rfl (Nat.le_of_ble_eq_true rfl) ?_
  intro p9 e s m args below meth c C hr hno hX hP0
  refine aw_lw (lw' := [some (.ref h), some (.int (nI a)), some (.int (nI u)), some (.int (nI u))]) rfl ?_
  refine aw_iload_n C dc_S_edge_0 rfl ?_
  refine kc_v (fun _ h => h) (fun _ h => h) (kc_S (n := 1) C hX.1 (xw_k ca_le) (s_checkElement l D _ _ _ _ a ha) kw_416 kw_414 kw_415 kw_1 (by unfold kd_; decide) ⟨rfl, rfl, by decide, by decide⟩ rfl rfl (Nat.le_of_ble_eq_true rfl) ⟨Nat.zero_le _, Nat.zero_le _⟩ dc_S_edge_1) ?_
  refine aw_iload_n C dc_S_edge_4 rfl ?_
  refine kc_v (fun _ h => h) (fun _ h => h) (kc_S (n := 1) C hX.1 (xw_k ca_le) (s_checkVertex l D _ _ _ _ u hu) kw_461 kw_459 kw_460 kw_1 (by unfold kd_; decide) ⟨rfl, rfl, by decide, by decide⟩ rfl rfl (Nat.le_of_ble_eq_true rfl) ⟨Nat.zero_le _, Nat.zero_le _⟩ dc_S_edge_5) ?_
  refine aw_iload_n C dc_S_edge_8 rfl ?_
  refine kc_v (fun _ h => h) (fun _ h => h) (kc_S (n := 1) C hX.1 (xw_k ca_le) (s_checkVertex l D _ _ _ _ u hu) kw_461 kw_459 kw_460 kw_1 (by unfold kd_; decide) ⟨rfl, rfl, by decide, by decide⟩ rfl rfl (Nat.le_of_ble_eq_true rfl) ⟨Nat.zero_le _, Nat.zero_le _⟩ dc_S_edge_9) ?_
  refine aw_iload_n C dc_S_edge_12 rfl ?_
  refine aw_iload_n C dc_S_edge_13 rfl ?_
  exact kx_S (n := 2) C hX.2 (xe_k ca_le) hno (t_checkDifferent l hl D (ty_s cI cL cF) h (ca_ h) ca_le _ (nI u)) kw_465 kw_463 kw_464 kw_1 (by unfold kd_; decide) ⟨rfl, rfl, by decide, by decide⟩ rfl rfl (Nat.le_of_ble_eq_true rfl) (by decide) (by decide) (fun _ h => h) dc_S_edge_14
set_option maxHeartbeats 4000000 in
set_option maxRecDepth 100000 in
theorem t_combine_d7 (l : Launch) (hl : l.stackTraces = false) (D : va_G) (h th : Nat) (cI cL cF : ClassId) (I : Nat → Nat → Int32) (J : Nat → Nat → Int64) (sh : Nat → Nat) (fr : Nat) (en : Int32) (hs : shok_ sh fr) (i : Nat) (hi : i < 10) (fa : Nat) (hfa : fa < 10) (gb : Nat) (hgb : gb < 10) (hz : tw64_ (J (sh gb + 1)) 64 = 0) : kt_ l my_S_combine (Cond.code my_S_combine bc_S_combine 5 (some .int) :: tw_) { frames := 40, cells := 1, slots := 6, locals := 2000 } D (ty_s cI cL cF) (xp_ h th) (ca_ h) (ni_ (ca_ h)) [.ref h, .int (nI i), .int (nI 7), .int (nI fa), .int (nI gb)] (kp_ D h cI cL cF I J sh fr en) (kp_ D h cI cL cF I J sh fr en) "java/lang/ArithmeticException" := by
  refine aw_metX (A := ca_ h) (own := "FamilyShelf") (by decide) rfl rfl (Nat.le_of_ble_eq_true rfl) ?_
  intro p9 e s m args below meth c C hr hno hX hP0
  refine aw_lw (lw' := [some (.ref h), some (.int (nI i)), some (.int (nI 7)), some (.int (nI fa)), some (.int (nI gb))]) rfl ?_
  refine aw_iload_n C dc_S_combine_0 rfl ?_
  refine kc_v (fun _ h => h) (fun _ h => h) (kc_S (n := 1) C hX.1 (xw_k ca_le) (s_checkShelf l D _ _ _ _ i hi) kw_146 kw_144 kw_145 kw_1 (by unfold kd_; decide) ⟨rfl, rfl, by decide, by decide⟩ rfl rfl (Nat.le_of_ble_eq_true rfl) ⟨Nat.zero_le _, Nat.zero_le _⟩ dc_S_combine_1) ?_
  refine aw_iload_n C dc_S_combine_4 rfl ?_
  refine kc_v (fun _ h => h) (fun _ h => h) (kc_S (n := 1) C hX.1 (xw_k ca_le) (s_checkShelf l D _ _ _ _ fa hfa) kw_146 kw_144 kw_145 kw_1 (by unfold kd_; decide) ⟨rfl, rfl, by decide, by decide⟩ rfl rfl (Nat.le_of_ble_eq_true rfl) ⟨Nat.zero_le _, Nat.zero_le _⟩ dc_S_combine_5) ?_
  refine aw_iload C dc_S_combine_8 rfl ?_
  refine kc_v (fun _ h => h) (fun _ h => h) (kc_S (n := 1) C hX.1 (xw_k ca_le) (s_checkShelf l D _ _ _ _ gb hgb) kw_146 kw_144 kw_145 kw_1 (by unfold kd_; decide) ⟨rfl, rfl, by decide, by decide⟩ rfl rfl (Nat.le_of_ble_eq_true rfl) ⟨Nat.zero_le _, Nat.zero_le _⟩ dc_S_combine_10) ?_
  refine aw_iload_n C dc_S_combine_13 rfl ?_
  refine aw_iconst C dc_S_combine_14 (v := nI 0) rfl ?_
  refine aw_bipush C dc_S_combine_15 (v := nI 8) rfl ?_
  refine kc_v (fun _ h => h) (fun _ h => h) (kc_S (n := 3) C hX.1 (xw_k ca_le) (s_checkRange l D _ _ _ _ (nI 7) (nI 0) (nI 8) (by decide) (by decide)) kw_221 kw_219 kw_220 kw_1 (by unfold kd_; decide) ⟨rfl, rfl, by decide, by decide⟩ rfl rfl (Nat.le_of_ble_eq_true rfl) ⟨Nat.zero_le _, Nat.zero_le _⟩ dc_S_combine_17) ?_
  refine aw_iload_n C dc_S_combine_20 rfl ?_
  refine aw_bipush C dc_S_combine_21 (v := nI 7) rfl ?_
  refine aw_icmp_eq C dc_S_combine_23 (tgt := 32) (by decide) (fun _ => ?_) (fun h9 => absurd (rfl) h9)
  refine aw_aload_n C dc_S_combine_32 rfl ?_
  refine aw_get C (fun w h => List.mem_cons_of_mem _ (ly_S w h)) 0 sy_p0 rfl 0 (by decide) (C.1.2.2.2.2 _ (List.mem_cons_of_mem _ kw_116)) (fun _ h => h) rfl dc_S_combine_33 ?_
  refine aw_iload C dc_S_combine_36 rfl ?_
  refine aw_aald C 1 2 sy_p1 rfl gb rfl hgb (by decide) (y := h + sh gb) rfl dc_S_combine_38 ?_
  exact kx_S (n := 1) C hX (xp_k ca_le) hno (t_checkDivisor l hl D h th cI cL cF I J sh fr en (sh gb) (hs.2.2.2 gb hgb).1 hz) kw_302 kw_300 kw_301 kw_1 (by unfold kd_; decide) ⟨rfl, rfl, by decide, by decide⟩ rfl rfl (Nat.le_of_ble_eq_true rfl) (by decide) (by decide) (fun _ h => h) dc_S_combine_39
set_option maxHeartbeats 4000000 in
set_option maxRecDepth 100000 in
theorem t_combine_d8 (l : Launch) (hl : l.stackTraces = false) (D : va_G) (h th : Nat) (cI cL cF : ClassId) (I : Nat → Nat → Int32) (J : Nat → Nat → Int64) (sh : Nat → Nat) (fr : Nat) (en : Int32) (hs : shok_ sh fr) (i : Nat) (hi : i < 10) (fa : Nat) (hfa : fa < 10) (gb : Nat) (hgb : gb < 10) (hz : tw64_ (J (sh gb + 1)) 64 = 0) : kt_ l my_S_combine (Cond.code my_S_combine bc_S_combine 5 (some .int) :: tw_) { frames := 40, cells := 1, slots := 6, locals := 2000 } D (ty_s cI cL cF) (xp_ h th) (ca_ h) (ni_ (ca_ h)) [.ref h, .int (nI i), .int (nI 8), .int (nI fa), .int (nI gb)] (kp_ D h cI cL cF I J sh fr en) (kp_ D h cI cL cF I J sh fr en) "java/lang/ArithmeticException" := by
  refine aw_metX (A := ca_ h) (own := "FamilyShelf") (by decide) rfl rfl (Nat.le_of_ble_eq_true rfl) ?_
  intro p9 e s m args below meth c C hr hno hX hP0
  refine aw_lw (lw' := [some (.ref h), some (.int (nI i)), some (.int (nI 8)), some (.int (nI fa)), some (.int (nI gb))]) rfl ?_
  refine aw_iload_n C dc_S_combine_0 rfl ?_
  refine kc_v (fun _ h => h) (fun _ h => h) (kc_S (n := 1) C hX.1 (xw_k ca_le) (s_checkShelf l D _ _ _ _ i hi) kw_146 kw_144 kw_145 kw_1 (by unfold kd_; decide) ⟨rfl, rfl, by decide, by decide⟩ rfl rfl (Nat.le_of_ble_eq_true rfl) ⟨Nat.zero_le _, Nat.zero_le _⟩ dc_S_combine_1) ?_
  refine aw_iload_n C dc_S_combine_4 rfl ?_
  refine kc_v (fun _ h => h) (fun _ h => h) (kc_S (n := 1) C hX.1 (xw_k ca_le) (s_checkShelf l D _ _ _ _ fa hfa) kw_146 kw_144 kw_145 kw_1 (by unfold kd_; decide) ⟨rfl, rfl, by decide, by decide⟩ rfl rfl (Nat.le_of_ble_eq_true rfl) ⟨Nat.zero_le _, Nat.zero_le _⟩ dc_S_combine_5) ?_
  refine aw_iload C dc_S_combine_8 rfl ?_
  refine kc_v (fun _ h => h) (fun _ h => h) (kc_S (n := 1) C hX.1 (xw_k ca_le) (s_checkShelf l D _ _ _ _ gb hgb) kw_146 kw_144 kw_145 kw_1 (by unfold kd_; decide) ⟨rfl, rfl, by decide, by decide⟩ rfl rfl (Nat.le_of_ble_eq_true rfl) ⟨Nat.zero_le _, Nat.zero_le _⟩ dc_S_combine_10) ?_
  refine aw_iload_n C dc_S_combine_13 rfl ?_
  refine aw_iconst C dc_S_combine_14 (v := nI 0) rfl ?_
  refine aw_bipush C dc_S_combine_15 (v := nI 8) rfl ?_
  refine kc_v (fun _ h => h) (fun _ h => h) (kc_S (n := 3) C hX.1 (xw_k ca_le) (s_checkRange l D _ _ _ _ (nI 8) (nI 0) (nI 8) (by decide) (by decide)) kw_221 kw_219 kw_220 kw_1 (by unfold kd_; decide) ⟨rfl, rfl, by decide, by decide⟩ rfl rfl (Nat.le_of_ble_eq_true rfl) ⟨Nat.zero_le _, Nat.zero_le _⟩ dc_S_combine_17) ?_
  refine aw_iload_n C dc_S_combine_20 rfl ?_
  refine aw_bipush C dc_S_combine_21 (v := nI 7) rfl ?_
  refine aw_icmp_eq C dc_S_combine_23 (tgt := 32) (by decide) (fun h9 => absurd h9 (by decide)) (fun _ => ?_)
  refine aw_iload_n C dc_S_combine_26 rfl ?_
  refine aw_bipush C dc_S_combine_27 (v := nI 8) rfl ?_
  refine aw_icmp_ne C dc_S_combine_29 (tgt := 42) (by decide) (fun h9 => absurd (rfl) h9) (fun _ => ?_)
  refine aw_aload_n C dc_S_combine_32 rfl ?_
  refine aw_get C (fun w h => List.mem_cons_of_mem _ (ly_S w h)) 0 sy_p0 rfl 0 (by decide) (C.1.2.2.2.2 _ (List.mem_cons_of_mem _ kw_116)) (fun _ h => h) rfl dc_S_combine_33 ?_
  refine aw_iload C dc_S_combine_36 rfl ?_
  refine aw_aald C 1 2 sy_p1 rfl gb rfl hgb (by decide) (y := h + sh gb) rfl dc_S_combine_38 ?_
  exact kx_S (n := 1) C hX (xp_k ca_le) hno (t_checkDivisor l hl D h th cI cL cF I J sh fr en (sh gb) (hs.2.2.2 gb hgb).1 hz) kw_302 kw_300 kw_301 kw_1 (by unfold kd_; decide) ⟨rfl, rfl, by decide, by decide⟩ rfl rfl (Nat.le_of_ble_eq_true rfl) (by decide) (by decide) (fun _ h => h) dc_S_combine_39
set_option maxHeartbeats 4000000 in
set_option maxRecDepth 100000 in
theorem t_heaviest_1 (l : Launch) (hl : l.stackTraces = false) (D : va_G) (h th : Nat) (cI cL cF : ClassId) (I : Nat → Nat → Int32) (J : Nat → Nat → Int64) (sh : Nat → Nat) (fr : Nat) (en : Int32) (hs : shok_ sh fr) (i : Nat) (hi : i < 10) (hq : (hp_ (J (sh i + 1)) (hs_ I) 4096).1 = -1) : kt_ l my_S_heaviest (Cond.code my_S_heaviest bc_S_heaviest 3 (some .int) :: tw_) { frames := 40, cells := 1, slots := 6, locals := 2000 } D (ty_s cI cL cF) (xp_ h th) (ca_ h) (ni_ (ca_ h)) [.ref h, .int (nI i)] (kp_ D h cI cL cF I J sh fr en) (kp_ D h cI cL cF (hI_ I) J sh fr en) "java/util/NoSuchElementException" := by
  refine aw_metX (A := ca_ h) (own := "FamilyShelf") (by decide) rfl rfl (Nat.le_of_ble_eq_true rfl) ?_
  intro p9 e s m args below meth c C hr hno hX hP0
  refine aw_lw (lw' := [some (.ref h), some (.int (nI i)), none]) rfl ?_
  refine aw_iload_n C dc_S_heaviest_0 rfl ?_
  refine kc_v (fun _ h => h) (fun _ h => h) (kc_S (n := 1) C hX.1 (xw_k ca_le) (s_checkShelf l D _ _ _ _ i hi) kw_146 kw_144 kw_145 kw_1 (by unfold kd_; decide) ⟨rfl, rfl, by decide, by decide⟩ rfl rfl (Nat.le_of_ble_eq_true rfl) ⟨Nat.zero_le _, Nat.zero_le _⟩ dc_S_heaviest_1) ?_
  refine aw_aload_n C dc_S_heaviest_4 rfl ?_
  refine aw_get C (fun w h => List.mem_cons_of_mem _ (ly_S w h)) 0 sy_p0 rfl 3 (by decide) (C.1.2.2.2.2 _ (List.mem_cons_of_mem _ kw_119)) (fun _ h => h) rfl dc_S_heaviest_5 ?_
  refine aw_aload_n C dc_S_heaviest_8 rfl ?_
  refine aw_get C (fun w h => List.mem_cons_of_mem _ (ly_S w h)) 0 sy_p0 rfl 0 (by decide) (C.1.2.2.2.2 _ (List.mem_cons_of_mem _ kw_116)) (fun _ h => h) rfl dc_S_heaviest_9 ?_
  refine aw_iload_n C dc_S_heaviest_12 rfl ?_
  refine aw_aald C 1 2 sy_p1 rfl i rfl hi (by decide) (y := h + sh i) rfl dc_S_heaviest_13 ?_
  refine kc_i (fun _ h => h) (fun _ h => h) (kc_V (n := 1) C hX.1 (xw_k ca_le) rfl 11 sy_p11 rfl (w_heaviestPlace l D h th cI cL cF I J sh fr en (sh i) (hs.2.2.2 i hi).1) kw_570 kw_567 kw_568 kw_569 kw_6 rfl (by unfold kd_; decide) ⟨rfl, rfl, by decide, by decide⟩ rfl rfl (Nat.le_of_ble_eq_true rfl) ⟨Nat.zero_le _, Nat.zero_le _⟩ dc_S_heaviest_14) ?_
  refine aw_eqi hq ?_
  refine aw_istore_n C dc_S_heaviest_17 (by decide) rfl ?_
  refine aw_iload_n C dc_S_heaviest_18 rfl ?_
  exact kx_S (n := 1) C hX.2 (xe_k ca_le) hno (t_checkFound l hl D (ty_s cI cL cF) h (ca_ h) ca_le _) kw_579 kw_577 kw_578 kw_1 (by unfold kd_; decide) ⟨rfl, rfl, by decide, by decide⟩ rfl rfl (Nat.le_of_ble_eq_true rfl) (by decide) (by decide) (fun _ h => h) dc_S_heaviest_19
