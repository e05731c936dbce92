/-! Class and reference side by side: one call of each, for all arguments. -/
abbrev cs_ : Type := (Nat → Nat → Int32) × (Nat → Nat → Int64) × (Nat → Nat) × Nat × Int32
abbrev rs_ : Type := (Nat → Int64) × (Nat → Int64) × (Nat → Int64) × (Nat → Int32) × (Nat → Int32) × (Nat → Int32) × (Nat → Int32) × (Nat → Int32)
abbrev wc_ (D : va_G) (h : Nat) (cI cL cF : ClassId) (c : cs_) (o : Nat) (O : Nat → Int64) : Heap → Prop := ow_ D h cI cL cF c.1 c.2.1 c.2.2.1 c.2.2.2.1 c.2.2.2.2 o O
abbrev wm_ (D : va_G) (a : Nat) (cI cL : ClassId) (t : Int32) (m : rs_) : Heap → Prop := rp_ D a cI cL t m.1 m.2.1 m.2.2.1 m.2.2.2.1 m.2.2.2.2.1 m.2.2.2.2.2.1 m.2.2.2.2.2.2.1 m.2.2.2.2.2.2.2
abbrev rr_ (c : cs_) (m : rs_) : Prop := rl_ c.1 c.2.1 c.2.2.1 c.2.2.2.1 c.2.2.2.2 m.1 m.2.2.2.2.2.1 m.2.2.2.2.2.2.1 m.2.2.2.2.2.2.2
def bi_ (l : Launch) (D : va_G) (h th a o : Nat) (cI cL cF : ClassId) (yL : MethodName) (wsL : List Cond) (yM : MethodName) (wsM : List Cond) (rmM : Room) (B : Int32 → Prop) (c : cs_) (O : Nat → Int64) (t : Int32) (m : rs_) (av : List Value) : Prop :=
  ∃ (k : Nat) (c' : cs_) (O' : Nat → Int64) (m' : rs_) (r : Int32), k < 4 ∧ rr_ c' m' ∧ (k = 0 → O' 0 = r.toInt64) ∧ B r ∧ kh_ l yL wsL { frames := 41, cells := 1, slots := 6, locals := 2040 } D (ty_s cI cL cF) (xq_ h th) (sA_ h o) (.ref h :: (av ++ [.ref o])) (wc_ D h cI cL cF c o O) (wc_ D h cI cL cF c' o O') (nI k) ∧ ki_ l yM wsM rmM D (ty_s cI cL cF) (fun _ => True) (cm_ a) (.ref a :: av) (wm_ D a cI cL t m) (wm_ D a cI cL (nI k) m') r
def bv_ (l : Launch) (D : va_G) (h th a o : Nat) (cI cL cF : ClassId) (yL : MethodName) (wsL : List Cond) (yM : MethodName) (wsM : List Cond) (rmM : Room) (c : cs_) (O : Nat → Int64) (t : Int32) (m : rs_) (av : List Value) : Prop :=
  ∃ (k : Nat) (c' : cs_) (O' : Nat → Int64) (m' : rs_), k < 4 ∧ rr_ c' m' ∧ kh_ l yL wsL { frames := 41, cells := 1, slots := 6, locals := 2040 } D (ty_s cI cL cF) (xq_ h th) (sA_ h o) (.ref h :: av) (wc_ D h cI cL cF c o O) (wc_ D h cI cL cF c' o O') (nI k) ∧ kv_ l yM wsM rmM D (ty_s cI cL cF) (fun _ => True) (cm_ a) (.ref a :: av) (wm_ D a cI cL t m) (wm_ D a cI cL (nI k) m')
theorem ix2 (x : Int32) {n : Nat} (hn : n < 2 ^ 31) : (x < 0 ∨ nI n ≤ x) ∨ ∃ j : Nat, j < n ∧ x = nI j := by
  rcases pk_ix x hn with h | h | h
  · exact Or.inl (Or.inl h)
  · exact Or.inl (Or.inr h)
  · exact Or.inr h
theorem nI_lts {n : Nat} (hn : n + 1 < 2 ^ 31) {x : Int32} (h : nI (n + 1) ≤ x) : nI n < x := by
  have h1 := Int32.le_iff_toInt_le.mp h
  refine Int32.lt_iff_toInt_lt.mpr ?_
  rw [nI_toInt hn] at h1
  rw [nI_toInt (by omega)]
  omega
theorem ix3 (x : Int32) {n : Nat} (hn : n + 1 < 2 ^ 31) : (x < 0 ∨ nI n < x) ∨ ∃ j : Nat, j ≤ n ∧ x = nI j := by
  rcases pk_ix x hn with h | h | ⟨j, hj, h⟩
  · exact Or.inl (Or.inl h)
  · exact Or.inl (Or.inr (nI_lts hn h))
  · exact Or.inr ⟨j, by omega, h⟩
theorem ix4 (x : Int32) : (x < 0 ∧ True) ∨ ∃ j : Nat, j < 2 ^ 31 ∧ x = nI j := by
  rcases pk_ix x (n := 2 ^ 31 - 1) (by decide) with h | h | ⟨j, hj, h⟩
  · exact Or.inl ⟨h, trivial⟩
  · refine Or.inr ⟨2 ^ 31 - 1, by decide, ?_⟩
    have h1 := Int32.le_iff_toInt_le.mp h
    have h2 := Int32.toInt_lt x
    have h3 : (nI (2 ^ 31 - 1)).toInt = ((2 ^ 31 - 1 : Nat) : Int) := nI_toInt (by decide)
    apply Int32.toInt_inj.mp
    rw [h3] at h1 ⊢
    omega
  · exact Or.inr ⟨j, by omega, h⟩
theorem ix5 {x : Int32} (h : x < 0 ∨ nI 4096 ≤ x) : x < nI 0 ∨ nI 4095 < x := h.elim (fun h => Or.inl h) (fun h => Or.inr (nI_lts (by decide) h))
theorem zl_z1 (b : Bool) : zl_ b = (z1_ b).toInt64 := by cases b <;> decide
theorem uL0 (O : Nat → Int64) (v : Int64) : vp_updL O 0 v 0 = v := pk_uLs
theorem bi_laid {l : Launch} {D : va_G} {h th a o : Nat} {cI cL cF : ClassId} {yL : MethodName} {wsL : List Cond} {yM : MethodName} {wsM : List Cond} {rmM : Room} {c : cs_} {O : Nat → Int64} {t : Int32} {m : rs_} {av : List Value} {I : Nat → Nat → Int32} {J : Nat → Nat → Int64} {sh : Nat → Nat} {fr : Nat} {en : Int32} {S K Qt : Nat → Int64} {O1 O2 En Ot Wt : Nat → Int32} {A B : Nat → Int64}
    (q : rl_ I J sh fr en S En Ot Wt ∧ tw64_ A 64 = tw64_ B 64)
    (hL : kh_ l yL wsL { frames := 41, cells := 1, slots := 6, locals := 2040 } D (ty_s cI cL cF) (xq_ h th) (sA_ h o) (.ref h :: (av ++ [.ref o])) (wc_ D h cI cL cF c o O) (ow_ D h cI cL cF I J sh fr en o (vp_updL O 0 (nI (tw64_ A 64)).toInt64)) (nI 0))
    (hM : ki_ l yM wsM rmM D (ty_s cI cL cF) (fun _ => True) (cm_ a) (.ref a :: av) (wm_ D a cI cL t m) (rp_ D a cI cL (nI 0) S K Qt O1 O2 En Ot Wt) (nI (tw64_ B 64))) : bi_ l D h th a o cI cL cF yL wsL yM wsM rmM (fun _ => True) c O t m av :=
  ⟨0, (I, J, sh, fr, en), vp_updL O 0 (nI (tw64_ A 64)).toInt64, (S, K, Qt, O1, O2, En, Ot, Wt), nI (tw64_ B 64), by decide, q.1, fun _ => (uL0 _ _).trans (congrArg (fun z => (nI z).toInt64) q.2), trivial, hL, hM⟩

set_option maxHeartbeats 4000000 in
set_option maxRecDepth 100000 in
theorem b_put (l : Launch) (hl : l.stackTraces = false) (D : va_G) (h th a o : Nat) (cI cL cF : ClassId) (ho : ¬ ca_ h o) (hho : h ≤ o) (c : cs_) (O : Nat → Int64) (t : Int32) (m : rs_) (hr : rr_ c m) (x : Int32) (y : Int32) : bi_ l D h th a o cI cL cF my_L_put (Cond.codeWith my_L_put bc_L_put 5 (some .int) [(0, 17, 20, 13), (0, 17, 24, 15)] :: tw_) my_M_put (Cond.code my_M_put bc_M_put 5 (some .boolean) :: tw_) ({ frames := 2, cells := 0, slots := 0, locals := 41 }) (fun r => ∃ b, r = z1_ b) c O t m [.int x, .int y] := by
  obtain ⟨I, J, sh, fr, en⟩ := c
  obtain ⟨S, K, Qt, O1, O2, En, Ot, Wt⟩ := m
  have hr : rl_ I J sh fr en S En Ot Wt := hr
  rcases ix2 x (n := 10) (by decide) with hx | ⟨i, hi, rfl⟩
  · exact ⟨1, (I, J, sh, fr, en), O, (S, K, Qt, O1, O2, En, Ot, Wt), 0, by decide, hr, fun h9 => absurd h9 (by decide), ⟨false, rfl⟩, lt_put_0 l hl D h th cI cL cF I J sh fr en x hx y o O ho hho, r_put_0 l D a cI cL cF t S K Qt O1 O2 En Ot Wt x hx y⟩
  · rcases ix2 y (n := 4096) (by decide) with hx | ⟨n, hn, rfl⟩
    · exact ⟨2, (I, J, sh, fr, en), O, (S, K, Qt, O1, O2, En, Ot, Wt), 0, by decide, hr, fun h9 => absurd h9 (by decide), ⟨false, rfl⟩, lt_put_1 l hl D h th cI cL cF I J sh fr en i hi y (ix5 hx) o O ho hho, r_put_1 l D a cI cL cF t S K Qt O1 O2 En Ot Wt i hi y hx⟩
    · have hp : mr_ n 12 < 4096 := mr_lt n (Nat.le_refl _)
      refine ⟨0, (I, va_up J (sh i + 1) (inc_ (J (sh i + 1)) (mr_ n 12)), sh, fr, en), vp_updL O 0 (zl_ (!fb_ (J (sh i + 1)) (mr_ n 12))), (ps_ S i (tu_ n 12), K, Qt, O1, O2, En, Ot, Wt), z1_ (!fb_ (rw_ S i) (tu_ n 12)), by decide, ?_, fun _ => ?_, ⟨_, rfl⟩, l_put l D h th cI cL cF I J sh fr en hr.1 i hi n hn o O ho hho, m_put l D a cI cL cF t S K Qt O1 O2 En Ot Wt i hi n hn⟩
      · show rl_ I (va_up J (sh i + 1) (inc_ (J (sh i + 1)) (mr_ n 12))) sh fr en (ps_ S i (tu_ n 12)) En Ot Wt; rw [tu_mr]; exact rl_put hr hi hp
      · show vp_updL O 0 _ 0 = _; rw [uL0, zl_z1, tu_mr, hr.2.2.1 i _ hi hp]
set_option maxHeartbeats 4000000 in
set_option maxRecDepth 100000 in
theorem b_take (l : Launch) (hl : l.stackTraces = false) (D : va_G) (h th a o : Nat) (cI cL cF : ClassId) (ho : ¬ ca_ h o) (hho : h ≤ o) (c : cs_) (O : Nat → Int64) (t : Int32) (m : rs_) (hr : rr_ c m) (x : Int32) (y : Int32) : bi_ l D h th a o cI cL cF my_L_take (Cond.codeWith my_L_take bc_L_take 5 (some .int) [(0, 17, 20, 13), (0, 17, 24, 15)] :: tw_) my_M_take (Cond.code my_M_take bc_M_take 5 (some .boolean) :: tw_) ({ frames := 2, cells := 0, slots := 0, locals := 41 }) (fun r => ∃ b, r = z1_ b) c O t m [.int x, .int y] := by
  obtain ⟨I, J, sh, fr, en⟩ := c
  obtain ⟨S, K, Qt, O1, O2, En, Ot, Wt⟩ := m
  have hr : rl_ I J sh fr en S En Ot Wt := hr
  rcases ix2 x (n := 10) (by decide) with hx | ⟨i, hi, rfl⟩
  · exact ⟨1, (I, J, sh, fr, en), O, (S, K, Qt, O1, O2, En, Ot, Wt), 0, by decide, hr, fun h9 => absurd h9 (by decide), ⟨false, rfl⟩, lt_take_0 l hl D h th cI cL cF I J sh fr en x hx y o O ho hho, r_take_0 l D a cI cL cF t S K Qt O1 O2 En Ot Wt x hx y⟩
  · rcases ix2 y (n := 4096) (by decide) with hx | ⟨n, hn, rfl⟩
    · exact ⟨2, (I, J, sh, fr, en), O, (S, K, Qt, O1, O2, En, Ot, Wt), 0, by decide, hr, fun h9 => absurd h9 (by decide), ⟨false, rfl⟩, lt_take_1 l hl D h th cI cL cF I J sh fr en i hi y (ix5 hx) o O ho hho, r_take_1 l D a cI cL cF t S K Qt O1 O2 En Ot Wt i hi y hx⟩
    · have hp : mr_ n 12 < 4096 := mr_lt n (Nat.le_refl _)
      refine ⟨0, (I, va_up J (sh i + 1) (exc_ (J (sh i + 1)) (mr_ n 12)), sh, fr, en), vp_updL O 0 (zl_ (fb_ (J (sh i + 1)) (mr_ n 12))), (ts_ S i (tu_ n 12), K, Qt, O1, O2, En, Ot, Wt), z1_ (fb_ (rw_ S i) (tu_ n 12)), by decide, ?_, fun _ => ?_, ⟨_, rfl⟩, l_take l D h th cI cL cF I J sh fr en hr.1 i hi n hn o O ho hho, m_take l D a cI cL cF t S K Qt O1 O2 En Ot Wt i hi n hn⟩
      · show rl_ I (va_up J (sh i + 1) (exc_ (J (sh i + 1)) (mr_ n 12))) sh fr en (ts_ S i (tu_ n 12)) En Ot Wt; rw [tu_mr]; exact rl_take hr hi hp
      · show vp_updL O 0 _ 0 = _; rw [uL0, zl_z1, tu_mr, hr.2.2.1 i _ hi hp]
set_option maxHeartbeats 4000000 in
set_option maxRecDepth 100000 in
theorem b_has (l : Launch) (hl : l.stackTraces = false) (D : va_G) (h th a o : Nat) (cI cL cF : ClassId) (ho : ¬ ca_ h o) (hho : h ≤ o) (c : cs_) (O : Nat → Int64) (t : Int32) (m : rs_) (hr : rr_ c m) (x : Int32) (y : Int32) : bi_ l D h th a o cI cL cF my_L_has (Cond.codeWith my_L_has bc_L_has 5 (some .int) [(0, 17, 20, 13), (0, 17, 24, 15)] :: tw_) my_M_has (Cond.code my_M_has bc_M_has 3 (some .boolean) :: tw_) ({ frames := 2, cells := 0, slots := 0, locals := 41 }) (fun r => ∃ b, r = z1_ b) c O t m [.int x, .int y] := by
  obtain ⟨I, J, sh, fr, en⟩ := c
  obtain ⟨S, K, Qt, O1, O2, En, Ot, Wt⟩ := m
  have hr : rl_ I J sh fr en S En Ot Wt := hr
  rcases ix2 x (n := 10) (by decide) with hx | ⟨i, hi, rfl⟩
  · exact ⟨1, (I, J, sh, fr, en), O, (S, K, Qt, O1, O2, En, Ot, Wt), 0, by decide, hr, fun h9 => absurd h9 (by decide), ⟨false, rfl⟩, lt_has_0 l hl D h th cI cL cF I J sh fr en x hx y o O ho hho, r_has_0 l D a cI cL cF t S K Qt O1 O2 En Ot Wt x hx y⟩
  · rcases ix2 y (n := 4096) (by decide) with hx | ⟨n, hn, rfl⟩
    · exact ⟨2, (I, J, sh, fr, en), O, (S, K, Qt, O1, O2, En, Ot, Wt), 0, by decide, hr, fun h9 => absurd h9 (by decide), ⟨false, rfl⟩, lt_has_1 l hl D h th cI cL cF I J sh fr en i hi y (ix5 hx) o O ho hho, r_has_1 l D a cI cL cF t S K Qt O1 O2 En Ot Wt i hi y hx⟩
    · have hp : mr_ n 12 < 4096 := mr_lt n (Nat.le_refl _)
      refine ⟨0, (I, J, sh, fr, en), vp_updL O 0 (zl_ (fb_ (J (sh i + 1)) (mr_ n 12))), (S, K, Qt, O1, O2, En, Ot, Wt), z1_ (fb_ (rw_ S i) (tu_ n 12)), by decide, hr, fun _ => ?_, ⟨_, rfl⟩, l_has l D h th cI cL cF I J sh fr en hr.1 i hi n hn o O ho hho, m_has l D a cI cL cF t S K Qt O1 O2 En Ot Wt i hi n hn⟩
      show vp_updL O 0 _ 0 = _; rw [uL0, zl_z1, tu_mr, hr.2.2.1 i _ hi hp]
set_option maxHeartbeats 4000000 in
set_option maxRecDepth 100000 in
theorem b_rank (l : Launch) (hl : l.stackTraces = false) (D : va_G) (h th a o : Nat) (cI cL cF : ClassId) (ho : ¬ ca_ h o) (hho : h ≤ o) (c : cs_) (O : Nat → Int64) (t : Int32) (m : rs_) (hr : rr_ c m) (x : Int32) (y : Int32) : bi_ l D h th a o cI cL cF my_L_rank (Cond.codeWith my_L_rank bc_L_rank 5 (some .int) [(0, 10, 13, 13), (0, 10, 17, 15)] :: tw_) my_M_rank (Cond.code my_M_rank bc_M_rank 6 (some .int) :: tw_) ({ frames := 2, cells := 0, slots := 0, locals := 41 }) (fun _ => True) c O t m [.int x, .int y] := by
  obtain ⟨I, J, sh, fr, en⟩ := c
  obtain ⟨S, K, Qt, O1, O2, En, Ot, Wt⟩ := m
  have hr : rl_ I J sh fr en S En Ot Wt := hr
  rcases ix2 x (n := 10) (by decide) with hx | ⟨i, hi, rfl⟩
  · exact ⟨1, (I, J, sh, fr, en), O, (S, K, Qt, O1, O2, En, Ot, Wt), 0, by decide, hr, fun h9 => absurd h9 (by decide), trivial, lt_rank_0 l hl D h th cI cL cF I J sh fr en x hx y o O ho hho, r_rank_0 l D a cI cL cF t S K Qt O1 O2 En Ot Wt x hx y⟩
  · rcases ix2 y (n := 4096) (by decide) with hx | ⟨n, hn, rfl⟩
    · exact ⟨2, (I, J, sh, fr, en), O, (S, K, Qt, O1, O2, En, Ot, Wt), 0, by decide, hr, fun h9 => absurd h9 (by decide), trivial, lt_rank_1 l hl D h th cI cL cF I J sh fr en i hi y (ix5 hx) o O ho hho, r_rank_1 l D a cI cL cF t S K Qt O1 O2 En Ot Wt i hi y hx⟩
    · have hp : mr_ n 12 < 4096 := mr_lt n (Nat.le_refl _)
      refine ⟨0, (I, J, sh, fr, en), vp_updL O 0 (nI (cn_ (fb_ (J (sh i + 1))) (mr_ n 12))).toInt64, (S, K, Qt, O1, O2, En, Ot, Wt), nI (cn_ (fb_ (rw_ S i)) (tu_ n 12)), by decide, hr, fun _ => ?_, trivial, l_rank l D h th cI cL cF I J sh fr en hr.1 i hi n hn o O ho hho, m_rank l D a cI cL cF t S K Qt O1 O2 En Ot Wt i hi n hn⟩
      show vp_updL O 0 _ 0 = _; rw [uL0, tu_mr, rl_rank hr hi (Nat.le_of_lt hp)]
set_option maxHeartbeats 4000000 in
set_option maxRecDepth 100000 in
theorem b_clear (l : Launch) (hl : l.stackTraces = false) (D : va_G) (h th a o : Nat) (cI cL cF : ClassId) (ho : ¬ ca_ h o) (hho : h ≤ o) (c : cs_) (O : Nat → Int64) (t : Int32) (m : rs_) (hr : rr_ c m) (x : Int32) : bi_ l D h th a o cI cL cF my_L_clear (Cond.codeWith my_L_clear bc_L_clear 4 (some .int) [(0, 9, 12, 13)] :: tw_) my_M_clear (Cond.code my_M_clear bc_M_clear 4 (some .int) :: tw_) ({ frames := 2, cells := 0, slots := 0, locals := 46 }) (fun _ => True) c O t m [.int x] := by
  obtain ⟨I, J, sh, fr, en⟩ := c
  obtain ⟨S, K, Qt, O1, O2, En, Ot, Wt⟩ := m
  have hr : rl_ I J sh fr en S En Ot Wt := hr
  rcases ix2 x (n := 10) (by decide) with hx | ⟨i, hi, rfl⟩
  · exact ⟨1, (I, J, sh, fr, en), O, (S, K, Qt, O1, O2, En, Ot, Wt), 0, by decide, hr, fun h9 => absurd h9 (by decide), trivial, lt_clear_0 l hl D h th cI cL cF I J sh fr en x hx o O ho hho, r_clear_0 l D a cI cL cF t S K Qt O1 O2 En Ot Wt x hx⟩
  · refine ⟨0, (I, fillJ_ J (sh i) 0, sh, fr, en), vp_updL O 0 (nI (tw64_ (J (sh i + 1)) 64)).toInt64, (sl_ S i (fun _ => 0) 64, K, Qt, O1, O2, En, Ot, Wt), nI (tw64_ (rw_ S i) 64), by decide, rl_clear hr hi, fun _ => ?_, trivial, l_clear l D h th cI cL cF I J sh fr en hr.1 i hi o O ho hho, m_clear l D a cI cL cF t S K Qt O1 O2 En Ot Wt i hi⟩
    show vp_updL O 0 _ 0 = _; rw [uL0, rl_cnt hr hi]
set_option maxHeartbeats 4000000 in
set_option maxRecDepth 100000 in
theorem b_count (l : Launch) (hl : l.stackTraces = false) (D : va_G) (h th a o : Nat) (cI cL cF : ClassId) (ho : ¬ ca_ h o) (hho : h ≤ o) (c : cs_) (O : Nat → Int64) (t : Int32) (m : rs_) (hr : rr_ c m) (x : Int32) : bi_ l D h th a o cI cL cF my_L_count (Cond.codeWith my_L_count bc_L_count 4 (some .int) [(0, 9, 12, 13)] :: tw_) my_M_count (Cond.code my_M_count bc_M_count 2 (some .int) :: tw_) ({ frames := 2, cells := 0, slots := 0, locals := 46 }) (fun _ => True) c O t m [.int x] := by
  obtain ⟨I, J, sh, fr, en⟩ := c
  obtain ⟨S, K, Qt, O1, O2, En, Ot, Wt⟩ := m
  have hr : rl_ I J sh fr en S En Ot Wt := hr
  rcases ix2 x (n := 10) (by decide) with hx | ⟨i, hi, rfl⟩
  · exact ⟨1, (I, J, sh, fr, en), O, (S, K, Qt, O1, O2, En, Ot, Wt), 0, by decide, hr, fun h9 => absurd h9 (by decide), trivial, lt_count_0 l hl D h th cI cL cF I J sh fr en x hx o O ho hho, r_count_0 l D a cI cL cF t S K Qt O1 O2 En Ot Wt x hx⟩
  · refine ⟨0, (I, J, sh, fr, en), vp_updL O 0 (nI (tw64_ (J (sh i + 1)) 64)).toInt64, (S, K, Qt, O1, O2, En, Ot, Wt), nI (tw64_ (rw_ S i) 64), by decide, hr, fun _ => ?_, trivial, l_count l D h th cI cL cF I J sh fr en hr.1 i hi o O ho hho, m_count l D a cI cL cF t S K Qt O1 O2 En Ot Wt i hi⟩
    show vp_updL O 0 _ 0 = _; rw [uL0, rl_cnt hr hi]
set_option maxHeartbeats 4000000 in
set_option maxRecDepth 100000 in
theorem b_matchings (l : Launch) (hl : l.stackTraces = false) (D : va_G) (h th a o : Nat) (cI cL cF : ClassId) (ho : ¬ ca_ h o) (hho : h ≤ o) (c : cs_) (O : Nat → Int64) (t : Int32) (m : rs_) (hr : rr_ c m) (x : Int32) : bi_ l D h th a o cI cL cF my_L_matchings (Cond.codeWith my_L_matchings bc_L_matchings 4 (some .int) [(0, 9, 12, 13)] :: tw_) my_M_matchings (Cond.code my_M_matchings bc_M_matchings 3 (some .int) :: tw_) ({ frames := 3, cells := 0, slots := 0, locals := 68 }) (fun _ => True) c O t m [.int x] := by
  obtain ⟨I, J, sh, fr, en⟩ := c
  obtain ⟨S, K, Qt, O1, O2, En, Ot, Wt⟩ := m
  have hr : rl_ I J sh fr en S En Ot Wt := hr
  rcases ix2 x (n := 10) (by decide) with hx | ⟨i, hi, rfl⟩
  · exact ⟨1, (I, J, sh, fr, en), O, (S, K, Qt, O1, O2, En, Ot, Wt), 0, by decide, hr, fun h9 => absurd h9 (by decide), trivial, lt_matchings_0 l hl D h th cI cL cF I J sh fr en x hx o O ho hho, r_matchings_0 l D a cI cL cF t S K Qt O1 O2 En Ot Wt x hx⟩
  · obtain ⟨ed, he, hed, hok⟩ := gr_ed hr.2.2.2.2.1
    have q := rl_match (K := K) hr he hi
    exact bi_laid q (l_matchings l D h th cI cL cF I J sh fr en hr.1 i hi ed hed hok o O ho hho) (m_matchings l D a cI cL cF t S K Qt O1 O2 En Ot Wt i hi)
set_option maxHeartbeats 4000000 in
set_option maxRecDepth 100000 in
theorem b_size (l : Launch) (hl : l.stackTraces = false) (D : va_G) (h th a o : Nat) (cI cL cF : ClassId) (ho : ¬ ca_ h o) (hho : h ≤ o) (c : cs_) (O : Nat → Int64) (t : Int32) (m : rs_) (hr : rr_ c m) (x : Int32) : bi_ l D h th a o cI cL cF my_L_size (Cond.codeWith my_L_size bc_L_size 4 (some .int) [(0, 9, 12, 13)] :: tw_) my_M_size (Cond.code my_M_size bc_M_size 4 (some .int) :: tw_) ({ frames := 3, cells := 0, slots := 0, locals := 73 }) (fun _ => True) c O t m [.int x] := by
  obtain ⟨I, J, sh, fr, en⟩ := c
  obtain ⟨S, K, Qt, O1, O2, En, Ot, Wt⟩ := m
  have hr : rl_ I J sh fr en S En Ot Wt := hr
  rcases ix2 x (n := 10) (by decide) with hx | ⟨i, hi, rfl⟩
  · exact ⟨1, (I, J, sh, fr, en), O, (S, K, Qt, O1, O2, En, Ot, Wt), 0, by decide, hr, fun h9 => absurd h9 (by decide), trivial, lt_size_0 l hl D h th cI cL cF I J sh fr en x hx o O ho hho, r_size_0 l D a cI cL cF t S K Qt O1 O2 En Ot Wt x hx⟩
  · obtain ⟨I0, T, E9, rfl, rfl, hT⟩ := hr.2.2.2.2.2.2.2.2
    have q := rl_size hr hT hi
    exact ⟨0, (_, J, sh, fr, _), _, (S, K, Qt, _, O2, En, Ot, Wt), _, by decide, q.1, fun _ => (uL0 _ _).trans (congrArg (fun z => (nI z).toInt64) q.2), trivial, l_size l D h th cI cL cF I0 T J sh fr E9 hr.1 i hi hT o O ho hho, m_size l D a cI cL cF t S K Qt O1 O2 En Ot Wt i hi⟩
set_option maxHeartbeats 4000000 in
set_option maxRecDepth 100000 in
theorem b_parts (l : Launch) (hl : l.stackTraces = false) (D : va_G) (h th a o : Nat) (cI cL cF : ClassId) (ho : ¬ ca_ h o) (hho : h ≤ o) (c : cs_) (O : Nat → Int64) (t : Int32) (m : rs_) (hr : rr_ c m) (x : Int32) : bi_ l D h th a o cI cL cF my_L_parts (Cond.codeWith my_L_parts bc_L_parts 4 (some .int) [(0, 9, 12, 13)] :: tw_) my_M_parts (Cond.code my_M_parts bc_M_parts 6 (some .int) :: tw_) ({ frames := 1, cells := 0, slots := 0, locals := 22 }) (fun _ => True) c O t m [.int x] := by
  obtain ⟨I, J, sh, fr, en⟩ := c
  obtain ⟨S, K, Qt, O1, O2, En, Ot, Wt⟩ := m
  have hr : rl_ I J sh fr en S En Ot Wt := hr
  rcases ix2 x (n := 10) (by decide) with hx | ⟨i, hi, rfl⟩
  · exact ⟨1, (I, J, sh, fr, en), O, (S, K, Qt, O1, O2, En, Ot, Wt), 0, by decide, hr, fun h9 => absurd h9 (by decide), trivial, lt_parts_0 l hl D h th cI cL cF I J sh fr en x hx o O ho hho, r_parts_0 l D a cI cL cF t S K Qt O1 O2 En Ot Wt x hx⟩
  · refine ⟨0, (I, J, sh, fr, en), _, (S, K, Qt, O1, O2, En, Ot, Wt), _, by decide, hr, fun _ => ?_, trivial, l_parts l D h th cI cL cF I J sh fr en hr.1 i hi o O ho hho, m_parts l D a cI cL cF t S K Qt O1 O2 En Ot Wt i hi⟩
    show vp_updL O 0 _ 0 = _; rw [uL0, rl_parts hr hi]
set_option maxHeartbeats 4000000 in
set_option maxRecDepth 100000 in
theorem b_heaviest (l : Launch) (hl : l.stackTraces = false) (D : va_G) (h th a o : Nat) (cI cL cF : ClassId) (ho : ¬ ca_ h o) (hho : h ≤ o) (c : cs_) (O : Nat → Int64) (t : Int32) (m : rs_) (hr : rr_ c m) (x : Int32) : bi_ l D h th a o cI cL cF my_L_heaviest (Cond.codeWith my_L_heaviest bc_L_heaviest 4 (some .int) [(0, 9, 12, 13), (0, 9, 15, 74)] :: tw_) my_M_heaviest (Cond.code my_M_heaviest bc_M_heaviest 6 (some .int) :: tw_) ({ frames := 2, cells := 0, slots := 0, locals := 43 }) (fun _ => True) c O t m [.int x] := by
  obtain ⟨I, J, sh, fr, en⟩ := c
  obtain ⟨S, K, Qt, O1, O2, En, Ot, Wt⟩ := m
  have hr : rl_ I J sh fr en S En Ot Wt := hr
  rcases ix2 x (n := 10) (by decide) with hx | ⟨i, hi, rfl⟩
  · exact ⟨1, (I, J, sh, fr, en), O, (S, K, Qt, O1, O2, En, Ot, Wt), 0, by decide, hr, fun h9 => absurd h9 (by decide), trivial, lt_heaviest_0 l hl D h th cI cL cF I J sh fr en x hx o O ho hho, r_heaviest_0 l D a cI cL cF t S K Qt O1 O2 En Ot Wt x hx⟩
  · have hw : ∀ p, p < 4096 → hs_ I p = (fun p => we_ Wt p 12) p := fun p hp => hs_we hr.2.2.2.2.2.1 hr.2.2.2.2.2.2.1 hr.2.2.2.2.2.2.2.1 hp
    rcases hp_ho (f := J (sh i + 1)) (g := rw_ S i) (w := hs_ I) (v := fun p => we_ Wt p 12) (fun p hp => hr.2.2.1 i p hi hp) hw 4096 (Nat.le_refl _) with ⟨h1, h2⟩ | ⟨q, hq, h1, h2⟩
    · exact ⟨2, (hI_ I, J, sh, fr, en), O, (S, K, Qt, O1, O2, En, Ot, Wt), 0, by decide, rl_heavy hr, fun h9 => absurd h9 (by decide), trivial, lt_heaviest_1 l hl D h th cI cL cF I J sh fr en hr.1 i hi (by rw [h2]) o O ho hho, m_heaviestNone l D a cI cL cF t S K Qt O1 O2 En Ot Wt i hi h1⟩
    · refine ⟨0, (hI_ I, J, sh, fr, en), _, (S, K, Qt, O1, O2, En, Ot, Wt), _, by decide, rl_heavy hr, fun _ => ?_, trivial, l_heaviest l D h th cI cL cF I J sh fr en hr.1 i hi q hq (by rw [h2]) o O ho hho, m_heaviest l D a cI cL cF t S K Qt O1 O2 En Ot Wt i hi q h1⟩
      show vp_updL O 0 _ 0 = _; rw [uL0, tu_mr]
set_option maxHeartbeats 4000000 in
set_option maxRecDepth 100000 in
theorem b_nth (l : Launch) (hl : l.stackTraces = false) (D : va_G) (h th a o : Nat) (cI cL cF : ClassId) (ho : ¬ ca_ h o) (hho : h ≤ o) (c : cs_) (O : Nat → Int64) (t : Int32) (m : rs_) (hr : rr_ c m) (x : Int32) (y : Int32) : bi_ l D h th a o cI cL cF my_L_nth (Cond.codeWith my_L_nth bc_L_nth 5 (some .int) [(0, 10, 13, 13)] :: tw_) my_M_nth (Cond.code my_M_nth bc_M_nth 5 (some .int) :: tw_) ({ frames := 1, cells := 0, slots := 0, locals := 22 }) (fun _ => True) c O t m [.int x, .int y] := by
  obtain ⟨I, J, sh, fr, en⟩ := c
  obtain ⟨S, K, Qt, O1, O2, En, Ot, Wt⟩ := m
  have hr : rl_ I J sh fr en S En Ot Wt := hr
  rcases ix2 x (n := 10) (by decide) with hx | ⟨i, hi, rfl⟩
  · exact ⟨1, (I, J, sh, fr, en), O, (S, K, Qt, O1, O2, En, Ot, Wt), 0, by decide, hr, fun h9 => absurd h9 (by decide), trivial, lt_nth_0 l hl D h th cI cL cF I J sh fr en x hx y o O ho hho, r_nth_0 l D a cI cL cF t S K Qt O1 O2 En Ot Wt x hx y⟩
  · rcases ix4 y with ⟨hy, -⟩ | ⟨j, hj, rfl⟩
    · exact ⟨0, (I, J, sh, fr, en), _, (S, K, Qt, O1, O2, En, Ot, Wt), _, by decide, hr, fun _ => uL0 _ _, trivial, l_nthNeg l D h th cI cL cF I J sh fr en hr.1 i hi y hy o O ho hho, m_nthNeg l D a cI cL cF t S K Qt O1 O2 En Ot Wt i hi y hy⟩
    · refine ⟨0, (I, J, sh, fr, en), _, (S, K, Qt, O1, O2, En, Ot, Wt), _, by decide, hr, fun _ => ?_, trivial, l_nth l D h th cI cL cF I J sh fr en hr.1 i hi j hj o O ho hho, m_nth l D a cI cL cF t S K Qt O1 O2 En Ot Wt i hi j hj⟩
      show vp_updL O 0 _ 0 = _
      rw [uL0]
      have e := rl_rank hr hi (Nat.le_refl 4096)
      by_cases hlt : j < cn_ (fb_ (J (sh i + 1))) 4096
      · rw [if_pos hlt, if_pos (by rw [← e]; exact hlt), tu_mr, sel_cg (fun q hq => hr.2.2.1 i q hi hq) hlt]
      · rw [if_neg hlt, if_neg (by rw [← e]; exact hlt)]
set_option maxHeartbeats 4000000 in
set_option maxRecDepth 100000 in
theorem b_combine (l : Launch) (hl : l.stackTraces = false) (D : va_G) (h th a o : Nat) (cI cL cF : ClassId) (ho : ¬ ca_ h o) (hho : h ≤ o) (c : cs_) (O : Nat → Int64) (t : Int32) (m : rs_) (hr : rr_ c m) (x : Int32) (y : Int32) (z : Int32) (w : Int32) : bi_ l D h th a o cI cL cF my_L_combine (Cond.codeWith my_L_combine bc_L_combine 7 (some .int) [(0, 14, 17, 13), (0, 14, 21, 15), (0, 14, 25, 28)] :: tw_) my_M_combine (Cond.code my_M_combine bc_M_combine 10 (some .int) :: tw_) ({ frames := 3, cells := 0, slots := 0, locals := 75 }) (fun _ => True) c O t m [.int x, .int y, .int z, .int w] := by
  obtain ⟨I, J, sh, fr, en⟩ := c
  obtain ⟨S, K, Qt, O1, O2, En, Ot, Wt⟩ := m
  have hr : rl_ I J sh fr en S En Ot Wt := hr
  rcases ix2 x (n := 10) (by decide) with hx | ⟨i, hi, rfl⟩
  · exact ⟨1, (I, J, sh, fr, en), O, (S, K, Qt, O1, O2, En, Ot, Wt), 0, by decide, hr, fun h9 => absurd h9 (by decide), trivial, lt_combine_0 l hl D h th cI cL cF I J sh fr en x hx y z w o O ho hho, r_combine_0 l D a cI cL cF t S K Qt O1 O2 En Ot Wt x hx y z w⟩
  rcases ix2 z (n := 10) (by decide) with hx | ⟨f, hf, rfl⟩
  · exact ⟨1, (I, J, sh, fr, en), O, (S, K, Qt, O1, O2, En, Ot, Wt), 0, by decide, hr, fun h9 => absurd h9 (by decide), trivial, lt_combine_1 l hl D h th cI cL cF I J sh fr en i hi z hx y w o O ho hho, r_combine_1 l D a cI cL cF t S K Qt O1 O2 En Ot Wt i hi z hx y w⟩
  rcases ix2 w (n := 10) (by decide) with hx | ⟨g, hg, rfl⟩
  · exact ⟨1, (I, J, sh, fr, en), O, (S, K, Qt, O1, O2, En, Ot, Wt), 0, by decide, hr, fun h9 => absurd h9 (by decide), trivial, lt_combine_2 l hl D h th cI cL cF I J sh fr en i hi f hf w hx y o O ho hho, r_combine_2 l D a cI cL cF t S K Qt O1 O2 En Ot Wt i hi f hf w hx y⟩
  rcases ix3 y (n := 8) (by decide) with hx | ⟨j, hj, rfl⟩
  · exact ⟨2, (I, J, sh, fr, en), O, (S, K, Qt, O1, O2, En, Ot, Wt), 0, by decide, hr, fun h9 => absurd h9 (by decide), trivial, lt_combine_3 l hl D h th cI cL cF I J sh fr en i hi f hf g hg y hx o O ho hho, r_combine_3 l D a cI cL cF t S K Qt O1 O2 En Ot Wt i hi f hf g hg y hx⟩
  have hc : j = 0 ∨ j = 1 ∨ j = 2 ∨ j = 3 ∨ j = 4 ∨ j = 5 ∨ j = 6 ∨ j = 7 ∨ j = 8 := by omega
  rcases hc with rfl | rfl | rfl | rfl | rfl | rfl | rfl | rfl | rfl
  · have q := rl_c0 hr hi hf hg (fl_ K 64 0)
    exact bi_laid q (l_combine0 l D h th cI cL cF I J sh fr en hr.1 i hi f hf g hg o O ho hho) (m_combine0 l D a cI cL cF t S K Qt O1 O2 En Ot Wt i hi f hf g hg)
  · have q := rl_c1 hr hi hf hg (fl_ K 64 0)
    exact bi_laid q (l_combine1 l D h th cI cL cF I J sh fr en hr.1 i hi f hf g hg o O ho hho) (m_combine1 l D a cI cL cF t S K Qt O1 O2 En Ot Wt i hi f hf g hg)
  · have q := rl_c2 hr hi hf hg (fl_ K 64 0)
    exact bi_laid q (l_combine2 l D h th cI cL cF I J sh fr en hr.1 i hi f hf g hg o O ho hho) (m_combine2 l D a cI cL cF t S K Qt O1 O2 En Ot Wt i hi f hf g hg)
  · have q := rl_c34 (K := K) (O1 := O1) (O2 := O2) hr hi hf hg true false rfl
    exact bi_laid q (l_combine3 l D h th cI cL cF I J sh fr en hr.1 i hi f hf g hg o O ho hho) (m_combine3 l D a cI cL cF t S K Qt O1 O2 En Ot Wt i hi f hf g hg)
  · have q := rl_c34 (K := K) (O1 := O1) (O2 := O2) hr hi hf hg false true rfl
    exact bi_laid q (l_combine4 l D h th cI cL cF I J sh fr en hr.1 i hi f hf g hg o O ho hho) (m_combine4 l D a cI cL cF t S K Qt O1 O2 En Ot Wt i hi f hf g hg)
  · have q := rl_c56 (K := K) (O := O2) hr hi hf hg true
    exact bi_laid q (l_combine5 l D h th cI cL cF I J sh fr en hr.1 i hi f hf g hg o O ho hho) (m_combine5 l D a cI cL cF t S K Qt O1 O2 En Ot Wt i hi f hf g hg)
  · have q := rl_c56 (K := K) (O := O2) hr hi hf hg false
    exact bi_laid q (l_combine6 l D h th cI cL cF I J sh fr en hr.1 i hi f hf g hg o O ho hho) (m_combine6 l D a cI cL cF t S K Qt O1 O2 En Ot Wt i hi f hf g hg)
  · by_cases hz : tw64_ (J (sh g + 1)) 64 = 0
    · exact ⟨3, (I, J, sh, fr, en), O, (S, K, Qt, O1, O2, En, Ot, Wt), 0, by decide, hr, fun h9 => absurd h9 (by decide), trivial, lt_combine_d7 l hl D h th cI cL cF I J sh fr en hr.1 i hi f hf g hg hz o O ho hho, r_combine_d7 l D a cI cL cF t S K Qt O1 O2 En Ot Wt i hi f hf g hg (by rw [← rl_cnt hr hg]; exact hz)⟩
    · have q := rl_c7 (K := K) hr hi hf hg
      exact bi_laid q (l_combine7 l D h th cI cL cF I J sh fr en hr.1 i hi f hf g hg hz o O ho hho) (m_combine7 l D a cI cL cF t S K Qt O1 O2 En Ot Wt i hi f hf g hg (by rw [← rl_cnt hr hg]; exact hz))
  · by_cases hz : tw64_ (J (sh g + 1)) 64 = 0
    · exact ⟨3, (I, J, sh, fr, en), O, (S, K, Qt, O1, O2, En, Ot, Wt), 0, by decide, hr, fun h9 => absurd h9 (by decide), trivial, lt_combine_d8 l hl D h th cI cL cF I J sh fr en hr.1 i hi f hf g hg hz o O ho hho, r_combine_d8 l D a cI cL cF t S K Qt O1 O2 En Ot Wt i hi f hf g hg (by rw [← rl_cnt hr hg]; exact hz)⟩
    · have q := rl_c8 (K := K) (Qt := Qt) hr hi hf hg
      exact bi_laid q (l_combine8 l D h th cI cL cF I J sh fr en hr.1 i hi f hf g hg hz o O ho hho) (m_combine8 l D a cI cL cF t S K Qt O1 O2 En Ot Wt i hi f hf g hg (by rw [← rl_cnt hr hg]; exact hz))
set_option maxHeartbeats 4000000 in
set_option maxRecDepth 100000 in
theorem b_change (l : Launch) (hl : l.stackTraces = false) (D : va_G) (h th a o : Nat) (cI cL cF : ClassId) (ho : ¬ ca_ h o) (hho : h ≤ o) (c : cs_) (O : Nat → Int64) (t : Int32) (m : rs_) (hr : rr_ c m) (x : Int32) (y : Int32) (z : Int32) (w : Int32) : bi_ l D h th a o cI cL cF my_L_change (Cond.codeWith my_L_change bc_L_change 7 (some .int) [(0, 14, 17, 13), (0, 14, 21, 15)] :: tw_) my_M_change (Cond.code my_M_change bc_M_change 8 (some .int) :: tw_) ({ frames := 3, cells := 0, slots := 0, locals := 68 }) (fun _ => True) c O t m [.int x, .int y, .int z, .int w] := by
  obtain ⟨I, J, sh, fr, en⟩ := c
  obtain ⟨S, K, Qt, O1, O2, En, Ot, Wt⟩ := m
  have hr : rl_ I J sh fr en S En Ot Wt := hr
  rcases ix2 x (n := 10) (by decide) with hx | ⟨i, hi, rfl⟩
  · exact ⟨1, (I, J, sh, fr, en), O, (S, K, Qt, O1, O2, En, Ot, Wt), 0, by decide, hr, fun h9 => absurd h9 (by decide), trivial, lt_change_0 l hl D h th cI cL cF I J sh fr en x hx y z w o O ho hho, r_change_0 l D a cI cL cF t S K Qt O1 O2 En Ot Wt x hx y z w⟩
  rcases ix2 z (n := 10) (by decide) with hx | ⟨f, hf, rfl⟩
  · exact ⟨1, (I, J, sh, fr, en), O, (S, K, Qt, O1, O2, En, Ot, Wt), 0, by decide, hr, fun h9 => absurd h9 (by decide), trivial, lt_change_1 l hl D h th cI cL cF I J sh fr en i hi z hx y w o O ho hho, r_change_1 l D a cI cL cF t S K Qt O1 O2 En Ot Wt i hi z hx y w⟩
  rcases ix2 w (n := 12) (by decide) with hx | ⟨g, hg, rfl⟩
  · exact ⟨1, (I, J, sh, fr, en), O, (S, K, Qt, O1, O2, En, Ot, Wt), 0, by decide, hr, fun h9 => absurd h9 (by decide), trivial, lt_change_2 l hl D h th cI cL cF I J sh fr en i hi f hf w hx y o O ho hho, r_change_2 l D a cI cL cF t S K Qt O1 O2 En Ot Wt i hi f hf w hx y⟩
  rcases ix3 y (n := 2) (by decide) with hx | ⟨j, hj, rfl⟩
  · exact ⟨2, (I, J, sh, fr, en), O, (S, K, Qt, O1, O2, En, Ot, Wt), 0, by decide, hr, fun h9 => absurd h9 (by decide), trivial, lt_change_3 l hl D h th cI cL cF I J sh fr en i hi f hf g hg y hx o O ho hho, r_change_3 l D a cI cL cF t S K Qt O1 O2 En Ot Wt i hi f hf g hg y hx⟩
  have hb : 11 - g < 12 := by omega
  have hc : j = 0 ∨ j = 1 ∨ j = 2 := by omega
  rcases hc with rfl | rfl | rfl
  · have q := rl_h0 (K := K) hr hi hf hb
    exact bi_laid q (l_change0 l D h th cI cL cF I J sh fr en hr.1 i hi f hf g hg o O ho hho) (m_change0 l D a cI cL cF t S K Qt O1 O2 En Ot Wt i hi f hf g hg)
  · have q := rl_h1 (K := K) hr hi hf hb
    exact bi_laid q (l_change1 l D h th cI cL cF I J sh fr en hr.1 i hi f hf g hg o O ho hho) (m_change1 l D a cI cL cF t S K Qt O1 O2 En Ot Wt i hi f hf g hg)
  · have q := rl_h2 (K := K) hr hi hf hb
    exact bi_laid q (l_change2 l D h th cI cL cF I J sh fr en hr.1 i hi f hf g hg o O ho hho) (m_change2 l D a cI cL cF t S K Qt O1 O2 En Ot Wt i hi f hf g hg)
set_option maxHeartbeats 4000000 in
set_option maxRecDepth 100000 in
theorem b_extreme (l : Launch) (hl : l.stackTraces = false) (D : va_G) (h th a o : Nat) (cI cL cF : ClassId) (ho : ¬ ca_ h o) (hho : h ≤ o) (c : cs_) (O : Nat → Int64) (t : Int32) (m : rs_) (hr : rr_ c m) (x : Int32) (y : Int32) (dn : Bool) : bi_ l D h th a o cI cL cF my_L_extreme (Cond.codeWith my_L_extreme bc_L_extreme 6 (some .int) [(0, 12, 15, 13)] :: tw_) my_M_extreme (Cond.code my_M_extreme bc_M_extreme 5 (some .int) :: tw_) ({ frames := 3, cells := 0, slots := 0, locals := 68 }) (fun _ => True) c O t m [.int x, .int y, .int (z1_ dn)] := by
  obtain ⟨I, J, sh, fr, en⟩ := c
  obtain ⟨S, K, Qt, O1, O2, En, Ot, Wt⟩ := m
  have hr : rl_ I J sh fr en S En Ot Wt := hr
  rcases ix2 x (n := 10) (by decide) with hx | ⟨i, hi, rfl⟩
  · exact ⟨1, (I, J, sh, fr, en), O, (S, K, Qt, O1, O2, En, Ot, Wt), 0, by decide, hr, fun h9 => absurd h9 (by decide), trivial, lt_extreme_0 l hl D h th cI cL cF I J sh fr en x hx y (z1_ dn) o O ho hho, r_extreme_0 l D a cI cL cF t S K Qt O1 O2 En Ot Wt x hx y (z1_ dn)⟩
  rcases ix2 y (n := 10) (by decide) with hx | ⟨f, hf, rfl⟩
  · exact ⟨1, (I, J, sh, fr, en), O, (S, K, Qt, O1, O2, En, Ot, Wt), 0, by decide, hr, fun h9 => absurd h9 (by decide), trivial, lt_extreme_1 l hl D h th cI cL cF I J sh fr en i hi y hx (z1_ dn) o O ho hho, r_extreme_1 l D a cI cL cF t S K Qt O1 O2 En Ot Wt i hi y hx (z1_ dn)⟩
  have q := rl_ext (K := K) (O := O1) hr hi hf dn
  exact bi_laid q (l_extreme l D h th cI cL cF I J sh fr en hr.1 i hi f hf dn o O ho hho) (m_extreme l D a cI cL cF t S K Qt O1 O2 En Ot Wt i hi f hf dn)
set_option maxHeartbeats 4000000 in
set_option maxRecDepth 100000 in
theorem b_sized (l : Launch) (hl : l.stackTraces = false) (D : va_G) (h th a o : Nat) (cI cL cF : ClassId) (ho : ¬ ca_ h o) (hho : h ≤ o) (c : cs_) (O : Nat → Int64) (t : Int32) (m : rs_) (hr : rr_ c m) (x : Int32) (y : Int32) (z : Int32) : bi_ l D h th a o cI cL cF my_L_sized (Cond.codeWith my_L_sized bc_L_sized 6 (some .int) [(0, 12, 15, 13), (0, 12, 19, 15)] :: tw_) my_M_sized (Cond.code my_M_sized bc_M_sized 5 (some .int) :: tw_) ({ frames := 3, cells := 0, slots := 0, locals := 68 }) (fun _ => True) c O t m [.int x, .int y, .int z] := by
  obtain ⟨I, J, sh, fr, en⟩ := c
  obtain ⟨S, K, Qt, O1, O2, En, Ot, Wt⟩ := m
  have hr : rl_ I J sh fr en S En Ot Wt := hr
  rcases ix2 x (n := 10) (by decide) with hx | ⟨i, hi, rfl⟩
  · exact ⟨1, (I, J, sh, fr, en), O, (S, K, Qt, O1, O2, En, Ot, Wt), 0, by decide, hr, fun h9 => absurd h9 (by decide), trivial, lt_sized_0 l hl D h th cI cL cF I J sh fr en x hx y z o O ho hho, r_sized_0 l D a cI cL cF t S K Qt O1 O2 En Ot Wt x hx y z⟩
  rcases ix2 y (n := 10) (by decide) with hx | ⟨f, hf, rfl⟩
  · exact ⟨1, (I, J, sh, fr, en), O, (S, K, Qt, O1, O2, En, Ot, Wt), 0, by decide, hr, fun h9 => absurd h9 (by decide), trivial, lt_sized_1 l hl D h th cI cL cF I J sh fr en i hi y hx z o O ho hho, r_sized_1 l D a cI cL cF t S K Qt O1 O2 En Ot Wt i hi y hx z⟩
  rcases ix3 z (n := 12) (by decide) with hx | ⟨n, hn, rfl⟩
  · exact ⟨2, (I, J, sh, fr, en), O, (S, K, Qt, O1, O2, En, Ot, Wt), 0, by decide, hr, fun h9 => absurd h9 (by decide), trivial, lt_sized_2 l hl D h th cI cL cF I J sh fr en i hi f hf z hx o O ho hho, r_sized_2 l D a cI cL cF t S K Qt O1 O2 En Ot Wt i hi f hf z hx⟩
  have q := rl_sized (K := K) hr hi hf hn
  exact bi_laid q (l_sized l D h th cI cL cF I J sh fr en hr.1 i hi f hf n hn o O ho hho) (m_sized l D a cI cL cF t S K Qt O1 O2 En Ot Wt i hi f hf n hn)
set_option maxHeartbeats 4000000 in
set_option maxRecDepth 100000 in
theorem b_paths (l : Launch) (hl : l.stackTraces = false) (D : va_G) (h th a o : Nat) (cI cL cF : ClassId) (ho : ¬ ca_ h o) (hho : h ≤ o) (c : cs_) (O : Nat → Int64) (t : Int32) (m : rs_) (hr : rr_ c m) (x : Int32) (y : Int32) (z : Int32) : bi_ l D h th a o cI cL cF my_L_paths (Cond.codeWith my_L_paths bc_L_paths 6 (some .int) [(0, 12, 15, 13)] :: tw_) my_M_paths (Cond.code my_M_paths bc_M_paths 5 (some .int) :: tw_) ({ frames := 3, cells := 0, slots := 0, locals := 68 }) (fun _ => True) c O t m [.int x, .int y, .int z] := by
  obtain ⟨I, J, sh, fr, en⟩ := c
  obtain ⟨S, K, Qt, O1, O2, En, Ot, Wt⟩ := m
  have hr : rl_ I J sh fr en S En Ot Wt := hr
  rcases ix2 x (n := 10) (by decide) with hx | ⟨i, hi, rfl⟩
  · exact ⟨1, (I, J, sh, fr, en), O, (S, K, Qt, O1, O2, En, Ot, Wt), 0, by decide, hr, fun h9 => absurd h9 (by decide), trivial, lt_paths_0 l hl D h th cI cL cF I J sh fr en x hx y z o O ho hho, r_paths_0 l D a cI cL cF t S K Qt O1 O2 En Ot Wt x hx y z⟩
  rcases ix2 y (n := 7) (by decide) with hx | ⟨u, hu, rfl⟩
  · exact ⟨1, (I, J, sh, fr, en), O, (S, K, Qt, O1, O2, En, Ot, Wt), 0, by decide, hr, fun h9 => absurd h9 (by decide), trivial, lt_paths_1 l hl D h th cI cL cF I J sh fr en i hi y hx z o O ho hho, r_paths_1 l D a cI cL cF t S K Qt O1 O2 En Ot Wt i hi y hx z⟩
  rcases ix2 z (n := 7) (by decide) with hx | ⟨v, hv, rfl⟩
  · exact ⟨1, (I, J, sh, fr, en), O, (S, K, Qt, O1, O2, En, Ot, Wt), 0, by decide, hr, fun h9 => absurd h9 (by decide), trivial, lt_paths_2 l hl D h th cI cL cF I J sh fr en i hi u hu z hx o O ho hho, r_paths_2 l D a cI cL cF t S K Qt O1 O2 En Ot Wt i hi u hu z hx⟩
  obtain ⟨ed, he, hed, hok⟩ := gr_ed hr.2.2.2.2.1
  have q := rl_path (K := K) hr he hi hu hv
  exact bi_laid q (l_paths l D h th cI cL cF I J sh fr en hr.1 i hi ed hed hok u hu v hv o O ho hho) (m_paths l D a cI cL cF t S K Qt O1 O2 En Ot Wt i hi u hu v hv)
set_option maxHeartbeats 4000000 in
set_option maxRecDepth 100000 in
theorem b_cut (l : Launch) (hl : l.stackTraces = false) (D : va_G) (h th a o : Nat) (cI cL cF : ClassId) (ho : ¬ ca_ h o) (hho : h ≤ o) (c : cs_) (O : Nat → Int64) (t : Int32) (m : rs_) (hr : rr_ c m) (x : Int32) : bi_ l D h th a o cI cL cF my_L_cut (Cond.codeWith my_L_cut bc_L_cut 4 (some .int) [(0, 16, 19, 13)] :: tw_) my_M_cut (Cond.code my_M_cut bc_M_cut 3 (some .boolean) :: tw_) ({ frames := 1, cells := 0, slots := 0, locals := 20 }) (fun r => ∃ b, r = z1_ b) c O t m [.int x] := by
  obtain ⟨I, J, sh, fr, en⟩ := c
  obtain ⟨S, K, Qt, O1, O2, En, Ot, Wt⟩ := m
  have hr : rl_ I J sh fr en S En Ot Wt := hr
  rcases ix2 x (n := 12) (by decide) with hx | ⟨e, he, rfl⟩
  · exact ⟨1, (I, J, sh, fr, en), O, (S, K, Qt, O1, O2, En, Ot, Wt), 0, by decide, hr, fun h9 => absurd h9 (by decide), ⟨false, rfl⟩, lt_cut_0 l hl D h th cI cL cF I J sh fr en x hx o O ho hho, r_cut_0 l D a cI cL cF t S K Qt O1 O2 En Ot Wt x hx⟩
  · have q := rl_cut hr he
    refine ⟨0, (_, J, sh, fr, en), _, (S, K, Qt, O1, O2, _, Ot, Wt), _, by decide, q.1, fun _ => ?_, ⟨_, rfl⟩, l_cut l D h th cI cL cF I J sh fr en e he o O ho hho, m_cut l D a cI cL cF t S K Qt O1 O2 En Ot Wt e he⟩
    show vp_updL O 0 _ 0 = _; rw [uL0, zl_z1, q.2]
set_option maxHeartbeats 4000000 in
set_option maxRecDepth 100000 in
theorem b_weight (l : Launch) (hl : l.stackTraces = false) (D : va_G) (h th a o : Nat) (cI cL cF : ClassId) (ho : ¬ ca_ h o) (hho : h ≤ o) (c : cs_) (O : Nat → Int64) (t : Int32) (m : rs_) (hr : rr_ c m) (x : Int32) (y : Int32) : bi_ l D h th a o cI cL cF my_L_weight (Cond.codeWith my_L_weight bc_L_weight 5 (some .int) [(0, 10, 13, 13), (0, 10, 17, 15)] :: tw_) my_M_weight (Cond.code my_M_weight bc_M_weight 4 (some .int) :: tw_) ({ frames := 1, cells := 0, slots := 0, locals := 20 }) (fun _ => True) c O t m [.int x, .int y] := by
  obtain ⟨I, J, sh, fr, en⟩ := c
  obtain ⟨S, K, Qt, O1, O2, En, Ot, Wt⟩ := m
  have hr : rl_ I J sh fr en S En Ot Wt := hr
  rcases ix2 x (n := 12) (by decide) with hx | ⟨e, he, rfl⟩
  · exact ⟨1, (I, J, sh, fr, en), O, (S, K, Qt, O1, O2, En, Ot, Wt), 0, by decide, hr, fun h9 => absurd h9 (by decide), trivial, lt_weight_0 l hl D h th cI cL cF I J sh fr en x hx y o O ho hho, r_weight_0 l D a cI cL cF t S K Qt O1 O2 En Ot Wt x hx y⟩
  by_cases hx : y < (-99) ∨ nI 99 < y
  · exact ⟨2, (I, J, sh, fr, en), O, (S, K, Qt, O1, O2, En, Ot, Wt), 0, by decide, hr, fun h9 => absurd h9 (by decide), trivial, lt_weight_1 l hl D h th cI cL cF I J sh fr en e he y hx o O ho hho, r_weight_1 l D a cI cL cF t S K Qt O1 O2 En Ot Wt e he y hx⟩
  · have h1 : ¬ y < (-99) := fun h9 => hx (Or.inl h9)
    have h2 : y ≤ nI 99 := Int32.not_lt.mp (fun h9 => hx (Or.inr h9))
    have q := rl_weight hr he y
    refine ⟨0, (_, J, sh, fr, en), _, (S, K, Qt, O1, O2, En, Ot, _), _, by decide, q.1, fun _ => ?_, trivial, l_weight l D h th cI cL cF I J sh fr en e he y h1 h2 o O ho hho, m_weight l D a cI cL cF t S K Qt O1 O2 En Ot Wt e he y h1 h2⟩
    show vp_updL O 0 _ 0 = _; rw [uL0, q.2]
set_option maxHeartbeats 4000000 in
set_option maxRecDepth 100000 in
theorem b_edge (l : Launch) (hl : l.stackTraces = false) (D : va_G) (h th a o : Nat) (cI cL cF : ClassId) (ho : ¬ ca_ h o) (hho : h ≤ o) (c : cs_) (O : Nat → Int64) (t : Int32) (m : rs_) (hr : rr_ c m) (x : Int32) (y : Int32) (z : Int32) : bv_ l D h th a o cI cL cF my_L_edge (Cond.codeWith my_L_edge bc_L_edge 5 (some .int) [(0, 7, 10, 13), (0, 7, 14, 15)] :: tw_) my_M_edge (Cond.code my_M_edge bc_M_edge 4 none :: tw_) ({ frames := 1, cells := 0, slots := 0, locals := 20 }) c O t m [.int x, .int y, .int z] := by
  obtain ⟨I, J, sh, fr, en⟩ := c
  obtain ⟨S, K, Qt, O1, O2, En, Ot, Wt⟩ := m
  have hr : rl_ I J sh fr en S En Ot Wt := hr
  rcases ix2 x (n := 12) (by decide) with hx | ⟨e, he, rfl⟩
  · exact ⟨1, (I, J, sh, fr, en), O, (S, K, Qt, O1, O2, En, Ot, Wt), by decide, hr, lt_edge_0 l hl D h th cI cL cF I J sh fr en x hx y z o O ho hho, r_edge_0 l D a cI cL cF t S K Qt O1 O2 En Ot Wt x hx y z⟩
  rcases ix2 y (n := 7) (by decide) with hx | ⟨u, hu, rfl⟩
  · exact ⟨1, (I, J, sh, fr, en), O, (S, K, Qt, O1, O2, En, Ot, Wt), by decide, hr, lt_edge_1 l hl D h th cI cL cF I J sh fr en e he y hx z o O ho hho, r_edge_1 l D a cI cL cF t S K Qt O1 O2 En Ot Wt e he y hx z⟩
  rcases ix2 z (n := 7) (by decide) with hx | ⟨v, hv, rfl⟩
  · exact ⟨1, (I, J, sh, fr, en), O, (S, K, Qt, O1, O2, En, Ot, Wt), by decide, hr, lt_edge_2 l hl D h th cI cL cF I J sh fr en e he u hu z hx o O ho hho, r_edge_2 l D a cI cL cF t S K Qt O1 O2 En Ot Wt e he u hu z hx⟩
  by_cases huv : u = v
  · subst huv
    exact ⟨2, (I, J, sh, fr, en), O, (S, K, Qt, O1, O2, En, Ot, Wt), by decide, hr, lt_edge_3 l hl D h th cI cL cF I J sh fr en e he u hu o O ho hho, r_edge_3 l D a cI cL cF t S K Qt O1 O2 En Ot Wt e he u hu⟩
  · exact ⟨0, (_, J, sh, fr, en), O, (S, K, Qt, O1, O2, _, _, Wt), by decide, rl_edge hr he hu hv huv, l_edge l D h th cI cL cF I J sh fr en e he u hu v hv huv o O ho hho, m_edge l D a cI cL cF t S K Qt O1 O2 En Ot Wt e he u hu v hv huv⟩
