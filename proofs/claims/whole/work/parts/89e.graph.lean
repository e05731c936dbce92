/-! Paths and matchings: class beside reference. -/
theorem tu_bit (n : Nat) : ∀ m k, (tu_ n m).testBit k = (decide (k < m) && n.testBit (m - 1 - k))
  | 0, k => by rw [tu_, Nat.zero_testBit, decide_eq_false (Nat.not_lt_zero _)]; rfl
  | m + 1, k => by
    rw [tu_, Nat.testBit_or, ← Nat.shiftLeft_eq, Nat.testBit_shiftLeft, tu_bit n m]
    have h1 : ∀ j, (if n.testBit m = true then 1 else 0 : Nat).testBit j = (decide (j = 0) && n.testBit m) := fun j => by
      cases n.testBit m
      · rw [if_neg (by decide), Nat.zero_testBit, Bool.and_false]
      · rw [if_pos rfl, Bool.and_true, show (1 : Nat) = 2 ^ 0 from rfl, Nat.testBit_two_pow]
        exact decide_eq_decide.mpr ⟨fun h => h.symm, fun h => h.symm⟩
    rw [h1]
    by_cases hk : k = 0
    · subst hk
      rw [decide_eq_true (show 0 < m + 1 by omega), decide_eq_false (show ¬ 0 ≥ 1 by omega), decide_eq_true (rfl : (0 : Nat) = 0)]
      simp
    · rw [decide_eq_true (show k ≥ 1 by omega), decide_eq_false hk, Bool.false_and, Bool.or_false, Bool.true_and, decide_eq_decide.mpr (show k - 1 < m ↔ k < m + 1 by omega), show m - 1 - (k - 1) = m + 1 - 1 - k by omega]
theorem t12_hi {x k : Nat} (hx : x < 4096) (hk : ¬ k < 12) : x.testBit k = false := Nat.testBit_lt_two_pow (Nat.lt_of_lt_of_le hx (show 2 ^ 12 ≤ 2 ^ k from Nat.pow_le_pow_right (by decide) (by omega)))
theorem tu_e (n : Nat) {e : Nat} (he : e < 12) : (tu_ n 12).testBit e = n.testBit (11 - e) := by rw [tu_bit, decide_eq_true he, Bool.true_and]
theorem tu_tu {n : Nat} (hn : n < 4096) : tu_ (tu_ n 12) 12 = n := by
  apply Nat.eq_of_testBit_eq
  intro k
  by_cases hk : k < 12
  · rw [tu_e _ hk, tu_e _ (by omega), show 11 - (11 - k) = k by omega]
  · rw [t12_hi (tu_12 _) hk, t12_hi hn hk]
theorem fb_maket {K : Nat → Int64} {f : Nat → Bool} {q : Nat} (hq : q < 4096) : fb_ (mkl_ (fl_ K 64 0) f (fun p => tu_ p 12) 4096) q = f (tu_ q 12) := by
  rw [fb_mkl, fb_fl0 hq, Bool.false_or]
  cases hf : f (tu_ q 12)
  · cases h : ex_ (fun m => f m && decide (tu_ m 12 = q)) 4096
    · rfl
    · obtain ⟨k, hk4, hk⟩ := ex_iff.mp h
      rw [Bool.and_eq_true, decide_eq_true_eq] at hk
      have h1 : k = tu_ q 12 := by rw [← hk.2, tu_tu hk4]
      rw [h1, hf] at hk
      exact Bool.noConfusion hk.1
  · exact ex_in (g := fun m => f m && decide (tu_ m 12 = q)) (k := tu_ q 12) (by rw [hf, decide_eq_true (tu_tu hq)]; rfl) (tu_12 q)
/-- the edges of class and reference -/
def eg_ (ed : Nat → Nat) (En Ot : Nat → Int32) : Prop := ∀ e, e < 12 → (En e = -1 ∧ ed e = 0) ∨ ∃ u v : Nat, u < 7 ∧ v < 7 ∧ u ≠ v ∧ En e = nI u ∧ Ot e = nI v ∧ ed e = 2 ^ u ||| 2 ^ v
theorem p2_lt7 {u v : Nat} (hu : u < 7) (hv : v < 7) : 2 ^ u ||| 2 ^ v < 128 := Nat.or_lt_two_pow (n := 7) (Nat.pow_lt_pow_right (by decide) hu) (Nat.pow_lt_pow_right (by decide) hv)
theorem gr_ed {G En Ot : Nat → Int32} (h : gr_ G En Ot) : ∃ ed : Nat → Nat, eg_ ed En Ot ∧ (∀ j, j < 12 → G j = nI (ed j)) ∧ ∀ j, j < 12 → eok_ (ed j) := by
  refine ⟨fun e => (G e).toNatClampNeg, fun e he => ?_, fun e he => ?_, fun e he => ?_⟩
  · rcases h e he with ⟨h1, h2⟩ | ⟨u, v, hu, hv, huv, h1, h2, h3⟩
    · exact Or.inl ⟨h1, by show (G e).toNatClampNeg = 0; rw [h2]; decide⟩
    · have := p2_lt7 hu hv
      exact Or.inr ⟨u, v, hu, hv, huv, h1, h2, by show (G e).toNatClampNeg = _; rw [h3, nI_clamp (by omega)]⟩
  · show G e = nI (G e).toNatClampNeg
    rcases h e he with ⟨h1, h2⟩ | ⟨u, v, hu, hv, huv, h1, h2, h3⟩
    · rw [h2]; decide
    · have := p2_lt7 hu hv
      rw [h3, nI_clamp (by omega)]
  · show eok_ (G e).toNatClampNeg
    rcases h e he with ⟨h1, h2⟩ | ⟨u, v, hu, hv, huv, h1, h2, h3⟩
    · exact Or.inl (by rw [h2]; decide)
    · have := p2_lt7 hu hv
      exact Or.inr ⟨u, v, hu, hv, huv, by rw [h3, nI_clamp (by omega)]⟩
section EG
variable {ed : Nat → Nat} {En Ot : Nat → Int32}
theorem eg_neg (h : eg_ ed En Ot) {e : Nat} (he : e < 12) : (En e < 0) ↔ ed e = 0 := by
  rcases h e he with ⟨h1, h2⟩ | ⟨u, v, hu, hv, huv, h1, h2, h3⟩
  · rw [h1, h2]; decide
  · have hn : ¬ 2 ^ u ||| 2 ^ v = 0 := fun h9 => by
      have := Nat.left_le_or (n := 2 ^ u) (m := 2 ^ v)
      have := Nat.two_pow_pos u
      omega
    rw [h1, h3]
    exact ⟨fun h9 => absurd h9 (nI_pos (by omega)), fun h9 => absurd h9 hn⟩
theorem eg_bo (h : eg_ ed En Ot) {e : Nat} (he : e < 12) (hn : ¬ ed e = 0) : bo_ En Ot e = nI (ed e) := by
  rcases h e he with ⟨h1, h2⟩ | ⟨u, v, hu, hv, huv, h1, h2, h3⟩
  · exact absurd h2 hn
  · unfold bo_
    rw [h1, h2, h3, ni_bit (by omega), ni_bit (by omega), ni_or]
theorem eg_lt (h : eg_ ed En Ot) {e : Nat} (he : e < 12) : ed e < 128 := by
  rcases h e he with ⟨h1, h2⟩ | ⟨u, v, hu, hv, huv, h1, h2, h3⟩
  · rw [h2]; decide
  · rw [h3]; exact p2_lt7 hu hv
/-- the vertices that a set's first e edges touch -/
def tk_ (ed : Nat → Nat) (p : Nat) : Nat → Nat
  | 0 => 0
  | e + 1 => if p.testBit (11 - e) then tk_ ed p e ||| ed e else tk_ ed p e
theorem tk_lt (h : eg_ ed En Ot) (p : Nat) : ∀ e, e ≤ 12 → tk_ ed p e < 128
  | 0, _ => by rw [tk_]; decide
  | e + 1, he => by
    rw [tk_]
    have ih := tk_lt h p e (by omega)
    split
    · exact Nat.or_lt_two_pow (n := 7) ih (eg_lt h (by omega))
    · exact ih
/-- a set of edges that lie apart, from the top place down -/
def mg_ (ed : Nat → Nat) (p : Nat) : Nat → Nat → Prop
  | 0, _ => True
  | d + 1, bs => if p.testBit d then (ed (11 - d) ≠ 0 ∧ ed (11 - d) &&& bs = 0) ∧ mg_ ed p d (bs ||| ed (11 - d)) else mg_ ed p d bs
theorem mt_mg (ed : Nat → Nat) (p : Nat) : ∀ d bs pl f, (∀ k, k < d → pl.testBit k = false) → (fb_ (mt_ ed d bs pl f) p = true ↔ fb_ f p = true ∨ ((∀ k, d ≤ k → p.testBit k = pl.testBit k) ∧ mg_ ed p d bs))
  | 0, bs, pl, f, _ => by
    rw [mt_, mg_]
    have h : fb_ (inc_ f pl) p = (decide (p = pl) || fb_ f p) := fb_include
    rw [h, Bool.or_eq_true, decide_eq_true_eq]
    constructor
    · rintro (h1 | h1)
      · exact Or.inr ⟨fun k _ => by rw [h1], trivial⟩
      · exact Or.inl h1
    · rintro (h1 | ⟨h1, _⟩)
      · exact Or.inr h1
      · exact Or.inl (Nat.eq_of_testBit_eq (fun k => h1 k (Nat.zero_le _)))
  | d + 1, bs, pl, f, hpl => by
    have ih1 := mt_mg ed p d bs pl f (fun k hk => hpl k (by omega))
    have hpld : pl.testBit d = false := hpl d (by omega)
    rw [mt_, mg_]
    have hno : p.testBit d = true → ¬ ∀ k, d ≤ k → p.testBit k = pl.testBit k := fun h1 h2 => by
      rw [h2 d (Nat.le_refl _), hpld] at h1
      exact Bool.noConfusion h1
    have hyes : p.testBit d = false → ((∀ k, d ≤ k → p.testBit k = pl.testBit k) ↔ ∀ k, d + 1 ≤ k → p.testBit k = pl.testBit k) := fun h1 => by
      constructor
      · intro h2 k hk; exact h2 k (by omega)
      · intro h2 k hk
        by_cases hkd : k = d
        · rw [hkd, h1, hpld]
        · exact h2 k (by omega)
    by_cases hc : ed (11 - d) ≠ 0 ∧ ed (11 - d) &&& bs = 0
    · rw [if_pos hc]
      have ih2 := mt_mg ed p d (bs ||| ed (11 - d)) (pl ||| 2 ^ d) (mt_ ed d bs pl f) (fun k hk => by
        rw [Nat.testBit_or, hpl k (by omega), Nat.testBit_two_pow_of_ne (by omega)]; rfl)
      rw [ih2, ih1]
      have hor : ∀ k, (pl ||| 2 ^ d).testBit k = if k = d then true else pl.testBit k := fun k => by
        by_cases hk : k = d
        · rw [if_pos hk, hk, tb_or2]
        · rw [if_neg hk, Nat.testBit_or, Nat.testBit_two_pow_of_ne (fun h9 => hk h9.symm), Bool.or_false]
      cases hp : p.testBit d
      · rw [if_neg (by decide), hyes hp]
        constructor
        · rintro (h1 | ⟨h1, _⟩)
          · exact h1
          · have h2 := h1 d (Nat.le_refl _)
            rw [hor, if_pos rfl, hp] at h2
            exact Bool.noConfusion h2
        · intro h1; exact Or.inl h1
      · rw [if_pos rfl]
        constructor
        · rintro ((h1 | h1) | ⟨h1, h2⟩)
          · exact Or.inl h1
          · exact absurd h1.1 (hno hp)
          · refine Or.inr ⟨fun k hk => ?_, hc, h2⟩
            rw [h1 k (by omega), hor, if_neg (by omega)]
        · rintro (h1 | ⟨h1, _, h2⟩)
          · exact Or.inl (Or.inl h1)
          · refine Or.inr ⟨fun k hk => ?_, h2⟩
            rw [hor]
            by_cases hkd : k = d
            · rw [if_pos hkd, hkd, hp]
            · rw [if_neg hkd]; exact h1 k (by omega)
    · rw [if_neg hc, ih1]
      cases hp : p.testBit d
      · rw [if_neg (by decide), hyes hp]
      · rw [if_pos rfl]
        constructor
        · rintro (h1 | h1)
          · exact Or.inl h1
          · exact absurd h1.1 (hno hp)
        · rintro (h1 | ⟨_, h1, _⟩)
          · exact Or.inl h1
          · exact absurd h1 hc
theorem mg_tk (ed : Nat → Nat) (p : Nat) : ∀ d, d ≤ 12 → (mg_ ed p d (tk_ ed p (12 - d)) ↔ ∀ e, 12 - d ≤ e → e < 12 → p.testBit (11 - e) = true → ed e ≠ 0 ∧ ed e &&& tk_ ed p e = 0)
  | 0, _ => ⟨fun _ e h1 h2 => by omega, fun _ => trivial⟩
  | d + 1, hd => by
    have ih := mg_tk ed p d (by omega)
    have e1 : 12 - d = (12 - (d + 1)) + 1 := by omega
    have e2 : 11 - (12 - (d + 1)) = d := by omega
    have e3 : 11 - d = 12 - (d + 1) := by omega
    rw [e1, tk_, e2] at ih
    rw [mg_]
    cases hp : p.testBit d
    · rw [hp, if_neg (by decide)] at ih
      rw [if_neg (by decide), ih]
      constructor
      · intro h e h1 h2 h3
        by_cases he : e = 12 - (d + 1)
        · rw [he, e2, hp] at h3; exact Bool.noConfusion h3
        · exact h e (by omega) h2 h3
      · intro h e h1 h2 h3; exact h e (by omega) h2 h3
    · rw [hp, if_pos rfl] at ih
      rw [if_pos rfl, e3, ih]
      constructor
      · rintro ⟨h0, h⟩ e h1 h2 h3
        by_cases he : e = 12 - (d + 1)
        · rw [he]; exact h0
        · exact h e (by omega) h2 h3
      · intro h
        exact ⟨h _ (Nat.le_refl _) (by omega) (by rw [e2]; exact hp), fun e h1 h2 h3 => h e (by omega) h2 h3⟩
theorem tm_tk (h : eg_ ed En Ot) {p : Nat} : ∀ e, e ≤ 12 → (∀ k, k < e → p.testBit (11 - k) = true → ¬ ed k = 0) → tm_ En Ot (tu_ p 12) e = nI (tk_ ed p e)
  | 0, _, _ => rfl
  | e + 1, he, hx => by
    rw [tm_, tk_, tu_e p (by omega), tm_tk h e (by omega) (fun k hk => hx k (by omega))]
    cases hp : p.testBit (11 - e)
    · rfl
    · rw [if_pos rfl, if_pos rfl, eg_bo h (by omega) (hx e (by omega) hp), ni_or]
theorem match_eq (h : eg_ ed En Ot) {F : Nat → Int64} (hF : ∀ q, q < 4096 → fb_ F q = false) {p : Nat} (hp : p < 4096) : fb_ (mt_ ed 12 0 0 F) p = (fa_ (aef_ En (tu_ p 12)) 12 && fa_ (imf_ En Ot (tu_ p 12)) 12) := by
  refine bool_iff ?_
  rw [mt_mg ed p 12 0 0 F (fun k _ => Nat.zero_testBit k), hF p hp, Bool.and_eq_true, fa_all, fa_all]
  have h1 := mg_tk ed p 12 (Nat.le_refl _)
  rw [show 12 - 12 = 0 by rfl, tk_] at h1
  rw [h1]
  constructor
  · rintro (h2 | ⟨_, h2⟩)
    · exact Bool.noConfusion h2
    · refine ⟨fun e he => ?_, fun e he => ?_⟩
      · unfold aef_
        rw [tu_e p he]
        cases h3 : p.testBit (11 - e)
        · rfl
        · rw [decide_eq_false (fun h9 => (h2 e (Nat.zero_le _) he h3).1 ((eg_neg h he).mp h9))]; rfl
      · unfold imf_
        rw [tu_e p he]
        cases h3 : p.testBit (11 - e)
        · rfl
        · have h4 := h2 e (Nat.zero_le _) he h3
          have h5 := tk_lt h p e (by omega)
          rw [tm_tk h e (by omega) (fun k hk h6 => (h2 k (Nat.zero_le _) (by omega) h6).1), eg_bo h he h4.1, ni_and, Nat.and_comm, h4.2]
          rfl
  · rintro ⟨h2, h3⟩
    refine Or.inr ⟨fun k hk => by rw [t12_hi hp (by omega), Nat.zero_testBit], fun e _ he hb => ?_⟩
    have hex : ∀ k, k < 12 → p.testBit (11 - k) = true → ¬ ed k = 0 := fun k hk hb2 h9 => by
      have h4 := h2 k hk
      unfold aef_ at h4
      rw [tu_e p hk, hb2, decide_eq_true ((eg_neg h hk).mpr h9)] at h4
      exact Bool.noConfusion h4
    refine ⟨hex e he hb, ?_⟩
    have h4 := h3 e he
    unfold imf_ at h4
    rw [tu_e p he, hb, tm_tk h e (by omega) (fun k hk => hex k (by omega)), eg_bo h he (hex e he hb), ni_and] at h4
    have h5 := eg_lt h he
    have h6 : tk_ ed p e &&& ed e < 128 := Nat.lt_of_le_of_lt Nat.and_le_right h5
    have h7 : nI (tk_ ed p e &&& ed e) = 0 := of_decide_eq_true (by simpa using h4)
    rw [Nat.and_comm]
    exact (ni_z (by omega)).mp h7
/-- a walk of the class that ends in p -/
def pw_ (ed : Nat → Nat) (goal p : Nat) : Nat → Nat → Nat → Nat → Prop
  | 0, _, _, _ => False
  | d + 1, av, sn, pl => if av = goal then p = pl else ∃ e, e < 12 ∧ ed e &&& sn = av ∧ pw_ ed goal p d (ed e ^^^ av) (sn ||| ed e) (pl ||| 2 ^ (11 - e))
theorem fd_ex {g : Nat → (Nat → Int64) → Nat → Int64} {R : Nat → Prop} {p : Nat} (hh : ∀ e f, fb_ (g e f) p = true ↔ fb_ f p = true ∨ R e) : ∀ n f, fb_ (fold_ g n f) p = true ↔ fb_ f p = true ∨ ∃ e, e < n ∧ R e
  | 0, f => ⟨fun h => Or.inl h, fun h => h.elim (fun h => h) (fun ⟨e, he, _⟩ => absurd he (Nat.not_lt_zero _))⟩
  | n + 1, f => by
    rw [fold_, hh, fd_ex hh n f, or_assoc]
    refine or_congr_right ?_
    constructor
    · rintro (⟨e, he, h⟩ | h)
      · exact ⟨e, by omega, h⟩
      · exact ⟨n, by omega, h⟩
    · rintro ⟨e, he, h⟩
      by_cases hen : e = n
      · exact Or.inr (hen ▸ h)
      · exact Or.inl ⟨e, by omega, h⟩
theorem wk_pw (ed : Nat → Nat) (goal p : Nat) : ∀ d av sn pl f, fb_ (wk_ ed goal d av sn pl f) p = true ↔ fb_ f p = true ∨ pw_ ed goal p d av sn pl
  | 0, av, sn, pl, f => by rw [wk_, pw_, or_false]
  | d + 1, av, sn, pl, f => by
    rw [wk_, pw_]
    by_cases hg : av = goal
    · rw [if_pos hg, if_pos hg]
      have h : fb_ (inc_ f pl) p = (decide (p = pl) || fb_ f p) := fb_include
      rw [h, Bool.or_eq_true, decide_eq_true_eq, or_comm]
    · rw [if_neg hg, if_neg hg]
      refine fd_ex (R := fun e => ed e &&& sn = av ∧ pw_ ed goal p d (ed e ^^^ av) (sn ||| ed e) (pl ||| 2 ^ (11 - e))) (fun e f => ?_) 12 f
      by_cases hc : ed e &&& sn = av
      · rw [if_pos hc, wk_pw ed goal p d]
        exact or_congr_right ⟨fun h => ⟨hc, h⟩, fun h => h.2⟩
      · rw [if_neg hc]
        exact ⟨fun h => Or.inl h, fun h => h.elim (fun h => h) (fun h => absurd h.1 hc)⟩
theorem tb_p2 (u x : Nat) : (2 ^ u).testBit x = decide (u = x) := Nat.testBit_two_pow
/-- an edge that meets what was seen at one vertex alone -/
theorem es_ {x sn v : Nat} (hx : eok_ x) (ha : x &&& sn = 2 ^ v) : ∃ w, w < 7 ∧ v ≠ w ∧ x = 2 ^ v ||| 2 ^ w ∧ sn.testBit w = false ∧ x ^^^ 2 ^ v = 2 ^ w := by
  rcases hx with rfl | ⟨a, b, ha7, hb7, hne, rfl⟩
  · rw [Nat.zero_and] at ha
    exact absurd ha.symm (Nat.ne_of_gt (Nat.two_pow_pos v))
  · have hv1 := congrArg (fun z => z.testBit v) ha
    simp only [Nat.testBit_and, Nat.testBit_or, Nat.testBit_two_pow_self, Bool.and_eq_true] at hv1
    have key : ∀ w, w ≠ v → (2 ^ a ||| 2 ^ b).testBit w = true → sn.testBit w = false := fun w hw h1 => by
      have h2 := congrArg (fun z => z.testBit w) ha
      simp only [Nat.testBit_and, h1, Bool.true_and] at h2
      rw [h2, tb_p2, decide_eq_false (fun h9 => hw h9.symm)]
    have hv2 := hv1.1
    rw [tb_p2, tb_p2, Bool.or_eq_true, decide_eq_true_eq, decide_eq_true_eq] at hv2
    rcases hv2 with h1 | h1
    · subst h1
      exact ⟨b, hb7, hne, rfl, key b (fun h9 => hne h9.symm) (by rw [Nat.testBit_or, Nat.testBit_two_pow_self, Bool.or_true]), tp_x1 hne⟩
    · subst h1
      exact ⟨a, ha7, fun h9 => hne h9.symm, Nat.or_comm _ _, key a hne (by rw [Nat.testBit_or, Nat.testBit_two_pow_self, Bool.true_or]), by rw [Nat.or_comm]; exact tp_x1 (fun h9 => hne h9.symm)⟩
theorem eg_ok (h : eg_ ed En Ot) {e : Nat} (he : e < 12) : eok_ (ed e) := by
  rcases h e he with ⟨h1, h2⟩ | ⟨u, v, hu, hv, huv, h1, h2, h3⟩
  · exact Or.inl h2
  · exact Or.inr ⟨u, v, hu, hv, huv, h3⟩
theorem or_seen {sn v w : Nat} (hs : sn.testBit v = true) : sn ||| (2 ^ v ||| 2 ^ w) = sn ||| 2 ^ w := by
  apply Nat.eq_of_testBit_eq
  intro k
  rw [Nat.testBit_or, Nat.testBit_or, Nat.testBit_or, tb_p2, tb_p2]
  by_cases hk : v = k
  · subst hk; rw [hs]; rfl
  · rw [decide_eq_false hk, Bool.false_or]
theorem pw_sub {goal p : Nat} : ∀ d av sn pl, pw_ ed goal p d av sn pl → ∀ k, pl.testBit k = true → p.testBit k = true
  | 0, _, _, _, h => h.elim
  | d + 1, av, sn, pl, h => by
    rw [pw_] at h
    intro k hk
    by_cases hg : av = goal
    · rw [if_pos hg] at h; rw [h]; exact hk
    · rw [if_neg hg] at h
      obtain ⟨e, _, _, h2⟩ := h
      exact pw_sub d _ _ _ h2 k (by rw [Nat.testBit_or, hk, Bool.true_or])
theorem pw_un (h : eg_ ed En Ot) {goal p : Nat} : ∀ d v sn pl, pw_ ed goal p d (2 ^ v) sn pl → sn.testBit v = true → ∀ e, e < 12 → p.testBit (11 - e) = true → pl.testBit (11 - e) = false → ¬ ed e = 0 ∧ ∀ x, (ed e).testBit x = true → sn.testBit x = true → x = v
  | 0, _, _, _, hw, _ => hw.elim
  | d + 1, v, sn, pl, hw, hs => by
    rw [pw_] at hw
    intro e he hpe hple
    by_cases hg : 2 ^ v = goal
    · rw [if_pos hg] at hw; rw [hw, hple] at hpe; exact Bool.noConfusion hpe
    · rw [if_neg hg] at hw
      obtain ⟨e0, he0, h1, h2⟩ := hw
      obtain ⟨w, hw7, hvw, hx, hsw, hxx⟩ := es_ (eg_ok h he0) h1
      by_cases hee : e = e0
      · subst hee
        refine ⟨fun h9 => ?_, fun x hx1 hx2 => ?_⟩
        · rw [h9, Nat.zero_and] at h1
          exact absurd h1.symm (Nat.ne_of_gt (Nat.two_pow_pos v))
        · have h3 := congrArg (fun z => z.testBit x) h1
          simp only [Nat.testBit_and, hx1, hx2, Bool.and_self] at h3
          rw [tb_p2] at h3
          exact (of_decide_eq_true h3.symm).symm
      · rw [hxx] at h2
        have hsw2 : (sn ||| ed e0).testBit w = true := by rw [Nat.testBit_or, hx, Nat.testBit_or, Nat.testBit_two_pow_self, Bool.or_true, Bool.or_true]
        have h4 := pw_un h d w (sn ||| ed e0) (pl ||| 2 ^ (11 - e0)) h2 hsw2 e he hpe (by rw [Nat.testBit_or, hple, tb_p2, decide_eq_false (by omega)]; rfl)
        refine ⟨h4.1, fun x hx1 hx2 => ?_⟩
        have h5 := h4.2 x hx1 (by rw [Nat.testBit_or, hx2, Bool.true_or])
        rw [h5, hsw] at hx2
        exact Bool.noConfusion hx2
theorem oe_in2 {n : Nat} {v : Int32} : ∀ e, (oe_ En Ot n v e).1 = -1 ∨ ∃ k, k < e ∧ (oe_ En Ot n v e).1 = nI k ∧ (n.testBit k && (decide (En k = v) || decide (Ot k = v))) = true
  | 0 => Or.inl rfl
  | e + 1 => by
    rw [oe_]
    split
    · rename_i h
      exact Or.inr ⟨e, by omega, rfl, h⟩
    · rcases oe_in2 e with h | ⟨k, hk, h1, h2⟩
      · exact Or.inl h
      · exact Or.inr ⟨k, by omega, h1, h2⟩
theorem oe_uni {n : Nat} {v : Int32} {e0 : Nat} (h0 : (n.testBit e0 && (decide (En e0 = v) || decide (Ot e0 = v))) = true) : ∀ m, (∀ k, k < m → k ≠ e0 → (n.testBit k && (decide (En k = v) || decide (Ot k = v))) = false) → oe_ En Ot n v m = if e0 < m then (nI e0, 1) else (-1, 0)
  | 0, _ => by rw [oe_, if_neg (Nat.not_lt_zero _)]
  | m + 1, h => by
    have ih := oe_uni h0 m (fun k hk => h k (by omega))
    by_cases hm : m = e0
    · subst hm
      rw [oe_t h0, ih, if_neg (Nat.lt_irrefl _), if_pos (Nat.lt_succ_self _)]
    · rw [oe_f (h m (by omega) hm), ih]
      by_cases h1 : e0 < m
      · rw [if_pos h1, if_pos (by omega)]
      · rw [if_neg h1, if_neg (by omega)]
theorem p2_inj {a b : Nat} (h : 2 ^ a = 2 ^ b) : a = b := by
  have h1 := congrArg (fun z => z.testBit a) h
  simp only [Nat.testBit_two_pow_self] at h1
  rw [tb_p2] at h1
  exact (of_decide_eq_true h1.symm).symm
/-- what the reference finds, the class walks -/
theorem ip_pw (h : eg_ ed En Ot) {t p : Nat} (ht : t < 7) (hp : p < 4096) : ∀ m lf v sn pl d, ip_ En Ot (nI t) m (lf, nI v, nI sn) = true → (∀ e, e < 12 → lf.testBit e = (p.testBit (11 - e) && !pl.testBit (11 - e))) → (∀ k, pl.testBit k = true → p.testBit k = true) → (∀ e, e < 12 → lf.testBit e = true → ¬ ed e = 0) → v < 7 → sn < 128 → sn.testBit v = true → uc_ sn < d → pw_ ed (2 ^ t) p d (2 ^ v) sn pl
  | 0, lf, v, sn, pl, d, hip, _, _, _, _, _, _, _ => by rw [ip_] at hip; exact Bool.noConfusion hip
  | m + 1, lf, v, sn, pl, 0, _, _, _, _, _, _, _, hd => absurd hd (Nat.not_lt_zero _)
  | m + 1, lf, v, sn, pl, d + 1, hip, hlf, hpl, hex, hv, hsn, hsv, hd => by
    rw [pw_]
    by_cases hvt : v = t
    · subst hvt
      rw [if_pos rfl]
      rw [ip_end rfl, decide_eq_true_eq] at hip
      apply Nat.eq_of_testBit_eq
      intro k
      by_cases hk : k < 12
      · have h1 := hlf (11 - k) (by omega)
        rw [hip, Nat.zero_testBit, show 11 - (11 - k) = k by omega] at h1
        have h2 := hpl k
        cases h3 : pl.testBit k
        · rw [h3] at h1
          cases h4 : p.testBit k
          · rfl
          · rw [h4] at h1; exact h1.symm
        · exact h2 h3
      · have h2 := hpl k
        rw [t12_hi hp hk] at h2 ⊢
        cases h3 : pl.testBit k
        · rfl
        · exact h2 h3
    · rw [if_neg (fun h9 => hvt (p2_inj h9))]
      have hvt2 : ¬ nI v = nI t := fun h9 => hvt ((nI_eq (by omega) (by omega)).mp h9)
      have hor : oer_ En Ot lf (nI v) = -1 ∨ ∃ k, k < 12 ∧ oer_ En Ot lf (nI v) = nI k ∧ (lf.testBit k && (decide (En k = nI v) || decide (Ot k = nI v))) = true := by
        unfold oer_
        split
        · exact oe_in2 12
        · exact Or.inl rfl
      rcases hor with h1 | ⟨e, he, h1, h2⟩
      · rw [ip_neg hvt2 h1] at hip; exact Bool.noConfusion hip
      · rw [Bool.and_eq_true, Bool.or_eq_true, decide_eq_true_eq, decide_eq_true_eq] at h2
        have hne := hex e he h2.1
        have hfound : ∃ w, w < 7 ∧ v ≠ w ∧ ed e = 2 ^ v ||| 2 ^ w ∧ (if En e = nI v then Ot e else En e) = nI w := by
          rcases h e he with ⟨_, h4⟩ | ⟨a, b, ha7, hb7, hab, h3, h4, h5⟩
          · exact absurd h4 hne
          · by_cases hav : a = v
            · subst hav
              exact ⟨b, hb7, hab, h5, by rw [if_pos h3, h4]⟩
            · have hav2 : ¬ En e = nI v := fun h9 => hav ((nI_eq (by omega) (by omega)).mp (h3.symm.trans h9))
              have hbv : b = v := by
                rcases h2.2 with h6 | h6
                · exact absurd h6 hav2
                · exact (nI_eq (by omega) (by omega)).mp (h4.symm.trans h6)
              subst hbv
              exact ⟨a, ha7, fun h9 => hav h9.symm, by rw [h5, Nat.or_comm], by rw [if_neg hav2, h3]⟩
        obtain ⟨w, hw7, hvw, hed, hw⟩ := hfound
        rw [ip_on hvt2 h1 he hw, ni_tb (by omega) (by omega)] at hip
        cases hsw : sn.testBit w
        · rw [hsw, if_neg (show ¬ nI (if false = true then 1 else 0) = nI 1 by decide), ni_bit (by omega), ni_or] at hip
          have hand : ed e &&& sn = 2 ^ v := by
            rw [hed]
            apply Nat.eq_of_testBit_eq
            intro k
            rw [Nat.testBit_and, Nat.testBit_or, tb_p2, tb_p2]
            by_cases hk1 : v = k
            · subst hk1; rw [hsv, decide_eq_true rfl]; rfl
            · by_cases hk2 : w = k
              · subst hk2; rw [hsw, Bool.and_false, decide_eq_false hk1]
              · rw [decide_eq_false hk1, decide_eq_false hk2]; rfl
          obtain ⟨w2, _, _, hlt, _, huc⟩ := wk_one (eg_ok h he) hsn hv hsv hand
          refine ⟨e, he, hand, ?_⟩
          have e1 : ed e ^^^ 2 ^ v = 2 ^ w := by rw [hed]; exact tp_x1 hvw
          have e2 : sn ||| ed e = sn ||| 2 ^ w := by rw [hed]; exact or_seen hsv
          rw [e1]
          rw [e2] at hlt huc ⊢
          refine ip_pw h ht hp m (lf ^^^ 2 ^ e) w (sn ||| 2 ^ w) (pl ||| 2 ^ (11 - e)) d hip (fun k hk => ?_) (fun k hk => ?_) (fun k hk hb => ?_) hw7 hlt (by rw [tb_or2]) (by omega)
          · by_cases hke : k = e
            · subst hke
              rw [tb_x, h2.1, tb_or2]; simp
            · rw [tb_xn hke, hlf k hk, Nat.testBit_or, tb_p2, decide_eq_false (show ¬ 11 - e = 11 - k by omega), Bool.or_false]
          · rw [Nat.testBit_or, Bool.or_eq_true] at hk
            rcases hk with hk | hk
            · exact hpl k hk
            · rw [tb_p2, decide_eq_true_eq] at hk
              have h9 := hlf e he
              rw [h2.1] at h9
              have h8 := h9.symm
              rw [Bool.and_eq_true] at h8
              rw [← hk]; exact h8.1
          · by_cases hke : k = e
            · subst hke; exact hne
            · rw [tb_xn hke] at hb; exact hex k hk hb
        · rw [hsw, if_pos (show nI (if true = true then 1 else 0) = nI 1 by decide)] at hip
          exact Bool.noConfusion hip
/-- what the class walks, the reference finds -/
theorem pw_ip (h : eg_ ed En Ot) {t p : Nat} (ht : t < 7) (hp : p < 4096) : ∀ d m lf v sn pl, d ≤ m → pw_ ed (2 ^ t) p d (2 ^ v) sn pl → lf < 4096 → (∀ e, e < 12 → lf.testBit e = (p.testBit (11 - e) && !pl.testBit (11 - e))) → v < 7 → sn < 128 → sn.testBit v = true → (∀ e, e < 12 → pl.testBit (11 - e) = true → ∀ x, (ed e).testBit x = true → sn.testBit x = true) → ip_ En Ot (nI t) m (lf, nI v, nI sn) = true
  | 0, _, _, _, _, _, _, hw, _, _, _, _, _, _ => hw.elim
  | d + 1, 0, _, _, _, _, hm, _, _, _, _, _, _, _ => by omega
  | d + 1, m + 1, lf, v, sn, pl, hm, hw, hlt, hlf, hv, hsn, hsv, hpl => by
    rw [pw_] at hw
    by_cases hvt : v = t
    · subst hvt
      rw [if_pos rfl] at hw
      rw [ip_end rfl, decide_eq_true_eq]
      apply Nat.eq_of_testBit_eq
      intro k
      rw [Nat.zero_testBit]
      by_cases hk : k < 12
      · rw [hlf k hk, hw]
        cases pl.testBit (11 - k) <;> rfl
      · exact t12_hi hlt hk
    · rw [if_neg (fun h9 => hvt (p2_inj h9))] at hw
      obtain ⟨e, he, h1, h2⟩ := hw
      obtain ⟨w, hw7, hvw, hx, hsw, hxx⟩ := es_ (eg_ok h he) h1
      have hvt2 : ¬ nI v = nI t := fun h9 => hvt ((nI_eq (by omega) (by omega)).mp h9)
      rw [hxx] at h2
      have hsw2 : (sn ||| ed e).testBit w = true := by rw [Nat.testBit_or, hx, Nat.testBit_or, Nat.testBit_two_pow_self, Bool.or_true, Bool.or_true]
      have hpe : p.testBit (11 - e) = true := pw_sub d _ _ _ h2 _ (tb_or2 _ _)
      have hple : pl.testBit (11 - e) = false := by
        cases h9 : pl.testBit (11 - e)
        · rfl
        · have h8 := hpl e he h9 w (by rw [hx, tb_or2])
          rw [hsw] at h8
          exact h8.symm
      have hlfe : lf.testBit e = true := by rw [hlf e he, hpe, hple]; rfl
      have hends : ∃ a b : Nat, a < 7 ∧ b < 7 ∧ a ≠ b ∧ En e = nI a ∧ Ot e = nI b ∧ ed e = 2 ^ a ||| 2 ^ b := by
        rcases h e he with ⟨_, h4⟩ | h4
        · exfalso
          rw [h4, Nat.zero_and] at h1
          exact absurd h1.symm (Nat.ne_of_gt (Nat.two_pow_pos v))
        · exact h4
      obtain ⟨a, b, ha7, hb7, hab, hEn, hOt, hab2⟩ := hends
      have hmem : ∀ x, (a = x ∨ b = x) ↔ (v = x ∨ w = x) := fun x => by
        have h9 := congrArg (fun z => z.testBit x) (hab2.symm.trans hx)
        simp only [Nat.testBit_or, tb_p2] at h9
        constructor
        · intro h8
          have h7 : (decide (a = x) || decide (b = x)) = true := by rw [Bool.or_eq_true, decide_eq_true_eq, decide_eq_true_eq]; exact h8
          rw [h9, Bool.or_eq_true, decide_eq_true_eq, decide_eq_true_eq] at h7
          exact h7
        · intro h8
          have h7 : (decide (v = x) || decide (w = x)) = true := by rw [Bool.or_eq_true, decide_eq_true_eq, decide_eq_true_eq]; exact h8
          rw [← h9, Bool.or_eq_true, decide_eq_true_eq, decide_eq_true_eq] at h7
          exact h7
      have hcase : (a = v ∧ b = w) ∨ (a = w ∧ b = v) := by
        have m1 := (hmem v).mpr (Or.inl rfl)
        have m2 := (hmem w).mpr (Or.inr rfl)
        omega
      have hinc : (lf.testBit e && (decide (En e = nI v) || decide (Ot e = nI v))) = true := by
        rw [hlfe, Bool.true_and, Bool.or_eq_true, decide_eq_true_eq, decide_eq_true_eq]
        rcases hcase with ⟨h9, _⟩ | ⟨_, h9⟩
        · exact Or.inl (by rw [hEn, h9])
        · exact Or.inr (by rw [hOt, h9])
      have huni : ∀ k, k < 12 → k ≠ e → (lf.testBit k && (decide (En k = nI v) || decide (Ot k = nI v))) = false := fun k hk hke => by
        cases h9 : (lf.testBit k && (decide (En k = nI v) || decide (Ot k = nI v)))
        · rfl
        · exfalso
          rw [Bool.and_eq_true, Bool.or_eq_true, decide_eq_true_eq, decide_eq_true_eq, hlf k hk, Bool.and_eq_true] at h9
          obtain ⟨⟨h5, h6⟩, h7⟩ := h9
          have h6b : pl.testBit (11 - k) = false := by
            cases h8 : pl.testBit (11 - k)
            · rfl
            · rw [h8] at h6; exact h6.symm
          have h4 := pw_un h d w (sn ||| ed e) (pl ||| 2 ^ (11 - e)) h2 hsw2 k hk h5 (by rw [Nat.testBit_or, h6b, tb_p2, decide_eq_false (by omega)]; rfl)
          have hkv : (ed k).testBit v = true := by
            rcases h k hk with ⟨_, h8⟩ | ⟨a2, b2, ha2, hb2, _, h10, h11, h12⟩
            · exact absurd h8 h4.1
            · rw [h12, Nat.testBit_or, tb_p2, tb_p2, Bool.or_eq_true, decide_eq_true_eq, decide_eq_true_eq]
              rcases h7 with h7 | h7
              · exact Or.inl ((nI_eq (by omega) (by omega)).mp (h10.symm.trans h7))
              · exact Or.inr ((nI_eq (by omega) (by omega)).mp (h11.symm.trans h7))
          exact hvw (h4.2 v hkv (by rw [Nat.testBit_or, hsv, Bool.true_or]))
      have hoe := oe_uni (En := En) (Ot := Ot) hinc 12 huni
      rw [if_pos he] at hoe
      have hoer : oer_ En Ot lf (nI v) = nI e := by
        unfold oer_
        rw [hoe]
        rfl
      have hwv : (if En e = nI v then Ot e else En e) = nI w := by
        rcases hcase with ⟨h9, h8⟩ | ⟨h9, h8⟩
        · rw [if_pos (by rw [hEn, h9]), hOt, h8]
        · rw [if_neg (fun h10 => hvw ((nI_eq (by omega) (by omega)).mp ((h10.symm.trans hEn).trans (by rw [h9]))).symm.symm), hEn, h9]
      obtain ⟨w2, _, _, hlt2, _, _⟩ := wk_one (eg_ok h he) hsn hv hsv h1
      have e2 : sn ||| ed e = sn ||| 2 ^ w := by rw [hx]; exact or_seen hsv
      rw [ip_on hvt2 hoer he hwv, ni_tb (by omega) (by omega), hsw, if_neg (show ¬ nI (if false = true then 1 else 0) = nI 1 by decide), ni_bit (by omega), ni_or]
      rw [e2] at hlt2 h2
      refine pw_ip h ht hp d m (lf ^^^ 2 ^ e) w (sn ||| 2 ^ w) (pl ||| 2 ^ (11 - e)) (by omega) h2 (ms_xor hlt he) (fun k hk => ?_) hw7 hlt2 (tb_or2 _ _) (fun k hk hb x hx1 => ?_)
      · by_cases hke : k = e
        · subst hke
          rw [tb_x, hlfe, tb_or2]; simp
        · rw [tb_xn hke, hlf k hk, Nat.testBit_or, tb_p2, decide_eq_false (show ¬ 11 - e = 11 - k by omega), Bool.or_false]
      · rw [← e2, Nat.testBit_or]
        by_cases hke : k = e
        · subst hke; rw [hx1, Bool.or_true]
        · rw [Nat.testBit_or, tb_p2, decide_eq_false (show ¬ 11 - e = 11 - k by omega), Bool.or_false] at hb
          rw [hpl k hk hb x hx1, Bool.true_or]
theorem uc_one {s : Nat} (hs : s < 7) : uc_ (2 ^ s) < 8 := by have := uc_le (2 ^ s); omega
theorem path_eq (h : eg_ ed En Ot) {F : Nat → Int64} (hF : ∀ q, q < 4096 → fb_ F q = false) {s t p : Nat} (hs : s < 7) (ht : t < 7) (hp : p < 4096) : fb_ (wk_ ed (2 ^ t) 8 (2 ^ s) (2 ^ s) 0 F) p = (fa_ (aef_ En (tu_ p 12)) 12 && ip_ En Ot (nI t) 4096 (tu_ p 12, nI s, nI 1 <<< (nI s &&& 31))) := by
  refine bool_iff ?_
  rw [wk_pw, hF p hp, Bool.and_eq_true, fa_all, ni_bit (by omega)]
  have hlt : 2 ^ s < 128 := Nat.pow_lt_pow_right (n := 7) (by decide) hs
  have hlf : ∀ e, e < 12 → (tu_ p 12).testBit e = (p.testBit (11 - e) && !(0 : Nat).testBit (11 - e)) := fun e he => by
    rw [tu_e p he, Nat.zero_testBit]; simp
  constructor
  · rintro (h1 | h1)
    · exact Bool.noConfusion h1
    · refine ⟨fun e he => ?_, pw_ip h ht hp 8 4096 (tu_ p 12) s (2 ^ s) 0 (by decide) h1 (tu_12 p) hlf hs hlt Nat.testBit_two_pow_self (fun e _ hb => by rw [Nat.zero_testBit] at hb; exact Bool.noConfusion hb)⟩
      unfold aef_
      rw [tu_e p he]
      cases h3 : p.testBit (11 - e)
      · rfl
      · have h4 := pw_un h 8 s (2 ^ s) 0 h1 Nat.testBit_two_pow_self e he h3 (Nat.zero_testBit _)
        rw [decide_eq_false (fun h9 => h4.1 ((eg_neg h he).mp h9))]; rfl
  · rintro ⟨h1, h2⟩
    refine Or.inr (ip_pw h ht hp 4096 (tu_ p 12) s (2 ^ s) 0 8 h2 hlf (fun k hk => by rw [Nat.zero_testBit] at hk; exact Bool.noConfusion hk) (fun e he hb h9 => ?_) hs hlt Nat.testBit_two_pow_self (uc_one hs))
    have h4 := h1 e he
    unfold aef_ at h4
    rw [hb, decide_eq_true ((eg_neg h he).mpr h9)] at h4
    exact Bool.noConfusion h4
end EG
section RLG
variable {I : Nat → Nat → Int32} {J J' : Nat → Nat → Int64} {sh : Nat → Nat} {fr : Nat} {en : Int32} {S K : Nat → Int64} {En Ot Wt : Nat → Int32}
theorem fb_fillJ {p : Nat} (hp : p < 4096) : fb_ ((fillJ_ J fr 0) (fr + 1)) p = false := by rw [fillJ_at]; exact fb_fl0 hp
theorem rl_path (h : rl_ I J sh fr en S En Ot Wt) {ed : Nat → Nat} (he : eg_ ed En Ot) {i s t : Nat} (hi : i < 10) (hs : s < 7) (ht : t < 7) : rl_ I (va_up (fillJ_ J fr 0) (fr + 1) (wk_ ed (2 ^ t) 8 (2 ^ s) (2 ^ s) 0 ((fillJ_ J fr 0) (fr + 1)))) (va_up sh i fr) (sh i) en (sl_ S i (mkl_ (fl_ K 64 0) (fun n => fa_ (aef_ En n) 12 && ip_ En Ot (nI t) 4096 (n, nI s, nI 1 <<< (nI s &&& 31))) (fun n => tu_ n 12) 4096) 64) En Ot Wt ∧ tw64_ ((va_up (fillJ_ J fr 0) (fr + 1) (wk_ ed (2 ^ t) 8 (2 ^ s) (2 ^ s) 0 ((fillJ_ J fr 0) (fr + 1)))) (fr + 1)) 64 = tw64_ (rw_ (sl_ S i (mkl_ (fl_ K 64 0) (fun n => fa_ (aef_ En n) 12 && ip_ En Ot (nI t) 4096 (n, nI s, nI 1 <<< (nI s &&& 31))) (fun n => tu_ n 12) 4096) 64) i) 64 := by
  refine rl_lay h hi (fun p hp => ?_) (fun j hj => ?_) ?_
  · rw [va_up_self, fb_maket hp, path_eq he (fun q hq => fb_fillJ hq) hs ht hp]
  · rw [va_up_ne _ _ (fun h9 => (h.1.2.2.2 j hj).2.2.2 (by omega)), fillJ_ne (fun h9 => (h.1.2.2.2 j hj).2.2.2 (by omega))]
  · rw [va_up_ne _ _ (fo_8 h.1.1), fillJ_ne (fo_8 h.1.1)]
theorem rl_match (h : rl_ I J sh fr en S En Ot Wt) {ed : Nat → Nat} (he : eg_ ed En Ot) {i : Nat} (hi : i < 10) : rl_ I (va_up (fillJ_ J fr 0) (fr + 1) (mt_ ed 12 0 0 ((fillJ_ J fr 0) (fr + 1)))) (va_up sh i fr) (sh i) en (sl_ S i (mkl_ (fl_ K 64 0) (fun n => fa_ (aef_ En n) 12 && fa_ (imf_ En Ot n) 12) (fun n => tu_ n 12) 4096) 64) En Ot Wt ∧ tw64_ ((va_up (fillJ_ J fr 0) (fr + 1) (mt_ ed 12 0 0 ((fillJ_ J fr 0) (fr + 1)))) (fr + 1)) 64 = tw64_ (rw_ (sl_ S i (mkl_ (fl_ K 64 0) (fun n => fa_ (aef_ En n) 12 && fa_ (imf_ En Ot n) 12) (fun n => tu_ n 12) 4096) 64) i) 64 := by
  refine rl_lay h hi (fun p hp => ?_) (fun j hj => ?_) ?_
  · rw [va_up_self, fb_maket hp, match_eq he (fun q hq => fb_fillJ hq) hp]
  · rw [va_up_ne _ _ (fun h9 => (h.1.2.2.2 j hj).2.2.2 (by omega)), fillJ_ne (fun h9 => (h.1.2.2.2 j hj).2.2.2 (by omega))]
  · rw [va_up_ne _ _ (fo_8 h.1.1), fillJ_ne (fo_8 h.1.1)]
end RLG
