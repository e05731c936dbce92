/-! Paths and matchings as the class makes them. -/
def fold_ {α : Type} (g : Nat → α → α) : Nat → α → α
  | 0, a => a
  | n + 1, a => g n (fold_ g n a)
def inc_ (f : Nat → Int64) (p : Nat) : Nat → Int64 := vp_updL f (p / 64) (f (p / 64) ||| (1 : Int64) <<< ((nI (p % 64)).toInt64 &&& 63))
def wk_ (ed : Nat → Nat) (goal : Nat) : Nat → Nat → Nat → Nat → (Nat → Int64) → Nat → Int64
  | 0, _, _, _, f => f
  | d + 1, av, sn, pl, f => if av = goal then inc_ f pl else fold_ (fun e g => if ed e &&& sn = av then wk_ ed goal d (ed e ^^^ av) (sn ||| ed e) (pl ||| 2 ^ (11 - e)) g else g) 12 f
def mt_ (ed : Nat → Nat) : Nat → Nat → Nat → (Nat → Int64) → Nat → Int64
  | 0, _, pl, f => inc_ f pl
  | d + 1, bs, pl, f => if ed (11 - d) ≠ 0 ∧ ed (11 - d) &&& bs = 0 then mt_ ed d (bs ||| ed (11 - d)) (pl ||| 2 ^ d) (mt_ ed d bs pl f) else mt_ ed d bs pl f
def eok_ (x : Nat) : Prop := x = 0 ∨ ∃ u w : Nat, u < 7 ∧ w < 7 ∧ u ≠ w ∧ x = 2 ^ u ||| 2 ^ w
def uc_ (sn : Nat) : Nat := cn_ (fun i => !sn.testBit i) 7
theorem cn_lt {f g : Nat → Bool} {w : Nat} : ∀ {n : Nat}, (∀ i, i < n → f i = true → g i = true) → w < n → f w = false → g w = true → cn_ f n < cn_ g n
  | 0, _, h, _, _ => absurd h (by omega)
  | n + 1, hle, hw, hf, hg => by
    rw [cn_, cn_]
    have hmono : ∀ {m : Nat}, m ≤ n + 1 → cn_ f m ≤ cn_ g m := by
      intro m
      induction m with
      | zero => intro _; exact Nat.le_refl _
      | succ m ih =>
        intro hm
        rw [cn_, cn_]
        have h1 := ih (by omega)
        have h2 := hle m (by omega)
        cases hfm : f m
        · simp only [Bool.false_eq_true, if_false]; omega
        · rw [h2 hfm]; simp only [if_true]; omega
    by_cases h : w = n
    · subst h
      rw [hf, hg]
      have := hmono (m := w) (by omega)
      simp only [Bool.false_eq_true, if_false, if_true]
      omega
    · have ih := cn_lt (n := n) (fun i hi => hle i (by omega)) (by omega) hf hg
      have h2 := hle n (by omega)
      cases hfn : f n
      · simp only [Bool.false_eq_true, if_false]; omega
      · rw [h2 hfn]; simp only [if_true]; omega
theorem tp_ne {u w : Nat} (h : u ≠ w) : (2 ^ u).testBit w = false := by rw [Nat.testBit_two_pow]; exact decide_eq_false h
theorem tp_x1 {u w : Nat} (h : u ≠ w) : (2 ^ u ||| 2 ^ w) ^^^ 2 ^ u = 2 ^ w := by
  apply Nat.eq_of_testBit_eq
  intro i
  rw [Nat.testBit_xor, Nat.testBit_or, Nat.testBit_two_pow, Nat.testBit_two_pow]
  by_cases h1 : u = i
  · have h2 : ¬ w = i := fun h9 => h (h1.trans h9.symm)
    simp [h1, h2]
  · simp [h1]
/-- one step of a walk -/
theorem wk_one {x sn v : Nat} (hx : eok_ x) (hsn : sn < 128) (hv : v < 7) (hb : sn.testBit v = true) (ha : x &&& sn = 2 ^ v) : ∃ w, w < 7 ∧ x ^^^ 2 ^ v = 2 ^ w ∧ sn ||| x < 128 ∧ (sn ||| x).testBit w = true ∧ uc_ (sn ||| x) < uc_ sn := by
  rcases hx with rfl | ⟨u, w, hu, hw, hne, rfl⟩
  · rw [Nat.zero_and] at ha
    exact absurd ha.symm (Nat.ne_of_gt (Nat.two_pow_pos v))
  · have hlt : sn ||| (2 ^ u ||| 2 ^ w) < 128 := Nat.or_lt_two_pow (n := 7) hsn (Nat.or_lt_two_pow (n := 7) (Nat.pow_lt_pow_right (by decide) hu) (Nat.pow_lt_pow_right (by decide) hw))
    have hv1 := congrArg (fun z => z.testBit v) ha
    simp only [Nat.testBit_and, Nat.testBit_or, Nat.testBit_two_pow_self, hb, Bool.and_true] at hv1
    have key : ∀ a b : Nat, a < 7 → b < 7 → a ≠ b → (2 ^ a ||| 2 ^ b) &&& sn = 2 ^ a → sn.testBit b = false := by
      intro a b _ _ hab h1
      have h2 := congrArg (fun z => z.testBit b) h1
      simp only [Nat.testBit_and, Nat.testBit_or, Nat.testBit_two_pow_self, Bool.or_true, Bool.true_and, tp_ne hab] at h2
      exact h2
    have fin : ∀ b : Nat, b < 7 → sn.testBit b = false → (2 ^ u ||| 2 ^ w).testBit b = true → (sn ||| (2 ^ u ||| 2 ^ w)).testBit b = true ∧ uc_ (sn ||| (2 ^ u ||| 2 ^ w)) < uc_ sn := by
      intro b hb7 h1 h2
      refine ⟨by rw [Nat.testBit_or, h2, Bool.or_true], ?_⟩
      unfold uc_
      refine cn_lt (w := b) (fun i _ h => ?_) hb7 (by rw [Nat.testBit_or, h2, Bool.or_true]; rfl) (by rw [h1]; rfl)
      rw [Nat.testBit_or] at h
      cases h9 : sn.testBit i
      · rfl
      · rw [h9] at h; exact absurd h (by simp)
    by_cases h1 : v = u
    · subst h1
      have h2 := key v w hv hw hne ha
      obtain ⟨f1, f2⟩ := fin w hw h2 (by rw [Nat.testBit_or, Nat.testBit_two_pow_self, Bool.or_true])
      exact ⟨w, hw, tp_x1 hne, hlt, f1, f2⟩
    · have h2 : v = w := by
        rw [tp_ne (fun h9 => h1 h9.symm), Bool.false_or, Nat.testBit_two_pow] at hv1
        exact (of_decide_eq_true hv1).symm
      subst h2
      have h3 := key v u hv hu (fun h9 => hne h9.symm) (by rw [Nat.or_comm]; exact ha)
      obtain ⟨f1, f2⟩ := fin u hu h3 (by rw [Nat.testBit_or, Nat.testBit_two_pow_self, Bool.true_or])
      exact ⟨u, hu, by rw [Nat.or_comm]; exact tp_x1 (fun h9 => hne h9.symm), hlt, f1, f2⟩
theorem pl_bit {pl k : Nat} (h : pl < 4096) (hk : k < 12) : pl ||| 2 ^ k < 4096 := Nat.or_lt_two_pow (n := 12) h (Nat.pow_lt_pow_right (by decide) hk)
theorem eok_lt {x : Nat} (h : eok_ x) : x < 128 := by
  rcases h with rfl | ⟨u, w, hu, hw, -, rfl⟩
  · decide
  · exact Nat.or_lt_two_pow (n := 7) (Nat.pow_lt_pow_right (by decide) hu) (Nat.pow_lt_pow_right (by decide) hw)
theorem uc_le (sn : Nat) : uc_ sn ≤ 7 := cn_le _ _
