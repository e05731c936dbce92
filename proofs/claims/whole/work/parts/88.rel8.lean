theorem zc_le (f : Nat → Bool) (ov : Bool) : ∀ b p, zc_ f ov b p ≤ 2 ^ b
  | 0, p => by rw [zc_]; split <;> decide
  | b + 1, p => by
    have h1 := zc_le f ov b p
    have h2 := zc_le f ov b (p ^^^ 2 ^ b)
    have h3 := zc_le f ov b (p ||| 2 ^ b)
    rw [zc_, Nat.pow_succ]
    split <;> split <;> omega
/-- q stands over (under) p in the first b elements, and is p in the others -/
def zr_ (ov : Bool) (b p q : Nat) : Prop := ∀ i, if i < b then (if ov then (p.testBit i = true → q.testBit i = true) else (q.testBit i = true → p.testBit i = true)) else p.testBit i = q.testBit i
theorem zr_0 {ov : Bool} {p q : Nat} (h : zr_ ov 0 p q) : p = q := Nat.eq_of_testBit_eq (fun i => by have h9 := h i; rw [if_neg (Nat.not_lt_zero _)] at h9; exact h9)
theorem zr_up {ov : Bool} {b p q : Nat} (h : zr_ ov b p q) : zr_ ov (b + 1) p q := by
  intro i
  have h9 := h i
  by_cases h1 : i < b
  · rw [if_pos h1] at h9; rw [if_pos (by omega)]; exact h9
  · rw [if_neg h1] at h9
    by_cases h2 : i < b + 1
    · rw [if_pos h2, h9]
      cases ov
      · exact fun h => h
      · exact fun h => h
    · rw [if_neg h2]; exact h9
