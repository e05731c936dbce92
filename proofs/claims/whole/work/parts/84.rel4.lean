/-! nth, rank; the heaviest set. -/
theorem si_low (g : Nat → Int32) (hf : Nat) (wt : Int32) : ∀ n j, j < hf → si_ g hf wt n j = g j
  | 0, _, _ => rfl
  | n + 1, j, hj => by rw [si_, pk_un (by omega), si_low g hf wt n j hj]
theorem si_at (g : Nat → Int32) (hf : Nat) (wt : Int32) : ∀ n, n ≤ hf → ∀ k, k < n → si_ g hf wt n (hf + k) = g k + wt
  | 0, _, k, hk => absurd hk (Nat.not_lt_zero _)
  | n + 1, hn, k, hk => by
    rw [si_]
    by_cases hkn : k = n
    · subst hkn
      rw [pk_us, si_low g hf wt k k (by omega)]
    · rw [pk_un (by omega), si_at g hf wt n (by omega) k (by omega)]
/-- the sum of the weights of some elements, by their bits -/
def wb_ (B : Nat → Int32) (fb x : Nat) : Nat → Int32
  | 0 => 0
  | i + 1 => wb_ B fb x i + (if x.testBit i then B (11 - (fb + i)) else 0)
theorem wb_low (B : Nat → Int32) (fb : Nat) {x y : Nat} : ∀ n, (∀ i, i < n → x.testBit i = y.testBit i) → wb_ B fb x n = wb_ B fb y n
  | 0, _ => rfl
  | n + 1, h => by rw [wb_, wb_, wb_low B fb n (fun i hi => h i (by omega)), h n (by omega)]
theorem so_sum (g B : Nat → Int32) (fb : Nat) (h0 : g 0 = 0) : ∀ i x, x < 2 ^ i → so_ g B fb i x = wb_ B fb x i
  | 0, x, hx => by
    have : x = 0 := by have h1 : x < 1 := hx; omega
    subst this
    exact h0
  | i + 1, x, hx => by
    have hx2 : x < 2 ^ i + 2 ^ i := by rw [Nat.pow_succ] at hx; omega
    rw [so_, wb_]
    by_cases hlt : x < 2 ^ i
    · rw [si_low _ _ _ _ _ hlt, so_sum g B fb h0 i x hlt, Nat.testBit_lt_two_pow hlt]
      exact (Int32.add_zero _).symm
    · have e1 : x = 2 ^ i + (x - 2 ^ i) := by omega
      have hy : x - 2 ^ i < 2 ^ i := by omega
      have ht : x.testBit i = true := by
        rw [e1, Nat.testBit_two_pow_add_eq, Nat.testBit_lt_two_pow hy]
        rfl
      rw [ht, if_pos rfl]
      have h1 : si_ (so_ g B fb i) (2 ^ i) (B (11 - (fb + i))) (2 ^ i) x = so_ g B fb i (x - 2 ^ i) + B (11 - (fb + i)) := by
        have h2 := si_at (so_ g B fb i) (2 ^ i) (B (11 - (fb + i))) (2 ^ i) (Nat.le_refl _) (x - 2 ^ i) hy
        rw [← e1] at h2
        exact h2
      rw [h1, so_sum g B fb h0 i _ hy]
      congr 1
      refine wb_low B fb i (fun k hk => ?_)
      rw [e1, Nat.add_sub_cancel_left, Nat.testBit_two_pow_add_gt hk]
