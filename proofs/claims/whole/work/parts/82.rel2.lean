/-! The bits of a family moved along one element. -/
theorem xp_d (p b : Nat) : (p ^^^ 2 ^ b) / 64 = p / 64 ^^^ 2 ^ b / 64 := by
  have h := Nat.shiftRight_xor_distrib (a := p) (b := 2 ^ b) (i := 6)
  rw [Nat.shiftRight_eq_div_pow, Nat.shiftRight_eq_div_pow, Nat.shiftRight_eq_div_pow] at h
  exact h
theorem xp_m (p b : Nat) : (p ^^^ 2 ^ b) % 64 = p % 64 ^^^ 2 ^ b % 64 := Nat.xor_mod_two_pow (a := p) (b := 2 ^ b) (n := 6)
theorem tb_lo {p b : Nat} (hb : b < 6) : p.testBit b = (p % 64).testBit b := by
  have h := Nat.testBit_mod_two_pow p 6 b
  rw [decide_eq_true hb, Bool.true_and] at h
  exact h.symm
theorem tb_hi {p b : Nat} (hb : 6 ≤ b) : p.testBit b = (p / 64).testBit (b - 6) := by
  have h := Nat.testBit_div_two_pow (n := 6) p (b - 6)
  rw [show b - 6 + 6 = b by omega] at h
  exact h.symm
theorem p2_lo {b : Nat} (hb : b < 6) : 2 ^ b / 64 = 0 ∧ 2 ^ b % 64 = 2 ^ b := by
  have h : 2 ^ b < 2 ^ 6 := Nat.pow_lt_pow_right (by decide) hb
  exact ⟨Nat.div_eq_of_lt h, Nat.mod_eq_of_lt h⟩
theorem p2_hi {b : Nat} (hb : 6 ≤ b) : 2 ^ b / 64 = 2 ^ (b - 6) ∧ 2 ^ b % 64 = 0 := by
  have h : 2 ^ b = 2 ^ (b - 6) * 64 := by rw [show (64 : Nat) = 2 ^ 6 by rfl, ← Nat.pow_add, show b - 6 + 6 = b by omega]
  rw [h]
  exact ⟨Nat.mul_div_cancel _ (by decide), Nat.mul_mod_left _ _⟩
theorem hm_bit : ∀ (b : Fin 6) (i : Fin 64), lb_ (hm_ b.val) i.val = i.val.testBit b.val := by decide +kernel
theorem mv_fin : ∀ (b : Fin 6) (i : Fin 64), (i.val.testBit b.val = true → (64 ≤ 2 ^ b.val + i.val ∨ (2 ^ b.val + i.val).testBit b.val = false) ∧ 2 ^ b.val ≤ i.val ∧ i.val - 2 ^ b.val = i.val ^^^ 2 ^ b.val ∧ (i.val - 2 ^ b.val).testBit b.val = false) ∧ (i.val.testBit b.val = false → 2 ^ b.val + i.val = i.val ^^^ 2 ^ b.val ∧ 2 ^ b.val + i.val < 64 ∧ (2 ^ b.val + i.val).testBit b.val = true ∧ (i.val < 2 ^ b.val ∨ (i.val - 2 ^ b.val).testBit b.val = true)) := by decide +kernel
section MV
variable {f : Nat → Int64} {p b : Nat}
theorem fb_hv (hp : p < 4096) (hb : b < 12) : fb_ (fun w => hv_ f w b) p = (fb_ f p && p.testBit b) := by
  show lb_ (hv_ f (p / 64) b) (p % 64) = (lb_ (f (p / 64)) (p % 64) && p.testBit b)
  unfold hv_
  by_cases h6 : b < 6
  · rw [if_pos h6, lb_and, show lb_ (hm_ b) (p % 64) = (p % 64).testBit b from hm_bit ⟨b, h6⟩ ⟨p % 64, Nat.mod_lt _ (by decide)⟩, tb_lo (p := p) h6]
  · rw [if_neg h6, tb_hi (Nat.le_of_not_lt h6)]
    cases (p / 64).testBit (b - 6)
    · rw [if_neg (by decide), lb_0, Bool.and_false]
    · rw [if_pos rfl, Bool.and_true]
theorem fb_lk (hp : p < 4096) (hb : b < 12) : fb_ (fun w => lk_ f w b) p = (fb_ f p && !p.testBit b) := by
  have h : fb_ (fun w => lk_ f w b) p = (fb_ f p && !fb_ (fun w => hv_ f w b) p) := fb_lack f (fun w => hv_ f w b) p
  rw [h, fb_hv hp hb]
  cases fb_ f p <;> cases p.testBit b <;> rfl
theorem fb_lo (hp : p < 4096) (hb : b < 12) : fb_ (fun w => lo_ f w b) p = (!p.testBit b && fb_ f (p ^^^ 2 ^ b)) := by
  show lb_ (lo_ f (p / 64) b) (p % 64) = (!p.testBit b && lb_ (f ((p ^^^ 2 ^ b) / 64)) ((p ^^^ 2 ^ b) % 64))
  rw [xp_d, xp_m]
  have hi : p % 64 < 64 := Nat.mod_lt _ (by decide)
  unfold lo_
  by_cases h6 : b < 6
  · rw [if_pos h6, (p2_lo h6).1, (p2_lo h6).2, Nat.xor_zero, tb_lo h6]
    have hk : 2 ^ b < 64 := Nat.pow_lt_pow_right (n := 6) (by decide) h6
    rw [lb_shr _ hk]
    have hm := mv_fin ⟨b, h6⟩ ⟨p % 64, hi⟩
    unfold hv_
    rw [if_pos h6, lb_and]
    cases ht : (p % 64).testBit b
    · obtain ⟨h1, h2, h3, -⟩ := hm.2 ht
      have h9 := hm_bit ⟨b, h6⟩ ⟨2 ^ b + p % 64, h2⟩
      rw [show lb_ (hm_ b) (2 ^ b + p % 64) = (2 ^ b + p % 64).testBit b from h9, h3, Bool.and_true, h1]
      rfl
    · rcases (hm.1 ht).1 with h1 | h1
      · rw [lb_big h1]; rfl
      · by_cases h2 : 64 ≤ 2 ^ b + p % 64
        · rw [lb_big h2]; rfl
        · have h9 := hm_bit ⟨b, h6⟩ ⟨2 ^ b + p % 64, Nat.lt_of_not_le h2⟩
          rw [show lb_ (hm_ b) (2 ^ b + p % 64) = (2 ^ b + p % 64).testBit b from h9, h1, Bool.and_false]
          rfl
  · have hb6 := Nat.le_of_not_lt h6
    rw [if_neg h6, (p2_hi hb6).1, (p2_hi hb6).2, Nat.xor_zero, tb_hi hb6]
    cases ht : (p / 64).testBit (b - 6)
    · rw [if_neg (by decide)]
      have h1 : p / 64 ||| 2 ^ (b - 6) = p / 64 ^^^ 2 ^ (b - 6) := by
        apply Nat.eq_of_testBit_eq
        intro j
        rw [Nat.testBit_or, Nat.testBit_xor]
        by_cases hj : j = b - 6
        · subst hj; rw [ht, Nat.testBit_two_pow_self]; rfl
        · rw [Nat.testBit_two_pow_of_ne (fun h9 => hj h9.symm), Bool.or_false, Bool.xor_false]
      rw [h1]
      rfl
    · rw [if_pos rfl, lb_0]; rfl
theorem fb_ra (hp : p < 4096) (hb : b < 12) : fb_ (fun w => ra_ f w b) p = (p.testBit b && fb_ f (p ^^^ 2 ^ b)) := by
  show lb_ (ra_ f (p / 64) b) (p % 64) = (p.testBit b && lb_ (f ((p ^^^ 2 ^ b) / 64)) ((p ^^^ 2 ^ b) % 64))
  rw [xp_d, xp_m]
  have hi : p % 64 < 64 := Nat.mod_lt _ (by decide)
  unfold ra_
  by_cases h6 : b < 6
  · rw [if_pos h6, (p2_lo h6).1, (p2_lo h6).2, Nat.xor_zero, tb_lo h6]
    have hk : 2 ^ b < 64 := Nat.pow_lt_pow_right (n := 6) (by decide) h6
    rw [lb_shl _ hk hi]
    have hm := mv_fin ⟨b, h6⟩ ⟨p % 64, hi⟩
    have hlk : ∀ i, i < 64 → lb_ (lk_ f (p / 64) b) i = (lb_ (f (p / 64)) i && !i.testBit b) := by
      intro i hi2
      have h9 := fb_lk (f := f) (p := 64 * (p / 64) + i) (b := b) (by omega) hb
      have e1 : (64 * (p / 64) + i) / 64 = p / 64 := by omega
      have e2 : (64 * (p / 64) + i) % 64 = i := by omega
      rw [tb_lo h6, e2] at h9
      unfold fb_ at h9
      rw [e1, e2] at h9
      exact h9
    cases ht : (p % 64).testBit b
    · rcases (hm.2 ht).2.2.2 with h1 | h1
      · rw [decide_eq_false (Nat.not_le.mpr h1)]; rfl
      · rw [hlk _ (Nat.lt_of_le_of_lt (Nat.sub_le _ _) hi), h1]
        simp
    · obtain ⟨-, h1, h2, h3⟩ := hm.1 ht
      rw [decide_eq_true h1, hlk _ (Nat.lt_of_le_of_lt (Nat.sub_le _ _) hi), h3, h2]
      simp
  · have hb6 := Nat.le_of_not_lt h6
    rw [if_neg h6, (p2_hi hb6).1, (p2_hi hb6).2, Nat.xor_zero, tb_hi hb6]
    cases ht : (p / 64).testBit (b - 6)
    · rw [if_neg (by decide), lb_0]; rfl
    · rw [if_pos rfl]; rfl
end MV
