/-! The reference's sums: what one round, and all twelve, leave at a place. -/
def zv_ (g : Int32 → Int32 → Int32) (ov : Bool) (b : Nat) (r : Nat → Int32) (p : Nat) : Int32 := if p.testBit b then (if ov then r p else g (r p) (r (p ^^^ 2 ^ b))) else (if ov then g (r p) (r (p ||| 2 ^ b)) else r p)
theorem tb_or2 (p b : Nat) : (p ||| 2 ^ b).testBit b = true := by rw [Nat.testBit_or, Nat.testBit_two_pow_self, Bool.or_true]
theorem zi_at (g : Int32 → Int32 → Int32) (ov : Bool) (b : Nat) (r : Nat → Int32) : ∀ n p, zi_ g ov b r n p = if p < n then zv_ g ov b r p else r p
  | 0, p => by rw [zi_, if_neg (Nat.not_lt_zero _)]
  | n + 1, p => by
    have ih := zi_at g ov b r n
    have hself : zi_ g ov b r n n = r n := by rw [ih, if_neg (Nat.lt_irrefl _)]
    have hgo : ∀ x : Int32, x = zv_ g ov b r n → (upd (zi_ g ov b r n) n x) p = if p < n + 1 then zv_ g ov b r p else r p := by
      intro x hx
      by_cases hp : p = n
      · subst hp; rw [pk_us, hx, if_pos (by omega)]
      · rw [pk_un hp, ih]
        by_cases h1 : p < n
        · rw [if_pos h1, if_pos (by omega)]
        · rw [if_neg h1, if_neg (by omega)]
    have hstay : r n = zv_ g ov b r n → zi_ g ov b r n p = if p < n + 1 then zv_ g ov b r p else r p := by
      intro hx
      rw [ih]
      by_cases hp : p = n
      · subst hp; rw [if_neg (Nat.lt_irrefl _), if_pos (by omega)]; exact hx
      · by_cases h1 : p < n
        · rw [if_pos h1, if_pos (by omega)]
        · rw [if_neg h1, if_neg (by omega)]
    rw [zi_]
    cases ht : n.testBit b <;> cases ov
    · rw [if_neg (by decide), if_neg (by decide)]
      exact hstay (by unfold zv_; rw [ht]; rfl)
    · rw [if_neg (by decide), if_pos rfl]
      refine hgo _ ?_
      have h2 : zi_ g true b r n (n ||| 2 ^ b) = r (n ||| 2 ^ b) := by
        rw [ih]
        by_cases h1 : n ||| 2 ^ b < n
        · exact absurd (Nat.left_le_or (n := n) (m := 2 ^ b)) (by omega)
        · rw [if_neg h1]
      rw [hself, h2]
      unfold zv_
      rw [ht]
      rfl
    · rw [if_pos rfl, if_neg (by decide)]
      refine hgo _ ?_
      have h2 : zi_ g false b r n (n ^^^ 2 ^ b) = r (n ^^^ 2 ^ b) := by
        rw [ih]
        by_cases h1 : n ^^^ 2 ^ b < n
        · rw [if_pos h1]
          unfold zv_
          rw [tb_x, ht]
          rfl
        · rw [if_neg h1]
      rw [hself, h2]
      unfold zv_
      rw [ht]
      rfl
    · rw [if_pos rfl, if_pos rfl]
      exact hstay (by unfold zv_; rw [ht]; rfl)
/-- how many sets of a family stand over (under) a place, in the first b elements, and with it in the others -/
def zc_ (f : Nat → Bool) (ov : Bool) : Nat → Nat → Nat
  | 0, p => if f p then 1 else 0
  | b + 1, p => if p.testBit b then (if ov then zc_ f ov b p else zc_ f ov b p + zc_ f ov b (p ^^^ 2 ^ b)) else (if ov then zc_ f ov b p + zc_ f ov b (p ||| 2 ^ b) else zc_ f ov b p)
theorem zo_cnt {f : Nat → Bool} {O : Nat → Int32} {ov : Bool} : ∀ b, b ≤ 12 → ∀ p, p < 4096 → zo_ (· + ·) ov (ll_ f O 4096) b p = nI (zc_ f ov b p)
  | 0, _, p, hp => by
    rw [zo_, zc_]
    unfold ll_
    rw [if_pos hp]
    cases f p <;> rfl
  | b + 1, hb, p, hp => by
    have ih := zo_cnt (f := f) (O := O) (ov := ov) b (by omega)
    rw [zo_, zi_at, if_pos hp, zc_]
    unfold zv_
    cases ht : p.testBit b <;> cases ov
    · rw [if_neg (by decide), if_neg (by decide), if_neg (by decide), if_neg (by decide)]
      exact ih p hp
    · show zo_ (· + ·) true (ll_ f O 4096) b p + zo_ (· + ·) true (ll_ f O 4096) b (p ||| 2 ^ b) = nI (zc_ f true b p + zc_ f true b (p ||| 2 ^ b))
      rw [ih p hp, ih _ (ms_or hp (show b < 12 by omega))]
      exact nI_add _ _
    · rw [if_pos rfl, if_pos rfl, if_neg (by decide), if_neg (by decide), ih p hp, ih _ (ms_xor hp (by omega))]
      exact nI_add _ _
    · rw [if_pos rfl, if_pos rfl, if_pos rfl, if_pos rfl]
      exact ih p hp
