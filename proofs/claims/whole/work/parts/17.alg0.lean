/-! What Algebra's loops make, as functions. -/
def wl_ {α : Type} (f g : Nat → α) (n : Nat) : Nat → α := fun j => if j < n then g j else f j
theorem wl_0 {α : Type} (f g : Nat → α) : wl_ f g 0 = f := by funext j; simp [wl_]
theorem wl_at {α : Type} (f g : Nat → α) (n : Nat) : wl_ f g n n = f n := by simp [wl_]
theorem wl_s (f g : Nat → Int64) (n : Nat) : vp_updL (wl_ f g n) n (g n) = wl_ f g (n + 1) := by
  funext j
  unfold vp_updL wl_
  by_cases h : j = n
  · simp [h]
  · rw [if_neg h]
    by_cases h2 : j < n
    · rw [if_pos h2, if_pos (by omega)]
    · rw [if_neg h2, if_neg (by omega)]
theorem wl_skip (f g : Nat → Int64) (n : Nat) (h : f n = g n) : wl_ f g n = wl_ f g (n + 1) := by
  rw [← wl_s]
  funext j
  unfold vp_updL
  by_cases hj : j = n
  · rw [if_pos hj, hj, wl_at, h]
  · rw [if_neg hj]
theorem va_comm {α : Type} (f : Nat → α) {j k : Nat} (h : j ≠ k) (x y : α) : va_up (va_up f j x) k y = va_up (va_up f k y) j x := by
  funext i
  unfold va_up
  by_cases h1 : i = k
  · by_cases h2 : i = j
    · exact absurd (h2.symm.trans h1) h
    · simp only [if_pos h1, if_neg h2]
  · by_cases h2 : i = j
    · simp only [if_neg h1, if_pos h2]
    · simp only [if_neg h1, if_neg h2]
def ld_ (bits : Nat) : Nat → Int64
  | 0 => 1
  | n + 1 => if bits.testBit n then ld_ bits n else ld_ bits n ||| ld_ bits n <<< ((nI (2 ^ n)).toInt64 &&& 63)
def fdj_ (bits : Nat) (w : Nat) : Int64 := if w &&& (bits / 64) = 0 then ld_ bits 6 else 0
def ub_ (f : Nat → Int64) : Nat → Nat
  | 0 => 0
  | n + 1 => if fb_ f n then ub_ f n ||| n else ub_ f n
theorem ub_lt (f : Nat → Int64) : ∀ {n : Nat}, n ≤ 4096 → ub_ f n < 4096
  | 0, _ => by rw [ub_]; decide
  | n + 1, h => by
    rw [ub_]
    have ih := ub_lt f (n := n) (by omega)
    split
    · exact Nat.or_lt_two_pow (n := 12) ih (by omega)
    · exact ih
/-- only sets whose union with the place stays in F -/
def ku_ (O F : Nat → Int64) (p w : Nat) : Int64 := O w &&& su_l (F (w ||| p / 64)) (p % 64)
def dv_ (O F G : Nat → Int64) : Nat → Nat → Int64
  | 0 => wl_ O (fdj_ (ub_ G 4096)) 64
  | n + 1 => if fb_ G n then wl_ (dv_ O F G n) (ku_ (dv_ O F G n) F n) 64 else dv_ O F G n
def jw_ (x : Int64) (low : Nat) : Nat → Int64
  | 0 => x
  | n + 1 => if low.testBit n then (jw_ x low n &&& hm_ n) ||| ((jw_ x low n &&& (hm_ n ^^^ (-1))) <<< ((nI (2 ^ n)).toInt64 &&& 63)) else jw_ x low n
def mw_ (x : Int64) (low : Nat) : Nat → Int64
  | 0 => x
  | n + 1 => if low.testBit n then mw_ x low n else (mw_ x low n &&& (hm_ n ^^^ (-1))) ||| su_l (mw_ x low n &&& hm_ n) (2 ^ n)
def sw_ (F : Nat → Int64) (low : Nat) (jn : Bool) (w : Nat) : Int64 := if jn then jw_ (F w) low 6 else mw_ (F w) low 6
def ti_ (jn : Bool) (w hi : Nat) : Nat := if jn then w ||| hi else w &&& hi
theorem ti_lt {jn : Bool} {w hi : Nat} (h1 : w < 64) (h2 : hi < 64) : ti_ jn w hi < 64 := by
  unfold ti_
  split
  · exact Nat.or_lt_two_pow (n := 6) h1 h2
  · exact Nat.lt_of_le_of_lt Nat.and_le_left h1
def pi_ (O S : Nat → Int64) (hi : Nat) (jn : Bool) : Nat → Nat → Int64
  | 0 => O
  | n + 1 => vp_updL (pi_ O S hi jn n) (ti_ jn n hi) (pi_ O S hi jn n (ti_ jn n hi) ||| S n)
def ph_ (O S G : Nat → Int64) (low : Nat) (jn : Bool) : Nat → Nat → Int64
  | 0 => O
  | n + 1 => if fb_ G (64 * n + low) then pi_ (ph_ O S G low jn n) S n jn 64 else ph_ O S G low jn n
/-- pairing: the words that come out, the shifted ones -/
def pr_ (O S F G : Nat → Int64) (jn : Bool) : Nat → (Nat → Int64) × (Nat → Int64)
  | 0 => (O, S)
  | n + 1 => if lb_ (orr_ G 64) n then (ph_ (pr_ O S F G jn n).1 (wl_ (pr_ O S F G jn n).2 (sw_ F n jn) 64) G n jn 64, wl_ (pr_ O S F G jn n).2 (sw_ F n jn) 64) else pr_ O S F G jn n
def chg_ (how : Nat) (F : Nat → Int64) (b w : Nat) : Int64 := if how = 0 then lo_ F w b else if how = 1 then lk_ F w b else lo_ F w b ||| ra_ F w b
def exg_ (F H : Nat → Int64) (dn : Bool) (w : Nat) : Int64 := F w &&& (orr_ (fun b => mv_ H w b dn) 12 ^^^ (-1))
def szg_ (F L : Nat → Int64) (n w : Nat) : Int64 := if nb_ w ≤ n ∧ n - nb_ w ≤ 6 then F w &&& L (n - nb_ w) else 0
theorem pl_or {n low : Nat} (hl : low < 64) : n * 2 ^ 6 ||| low = 64 * n + low := by
  rw [Nat.mul_comm, ← Nat.two_pow_add_eq_or_of_lt (i := 6) (by simpa using hl)]
