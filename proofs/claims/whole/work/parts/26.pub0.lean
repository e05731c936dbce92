/-! The class's face, where nothing is thrown: what it answers, as functions. -/
def mr_ (n : Nat) : Nat → Nat
  | 0 => 0
  | k + 1 => mr_ n k ||| ((if n.testBit k then 1 else 0) * 2 ^ (11 - k))
theorem mr_lt (n : Nat) : ∀ {k : Nat}, k ≤ 12 → mr_ n k < 4096
  | 0, _ => by rw [mr_]; decide
  | k + 1, h => by
    rw [mr_]
    refine Nat.or_lt_two_pow (n := 12) (mr_lt n (by omega)) ?_
    split
    · rw [Nat.one_mul]; exact Nat.pow_lt_pow_right (by decide) (by omega)
    · rw [Nat.zero_mul]; decide
/-- the shelves' families are ten, the new one another, none of them a helper -/
def shok_ (sh : Nat → Nat) (fr : Nat) : Prop := fo_ fr = true ∧ fr ≠ 3 ∧ fr ≠ 5 ∧ ∀ i, i < 10 → fo_ (sh i) = true ∧ sh i ≠ 3 ∧ sh i ≠ 5 ∧ sh i ≠ fr
theorem sh_some {h fr k : Nat} {sh : Nat → Nat} : va_up (fun i => some (h + sh i)) k (some (h + fr)) = fun i => some (h + va_up sh k fr i) := by
  funext i
  unfold va_up
  by_cases hi : i = k
  · simp [hi]
  · simp [hi]
def ptf_ (f : Nat → Int64) (b : Nat) : Bool := decide (¬ orr_ (fun w => hv_ f w b) 64 = 0) && decide (¬ orr_ (fun w => lk_ f w b) 64 = 0)
def fi_ (g : Nat → Bool) : Nat → Nat → Option Nat
  | _, 0 => none
  | n, d + 1 => if g n then some n else fi_ g (n + 1) d
def fia_ (r : Option Nat) : Int32 := match r with
  | some e => nI e
  | none => -1
theorem hpa_lt {f : Nat → Int64} {S : Nat → Int32} : ∀ {n : Nat}, (hp_ f S n).1 = -1 ∨ ∃ q, q < n ∧ (hp_ f S n).1 = nI q
  | 0 => Or.inl rfl
  | n + 1 => by
    have ih := hpa_lt (f := f) (S := S) (n := n)
    rw [hp_]
    split
    · split
      · exact Or.inr ⟨n, by omega, rfl⟩
      · rcases ih with h | ⟨q, h1, h2⟩
        · exact Or.inl h
        · exact Or.inr ⟨q, by omega, h2⟩
    · rcases ih with h | ⟨q, h1, h2⟩
      · exact Or.inl h
      · exact Or.inr ⟨q, by omega, h2⟩
theorem nI_nm1 {q : Nat} (h : q < 2 ^ 31) : ¬ nI q = -1 := fun h9 => by
  have h1 := nI_toInt h
  rw [h9] at h1
  exact absurd h1 (by
    have : (-1 : Int32).toInt = -1 := by decide
    omega)
