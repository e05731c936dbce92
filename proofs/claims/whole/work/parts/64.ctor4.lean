def fz_ (b : Nat) (cL : ClassId) : Nat → List va_E
  | 0 => []
  | k + 1 => fz_ b cL k ++ [eF_ (b + (22 + 2 * k)), eW_ cL]
theorem fz_len (b : Nat) (cL : ClassId) : ∀ k, (fz_ b cL k).length = 2 * k
  | 0 => rfl
  | k + 1 => by rw [fz_, List.length_append, fz_len b cL k]; simp only [List.length_cons, List.length_nil]; omega
def sf_ (b k : Nat) : Nat → Option Nat := fun j => if j < k then some (b + (22 + 2 * j)) else none
theorem sf_0 (b : Nat) : sf_ b 0 = fun _ => none := by funext j; simp [sf_]
theorem sf_s (b k : Nat) : va_up (sf_ b k) k (some (b + (22 + 2 * k))) = sf_ b (k + 1) := by
  funext j
  by_cases hj : j = k
  · subst hj; rw [va_up_self]; simp only [sf_]; rw [if_pos (by omega)]
  · rw [va_up_ne _ _ hj]
    simp only [sf_]
    by_cases h2 : j < k
    · rw [if_pos h2, if_pos (by omega)]
    · rw [if_neg h2, if_neg (by omega)]
abbrev bs_ (b : Nat) (cI cL cF : ClassId) (g : Nat → Option Nat) : List va_E :=
  [.inr (5, [.ref (b + 1), .ref (b + 2), .ref (b + 9), .ref (b + 11), .ref (b + 15), .ref (b + 20)]), .inl (cF, 10, .inr (.inr (.inr (.inr g)))),
   .inr (0, [.ref (b + 3), .ref (b + 5), .ref (b + 7), .ref (b + 8)]), eF_ (b + 3), eW_ cL, eF_ (b + 5), eW_ cL, eW_ cL, .inl (cL, 7, .inr (.inl (lz_ 64))),
   .inr (3, [.ref (b + 10)]), .inl (cI, 12, .inl (fun _ => 0)), .inr (4, [.ref (b + 12), .ref (b + 13), .ref (b + 14)]), .inl (cI, 12, .inl (fun _ => 0)), .inl (cI, 64, .inl (fun _ => 0)), .inl (cI, 64, .inl (fun _ => 0)),
   .inr (1, [.ref (b + 16), .ref (b + 17), .ref (b + 18), .ref (b + 19), .int 0]), .inl (cI, 4096, .inl (fun _ => 0)), .inl (cI, 767, .inl (fun _ => 0)), .inl (cI, 767, .inl (fun _ => 0)), .inl (cI, 767, .inl (fun _ => 0)), eF_ (b + 20), eW_ cL]
theorem bf_len (b : Nat) (cI cL cF : ClassId) (g : Nat → Option Nat) (k : Nat) : (bs_ b cI cL cF g ++ fz_ b cL k).length = 22 + 2 * k := by rw [List.length_append, fz_len]; rfl
theorem bf_at (b : Nat) (cI cL cF : ClassId) (g : Nat → Option Nat) (k : Nat) : (bs_ b cI cL cF g ++ fz_ b cL (k + 1))[22 + 2 * k]? = some (eF_ (b + (22 + 2 * k))) := by
  rw [fz_, ← List.append_assoc, List.getElem?_append_right (by rw [bf_len]; exact Nat.le_refl _), bf_len, Nat.sub_self]
  rfl
