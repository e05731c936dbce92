/-! The size of the diagram: class beside reference. -/
theorem pig_ : ∀ (N m : Nat) (g : Nat → Nat), (∀ i, i < m → g i < N) → (∀ i j, i < m → j < m → g i = g j → i = j) → m ≤ N
  | 0, m, g, h1, _ => by
    rcases Nat.eq_zero_or_pos m with h | h
    · omega
    · exact absurd (h1 0 h) (Nat.not_lt_zero _)
  | N + 1, 0, _, _, _ => Nat.zero_le _
  | N + 1, m + 1, g, h1, h2 => by
    have h := pig_ N m (fun i => if g i = N then g m else g i) (fun i hi => by
      show (if g i = N then g m else g i) < N
      have a1 := h1 i (by omega)
      have a2 := h1 m (by omega)
      by_cases h3 : g i = N
      · rw [if_pos h3]
        have a3 : ¬ g m = N := fun h9 => absurd (h2 i m (by omega) (by omega) (h3.trans h9.symm)) (by omega)
        omega
      · rw [if_neg h3]; omega) (fun i j hi hj hij => by
      have hij2 : (if g i = N then g m else g i) = (if g j = N then g m else g j) := hij
      by_cases h3 : g i = N <;> by_cases h4 : g j = N
      · exact h2 i j (by omega) (by omega) (h3.trans h4.symm)
      · rw [if_pos h3, if_neg h4] at hij2
        exact absurd (h2 m j (by omega) (by omega) hij2) (by omega)
      · rw [if_neg h3, if_pos h4] at hij2
        exact absurd (h2 i m (by omega) (by omega) hij2) (by omega)
      · rw [if_neg h3, if_neg h4] at hij2
        exact h2 i j (by omega) (by omega) hij2)
    omega
/-- two blocks whose halves have the same kinds -/
def spk_ (kd : Nat → Nat) (a b : Nat) : Bool := decide (kd (2 * a) = kd (2 * b)) && decide (kd (2 * a + 1) = kd (2 * b + 1))
theorem spk_iff {kd : Nat → Nat} {a b : Nat} : spk_ kd a b = true ↔ kd (2 * a) = kd (2 * b) ∧ kd (2 * a + 1) = kd (2 * b + 1) := by
  unfold spk_
  rw [Bool.and_eq_true, decide_eq_true_eq, decide_eq_true_eq]
def bt_ (kd : Nat → Nat) (x : Nat × (Nat → Nat)) (n : Nat) : Bool := !decide (kd (2 * n + 1) = 0) && fa_ (fun j => !spk_ kd (x.2 j) n) x.1
def bq_ (kd : Nat → Nat) : Nat → Nat × (Nat → Nat)
  | 0 => (0, fun _ => 0)
  | n + 1 => if bt_ kd (bq_ kd n) n then ((bq_ kd n).1 + 1, va_up (bq_ kd n).2 (bq_ kd n).1 n) else bq_ kd n
section BQ
variable {kd : Nat → Nat}
theorem bq_t {n : Nat} (h : bt_ kd (bq_ kd n) n = true) : bq_ kd (n + 1) = ((bq_ kd n).1 + 1, va_up (bq_ kd n).2 (bq_ kd n).1 n) := by rw [bq_, if_pos h]
theorem bq_f {n : Nat} (h : bt_ kd (bq_ kd n) n = false) : bq_ kd (n + 1) = bq_ kd n := by rw [bq_, if_neg (by rw [h]; decide)]
theorem bt_iff {x : Nat × (Nat → Nat)} {n : Nat} : bt_ kd x n = true ↔ ¬ kd (2 * n + 1) = 0 ∧ ∀ j, j < x.1 → ¬ spk_ kd (x.2 j) n = true := by
  unfold bt_
  rw [Bool.and_eq_true, fa_all]
  refine and_congr ?_ ?_
  · by_cases h : kd (2 * n + 1) = 0
    · rw [decide_eq_true h]; exact ⟨fun h9 => Bool.noConfusion h9, fun h9 => absurd h h9⟩
    · rw [decide_eq_false h]; exact ⟨fun _ => h, fun _ => rfl⟩
  · refine forall_congr' (fun j => forall_congr' (fun _ => ?_))
    show (!spk_ kd (x.2 j) n) = true ↔ _
    cases spk_ kd (x.2 j) n
    · exact ⟨fun _ h9 => Bool.noConfusion h9, fun _ => rfl⟩
    · exact ⟨fun h9 => Bool.noConfusion h9, fun h9 => absurd rfl h9⟩
theorem bq_ok : ∀ n, (bq_ kd n).1 ≤ n ∧ (∀ j, j < (bq_ kd n).1 → (bq_ kd n).2 j < n ∧ ¬ kd (2 * (bq_ kd n).2 j + 1) = 0) ∧ ∀ i j, i < (bq_ kd n).1 → j < (bq_ kd n).1 → spk_ kd ((bq_ kd n).2 i) ((bq_ kd n).2 j) = true → i = j
  | 0 => ⟨Nat.le_refl _, fun j hj => absurd hj (Nat.not_lt_zero _), fun i j hi => absurd hi (Nat.not_lt_zero _)⟩
  | n + 1 => by
    obtain ⟨h1, h2, h3⟩ := bq_ok n
    cases hb : bt_ kd (bq_ kd n) n
    · rw [bq_f hb]
      exact ⟨by omega, fun j hj => ⟨by have := (h2 j hj).1; omega, (h2 j hj).2⟩, h3⟩
    · rw [bq_t hb]
      obtain ⟨b1, b2⟩ := bt_iff.mp hb
      refine ⟨by show (bq_ kd n).1 + 1 ≤ n + 1; omega, fun j hj => ?_, fun i j hi hj hij => ?_⟩
      · show va_up (bq_ kd n).2 (bq_ kd n).1 n j < n + 1 ∧ ¬ kd (2 * va_up (bq_ kd n).2 (bq_ kd n).1 n j + 1) = 0
        by_cases hjn : j = (bq_ kd n).1
        · rw [hjn, va_up_self]; exact ⟨by omega, b1⟩
        · have hj2 : j < (bq_ kd n).1 + 1 := hj
          rw [va_up_ne _ _ hjn]
          exact ⟨by have := (h2 j (by omega)).1; omega, (h2 j (by omega)).2⟩
      · have hi2 : i < (bq_ kd n).1 + 1 := hi
        have hj2 : j < (bq_ kd n).1 + 1 := hj
        have hij2 : spk_ kd (va_up (bq_ kd n).2 (bq_ kd n).1 n i) (va_up (bq_ kd n).2 (bq_ kd n).1 n j) = true := hij
        by_cases hin : i = (bq_ kd n).1 <;> by_cases hjn : j = (bq_ kd n).1
        · omega
        · rw [hin, va_up_self, va_up_ne _ _ hjn] at hij2
          refine absurd ?_ (b2 j (by omega))
          rw [spk_iff] at hij2 ⊢
          exact ⟨hij2.1.symm, hij2.2.symm⟩
        · rw [hjn, va_up_self, va_up_ne _ _ hin] at hij2
          exact absurd hij2 (b2 i (by omega))
        · rw [va_up_ne _ _ hin, va_up_ne _ _ hjn] at hij2
          exact h3 i j (by omega) (by omega) hij2
end BQ
def ebk_ : Nat → Nat
  | 0 => 2 | 1 => 4 | 2 => 16 | 3 => 256 | 4 => 512 | 5 => 640 | 6 => 704 | 7 => 736 | 8 => 752 | 9 => 760 | 10 => 764 | 11 => 766 | _ => 767
theorem ebk_small {kd : Nat → Nat} {n B C : Nat} (hB : B = 2 ∧ C = 2 ∨ B = 4 ∧ C = 12 ∨ B = 16 ∧ C = 240) (hkd : ∀ i, i < 2 * n → kd i < B) : (bq_ kd n).1 ≤ C := by
  obtain ⟨_, h2, h3⟩ := bq_ok (kd := kd) n
  have h4 : ∀ j, j < (bq_ kd n).1 → kd (2 * (bq_ kd n).2 j) < B ∧ kd (2 * (bq_ kd n).2 j + 1) < B := fun j hj => by
    have := (h2 j hj).1
    exact ⟨hkd _ (by omega), hkd _ (by omega)⟩
  refine pig_ C _ (fun j => kd (2 * (bq_ kd n).2 j) * (B - 1) + (kd (2 * (bq_ kd n).2 j + 1) - 1)) (fun j hj => ?_) (fun i j hi hj hij => ?_)
  · show kd (2 * (bq_ kd n).2 j) * (B - 1) + (kd (2 * (bq_ kd n).2 j + 1) - 1) < C
    have a1 := h4 j hj
    have a2 := (h2 j hj).2
    rcases hB with ⟨rfl, rfl⟩ | ⟨rfl, rfl⟩ | ⟨rfl, rfl⟩ <;> omega
  · have hij2 : kd (2 * (bq_ kd n).2 i) * (B - 1) + (kd (2 * (bq_ kd n).2 i + 1) - 1) = kd (2 * (bq_ kd n).2 j) * (B - 1) + (kd (2 * (bq_ kd n).2 j + 1) - 1) := hij
    have a1 := h4 i hi
    have a2 := (h2 i hi).2
    have a3 := h4 j hj
    have a4 := (h2 j hj).2
    refine h3 i j hi hj (spk_iff.mpr ?_)
    rcases hB with ⟨rfl, rfl⟩ | ⟨rfl, rfl⟩ | ⟨rfl, rfl⟩ <;> omega
theorem ebk_step {kd : Nat → Nat} {k n E : Nat} (hk : k < 12) (hE : E ≤ ebk_ k) (hn : n ≤ 2 ^ (11 - k)) (hkd : ∀ i, i < 2 * n → kd i < E) : E + (bq_ kd n).1 ≤ ebk_ (k + 1) := by
  have h1 := (bq_ok (kd := kd) n).1
  have hs : ∀ B C, (B = 2 ∧ C = 2 ∨ B = 4 ∧ C = 12 ∨ B = 16 ∧ C = 240) → E ≤ B → (bq_ kd n).1 ≤ C := fun B C hB hEB => ebk_small hB (fun i hi => Nat.lt_of_lt_of_le (hkd i hi) hEB)
  have hc : k = 0 ∨ k = 1 ∨ k = 2 ∨ k = 3 ∨ k = 4 ∨ k = 5 ∨ k = 6 ∨ k = 7 ∨ k = 8 ∨ k = 9 ∨ k = 10 ∨ k = 11 := by omega
  rcases hc with rfl | rfl | rfl | rfl | rfl | rfl | rfl | rfl | rfl | rfl | rfl | rfl
  · have hE2 : E ≤ 2 := hE
    have := hs 2 2 (Or.inl ⟨rfl, rfl⟩) hE2
    show E + (bq_ kd n).1 ≤ 4
    omega
  · have hE2 : E ≤ 4 := hE
    have := hs 4 12 (Or.inr (Or.inl ⟨rfl, rfl⟩)) hE2
    show E + (bq_ kd n).1 ≤ 16
    omega
  · have hE2 : E ≤ 16 := hE
    have := hs 16 240 (Or.inr (Or.inr ⟨rfl, rfl⟩)) hE2
    show E + (bq_ kd n).1 ≤ 256
    omega
  · have hE2 : E ≤ 256 := hE
    have hn2 : n ≤ 256 := hn
    show E + (bq_ kd n).1 ≤ 512
    omega
  · have hE2 : E ≤ 512 := hE
    have hn2 : n ≤ 128 := hn
    show E + (bq_ kd n).1 ≤ 640
    omega
  · have hE2 : E ≤ 640 := hE
    have hn2 : n ≤ 64 := hn
    show E + (bq_ kd n).1 ≤ 704
    omega
  · have hE2 : E ≤ 704 := hE
    have hn2 : n ≤ 32 := hn
    show E + (bq_ kd n).1 ≤ 736
    omega
  · have hE2 : E ≤ 736 := hE
    have hn2 : n ≤ 16 := hn
    show E + (bq_ kd n).1 ≤ 752
    omega
  · have hE2 : E ≤ 752 := hE
    have hn2 : n ≤ 8 := hn
    show E + (bq_ kd n).1 ≤ 760
    omega
  · have hE2 : E ≤ 760 := hE
    have hn2 : n ≤ 4 := hn
    show E + (bq_ kd n).1 ≤ 764
    omega
  · have hE2 : E ≤ 764 := hE
    have hn2 : n ≤ 2 := hn
    show E + (bq_ kd n).1 ≤ 766
    omega
  · have hE2 : E ≤ 766 := hE
    have hn2 : n ≤ 1 := hn
    show E + (bq_ kd n).1 ≤ 767
    omega
theorem ebk_le : ∀ k, k < 12 → ebk_ k ≤ 766 ∧ ebk_ (k + 1) ≤ 767 := by
  intro k hk
  have hc : ∀ j : Fin 12, ebk_ j.val ≤ 766 ∧ ebk_ (j.val + 1) ≤ 767 := by decide
  exact hc ⟨k, hk⟩
/-- the newest node of a row -/
def la_ (E0 : Nat) (g : Nat → Nat) : Nat → Nat → Nat
  | 0, _ => 0
  | m + 1, w => if g m = w then E0 + m else la_ E0 g m w
theorem la_cg {E0 : Nat} {g g' : Nat → Nat} {w : Nat} : ∀ {m : Nat}, (∀ j, j < m → g j = g' j) → la_ E0 g m w = la_ E0 g' m w
  | 0, _ => rfl
  | m + 1, h => by rw [la_, la_, h m (by omega), la_cg (fun j hj => h j (by omega))]
theorem klk_find {T : Nat → Nat → Nat} {E0 : Nat} {g wos : Nat → Nat} {wo w : Nat} (hE : 0 < E0) : ∀ m d, m < d → (∀ j, j < m → T 19 (E0 + j) = wos j ∧ T 18 (E0 + j) = la_ E0 g j (g j)) → (∃ j, j < m ∧ g j = w ∧ wos j = wo ∧ klk_ T wo d (la_ E0 g m w) = some (E0 + j)) ∨ ((∀ j, j < m → ¬ (g j = w ∧ wos j = wo)) ∧ klk_ T wo d (la_ E0 g m w) = none)
  | 0, d + 1, _, _ => Or.inr ⟨fun j hj => absurd hj (Nat.not_lt_zero _), by rw [la_, klk_, if_pos rfl]⟩
  | m + 1, d, hd, h => by
    rw [la_]
    by_cases hg : g m = w
    · rw [if_pos hg]
      cases d with
      | zero => omega
      | succ d =>
        obtain ⟨h19, h18⟩ := h m (by omega)
        rw [klk_, if_neg (by omega), h19]
        by_cases hw : wos m = wo
        · rw [if_pos hw]; exact Or.inl ⟨m, by omega, hg, hw, rfl⟩
        · rw [if_neg hw, h18, hg]
          rcases klk_find (T := T) (g := g) (wos := wos) (wo := wo) (w := w) hE m d (by omega) (fun j hj => h j (by omega)) with ⟨j, hj, h1⟩ | ⟨h1, h2⟩
          · exact Or.inl ⟨j, by omega, h1⟩
          · refine Or.inr ⟨fun j hj h9 => ?_, h2⟩
            by_cases hjm : j = m
            · rw [hjm] at h9; exact hw h9.2
            · exact h1 j (by omega) h9
    · rw [if_neg hg]
      rcases klk_find (T := T) (g := g) (wos := wos) (wo := wo) (w := w) hE m d (by omega) (fun j hj => h j (by omega)) with ⟨j, hj, h1⟩ | ⟨h1, h2⟩
      · exact Or.inl ⟨j, by omega, h1⟩
      · refine Or.inr ⟨fun j hj h9 => ?_, h2⟩
        by_cases hjm : j = m
        · rw [hjm] at h9; exact hg h9.1
        · exact h1 j (by omega) h9
/-- where one length's pass stands -/
def iv_ (kd : Nat → Nat) (E0 n : Nat) (x : Nat × (Nat → Nat)) (T : Nat → Nat → Nat) (E : Nat) : Prop :=
  E = E0 + x.1 ∧ (∀ i, n ≤ i → T 16 i = kd i) ∧ (∀ i, i < n → (kd (2 * i + 1) = 0 → T 16 i = kd (2 * i)) ∧ (¬ kd (2 * i + 1) = 0 → ∃ j, j < x.1 ∧ T 16 i = E0 + j ∧ spk_ kd (x.2 j) i = true)) ∧ (∀ j, j < x.1 → T 19 (E0 + j) = kd (2 * x.2 j) ∧ T 18 (E0 + j) = la_ E0 (fun m => kd (2 * x.2 m + 1)) j (kd (2 * x.2 j + 1))) ∧ ∀ w, w < 767 → T 17 w = la_ E0 (fun m => kd (2 * x.2 m + 1)) x.1 w
theorem iv_put {kd : Nat → Nat} {E0 n : Nat} {x : Nat × (Nat → Nat)} {T : Nat → Nat → Nat} {E v : Nat} (h : iv_ kd E0 n x T E) (hv : (kd (2 * n + 1) = 0 → v = kd (2 * n)) ∧ (¬ kd (2 * n + 1) = 0 → ∃ j, j < x.1 ∧ v = E0 + j ∧ spk_ kd (x.2 j) n = true)) : iv_ kd E0 (n + 1) x (va_up T 16 (va_up (T 16) n v)) E := by
  obtain ⟨h1, h2, h3, h4, h5⟩ := h
  refine ⟨h1, fun i hi => ?_, fun i hi => ?_, fun j hj => ?_, fun w hw => ?_⟩
  · rw [va_up_self, va_up_ne _ _ (by omega)]; exact h2 i (by omega)
  · by_cases hin : i = n
    · subst hin; rw [va_up_self, va_up_self]; exact hv
    · rw [va_up_self, va_up_ne _ _ hin]; exact h3 i (by omega)
  · rw [va_up_ne _ _ (by decide), va_up_ne _ _ (by decide)]; exact h4 j hj
  · rw [va_up_ne _ _ (by decide)]; exact h5 w hw
theorem iv_new {kd : Nat → Nat} {E0 n : Nat} {x : Nat × (Nat → Nat)} {T : Nat → Nat → Nat} {E : Nat} (h : iv_ kd E0 n x T E) (hw : ¬ kd (2 * n + 1) = 0) (hlt : kd (2 * n + 1) < 767) : iv_ kd E0 n (x.1 + 1, va_up x.2 x.1 n) (va_up (va_up (va_up T 19 (va_up (T 19) E (kd (2 * n)))) 18 (va_up (T 18) E (T 17 (kd (2 * n + 1))))) 17 (va_up (T 17) (kd (2 * n + 1)) E)) (E + 1) := by
  obtain ⟨h1, h2, h3, h4, h5⟩ := h
  have hla : ∀ m, m ≤ x.1 → ∀ w, la_ E0 (fun m => kd (2 * va_up x.2 x.1 n m + 1)) m w = la_ E0 (fun m => kd (2 * x.2 m + 1)) m w := fun m hm w => la_cg (fun j hj => by
    show kd (2 * va_up x.2 x.1 n j + 1) = kd (2 * x.2 j + 1)
    rw [va_up_ne _ _ (by omega)])
  refine ⟨by show E + 1 = E0 + (x.1 + 1); omega, fun i hi => ?_, fun i hi => ?_, fun j hj => ?_, fun w hw2 => ?_⟩
  · rw [va_up_ne _ _ (by decide), va_up_ne _ _ (by decide), va_up_ne _ _ (by decide)]; exact h2 i hi
  · rw [va_up_ne _ _ (by decide), va_up_ne _ _ (by decide), va_up_ne _ _ (by decide)]
    refine ⟨(h3 i hi).1, fun h9 => ?_⟩
    obtain ⟨j, hj, a1, a2⟩ := (h3 i hi).2 h9
    refine ⟨j, by show j < x.1 + 1; omega, a1, ?_⟩
    show spk_ kd (va_up x.2 x.1 n j) i = true
    rw [va_up_ne _ _ (by omega)]; exact a2
  · show _ = kd (2 * va_up x.2 x.1 n j) ∧ _ = la_ E0 (fun m => kd (2 * va_up x.2 x.1 n m + 1)) j (kd (2 * va_up x.2 x.1 n j + 1))
    rw [va_up_ne _ _ (by decide), va_up_ne _ _ (by decide), va_up_self, va_up_ne _ _ (show ¬ 18 = 17 by decide), va_up_self]
    by_cases hjn : j = x.1
    · subst hjn
      rw [← h1, va_up_self, va_up_self, va_up_self, hla _ (Nat.le_refl _)]
      exact ⟨rfl, h5 _ hlt⟩
    · have hj2 : j < x.1 + 1 := hj
      rw [va_up_ne _ _ (show ¬ E0 + j = E by omega), va_up_ne _ _ (show ¬ E0 + j = E by omega), va_up_ne _ _ hjn, hla j (by omega)]
      exact h4 j (by omega)
  · show _ = la_ E0 (fun m => kd (2 * va_up x.2 x.1 n m + 1)) (x.1 + 1) w
    rw [va_up_self, la_, hla _ (Nat.le_refl _)]
    show _ = if kd (2 * va_up x.2 x.1 n x.1 + 1) = w then E0 + x.1 else _
    rw [va_up_self]
    by_cases hww : kd (2 * n + 1) = w
    · rw [if_pos hww, hww, va_up_self, h1]
    · rw [if_neg hww, va_up_ne _ _ (fun h9 => hww h9.symm)]; exact h5 w hw2
theorem iv_step {kd : Nat → Nat} {E0 n : Nat} {T : Nat → Nat → Nat} {E : Nat} (hE0 : 0 < E0) (h : iv_ kd E0 n (bq_ kd n) T E) (hlt : kd (2 * n + 1) < 767) (hc : E0 + (bq_ kd n).1 ≤ 767) (hc1 : E0 + (bq_ kd (n + 1)).1 ≤ 767) : iv_ kd E0 (n + 1) (bq_ kd (n + 1)) (va_up (ko_ T E (T 16 (2 * n)) (T 16 (2 * n + 1))).1 16 (va_up ((ko_ T E (T 16 (2 * n)) (T 16 (2 * n + 1))).1 16) n (ko_ T E (T 16 (2 * n)) (T 16 (2 * n + 1))).2.2)) (ko_ T E (T 16 (2 * n)) (T 16 (2 * n + 1))).2.1 := by
  have h0 := h
  obtain ⟨h1, h2, h3, h4, h5⟩ := h
  rw [h2 (2 * n) (by omega), h2 (2 * n + 1) (by omega)]
  by_cases hw : kd (2 * n + 1) = 0
  · have hb : bt_ kd (bq_ kd n) n = false := by
      cases hb : bt_ kd (bq_ kd n) n
      · rfl
      · exact absurd hw (bt_iff.mp hb).1
    have e : ko_ T E (kd (2 * n)) (kd (2 * n + 1)) = (T, E, kd (2 * n)) := by unfold ko_; rw [if_pos hw]
    rw [e, bq_f hb]
    exact iv_put h0 ⟨fun _ => rfl, fun h9 => absurd hw h9⟩
  · have hf := klk_find (T := T) (E0 := E0) (g := fun m => kd (2 * (bq_ kd n).2 m + 1)) (wos := fun m => kd (2 * (bq_ kd n).2 m)) (wo := kd (2 * n)) (w := kd (2 * n + 1)) hE0 (bq_ kd n).1 767 (by omega) h4
    rw [← h5 _ hlt] at hf
    rcases hf with ⟨j, hj, a1, a2, a3⟩ | ⟨a1, a2⟩
    · have e : ko_ T E (kd (2 * n)) (kd (2 * n + 1)) = (T, E, E0 + j) := by
        unfold ko_
        rw [if_neg hw, a3]
      have hsp : spk_ kd ((bq_ kd n).2 j) n = true := spk_iff.mpr ⟨a2, a1⟩
      have hb : bt_ kd (bq_ kd n) n = false := by
        cases hb : bt_ kd (bq_ kd n) n
        · rfl
        · exact absurd hsp ((bt_iff.mp hb).2 j hj)
      rw [e, bq_f hb]
      exact iv_put h0 ⟨fun h9 => absurd h9 hw, fun _ => ⟨j, hj, rfl, hsp⟩⟩
    · have hb : bt_ kd (bq_ kd n) n = true := bt_iff.mpr ⟨hw, fun j hj h9 => a1 j hj ⟨(spk_iff.mp h9).2, (spk_iff.mp h9).1⟩⟩
      rw [bq_t hb] at hc1 ⊢
      have hc2 : E0 + ((bq_ kd n).1 + 1) ≤ 767 := hc1
      have e : ko_ T E (kd (2 * n)) (kd (2 * n + 1)) = (va_up (va_up (va_up T 19 (va_up (T 19) E (kd (2 * n)))) 18 (va_up (T 18) E (T 17 (kd (2 * n + 1))))) 17 (va_up (T 17) (kd (2 * n + 1)) E), E + 1, E) := by
        unfold ko_
        rw [if_neg hw, a2]
        show nn_ T E (kd (2 * n)) (kd (2 * n + 1)) = _
        unfold nn_
        rw [if_neg (by omega)]
      rw [e]
      refine iv_put (iv_new h0 hw hlt) ⟨fun h9 => absurd h9 hw, fun _ => ⟨(bq_ kd n).1, Nat.lt_succ_self _, h1, ?_⟩⟩
      show spk_ kd (va_up (bq_ kd n).2 (bq_ kd n).1 n (bq_ kd n).1) n = true
      rw [va_up_self]
      exact spk_iff.mpr ⟨rfl, rfl⟩
theorem iv_all {kd : Nat → Nat} {E0 : Nat} {s : (Nat → Nat → Nat) × Nat} {N : Nat} (hE0 : 0 < E0) (h0 : iv_ kd E0 0 (bq_ kd 0) s.1 s.2) (hlt : ∀ i, i < 2 * N → kd i < 767) (hc : ∀ n, n ≤ N → E0 + (bq_ kd n).1 ≤ 767) : ∀ n, n ≤ N → iv_ kd E0 n (bq_ kd n) (di_ s n).1 (di_ s n).2
  | 0, _ => h0
  | n + 1, hn => by
    rw [di_]
    exact iv_step hE0 (iv_all hE0 h0 hlt hc n (by omega)) (hlt _ (by omega)) (hc n (by omega)) (hc (n + 1) hn)
/-- how many nodes the reference counts for the k smallest lengths -/
def ss_ (f : Nat → Bool) : Nat → Nat
  | 0 => 0
  | k + 1 => ss_ f k + (dq_ f (2 ^ (k + 1)) (2 ^ (11 - k))).1
theorem ss_szn (f : Nat → Bool) : ss_ f 12 = szn_ f 12 := by
  simp only [ss_, szn_, Nat.reduceAdd, Nat.reduceSub]
  omega
/-- what the kinds mean when k lengths are done -/
def li_ (f : Nat → Bool) (k : Nat) (T : Nat → Nat → Nat) (E : Nat) : Prop :=
  E = 2 + ss_ f k ∧ E ≤ ebk_ k ∧ (∀ i, i < 2 ^ (12 - k) → T 16 i < E) ∧ (∀ i j, i < 2 ^ (12 - k) → j < 2 ^ (12 - k) → (T 16 i = T 16 j ↔ ∀ m, m < 2 ^ k → f (i * 2 ^ k + m) = f (j * 2 ^ k + m))) ∧ ∀ i, i < 2 ^ (12 - k) → (T 16 i = 0 ↔ ∀ m, m < 2 ^ k → f (i * 2 ^ k + m) = false)
theorem half_all {P : Nat → Prop} {k : Nat} : (∀ m, m < 2 ^ (k + 1) → P m) ↔ (∀ m, m < 2 ^ k → P m) ∧ ∀ m, m < 2 ^ k → P (2 ^ k + m) := by
  rw [Nat.pow_succ]
  constructor
  · intro h; exact ⟨fun m hm => h m (by omega), fun m hm => h (2 ^ k + m) (by omega)⟩
  · rintro ⟨h1, h2⟩ m hm
    by_cases hlt : m < 2 ^ k
    · exact h1 m hlt
    · have := h2 (m - 2 ^ k) (by omega)
      rw [show 2 ^ k + (m - 2 ^ k) = m by omega] at this
      exact this
theorem bl_lo (n k m : Nat) : n * 2 ^ (k + 1) + m = 2 * n * 2 ^ k + m := by rw [Nat.pow_succ, Nat.mul_comm (2 ^ k) 2, ← Nat.mul_assoc, Nat.mul_comm n 2]
theorem bl_hi (n k m : Nat) : n * 2 ^ (k + 1) + (2 ^ k + m) = (2 * n + 1) * 2 ^ k + m := by rw [bl_lo, Nat.add_mul, Nat.one_mul]; omega
section DQ
variable {f : Nat → Bool} {kd : Nat → Nat} {k N : Nat}
theorem spk_eq (hN : ∀ i j, i < 2 * N → j < 2 * N → (kd i = kd j ↔ ∀ m, m < 2 ^ k → f (i * 2 ^ k + m) = f (j * 2 ^ k + m))) {a b : Nat} (ha : a < N) (hb : b < N) : spk_ kd a b = true ↔ ∀ m, m < 2 ^ (k + 1) → f (a * 2 ^ (k + 1) + m) = f (b * 2 ^ (k + 1) + m) := by
  rw [spk_iff, half_all, hN (2 * a) (2 * b) (by omega) (by omega), hN (2 * a + 1) (2 * b + 1) (by omega) (by omega)]
  refine and_congr ?_ ?_
  · refine forall_congr' (fun m => forall_congr' (fun _ => ?_)); rw [bl_lo, bl_lo]
  · refine forall_congr' (fun m => forall_congr' (fun _ => ?_)); rw [bl_hi, bl_hi]
theorem dq_bq (hN : ∀ i j, i < 2 * N → j < 2 * N → (kd i = kd j ↔ ∀ m, m < 2 ^ k → f (i * 2 ^ k + m) = f (j * 2 ^ k + m))) (hz : ∀ i, i < 2 * N → (kd i = 0 ↔ ∀ m, m < 2 ^ k → f (i * 2 ^ k + m) = false)) : ∀ n, n ≤ N → (dq_ f (2 ^ (k + 1)) n).1 = (bq_ kd n).1 ∧ ∀ j, j < (bq_ kd n).1 → (dq_ f (2 ^ (k + 1)) n).2 j = (bq_ kd n).2 j * 2 ^ (k + 1)
  | 0, _ => ⟨rfl, fun j hj => absurd hj (Nat.not_lt_zero _)⟩
  | n + 1, hn => by
    obtain ⟨ih1, ih2⟩ := dq_bq hN hz n (by omega)
    have hok := bq_ok (kd := kd) n
    have hh : 2 ^ (k + 1) / 2 = 2 ^ k := by rw [Nat.pow_succ]; omega
    have ht : dn_ f (2 ^ (k + 1)) (dq_ f (2 ^ (k + 1)) n).2 (dq_ f (2 ^ (k + 1)) n).1 (n * 2 ^ (k + 1)) = bt_ kd (bq_ kd n) n := by
      refine bool_iff ?_
      rw [bt_iff]
      unfold dn_
      rw [Bool.and_eq_true, hh, ex_iff, fa_all, ih1]
      refine and_congr ?_ ?_
      · rw [hz (2 * n + 1) (by omega)]
        constructor
        · rintro ⟨m, hm, h1⟩ h2
          have h3 := h2 m hm
          rw [← bl_hi, ← Nat.add_assoc] at h3
          rw [h3] at h1
          exact Bool.noConfusion h1
        · intro h1
          by_cases h2 : ∃ m, m < 2 ^ k ∧ f (n * 2 ^ (k + 1) + 2 ^ k + m) = true
          · exact h2
          · exfalso
            refine h1 (fun m hm => ?_)
            cases h3 : f ((2 * n + 1) * 2 ^ k + m)
            · rfl
            · rw [← bl_hi, ← Nat.add_assoc] at h3
              exact absurd ⟨m, hm, h3⟩ h2
      · refine forall_congr' (fun j => forall_congr' (fun hj => ?_))
        rw [spk_eq hN (show (bq_ kd n).2 j < N by have := (hok.2.1 j hj).1; omega) (by omega)]
        show (!fa_ (fun m => f ((dq_ f (2 ^ (k + 1)) n).2 j + m) == f (n * 2 ^ (k + 1) + m)) (2 ^ (k + 1))) = true ↔ _
        rw [ih2 j hj]
        cases h1 : fa_ (fun m => f ((bq_ kd n).2 j * 2 ^ (k + 1) + m) == f (n * 2 ^ (k + 1) + m)) (2 ^ (k + 1))
        · refine ⟨fun _ h2 => ?_, fun _ => rfl⟩
          rw [fa_all.mpr (fun m hm => by show (f _ == f _) = true; rw [h2 m hm]; simp)] at h1
          exact Bool.noConfusion h1
        · refine ⟨fun h2 => Bool.noConfusion h2, fun h2 => absurd (fun m hm => ?_) h2⟩
          exact eq_of_beq (fa_all.mp h1 m hm)
    cases hb : bt_ kd (bq_ kd n) n
    · rw [hb] at ht
      rw [dq_f ht, bq_f hb]; exact ⟨ih1, ih2⟩
    · rw [hb] at ht
      rw [dq_t ht, bq_t hb]
      refine ⟨by show (dq_ f (2 ^ (k + 1)) n).1 + 1 = (bq_ kd n).1 + 1; rw [ih1], fun j hj => ?_⟩
      show va_up (dq_ f (2 ^ (k + 1)) n).2 (dq_ f (2 ^ (k + 1)) n).1 (n * 2 ^ (k + 1)) j = va_up (bq_ kd n).2 (bq_ kd n).1 n j * 2 ^ (k + 1)
      rw [ih1]
      by_cases hjn : j = (bq_ kd n).1
      · rw [hjn, va_up_self, va_up_self]
      · have hj2 : j < (bq_ kd n).1 + 1 := hj
        rw [va_up_ne _ _ hjn, va_up_ne _ _ hjn]; exact ih2 j (by omega)
end DQ
theorem li_step {f : Nat → Bool} {k : Nat} {T : Nat → Nat → Nat} {E : Nat} (hk : k < 12) (h : li_ f k T E) : li_ f (k + 1) (di_ (va_up T 17 (fl_ (T 17) 767 0), E) (2 ^ (11 - k))).1 (di_ (va_up T 17 (fl_ (T 17) 767 0), E) (2 ^ (11 - k))).2 := by
  obtain ⟨h1, h2, h3, h4, h5⟩ := h
  have hN : 2 ^ (12 - k) = 2 * 2 ^ (11 - k) := by rw [show 12 - k = (11 - k) + 1 by omega, Nat.pow_succ, Nat.mul_comm]
  have hN2 : 2 ^ (12 - (k + 1)) = 2 ^ (11 - k) := by rw [show 12 - (k + 1) = 11 - k by omega]
  rw [hN] at h3 h4 h5
  have hb : ∀ n, n ≤ 2 ^ (11 - k) → E + (bq_ (T 16) n).1 ≤ ebk_ (k + 1) := fun n hn => ebk_step hk h2 hn (fun i hi => h3 i (by omega))
  have hle := ebk_le k hk
  have hE0 : 0 < E := by omega
  have hiv0 : iv_ (T 16) E 0 (bq_ (T 16) 0) (va_up T 17 (fl_ (T 17) 767 0)) E := by
    refine ⟨rfl, fun i _ => by rw [va_up_ne _ _ (by decide)], fun i hi => absurd hi (Nat.not_lt_zero _), fun j hj => absurd hj (Nat.not_lt_zero _), fun w hw => ?_⟩
    rw [va_up_self]
    show fl_ (T 17) 767 0 w = 0
    unfold fl_
    rw [if_pos hw]
  have hiv := iv_all (s := (va_up T 17 (fl_ (T 17) 767 0), E)) (N := 2 ^ (11 - k)) hE0 hiv0 (fun i hi => by have := h3 i hi; omega) (fun n hn => by have := hb n hn; omega) _ (Nat.le_refl _)
  obtain ⟨d1, d2⟩ := dq_bq (f := f) (kd := T 16) (k := k) h4 h5 _ (Nat.le_refl (2 ^ (11 - k)))
  obtain ⟨b1, b2, b3⟩ := bq_ok (kd := T 16) (2 ^ (11 - k))
  obtain ⟨v1, v2, v3, v4, v5⟩ := hiv
  have hpair : ∀ i j, i < 2 ^ (11 - k) → j < 2 ^ (11 - k) → ((di_ (va_up T 17 (fl_ (T 17) 767 0), E) (2 ^ (11 - k))).1 16 i = (di_ (va_up T 17 (fl_ (T 17) 767 0), E) (2 ^ (11 - k))).1 16 j ↔ spk_ (T 16) i j = true) := fun i j hi hj => by
    have ui := v3 i hi
    have uj := v3 j hj
    have ki := h3 (2 * i) (by omega)
    have kj := h3 (2 * j) (by omega)
    rw [spk_iff]
    by_cases zi : T 16 (2 * i + 1) = 0 <;> by_cases zj : T 16 (2 * j + 1) = 0
    · rw [ui.1 zi, uj.1 zj, zi, zj]
      exact ⟨fun h9 => ⟨h9, rfl⟩, fun h9 => h9.1⟩
    · obtain ⟨m, hm, a1, a2⟩ := uj.2 zj
      rw [ui.1 zi, a1]
      exact ⟨fun h9 => by omega, fun h9 => absurd (h9.2.symm.trans zi) zj⟩
    · obtain ⟨m, hm, a1, a2⟩ := ui.2 zi
      rw [uj.1 zj, a1]
      exact ⟨fun h9 => by omega, fun h9 => absurd (h9.2.trans zj) zi⟩
    · obtain ⟨m, hm, a1, a2⟩ := ui.2 zi
      obtain ⟨m2, hm2, c1, c2⟩ := uj.2 zj
      rw [a1, c1]
      rw [spk_iff] at a2 c2
      constructor
      · intro h9
        have hmm : m = m2 := by omega
        rw [hmm] at a2
        exact ⟨a2.1.symm.trans c2.1, a2.2.symm.trans c2.2⟩
      · intro h9
        have hmm : m = m2 := b3 m m2 hm hm2 (spk_iff.mpr ⟨(a2.1.trans h9.1).trans c2.1.symm, (a2.2.trans h9.2).trans c2.2.symm⟩)
        rw [hmm]
  refine ⟨?_, ?_, ?_, ?_, ?_⟩
  · rw [v1, ss_, d1, h1]; omega
  · rw [v1]; exact hb _ (Nat.le_refl _)
  · rw [hN2]
    intro i hi
    rw [v1]
    by_cases zi : T 16 (2 * i + 1) = 0
    · rw [(v3 i hi).1 zi]; have := h3 (2 * i) (by omega); omega
    · obtain ⟨m, hm, a1, _⟩ := (v3 i hi).2 zi
      rw [a1]; omega
  · rw [hN2]
    intro i j hi hj
    rw [hpair i j hi hj]
    exact spk_eq h4 hi hj
  · rw [hN2]
    intro i hi
    rw [half_all]
    have e1 : (∀ m, m < 2 ^ k → f (i * 2 ^ (k + 1) + m) = false) ↔ T 16 (2 * i) = 0 := by
      rw [h5 (2 * i) (by omega)]
      refine forall_congr' (fun m => forall_congr' (fun _ => ?_)); rw [bl_lo]
    have e2 : (∀ m, m < 2 ^ k → f (i * 2 ^ (k + 1) + (2 ^ k + m)) = false) ↔ T 16 (2 * i + 1) = 0 := by
      rw [h5 (2 * i + 1) (by omega)]
      refine forall_congr' (fun m => forall_congr' (fun _ => ?_)); rw [bl_hi]
    rw [e1, e2]
    by_cases zi : T 16 (2 * i + 1) = 0
    · rw [(v3 i hi).1 zi]; exact ⟨fun h9 => ⟨h9, zi⟩, fun h9 => h9.1⟩
    · obtain ⟨m, hm, a1, _⟩ := (v3 i hi).2 zi
      rw [a1]
      exact ⟨fun h9 => by omega, fun h9 => absurd h9.2 zi⟩
theorem li_all {f : Nat → Bool} {s : (Nat → Nat → Nat) × Nat} (h0 : li_ f 0 s.1 s.2) : ∀ k, k ≤ 12 → li_ f k (dl_ s k).1 (dl_ s k).2
  | 0, _ => h0
  | k + 1, hk => by rw [dl_]; exact li_step (by omega) (li_all h0 k (by omega))
theorem size_eq {T : Nat → Nat → Nat} {F G : Nat → Int64} (h : ∀ p, p < 4096 → fb_ F p = fb_ G p) : (dl_ (d0_ T F 4096, 2) 12).2 - 2 = szn_ (fb_ G) 12 ∧ (dl_ (d0_ T F 4096, 2) 12).2 ≤ 767 := by
  have hk : ∀ i, i < 4096 → d0_ T F 4096 16 i = if fb_ G i then 1 else 0 := fun i hi => by
    unfold d0_
    rw [va_up_self]
    unfold wl_ dk_
    rw [if_pos hi, h i hi]
  have h0 : li_ (fb_ G) 0 (d0_ T F 4096) 2 := by
    refine ⟨rfl, Nat.le_refl _, fun i hi => ?_, fun i j hi hj => ?_, fun i hi => ?_⟩
    · rw [hk i hi]; split <;> decide
    · rw [hk i hi, hk j hj]
      constructor
      · intro h9 m hm
        have hm0 : m = 0 := by have hm1 : m < 1 := hm; omega
        subst hm0
        rw [show i * 2 ^ 0 + 0 = i by omega, show j * 2 ^ 0 + 0 = j by omega]
        cases h1 : fb_ G i <;> cases h2 : fb_ G j
        · rfl
        · rw [h1, h2] at h9; exact absurd h9 (by decide)
        · rw [h1, h2] at h9; exact absurd h9 (by decide)
        · rfl
      · intro h9
        have h8 := h9 0 (by decide)
        rw [show i * 2 ^ 0 + 0 = i by omega, show j * 2 ^ 0 + 0 = j by omega] at h8
        rw [h8]
    · rw [hk i hi]
      constructor
      · intro h9 m hm
        have hm0 : m = 0 := by have hm1 : m < 1 := hm; omega
        subst hm0
        rw [show i * 2 ^ 0 + 0 = i by omega]
        cases h1 : fb_ G i
        · rfl
        · rw [h1] at h9; exact absurd h9 (by decide)
      · intro h9
        have h8 := h9 0 (by decide)
        rw [show i * 2 ^ 0 + 0 = i by omega] at h8
        rw [h8]; rfl
  have h12 := li_all (s := (d0_ T F 4096, 2)) h0 12 (Nat.le_refl _)
  rw [← ss_szn]
  have a1 := h12.1
  have a2 : (dl_ (d0_ T F 4096, 2) 12).2 ≤ 767 := h12.2.1
  exact ⟨by omega, a2⟩
theorem rl_size {I0 : Nat → Nat → Int32} {T : Nat → Nat → Nat} {J : Nat → Nat → Int64} {sh : Nat → Nat} {fr E : Nat} {S : Nat → Int64} {En Ot Wt : Nat → Int32} (h : rl_ (it_ I0 T) J sh fr (nI E) S En Ot Wt) (hT : tb_ T) {i : Nat} (hi : i < 10) : rl_ (it_ I0 (dl_ (d0_ T (J (sh i + 1)) 4096, 2) 12).1) J sh fr (nI (dl_ (d0_ T (J (sh i + 1)) 4096, 2) 12).2) S En Ot Wt ∧ (dl_ (d0_ T (J (sh i + 1)) 4096, 2) 12).2 - 2 = szn_ (fb_ (rw_ S i)) 12 := by
  have hs := size_eq (T := T) (F := J (sh i + 1)) (G := rw_ S i) (fun p hp => h.2.2.1 i p hi hp)
  refine ⟨?_, hs.1⟩
  obtain ⟨h1, h2, h3, h4, h5, h6, h7, h8, -⟩ := h
  have hlow : ∀ T' : Nat → Nat → Nat, ∀ k, k < 16 → it_ I0 T' k = I0 k := fun T' k hk => by unfold it_; rw [if_neg (by omega)]
  rw [hlow _ _ (by decide)] at h5 h6 h7 h8
  refine ⟨h1, h2, h3, h4, by rw [hlow _ _ (by decide)]; exact h5, by rw [hlow _ _ (by decide)]; exact h6, by rw [hlow _ _ (by decide)]; exact h7, by rw [hlow _ _ (by decide)]; exact h8, I0, _, _, rfl, rfl, (dl_tb (s := (d0_ T (J (sh i + 1)) 4096, 2)) (d0_tb hT _ _) (show 2 ≤ 767 by decide) 12).1⟩
/-- the heaviest set -/
theorem rl_heavy {I : Nat → Nat → Int32} {J : Nat → Nat → Int64} {sh : Nat → Nat} {fr : Nat} {en : Int32} {S : Nat → Int64} {En Ot Wt : Nat → Int32} (h : rl_ I J sh fr en S En Ot Wt) : rl_ (hI_ I) J sh fr en S En Ot Wt := by
  obtain ⟨h1, h2, h3, h4, h5, h6, h7, h8, I0, T, E, hI, hE, hT⟩ := h
  have e : ∀ k, k ≠ 13 → k ≠ 14 → hI_ I k = I k := fun k a b => by
    unfold hI_ hI1_
    rw [va_up_ne _ _ a, va_up_ne _ _ b]
  have e13 : hI_ I 13 = so_ (I 13) (I 12) 6 6 := by
    unfold hI_
    rw [va_up_self]
    unfold hI1_
    rw [va_up_ne _ _ (by decide), va_up_ne _ _ (by decide)]
  have e14 : hI_ I 14 = so_ (I 14) (I 12) 0 6 := by
    unfold hI_
    rw [va_up_ne _ _ (by decide)]
    unfold hI1_
    rw [va_up_self]
  refine ⟨h1, h2, h3, h4, by rw [e 10 (by decide) (by decide)]; exact h5, by rw [e 12 (by decide) (by decide)]; exact h6, ?_, ?_, fun k => if k = 13 ∨ k = 14 then hI_ I k else I0 k, T, E, ?_, hE, hT⟩
  · rw [e13, so_sum _ _ _ h7 6 0 (by decide)]
    rfl
  · rw [e14, so_sum _ _ _ h8 6 0 (by decide)]
    rfl
  · funext a b
    by_cases ha : 16 ≤ a ∧ a ≤ 19
    · rw [e a (by omega) (by omega), hI]
      unfold it_
      rw [if_pos ha, if_pos ha]
    · unfold it_
      rw [if_neg ha]
      show hI_ I a b = (if a = 13 ∨ a = 14 then hI_ I a else I0 a) b
      by_cases h9 : a = 13 ∨ a = 14
      · rw [if_pos h9]
      · rw [if_neg h9, e a (fun h8 => h9 (Or.inl h8)) (fun h8 => h9 (Or.inr h8)), hI]
        unfold it_
        rw [if_neg ha]
