theorem i32_lc (a b c : Int32) : a + (b + c) = b + (a + c) := by rw [← Int32.add_assoc, Int32.add_comm a b, Int32.add_assoc]
theorem wt_sum {B Wt : Nat → Int32} (hB : ∀ e, e < 12 → B e = Wt e) {p : Nat} : wb_ B 6 (p / 64) 6 + wb_ B 0 (p % 64) 6 = we_ Wt p 12 := by
  have hl : ∀ i, i < 6 → (p % 64).testBit i = p.testBit i := fun i hi => (tb_lo hi).symm
  have hh : ∀ i, i < 6 → (p / 64).testBit i = p.testBit (6 + i) := fun i hi => by
    rw [tb_hi (p := p) (b := 6 + i) (by omega), show 6 + i - 6 = i by omega]
  simp only [wb_, we_]
  rw [hl 0 (by decide), hl 1 (by decide), hl 2 (by decide), hl 3 (by decide), hl 4 (by decide), hl 5 (by decide), hh 0 (by decide), hh 1 (by decide), hh 2 (by decide), hh 3 (by decide), hh 4 (by decide), hh 5 (by decide)]
  simp only [Nat.zero_add, Nat.add_zero, Nat.reduceAdd, Nat.reduceSub, Nat.sub_zero, Nat.sub_self, hB 0 (by decide), hB 1 (by decide), hB 2 (by decide), hB 3 (by decide), hB 4 (by decide), hB 5 (by decide), hB 6 (by decide), hB 7 (by decide), hB 8 (by decide), hB 9 (by decide), hB 10 (by decide), hB 11 (by decide)]
  generalize (if p.testBit 0 = true then Wt 11 else 0) = t0
  generalize (if p.testBit 1 = true then Wt 10 else 0) = t1
  generalize (if p.testBit 2 = true then Wt 9 else 0) = t2
  generalize (if p.testBit 3 = true then Wt 8 else 0) = t3
  generalize (if p.testBit 4 = true then Wt 7 else 0) = t4
  generalize (if p.testBit 5 = true then Wt 6 else 0) = t5
  generalize (if p.testBit 6 = true then Wt 5 else 0) = t6
  generalize (if p.testBit 7 = true then Wt 4 else 0) = t7
  generalize (if p.testBit 8 = true then Wt 3 else 0) = t8
  generalize (if p.testBit 9 = true then Wt 2 else 0) = t9
  generalize (if p.testBit 10 = true then Wt 1 else 0) = t10
  generalize (if p.testBit 11 = true then Wt 0 else 0) = t11
  simp only [Int32.zero_add, Int32.add_zero]
  simp only [Int32.add_comm, i32_lc, Int32.add_assoc]
theorem hs_we {I : Nat → Nat → Int32} {Wt : Nat → Int32} (hB : ∀ e, e < 12 → I 12 e = Wt e) (h13 : I 13 0 = 0) (h14 : I 14 0 = 0) {p : Nat} (hp : p < 4096) : hs_ I p = we_ Wt p 12 := by
  rw [← wt_sum hB]
  unfold hs_
  have e13 : hI_ I 13 = so_ (I 13) (I 12) 6 6 := by
    unfold hI_
    rw [va_up_self]
    unfold hI1_
    rw [va_up_ne _ _ (by decide), va_up_ne _ _ (by decide)]
  have e14 : hI_ I 14 = so_ (I 14) (I 12) 0 6 := by
    unfold hI_
    rw [va_up_ne _ _ (by decide)]
    unfold hI1_
    rw [va_up_self]
  rw [e13, e14, so_sum _ _ _ h13 6 _ (show p / 64 < 2 ^ 6 by show p / 64 < 64; omega), so_sum _ _ _ h14 6 _ (show p % 64 < 2 ^ 6 from Nat.mod_lt _ (by decide))]
theorem nI_m1 {q : Nat} (hq : q < 4096) : ¬ nI q = -1 := fun h9 => absurd (show nI q < 0 by rw [h9]; decide) (nI_pos (by omega))
/-- the class's heaviest place beside the reference's -/
theorem hp_ho {f g : Nat → Int64} {w v : Nat → Int32} (hf : ∀ p, p < 4096 → fb_ f p = fb_ g p) (hw : ∀ p, p < 4096 → w p = v p) : ∀ n, n ≤ 4096 → (ho_ (fb_ g) v n = none ∧ hp_ f w n = (-1, 0)) ∨ ∃ q, q < n ∧ ho_ (fb_ g) v n = some q ∧ hp_ f w n = (nI q, v q)
  | 0, _ => Or.inl ⟨rfl, rfl⟩
  | n + 1, hn => by
    have ih := hp_ho hf hw n (by omega)
    rw [hp_, ho_, hf n (by omega), hw n (by omega)]
    cases hb : fb_ g n
    · rw [if_neg (by decide), if_neg (by decide)]
      rcases ih with h | ⟨q, hq, h1, h2⟩
      · exact Or.inl h
      · exact Or.inr ⟨q, by omega, h1, h2⟩
    · rw [if_pos rfl, if_pos rfl]
      rcases ih with ⟨h1, h2⟩ | ⟨q, hq, h1, h2⟩
      · rw [h1, h2, if_pos (Or.inl rfl)]
        exact Or.inr ⟨n, by omega, rfl, rfl⟩
      · rw [h1, h2]
        by_cases hlt : v q < v n
        · rw [if_pos (Or.inr hlt)]
          exact Or.inr ⟨n, by omega, if_pos hlt, rfl⟩
        · rw [if_neg (fun h9 => h9.elim (nI_m1 (by omega)) hlt)]
          exact Or.inr ⟨q, by omega, if_neg hlt, rfl⟩
