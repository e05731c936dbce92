/-! sized: class beside reference. -/
theorem lz_bit {m i : Nat} (hi : i < 64) : ∀ k, k ≤ 64 → lb_ (lz_ k m) i = (decide (i < k) && decide (nb_ i = m))
  | 0, _ => by rw [lz_, lb_0]; simp
  | k + 1, hk => by
    rw [lz_]
    have ih := lz_bit (m := m) hi k (by omega)
    by_cases hm : m = nb_ k
    · subst hm
      rw [pk_uLs, lb_or, ih, lb_bit (by omega) hi]
      by_cases hik : i = k
      · subst hik; simp
      · by_cases h1 : i < k
        · rw [decide_eq_true h1, decide_eq_true (show i < k + 1 by omega), decide_eq_false hik, Bool.or_false]
        · rw [decide_eq_false h1, decide_eq_false (show ¬ i < k + 1 by omega), decide_eq_false hik]; rfl
    · rw [pk_uLn hm, ih]
      by_cases hik : i = k
      · subst hik
        rw [decide_eq_false (show ¬ nb_ i = m from fun h9 => hm h9.symm), Bool.and_false, Bool.and_false]
      · by_cases h1 : i < k
        · rw [decide_eq_true h1, decide_eq_true (show i < k + 1 by omega)]
        · rw [decide_eq_false h1, decide_eq_false (show ¬ i < k + 1 by omega)]
theorem lb_nI {p i : Nat} (hp : p < 4096) (hi : i < 64) : lb_ ((nI p).toInt64) i = p.testBit i := by
  rw [nI_l (by omega), ← ul_tb]
  have h1 : ul_ (lN p) = p := by
    show (Int64.ofNat p).toBitVec.toNat = p
    exact Nat.mod_eq_of_lt (by omega)
  rw [h1]
theorem lc_nI {p : Nat} (hp : p < 4096) : lc_ ((nI p).toInt64) = nb_ (p / 64) + nb_ (p % 64) := by
  unfold lc_
  rw [cn_congr (g := fun i => p.testBit i) (fun i hi => lb_nI hp hi), show (64 : Nat) = 6 + (6 + 52) by rfl, cn_add, cn_add]
  have h1 : cn_ (fun i => p.testBit i) 6 = nb_ (p % (6 + (6 + 52))) := cn_congr (fun i hi => tb_lo hi)
  have h2 : cn_ (fun i => p.testBit (6 + i)) 6 = nb_ (p / (6 + (6 + 52))) := cn_congr (fun i hi => by
    show p.testBit (6 + i) = (p / 64).testBit i
    rw [tb_hi (p := p) (b := 6 + i) (by omega), show 6 + i - 6 = i by omega])
  have h3 : cn_ (fun i => p.testBit (6 + (6 + i))) 52 = 0 := cn_zero (fun i _ => Nat.testBit_lt_two_pow (Nat.lt_of_lt_of_le hp (show 2 ^ 12 ≤ 2 ^ (6 + (6 + i)) from Nat.pow_le_pow_right (by decide) (by omega))))
  rw [h1, h2, h3]
  omega
theorem fb_szg {F : Nat → Int64} {n p : Nat} (hp : p < 4096) (hn : n ≤ 12) : fb_ (szg_ F (lz_ 64) n) p = (fb_ F p && decide (nI (lc_ ((nI p).toInt64)) = nI n)) := by
  have hi : p % 64 < 64 := Nat.mod_lt _ (by decide)
  have hle := nb_le (p / 64)
  have hle2 := nb_le (p % 64)
  have hd : decide (nI (lc_ ((nI p).toInt64)) = nI n) = decide (nb_ (p / 64) + nb_ (p % 64) = n) := by
    rw [lc_nI hp]
    exact decide_eq_decide.mpr (nI_eq (by omega) (by omega))
  rw [hd]
  show lb_ (szg_ F (lz_ 64) n (p / 64)) (p % 64) = (lb_ (F (p / 64)) (p % 64) && _)
  unfold szg_
  by_cases h : nb_ (p / 64) ≤ n ∧ n - nb_ (p / 64) ≤ 6
  · rw [if_pos h, lb_and, lz_bit hi 64 (Nat.le_refl _), decide_eq_true hi, Bool.true_and]
    congr 1
    exact decide_eq_decide.mpr (by omega)
  · rw [if_neg h, lb_0, decide_eq_false (by omega), Bool.and_false]
theorem rl_sized {I : Nat → Nat → Int32} {J : Nat → Nat → Int64} {sh : Nat → Nat} {fr : Nat} {en : Int32} {S K : Nat → Int64} {En Ot Wt : Nat → Int32} (h : rl_ I J sh fr en S En Ot Wt) {i f n : Nat} (hi : i < 10) (hf : f < 10) (hn : n ≤ 12) : rl_ I (setJ_ J fr (szg_ (J (sh f + 1)) (J 8) n)) (va_up sh i fr) (sh i) en (sl_ S i (mkl_ (fl_ K 64 0) (fun p => fb_ (rw_ S f) p && decide (nI (lc_ (nI p).toInt64) = nI n)) (fun p => p) 4096) 64) En Ot Wt ∧ tw64_ (setJ_ J fr (szg_ (J (sh f + 1)) (J 8) n) (fr + 1)) 64 = tw64_ (rw_ (sl_ S i (mkl_ (fl_ K 64 0) (fun p => fb_ (rw_ S f) p && decide (nI (lc_ (nI p).toInt64) = nI n)) (fun p => p) 4096) 64) i) 64 :=
  rl_set h hi (fun p hp => by rw [fb_make hp, h.2.2.2.1, fb_szg hp hn, h.2.2.1 f p hf hp])
