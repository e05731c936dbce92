/-! change, parts: class beside reference. -/
theorem xx_p (p b : Nat) : (p ^^^ 2 ^ b) ^^^ 2 ^ b = p := by rw [Nat.xor_assoc, Nat.xor_self, Nat.xor_zero]
theorem tb_x (p b : Nat) : (p ^^^ 2 ^ b).testBit b = !p.testBit b := by rw [Nat.testBit_xor, Nat.testBit_two_pow_self, Bool.xor_true]
theorem fb_makex {K : Nat → Int64} {f : Nat → Bool} {q b : Nat} (hq : q < 4096) (hb : b < 12) : fb_ (mkl_ (fl_ K 64 0) f (fun p => p ^^^ 2 ^ b) 4096) q = f (q ^^^ 2 ^ b) := by
  rw [fb_mkl, fb_fl0 hq, Bool.false_or]
  cases hf : f (q ^^^ 2 ^ b)
  · cases h : ex_ (fun m => f m && decide (m ^^^ 2 ^ b = q)) 4096
    · rfl
    · obtain ⟨k, _, hk⟩ := ex_iff.mp h
      rw [Bool.and_eq_true, decide_eq_true_eq] at hk
      have h1 : k = q ^^^ 2 ^ b := by rw [← hk.2, xx_p]
      rw [h1, hf] at hk
      exact Bool.noConfusion hk.1
  · exact ex_in (g := fun m => f m && decide (m ^^^ 2 ^ b = q)) (k := q ^^^ 2 ^ b) (by rw [hf, decide_eq_true (xx_p q b)]; rfl) (ms_xor hq hb)
section RL3
variable {I : Nat → Nat → Int32} {J J' : Nat → Nat → Int64} {sh : Nat → Nat} {fr : Nat} {en : Int32} {S K : Nat → Int64} {En Ot Wt : Nat → Int32}
theorem rl_h0 (h : rl_ I J sh fr en S En Ot Wt) {i f b : Nat} (hi : i < 10) (hf : f < 10) (hb : b < 12) : rl_ I (setJ_ J fr (chg_ 0 (J (sh f + 1)) b)) (va_up sh i fr) (sh i) en (sl_ S i (mkl_ (fl_ K 64 0) (fun p => fb_ (rw_ S f) p && p.testBit b) (fun p => p ^^^ 2 ^ b) 4096) 64) En Ot Wt ∧ tw64_ (setJ_ J fr (chg_ 0 (J (sh f + 1)) b) (fr + 1)) 64 = tw64_ (rw_ (sl_ S i (mkl_ (fl_ K 64 0) (fun p => fb_ (rw_ S f) p && p.testBit b) (fun p => p ^^^ 2 ^ b) 4096) 64) i) 64 :=
  rl_set h hi (fun p hp => by
    rw [fb_makex hp hb, tb_x]
    have h1 : fb_ (chg_ 0 (J (sh f + 1)) b) p = (!p.testBit b && fb_ (J (sh f + 1)) (p ^^^ 2 ^ b)) := fb_lo hp hb
    rw [h1, h.2.2.1 f _ hf (ms_xor hp hb), Bool.and_comm])
theorem rl_h1 (h : rl_ I J sh fr en S En Ot Wt) {i f b : Nat} (hi : i < 10) (hf : f < 10) (hb : b < 12) : rl_ I (setJ_ J fr (chg_ 1 (J (sh f + 1)) b)) (va_up sh i fr) (sh i) en (sl_ S i (mkl_ (fl_ K 64 0) (fun p => fb_ (rw_ S f) p && !p.testBit b) (fun p => p) 4096) 64) En Ot Wt ∧ tw64_ (setJ_ J fr (chg_ 1 (J (sh f + 1)) b) (fr + 1)) 64 = tw64_ (rw_ (sl_ S i (mkl_ (fl_ K 64 0) (fun p => fb_ (rw_ S f) p && !p.testBit b) (fun p => p) 4096) 64) i) 64 :=
  rl_set h hi (fun p hp => by
    rw [fb_make hp]
    have h1 : fb_ (chg_ 1 (J (sh f + 1)) b) p = (fb_ (J (sh f + 1)) p && !p.testBit b) := fb_lk hp hb
    rw [h1, h.2.2.1 f p hf hp])
theorem rl_h2 (h : rl_ I J sh fr en S En Ot Wt) {i f b : Nat} (hi : i < 10) (hf : f < 10) (hb : b < 12) : rl_ I (setJ_ J fr (chg_ 2 (J (sh f + 1)) b)) (va_up sh i fr) (sh i) en (sl_ S i (mkl_ (fl_ K 64 0) (fun p => fb_ (rw_ S f) p) (fun p => p ^^^ 2 ^ b) 4096) 64) En Ot Wt ∧ tw64_ (setJ_ J fr (chg_ 2 (J (sh f + 1)) b) (fr + 1)) 64 = tw64_ (rw_ (sl_ S i (mkl_ (fl_ K 64 0) (fun p => fb_ (rw_ S f) p) (fun p => p ^^^ 2 ^ b) 4096) 64) i) 64 :=
  rl_set h hi (fun p hp => by
    rw [fb_makex hp hb]
    have h1 : fb_ (chg_ 2 (J (sh f + 1)) b) p = (fb_ (fun w => lo_ (J (sh f + 1)) w b) p || fb_ (fun w => ra_ (J (sh f + 1)) w b) p) := fb_or (fun w => lo_ (J (sh f + 1)) w b) (fun w => ra_ (J (sh f + 1)) w b) p
    rw [h1, fb_lo hp hb, fb_ra hp hb, h.2.2.1 f _ hf (ms_xor hp hb)]
    cases p.testBit b <;> cases fb_ (rw_ S f) (p ^^^ 2 ^ b) <;> rfl)
end RL3
theorem orr_bit (g : Nat → Int64) (i : Nat) : ∀ n, lb_ (orr_ g n) i = ex_ (fun w => lb_ (g w) i) n
  | 0 => lb_0 i
  | n + 1 => by rw [orr_, lb_or, orr_bit g i n, ex_]
theorem orr_ex (g : Nat → Int64) : decide (¬ orr_ g 64 = 0) = ex_ (fb_ g) 4096 := by
  cases h : ex_ (fb_ g) 4096
  · refine decide_eq_false (fun h9 => h9 (lb_ext (fun i hi => ?_)))
    rw [orr_bit, lb_0]
    cases h2 : ex_ (fun w => lb_ (g w) i) 64
    · rfl
    · obtain ⟨w, hw, hb⟩ := ex_iff.mp h2
      have h3 : fb_ g (64 * w + i) = true := by
        unfold fb_
        rw [show (64 * w + i) / 64 = w by omega, show (64 * w + i) % 64 = i by omega]
        exact hb
      rw [ex_in (g := fb_ g) h3 (show 64 * w + i < 4096 by omega)] at h
      exact h
  · obtain ⟨p, hp, hb⟩ := ex_iff.mp h
    refine decide_eq_true (fun h9 => ?_)
    have h1 := orr_bit g (p % 64) 64
    rw [h9, lb_0, ex_in (g := fun w => lb_ (g w) (p % 64)) (k := p / 64) hb (by omega)] at h1
    exact Bool.noConfusion h1
theorem ex_cg {f g : Nat → Bool} : ∀ {n : Nat}, (∀ k, k < n → f k = g k) → ex_ f n = ex_ g n
  | 0, _ => rfl
  | n + 1, h => by rw [ex_, ex_, ex_cg (fun k hk => h k (by omega)), h n (by omega)]
theorem fa_cg {f g : Nat → Bool} : ∀ {n : Nat}, (∀ k, k < n → f k = g k) → fa_ f n = fa_ g n
  | 0, _ => rfl
  | n + 1, h => by rw [fa_, fa_, fa_cg (fun k hk => h k (by omega)), h n (by omega)]
theorem fi_cg {f g : Nat → Bool} {N : Nat} (h : ∀ k, k < N → f k = g k) : ∀ (d n : Nat), n + d ≤ N → fi_ f n d = fi_ g n d
  | 0, _, _ => rfl
  | d + 1, n, hn => by rw [fi_, fi_, h n (by omega), fi_cg h d (n + 1) (by omega)]
theorem pt_eq {F G : Nat → Int64} (h : ∀ p, p < 4096 → fb_ F p = fb_ G p) {b : Nat} (hb : b < 12) : ptf_ F b = (ex_ (fun p => fb_ G p && p.testBit b) 4096 && ex_ (fun p => fb_ G p && !p.testBit b) 4096) := by
  unfold ptf_
  rw [orr_ex, orr_ex, ex_cg (f := fb_ (fun w => hv_ F w b)) (g := fun p => fb_ G p && p.testBit b) (fun p hp => by rw [fb_hv hp hb, h p hp]), ex_cg (f := fb_ (fun w => lk_ F w b)) (g := fun p => fb_ G p && !p.testBit b) (fun p hp => by rw [fb_lk hp hb, h p hp])]
theorem rl_parts {I : Nat → Nat → Int32} {J : Nat → Nat → Int64} {sh : Nat → Nat} {fr : Nat} {en : Int32} {S : Nat → Int64} {En Ot Wt : Nat → Int32} (h : rl_ I J sh fr en S En Ot Wt) {i : Nat} (hi : i < 10) : fi_ (fun e => ptf_ (J (sh i + 1)) (11 - e)) 0 12 = fi_ (fun k => ex_ (fun p => fb_ (rw_ S i) p && p.testBit (11 - k)) 4096 && ex_ (fun p => fb_ (rw_ S i) p && !p.testBit (11 - k)) 4096) 0 12 :=
  fi_cg (N := 12) (fun k hk => pt_eq (fun p hp => h.2.2.1 i p hi hp) (by omega)) 12 0 (by decide)
