/-! Closing: what the class closes is what the reference counts. -/
theorem or_x {p b : Nat} (h : p.testBit b = false) : p ||| 2 ^ b = p ^^^ 2 ^ b := by
  apply Nat.eq_of_testBit_eq
  intro j
  rw [Nat.testBit_or, Nat.testBit_xor]
  by_cases hj : j = b
  · subst hj; rw [h, Nat.testBit_two_pow_self]; rfl
  · rw [Nat.testBit_two_pow_of_ne (fun h9 => hj h9.symm), Bool.or_false, Bool.xor_false]
theorem tb_xn {p b i : Nat} (h : i ≠ b) : (p ^^^ 2 ^ b).testBit i = p.testBit i := by
  rw [Nat.testBit_xor, Nat.testBit_two_pow_of_ne (fun h9 => h h9.symm), Bool.xor_false]
theorem zc_s (f : Nat → Bool) (ov : Bool) (b p : Nat) : zc_ f ov (b + 1) p = zc_ f ov b p + (if p.testBit b = ov then 0 else zc_ f ov b (p ^^^ 2 ^ b)) := by
  rw [zc_]
  cases ht : p.testBit b <;> cases ov
  · rfl
  · rw [or_x ht]; rfl
  · rfl
  · rfl
theorem ci_at (f : Nat → Int64) (b : Nat) (dn : Bool) : ∀ n w, ci_ f b dn n w = if w < n then f w ||| mv_ f w b dn else f w
  | 0, w => by rw [ci_, if_neg (Nat.not_lt_zero _)]
  | n + 1, w => by
    have ih := ci_at f b dn n
    have hself : ci_ f b dn n n = f n := by rw [ih, if_neg (Nat.lt_irrefl _)]
    have hlk : lk_ (ci_ f b dn n) n b = lk_ f n b := by unfold lk_ hv_; rw [hself]
    have hmv : mv_ (ci_ f b dn n) n b dn = mv_ f n b dn := by
      unfold mv_
      cases dn
      · rw [if_neg (by decide), if_neg (by decide)]
        unfold ra_
        by_cases h6 : b < 6
        · rw [if_pos h6, if_pos h6, hlk]
        · rw [if_neg h6, if_neg h6]
          cases ht : n.testBit (b - 6)
          · rfl
          · rw [if_pos rfl, if_pos rfl, ih]
            by_cases h1 : n ^^^ 2 ^ (b - 6) < n
            · rw [if_pos h1]
              have h2 : mv_ f (n ^^^ 2 ^ (b - 6)) b false = 0 := by
                unfold mv_ ra_
                rw [if_neg (by decide), if_neg h6, tb_x, ht]
                rfl
              rw [h2]
              exact lb_ext (fun i _ => by rw [lb_or, lb_0, Bool.or_false])
            · rw [if_neg h1]
      · rw [if_pos rfl, if_pos rfl]
        unfold lo_
        by_cases h6 : b < 6
        · rw [if_pos h6, if_pos h6]
          unfold hv_
          rw [hself]
        · rw [if_neg h6, if_neg h6, ih, if_neg (show ¬ n ||| 2 ^ (b - 6) < n from Nat.not_lt.mpr Nat.left_le_or)]
    rw [ci_, hself, hmv]
    by_cases hw : w = n
    · subst hw; rw [pk_uLs, if_pos (by omega)]
    · rw [pk_uLn hw, ih]
      by_cases h1 : w < n
      · rw [if_pos h1, if_pos (by omega)]
      · rw [if_neg h1, if_neg (by omega)]
theorem fb_mv {f : Nat → Int64} {p b : Nat} (hp : p < 4096) (hb : b < 12) (dn : Bool) : fb_ (fun w => mv_ f w b dn) p = (!decide (p.testBit b = dn) && fb_ f (p ^^^ 2 ^ b)) := by
  cases dn
  · have h : fb_ (fun w => mv_ f w b false) p = fb_ (fun w => ra_ f w b) p := rfl
    rw [h, fb_ra hp hb]
    cases p.testBit b <;> rfl
  · have h : fb_ (fun w => mv_ f w b true) p = fb_ (fun w => lo_ f w b) p := rfl
    rw [h, fb_lo hp hb]
    cases p.testBit b <;> rfl
theorem fb_co {f : Nat → Int64} {dn : Bool} : ∀ b, b ≤ 12 → ∀ p, p < 4096 → fb_ (co_ f dn b) p = decide (0 < zc_ (fb_ f) dn b p)
  | 0, _, p, hp => by
    rw [co_, zc_]
    cases fb_ f p <;> rfl
  | b + 1, hb, p, hp => by
    have ih := fb_co (f := f) (dn := dn) b (by omega)
    have h1 : fb_ (co_ f dn (b + 1)) p = (fb_ (co_ f dn b) p || fb_ (fun w => mv_ (co_ f dn b) w b dn) p) := by
      rw [co_, ← fb_or]
      exact fb_cg (fun k hk => by rw [ci_at, if_pos hk]) hp
    rw [h1, fb_mv hp (by omega), ih p hp, ih _ (ms_xor hp (by omega)), zc_s]
    by_cases ht : p.testBit b = dn
    · rw [decide_eq_true ht, if_pos ht]; simp
    · rw [decide_eq_false ht, if_neg ht]
      by_cases h2 : 0 < zc_ (fb_ f) dn b p <;> by_cases h3 : 0 < zc_ (fb_ f) dn b (p ^^^ 2 ^ b)
      · rw [decide_eq_true h2, decide_eq_true (show 0 < zc_ (fb_ f) dn b p + zc_ (fb_ f) dn b (p ^^^ 2 ^ b) by omega)]; rfl
      · rw [decide_eq_true h2, decide_eq_true (show 0 < zc_ (fb_ f) dn b p + zc_ (fb_ f) dn b (p ^^^ 2 ^ b) by omega)]; rfl
      · rw [decide_eq_true h3, decide_eq_true (show 0 < zc_ (fb_ f) dn b p + zc_ (fb_ f) dn b (p ^^^ 2 ^ b) by omega)]; simp
      · rw [decide_eq_false h2, decide_eq_false h3, decide_eq_false (show ¬ 0 < zc_ (fb_ f) dn b p + zc_ (fb_ f) dn b (p ^^^ 2 ^ b) by omega)]; rfl
theorem zc_cg {f g : Nat → Bool} (h : ∀ p, p < 4096 → f p = g p) (ov : Bool) : ∀ b, b ≤ 12 → ∀ p, p < 4096 → zc_ f ov b p = zc_ g ov b p
  | 0, _, p, hp => by rw [zc_, zc_, h p hp]
  | b + 1, hb, p, hp => by rw [zc_s, zc_s, zc_cg h ov b (by omega) p hp, zc_cg h ov b (by omega) _ (ms_xor hp (by omega))]
theorem zc_12 (f : Nat → Bool) (ov : Bool) (p : Nat) : zc_ f ov 12 p < 2 ^ 31 := Nat.lt_of_le_of_lt (zc_le f ov 12 p) (by decide)
/-- one step towards the sets that are counted, and fewer are -/
theorem zc_down (f : Nat → Bool) (ov : Bool) : ∀ B b p, b < B → ¬ p.testBit b = ov → zc_ f ov B (p ^^^ 2 ^ b) ≤ zc_ f ov B p
  | 0, b, _, hb, _ => absurd hb (Nat.not_lt_zero _)
  | B + 1, b, p, hb, ht => by
    rw [zc_s, zc_s f ov B p]
    by_cases hbB : b = B
    · subst hbB
      rw [tb_x, if_pos (show (!p.testBit b) = ov by cases h1 : p.testBit b <;> cases ov <;> first | rfl | exact absurd h1 ht), if_neg ht]
      omega
    · have h1 := zc_down f ov B b p (by omega) ht
      rw [tb_xn (fun h9 => hbB h9.symm)]
      by_cases h2 : p.testBit B = ov
      · rw [if_pos h2, if_pos h2]; omega
      · rw [if_neg h2, if_neg h2]
        have h3 := zc_down f ov B b (p ^^^ 2 ^ B) (by omega) (by rw [tb_xn hbB]; exact ht)
        have h4 : p ^^^ 2 ^ b ^^^ 2 ^ B = p ^^^ 2 ^ B ^^^ 2 ^ b := by rw [Nat.xor_assoc, Nat.xor_comm (2 ^ b), ← Nat.xor_assoc]
        rw [h4]
        omega
theorem zc_self (f : Nat → Bool) (ov : Bool) (p : Nat) : ∀ B, (if f p then 1 else 0) ≤ zc_ f ov B p
  | 0 => by rw [zc_]; exact Nat.le_refl _
  | B + 1 => by
    have := zc_self f ov p B
    rw [zc_s]
    omega
/-- nothing but the set itself is counted where no neighbour counts anything -/
theorem zc_one (f : Nat → Bool) (ov : Bool) : ∀ B p, zc_ f ov B p = (if f p then 1 else 0) ↔ ∀ b, b < B → ¬ p.testBit b = ov → zc_ f ov B (p ^^^ 2 ^ b) = 0
  | 0, p => ⟨fun _ b hb => absurd hb (Nat.not_lt_zero _), fun _ => rfl⟩
  | B + 1, p => by
    have ih := zc_one f ov B p
    have hs := zc_self f ov p B
    have hflip : ∀ q, ¬ q.testBit B = ov → zc_ f ov (B + 1) (q ^^^ 2 ^ B) = zc_ f ov B (q ^^^ 2 ^ B) := fun q hq => by
      rw [zc_s, tb_x, if_pos (show (!q.testBit B) = ov by cases h1 : q.testBit B <;> cases ov <;> first | rfl | exact absurd h1 hq)]
      rfl
    constructor
    · intro h b hb ht
      rw [zc_s] at h
      have h0 : zc_ f ov B p = (if f p then 1 else 0) := by omega
      by_cases hbB : b = B
      · subst hbB
        rw [hflip p ht]
        rw [if_neg ht] at h
        omega
      · have h1 := ih.mp h0 b (by omega) ht
        rw [zc_s, h1, tb_xn (fun h9 => hbB h9.symm)]
        by_cases h2 : p.testBit B = ov
        · rw [if_pos h2]
        · rw [if_neg h2]
          rw [if_neg h2] at h
          have h3 := zc_down f ov B b (p ^^^ 2 ^ B) (by omega) (by rw [tb_xn hbB]; exact ht)
          have h4 : p ^^^ 2 ^ b ^^^ 2 ^ B = p ^^^ 2 ^ B ^^^ 2 ^ b := by rw [Nat.xor_assoc, Nat.xor_comm (2 ^ b), ← Nat.xor_assoc]
          rw [h4]
          omega
    · intro h
      have h0 : zc_ f ov B p = (if f p then 1 else 0) := ih.mpr (fun b hb ht => by
        have h1 := h b (by omega) ht
        rw [zc_s] at h1
        omega)
      rw [zc_s, h0]
      by_cases h2 : p.testBit B = ov
      · rw [if_pos h2, Nat.add_zero]
      · rw [if_neg h2]
        have h1 := h B (by omega) h2
        rw [hflip p h2] at h1
        omega
theorem orr_fb {H : Nat → Nat → Int64} {p : Nat} : ∀ n, fb_ (fun w => orr_ (fun b => H b w) n) p = ex_ (fun b => fb_ (H b) p) n := fun n => orr_bit (fun b => H b (p / 64)) (p % 64) n
theorem fb_cpy {F G : Nat → Int64} {p : Nat} (hp : p < 4096) : fb_ (va_cpy F G 0 0 64) p = fb_ F p := fb_cg (fun k hk => by
  unfold va_cpy
  rw [if_pos (by omega)]
  congr 1
  omega) hp
theorem fb_exg {F H : Nat → Int64} {dn : Bool} {p : Nat} (hp : p < 4096) (hH : ∀ q, q < 4096 → fb_ H q = decide (0 < zc_ (fb_ F) dn 12 q)) : fb_ (exg_ F H dn) p = (fb_ F p && decide (zc_ (fb_ F) dn 12 p = 1)) := by
  have h1 : fb_ (exg_ F H dn) p = (fb_ F p && !ex_ (fun b => fb_ (fun w => mv_ H w b dn) p) 12) := by
    rw [← orr_fb (H := fun b w => mv_ H w b dn)]
    exact fb_lack F (fun w => orr_ (fun b => mv_ H w b dn) 12) p
  rw [h1]
  cases hf : fb_ F p
  · rfl
  · rw [Bool.true_and, Bool.true_and]
    have h2 := zc_one (fb_ F) dn 12 p
    rw [hf, if_pos rfl] at h2
    cases he : ex_ (fun b => fb_ (fun w => mv_ H w b dn) p) 12
    · refine (decide_eq_true (h2.mpr (fun b hb ht => ?_))).symm
      by_cases h3 : 0 < zc_ (fb_ F) dn 12 (p ^^^ 2 ^ b)
      · have h4 : ex_ (fun b => fb_ (fun w => mv_ H w b dn) p) 12 = true := ex_in (k := b) (by
          show fb_ (fun w => mv_ H w b dn) p = true
          rw [fb_mv hp hb, hH _ (ms_xor hp hb), decide_eq_false ht, decide_eq_true h3]; rfl) hb
        rw [he] at h4
        exact Bool.noConfusion h4
      · omega
    · obtain ⟨b, hb, h3⟩ := ex_iff.mp he
      rw [fb_mv hp hb, hH _ (ms_xor hp hb), Bool.and_eq_true, decide_eq_true_eq] at h3
      refine (decide_eq_false (fun h9 => ?_)).symm
      have h5 := h2.mp h9 b hb (fun h8 => by rw [decide_eq_true h8] at h3; exact Bool.noConfusion h3.1)
      omega
theorem setJ_at {J : Nat → Nat → Int64} {o : Nat} {G : Nat → Int64} {p : Nat} (hp : p < 4096) : fb_ (setJ_ J o G (o + 1)) p = fb_ G p := by
  show fb_ (va_up J (o + 1) (wl_ (J (o + 1)) G 64) (o + 1)) p = _
  rw [va_up_self, fb_wl hp]
theorem subJ_at {J : Nat → Nat → Int64} {o a b p : Nat} (hp : p < 4096) : fb_ (subJ_ J o a b (o + 1)) p = (fb_ (J (a + 1)) p && !fb_ (J (b + 1)) p) := (setJ_at hp).trans (fb_lack (J (a + 1)) (J (b + 1)) p)
theorem subJ_ne {J : Nat → Nat → Int64} {o a b k : Nat} (h : ¬ k = o + 1) : subJ_ J o a b k = J k := va_up_ne _ _ h
theorem closeJ_at {J : Nat → Nat → Int64} {o : Nat} {dn : Bool} : closeJ_ J o dn (o + 1) = co_ (J (o + 1)) dn 12 := va_up_self _ _ _
theorem closeJ_ne {J : Nat → Nat → Int64} {o k : Nat} {dn : Bool} (h : ¬ k = o + 1) : closeJ_ J o dn k = J k := va_up_ne _ _ h
theorem copyJ_at {J : Nat → Nat → Int64} {o o2 : Nat} : copyJ_ J o o2 (o + 1) = va_cpy (J (o2 + 1)) (J (o + 1)) 0 0 64 := va_up_self _ _ _
theorem copyJ_ne {J : Nat → Nat → Int64} {o o2 k : Nat} (h : ¬ k = o + 1) : copyJ_ J o o2 k = J k := va_up_ne _ _ h
theorem divJ_at {J : Nat → Nat → Int64} {o a b : Nat} : divJ_ J o a b (o + 1) = dv_ (J (o + 1)) (J (a + 1)) (J (b + 1)) 4096 := va_up_self _ _ _
theorem divJ_ne {J : Nat → Nat → Int64} {o a b k : Nat} (h : ¬ k = o + 1) : divJ_ J o a b k = J k := va_up_ne _ _ h
theorem fillJ_at {J : Nat → Nat → Int64} {o : Nat} {x : Int64} : fillJ_ J o x (o + 1) = fl_ (J (o + 1)) 64 x := va_up_self _ _ _
theorem fillJ_ne {J : Nat → Nat → Int64} {o k : Nat} {x : Int64} (h : ¬ k = o + 1) : fillJ_ J o x k = J k := va_up_ne _ _ h
section RLE
variable {I : Nat → Nat → Int32} {J J' : Nat → Nat → Int64} {sh : Nat → Nat} {fr : Nat} {en : Int32} {S K : Nat → Int64} {O En Ot Wt : Nat → Int32}
theorem rl_c56 (h : rl_ I J sh fr en S En Ot Wt) {i f g : Nat} (hi : i < 10) (hf : f < 10) (hg : g < 10) (dn : Bool) : rl_ I (subJ_ (closeJ_ (copyJ_ J 3 (sh g)) 3 dn) fr (sh f) 3) (va_up sh i fr) (sh i) en (sl_ S i (mkl_ (fl_ K 64 0) (fun p => (fb_ (rw_ S f)) p && decide ((zo_ (· + ·) dn (ll_ (fb_ (rw_ S g)) O 4096) 12) p = 0)) (fun p => p) 4096) 64) En Ot Wt ∧ tw64_ (subJ_ (closeJ_ (copyJ_ J 3 (sh g)) 3 dn) fr (sh f) 3 (fr + 1)) 64 = tw64_ (rw_ (sl_ S i (mkl_ (fl_ K 64 0) (fun p => (fb_ (rw_ S f)) p && decide ((zo_ (· + ·) dn (ll_ (fb_ (rw_ S g)) O 4096) 12) p = 0)) (fun p => p) 4096) 64) i) 64 := by
  have hk : ∀ j, j < 10 → closeJ_ (copyJ_ J 3 (sh g)) 3 dn (sh j + 1) = J (sh j + 1) := fun j hj => by
    rw [closeJ_ne (fun h9 => (h.1.2.2.2 j hj).2.1 (by omega)), copyJ_ne (fun h9 => (h.1.2.2.2 j hj).2.1 (by omega))]
  refine rl_lay h hi (fun p hp => ?_) (fun j hj => ?_) ?_
  · rw [fb_make hp, subJ_at hp, hk f hf, closeJ_at, copyJ_at, h.2.2.1 f p hf hp, fb_co 12 (Nat.le_refl _) p hp, zo_cnt 12 (Nat.le_refl _) p hp]
    rw [zc_cg (g := fb_ (rw_ S g)) (fun q hq => (fb_cpy hq).trans (h.2.2.1 g q hg hq)) dn 12 (Nat.le_refl _) p hp]
    congr 1
    by_cases h1 : 0 < zc_ (fb_ (rw_ S g)) dn 12 p
    · rw [decide_eq_true h1, decide_eq_false (fun h9 => absurd ((ni_z (zc_12 _ _ _)).mp h9) (by omega))]; rfl
    · rw [decide_eq_false h1, decide_eq_true ((ni_z (zc_12 _ _ _)).mpr (by omega))]; rfl
  · rw [subJ_ne (fun h9 => (h.1.2.2.2 j hj).2.2.2 (by omega)), hk j hj]
  · rw [subJ_ne (fo_8 h.1.1), closeJ_ne (by decide), copyJ_ne (by decide)]
theorem rl_ext (h : rl_ I J sh fr en S En Ot Wt) {i f : Nat} (hi : i < 10) (hf : f < 10) (dn : Bool) : rl_ I (va_up (closeJ_ (copyJ_ J 3 (sh f)) 3 dn) (fr + 1) (wl_ ((closeJ_ (copyJ_ J 3 (sh f)) 3 dn) (fr + 1)) (exg_ (J (sh f + 1)) ((closeJ_ (copyJ_ J 3 (sh f)) 3 dn) 4) dn) 64)) (va_up sh i fr) (sh i) en (sl_ S i (mkl_ (fl_ K 64 0) (fun p => (fb_ (rw_ S f)) p && decide ((zo_ (· + ·) dn (ll_ (fb_ (rw_ S f)) O 4096) 12) p = nI 1)) (fun p => p) 4096) 64) En Ot Wt ∧ tw64_ ((va_up (closeJ_ (copyJ_ J 3 (sh f)) 3 dn) (fr + 1) (wl_ ((closeJ_ (copyJ_ J 3 (sh f)) 3 dn) (fr + 1)) (exg_ (J (sh f + 1)) ((closeJ_ (copyJ_ J 3 (sh f)) 3 dn) 4) dn) 64)) (fr + 1)) 64 = tw64_ (rw_ (sl_ S i (mkl_ (fl_ K 64 0) (fun p => (fb_ (rw_ S f)) p && decide ((zo_ (· + ·) dn (ll_ (fb_ (rw_ S f)) O 4096) 12) p = nI 1)) (fun p => p) 4096) 64) i) 64 := by
  have hk : ∀ j, j < 10 → closeJ_ (copyJ_ J 3 (sh f)) 3 dn (sh j + 1) = J (sh j + 1) := fun j hj => by
    rw [closeJ_ne (fun h9 => (h.1.2.2.2 j hj).2.1 (by omega)), copyJ_ne (fun h9 => (h.1.2.2.2 j hj).2.1 (by omega))]
  have h4 : closeJ_ (copyJ_ J 3 (sh f)) 3 dn 4 = co_ (va_cpy (J (sh f + 1)) (J 4) 0 0 64) dn 12 := by
    have e1 : closeJ_ (copyJ_ J 3 (sh f)) 3 dn (3 + 1) = co_ (copyJ_ J 3 (sh f) (3 + 1)) dn 12 := closeJ_at
    rw [copyJ_at] at e1
    exact e1
  refine rl_lay h hi (fun p hp => ?_) (fun j hj => ?_) ?_
  · rw [fb_make hp, va_up_self, fb_wl hp, h4, fb_exg hp (fun q hq => by rw [fb_co 12 (Nat.le_refl _) q hq, zc_cg (g := fb_ (J (sh f + 1))) (fun r hr => fb_cpy hr) dn 12 (Nat.le_refl _) q hq]), h.2.2.1 f p hf hp, zo_cnt 12 (Nat.le_refl _) p hp, zc_cg (g := fb_ (rw_ S f)) (fun q hq => h.2.2.1 f q hf hq) dn 12 (Nat.le_refl _) p hp]
    congr 1
    exact decide_eq_decide.mpr (nI_eq (zc_12 _ _ _) (by decide)).symm
  · rw [va_up_ne _ _ (fun h9 => (h.1.2.2.2 j hj).2.2.2 (by omega)), hk j hj]
  · rw [va_up_ne _ _ (fo_8 h.1.1), closeJ_ne (by decide), copyJ_ne (by decide)]
end RLE
