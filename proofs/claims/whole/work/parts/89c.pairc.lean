/-! The class's pairs: word by word, all pairs and nothing else. -/
theorem pi_at (O S : Nat → Int64) (hi : Nat) (jn : Bool) (w i : Nat) : ∀ n, lb_ (pi_ O S hi jn n w) i = (lb_ (O w) i || ex_ (fun k => decide (ti_ jn k hi = w) && lb_ (S k) i) n)
  | 0 => by rw [pi_, ex_, Bool.or_false]
  | n + 1 => by
    rw [pi_, ex_]
    by_cases hw : ti_ jn n hi = w
    · rw [decide_eq_true hw, ← hw, pk_uLs, lb_or, hw, pi_at O S hi jn w i n, Bool.true_and, Bool.or_assoc]
    · rw [decide_eq_false hw, pk_uLn (fun h9 => hw h9.symm), pi_at O S hi jn w i n, Bool.false_and, Bool.or_false]
theorem ph_at (O S G : Nat → Int64) (low : Nat) (jn : Bool) (w i : Nat) : ∀ n, lb_ (ph_ O S G low jn n w) i = (lb_ (O w) i || ex_ (fun h => fb_ G (64 * h + low) && ex_ (fun k => decide (ti_ jn k h = w) && lb_ (S k) i) 64) n)
  | 0 => by rw [ph_, ex_, Bool.or_false]
  | n + 1 => by
    rw [ph_, ex_]
    cases hg : fb_ G (64 * n + low)
    · rw [if_neg (by decide), ph_at O S G low jn w i n, Bool.false_and, Bool.or_false]
    · rw [if_pos rfl, pi_at, ph_at O S G low jn w i n, Bool.true_and, Bool.or_assoc]
theorem pr_at (O S F G : Nat → Int64) (jn : Bool) (w i : Nat) : ∀ n, n ≤ 64 → lb_ ((pr_ O S F G jn n).1 w) i = (lb_ (O w) i || ex_ (fun low => ex_ (fun h => fb_ G (64 * h + low) && ex_ (fun k => decide (ti_ jn k h = w) && lb_ (sw_ F low jn k) i) 64) 64) n)
  | 0, _ => by rw [pr_, ex_, Bool.or_false]
  | n + 1, hn => by
    rw [pr_, ex_]
    have ih := pr_at O S F G jn w i n (by omega)
    cases hb : lb_ (orr_ G 64) n
    · rw [if_neg (by decide), ih]
      have h1 : ex_ (fun h => fb_ G (64 * h + n) && ex_ (fun k => decide (ti_ jn k h = w) && lb_ (sw_ F n jn k) i) 64) 64 = false := by
        cases he : ex_ (fun h => fb_ G (64 * h + n) && ex_ (fun k => decide (ti_ jn k h = w) && lb_ (sw_ F n jn k) i) 64) 64
        · rfl
        · obtain ⟨h, hh, h2⟩ := ex_iff.mp he
          rw [Bool.and_eq_true] at h2
          have h3 : lb_ (G h) n = true := by
            have h4 := h2.1
            unfold fb_ at h4
            rw [show (64 * h + n) / 64 = h by omega, show (64 * h + n) % 64 = n by omega] at h4
            exact h4
          rw [orr_bit, ex_in (g := fun w => lb_ (G w) n) (k := h) h3 hh] at hb
          exact hb
      rw [h1, Bool.or_false]
    · rw [if_pos rfl]
      show lb_ (ph_ (pr_ O S F G jn n).1 (wl_ (pr_ O S F G jn n).2 (sw_ F n jn) 64) G n jn 64 w) i = _
      rw [ph_at, ih, Bool.or_assoc]
      have he : ex_ (fun h => fb_ G (64 * h + n) && ex_ (fun k => decide (ti_ jn k h = w) && lb_ (wl_ (pr_ O S F G jn n).2 (sw_ F n jn) 64 k) i) 64) 64 = ex_ (fun h => fb_ G (64 * h + n) && ex_ (fun k => decide (ti_ jn k h = w) && lb_ (sw_ F n jn k) i) 64) 64 := by
        refine ex_cg (fun h _ => ?_)
        show (fb_ G (64 * h + n) && ex_ _ 64) = (fb_ G (64 * h + n) && ex_ _ 64)
        rw [ex_cg (f := fun k => decide (ti_ jn k h = w) && lb_ (wl_ (pr_ O S F G jn n).2 (sw_ F n jn) 64 k) i) (g := fun k => decide (ti_ jn k h = w) && lb_ (sw_ F n jn k) i) (fun k hk => by
          show (decide (ti_ jn k h = w) && lb_ (wl_ (pr_ O S F G jn n).2 (sw_ F n jn) 64 k) i) = _
          unfold wl_
          rw [if_pos hk])]
      rw [he]
theorem wd_lk (X : Int64) {n : Nat} (hn : n < 6) : X &&& (hm_ n ^^^ (-1)) = lk_ (fun _ => X) 0 n := by
  apply lb_ext
  intro i hi
  unfold lk_ hv_
  rw [if_pos hn, lb_and, lb_not _ hi, lb_and, lb_not _ hi, lb_and]
  cases lb_ X i <;> cases lb_ (hm_ n) i <;> rfl
theorem fb_w0 (X : Int64) (i : Nat) : fb_ (fun _ => X) i = lb_ X (i % 64) := rfl
theorem fb_at0 (g : Nat → Int64) {i : Nat} (hi : i < 64) : fb_ g i = lb_ (g 0) i := by
  unfold fb_
  rw [show i / 64 = 0 by omega, show i % 64 = i by omega]
theorem x6_lt {i n : Nat} (hi : i < 64) (hn : n < 6) : i ^^^ 2 ^ n < 64 := Nat.xor_lt_two_pow (n := 6) hi (Nat.pow_lt_pow_right (by decide) hn)
theorem wd_up (X : Int64) {n i : Nat} (hn : n < 6) (hi : i < 64) : lb_ ((X &&& hm_ n) ||| ((X &&& (hm_ n ^^^ (-1))) <<< ((nI (2 ^ n)).toInt64 &&& 63))) i = (i.testBit n && (lb_ X i || lb_ X (i ^^^ 2 ^ n))) := by
  have h1 : X &&& hm_ n = hv_ (fun _ => X) 0 n := by unfold hv_; rw [if_pos hn]
  have h2 : (X &&& (hm_ n ^^^ (-1))) <<< ((nI (2 ^ n)).toInt64 &&& 63) = ra_ (fun _ => X) 0 n := by unfold ra_; rw [if_pos hn, wd_lk X hn]
  have h3 := fb_hv (f := fun _ => X) (p := i) (b := n) (by omega) (by omega)
  have h4 := fb_ra (f := fun _ => X) (p := i) (b := n) (by omega) (by omega)
  rw [fb_at0 _ hi, fb_w0, Nat.mod_eq_of_lt hi] at h3
  rw [fb_at0 _ hi, fb_w0, Nat.mod_eq_of_lt (x6_lt hi hn)] at h4
  rw [h1, h2, lb_or, h3, h4]
  cases i.testBit n <;> cases lb_ X i <;> cases lb_ X (i ^^^ 2 ^ n) <;> rfl
theorem wd_dn (X : Int64) {n i : Nat} (hn : n < 6) (hi : i < 64) : lb_ ((X &&& (hm_ n ^^^ (-1))) ||| su_l (X &&& hm_ n) (2 ^ n)) i = (!i.testBit n && (lb_ X i || lb_ X (i ^^^ 2 ^ n))) := by
  have h2 : su_l (X &&& hm_ n) (2 ^ n) = lo_ (fun _ => X) 0 n := by unfold lo_ hv_; rw [if_pos hn, if_pos hn]
  have h3 := fb_lk (f := fun _ => X) (p := i) (b := n) (by omega) (by omega)
  have h4 := fb_lo (f := fun _ => X) (p := i) (b := n) (by omega) (by omega)
  rw [fb_at0 _ hi, fb_w0, Nat.mod_eq_of_lt hi] at h3
  rw [fb_at0 _ hi, fb_w0, Nat.mod_eq_of_lt (x6_lt hi hn)] at h4
  rw [wd_lk X hn, h2, lb_or, h3, h4]
  cases i.testBit n <;> cases lb_ X i <;> cases lb_ X (i ^^^ 2 ^ n) <;> rfl
theorem jw_bit (x : Int64) (low : Nat) : ∀ n, n ≤ 6 → ∀ i, i < 64 → (lb_ (jw_ x low n) i = true ↔ ∃ j, j < 64 ∧ lb_ x j = true ∧ ∀ k, i.testBit k = (j.testBit k || (decide (k < n) && low.testBit k)))
  | 0, _, i, hi => by
    rw [jw_]
    constructor
    · intro h; exact ⟨i, hi, h, fun k => by rw [decide_eq_false (Nat.not_lt_zero _)]; simp⟩
    · rintro ⟨j, _, h, hk⟩
      have e : i = j := Nat.eq_of_testBit_eq (fun k => by rw [hk k, decide_eq_false (Nat.not_lt_zero _)]; simp)
      rw [e]; exact h
  | n + 1, hn, i, hi => by
    have ih := jw_bit x low n (by omega)
    rw [jw_]
    cases ht : low.testBit n
    · rw [if_neg (by decide), ih i hi]
      have e : ∀ k, (decide (k < n + 1) && low.testBit k) = (decide (k < n) && low.testBit k) := fun k => by
        by_cases hk : k = n
        · subst hk; rw [ht, Bool.and_false, Bool.and_false]
        · rw [decide_eq_decide.mpr (show k < n + 1 ↔ k < n by omega)]
      constructor
      · rintro ⟨j, h1, h2, h3⟩; exact ⟨j, h1, h2, fun k => by rw [e k]; exact h3 k⟩
      · rintro ⟨j, h1, h2, h3⟩; exact ⟨j, h1, h2, fun k => by rw [← e k]; exact h3 k⟩
    · rw [if_pos rfl, wd_up _ (by omega) hi, Bool.and_eq_true, Bool.or_eq_true, ih i hi, ih _ (x6_lt hi (by omega))]
      have e : ∀ k, k ≠ n → (decide (k < n + 1) && low.testBit k) = (decide (k < n) && low.testBit k) := fun k hk => by
        rw [decide_eq_decide.mpr (show k < n + 1 ↔ k < n by omega)]
      constructor
      · rintro ⟨hin, ⟨j, h1, h2, h3⟩ | ⟨j, h1, h2, h3⟩⟩
        · refine ⟨j, h1, h2, fun k => ?_⟩
          by_cases hk : k = n
          · subst hk; rw [hin, ht, decide_eq_true (Nat.lt_succ_self k)]; simp
          · rw [e k hk]; exact h3 k
        · refine ⟨j, h1, h2, fun k => ?_⟩
          by_cases hk : k = n
          · subst hk; rw [hin, ht, decide_eq_true (Nat.lt_succ_self k)]; simp
          · rw [e k hk, ← h3 k, tb_xn hk]
      · rintro ⟨j, h1, h2, h3⟩
        have hin : i.testBit n = true := by rw [h3 n, ht, decide_eq_true (Nat.lt_succ_self n)]; simp
        refine ⟨hin, ?_⟩
        cases hj : j.testBit n
        · refine Or.inr ⟨j, h1, h2, fun k => ?_⟩
          by_cases hk : k = n
          · subst hk; rw [tb_x, hin, hj, decide_eq_false (Nat.lt_irrefl k)]; rfl
          · rw [tb_xn hk, h3 k, e k hk]
        · refine Or.inl ⟨j, h1, h2, fun k => ?_⟩
          by_cases hk : k = n
          · subst hk; rw [hin, hj]; rfl
          · rw [h3 k, e k hk]
theorem nt_ {b : Bool} (h : (!b) = true) : b = false := by
  cases b
  · rfl
  · exact h.symm
theorem mw_bit (x : Int64) (low : Nat) : ∀ n, n ≤ 6 → ∀ i, i < 64 → (lb_ (mw_ x low n) i = true ↔ ∃ j, j < 64 ∧ lb_ x j = true ∧ ∀ k, i.testBit k = (j.testBit k && (!decide (k < n) || low.testBit k)))
  | 0, _, i, hi => by
    rw [mw_]
    constructor
    · intro h; exact ⟨i, hi, h, fun k => by rw [decide_eq_false (Nat.not_lt_zero _)]; simp⟩
    · rintro ⟨j, _, h, hk⟩
      have e : i = j := Nat.eq_of_testBit_eq (fun k => by rw [hk k, decide_eq_false (Nat.not_lt_zero _)]; simp)
      rw [e]; exact h
  | n + 1, hn, i, hi => by
    have ih := mw_bit x low n (by omega)
    rw [mw_]
    cases ht : low.testBit n
    · rw [if_neg (by decide), wd_dn _ (by omega) hi, Bool.and_eq_true, Bool.or_eq_true, ih i hi, ih _ (x6_lt hi (by omega))]
      have e : ∀ k, k ≠ n → (!decide (k < n + 1) || low.testBit k) = (!decide (k < n) || low.testBit k) := fun k hk => by
        rw [decide_eq_decide.mpr (show k < n + 1 ↔ k < n by omega)]
      constructor
      · rintro ⟨hin, ⟨j, h1, h2, h3⟩ | ⟨j, h1, h2, h3⟩⟩
        · have hin2 : i.testBit n = false := nt_ hin
          refine ⟨j, h1, h2, fun k => ?_⟩
          by_cases hk : k = n
          · subst hk; rw [hin2, ht, decide_eq_true (Nat.lt_succ_self k)]; simp
          · rw [e k hk]; exact h3 k
        · have hin2 : i.testBit n = false := nt_ hin
          refine ⟨j, h1, h2, fun k => ?_⟩
          by_cases hk : k = n
          · subst hk; rw [hin2, ht, decide_eq_true (Nat.lt_succ_self k)]; simp
          · rw [e k hk, ← h3 k, tb_xn hk]
      · rintro ⟨j, h1, h2, h3⟩
        have hin : i.testBit n = false := by rw [h3 n, ht, decide_eq_true (Nat.lt_succ_self n)]; simp
        refine ⟨by rw [hin]; rfl, ?_⟩
        cases hj : j.testBit n
        · refine Or.inl ⟨j, h1, h2, fun k => ?_⟩
          by_cases hk : k = n
          · subst hk; rw [hin, hj]; rfl
          · rw [h3 k, e k hk]
        · refine Or.inr ⟨j, h1, h2, fun k => ?_⟩
          by_cases hk : k = n
          · subst hk; rw [tb_x, hin, hj, decide_eq_false (Nat.lt_irrefl k)]; rfl
          · rw [tb_xn hk, h3 k, e k hk]
    · rw [if_pos rfl, ih i hi]
      have e : ∀ k, (!decide (k < n + 1) || low.testBit k) = (!decide (k < n) || low.testBit k) := fun k => by
        by_cases hk : k = n
        · subst hk; rw [ht, Bool.or_true, Bool.or_true]
        · rw [decide_eq_decide.mpr (show k < n + 1 ↔ k < n by omega)]
      constructor
      · rintro ⟨j, h1, h2, h3⟩; exact ⟨j, h1, h2, fun k => by rw [e k]; exact h3 k⟩
      · rintro ⟨j, h1, h2, h3⟩; exact ⟨j, h1, h2, fun k => by rw [← e k]; exact h3 k⟩
theorem t6_hi {x k : Nat} (hx : x < 64) (hk : ¬ k < 6) : x.testBit k = false := Nat.testBit_lt_two_pow (Nat.lt_of_lt_of_le hx (show 2 ^ 6 ≤ 2 ^ k from Nat.pow_le_pow_right (by decide) (by omega)))
theorem sw_bit (F : Nat → Int64) {low i : Nat} (jn : Bool) (k : Nat) (hl : low < 64) (hi : i < 64) : lb_ (sw_ F low jn k) i = true ↔ ∃ j, j < 64 ∧ lb_ (F k) j = true ∧ tj_ jn j low = i := by
  unfold sw_
  cases jn
  · rw [if_neg (by decide), mw_bit _ _ 6 (Nat.le_refl _) i hi]
    refine exists_congr (fun j => and_congr_right (fun hj => and_congr_right (fun _ => ?_)))
    constructor
    · intro h
      refine Nat.eq_of_testBit_eq (fun m => ?_)
      rw [tj_b, h m, if_neg (by decide)]
      by_cases hm : m < 6
      · rw [decide_eq_true hm]; rfl
      · rw [t6_hi hj hm]; rfl
    · intro h m
      rw [← h, tj_b, if_neg (by decide)]
      by_cases hm : m < 6
      · rw [decide_eq_true hm]; rfl
      · rw [t6_hi hj hm]; rfl
  · rw [if_pos rfl, jw_bit _ _ 6 (Nat.le_refl _) i hi]
    refine exists_congr (fun j => and_congr_right (fun hj => and_congr_right (fun _ => ?_)))
    constructor
    · intro h
      refine Nat.eq_of_testBit_eq (fun m => ?_)
      rw [tj_b, h m, if_pos rfl]
      by_cases hm : m < 6
      · rw [decide_eq_true hm]; rfl
      · rw [t6_hi hl hm]; simp
    · intro h m
      rw [← h, tj_b, if_pos rfl]
      by_cases hm : m < 6
      · rw [decide_eq_true hm]; rfl
      · rw [t6_hi hl hm]; simp
theorem tj_div (jn : Bool) (x y : Nat) : tj_ jn x y / 64 = ti_ jn (x / 64) (y / 64) := by
  unfold tj_ ti_
  cases jn
  · rw [if_neg (by decide), if_neg (by decide)]
    have h := Nat.shiftRight_and_distrib (a := x) (b := y) (i := 6)
    rw [Nat.shiftRight_eq_div_pow, Nat.shiftRight_eq_div_pow, Nat.shiftRight_eq_div_pow] at h
    exact h
  · rw [if_pos rfl, if_pos rfl]
    have h := Nat.shiftRight_or_distrib (a := x) (b := y) (i := 6)
    rw [Nat.shiftRight_eq_div_pow, Nat.shiftRight_eq_div_pow, Nat.shiftRight_eq_div_pow] at h
    exact h
theorem tj_mod (jn : Bool) (x y : Nat) : tj_ jn x y % 64 = tj_ jn (x % 64) (y % 64) := by
  unfold tj_
  cases jn
  · rw [if_neg (by decide), if_neg (by decide)]; exact Nat.and_mod_two_pow (a := x) (b := y) (n := 6)
  · rw [if_pos rfl, if_pos rfl]; exact Nat.or_mod_two_pow (a := x) (b := y) (n := 6)
theorem fb_pair {O S F G : Nat → Int64} {jn : Bool} {p : Nat} (hp : p < 4096) : fb_ (pr_ (fl_ O 64 0) S F G jn 64).1 p = true ↔ ∃ x y, x < 4096 ∧ y < 4096 ∧ fb_ F x = true ∧ fb_ G y = true ∧ tj_ jn x y = p := by
  have hi : p % 64 < 64 := Nat.mod_lt _ (by decide)
  have h0 : lb_ (fl_ O 64 0 (p / 64)) (p % 64) = false := fb_fl0 (K := O) hp
  show lb_ ((pr_ (fl_ O 64 0) S F G jn 64).1 (p / 64)) (p % 64) = true ↔ _
  rw [pr_at _ _ _ _ _ _ _ 64 (Nat.le_refl _), h0, Bool.false_or]
  constructor
  · intro h
    obtain ⟨low, hl, h⟩ := ex_iff.mp h
    obtain ⟨hh, hhl, h⟩ := ex_iff.mp h
    rw [Bool.and_eq_true] at h
    obtain ⟨hg, h⟩ := h
    obtain ⟨k, hk, h⟩ := ex_iff.mp h
    rw [Bool.and_eq_true, decide_eq_true_eq] at h
    obtain ⟨hw, h⟩ := h
    obtain ⟨j, hj, hf, ht⟩ := (sw_bit F jn k hl hi).mp h
    refine ⟨64 * k + j, 64 * hh + low, by omega, by omega, ?_, hg, ?_⟩
    · unfold fb_
      rw [show (64 * k + j) / 64 = k by omega, show (64 * k + j) % 64 = j by omega]
      exact hf
    · have e1 := tj_div jn (64 * k + j) (64 * hh + low)
      have e2 := tj_mod jn (64 * k + j) (64 * hh + low)
      rw [show (64 * k + j) / 64 = k by omega, show (64 * hh + low) / 64 = hh by omega, hw] at e1
      rw [show (64 * k + j) % 64 = j by omega, show (64 * hh + low) % 64 = low by omega, ht] at e2
      omega
  · rintro ⟨x, y, hx, hy, hf, hg, ht⟩
    have e1 := tj_div jn x y
    have e2 := tj_mod jn x y
    rw [ht] at e1 e2
    have hyl : y % 64 < 64 := Nat.mod_lt _ (by decide)
    refine ex_in (k := y % 64) ?_ hyl
    refine ex_in (k := y / 64) ?_ (show y / 64 < 64 by omega)
    show (fb_ G (64 * (y / 64) + y % 64) && _) = true
    rw [show 64 * (y / 64) + y % 64 = y by omega, hg, Bool.true_and]
    refine ex_in (k := x / 64) ?_ (show x / 64 < 64 by omega)
    show (decide (ti_ jn (x / 64) (y / 64) = p / 64) && lb_ (sw_ F (y % 64) jn (x / 64)) (p % 64)) = true
    rw [decide_eq_true e1.symm, Bool.true_and]
    exact (sw_bit F jn (x / 64) hyl hi).mpr ⟨x % 64, Nat.mod_lt _ (by decide), hf, e2.symm⟩
theorem tj_comm (jn : Bool) (x y : Nat) : tj_ jn x y = tj_ jn y x := by
  unfold tj_
  cases jn
  · rw [if_neg (by decide), if_neg (by decide), Nat.and_comm]
  · rw [if_pos rfl, if_pos rfl, Nat.or_comm]
theorem fb_pairJ {J : Nat → Nat → Int64} {o a b : Nat} {jn : Bool} {p : Nat} (ho : ¬ o + 1 = 7) (hp : p < 4096) : fb_ (pairJ_ J o a b jn (o + 1)) p = true ↔ ∃ x y, x < 4096 ∧ y < 4096 ∧ fb_ (J (a + 1)) x = true ∧ fb_ (J (b + 1)) y = true ∧ tj_ jn x y = p := by
  have e : pairJ_ J o a b jn (o + 1) = (pr_ (fl_ (J (o + 1)) 64 0) (J 7) (many_ (J (a + 1)) (J (b + 1))) (few_ (J (a + 1)) (J (b + 1))) jn 64).1 := by
    show pj_ J o _ _ jn 64 (o + 1) = _
    unfold pj_
    rw [va_up_ne _ _ ho, va_up_self]
  rw [e, fb_pair hp]
  unfold many_ few_
  by_cases h : tw64_ (J (a + 1)) 64 < tw64_ (J (b + 1)) 64
  · rw [if_pos h, if_pos h]
    constructor
    · rintro ⟨x, y, hx, hy, hf, hg, ht⟩; exact ⟨y, x, hy, hx, hg, hf, by rw [tj_comm]; exact ht⟩
    · rintro ⟨x, y, hx, hy, hf, hg, ht⟩; exact ⟨y, x, hy, hx, hg, hf, by rw [tj_comm]; exact ht⟩
  · rw [if_neg h, if_neg h]
theorem fo_7 {o : Nat} (h : fo_ o = true) : ¬ o + 1 = 7 := by
  intro h9
  have : o = 6 := by omega
  rw [this] at h
  exact absurd h (by decide)
theorem bool_iff {a b : Bool} (h : a = true ↔ b = true) : a = b := by
  cases a <;> cases b
  · rfl
  · exact (h.mpr rfl)
  · exact (h.mp rfl).symm
  · rfl
section RLP
variable {I : Nat → Nat → Int32} {J J' : Nat → Nat → Int64} {sh : Nat → Nat} {fr : Nat} {en : Int32} {S K : Nat → Int64} {O1 O2 En Ot Wt : Nat → Int32}
theorem pairJ_keep {J : Nat → Nat → Int64} {o a b : Nat} {jn : Bool} {k : Nat} (h7 : k ≠ 7) (ho : k ≠ o + 1) : pairJ_ J o a b jn k = J k := pj_at h7 ho
theorem rl_c34 (h : rl_ I J sh fr en S En Ot Wt) {i f g : Nat} (hi : i < 10) (hf : f < 10) (hg : g < 10) (jn ov : Bool) (hjo : jn = !ov) : rl_ I (pairJ_ J fr (sh f) (sh g) jn) (va_up sh i fr) (sh i) en (sl_ S i (mkl_ (fl_ K 64 0) (fun p => decide (0 < (pz_ ov (fb_ (rw_ S f)) (fb_ (rw_ S g)) O1 O2) p)) (fun p => p) 4096) 64) En Ot Wt ∧ tw64_ (pairJ_ J fr (sh f) (sh g) jn (fr + 1)) 64 = tw64_ (rw_ (sl_ S i (mkl_ (fl_ K 64 0) (fun p => decide (0 < (pz_ ov (fb_ (rw_ S f)) (fb_ (rw_ S g)) O1 O2) p)) (fun p => p) 4096) 64) i) 64 := by
  refine rl_lay h hi (fun p hp => ?_) (fun j hj => pairJ_keep (fo_7 (h.1.2.2.2 j hj).1) (fun h9 => (h.1.2.2.2 j hj).2.2.2 (by omega))) (pairJ_keep (by decide) (fo_8 h.1.1))
  rw [fb_make hp]
  refine bool_iff ?_
  rw [fb_pairJ (fo_7 h.1.1) hp, decide_eq_true_eq, pz_pos hp, hjo]
  constructor
  · rintro ⟨x, y, hx, hy, hfx, hgy, ht⟩; exact ⟨x, y, hx, hy, by rw [← h.2.2.1 f x hf hx]; exact hfx, by rw [← h.2.2.1 g y hg hy]; exact hgy, ht⟩
  · rintro ⟨x, y, hx, hy, hfx, hgy, ht⟩; exact ⟨x, y, hx, hy, by rw [h.2.2.1 f x hf hx]; exact hfx, by rw [h.2.2.1 g y hg hy]; exact hgy, ht⟩
end RLP
