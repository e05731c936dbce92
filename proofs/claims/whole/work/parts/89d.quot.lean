/-! Quotient and remainder: class beside reference. -/
theorem dj_iff {p q : Nat} : p &&& q = 0 ↔ ∀ k, p.testBit k = true → q.testBit k = false := by
  constructor
  · intro h k hk
    have h1 := congrArg (fun z => z.testBit k) h
    simp only [Nat.testBit_and, Nat.zero_testBit, hk, Bool.true_and] at h1
    exact h1
  · intro h
    apply Nat.eq_of_testBit_eq
    intro k
    rw [Nat.testBit_and, Nat.zero_testBit]
    cases hk : p.testBit k
    · rfl
    · rw [h k hk]; rfl
theorem ss_iff {p q : Nat} : p &&& q = p ↔ ∀ k, p.testBit k = true → q.testBit k = true := by
  constructor
  · intro h k hk
    have h1 := congrArg (fun z => z.testBit k) h
    simp only [Nat.testBit_and, hk, Bool.true_and] at h1
    exact h1
  · intro h
    apply Nat.eq_of_testBit_eq
    intro k
    rw [Nat.testBit_and]
    cases hk : p.testBit k
    · rfl
    · rw [h k hk]; rfl
theorem ld_bit (bits : Nat) : ∀ n, n ≤ 6 → ∀ i, i < 64 → (lb_ (ld_ bits n) i = true ↔ ∀ k, i.testBit k = true → k < n ∧ bits.testBit k = false)
  | 0, _, i, _ => by
    rw [ld_, lb_1, decide_eq_true_eq]
    constructor
    · intro h k hk; rw [h, Nat.zero_testBit] at hk; exact Bool.noConfusion hk
    · intro h
      apply Nat.eq_of_testBit_eq
      intro k
      rw [Nat.zero_testBit]
      cases hk : i.testBit k
      · rfl
      · exact absurd (h k hk).1 (Nat.not_lt_zero _)
  | n + 1, hn, i, hi => by
    have ih := ld_bit bits n (by omega)
    rw [ld_]
    cases ht : bits.testBit n
    · have h64 : 2 ^ n < 64 := Nat.pow_lt_pow_right (n := 6) (by decide) (by omega)
      rw [if_neg (by decide), lb_or, lb_shl _ h64 hi, Bool.or_eq_true, Bool.and_eq_true, decide_eq_true_eq, ih i hi, ih (i - 2 ^ n) (Nat.lt_of_le_of_lt (Nat.sub_le _ _) hi)]
      constructor
      · rintro (h | ⟨h1, h⟩)
        · intro k hk; exact ⟨by have := (h k hk).1; omega, (h k hk).2⟩
        · have hlt : i - 2 ^ n < 2 ^ n := Nat.lt_pow_two_of_testBit _ (fun k hk => by
            cases h9 : (i - 2 ^ n).testBit k
            · rfl
            · exact absurd (h k h9).1 (by omega))
          have e : i = 2 ^ n + (i - 2 ^ n) := by omega
          intro k hk
          by_cases hkn : k = n
          · subst hkn; exact ⟨by omega, ht⟩
          · by_cases hlk : k < n
            · have h2 := h k (by rw [e, Nat.testBit_two_pow_add_gt hlk] at hk; exact hk)
              exact ⟨by omega, h2.2⟩
            · have h3 : i < 2 ^ k := Nat.lt_of_lt_of_le (show i < 2 ^ (n + 1) by rw [Nat.pow_succ]; omega) (Nat.pow_le_pow_right (by decide) (by omega))
              rw [Nat.testBit_lt_two_pow h3] at hk
              exact Bool.noConfusion hk
      · intro h
        cases hin : i.testBit n
        · left
          intro k hk
          have h1 := h k hk
          refine ⟨?_, h1.2⟩
          by_cases hkn : k = n
          · subst hkn; rw [hin] at hk; exact Bool.noConfusion hk
          · omega
        · right
          have hge : 2 ^ n ≤ i := Nat.ge_two_pow_of_testBit hin
          have hlt : i < 2 ^ (n + 1) := Nat.lt_pow_two_of_testBit _ (fun k hk => by
            cases h9 : i.testBit k
            · rfl
            · exact absurd (h k h9).1 (by omega))
          rw [Nat.pow_succ] at hlt
          have e : i = 2 ^ n + (i - 2 ^ n) := by omega
          refine ⟨hge, fun k hk => ?_⟩
          have hkn : k < n := by
            apply Nat.lt_of_not_le
            intro h9
            have h3 : i - 2 ^ n < 2 ^ k := Nat.lt_of_lt_of_le (show i - 2 ^ n < 2 ^ n by omega) (Nat.pow_le_pow_right (by decide) h9)
            rw [Nat.testBit_lt_two_pow h3] at hk
            exact Bool.noConfusion hk
          exact ⟨hkn, (h k (by rw [e, Nat.testBit_two_pow_add_gt hkn]; exact hk)).2⟩
    · rw [if_pos rfl, ih i hi]
      constructor
      · intro h k hk; exact ⟨by have := (h k hk).1; omega, (h k hk).2⟩
      · intro h k hk
        have h1 := h k hk
        refine ⟨?_, h1.2⟩
        by_cases hkn : k = n
        · subst hkn; rw [ht] at h1; exact Bool.noConfusion h1.2
        · omega
theorem fb_fdj {bits p : Nat} (hp : p < 4096) : fb_ (fdj_ bits) p = decide (p &&& bits = 0) := by
  have hi : p % 64 < 64 := Nat.mod_lt _ (by decide)
  show lb_ (fdj_ bits (p / 64)) (p % 64) = _
  unfold fdj_
  have hlo : ∀ k, k < 6 → (p % 64).testBit k = p.testBit k := fun k hk => (tb_lo hk).symm
  have hhi : ∀ q k, (q / 64).testBit k = q.testBit (k + 6) := fun q k => by
    rw [tb_hi (p := q) (b := k + 6) (by omega), Nat.add_sub_cancel]
  by_cases h : p / 64 &&& bits / 64 = 0
  · rw [if_pos h]
    refine bool_iff ?_
    rw [ld_bit bits 6 (Nat.le_refl _) _ hi, decide_eq_true_eq, dj_iff]
    constructor
    · intro h1 k hk
      by_cases h6 : k < 6
      · exact (h1 k (by rw [hlo k h6]; exact hk)).2
      · have h2 := dj_iff.mp h (k - 6) (by rw [hhi, show k - 6 + 6 = k by omega]; exact hk)
        rw [hhi, show k - 6 + 6 = k by omega] at h2
        exact h2
    · intro h1 k hk
      have h6 : k < 6 := by
        apply Nat.lt_of_not_le
        intro h9
        rw [t6_hi hi (by omega)] at hk
        exact Bool.noConfusion hk
      exact ⟨h6, h1 k (by rw [← hlo k h6]; exact hk)⟩
  · rw [if_neg h, lb_0]
    refine (decide_eq_false (fun h9 => h (dj_iff.mpr (fun k hk => ?_)))).symm
    rw [hhi] at hk ⊢
    exact dj_iff.mp h9 _ hk
theorem ao_fin : ∀ a b : Fin 64, a.val &&& b.val = 0 → a.val + b.val = a.val ||| b.val := by decide +kernel
theorem fb_ku {O F : Nat → Int64} {n p : Nat} (hp : p < 4096) (hn : n < 4096) (hd : p &&& n = 0) : fb_ (ku_ O F n) p = (fb_ O p && fb_ F (p ||| n)) := by
  have hi : p % 64 < 64 := Nat.mod_lt _ (by decide)
  have hni : n % 64 < 64 := Nat.mod_lt _ (by decide)
  show lb_ (O (p / 64) &&& su_l (F (p / 64 ||| n / 64)) (n % 64)) (p % 64) = (lb_ (O (p / 64)) (p % 64) && lb_ (F ((p ||| n) / 64)) ((p ||| n) % 64))
  have e1 : (p ||| n) / 64 = p / 64 ||| n / 64 := tj_div true p n
  have e2 : (p ||| n) % 64 = p % 64 ||| n % 64 := tj_mod true p n
  have e3 : n % 64 + p % 64 = n % 64 ||| p % 64 := ao_fin ⟨n % 64, hni⟩ ⟨p % 64, hi⟩ (by
    show n % 64 &&& p % 64 = 0
    have h1 : (n &&& p) % 64 = n % 64 &&& p % 64 := tj_mod false n p
    rw [← h1, Nat.and_comm, hd])
  rw [lb_and, lb_shr _ hni, e1, e2, e3, Nat.or_comm (n % 64)]
theorem ub_al (f : Nat → Int64) : ∀ n, ub_ f n = al_ (fb_ f) n
  | 0 => rfl
  | n + 1 => by rw [ub_, al_, ub_al f n]
theorem al_cg {f g : Nat → Bool} : ∀ {n : Nat}, (∀ k, k < n → f k = g k) → al_ f n = al_ g n
  | 0, _ => rfl
  | n + 1, h => by rw [al_, al_, al_cg (fun k hk => h k (by omega)), h n (by omega)]
theorem al_has {g : Nat → Bool} {m k : Nat} (hg : g m = true) (hk : m.testBit k = true) : ∀ {n : Nat}, m < n → (al_ g n).testBit k = true
  | 0, h => absurd h (Nat.not_lt_zero _)
  | n + 1, h => by
    rw [al_]
    by_cases hmn : m = n
    · subst hmn; rw [if_pos hg, Nat.testBit_or, hk, Bool.or_true]
    · have ih := al_has hg hk (n := n) (by omega)
      split
      · rw [Nat.testBit_or, ih, Bool.true_or]
      · exact ih
theorem al_ss {g : Nat → Bool} {m : Nat} (hg : g m = true) (hm : m < 4096) : m &&& al_ g 4096 = m := ss_iff.mpr (fun _ hk => al_has hg hk hm)
theorem fb_dv {O F G : Nat → Int64} : ∀ n, n ≤ 4096 → ∀ p, p < 4096 → fb_ (dv_ O F G n) p = (decide (p &&& al_ (fb_ G) 4096 = 0) && fa_ (fun m => !fb_ G m || fb_ F (p ||| m)) n)
  | 0, _, p, hp => by rw [dv_, fb_wl hp, fb_fdj hp, ub_al, fa_, Bool.and_true]
  | n + 1, hn, p, hp => by
    have ih := fb_dv (O := O) (F := F) (G := G) n (by omega) p hp
    rw [dv_, fa_]
    cases hg : fb_ G n
    · rw [if_neg (by decide), ih]; simp
    · rw [if_pos rfl, fb_wl hp]
      by_cases hd : p &&& al_ (fb_ G) 4096 = 0
      · have hd2 : p &&& n = 0 := dj_iff.mpr (fun k hk => by
          cases h9 : n.testBit k
          · rfl
          · have h1 := dj_iff.mp hd k hk
            rw [al_has hg h9 (show n < 4096 by omega)] at h1
            exact h1)
        rw [fb_ku hp (by omega) hd2, ih, decide_eq_true hd]
        simp
      · have h1 : fb_ (ku_ (dv_ O F G n) F n) p = (fb_ (dv_ O F G n) p && lb_ (su_l (F (p / 64 ||| n / 64)) (n % 64)) (p % 64)) := lb_and _ _ _
        rw [h1, ih, decide_eq_false hd]
        rfl
theorem d2_and (x y : Nat) : (x &&& y) / 2 = x / 2 &&& y / 2 := by
  have h := Nat.shiftRight_and_distrib (a := x) (b := y) (i := 1)
  rw [Nat.shiftRight_eq_div_pow, Nat.shiftRight_eq_div_pow, Nat.shiftRight_eq_div_pow] at h
  exact h
theorem m2_and (x y : Nat) : (x &&& y) % 2 = x % 2 &&& y % 2 := Nat.and_mod_two_pow (a := x) (b := y) (n := 1)
theorem sub_next (n : Nat) : ∀ b c all : Nat, b ≤ n → b &&& all = b → c &&& all = c → c < b → c ≤ (b - 1) &&& all := by
  induction n with
  | zero => intro b c all h _ _ hc; omega
  | succ n ih =>
    intro b c all hn hb hc hlt
    have hb2 := d2_and b all
    have hc2 := d2_and c all
    rw [hb] at hb2
    rw [hc] at hc2
    have hx := d2_and (b - 1) all
    rcases Nat.mod_two_eq_zero_or_one b with h0 | h1
    · have e : (b - 1) / 2 = b / 2 - 1 := by omega
      have h3 := ih (b / 2) (c / 2) (all / 2) (by omega) hb2.symm hc2.symm (by omega)
      rw [e] at hx
      rw [← hx] at h3
      have h4 := m2_and (b - 1) all
      rw [show (b - 1) % 2 = 1 by omega] at h4
      have h5 := m2_and c all
      rw [hc] at h5
      have h6 : c % 2 ≤ all % 2 := by rw [h5]; exact Nat.and_le_right
      have h7 : 1 &&& all % 2 = all % 2 := by
        rcases Nat.mod_two_eq_zero_or_one all with h8 | h8 <;> rw [h8] <;> decide
      rw [h7] at h4
      omega
    · have e : (b - 1) / 2 = b / 2 := by omega
      rw [e, ← hb2] at hx
      omega
theorem sq_all {ok : Nat → Bool} {all : Nat} : ∀ n b, b < n → b &&& all = b → (sq_ ok all n b = true ↔ ∀ c, c &&& all = c → c ≤ b → ok c = true)
  | 0, b, h, _ => absurd h (Nat.not_lt_zero _)
  | n + 1, b, h, hb => by
    rw [sq_]
    cases hok : ok b
    · rw [if_neg (by decide)]
      constructor
      · intro h9; exact Bool.noConfusion h9
      · intro h9; rw [h9 b hb (Nat.le_refl _)] at hok; exact Bool.noConfusion hok
    · rw [if_pos rfl]
      by_cases h0 : b = 0
      · rw [if_pos h0]
        refine ⟨fun _ c _ hc => ?_, fun _ => rfl⟩
        have : c = b := by omega
        rw [this]; exact hok
      · rw [if_neg h0, sq_all n ((b - 1) &&& all) (by have := sm_lt (all := all) h0; omega) (by rw [Nat.and_assoc, Nat.and_self])]
        constructor
        · intro h1 c hc hcb
          by_cases hcb2 : c = b
          · rw [hcb2]; exact hok
          · exact h1 c hc (sub_next b b c all (Nat.le_refl _) hb hc (by omega))
        · intro h1 c hc hcb
          exact h1 c hc (by have := sm_lt (all := all) h0; omega)
theorem qo_fa {f g : Nat → Bool} {a : Nat} : qo_ f g (al_ g 4096) a = (decide (a &&& al_ g 4096 = 0) && fa_ (fun m => !g m || f (a ||| m)) 4096) := by
  have hal : al_ g 4096 < 4096 := al_lt g (Nat.le_refl _)
  unfold qo_
  by_cases h : a &&& al_ g 4096 = 0
  · rw [if_pos h, decide_eq_true h, Bool.true_and]
    refine bool_iff ?_
    rw [sq_all 4096 _ hal (Nat.and_self _), fa_all]
    constructor
    · intro h1 m hm
      cases hg : g m
      · rfl
      · have hs := al_ss hg hm
        have h2 := h1 m hs (by rw [← hs]; exact Nat.and_le_right)
        rw [hg] at h2
        exact h2
    · intro h1 c _ hc
      exact h1 c (by omega)
  · rw [if_neg h, decide_eq_false h]; rfl
theorem sr_all {g : Nat → Bool} {a all p : Nat} : ∀ n b (K : Nat → Int64), b < n → b &&& all = b → (fb_ (sr_ g a all n b K) p = true ↔ fb_ K p = true ∧ ¬ ∃ c, c &&& all = c ∧ c ≤ b ∧ g c = true ∧ a ||| c = p)
  | 0, b, _, h, _ => absurd h (Nat.not_lt_zero _)
  | n + 1, b, K, h, hb => by
    have hK : fb_ (if g b then un_ K (a ||| b) else K) p = true ↔ fb_ K p = true ∧ ¬ (g b = true ∧ a ||| b = p) := by
      cases hg : g b
      · rw [if_neg (by decide)]
        exact ⟨fun h1 => ⟨h1, fun h2 => Bool.noConfusion h2.1⟩, fun h1 => h1.1⟩
      · rw [if_pos rfl, fb_un, Bool.and_eq_true]
        constructor
        · rintro ⟨h1, h2⟩
          refine ⟨h2, fun h3 => ?_⟩
          rw [decide_eq_true h3.2.symm] at h1
          exact Bool.noConfusion h1
        · rintro ⟨h1, h2⟩
          exact ⟨by rw [decide_eq_false (fun h3 => h2 ⟨rfl, h3.symm⟩)]; rfl, h1⟩
    rw [sr_]
    by_cases h0 : b = 0
    · rw [if_pos h0, hK]
      refine and_congr_right (fun _ => not_congr ?_)
      constructor
      · rintro ⟨h1, h2⟩; exact ⟨b, hb, Nat.le_refl _, h1, h2⟩
      · rintro ⟨c, _, hc, h1, h2⟩
        have : c = b := by omega
        rw [this] at h1 h2
        exact ⟨h1, h2⟩
    · rw [if_neg h0, sr_all n ((b - 1) &&& all) _ (by have := sm_lt (all := all) h0; omega) (by rw [Nat.and_assoc, Nat.and_self]), hK, and_assoc]
      refine and_congr_right (fun _ => ?_)
      constructor
      · rintro ⟨h1, h2⟩ ⟨c, hc, hcb, h3, h4⟩
        by_cases hcb2 : c = b
        · rw [hcb2] at h3 h4; exact h1 ⟨h3, h4⟩
        · exact h2 ⟨c, hc, sub_next b b c all (Nat.le_refl _) hb hc (by omega), h3, h4⟩
      · intro h1
        refine ⟨fun h2 => h1 ⟨b, hb, Nat.le_refl _, h2.1, h2.2⟩, ?_⟩
        rintro ⟨c, hc, hcb, h3, h4⟩
        exact h1 ⟨c, hc, by have := sm_lt (all := all) h0; omega, h3, h4⟩
theorem ro_all {q g : Nat → Bool} {all p : Nat} (hal : all < 4096) (K : Nat → Int64) : ∀ n, fb_ (ro_ q g all K n) p = true ↔ fb_ K p = true ∧ ¬ ∃ a c, a < n ∧ q a = true ∧ c &&& all = c ∧ c ≤ all ∧ g c = true ∧ a ||| c = p
  | 0 => by
    rw [ro_]
    exact ⟨fun h => ⟨h, fun ⟨a, _, ha, _⟩ => absurd ha (Nat.not_lt_zero _)⟩, fun h => h.1⟩
  | n + 1 => by
    have ih := ro_all (q := q) (g := g) (p := p) hal K n
    rw [ro_]
    cases hq : q n
    · rw [if_neg (by decide), ih]
      refine and_congr_right (fun _ => not_congr ?_)
      constructor
      · rintro ⟨a, c, ha, h1⟩; exact ⟨a, c, by omega, h1⟩
      · rintro ⟨a, c, ha, h1, h2⟩
        refine ⟨a, c, ?_, h1, h2⟩
        by_cases han : a = n
        · rw [han, hq] at h1; exact Bool.noConfusion h1
        · omega
    · rw [if_pos rfl, sr_all 4096 _ _ hal (Nat.and_self _), ih, and_assoc]
      refine and_congr_right (fun _ => ?_)
      constructor
      · rintro ⟨h1, h2⟩ ⟨a, c, ha, h3, h4⟩
        by_cases han : a = n
        · rw [han] at h4; exact h2 ⟨c, h4⟩
        · exact h1 ⟨a, c, by omega, h3, h4⟩
      · intro h1
        refine ⟨?_, ?_⟩
        · rintro ⟨a, c, ha, h2⟩; exact h1 ⟨a, c, by omega, h2⟩
        · rintro ⟨c, h2⟩; exact h1 ⟨n, c, by omega, hq, h2⟩
section RLQ
variable {I : Nat → Nat → Int32} {J J' : Nat → Nat → Int64} {sh : Nat → Nat} {fr : Nat} {en : Int32} {S K : Nat → Int64} {En Ot Wt : Nat → Int32}
theorem fb_dvq (h : rl_ I J sh fr en S En Ot Wt) {f g : Nat} (hf : f < 10) (hg : g < 10) {O : Nat → Int64} {p : Nat} (hp : p < 4096) : fb_ (dv_ O (J (sh f + 1)) (J (sh g + 1)) 4096) p = qo_ (fb_ (rw_ S f)) (fb_ (rw_ S g)) (al_ (fb_ (rw_ S g)) 4096) p := by
  have ha : al_ (fb_ (J (sh g + 1))) 4096 = al_ (fb_ (rw_ S g)) 4096 := al_cg (fun k hk => h.2.2.1 g k hg hk)
  have hq : fa_ (fun m => !fb_ (J (sh g + 1)) m || fb_ (J (sh f + 1)) (p ||| m)) 4096 = fa_ (fun m => !fb_ (rw_ S g) m || fb_ (rw_ S f) (p ||| m)) 4096 := by
    refine fa_cg (fun k hk => ?_)
    show (!fb_ (J (sh g + 1)) k || fb_ (J (sh f + 1)) (p ||| k)) = (!fb_ (rw_ S g) k || fb_ (rw_ S f) (p ||| k))
    rw [h.2.2.1 g k hg hk, h.2.2.1 f _ hf (or12 hp hk)]
  rw [fb_dv 4096 (Nat.le_refl _) p hp, qo_fa, ha, hq]
theorem rl_c7 (h : rl_ I J sh fr en S En Ot Wt) {i f g : Nat} (hi : i < 10) (hf : f < 10) (hg : g < 10) : rl_ I (divJ_ J fr (sh f) (sh g)) (va_up sh i fr) (sh i) en (sl_ S i (mkl_ (fl_ K 64 0) (qo_ (fb_ (rw_ S f)) (fb_ (rw_ S g)) (al_ (fb_ (rw_ S g)) 4096)) (fun p => p) 4096) 64) En Ot Wt ∧ tw64_ (divJ_ J fr (sh f) (sh g) (fr + 1)) 64 = tw64_ (rw_ (sl_ S i (mkl_ (fl_ K 64 0) (qo_ (fb_ (rw_ S f)) (fb_ (rw_ S g)) (al_ (fb_ (rw_ S g)) 4096)) (fun p => p) 4096) 64) i) 64 :=
  rl_up h hi (fun p hp => by rw [fb_make hp]; exact fb_dvq h hf hg hp)
theorem rl_c8 {Qt : Nat → Int64} (h : rl_ I J sh fr en S En Ot Wt) {i f g : Nat} (hi : i < 10) (hf : f < 10) (hg : g < 10) :
    let R := ro_ (fb_ (fw_ (mkl_ (fl_ K 64 0) (qo_ (fb_ (rw_ S f)) (fb_ (rw_ S g)) (al_ (fb_ (rw_ S g)) 4096)) (fun p => p) 4096) Qt 64)) (fb_ (rw_ S g)) (al_ (fb_ (rw_ S g)) 4096) (fw_ (rw_ S f) (mkl_ (fl_ K 64 0) (qo_ (fb_ (rw_ S f)) (fb_ (rw_ S g)) (al_ (fb_ (rw_ S g)) 4096)) (fun p => p) 4096) 64) 4096
    rl_ I (subJ_ (pairJ_ (divJ_ J 5 (sh f) (sh g)) 3 5 (sh g) true) fr (sh f) 3) (va_up sh i fr) (sh i) en (sl_ S i R 64) En Ot Wt ∧ tw64_ (subJ_ (pairJ_ (divJ_ J 5 (sh f) (sh g)) 3 5 (sh g) true) fr (sh f) 3 (fr + 1)) 64 = tw64_ (rw_ (sl_ S i R 64) i) 64 := by
  intro R
  have hk : ∀ j, j < 10 → pairJ_ (divJ_ J 5 (sh f) (sh g)) 3 5 (sh g) true (sh j + 1) = J (sh j + 1) := fun j hj => by
    rw [pairJ_keep (fo_7 (h.1.2.2.2 j hj).1) (fun h9 => (h.1.2.2.2 j hj).2.1 (by omega)), divJ_ne (fun h9 => (h.1.2.2.2 j hj).2.2.1 (by omega))]
  have hal : al_ (fb_ (rw_ S g)) 4096 < 4096 := al_lt _ (Nat.le_refl _)
  refine rl_lay h hi (fun p hp => ?_) (fun j hj => ?_) ?_
  · rw [subJ_at hp, hk f hf, h.2.2.1 f p hf hp]
    refine bool_iff ?_
    rw [Bool.and_eq_true, show (fb_ R p = true ↔ _) from ro_all hal _ 4096, fb_fw hp]
    refine and_congr_right (fun _ => ?_)
    have hpair := fb_pairJ (J := divJ_ J 5 (sh f) (sh g)) (o := 3) (a := 5) (b := sh g) (jn := true) (p := p) (by decide) hp
    have hd : ∀ x, x < 4096 → fb_ (divJ_ J 5 (sh f) (sh g) (5 + 1)) x = qo_ (fb_ (rw_ S f)) (fb_ (rw_ S g)) (al_ (fb_ (rw_ S g)) 4096) x := fun x hx => by
      rw [divJ_at]; exact fb_dvq h hf hg hx
    have hgk : divJ_ J 5 (sh f) (sh g) (sh g + 1) = J (sh g + 1) := va_up_ne _ _ (fun h9 => (h.1.2.2.2 g hg).2.2.1 (by omega))
    have hex : fb_ (pairJ_ (divJ_ J 5 (sh f) (sh g)) 3 5 (sh g) true (3 + 1)) p = true ↔ ∃ a c, a < 4096 ∧ fb_ (fw_ (mkl_ (fl_ K 64 0) (qo_ (fb_ (rw_ S f)) (fb_ (rw_ S g)) (al_ (fb_ (rw_ S g)) 4096)) (fun p => p) 4096) Qt 64) a = true ∧ c &&& al_ (fb_ (rw_ S g)) 4096 = c ∧ c ≤ al_ (fb_ (rw_ S g)) 4096 ∧ fb_ (rw_ S g) c = true ∧ a ||| c = p := by
      rw [hpair]
      constructor
      · rintro ⟨x, y, hx, hy, hfx, hgy, ht⟩
        rw [hd x hx] at hfx
        rw [hgk, h.2.2.1 g y hg hy] at hgy
        have hs := al_ss hgy hy
        exact ⟨x, y, hx, by rw [fb_fw hx, fb_make hx]; exact hfx, hs, by rw [← hs]; exact Nat.and_le_right, hgy, ht⟩
      · rintro ⟨x, y, hx, hfx, _, hle, hgy, ht⟩
        have hy : y < 4096 := by omega
        rw [fb_fw hx, fb_make hx] at hfx
        exact ⟨x, y, hx, hy, by rw [hd x hx]; exact hfx, by rw [hgk, h.2.2.1 g y hg hy]; exact hgy, ht⟩
    rw [← hex]
    cases fb_ (pairJ_ (divJ_ J 5 (sh f) (sh g)) 3 5 (sh g) true (3 + 1)) p
    · exact ⟨fun _ h9 => Bool.noConfusion h9, fun _ => rfl⟩
    · exact ⟨fun h9 => Bool.noConfusion h9, fun h9 => absurd rfl h9⟩
  · rw [subJ_ne (fun h9 => (h.1.2.2.2 j hj).2.2.2 (by omega)), hk j hj]
  · rw [subJ_ne (fo_8 h.1.1), pairJ_keep (by decide) (by decide), divJ_ne (by decide)]
end RLQ
