/-! The reference's pairs: the parts of the product of two sums are numbers of pairs. -/
theorem su_add (f g : Nat → Nat) : ∀ n, su_ (fun x => f x + g x) n = su_ f n + su_ g n
  | 0 => rfl
  | n + 1 => by rw [su_, su_, su_, su_add f g n]; omega
theorem su_le {f : Nat → Nat} {M : Nat} (h : ∀ x, f x ≤ M) : ∀ n, su_ f n ≤ n * M
  | 0 => by rw [su_]; exact Nat.zero_le _
  | n + 1 => by
    have h1 := su_le h n
    have h2 := h n
    rw [su_, Nat.add_mul, Nat.one_mul]
    omega
theorem su_mulr (f : Nat → Nat) (c : Nat) : ∀ n, su_ (fun x => f x * c) n = su_ f n * c
  | 0 => by rw [su_, su_, Nat.zero_mul]
  | n + 1 => by rw [su_, su_, su_mulr f c n, Nat.add_mul]
theorem su_mull (f : Nat → Nat) (c : Nat) : ∀ n, su_ (fun x => c * f x) n = c * su_ f n
  | 0 => by rw [su_, su_, Nat.mul_zero]
  | n + 1 => by rw [su_, su_, su_mull f c n, Nat.mul_add]
theorem su_pos {f : Nat → Nat} {k : Nat} (h : 0 < f k) : ∀ {n : Nat}, k < n → 0 < su_ f n
  | 0, hk => absurd hk (Nat.not_lt_zero _)
  | n + 1, hk => by
    rw [su_]
    by_cases hkn : k = n
    · subst hkn; omega
    · have := su_pos h (n := n) (by omega); omega
theorem su_ex {f : Nat → Nat} : ∀ {n : Nat}, 0 < su_ f n → ∃ k, k < n ∧ 0 < f k
  | 0, h => absurd h (Nat.lt_irrefl _)
  | n + 1, h => by
    rw [su_] at h
    by_cases h1 : 0 < f n
    · exact ⟨n, by omega, h1⟩
    · obtain ⟨k, hk, h2⟩ := su_ex (f := f) (n := n) (by omega)
      exact ⟨k, by omega, h2⟩
theorem su_one {f : Nat → Nat} {k : Nat} (hf : ∀ x, x ≠ k → f x = 0) : ∀ n, su_ f n = if k < n then f k else 0
  | 0 => by rw [su_, if_neg (Nat.not_lt_zero _)]
  | n + 1 => by
    rw [su_, su_one hf n]
    by_cases h1 : k < n
    · rw [if_pos h1, if_pos (by omega), hf n (by omega), Nat.add_zero]
    · rw [if_neg h1]
      by_cases h2 : k = n
      · subst h2; rw [if_pos (by omega), Nat.zero_add]
      · rw [if_neg (by omega), hf n (fun h9 => h2 h9.symm)]
/-- one bit below (above) another, or the same -/
def lq_ (ov t : Bool) (z p : Bool) : Bool := if t then (if ov then (!p || z) else (!z || p)) else z == p
def iz_ (ov : Bool) (t : Nat → Bool) (z p : Nat) : Nat := if fa_ (fun i => lq_ ov (t i) (z.testBit i) (p.testBit i)) 12 then 1 else 0
theorem fa_one (c : Nat → Bool) {b : Nat} : ∀ {n : Nat}, b < n → fa_ c n = (fa_ (fun i => decide (i = b) || c i) n && c b)
  | 0, h => absurd h (Nat.not_lt_zero _)
  | n + 1, h => by
    rw [fa_, fa_]
    by_cases hb : b = n
    · subst hb
      have h1 : fa_ (fun i => decide (i = b) || c i) b = fa_ c b := fa_cg (fun k hk => by
        show (decide (k = b) || c k) = c k
        rw [decide_eq_false (by omega)]; rfl)
      rw [h1, decide_eq_true rfl]
      simp
    · rw [fa_one c (b := b) (n := n) (by omega), decide_eq_false (fun h9 => hb h9.symm)]
      cases fa_ (fun i => decide (i = b) || c i) n <;> cases c b <;> cases c n <;> rfl
theorem iz_split {ov : Bool} {t : Nat → Bool} {z p b : Nat} (hb : b < 12) : iz_ ov t z p = if (fa_ (fun i => decide (i = b) || lq_ ov (t i) (z.testBit i) (p.testBit i)) 12 && lq_ ov (t b) (z.testBit b) (p.testBit b)) then 1 else 0 := by
  unfold iz_
  rw [fa_one (fun i => lq_ ov (t i) (z.testBit i) (p.testBit i)) hb]
/-- one element's relation made an equality -/
theorem iz_step {ov : Bool} {t t' : Nat → Bool} {z p b : Nat} (hb : b < 12) (ht : t b = true) (ht' : t' b = false) (hn : ∀ i, i ≠ b → t' i = t i) : iz_ ov t z p = iz_ ov t' z p + (if p.testBit b = ov then 0 else iz_ ov t' z (p ^^^ 2 ^ b)) ∧ (¬ p.testBit b = ov → iz_ ov t z (p ^^^ 2 ^ b) = iz_ ov t' z (p ^^^ 2 ^ b)) := by
  have e1 : fa_ (fun i => decide (i = b) || lq_ ov (t' i) (z.testBit i) (p.testBit i)) 12 = fa_ (fun i => decide (i = b) || lq_ ov (t i) (z.testBit i) (p.testBit i)) 12 := fa_cg (fun k _ => by
    by_cases hk : k = b
    · show (decide (k = b) || _) = (decide (k = b) || _)
      rw [decide_eq_true hk]; rfl
    · show (decide (k = b) || _) = (decide (k = b) || _)
      rw [hn k hk])
  have e2 : fa_ (fun i => decide (i = b) || lq_ ov (t' i) (z.testBit i) ((p ^^^ 2 ^ b).testBit i)) 12 = fa_ (fun i => decide (i = b) || lq_ ov (t i) (z.testBit i) (p.testBit i)) 12 := fa_cg (fun k _ => by
    by_cases hk : k = b
    · show (decide (k = b) || _) = (decide (k = b) || _)
      rw [decide_eq_true hk]; rfl
    · show (decide (k = b) || _) = (decide (k = b) || _)
      rw [hn k hk, tb_xn hk])
  have e3 : fa_ (fun i => decide (i = b) || lq_ ov (t i) (z.testBit i) ((p ^^^ 2 ^ b).testBit i)) 12 = fa_ (fun i => decide (i = b) || lq_ ov (t i) (z.testBit i) (p.testBit i)) 12 := fa_cg (fun k _ => by
    by_cases hk : k = b
    · show (decide (k = b) || _) = (decide (k = b) || _)
      rw [decide_eq_true hk]; rfl
    · show (decide (k = b) || _) = (decide (k = b) || _)
      rw [tb_xn hk])
  rw [iz_split (t := t) (p := p) hb, iz_split (t := t') (p := p) hb, iz_split (t := t') (p := p ^^^ 2 ^ b) hb, iz_split (t := t) (p := p ^^^ 2 ^ b) hb, e1, e2, e3, ht, ht', tb_x]
  unfold lq_
  cases fa_ (fun i => decide (i = b) || if t i = true then if ov = true then !p.testBit i || z.testBit i else !z.testBit i || p.testBit i else z.testBit i == p.testBit i) 12 <;> cases ov <;> cases p.testBit b <;> cases z.testBit b <;> decide
theorem iz_eq {ov : Bool} {z p : Nat} (hz : z < 4096) (hp : p < 4096) : iz_ ov (fun _ => false) z p = if z = p then 1 else 0 := by
  unfold iz_
  by_cases h : z = p
  · subst h
    rw [if_pos rfl, if_pos (fa_all.mpr (fun k _ => by show (z.testBit k == z.testBit k) = true; simp))]
  · rw [if_neg h, if_neg (fun h9 => h (Nat.eq_of_testBit_eq (fun i => ?_)))]
    by_cases hi : i < 12
    · have h1 : (z.testBit i == p.testBit i) = true := fa_all.mp h9 i hi
      exact eq_of_beq h1
    · have hle : 2 ^ 12 ≤ 2 ^ i := Nat.pow_le_pow_right (by decide) (by omega)
      rw [Nat.testBit_lt_two_pow (Nat.lt_of_lt_of_le hz hle), Nat.testBit_lt_two_pow (Nat.lt_of_lt_of_le hp hle)]
def tj_ (jn : Bool) (x y : Nat) : Nat := if jn then x ||| y else x &&& y
theorem tj_lt {jn : Bool} {x y : Nat} (hx : x < 4096) (hy : y < 4096) : tj_ jn x y < 4096 := by
  unfold tj_
  split
  · exact or12 hx hy
  · exact Nat.lt_of_le_of_lt Nat.and_le_left hx
theorem tj_b (jn : Bool) (x y i : Nat) : (tj_ jn x y).testBit i = if jn then (x.testBit i || y.testBit i) else (x.testBit i && y.testBit i) := by
  unfold tj_
  cases jn
  · rw [if_neg (by decide), if_neg (by decide), Nat.testBit_and]
  · rw [if_pos rfl, if_pos rfl, Nat.testBit_or]
theorem iz_mul {ov : Bool} {x y p : Nat} : iz_ ov (fun _ => true) (tj_ (!ov) x y) p = iz_ ov (fun _ => true) x p * iz_ ov (fun _ => true) y p := by
  have hl : ∀ i, lq_ ov true ((tj_ (!ov) x y).testBit i) (p.testBit i) = (lq_ ov true (x.testBit i) (p.testBit i) && lq_ ov true (y.testBit i) (p.testBit i)) := fun i => by
    rw [tj_b]
    unfold lq_
    cases ov <;> cases x.testBit i <;> cases y.testBit i <;> cases p.testBit i <;> rfl
  have hf : ∀ n, fa_ (fun i => lq_ ov true ((tj_ (!ov) x y).testBit i) (p.testBit i)) n = (fa_ (fun i => lq_ ov true (x.testBit i) (p.testBit i)) n && fa_ (fun i => lq_ ov true (y.testBit i) (p.testBit i)) n) := fun n => by
    induction n with
    | zero => rfl
    | succ n ih =>
      rw [fa_, fa_, fa_, ih, hl]
      cases fa_ (fun i => lq_ ov true (x.testBit i) (p.testBit i)) n <;> cases fa_ (fun i => lq_ ov true (y.testBit i) (p.testBit i)) n <;> cases lq_ ov true (x.testBit n) (p.testBit n) <;> cases lq_ ov true (y.testBit n) (p.testBit n) <;> rfl
  unfold iz_
  rw [hf 12]
  cases fa_ (fun i => lq_ ov true (x.testBit i) (p.testBit i)) 12 <;> cases fa_ (fun i => lq_ ov true (y.testBit i) (p.testBit i)) 12 <;> rfl
theorem iz_le {ov : Bool} {t : Nat → Bool} {z p : Nat} : iz_ ov t z p ≤ 1 := by unfold iz_; split <;> decide
/-- how many sets of f stand so to p -/
def zq_ (f : Nat → Bool) (ov : Bool) (t : Nat → Bool) (p : Nat) : Nat := su_ (fun x => if f x then iz_ ov t x p else 0) 4096
theorem zq_step {f : Nat → Bool} {ov : Bool} {t t' : Nat → Bool} {p b : Nat} (hb : b < 12) (ht : t b = true) (ht' : t' b = false) (hn : ∀ i, i ≠ b → t' i = t i) : zq_ f ov t p = zq_ f ov t' p + (if p.testBit b = ov then 0 else zq_ f ov t' (p ^^^ 2 ^ b)) := by
  unfold zq_
  have h := fun x => (iz_step (ov := ov) (z := x) (p := p) hb ht ht' hn).1
  by_cases h1 : p.testBit b = ov
  · rw [if_pos h1, Nat.add_zero]
    refine su_congr (fun x _ => ?_)
    show (if f x then iz_ ov t x p else 0) = (if f x then iz_ ov t' x p else 0)
    rw [h x, if_pos h1, Nat.add_zero]
  · rw [if_neg h1, ← su_add]
    refine su_congr (fun x _ => ?_)
    show (if f x then iz_ ov t x p else 0) = (if f x then iz_ ov t' x p else 0) + (if f x then iz_ ov t' x (p ^^^ 2 ^ b) else 0)
    rw [h x, if_neg h1]
    split <;> rfl
theorem zc_zq {f : Nat → Bool} {ov : Bool} : ∀ b, b ≤ 12 → ∀ p, p < 4096 → zc_ f ov b p = zq_ f ov (fun i => decide (i < b)) p
  | 0, _, p, hp => by
    rw [zc_]
    unfold zq_
    rw [su_congr (g := fun x => if f x then (if x = p then 1 else 0) else 0) (fun x hx => by
      show (if f x then iz_ ov (fun i => decide (i < 0)) x p else 0) = _
      have e : (fun i => decide (i < 0)) = fun _ => false := funext (fun i => decide_eq_false (Nat.not_lt_zero _))
      rw [e, iz_eq hx hp]), su_one (k := p) (fun x hx => by rw [if_neg hx]; split <;> rfl), if_pos hp, if_pos rfl]
  | b + 1, hb, p, hp => by
    rw [zc_s, zc_zq b (by omega) p hp, zc_zq b (by omega) _ (ms_xor hp (by omega))]
    exact (zq_step (t := fun i => decide (i < b + 1)) (t' := fun i => decide (i < b)) (by omega) (decide_eq_true (Nat.lt_succ_self b)) (decide_eq_false (Nat.lt_irrefl b)) (fun i hi => decide_eq_decide.mpr (by omega))).symm
/-- how many pairs stand so to p -/
def pq_ (f g : Nat → Bool) (ov : Bool) (t : Nat → Bool) (p : Nat) : Nat := su_ (fun x => if f x then su_ (fun y => if g y then iz_ ov t (tj_ (!ov) x y) p else 0) 4096 else 0) 4096
theorem pq_step {f g : Nat → Bool} {ov : Bool} {t t' : Nat → Bool} {p b : Nat} (hb : b < 12) (ht : t b = true) (ht' : t' b = false) (hn : ∀ i, i ≠ b → t' i = t i) : pq_ f g ov t p = pq_ f g ov t' p + (if p.testBit b = ov then 0 else pq_ f g ov t (p ^^^ 2 ^ b)) := by
  unfold pq_
  have h := fun x y => iz_step (ov := ov) (z := tj_ (!ov) x y) (p := p) hb ht ht' hn
  by_cases h1 : p.testBit b = ov
  · rw [if_pos h1, Nat.add_zero]
    refine su_congr (fun x _ => ?_)
    show (if f x then su_ (fun y => if g y then iz_ ov t (tj_ (!ov) x y) p else 0) 4096 else 0) = (if f x then su_ (fun y => if g y then iz_ ov t' (tj_ (!ov) x y) p else 0) 4096 else 0)
    cases f x
    · rw [if_neg (by decide), if_neg (by decide)]
    rw [if_pos rfl, if_pos rfl]
    refine su_congr (fun y _ => ?_)
    show (if g y then iz_ ov t (tj_ (!ov) x y) p else 0) = (if g y then iz_ ov t' (tj_ (!ov) x y) p else 0)
    rw [(h x y).1, if_pos h1, Nat.add_zero]
  · rw [if_neg h1, ← su_add]
    refine su_congr (fun x _ => ?_)
    show (if f x then su_ (fun y => if g y then iz_ ov t (tj_ (!ov) x y) p else 0) 4096 else 0) = (if f x then su_ (fun y => if g y then iz_ ov t' (tj_ (!ov) x y) p else 0) 4096 else 0) + (if f x then su_ (fun y => if g y then iz_ ov t (tj_ (!ov) x y) (p ^^^ 2 ^ b) else 0) 4096 else 0)
    cases f x
    · rfl
    · rw [if_pos rfl, if_pos rfl, if_pos rfl, ← su_add]
      refine su_congr (fun y _ => ?_)
      show (if g y then iz_ ov t (tj_ (!ov) x y) p else 0) = (if g y then iz_ ov t' (tj_ (!ov) x y) p else 0) + (if g y then iz_ ov t (tj_ (!ov) x y) (p ^^^ 2 ^ b) else 0)
      rw [(h x y).1, if_neg h1, (h x y).2 h1]
      split <;> rfl
theorem pq_all {f g : Nat → Bool} {ov : Bool} {p : Nat} : pq_ f g ov (fun _ => true) p = zq_ f ov (fun _ => true) p * zq_ g ov (fun _ => true) p := by
  unfold pq_ zq_
  rw [← su_mulr]
  refine su_congr (fun x _ => ?_)
  show (if f x then su_ (fun y => if g y then iz_ ov (fun _ => true) (tj_ (!ov) x y) p else 0) 4096 else 0) = (if f x then iz_ ov (fun _ => true) x p else 0) * su_ (fun y => if g y then iz_ ov (fun _ => true) y p else 0) 4096
  cases f x
  · rw [if_neg (by decide), if_neg (by decide), Nat.zero_mul]
  · rw [if_pos rfl, if_pos rfl, ← su_mull]
    refine su_congr (fun y _ => ?_)
    show (if g y then iz_ ov (fun _ => true) (tj_ (!ov) x y) p else 0) = iz_ ov (fun _ => true) x p * (if g y then iz_ ov (fun _ => true) y p else 0)
    rw [iz_mul]
    split <;> rfl
theorem pq_le {f g : Nat → Bool} {ov : Bool} {t : Nat → Bool} {p : Nat} : pq_ f g ov t p ≤ 4096 * (4096 * 1) := by
  unfold pq_
  refine su_le (fun x => ?_) 4096
  show (if f x then su_ (fun y => if g y then iz_ ov t (tj_ (!ov) x y) p else 0) 4096 else 0) ≤ 4096 * 1
  split
  · refine su_le (fun y => ?_) 4096
    show (if g y then iz_ ov t (tj_ (!ov) x y) p else 0) ≤ 1
    split
    · exact iz_le
    · decide
  · exact Nat.zero_le _
theorem ni_mulN (a b : Nat) : nI a * nI b = nI (a * b) := by
  apply Int32.toBitVec_inj.mp
  show BitVec.ofNat 32 a * BitVec.ofNat 32 b = BitVec.ofNat 32 (a * b)
  apply BitVec.eq_of_toNat_eq
  simp [BitVec.toNat_mul, BitVec.toNat_ofNat, Nat.mul_mod]
theorem i32_sub (a b : Int32) : a + b - b = a := by
  have h := Int32.add_sub_cancel a b
  exact h
theorem zq_12 {f : Nat → Bool} {ov : Bool} {p : Nat} : zq_ f ov (fun i => decide (i < 12)) p = zq_ f ov (fun _ => true) p := by
  unfold zq_
  refine su_congr (fun x _ => ?_)
  show (if f x then iz_ ov (fun i => decide (i < 12)) x p else 0) = (if f x then iz_ ov (fun _ => true) x p else 0)
  have hz : iz_ ov (fun i => decide (i < 12)) x p = iz_ ov (fun _ => true) x p := by
    unfold iz_
    rw [fa_cg (g := fun i => lq_ ov true (x.testBit i) (p.testBit i)) (fun k hk => by
      show lq_ ov (decide (k < 12)) _ _ = _
      rw [decide_eq_true hk])]
  rw [hz]
theorem pq_12 {f g : Nat → Bool} {ov : Bool} {p : Nat} : pq_ f g ov (fun i => decide (12 ≤ i)) p = pq_ f g ov (fun _ => false) p := by
  unfold pq_
  refine su_congr (fun x _ => ?_)
  show (if f x then su_ (fun y => if g y then iz_ ov (fun i => decide (12 ≤ i)) (tj_ (!ov) x y) p else 0) 4096 else 0) = (if f x then su_ (fun y => if g y then iz_ ov (fun _ => false) (tj_ (!ov) x y) p else 0) 4096 else 0)
  have hz : ∀ y, iz_ ov (fun i => decide (12 ≤ i)) (tj_ (!ov) x y) p = iz_ ov (fun _ => false) (tj_ (!ov) x y) p := fun y => by
    unfold iz_
    rw [fa_cg (g := fun i => lq_ ov false ((tj_ (!ov) x y).testBit i) (p.testBit i)) (fun k hk => by
      show lq_ ov (decide (12 ≤ k)) _ _ = _
      rw [decide_eq_false (by omega)])]
  have hs : su_ (fun y => if g y then iz_ ov (fun i => decide (12 ≤ i)) (tj_ (!ov) x y) p else 0) 4096 = su_ (fun y => if g y then iz_ ov (fun _ => false) (tj_ (!ov) x y) p else 0) 4096 := su_congr (fun y _ => by
    show (if g y then iz_ ov (fun i => decide (12 ≤ i)) (tj_ (!ov) x y) p else 0) = (if g y then iz_ ov (fun _ => false) (tj_ (!ov) x y) p else 0)
    rw [hz y])
  rw [hs]
theorem zo_pq {f g : Nat → Bool} {ov : Bool} {r : Nat → Int32} (hr : ∀ p, p < 4096 → r p = nI (pq_ f g ov (fun _ => true) p)) : ∀ b, b ≤ 12 → ∀ p, p < 4096 → zo_ (· - ·) ov r b p = nI (pq_ f g ov (fun i => decide (b ≤ i)) p)
  | 0, _, p, hp => by
    rw [zo_, hr p hp]
    have e : (fun i => decide (0 ≤ i)) = fun _ => true := funext (fun i => decide_eq_true (Nat.zero_le _))
    rw [e]
  | b + 1, hb, p, hp => by
    have ih := zo_pq hr b (by omega)
    have hs := pq_step (f := f) (g := g) (ov := ov) (t := fun i => decide (b ≤ i)) (t' := fun i => decide (b + 1 ≤ i)) (p := p) (b := b) (by omega) (decide_eq_true (Nat.le_refl b)) (decide_eq_false (by omega)) (fun i hi => decide_eq_decide.mpr (by omega))
    rw [zo_, zi_at, if_pos hp]
    unfold zv_
    cases ht : p.testBit b <;> cases ov
    · rw [if_neg (by decide), if_neg (by decide), ih p hp, hs, ht, if_pos rfl, Nat.add_zero]
    · show zo_ (· - ·) true r b p - zo_ (· - ·) true r b (p ||| 2 ^ b) = _
      rw [or_x ht, ih p hp, ih _ (ms_xor hp (by omega)), hs, ht, if_neg (by decide), ← nI_add]
      exact i32_sub _ _
    · show zo_ (· - ·) false r b p - zo_ (· - ·) false r b (p ^^^ 2 ^ b) = _
      rw [ih p hp, ih _ (ms_xor hp (by omega)), hs, ht, if_neg (by decide), ← nI_add]
      exact i32_sub _ _
    · rw [if_pos rfl, if_pos rfl, ih p hp, hs, ht, if_pos rfl, Nat.add_zero]
theorem pz_pq {f g : Nat → Bool} {ov : Bool} {O1 O2 : Nat → Int32} {p : Nat} (hp : p < 4096) : pz_ ov f g O1 O2 p = nI (pq_ f g ov (fun _ => false) p) := by
  unfold pz_
  rw [zo_pq (f := f) (g := g) (fun q hq => ?_) 12 (Nat.le_refl _) p hp, pq_12]
  unfold mul_
  rw [if_pos hq, zo_cnt 12 (Nat.le_refl _) q hq, zo_cnt 12 (Nat.le_refl _) q hq, zc_zq 12 (Nat.le_refl _) q hq, zc_zq 12 (Nat.le_refl _) q hq, zq_12, zq_12, pq_all]
  exact ni_mulN _ _
theorem pz_pos {f g : Nat → Bool} {ov : Bool} {O1 O2 : Nat → Int32} {p : Nat} (hp : p < 4096) : 0 < pz_ ov f g O1 O2 p ↔ ∃ x y, x < 4096 ∧ y < 4096 ∧ f x = true ∧ g y = true ∧ tj_ (!ov) x y = p := by
  have hle : pq_ f g ov (fun _ => false) p < 2 ^ 31 := Nat.lt_of_le_of_lt pq_le (by decide)
  rw [pz_pq hp]
  have h0 : (0 : Int32) < nI (pq_ f g ov (fun _ => false) p) ↔ 0 < pq_ f g ov (fun _ => false) p := ⟨fun h => Nat.lt_of_not_le (fun h9 => nI_nlt (a := 0) (b := pq_ f g ov (fun _ => false) p) h9 (by decide) h), fun h => nI_lt h hle⟩
  rw [h0]
  constructor
  · intro h
    obtain ⟨x, hx, h1⟩ := su_ex h
    cases hf : f x
    · rw [hf, if_neg (by decide)] at h1; exact absurd h1 (Nat.lt_irrefl _)
    · rw [hf, if_pos rfl] at h1
      obtain ⟨y, hy, h2⟩ := su_ex h1
      cases hg : g y
      · rw [hg, if_neg (by decide)] at h2; exact absurd h2 (Nat.lt_irrefl _)
      · rw [hg, if_pos rfl, iz_eq (tj_lt hx hy) hp] at h2
        by_cases h3 : tj_ (!ov) x y = p
        · exact ⟨x, y, hx, hy, hf, hg, h3⟩
        · rw [if_neg h3] at h2; exact absurd h2 (by decide)
  · rintro ⟨x, y, hx, hy, hf, hg, h3⟩
    refine su_pos (k := x) ?_ hx
    show 0 < if f x then _ else 0
    rw [hf, if_pos rfl]
    refine su_pos (k := y) ?_ hy
    show 0 < if g y then iz_ ov (fun _ => false) (tj_ (!ov) x y) p else 0
    rw [hg, if_pos rfl, iz_eq (tj_lt hx hy) hp, if_pos h3]
    decide
