/-! Counting: how many of the first n have a property; the bits of a number in bytes; the JDK's count of bits. -/
def cn_ (f : Nat → Bool) : Nat → Nat
  | 0 => 0
  | n + 1 => cn_ f n + (if f n then 1 else 0)
theorem cn_le (f : Nat → Bool) : ∀ n, cn_ f n ≤ n
  | 0 => Nat.le_refl _
  | n + 1 => by
    have h := cn_le f n
    rw [cn_]
    split <;> omega
theorem cn_congr {f g : Nat → Bool} : ∀ {n : Nat}, (∀ i, i < n → f i = g i) → cn_ f n = cn_ g n
  | 0, _ => rfl
  | n + 1, h => by
    rw [cn_, cn_, cn_congr (n := n) (fun i hi => h i (by omega)), h n (by omega)]
theorem cn_add (f : Nat → Bool) (a : Nat) : ∀ b, cn_ f (a + b) = cn_ f a + cn_ (fun i => f (a + i)) b
  | 0 => rfl
  | b + 1 => by
    rw [← Nat.add_assoc, cn_, cn_, cn_add f a b]
    omega
theorem cn_mono (f : Nat → Bool) {a b : Nat} (h : a ≤ b) : cn_ f a ≤ cn_ f b := by
  obtain ⟨d, rfl⟩ := Nat.exists_eq_add_of_le h
  rw [cn_add]
  omega
theorem cn_zero {f : Nat → Bool} : ∀ {n : Nat}, (∀ i, i < n → f i = false) → cn_ f n = 0
  | 0, _ => rfl
  | n + 1, h => by
    rw [cn_, cn_zero (n := n) (fun i hi => h i (by omega)), h n (by omega)]
    rfl
theorem cn_pos {f : Nat → Bool} {n i : Nat} (hi : i < n) (h : f i = true) : 0 < cn_ f n := by
  have h1 := cn_mono f (show i + 1 ≤ n from hi)
  rw [cn_, h] at h1
  simp only [if_true] at h1
  omega
/-- a number by its bytes -/
def by_ : Nat → (Nat → Nat) → Nat
  | 0, _ => 0
  | n + 1, B => B 0 + 256 * by_ n (fun k => B (k + 1))
theorem by_congr : ∀ {n : Nat} {B C : Nat → Nat}, (∀ k, k < n → B k = C k) → by_ n B = by_ n C
  | 0, _, _, _ => rfl
  | n + 1, B, C, h => by
    rw [by_, by_, h 0 (by omega), by_congr (n := n) (fun k hk => h (k + 1) (by omega))]
theorem by_lt : ∀ {n : Nat} {B : Nat → Nat}, (∀ k, B k < 256) → by_ n B < 256 ^ n
  | 0, _, _ => Nat.one_pos
  | n + 1, B, h => by
    have h1 := by_lt (n := n) (B := fun k => B (k + 1)) (fun k => h (k + 1))
    have h2 := h 0
    rw [by_, Nat.pow_succ]
    omega
theorem by_add : ∀ (n : Nat) (B C : Nat → Nat), by_ n B + by_ n C = by_ n (fun k => B k + C k)
  | 0, _, _ => rfl
  | n + 1, B, C => by
    have h := by_add n (fun k => B (k + 1)) (fun k => C (k + 1))
    rw [by_, by_, by_, ← h]
    omega
theorem by_le : ∀ {n : Nat} {B C : Nat → Nat}, (∀ k, C k ≤ B k) → by_ n C ≤ by_ n B
  | 0, _, _, _ => Nat.le_refl _
  | n + 1, B, C, h => by
    have h1 := by_le (n := n) (B := fun k => B (k + 1)) (C := fun k => C (k + 1)) (fun k => h (k + 1))
    have h2 := h 0
    rw [by_, by_]
    omega
theorem by_sub : ∀ (n : Nat) (B C : Nat → Nat), (∀ k, C k ≤ B k) → by_ n B - by_ n C = by_ n (fun k => B k - C k)
  | 0, _, _, _ => rfl
  | n + 1, B, C, h => by
    have h1 := by_sub n (fun k => B (k + 1)) (fun k => C (k + 1)) (fun k => h (k + 1))
    have h2 := h 0
    have h3 := by_le (n := n) (B := fun k => B (k + 1)) (C := fun k => C (k + 1)) (fun k => h (k + 1))
    rw [by_, by_, by_, ← h1]
    omega
theorem by_tb (b x : Nat) (hb : b < 256) (i : Nat) : (b + 256 * x).testBit i = if i < 8 then b.testBit i else x.testBit (i - 8) := by
  have h : b + 256 * x = 2 ^ 8 * x + b := by omega
  rw [h, Nat.testBit_two_pow_mul_add _ (by simpa using hb)]
theorem by_and1 (b x c y s : Nat) (hb : b < 256) (hc : c < 2 ^ (8 - s)) (hs : s ≤ 8) : ((b + 256 * x) >>> s) &&& (c + 256 * y) = ((b >>> s) &&& c) + 256 * ((x >>> s) &&& y) := by
  have hc8 : c < 256 := Nat.lt_of_lt_of_le hc (by
    have : 2 ^ (8 - s) ≤ 2 ^ 8 := Nat.pow_le_pow_right (by omega) (by omega)
    simpa using this)
  have hr : (b >>> s) &&& c < 256 := Nat.lt_of_le_of_lt Nat.and_le_right hc8
  apply Nat.eq_of_testBit_eq
  intro i
  rw [Nat.testBit_and, Nat.testBit_shiftRight, by_tb b x hb, by_tb c y hc8, by_tb _ _ hr, Nat.testBit_and, Nat.testBit_and, Nat.testBit_shiftRight, Nat.testBit_shiftRight]
  by_cases hi : i < 8
  · simp only [hi, if_true]
    by_cases h2 : s + i < 8
    · simp only [h2, if_true]
    · have hz : c.testBit i = false := Nat.testBit_lt_two_pow (Nat.lt_of_lt_of_le hc (Nat.pow_le_pow_right (by omega) (by omega)))
      rw [hz, Bool.and_false, Bool.and_false]
  · have h2 : ¬ s + i < 8 := by omega
    simp only [hi, h2, if_false]
    rw [show s + i - 8 = s + (i - 8) by omega]
theorem by_and (s m : Nat) (hm : m < 2 ^ (8 - s)) (hs : s ≤ 8) : ∀ (n : Nat) (B : Nat → Nat), (∀ k, B k < 256) → (by_ n B >>> s) &&& by_ n (fun _ => m) = by_ n (fun k => (B k >>> s) &&& m)
  | 0, _, _ => by simp [by_]
  | n + 1, B, h => by
    have ih := by_and s m hm hs n (fun k => B (k + 1)) (fun k => h (k + 1))
    rw [by_, by_, by_, by_and1 _ _ _ _ _ (h 0) hm hs, ih]
/-- every number below 256^n is one of bytes -/
theorem by_of : ∀ (n x : Nat), x < 256 ^ n → by_ n (fun k => x / 256 ^ k % 256) = x
  | 0, x, h => by
    rw [Nat.pow_zero] at h
    rw [by_]
    omega
  | n + 1, x, h => by
    have h1 : x / 256 < 256 ^ n := by
      rw [Nat.pow_succ, Nat.mul_comm] at h
      exact Nat.div_lt_of_lt_mul h
    have ih := by_of n (x / 256) h1
    have hc : by_ n (fun k => x / 256 ^ (k + 1) % 256) = by_ n (fun k => x / 256 / 256 ^ k % 256) := by_congr (fun k _ => by
      rw [Nat.div_div_eq_div_mul, Nat.pow_succ, Nat.mul_comm])
    rw [by_, hc, ih, Nat.pow_zero, Nat.div_one]
    omega
theorem by_s4 : ∀ (n : Nat) (lo hi : Nat → Nat), (∀ k, lo k < 16) → (∀ k, hi k < 16) → by_ n (fun k => lo k + 16 * hi k) >>> 4 = by_ n (fun k => hi k + 16 * (if k + 1 < n then lo (k + 1) else 0))
  | 0, _, _, _, _ => by simp [by_]
  | n + 1, lo, hi, hl, hh => by
    have ih := by_s4 n (fun k => lo (k + 1)) (fun k => hi (k + 1)) (fun k => hl (k + 1)) (fun k => hh (k + 1))
    have h0 := hl 0
    have h1 := hh 0
    rw [Nat.shiftRight_eq_div_pow] at ih ⊢
    rw [by_, by_]
    have hc : by_ n (fun k => hi (k + 1) + 16 * (if k + 1 + 1 < n + 1 then lo (k + 1 + 1) else 0)) = by_ n (fun k => hi (k + 1) + 16 * (if k + 1 < n then lo (k + 1 + 1) else 0)) := by_congr (fun k _ => by
      by_cases h : k + 1 < n
      · rw [if_pos h, if_pos (by omega)]
      · rw [if_neg h, if_neg (by omega)])
    rw [hc, ← ih]
    cases n with
    | zero => simp [by_]; omega
    | succ n' =>
      have hx : by_ (n' + 1) (fun k => lo (k + 1) + 16 * hi (k + 1)) % 16 = lo 1 := by
        have h2 := hl 1
        rw [by_]
        simp only [Nat.zero_add]
        omega
      rw [if_pos (by omega)]
      simp only [Nat.zero_add] at *
      generalize by_ (n' + 1) (fun k => lo (k + 1) + 16 * hi (k + 1)) = X at *
      omega
/-- the bits of a byte, counted the JDK's way: in pairs, in fours -/
def b1_ (b : Nat) : Nat := b - (b >>> 1 &&& 85)
def b2_ (b : Nat) : Nat := (b1_ b >>> 0 &&& 51) + (b1_ b >>> 2 &&& 51)
def b8_ (b : Nat) : Nat := b2_ b % 16 + b2_ b / 16
theorem b8_ok : ∀ b : Fin 256, b.val >>> 1 &&& 85 ≤ b.val ∧ b1_ b.val < 256 ∧ b2_ b.val < 256 ∧ b2_ b.val % 16 ≤ 4 ∧ b2_ b.val / 16 ≤ 4 ∧ b8_ b.val = cn_ (fun i => b.val.testBit i) 8 ∧ b8_ b.val ≤ 8 := by
  decide +kernel
theorem by_tbs : ∀ (n : Nat) (B : Nat → Nat), (∀ k, B k < 256) → ∀ k i, k < n → i < 8 → (by_ n B).testBit (8 * k + i) = (B k).testBit i
  | 0, _, _, _, _, h, _ => absurd h (by omega)
  | n + 1, B, hB, k, i, hk, hi => by
    rw [by_, by_tb _ _ (hB 0)]
    cases k with
    | zero => rw [if_pos (by omega)]; simp
    | succ k =>
      rw [if_neg (by omega), show 8 * (k + 1) + i - 8 = 8 * k + i by omega]
      exact by_tbs n (fun k => B (k + 1)) (fun k => hB (k + 1)) k i (by omega) hi
def su_ (f : Nat → Nat) : Nat → Nat
  | 0 => 0
  | n + 1 => su_ f n + f n
theorem cn_bytes (f : Nat → Bool) : ∀ n, cn_ f (8 * n) = su_ (fun k => cn_ (fun i => f (8 * k + i)) 8) n
  | 0 => rfl
  | n + 1 => by
    rw [show 8 * (n + 1) = 8 * n + 8 by omega, cn_add, cn_bytes f n, su_]
theorem su_congr {f g : Nat → Nat} : ∀ {n : Nat}, (∀ k, k < n → f k = g k) → su_ f n = su_ g n
  | 0, _ => rfl
  | n + 1, h => by rw [su_, su_, su_congr (n := n) (fun k hk => h k (by omega)), h n (by omega)]
/-- bytes, counted -/
theorem pc_bytes (n : Nat) (B : Nat → Nat) (hB : ∀ k, B k < 256) : cn_ (fun i => (by_ n B).testBit i) (8 * n) = su_ (fun k => b8_ (B k)) n := by
  rw [cn_bytes]
  refine su_congr (fun k hk => ?_)
  rw [(b8_ok ⟨B k, hB k⟩).2.2.2.2.2.1]
  exact cn_congr (fun i hi => by_tbs n B hB k i hk hi)
/-- the first three steps -/
theorem pc_three (n : Nat) (B : Nat → Nat) (hB : ∀ k, B k < 256) {x m1 m2 m3 i1 i2 : Nat} (hx : x = by_ n B) (h1 : m1 = by_ n (fun _ => 85)) (h2 : m2 = by_ n (fun _ => 51)) (h3 : m3 = by_ n (fun _ => 15))
    (e1 : i1 = x - (x >>> 1 &&& m1)) (e2 : i2 = (i1 &&& m2) + (i1 >>> 2 &&& m2)) : (x >>> 1 &&& m1 ≤ x) ∧ i1 < 256 ^ n ∧ i2 < 256 ^ n ∧ i2 + i2 >>> 4 < 256 ^ n ∧ (i2 + i2 >>> 4) &&& m3 = by_ n (fun k => b8_ (B k)) := by
  have ok := fun k => b8_ok ⟨B k, hB k⟩
  have a1 : x >>> 1 &&& m1 = by_ n (fun k => B k >>> 1 &&& 85) := by rw [hx, h1]; exact by_and 1 85 (by decide) (by decide) n B hB
  have a2 : i1 = by_ n (fun k => b1_ (B k)) := by rw [e1, a1, hx]; exact by_sub n B _ (fun k => (ok k).1)
  have l1 : ∀ k, b1_ (B k) < 256 := fun k => (ok k).2.1
  have a3 : i2 = by_ n (fun k => b2_ (B k)) := by
    have q0 := by_and 0 51 (by decide) (by decide) n (fun k => b1_ (B k)) l1
    have q2 := by_and 2 51 (by decide) (by decide) n (fun k => b1_ (B k)) l1
    rw [Nat.shiftRight_zero] at q0
    rw [e2, a2, h2, q0, q2]
    exact by_add n _ _
  have a4 : i2 = by_ n (fun k => b2_ (B k) % 16 + 16 * (b2_ (B k) / 16)) := by rw [a3]; exact by_congr (fun k _ => by omega)
  have a5 : i2 >>> 4 = by_ n (fun k => b2_ (B k) / 16 + 16 * (if k + 1 < n then b2_ (B (k + 1)) % 16 else 0)) := by
    rw [a4]
    exact by_s4 n (fun k => b2_ (B k) % 16) (fun k => b2_ (B k) / 16) (fun k => by omega) (fun k => by have := (ok k).2.2.2.2.1; simp only at this ⊢; omega)
  have lt2 : ∀ k, (b2_ (B k) % 16 + 16 * (b2_ (B k) / 16)) + (b2_ (B k) / 16 + 16 * (if k + 1 < n then b2_ (B (k + 1)) % 16 else 0)) < 256 := fun k => by
    have q1 := (ok k).2.2.2.1
    have q2 := (ok k).2.2.2.2.1
    have q3 := (ok (k + 1)).2.2.2.1
    simp only at q1 q2 q3
    split <;> omega
  have a6 : i2 + i2 >>> 4 = by_ n (fun k => (b2_ (B k) % 16 + 16 * (b2_ (B k) / 16)) + (b2_ (B k) / 16 + 16 * (if k + 1 < n then b2_ (B (k + 1)) % 16 else 0))) := by
    rw [a5]
    conv => lhs; lhs; rw [a4]
    exact by_add n _ _
  refine ⟨?_, ?_, ?_, ?_, ?_⟩
  · rw [a1, hx]; exact by_le (fun k => (ok k).1)
  · rw [a2]; exact by_lt l1
  · rw [a3]; exact by_lt (fun k => (ok k).2.2.1)
  · rw [a6]; exact by_lt lt2
  · have q := by_and 0 15 (by decide) (by decide) n _ lt2
    rw [Nat.shiftRight_zero] at q
    rw [a6, h3, q]
    refine by_congr (fun k _ => ?_)
    have q1 := (ok k).2.2.2.1
    have q2 := (ok k).2.2.2.2.1
    simp only at q1 q2
    rw [Nat.shiftRight_zero, show (15 : Nat) = 2 ^ 4 - 1 from rfl, Nat.and_two_pow_sub_one_eq_mod]
    unfold b8_
    split <;> omega
/-- Long.bitCount over the naturals -/
theorem pc_64 {x i1 i2 i3 i4 i5 i6 : Nat} (hx : x < 2 ^ 64) (e1 : i1 = x - (x >>> 1 &&& 0x5555555555555555)) (e2 : i2 = (i1 &&& 0x3333333333333333) + (i1 >>> 2 &&& 0x3333333333333333)) (e3 : i3 = (i2 + i2 >>> 4) &&& 0x0f0f0f0f0f0f0f0f) (e4 : i4 = i3 + i3 >>> 8) (e5 : i5 = i4 + i4 >>> 16) (e6 : i6 = i5 + i5 >>> 32) :
    (x >>> 1 &&& 0x5555555555555555 ≤ x) ∧ i2 < 2 ^ 64 ∧ i2 + i2 >>> 4 < 2 ^ 64 ∧ i4 < 2 ^ 64 ∧ i5 < 2 ^ 64 ∧ i6 < 2 ^ 64 ∧ i6 % 128 = cn_ (fun i => x.testBit i) 64 := by
  have hB : ∀ k, (fun k => x / 256 ^ k % 256) k < 256 := fun k => Nat.mod_lt _ (by decide)
  have hx2 : x = by_ 8 (fun k => x / 256 ^ k % 256) := (by_of 8 x (by simpa using hx)).symm
  obtain ⟨r0, r1, r2, r3, r4⟩ := pc_three 8 (fun k => x / 256 ^ k % 256) hB hx2 (m1 := 0x5555555555555555) (m2 := 0x3333333333333333) (m3 := 0x0f0f0f0f0f0f0f0f) (by decide) (by decide) (by decide) e1 e2
  have hc := pc_bytes 8 (fun k => x / 256 ^ k % 256) hB
  rw [← hx2] at hc
  have ok := fun k => (b8_ok ⟨x / 256 ^ k % 256, hB k⟩).2.2.2.2.2.2
  rw [← e3] at r4
  simp only [by_, Nat.zero_add] at r4
  simp only [su_, Nat.reduceMul, Nat.zero_add] at hc
  have o0 := ok 0; have o1 := ok 1; have o2 := ok 2; have o3 := ok 3; have o4 := ok 4; have o5 := ok 5; have o6 := ok 6; have o7 := ok 7
  simp only at o0 o1 o2 o3 o4 o5 o6 o7
  rw [Nat.shiftRight_eq_div_pow] at e4 e5 e6
  rw [hc]
  refine ⟨r0, by simpa using r2, by simpa using r3, ?_⟩
  simp only [Nat.reduceAdd] at r4 hc o0 o1 o2 o3 o4 o5 o6 o7 ⊢
  generalize b8_ (x / 256 ^ 0 % 256) = c0 at *
  generalize b8_ (x / 256 ^ 1 % 256) = c1 at *
  generalize b8_ (x / 256 ^ 2 % 256) = c2 at *
  generalize b8_ (x / 256 ^ 3 % 256) = c3 at *
  generalize b8_ (x / 256 ^ 4 % 256) = c4 at *
  generalize b8_ (x / 256 ^ 5 % 256) = c5 at *
  generalize b8_ (x / 256 ^ 6 % 256) = c6 at *
  generalize b8_ (x / 256 ^ 7 % 256) = c7 at *
  clear r0 r1 r2 r3 hx2 hB ok hx hc e1 e2 e3
  have f4 : i4 = (c0 + c1) + 256 * ((c1 + c2) + 256 * ((c2 + c3) + 256 * ((c3 + c4) + 256 * ((c4 + c5) + 256 * ((c5 + c6) + 256 * ((c6 + c7) + 256 * c7)))))) := by omega
  have f5 : i5 = (c0 + c1 + c2 + c3) + 256 * ((c1 + c2 + c3 + c4) + 256 * ((c2 + c3 + c4 + c5) + 256 * ((c3 + c4 + c5 + c6) + 256 * ((c4 + c5 + c6 + c7) + 256 * ((c5 + c6 + c7) + 256 * ((c6 + c7) + 256 * c7)))))) := by omega
  have f6 : i6 = (c0 + c1 + c2 + c3 + c4 + c5 + c6 + c7) + 256 * ((c1 + c2 + c3 + c4 + c5 + c6 + c7) + 256 * ((c2 + c3 + c4 + c5 + c6 + c7) + 256 * ((c3 + c4 + c5 + c6 + c7) + 256 * ((c4 + c5 + c6 + c7) + 256 * ((c5 + c6 + c7) + 256 * ((c6 + c7) + 256 * c7)))))) := by omega
  omega
