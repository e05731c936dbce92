/-! Bits of a long: lb x i. -/
def ul_ (x : Int64) : Nat := x.toBitVec.toNat
def lb_ (x : Int64) (i : Nat) : Bool := x.toBitVec.getLsbD i
theorem ul_lt (x : Int64) : ul_ x < 2 ^ 64 := x.toBitVec.isLt
theorem ul_inj {x y : Int64} (h : ul_ x = ul_ y) : x = y := Int64.toBitVec_inj.mp (BitVec.eq_of_toNat_eq h)
theorem ul_tb (x : Int64) (i : Nat) : (ul_ x).testBit i = lb_ x i := by
  unfold ul_ lb_
  rw [BitVec.testBit_toNat]
theorem lb_ext {x y : Int64} (h : ∀ i, i < 64 → lb_ x i = lb_ y i) : x = y :=
  Int64.toBitVec_inj.mp (BitVec.eq_of_getLsbD_eq (fun i hi => h i hi))
theorem lb_big {x : Int64} {i : Nat} (h : 64 ≤ i) : lb_ x i = false := BitVec.getLsbD_of_ge _ _ h
theorem lb_and (x y : Int64) (i : Nat) : lb_ (x &&& y) i = (lb_ x i && lb_ y i) := by
  unfold lb_
  rw [Int64.toBitVec_and, BitVec.getLsbD_and]
theorem lb_or (x y : Int64) (i : Nat) : lb_ (x ||| y) i = (lb_ x i || lb_ y i) := by
  unfold lb_
  rw [Int64.toBitVec_or, BitVec.getLsbD_or]
theorem lb_xor (x y : Int64) (i : Nat) : lb_ (x ^^^ y) i = (lb_ x i ^^ lb_ y i) := by
  unfold lb_
  rw [Int64.toBitVec_xor, BitVec.getLsbD_xor]
theorem lb_0 (i : Nat) : lb_ 0 i = false := by
  unfold lb_
  exact BitVec.getLsbD_zero
theorem lb_m1 {i : Nat} (h : i < 64) : lb_ (-1) i = true := by
  have h9 : ∀ j : Fin 64, lb_ (-1) j.val = true := by decide +kernel
  exact h9 ⟨i, h⟩
theorem lb_not (x : Int64) {i : Nat} (h : i < 64) : lb_ (x ^^^ (-1)) i = !lb_ x i := by
  rw [lb_xor, lb_m1 h, Bool.xor_true]
theorem lb_1 (i : Nat) : lb_ 1 i = decide (i = 0) := by
  unfold lb_
  rw [show (1 : Int64).toBitVec = 1#64 from rfl, BitVec.getLsbD_one]
  simp
theorem ls_amt : ∀ k : Fin 64, (((nI k.val).toInt64 &&& 63).toBitVec.smod 64) = BitVec.ofNat 64 k.val := by decide +kernel
theorem lu_amt : ∀ k : Fin 64, (((nI k.val).toInt64.toUInt64 &&& Int64.toUInt64 63).toBitVec % 64) = BitVec.ofNat 64 k.val := by decide +kernel
theorem lb_shl (x : Int64) {k i : Nat} (hk : k < 64) (hi : i < 64) : lb_ (x <<< ((nI k).toInt64 &&& 63)) i = (decide (k ≤ i) && lb_ x (i - k)) := by
  unfold lb_
  show (x.toBitVec <<< (((nI k).toInt64 &&& 63).toBitVec.smod 64)).getLsbD i = _
  rw [ls_amt ⟨k, hk⟩, BitVec.shiftLeft_eq', BitVec.getLsbD_shiftLeft]
  have h1 : (BitVec.ofNat 64 k).toNat = k := by rw [BitVec.toNat_ofNat]; omega
  rw [h1]
  by_cases h : k ≤ i
  · simp [h, hi]
  · simp [h]
theorem lb_shr (x : Int64) {k : Nat} (hk : k < 64) (i : Nat) : lb_ ((x.toUInt64 >>> ((nI k).toInt64.toUInt64 &&& Int64.toUInt64 63)).toInt64) i = lb_ x (k + i) := by
  unfold lb_
  show (x.toBitVec >>> (((nI k).toInt64.toUInt64 &&& Int64.toUInt64 63).toBitVec % 64)).getLsbD i = _
  rw [lu_amt ⟨k, hk⟩, BitVec.ushiftRight_eq', BitVec.getLsbD_ushiftRight]
  have h1 : (BitVec.ofNat 64 k).toNat = k := by rw [BitVec.toNat_ofNat]; omega
  rw [h1]
theorem ul_and (x y : Int64) : ul_ (x &&& y) = ul_ x &&& ul_ y := by
  unfold ul_
  rw [Int64.toBitVec_and, BitVec.toNat_and]
theorem ul_shr (x : Int64) {k : Nat} (hk : k < 64) : ul_ ((x.toUInt64 >>> ((nI k).toInt64.toUInt64 &&& Int64.toUInt64 63)).toInt64) = ul_ x >>> k := by
  apply Nat.eq_of_testBit_eq
  intro i
  rw [ul_tb, lb_shr x hk, Nat.testBit_shiftRight, ul_tb]
theorem ul_sub {x y : Int64} (h : ul_ y ≤ ul_ x) : ul_ (x - y) = ul_ x - ul_ y := by
  have hx := ul_lt x
  unfold ul_ at *
  rw [Int64.toBitVec_sub, BitVec.toNat_sub]
  omega
theorem ul_add {x y : Int64} (h : ul_ x + ul_ y < 2 ^ 64) : ul_ (x + y) = ul_ x + ul_ y := by
  unfold ul_ at *
  rw [Int64.toBitVec_add, BitVec.toNat_add]
  omega
theorem ul_toInt32 (x : Int64) : x.toInt32 = nI (ul_ x) := by
  apply Int32.toBitVec_inj.mp
  apply BitVec.eq_of_toNat_eq
  show (x.toBitVec.signExtend 32).toNat = (BitVec.ofNat 32 (ul_ x)).toNat
  rw [BitVec.signExtend_eq_setWidth_of_le _ (by decide), BitVec.toNat_setWidth, BitVec.toNat_ofNat]
  rfl
/-- how many bits a long has -/
def lc_ (x : Int64) : Nat := cn_ (fun i => lb_ x i) 64
theorem lc_le (x : Int64) : lc_ x ≤ 64 := cn_le _ _

/-- the bit of a word that a shift and a mask leave -/
theorem lb_test (x : Int64) {k : Nat} (hk : k < 64) : ((x.toUInt64 >>> ((nI k).toInt64.toUInt64 &&& Int64.toUInt64 63)).toInt64 &&& 1) = 0 ↔ lb_ x k = false := by
  constructor
  · intro h
    have h1 := congrArg (fun z => lb_ z 0) h
    simp only [lb_and, lb_shr x hk, lb_1, lb_0] at h1
    simpa using h1
  · intro h
    apply lb_ext
    intro i _
    rw [lb_and, lb_shr x hk, lb_1, lb_0]
    by_cases hi : i = 0
    · subst hi
      simpa using h
    · simp [hi]
theorem lb_bit {k i : Nat} (hk : k < 64) (hi : i < 64) : lb_ ((1 : Int64) <<< ((nI k).toInt64 &&& 63)) i = decide (i = k) := by
  rw [lb_shl _ hk hi, lb_1]
  by_cases h : k ≤ i
  · simp [h]
    omega
  · simp [h]
    omega
/-- a family's sets by their places -/
def fb_ (f : Nat → Int64) (p : Nat) : Bool := lb_ (f (p / 64)) (p % 64)
def z1_ (b : Bool) : Int32 := if b then 1 else 0
theorem z1_01 (b : Bool) : z1_ b = 0 ∨ z1_ b = 1 := by cases b <;> simp [z1_]
theorem fb_include {f : Nat → Int64} {p q : Nat} : fb_ (vp_updL f (p / 64) (f (p / 64) ||| (1 : Int64) <<< ((nI (p % 64)).toInt64 &&& 63))) q = (decide (q = p) || fb_ f q) := by
  unfold fb_ vp_updL
  by_cases h : q / 64 = p / 64
  · rw [if_pos h, lb_or, lb_bit (by omega) (by omega), h]
    by_cases h2 : q % 64 = p % 64
    · have : q = p := by omega
      simp [this]
    · have : q ≠ p := fun h3 => h2 (by rw [h3])
      simp [this, h2]
  · have : q ≠ p := fun h3 => h (by rw [h3])
    rw [if_neg h]
    simp [this]
theorem fb_exclude {f : Nat → Int64} {p q : Nat} : fb_ (vp_updL f (p / 64) (f (p / 64) &&& ((1 : Int64) <<< ((nI (p % 64)).toInt64 &&& 63) ^^^ (-1)))) q = (!decide (q = p) && fb_ f q) := by
  unfold fb_ vp_updL
  by_cases h : q / 64 = p / 64
  · rw [if_pos h, lb_and, lb_not _ (by omega), lb_bit (by omega) (by omega), h]
    by_cases h2 : q % 64 = p % 64
    · have : q = p := by omega
      simp [this]
    · have : q ≠ p := fun h3 => h2 (by rw [h3])
      simp [this, h2]
  · have : q ≠ p := fun h3 => h (by rw [h3])
    rw [if_neg h]
    simp [this]
/-- numbers of places -/
theorem np_hi {p : Nat} (hp : p < 4096) : nI p >>> (nI 6 &&& 31) = nI (p / 64) := pk_shrN (by omega) _ 6 (by decide)
theorem np_lo {p : Nat} (hp : p < 4096) : nI p &&& nI 63 = nI (p % 64) := pk_andN (by omega) 6 (by decide)
/-- the machine's unsigned shift -/
abbrev su_l (x : Int64) (k : Nat) : Int64 := (x.toUInt64 >>> ((nI k).toInt64.toUInt64 &&& Int64.toUInt64 63)).toInt64
theorem lc_calc {x i1 i2 i3 i4 i5 i6 : Int64} (e1 : i1 = x - (su_l x 1 &&& 6148914691236517205)) (e2 : i2 = (i1 &&& 3689348814741910323) + (su_l i1 2 &&& 3689348814741910323)) (e3 : i3 = (i2 + su_l i2 4) &&& 1085102592571150095) (e4 : i4 = i3 + su_l i3 8) (e5 : i5 = i4 + su_l i4 16) (e6 : i6 = i5 + su_l i5 32) : i6.toInt32 &&& nI 127 = nI (lc_ x) := by
  obtain ⟨r0, r2, r3, r4, r5, r6, r7⟩ := pc_64 (ul_lt x) rfl rfl rfl rfl rfl rfl
  have u1 : ul_ i1 = ul_ x - (ul_ x >>> 1 &&& 0x5555555555555555) := by
    have q : ul_ (su_l x 1 &&& 6148914691236517205) = ul_ x >>> 1 &&& 0x5555555555555555 := by rw [ul_and, ul_shr x (by decide)]; rfl
    rw [e1, ul_sub (by rw [q]; exact r0), q]
  rw [← u1] at r2 r3 r4 r5 r6 r7
  have u2 : ul_ i2 = (ul_ i1 &&& 0x3333333333333333) + (ul_ i1 >>> 2 &&& 0x3333333333333333) := by
    have q1 : ul_ (i1 &&& 3689348814741910323) = ul_ i1 &&& 0x3333333333333333 := by rw [ul_and]; rfl
    have q2 : ul_ (su_l i1 2 &&& 3689348814741910323) = ul_ i1 >>> 2 &&& 0x3333333333333333 := by rw [ul_and, ul_shr i1 (by decide)]; rfl
    rw [e2, ul_add (by rw [q1, q2]; exact r2), q1, q2]
  rw [← u2] at r3 r4 r5 r6 r7
  have u3 : ul_ i3 = (ul_ i2 + ul_ i2 >>> 4) &&& 0x0f0f0f0f0f0f0f0f := by
    rw [e3, ul_and, ul_add (by rw [ul_shr i2 (by decide)]; exact r3), ul_shr i2 (by decide)]; rfl
  rw [← u3] at r4 r5 r6 r7
  have u4 : ul_ i4 = ul_ i3 + ul_ i3 >>> 8 := by rw [e4, ul_add (by rw [ul_shr i3 (by decide)]; exact r4), ul_shr i3 (by decide)]
  rw [← u4] at r5 r6 r7
  have u5 : ul_ i5 = ul_ i4 + ul_ i4 >>> 16 := by rw [e5, ul_add (by rw [ul_shr i4 (by decide)]; exact r5), ul_shr i4 (by decide)]
  rw [← u5] at r6 r7
  have u6 : ul_ i6 = ul_ i5 + ul_ i5 >>> 32 := by rw [e6, ul_add (by rw [ul_shr i5 (by decide)]; exact r6), ul_shr i5 (by decide)]
  rw [← u6] at r7
  rw [pk_and i6.toInt32 7 (by decide), ul_toInt32]
  have q : (nI (ul_ i6)).toBitVec.toNat % 2 ^ 7 = ul_ i6 % 128 := by
    show (BitVec.ofNat 32 (ul_ i6)).toNat % 2 ^ 7 = _
    rw [BitVec.toNat_ofNat]
    omega
  rw [q, r7]
  unfold lc_
  congr 1
/-- Integer.bitCount, of numbers below 64 -/
abbrev su_i (x : Int32) (k : Nat) : Int32 := (x.toUInt32 >>> ((nI k).toUInt32 &&& Int32.toUInt32 31)).toInt32
def ib1_ (x : Int32) : Int32 := x - (su_i x 1 &&& 1431655765)
def ib2_ (x : Int32) : Int32 := (ib1_ x &&& 858993459) + (su_i (ib1_ x) 2 &&& 858993459)
def ib3_ (x : Int32) : Int32 := (ib2_ x + su_i (ib2_ x) 4) &&& 252645135
def ib4_ (x : Int32) : Int32 := ib3_ x + su_i (ib3_ x) 8
def ib5_ (x : Int32) : Int32 := ib4_ x + su_i (ib4_ x) 16
def nb_ (k : Nat) : Nat := cn_ (fun i => k.testBit i) 6
theorem ib_ok : ∀ k : Fin 64, ib5_ (nI k.val) &&& nI 63 = nI (nb_ k.val) := by decide +kernel
theorem nb_le (k : Nat) : nb_ k ≤ 6 := cn_le _ _
/-- how many sets a family has in its first w words -/
def tw64_ (f : Nat → Int64) : Nat → Nat := su_ (fun k => lc_ (f k))
theorem tw64_le (f : Nat → Int64) : ∀ n, tw64_ f n ≤ 64 * n
  | 0 => Nat.le_refl _
  | n + 1 => by
    have h1 := tw64_le f n
    have h2 := lc_le (f n)
    unfold tw64_ at *
    rw [su_]
    omega
theorem tw64_cn (f : Nat → Int64) : ∀ n, tw64_ f n = cn_ (fb_ f) (64 * n)
  | 0 => rfl
  | n + 1 => by
    have h1 := tw64_cn f n
    unfold tw64_ at *
    rw [su_, h1, show 64 * (n + 1) = 64 * n + 64 by omega, cn_add]
    congr 1
    unfold lc_
    refine cn_congr (fun i hi => ?_)
    unfold fb_
    rw [show (64 * n + i) / 64 = n by omega, show (64 * n + i) % 64 = i by omega]

/-- numbers, bit by bit -/
theorem ni_and (a b : Nat) : nI a &&& nI b = nI (a &&& b) := by
  apply Int32.toBitVec_inj.mp
  show BitVec.ofNat 32 a &&& BitVec.ofNat 32 b = BitVec.ofNat 32 (a &&& b)
  apply BitVec.eq_of_getLsbD_eq
  intro i hi
  simp [BitVec.getLsbD_and, BitVec.getLsbD_ofNat, Nat.testBit_and, hi]
theorem ni_or (a b : Nat) : nI a ||| nI b = nI (a ||| b) := by
  apply Int32.toBitVec_inj.mp
  show BitVec.ofNat 32 a ||| BitVec.ofNat 32 b = BitVec.ofNat 32 (a ||| b)
  apply BitVec.eq_of_getLsbD_eq
  intro i hi
  simp [BitVec.getLsbD_or, BitVec.getLsbD_ofNat, Nat.testBit_or, hi]
theorem ni_xor (a b : Nat) : nI a ^^^ nI b = nI (a ^^^ b) := by
  apply Int32.toBitVec_inj.mp
  show BitVec.ofNat 32 a ^^^ BitVec.ofNat 32 b = BitVec.ofNat 32 (a ^^^ b)
  apply BitVec.eq_of_getLsbD_eq
  intro i hi
  simp [BitVec.getLsbD_xor, BitVec.getLsbD_ofNat, Nat.testBit_xor, hi]
theorem is_amt : ∀ k : Fin 32, ((nI k.val &&& 31).toBitVec.smod 32).toNat = k.val := by decide +kernel
theorem ni_shr {n k : Nat} (hn : n < 2 ^ 31) (hk : k < 32) : nI n >>> (nI k &&& 31) = nI (n / 2 ^ k) := pk_shrN hn _ k (is_amt ⟨k, hk⟩)
theorem ni_shl {n k : Nat} (hk : k < 32) (h : n * 2 ^ k < 2 ^ 32) : nI n <<< (nI k &&& 31) = nI (n * 2 ^ k) := pk_shlN _ k (is_amt ⟨k, hk⟩) h
theorem ni_bit {k : Nat} (hk : k < 31) : nI 1 <<< (nI k &&& 31) = nI (2 ^ k) := by
  have h : 2 ^ k < 2 ^ 31 := Nat.pow_lt_pow_right (by decide) hk
  rw [ni_shl (by omega) (by omega), Nat.one_mul]
theorem ni_tb {n k : Nat} (hn : n < 2 ^ 31) (hk : k < 32) : nI n >>> (nI k &&& 31) &&& nI 1 = nI (if n.testBit k then 1 else 0) := by
  rw [ni_shr hn hk, pk_andN (by have := Nat.div_le_self n (2 ^ k); omega) 1 (by decide), Nat.testBit_eq_decide_div_mod_eq]
  congr 1
  by_cases h : n / 2 ^ k % 2 = 1
  · simp [h]
  · have : n / 2 ^ k % 2 = 0 := by omega
    simp [this]
theorem ni_z {n : Nat} (hn : n < 2 ^ 31) : nI n = 0 ↔ n = 0 := by
  rw [show (0 : Int32) = nI 0 from rfl, nI_eq hn (by decide)]
theorem np_pow {n k : Nat} : n &&& 2 ^ k = 0 ↔ n.testBit k = false := by
  constructor
  · intro h
    have h1 := congrArg (fun z => z.testBit k) h
    simp only [Nat.testBit_and, Nat.testBit_two_pow_self, Bool.and_true, Nat.zero_testBit] at h1
    exact h1
  · intro h
    apply Nat.eq_of_testBit_eq
    intro i
    rw [Nat.testBit_and, Nat.testBit_two_pow, Nat.zero_testBit]
    by_cases hk : k = i
    · subst hk
      rw [h, Bool.false_and]
    · rw [decide_eq_false hk, Bool.and_false]
/-- a word's sets that have a bit, that lack it; what comes into it when sets lose the bit, get it -/
def hv_ (f : Nat → Int64) (w b : Nat) : Int64 := if b < 6 then f w &&& hm_ b else if w.testBit (b - 6) then f w else 0
def lk_ (f : Nat → Int64) (w b : Nat) : Int64 := f w &&& (hv_ f w b ^^^ (-1))
def lo_ (f : Nat → Int64) (w b : Nat) : Int64 := if b < 6 then su_l (hv_ f w b) (2 ^ b) else if w.testBit (b - 6) then 0 else f (w ||| 2 ^ (b - 6))
def ra_ (f : Nat → Int64) (w b : Nat) : Int64 := if b < 6 then lk_ f w b <<< ((nI (2 ^ b)).toInt64 &&& 63) else if w.testBit (b - 6) then f (w ^^^ 2 ^ (b - 6)) else 0
def mv_ (f : Nat → Int64) (w b : Nat) (dn : Bool) : Int64 := if dn then lo_ f w b else ra_ f w b
/-- closing: through the words of a bit, through the bits -/
def ci_ (f : Nat → Int64) (b : Nat) (dn : Bool) : Nat → Nat → Int64
  | 0 => f
  | n + 1 => vp_updL (ci_ f b dn n) n (ci_ f b dn n n ||| mv_ (ci_ f b dn n) n b dn)
def co_ (f : Nat → Int64) (dn : Bool) : Nat → Nat → Int64
  | 0 => f
  | b + 1 => ci_ (co_ f dn b) b dn 64
/-- a row filled up to n -/
def fl_ {α : Type} (f : Nat → α) (n : Nat) (x : α) : Nat → α := fun j => if j < n then x else f j
theorem fl_0 {α : Type} (f : Nat → α) (x : α) : fl_ f 0 x = f := by funext j; simp [fl_]
theorem fl_sL (f : Nat → Int64) (n : Nat) (x : Int64) : vp_updL (fl_ f n x) n x = fl_ f (n + 1) x := by
  funext j
  unfold vp_updL fl_
  by_cases h : j = n
  · simp [h]
  · rw [if_neg h]
    by_cases h2 : j < n
    · rw [if_pos h2, if_pos (by omega)]
    · rw [if_neg h2, if_neg (by omega)]
theorem fl_sI (f : Nat → Int32) (n : Nat) (x : Int32) : upd (fl_ f n x) n x = fl_ f (n + 1) x := by
  funext j
  unfold upd fl_
  by_cases h : j = n
  · simp [h]
  · rw [if_neg h]
    by_cases h2 : j < n
    · rw [if_pos h2, if_pos (by omega)]
    · rw [if_neg h2, if_neg (by omega)]
