/-! Bits of a long: lb x i. -/
def ul_ (x : Int64) : Nat := x.toBitVec.toNat
def lb_ (x : Int64) (i : Nat) : Bool := x.toBitVec.getLsbD i
theorem ul_lt (x : Int64) : ul_ x < 2 ^ 64 := x.toBitVec.isLt
theorem ul_inj {x y : Int64} (h : ul_ x = ul_ y) : x = y := Int64.toBitVec_inj.mp (BitVec.eq_of_toNat_eq h)
theorem ul_tb (x : Int64) (i : Nat) : (ul_ x).testBit i = lb_ x i := by
  unfold ul_ lb_
  rw [BitVec.testBit_toNat]
theorem lb_ext {x y : Int64} (h : ∀ i, i < 64 → lb_ x i = lb_ y i) : x = y :=
  Int64.toBitVec_inj.mp (BitVec.eq_of_getLsbD_eq (fun i hi => h i hi))
theorem lb_big {x : Int64} {i : Nat} (h : 64 ≤ i) : lb_ x i = false := BitVec.getLsbD_of_ge _ _ h
theorem lb_and (x y : Int64) (i : Nat) : lb_ (x &&& y) i = (lb_ x i && lb_ y i) := by
  unfold lb_
  rw [Int64.toBitVec_and, BitVec.getLsbD_and]
theorem lb_or (x y : Int64) (i : Nat) : lb_ (x ||| y) i = (lb_ x i || lb_ y i) := by
  unfold lb_
  rw [Int64.toBitVec_or, BitVec.getLsbD_or]
theorem lb_xor (x y : Int64) (i : Nat) : lb_ (x ^^^ y) i = (lb_ x i ^^ lb_ y i) := by
  unfold lb_
  rw [Int64.toBitVec_xor, BitVec.getLsbD_xor]
theorem lb_0 (i : Nat) : lb_ 0 i = false := by
  unfold lb_
  exact BitVec.getLsbD_zero
theorem lb_m1 {i : Nat} (h : i < 64) : lb_ (-1) i = true := by
  have h9 : ∀ j : Fin 64, lb_ (-1) j.val = true := by decide +kernel
  exact h9 ⟨i, h⟩
theorem lb_not (x : Int64) {i : Nat} (h : i < 64) : lb_ (x ^^^ (-1)) i = !lb_ x i := by
  rw [lb_xor, lb_m1 h, Bool.xor_true]
theorem lb_1 (i : Nat) : lb_ 1 i = decide (i = 0) := by
  unfold lb_
  rw [show (1 : Int64).toBitVec = 1#64 from rfl, BitVec.getLsbD_one]
  simp
theorem ls_amt : ∀ k : Fin 64, (((nI k.val).toInt64 &&& 63).toBitVec.smod 64) = BitVec.ofNat 64 k.val := by decide +kernel
theorem lu_amt : ∀ k : Fin 64, (((nI k.val).toInt64.toUInt64 &&& Int64.toUInt64 63).toBitVec % 64) = BitVec.ofNat 64 k.val := by decide +kernel
theorem lb_shl (x : Int64) {k i : Nat} (hk : k < 64) (hi : i < 64) : lb_ (x <<< ((nI k).toInt64 &&& 63)) i = (decide (k ≤ i) && lb_ x (i - k)) := by
  unfold lb_
  show (x.toBitVec <<< (((nI k).toInt64 &&& 63).toBitVec.smod 64)).getLsbD i = _
  rw [ls_amt ⟨k, hk⟩, BitVec.shiftLeft_eq', BitVec.getLsbD_shiftLeft]
  have h1 : (BitVec.ofNat 64 k).toNat = k := by rw [BitVec.toNat_ofNat]; omega
  rw [h1]
  by_cases h : k ≤ i
  · simp [h, hi]
  · simp [h]
theorem lb_shr (x : Int64) {k : Nat} (hk : k < 64) (i : Nat) : lb_ ((x.toUInt64 >>> ((nI k).toInt64.toUInt64 &&& Int64.toUInt64 63)).toInt64) i = lb_ x (k + i) := by
  unfold lb_
  show (x.toBitVec >>> (((nI k).toInt64.toUInt64 &&& Int64.toUInt64 63).toBitVec % 64)).getLsbD i = _
  rw [lu_amt ⟨k, hk⟩, BitVec.ushiftRight_eq', BitVec.getLsbD_ushiftRight]
  have h1 : (BitVec.ofNat 64 k).toNat = k := by rw [BitVec.toNat_ofNat]; omega
  rw [h1]
theorem ul_and (x y : Int64) : ul_ (x &&& y) = ul_ x &&& ul_ y := by
  unfold ul_
  rw [Int64.toBitVec_and, BitVec.toNat_and]
theorem ul_shr (x : Int64) {k : Nat} (hk : k < 64) : ul_ ((x.toUInt64 >>> ((nI k).toInt64.toUInt64 &&& Int64.toUInt64 63)).toInt64) = ul_ x >>> k := by
  apply Nat.eq_of_testBit_eq
  intro i
  rw [ul_tb, lb_shr x hk, Nat.testBit_shiftRight, ul_tb]
theorem ul_sub {x y : Int64} (h : ul_ y ≤ ul_ x) : ul_ (x - y) = ul_ x - ul_ y := by
  have hx := ul_lt x
  unfold ul_ at *
  rw [Int64.toBitVec_sub, BitVec.toNat_sub]
  omega
theorem ul_add {x y : Int64} (h : ul_ x + ul_ y < 2 ^ 64) : ul_ (x + y) = ul_ x + ul_ y := by
  unfold ul_ at *
  rw [Int64.toBitVec_add, BitVec.toNat_add]
  omega
theorem ul_toInt32 (x : Int64) : x.toInt32 = nI (ul_ x) := by
  apply Int32.toBitVec_inj.mp
  apply BitVec.eq_of_toNat_eq
  show (x.toBitVec.signExtend 32).toNat = (BitVec.ofNat 32 (ul_ x)).toNat
  rw [BitVec.signExtend_eq_setWidth_of_le _ (by decide), BitVec.toNat_setWidth, BitVec.toNat_ofNat]
  rfl
/-- how many bits a long has -/
def lc_ (x : Int64) : Nat := cn_ (fun i => lb_ x i) 64
theorem lc_le (x : Int64) : lc_ x ≤ 64 := cn_le _ _

/-- the bit of a word that a shift and a mask leave -/
theorem lb_test (x : Int64) {k : Nat} (hk : k < 64) : ((x.toUInt64 >>> ((nI k).toInt64.toUInt64 &&& Int64.toUInt64 63)).toInt64 &&& 1) = 0 ↔ lb_ x k = false := by
  constructor
  · intro h
    have h1 := congrArg (fun z => lb_ z 0) h
    simp only [lb_and, lb_shr x hk, lb_1, lb_0] at h1
    simpa using h1
  · intro h
    apply lb_ext
    intro i _
    rw [lb_and, lb_shr x hk, lb_1, lb_0]
    by_cases hi : i = 0
    · subst hi
      simpa using h
    · simp [hi]
theorem lb_bit {k i : Nat} (hk : k < 64) (hi : i < 64) : lb_ ((1 : Int64) <<< ((nI k).toInt64 &&& 63)) i = decide (i = k) := by
  rw [lb_shl _ hk hi, lb_1]
  by_cases h : k ≤ i
  · simp [h]
    omega
  · simp [h]
    omega
/-- a family's sets by their places -/
def fb_ (f : Nat → Int64) (p : Nat) : Bool := lb_ (f (p / 64)) (p % 64)
def z1_ (b : Bool) : Int32 := if b then 1 else 0
theorem z1_01 (b : Bool) : z1_ b = 0 ∨ z1_ b = 1 := by cases b <;> simp [z1_]
theorem fb_include {f : Nat → Int64} {p q : Nat} : fb_ (vp_updL f (p / 64) (f (p / 64) ||| (1 : Int64) <<< ((nI (p % 64)).toInt64 &&& 63))) q = (decide (q = p) || fb_ f q) := by
  unfold fb_ vp_updL
  by_cases h : q / 64 = p / 64
  · rw [if_pos h, lb_or, lb_bit (by omega) (by omega), h]
    by_cases h2 : q % 64 = p % 64
    · have : q = p := by omega
      simp [this]
    · have : q ≠ p := fun h3 => h2 (by rw [h3])
      simp [this, h2]
  · have : q ≠ p := fun h3 => h (by rw [h3])
    rw [if_neg h]
    simp [this]
theorem fb_exclude {f : Nat → Int64} {p q : Nat} : fb_ (vp_updL f (p / 64) (f (p / 64) &&& ((1 : Int64) <<< ((nI (p % 64)).toInt64 &&& 63) ^^^ (-1)))) q = (!decide (q = p) && fb_ f q) := by
  unfold fb_ vp_updL
  by_cases h : q / 64 = p / 64
  · rw [if_pos h, lb_and, lb_not _ (by omega), lb_bit (by omega) (by omega), h]
    by_cases h2 : q % 64 = p % 64
    · have : q = p := by omega
      simp [this]
    · have : q ≠ p := fun h3 => h2 (by rw [h3])
      simp [this, h2]
  · have : q ≠ p := fun h3 => h (by rw [h3])
    rw [if_neg h]
    simp [this]
/-- numbers of places -/
theorem np_hi {p : Nat} (hp : p < 4096) : nI p >>> (nI 6 &&& 31) = nI (p / 64) := pk_shrN (by omega) _ 6 (by decide)
theorem np_lo {p : Nat} (hp : p < 4096) : nI p &&& nI 63 = nI (p % 64) := pk_andN (by omega) 6 (by decide)
