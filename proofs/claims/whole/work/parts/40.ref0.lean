/-! The reference: its world of nine cells from a on, and the functions that its methods are. -/
def rf_ (a : Nat) (cI cL : ClassId) (t : Int32) (S K Qt : Nat → Int64) (O1 O2 En Ot Wt : Nat → Int32) : va_W :=
  [(a, .inr (6, [.int t, .ref (a + 1), .ref (a + 2), .ref (a + 3), .ref (a + 4), .ref (a + 5), .ref (a + 6), .ref (a + 7), .ref (a + 8)])), (a + 1, .inl (cL, 640, .inr (.inl S))), (a + 2, .inl (cL, 64, .inr (.inl K))), (a + 3, .inl (cL, 64, .inr (.inl Qt))),
   (a + 4, .inl (cI, 4096, .inl O1)), (a + 5, .inl (cI, 4096, .inl O2)), (a + 6, .inl (cI, 12, .inl En)), (a + 7, .inl (cI, 12, .inl Ot)), (a + 8, .inl (cI, 12, .inl Wt))]
abbrev rp_ (D : va_G) (a : Nat) (cI cL : ClassId) (t : Int32) (S K Qt : Nat → Int64) (O1 O2 En Ot Wt : Nat → Int32) : Heap → Prop := va_P D cl_ (rf_ a cI cL t S K Qt O1 O2 En Ot Wt)
def cm_ (a : Nat) : Nat → Prop := fun q => a ≤ q ∧ q < a + 9
section MW
variable {a : Nat} {cI cL : ClassId} {t : Int32} {S K Qt : Nat → Int64} {O1 O2 En Ot Wt : Nat → Int32}
theorem rf_p0 : (rf_ a cI cL t S K Qt O1 O2 En Ot Wt)[0]? = some (a, .inr (6, [.int t, .ref (a + 1), .ref (a + 2), .ref (a + 3), .ref (a + 4), .ref (a + 5), .ref (a + 6), .ref (a + 7), .ref (a + 8)])) := rfl
theorem rf_p1 : (rf_ a cI cL t S K Qt O1 O2 En Ot Wt)[1]? = some (a + 1, .inl (cL, 640, .inr (.inl S))) := rfl
theorem rf_p2 : (rf_ a cI cL t S K Qt O1 O2 En Ot Wt)[2]? = some (a + 2, .inl (cL, 64, .inr (.inl K))) := rfl
theorem rf_p3 : (rf_ a cI cL t S K Qt O1 O2 En Ot Wt)[3]? = some (a + 3, .inl (cL, 64, .inr (.inl Qt))) := rfl
theorem rf_p4 : (rf_ a cI cL t S K Qt O1 O2 En Ot Wt)[4]? = some (a + 4, .inl (cI, 4096, .inl O1)) := rfl
theorem rf_p5 : (rf_ a cI cL t S K Qt O1 O2 En Ot Wt)[5]? = some (a + 5, .inl (cI, 4096, .inl O2)) := rfl
theorem rf_p6 : (rf_ a cI cL t S K Qt O1 O2 En Ot Wt)[6]? = some (a + 6, .inl (cI, 12, .inl En)) := rfl
theorem rf_p7 : (rf_ a cI cL t S K Qt O1 O2 En Ot Wt)[7]? = some (a + 7, .inl (cI, 12, .inl Ot)) := rfl
theorem rf_p8 : (rf_ a cI cL t S K Qt O1 O2 En Ot Wt)[8]? = some (a + 8, .inl (cI, 12, .inl Wt)) := rfl
theorem rf_ad : ∀ (k : Nat) (q : Nat × va_E), (rf_ a cI cL t S K Qt O1 O2 En Ot Wt)[k]? = some q → q.1 = a + k ∧ k < 9
  | 0, q, h => by cases h; exact ⟨rfl, by decide⟩
  | 1, q, h => by cases h; exact ⟨rfl, by decide⟩
  | 2, q, h => by cases h; exact ⟨rfl, by decide⟩
  | 3, q, h => by cases h; exact ⟨rfl, by decide⟩
  | 4, q, h => by cases h; exact ⟨rfl, by decide⟩
  | 5, q, h => by cases h; exact ⟨rfl, by decide⟩
  | 6, q, h => by cases h; exact ⟨rfl, by decide⟩
  | 7, q, h => by cases h; exact ⟨rfl, by decide⟩
  | 8, q, h => by cases h; exact ⟨rfl, by decide⟩
  | k + 9, q, h => by cases h
theorem rf_D : va_D (cm_ a) (rf_ a cI cL t S K Qt O1 O2 En Ot Wt) := by
  refine ⟨fun i j p q hp hq he => ?_, fun k q hq => ?_⟩
  · have h1 := rf_ad i p hp
    have h2 := rf_ad j q hq
    omega
  · have h1 := rf_ad k q hq
    exact ⟨by omega, by omega⟩
end MW
def rw_ (S : Nat → Int64) (i : Nat) : Nat → Int64 := fun k => S (64 * i + k)
def tu_ (n : Nat) : Nat → Nat
  | 0 => 0
  | k + 1 => tu_ n k * 2 ^ 1 ||| (if n.testBit k then 1 else 0)
theorem tu_lt (n : Nat) : ∀ k, tu_ n k < 2 ^ k
  | 0 => by rw [tu_]; decide
  | k + 1 => by
    rw [tu_]
    have := tu_lt n k
    refine Nat.or_lt_two_pow (by rw [Nat.pow_succ]; omega) ?_
    have h2 : 2 ≤ 2 ^ (k + 1) := by rw [Nat.pow_succ]; have := Nat.two_pow_pos k; omega
    split <;> omega
theorem tu_12 (n : Nat) : tu_ n 12 < 4096 := tu_lt n 12
theorem ms_ix {i p : Nat} (hp : p < 4096) : nI 64 * nI i + nI p / nI 64 = nI (64 * i + p / 64) := by
  rw [pk_mul, pk_div (by omega) (by decide) (by decide), nI_add]
theorem ms_i2 (i n : Nat) : nI 64 * nI i + nI n = nI (64 * i + n) := by rw [pk_mul, nI_add]
theorem ms_dv {p : Nat} (hp : p < 4096) : nI p / nI 64 = nI (p / 64) := pk_div (by omega) (by decide) (by decide)
theorem ms_rm {p : Nat} (hp : p < 4096) : nI p - nI p / nI 64 * nI 64 = nI (p % 64) := pk_rem (by omega) (by decide) (by decide)
theorem lb_sar (x : Int64) {k : Nat} (hk : k < 64) : lb_ (x >>> ((nI k).toInt64 &&& 63)) 0 = lb_ x k := by
  unfold lb_
  rw [Int64.toBitVec_shiftRight, ls_amt ⟨k, hk⟩]
  show (x.toBitVec.sshiftRight (BitVec.ofNat 64 k).toNat).getLsbD 0 = _
  rw [BitVec.toNat_ofNat, Nat.mod_eq_of_lt (by omega), BitVec.getLsbD_sshiftRight]
  simp [hk]
theorem lb_sar1 (x : Int64) {k : Nat} (hk : k < 64) : (x >>> ((nI k).toInt64 &&& 63)) &&& 1 = if lb_ x k then 1 else 0 := by
  apply lb_ext
  intro i hi
  rw [lb_and, lb_1]
  by_cases h0 : i = 0
  · subst h0
    rw [lb_sar x hk]
    cases lb_ x k <;> simp [lb_0, lb_1]
  · cases lb_ x k <;> simp [lb_0, lb_1, h0]
theorem lb_sarI (x : Int64) {k : Nat} (hk : k < 64) : ((x >>> ((nI k).toInt64 &&& 63)) &&& 1).toInt32 = nI (if lb_ x k then 1 else 0) := by
  rw [lb_sar1 x hk]
  cases lb_ x k <;> decide
theorem lb_sarT (x : Int64) {k : Nat} (hk : k < 64) : lg_cmp ((x >>> ((nI k).toInt64 &&& 63)) &&& 1) 1 = 0 ↔ lb_ x k = true := by
  rw [lg_cmp_eq, lb_sar1 x hk]
  cases lb_ x k <;> decide
def mk_ (K : Nat → Int64) (p : Nat) : Nat → Int64 := vp_updL K (p / 64) (K (p / 64) ||| (1 : Int64) <<< ((nI (p % 64)).toInt64 &&& 63))
def un_ (K : Nat → Int64) (p : Nat) : Nat → Int64 := vp_updL K (p / 64) (K (p / 64) &&& ((1 : Int64) <<< ((nI (p % 64)).toInt64 &&& 63) ^^^ (-1)))
/-- made, one after another -/
def mkl_ (K : Nat → Int64) (f : Nat → Bool) (g : Nat → Nat) : Nat → Nat → Int64
  | 0 => K
  | n + 1 => if f n then mk_ (mkl_ K f g n) (g n) else mkl_ K f g n
/-- row i of S, from the first n words of K -/
def sl_ (S : Nat → Int64) (i : Nat) (K : Nat → Int64) (n : Nat) : Nat → Int64 := fun j => if 64 * i ≤ j ∧ j < 64 * i + n then K (j - 64 * i) else S j
theorem sl_0 (S : Nat → Int64) (i : Nat) (K : Nat → Int64) : sl_ S i K 0 = S := by funext j; simp only [sl_]; rw [if_neg (by omega)]
theorem sl_s (S : Nat → Int64) (i : Nat) (K : Nat → Int64) (n : Nat) : vp_updL (sl_ S i K n) (64 * i + n) (K n) = sl_ S i K (n + 1) := by
  funext j
  by_cases hj : j = 64 * i + n
  · subst hj
    rw [pk_uLs]
    simp only [sl_]
    rw [if_pos (by omega), Nat.add_sub_cancel_left]
  · rw [pk_uLn hj]
    simp only [sl_]
    by_cases h2 : 64 * i ≤ j ∧ j < 64 * i + n
    · rw [if_pos h2, if_pos (by omega)]
    · rw [if_neg h2, if_neg (by omega)]
theorem sl_K {S K K' : Nat → Int64} {i : Nat} : ∀ {n : Nat}, (∀ k, k < n → K k = K' k) → sl_ S i K n = sl_ S i K' n := by
  intro n h
  funext j
  simp only [sl_]
  by_cases h2 : 64 * i ≤ j ∧ j < 64 * i + n
  · rw [if_pos h2, if_pos h2, h _ (by omega)]
  · rw [if_neg h2, if_neg h2]
theorem fl_sL' (f : Nat → Int64) (n : Nat) (x : Int64) : vp_updL (fl_ f n x) n x = fl_ f (n + 1) x := fl_sL f n x
def ll_ (f : Nat → Bool) (O : Nat → Int32) (n : Nat) : Nat → Int32 := fun j => if j < n then z1_ (f j) else O j
theorem ll_0 (f : Nat → Bool) (O : Nat → Int32) : ll_ f O 0 = O := by funext j; simp [ll_]
theorem ll_s (f : Nat → Bool) (O : Nat → Int32) (n : Nat) : upd (ll_ f O n) n (z1_ (f n)) = ll_ f O (n + 1) := by
  funext j
  by_cases hj : j = n
  · subst hj; rw [pk_us]; simp only [ll_]; rw [if_pos (by omega)]
  · rw [pk_un hj]
    simp only [ll_]
    by_cases h2 : j < n
    · rw [if_pos h2, if_pos (by omega)]
    · rw [if_neg h2, if_neg (by omega)]
/-- sums, and parts of them, along one element; along all of them -/
def zi_ (g : Int32 → Int32 → Int32) (ov : Bool) (b : Nat) (r : Nat → Int32) : Nat → Nat → Int32
  | 0 => r
  | p + 1 => if p.testBit b then (if ov then zi_ g ov b r p else upd (zi_ g ov b r p) p (g (zi_ g ov b r p p) (zi_ g ov b r p (p ^^^ 2 ^ b)))) else (if ov then upd (zi_ g ov b r p) p (g (zi_ g ov b r p p) (zi_ g ov b r p (p ||| 2 ^ b))) else zi_ g ov b r p)
def zo_ (g : Int32 → Int32 → Int32) (ov : Bool) (r : Nat → Int32) : Nat → Nat → Int32
  | 0 => r
  | b + 1 => zi_ g ov b (zo_ g ov r b) 4096
theorem ms_and {p b : Nat} (hp : p < 4096) (hb : b < 12) : nI p &&& nI (2 ^ b) = 0 ↔ p.testBit b = false := by
  rw [ni_and, ni_z (Nat.lt_of_le_of_lt Nat.and_le_left (by omega)), np_pow]
theorem ms_or {p b : Nat} (hp : p < 4096) (hb : b < 12) : p ||| 2 ^ b < 4096 := Nat.or_lt_two_pow (n := 12) hp (Nat.pow_lt_pow_right (by decide) hb)
theorem ms_xor {p b : Nat} (hp : p < 4096) (hb : b < 12) : p ^^^ 2 ^ b < 4096 := Nat.xor_lt_two_pow (n := 12) hp (Nat.pow_lt_pow_right (by decide) hb)
theorem ms_2b {b : Nat} (hb : b < 12) : 2 ^ b < 4096 := by
  have h : 2 ^ b < 2 ^ 12 := Nat.pow_lt_pow_right (by decide) hb
  exact h
def mul_ (x y : Nat → Int32) (n : Nat) : Nat → Int32 := fun j => if j < n then x j * y j else x j
theorem mul_0 (x y : Nat → Int32) : mul_ x y 0 = x := by funext j; simp [mul_]
theorem mul_s (x y : Nat → Int32) (n : Nat) : upd (mul_ x y n) n (mul_ x y n n * y n) = mul_ x y (n + 1) := by
  funext j
  by_cases hj : j = n
  · subst hj; rw [pk_us]; simp only [mul_]; rw [if_neg (by omega), if_pos (by omega)]
  · rw [pk_un hj]
    simp only [mul_]
    by_cases h2 : j < n
    · rw [if_pos h2, if_pos (by omega)]
    · rw [if_neg h2, if_neg (by omega)]
theorem z1_0 {b : Bool} : z1_ b = 0 ↔ b = false := by cases b <;> simp [z1_]
theorem z1_n {b : Bool} : ¬ z1_ b = 0 ↔ b = true := by cases b <;> simp [z1_]
