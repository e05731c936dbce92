/-! The functions of the reference's other methods. -/
def fa_ (g : Nat → Bool) : Nat → Bool
  | 0 => true
  | n + 1 => fa_ g n && g n
theorem fa_s {g : Nat → Bool} {n : Nat} (h : fa_ g n = true) (h2 : g n = true) : fa_ g (n + 1) = true := by rw [fa_, h, h2]; rfl
theorem fa_no {g : Nat → Bool} {k : Nat} (h : g k = false) : ∀ {n : Nat}, k < n → fa_ g n = false
  | 0, hk => absurd hk (Nat.not_lt_zero _)
  | n + 1, hk => by
    rw [fa_]
    by_cases hkn : k = n
    · subst hkn; rw [h]; exact Bool.and_false _
    · rw [fa_no h (show k < n by omega)]; rfl
theorem fa_all {g : Nat → Bool} : ∀ {n : Nat}, fa_ g n = true ↔ ∀ k, k < n → g k = true
  | 0 => ⟨fun _ k hk => absurd hk (Nat.not_lt_zero _), fun _ => rfl⟩
  | n + 1 => by
    rw [fa_, Bool.and_eq_true, fa_all]
    constructor
    · rintro ⟨h1, h2⟩ k hk
      by_cases hkn : k = n
      · rw [hkn]; exact h2
      · exact h1 k (by omega)
    · intro h; exact ⟨fun k hk => h k (by omega), h n (by omega)⟩
def ex_ (g : Nat → Bool) : Nat → Bool
  | 0 => false
  | n + 1 => ex_ g n || g n
theorem ex_t {g : Nat → Bool} {n : Nat} (h : g n = true) : ex_ g (n + 1) = true := by rw [ex_, h]; exact Bool.or_true _
theorem ex_u {g : Nat → Bool} {n : Nat} (h : ex_ g n = true) : ex_ g (n + 1) = true := by rw [ex_, h]; rfl
theorem ex_f {g : Nat → Bool} {n : Nat} (h : ex_ g n = false) (h2 : g n = false) : ex_ g (n + 1) = false := by rw [ex_, h, h2]; rfl
theorem ex_in {g : Nat → Bool} {k : Nat} (h : g k = true) : ∀ {n : Nat}, k < n → ex_ g n = true
  | 0, hk => absurd hk (Nat.not_lt_zero _)
  | n + 1, hk => by
    by_cases hkn : k = n
    · subst hkn; exact ex_t h
    · exact ex_u (ex_in h (show k < n by omega))
theorem ex_iff {g : Nat → Bool} : ∀ {n : Nat}, ex_ g n = true ↔ ∃ k, k < n ∧ g k = true
  | 0 => ⟨fun h => Bool.noConfusion h, fun ⟨k, hk, _⟩ => absurd hk (Nat.not_lt_zero _)⟩
  | n + 1 => by
    rw [ex_, Bool.or_eq_true, ex_iff]
    constructor
    · rintro (⟨k, hk, h⟩ | h)
      · exact ⟨k, by omega, h⟩
      · exact ⟨n, by omega, h⟩
    · rintro ⟨k, hk, h⟩
      by_cases hkn : k = n
      · right; rw [← hkn]; exact h
      · left; exact ⟨k, by omega, h⟩
def aef_ (En : Nat → Int32) (n : Nat) : Nat → Bool := fun e => !n.testBit e || !decide (En e < 0)
/-- the one edge of a set at a vertex -/
def oe_ (En Ot : Nat → Int32) (n : Nat) (v : Int32) : Nat → Int32 × Nat
  | 0 => (-1, 0)
  | e + 1 => if n.testBit e && (decide (En e = v) || decide (Ot e = v)) then (nI e, (oe_ En Ot n v e).2 + 1) else oe_ En Ot n v e
section OE
variable {En Ot : Nat → Int32} {n : Nat} {v : Int32}
theorem oe_t {e : Nat} (h : (n.testBit e && (decide (En e = v) || decide (Ot e = v))) = true) : oe_ En Ot n v (e + 1) = (nI e, (oe_ En Ot n v e).2 + 1) := by rw [oe_, if_pos h]
theorem oe_f {e : Nat} (h : (n.testBit e && (decide (En e = v) || decide (Ot e = v))) = false) : oe_ En Ot n v (e + 1) = oe_ En Ot n v e := by rw [oe_, if_neg (by rw [h]; decide)]
theorem oe_le : ∀ e, (oe_ En Ot n v e).2 ≤ e
  | 0 => Nat.le_refl _
  | e + 1 => by
    have := oe_le e
    rw [oe_]
    split
    · show (oe_ En Ot n v e).2 + 1 ≤ e + 1; omega
    · omega
theorem oe_in : ∀ e, (oe_ En Ot n v e).1 = -1 ∨ ∃ k, k < e ∧ (oe_ En Ot n v e).1 = nI k ∧ n.testBit k = true
  | 0 => Or.inl rfl
  | e + 1 => by
    rw [oe_]
    split
    · rename_i h
      rw [Bool.and_eq_true] at h
      exact Or.inr ⟨e, by omega, rfl, h.1⟩
    · rcases oe_in e with h | ⟨k, hk, h1, h2⟩
      · exact Or.inl h
      · exact Or.inr ⟨k, by omega, h1, h2⟩
end OE
def oer_ (En Ot : Nat → Int32) (n : Nat) (v : Int32) : Int32 := if (oe_ En Ot n v 12).2 = 1 then (oe_ En Ot n v 12).1 else -1
theorem oer_in (En Ot : Nat → Int32) (n : Nat) (v : Int32) : oer_ En Ot n v = -1 ∨ ∃ k, k < 12 ∧ oer_ En Ot n v = nI k ∧ n.testBit k = true := by
  unfold oer_
  split
  · exact oe_in 12
  · exact Or.inl rfl
/-- along a set's edges -/
def ip_ (En Ot : Nat → Int32) (t : Int32) : Nat → Nat × Int32 × Int32 → Bool
  | 0, _ => false
  | n + 1, x => if x.2.1 = t then decide (x.1 = 0) else if oer_ En Ot x.1 x.2.1 < 0 then false else
      (fun e => (fun w => if (x.2.2 >>> (w &&& 31)) &&& nI 1 = nI 1 then false else ip_ En Ot t n (x.1 ^^^ 2 ^ e, w, x.2.2 ||| nI 1 <<< (w &&& 31))) (if En e = x.2.1 then Ot e else En e)) (oer_ En Ot x.1 x.2.1).toNatClampNeg
section IP
variable {En Ot : Nat → Int32} {t v b w : Int32} {n lf e : Nat}
theorem ip_end (h : v = t) : ip_ En Ot t (n + 1) (lf, v, b) = decide (lf = 0) := by rw [ip_]; exact if_pos h
theorem ip_neg (h : ¬ v = t) (h2 : oer_ En Ot lf v = -1) : ip_ En Ot t (n + 1) (lf, v, b) = false := by
  rw [ip_]
  exact (if_neg h).trans (if_pos (show oer_ En Ot lf v < 0 by rw [h2]; decide))
theorem ip_on (h : ¬ v = t) (h2 : oer_ En Ot lf v = nI e) (he : e < 12) (hw : (if En e = v then Ot e else En e) = w) : ip_ En Ot t (n + 1) (lf, v, b) = if (b >>> (w &&& 31)) &&& nI 1 = nI 1 then false else ip_ En Ot t n (lf ^^^ 2 ^ e, w, b ||| nI 1 <<< (w &&& 31)) := by
  rw [ip_]
  refine (if_neg h).trans ((if_neg (show ¬ oer_ En Ot lf v < 0 by rw [h2]; exact nI_pos (by omega))).trans ?_)
  show (fun e => (fun w => if (b >>> (w &&& 31)) &&& nI 1 = nI 1 then false else ip_ En Ot t n (lf ^^^ 2 ^ e, w, b ||| nI 1 <<< (w &&& 31))) (if En e = v then Ot e else En e)) (oer_ En Ot lf v).toNatClampNeg = _
  rw [h2, nI_clamp (by omega)]
  show (fun w => if (b >>> (w &&& 31)) &&& nI 1 = nI 1 then false else ip_ En Ot t n (lf ^^^ 2 ^ e, w, b ||| nI 1 <<< (w &&& 31))) (if En e = v then Ot e else En e) = _
  rw [hw]
theorem xor_less (h : lf.testBit e = true) : lf ^^^ 2 ^ e < lf := by
  have h1 : lf ^^^ 2 ^ e = lf &&& (lf ^^^ 2 ^ e) := by
    apply Nat.eq_of_testBit_eq
    intro j
    rw [Nat.testBit_and, Nat.testBit_xor]
    by_cases hj : j = e
    · subst hj; rw [h, Nat.testBit_two_pow_self]; rfl
    · rw [Nat.testBit_two_pow_of_ne (fun h9 => hj h9.symm), Bool.xor_false, Bool.and_self]
  have h2 : lf ^^^ 2 ^ e ≤ lf := by rw [h1]; exact Nat.and_le_left
  refine Nat.lt_of_le_of_ne h2 (fun h3 => ?_)
  have h4 : (lf ^^^ 2 ^ e).testBit e = lf.testBit e := by rw [h3]
  rw [Nat.testBit_xor, h, Nat.testBit_two_pow_self] at h4
  exact Bool.noConfusion h4
end IP
def bo_ (En Ot : Nat → Int32) (e : Nat) : Int32 := nI 1 <<< (En e &&& 31) ||| nI 1 <<< (Ot e &&& 31)
def tm_ (En Ot : Nat → Int32) (n : Nat) : Nat → Int32
  | 0 => 0
  | e + 1 => if n.testBit e then tm_ En Ot n e ||| bo_ En Ot e else tm_ En Ot n e
def imf_ (En Ot : Nat → Int32) (n : Nat) : Nat → Bool := fun e => !n.testBit e || decide (tm_ En Ot n e &&& bo_ En Ot e = 0)
def we_ (Wt : Nat → Int32) (p : Nat) : Nat → Int32
  | 0 => 0
  | e + 1 => we_ Wt p e + (if p.testBit (11 - e) then Wt e else 0)
/-- the heaviest so far -/
def ho_ (f : Nat → Bool) (w : Nat → Int32) : Nat → Option Nat
  | 0 => none
  | p + 1 => if f p then (match ho_ f w p with
      | none => some p
      | some q => if w q < w p then some p else some q) else ho_ f w p
def hw_ (w : Nat → Int32) (o : Option Nat) : Int32 := match o with
  | none => 0
  | some q => w q
theorem ho_lt {f : Nat → Bool} {w : Nat → Int32} : ∀ {n q : Nat}, ho_ f w n = some q → q < n
  | 0, q, h => by cases h
  | n + 1, q, h => by
    rw [ho_] at h
    split at h
    · split at h
      · cases h; omega
      · rename_i q9 hq9
        split at h
        · cases h; omega
        · cases h; have := ho_lt hq9; omega
    · have := ho_lt h; omega
/-- the different parts of one length -/
def dn_ (f : Nat → Bool) (len : Nat) (c : Nat → Nat) (n fr : Nat) : Bool := ex_ (fun k => f (fr + len / 2 + k)) (len / 2) && fa_ (fun k => !fa_ (fun j => f (c k + j) == f (fr + j)) len) n
def dq_ (f : Nat → Bool) (len : Nat) : Nat → Nat × (Nat → Nat)
  | 0 => (0, fun _ => 0)
  | q + 1 => if dn_ f len (dq_ f len q).2 (dq_ f len q).1 (q * len) then ((dq_ f len q).1 + 1, va_up (dq_ f len q).2 (dq_ f len q).1 (q * len)) else dq_ f len q
def oc_ (O : Nat → Int32) (x : Nat × (Nat → Nat)) : Nat → Int32 := fun j => if j < x.1 then nI (x.2 j) else O j
theorem oc_0 (O : Nat → Int32) (c : Nat → Nat) : oc_ O (0, c) = O := by funext j; simp [oc_]
theorem oc_s (O : Nat → Int32) (n : Nat) (c : Nat → Nat) (v : Nat) : upd (oc_ O (n, c)) n (nI v) = oc_ O (n + 1, va_up c n v) := by
  funext j
  by_cases hj : j = n
  · subst hj; rw [pk_us]; simp only [oc_]; rw [if_pos (by omega), va_up_self]
  · rw [pk_un hj]
    simp only [oc_]
    rw [va_up_ne _ _ hj]
    by_cases h2 : j < n
    · rw [if_pos h2, if_pos (by omega)]
    · rw [if_neg h2, if_neg (by omega)]
theorem dq_b {f : Nat → Bool} {len : Nat} : ∀ q, (dq_ f len q).1 ≤ q ∧ ∀ k, k < (dq_ f len q).1 → ∃ r, r < q ∧ (dq_ f len q).2 k = r * len
  | 0 => ⟨Nat.le_refl _, fun k hk => absurd hk (Nat.not_lt_zero _)⟩
  | q + 1 => by
    have h := dq_b (f := f) (len := len) q
    rw [dq_]
    split
    · refine ⟨by show (dq_ f len q).1 + 1 ≤ q + 1; omega, fun k hk => ?_⟩
      by_cases hkn : k = (dq_ f len q).1
      · exact ⟨q, by omega, by rw [hkn]; exact va_up_self _ _ _⟩
      · obtain ⟨r, h1, h2⟩ := h.2 k (by have : k < (dq_ f len q).1 + 1 := hk; omega)
        exact ⟨r, by omega, by show va_up (dq_ f len q).2 (dq_ f len q).1 (q * len) k = _; rw [va_up_ne _ _ hkn]; exact h2⟩
    · refine ⟨by omega, fun k hk => ?_⟩
      obtain ⟨r, h1, h2⟩ := h.2 k hk
      exact ⟨r, by omega, h2⟩
theorem dq_t {f : Nat → Bool} {len q : Nat} (h : dn_ f len (dq_ f len q).2 (dq_ f len q).1 (q * len) = true) : dq_ f len (q + 1) = ((dq_ f len q).1 + 1, va_up (dq_ f len q).2 (dq_ f len q).1 (q * len)) := by rw [dq_, if_pos h]
theorem dq_f {f : Nat → Bool} {len q : Nat} (h : dn_ f len (dq_ f len q).2 (dq_ f len q).1 (q * len) = false) : dq_ f len (q + 1) = dq_ f len q := by rw [dq_, if_neg (by rw [h]; decide)]
def szn_ (f : Nat → Bool) : Nat → Nat
  | 0 => 0
  | m + 1 => szn_ f m + (dq_ f (2 ^ (12 - m)) (2 ^ m)).1
def szo_ (f : Nat → Bool) (O : Nat → Int32) : Nat → Nat → Int32
  | 0 => O
  | m + 1 => oc_ (szo_ f O m) (dq_ f (2 ^ (12 - m)) (2 ^ m))
section FR
variable {p : Program} {l : Launch} {e : Env} {R : Room} {s : State} {m : MethodId} {args : Array Value} {below : List Frame} {meth : Method} {c : Code} {nL : Nat} {A : Nat → Prop} {cells slots : Nat} {Q : State → Prop} {pc : Nat} {st : List Value}
theorem aw_fuelR {σ : Type} (V : σ → Prop) (μ : σ → Nat) (F : σ → Heap → Prop) (G : σ → List (Option Value)) (r : Nat → σ → Bool) (B : Bool) (n : Nat) (x : σ) (hV : V x) (hx : μ x < n) (hr : r n x = B)
    (h : ∀ (n : Nat) (x : σ), V x → μ x < n + 1 → (∀ y : σ, V y → μ y < n → r n y = B → aw p l e R s m args below meth c nL A cells slots Q (F y) (G y) pc st) → r (n + 1) x = B → aw p l e R s m args below meth c nL A cells slots Q (F x) (G x) pc st) :
    aw p l e R s m args below meth c nL A cells slots Q (F x) (G x) pc st := by
  have key : ∀ (n : Nat) (x : σ), V x → μ x < n → r n x = B → aw p l e R s m args below meth c nL A cells slots Q (F x) (G x) pc st := by
    intro n
    induction n with
    | zero => intro x _ hx; exact absurd hx (Nat.not_lt_zero _)
    | succ n ih => intro x hV hx hr; exact h n x hV hx ih hr
  exact key n x hV hx hr
end FR
