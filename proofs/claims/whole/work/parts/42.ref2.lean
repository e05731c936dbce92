/-! Loops by a measure; switches; the functions of the larger methods. -/
section FU
variable {p : Program} {l : Launch} {e : Env} {R : Room} {s : State} {m : MethodId} {args : Array Value} {below : List Frame} {meth : Method} {c : Code} {cc : ByteArray} {nL : Nat} {Ts : List Cond} {own : String} {D : va_G} {cl : List vw_C} {tys : List (ClassId × FieldType)} {A : Nat → Prop} {cells slots : Nat} {Q : State → Prop} {P : Heap → Prop} {lw : List (Option Value)} {pc pc2 : Nat} {st rest : List Value}
theorem aw_fuel {σ : Type} (V : σ → Prop) (μ : σ → Nat) (F : σ → Heap → Prop) (G : σ → List (Option Value)) (FE : Nat → σ → Heap → Prop) (E : Nat → σ → List (Option Value)) (n : Nat) (x : σ) (hV : V x) (hx : μ x < n)
    (hE : aw p l e R s m args below meth c nL A cells slots Q (FE n x) (E n x) pc2 st)
    (h : ∀ (n : Nat) (x : σ), V x → μ x < n + 1 → (∀ y : σ, V y → μ y < n → aw p l e R s m args below meth c nL A cells slots Q (FE n y) (E n y) pc2 st → aw p l e R s m args below meth c nL A cells slots Q (F y) (G y) pc st) → aw p l e R s m args below meth c nL A cells slots Q (FE (n + 1) x) (E (n + 1) x) pc2 st → aw p l e R s m args below meth c nL A cells slots Q (F x) (G x) pc st) :
    aw p l e R s m args below meth c nL A cells slots Q (F x) (G x) pc st := by
  have key : ∀ (n : Nat) (x : σ), V x → μ x < n → aw p l e R s m args below meth c nL A cells slots Q (FE n x) (E n x) pc2 st → aw p l e R s m args below meth c nL A cells slots Q (F x) (G x) pc st := by
    intro n
    induction n with
    | zero => intro x _ hx; exact absurd hx (Nat.not_lt_zero _)
    | succ n ih => intro x hV hx hE; exact h n x hV hx ih hE
  exact key n x hV hx hE
theorem aw_tabIn (C : cx p s m args meth c cc nL Ts own D cl tys) {dflt lo hi : Int} {offs : Array Int} {len : Nat} {x : Int32} {off : Int} {tgt : Nat} (hdg : decode cc pc = .ok (.tableswitch dflt lo hi offs, len)) (h1 : ¬ x.toInt < lo) (h2 : ¬ hi < x.toInt) (ho : offs[(x.toInt - lo).toNat]? = some off) (ht : (pc : Int) + off = (tgt : Int))
    (k : aw p l e R s m args below meth c nL A cells slots Q P lw tgt rest) : aw p l e R s m args below meth c nL A cells slots Q P lw pc (.int x :: rest) := fun ls H locs hl hP hS => lv_tableIn C.1.1 C.1.2.1 hdg h1 h2 ho ht (k ls H locs hl hP hS)
theorem aw_tabOut (C : cx p s m args meth c cc nL Ts own D cl tys) {dflt lo hi : Int} {offs : Array Int} {len : Nat} {x : Int32} {tgt : Nat} (hdg : decode cc pc = .ok (.tableswitch dflt lo hi offs, len)) (h : x.toInt < lo ∨ hi < x.toInt) (ht : (pc : Int) + dflt = (tgt : Int))
    (k : aw p l e R s m args below meth c nL A cells slots Q P lw tgt rest) : aw p l e R s m args below meth c nL A cells slots Q P lw pc (.int x :: rest) := fun ls H locs hl hP hS => lv_tableOut C.1.1 C.1.2.1 hdg h ht (k ls H locs hl hP hS)
end FU
/-- all of a family's sets, joined -/
def al_ (g : Nat → Bool) : Nat → Nat
  | 0 => 0
  | n + 1 => if g n then al_ g n ||| n else al_ g n
theorem al_lt (g : Nat → Bool) : ∀ {n : Nat}, n ≤ 4096 → al_ g n < 4096
  | 0, _ => by rw [al_]; decide
  | n + 1, h => by
    rw [al_]
    split
    · exact Nat.or_lt_two_pow (n := 12) (al_lt g (by omega)) (by omega)
    · exact al_lt g (by omega)
/-- down through the parts of all -/
def sq_ (ok : Nat → Bool) (all : Nat) : Nat → Nat → Bool
  | 0, _ => true
  | n + 1, b => if ok b then (if b = 0 then true else sq_ ok all n ((b - 1) &&& all)) else false
def sr_ (g : Nat → Bool) (a all : Nat) : Nat → Nat → (Nat → Int64) → Nat → Int64
  | 0, _, K => K
  | n + 1, b, K => if b = 0 then (if g b then un_ K (a ||| b) else K) else sr_ g a all n ((b - 1) &&& all) (if g b then un_ K (a ||| b) else K)
def qo_ (f g : Nat → Bool) (all a : Nat) : Bool := if a &&& all = 0 then sq_ (fun b => !g b || f (a ||| b)) all 4096 all else false
def ro_ (q g : Nat → Bool) (all : Nat) (K : Nat → Int64) : Nat → Nat → Int64
  | 0 => K
  | a + 1 => if q a then sr_ g a all 4096 all (ro_ q g all K a) else ro_ q g all K a
theorem sm_lt {b all : Nat} (h : ¬ b = 0) : (b - 1) &&& all < b := Nat.lt_of_le_of_lt Nat.and_le_left (by omega)
theorem or12 {a b : Nat} (ha : a < 4096) (hb : b < 4096) : a ||| b < 4096 := Nat.or_lt_two_pow (n := 12) ha hb
/-- the first n words of f by a function -/
def fw_ (g f : Nat → Int64) (n : Nat) : Nat → Int64 := fun j => if j < n then g j else f j
theorem fw_0 (g f : Nat → Int64) : fw_ g f 0 = f := by funext j; simp [fw_]
theorem fw_s (g f : Nat → Int64) (n : Nat) : vp_updL (fw_ g f n) n (g n) = fw_ g f (n + 1) := by
  funext j
  by_cases hj : j = n
  · subst hj; rw [pk_uLs]; simp only [fw_]; rw [if_pos (by omega)]
  · rw [pk_uLn hj]
    simp only [fw_]
    by_cases h2 : j < n
    · rw [if_pos h2, if_pos (by omega)]
    · rw [if_neg h2, if_neg (by omega)]
theorem fw_at (g f : Nat → Int64) {n j : Nat} (h : n ≤ j) : fw_ g f n j = f j := by simp only [fw_]; rw [if_neg (by omega)]
/-- two families together -/
def pz_ (ov : Bool) (f g : Nat → Bool) (O1 O2 : Nat → Int32) : Nat → Int32 := zo_ (· - ·) ov (mul_ (zo_ (· + ·) ov (ll_ f O1 4096) 12) (zo_ (· + ·) ov (ll_ g O2 4096) 12) 4096) 12
theorem mkl_t {K : Nat → Int64} {f : Nat → Bool} {g : Nat → Nat} {n : Nat} (h : f n = true) : mkl_ K f g (n + 1) = mk_ (mkl_ K f g n) (g n) := by rw [mkl_, if_pos h]
theorem mkl_f {K : Nat → Int64} {f : Nat → Bool} {g : Nat → Nat} {n : Nat} (h : f n = false) : mkl_ K f g (n + 1) = mkl_ K f g n := by rw [mkl_, if_neg (by rw [h]; decide)]
def ps_ (S : Nat → Int64) (i p : Nat) : Nat → Int64 := vp_updL S (64 * i + p / 64) (S (64 * i + p / 64) ||| (1 : Int64) <<< ((nI (p % 64)).toInt64 &&& 63))
def ts_ (S : Nat → Int64) (i p : Nat) : Nat → Int64 := vp_updL S (64 * i + p / 64) (S (64 * i + p / 64) &&& ((1 : Int64) <<< ((nI (p % 64)).toInt64 &&& 63) ^^^ (-1)))
theorem sq_f {ok : Nat → Bool} {all n b : Nat} (h : ok b = false) : sq_ ok all (n + 1) b = false := by rw [sq_, h]; rfl
theorem sq_0 {ok : Nat → Bool} {all n b : Nat} (h : ok b = true) (h0 : b = 0) : sq_ ok all (n + 1) b = true := by rw [sq_, h, if_pos h0]; rfl
theorem sq_n {ok : Nat → Bool} {all n b : Nat} (h : ok b = true) (h0 : ¬ b = 0) : sq_ ok all (n + 1) b = sq_ ok all n ((b - 1) &&& all) := by rw [sq_, h, if_neg h0]; rfl
section SR
variable {g : Nat → Bool} {a all n b : Nat} {K : Nat → Int64}
theorem sr_0t (h : g b = true) (h0 : b = 0) : sr_ g a all (n + 1) b K = un_ K (a ||| b) := by rw [sr_, if_pos h0, if_pos h]
theorem sr_0f (h : g b = false) (h0 : b = 0) : sr_ g a all (n + 1) b K = K := by rw [sr_, if_pos h0, if_neg (by rw [h]; decide)]
theorem sr_nt (h : g b = true) (h0 : ¬ b = 0) : sr_ g a all (n + 1) b K = sr_ g a all n ((b - 1) &&& all) (un_ K (a ||| b)) := by rw [sr_, if_neg h0, if_pos h]
theorem sr_nf (h : g b = false) (h0 : ¬ b = 0) : sr_ g a all (n + 1) b K = sr_ g a all n ((b - 1) &&& all) K := by rw [sr_, if_neg h0, if_neg (by rw [h]; decide)]
theorem ro_t {q : Nat → Bool} (h : q n = true) : ro_ q g all K (n + 1) = sr_ g n all 4096 all (ro_ q g all K n) := by rw [ro_, if_pos h]
theorem ro_f {q : Nat → Bool} (h : q n = false) : ro_ q g all K (n + 1) = ro_ q g all K n := by rw [ro_, if_neg (by rw [h]; decide)]
end SR
