abbrev kz_ (l : Launch) (y : MethodName) (ws : List Cond) (rm : Room) (D : va_G) (tys : List (ClassId × FieldType)) (X : State → Prop) (A : Nat → Prop) (av : List Value) (P P' : Heap → Prop) (mc ms : Nat) : Prop := Met l y ws rm (sp_ av P D cl_ tys X) (va_Qv (fun (_ : Unit) => True) (fun _ t => P' t.heap) A) mc ms A
/-- cells from b on, and nothing behind them -/
abbrev gz_ (D : va_G) (b : Nat) (es : List va_E) : Heap → Prop := fun H => va_P D cl_ (en_ b es) H ∧ H.size = b + es.length
def xc_ (U : State) : Prop := (∀ w ∈ nw_, va_Nw w U) ∧ va_AO "FamilyShelf$Family" U
theorem xc_k {A : Nat → Prop} : xk A xc_ := fun u U hW _ _ h => ⟨fun w hw => nw_warm hw hW (h.1 w hw), va_AO.moved hW.alike h.2⟩
theorem ct_pre' {D : va_G} {h z : Nat} {e0 : List va_E} {e : va_E} {H : Heap} (hP : va_P D cl_ (en_ h (e0 ++ [e])) H) (hz : H.size ≤ z) (hz2 : z = h + e0.length + 1) : gz_ D (h + e0.length) [e] H := by
  refine ⟨ct_pre hP, ?_⟩
  have h1 := ct_size (n := e0.length) hP (by simp) (by rw [List.length_append]; simp only [List.length_cons, List.length_nil]; omega)
  rw [h1, List.length_append]
  simp only [List.length_cons, List.length_nil]
  omega
section OI
variable {p : Program} {l : Launch} {e : Env} {R : Room} {s : State} {m : MethodId} {args : Array Value} {below : List Frame} {meth : Method} {c : Code}
variable {cc : ByteArray} {nL : Nat} {Ts : List Cond} {own : String} {D : va_G} {cl : List vw_C} {tys : List (ClassId × FieldType)} {A : Nat → Prop} {cells slots : Nat} {Q : State → Prop} {P : Heap → Prop} {lw : List (Option Value)} {pc : Nat} {rest : List Value}
theorem aw_oinit {index b : Nat} (C : cx p s m args meth c cc nL Ts own D cl tys) (h1 : (Cond.methodLink own index objectInit).before args s = true) (h2 : (Cond.instanceMethod objectInit).before args s = true) (h3 : (Cond.code objectInit bc_Jo_init 1 none).before args s = true) (hdg : decode cc pc = .ok (.invokespecial index, 3)) (hf : 1 ≤ R.frames) (hlo : (rest.map fun v => v.category).sum + 12 ≤ R.locals)
    (kk : aw p l e R s m args below meth c nL A cells slots Q P lw (pc + 3) rest) : aw p l e R s m args below meth c nL A cells slots Q P lw pc (.ref b :: rest) := by
  intro ls H locs hl hP hS
  refine W.objInit C.1.1 C.1.2.1 C.1.2.2.2.1 h1 h2 h3 rfl (by rw [C.1.2.2.1]; exact hl.1) rfl hdg hf (by have h9 : (F0 m pc ls (Value.ref b :: rest)).monitorRoom = 0 := rfl; rw [h9]; omega) ?_
  exact W.eq (g2 := F0 m (pc + 3) ls rest) rfl (kk ls H locs hl hP hS)
end OI
section LC
variable {p : Program} {l : Launch} {e : Env} {R : Room} {s : State} {m : MethodId} {args : Array Value} {below : List Frame} {meth : Method} {c : Code} {nL : Nat} {A : Nat → Prop} {Q : State → Prop} {P : Heap → Prop} {lw : List (Option Value)} {pc : Nat} {st : List Value}
theorem aw_loopC (F : Nat → Heap → Prop) (G : Nat → List (Option Value)) (ce sl : Nat → Nat) (N : Nat) (hend : aw p l e R s m args below meth c nL A (ce N) (sl N) Q (F N) (G N) pc st)
    (hstep : ∀ n, n < N → aw p l e R s m args below meth c nL A (ce (n + 1)) (sl (n + 1)) Q (F (n + 1)) (G (n + 1)) pc st → aw p l e R s m args below meth c nL A (ce n) (sl n) Q (F n) (G n) pc st) : aw p l e R s m args below meth c nL A (ce 0) (sl 0) Q (F 0) (G 0) pc st := by
  have key : ∀ d n : Nat, n + d = N → aw p l e R s m args below meth c nL A (ce n) (sl n) Q (F n) (G n) pc st := by
    intro d
    induction d with
    | zero => intro n hn; rw [show n = N by omega]; exact hend
    | succ d ih => intro n hn; exact hstep n (by omega) (ih (n + 1) (by omega))
  exact key N 0 (by omega)
theorem aw_cs {a a' b b' : Nat} (h1 : a = a') (h2 : b = b') (k : aw p l e R s m args below meth c nL A a' b' Q P lw pc st) : aw p l e R s m args below meth c nL A a b Q P lw pc st := by subst h1; subst h2; exact k
end LC
/-- the rows by size -/
def lz_ : Nat → Nat → Int64
  | 0 => fun _ => 0
  | k + 1 => vp_updL (lz_ k) (nb_ k) (lz_ k (nb_ k) ||| (1 : Int64) <<< ((nI k).toInt64 &&& 63))
abbrev eF_ (b : Nat) : va_E := .inr (2, [.ref (b + 1)])
abbrev eW_ (cL : ClassId) : va_E := .inl (cL, 64, .inr (.inl (fun _ => 0)))
