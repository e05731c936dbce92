/-! Contracts over the class's world, and their calls. -/
abbrev kp_ (D : va_G) (h : Nat) (cI cL cF : ClassId) (I : Nat → Nat → Int32) (J : Nat → Nat → Int64) (sh : Nat → Nat) (fr : Nat) (en : Int32) : Heap → Prop := va_P D cl_ (sy_ h cI cL cF I J sh fr en)
/-- a method that answers an int, a long, nothing: from P to P' -/
abbrev ki_ (l : Launch) (y : MethodName) (ws : List Cond) (rm : Room) (D : va_G) (tys : List (ClassId × FieldType)) (X : State → Prop) (A : Nat → Prop) (av : List Value) (P P' : Heap → Prop) (r : Int32) : Prop := Met l y ws rm (sp_ av P D cl_ tys X) (va_Qi (fun x (_ : Unit) => x = r) (fun _ t => P' t.heap) A) 0 0 A
abbrev kl_ (l : Launch) (y : MethodName) (ws : List Cond) (rm : Room) (D : va_G) (tys : List (ClassId × FieldType)) (X : State → Prop) (A : Nat → Prop) (av : List Value) (P P' : Heap → Prop) (r : Int64) : Prop := Met l y ws rm (sp_ av P D cl_ tys X) (va_Ql (fun x (_ : Unit) => x = r) (fun _ t => P' t.heap) A) 0 0 A
abbrev kv_ (l : Launch) (y : MethodName) (ws : List Cond) (rm : Room) (D : va_G) (tys : List (ClassId × FieldType)) (X : State → Prop) (A : Nat → Prop) (av : List Value) (P P' : Heap → Prop) : Prop := Met l y ws rm (sp_ av P D cl_ tys X) (va_Qv (fun (_ : Unit) => True) (fun _ t => P' t.heap) A) 0 0 A
/-- a callee's words and room -/
abbrev kr_ (R rm : Room) (n : Nat) : Prop := rm.cells = 0 ∧ rm.slots = 0 ∧ rm.frames + 1 ≤ R.frames ∧ 8 + (n + 11) + rm.locals ≤ R.locals
def kd_ (y : MethodName) (n : Nat) : Prop := y.cls ≠ "java/lang/invoke/MethodHandle" ∧ y.cls ≠ "java/lang/invoke/VarHandle" ∧ (parseMethodDescriptor y.desc).map (fun d => d.parameters.length) = some n
section KC
variable {p : Program} {l : Launch} {e : Env} {R : Room} {s : State} {m : MethodId} {args : Array Value} {below : List Frame} {meth : Method} {c : Code}
variable {cc : ByteArray} {nL : Nat} {c0 : Cond} {own : String} {D : va_G} {tys : List (ClassId × FieldType)} {A A1 : Nat → Prop} {cells slots : Nat} {Q : State → Prop} {P P' : Heap → Prop} {lw : List (Option Value)} {pc : Nat} {st rest : List Value} {X : State → Prop}
variable {y : MethodName} {bytes : ByteArray} {maxL index n : Nat} {ret : Option FieldType} {rm : Room} {As : List Value} {b : Nat}
theorem kc_pre (C : cx p s m args meth c cc nL (c0 :: tw_) own D cl_ tys) (hX : X s) (hk : xk A X) {av : List Value} (U : State) (hP : P U.heap) (hW : s.WarmedH U.vm) (hz : s.heap.size ≤ U.heap.size) (hq : ∀ q : Nat, q < s.heap.size → ¬ A q → U.heap[q]? = s.heap[q]?) : sp_ av P D cl_ tys X av.toArray U :=
  ⟨rfl, hP, va_K.moved hW.alike C.2.2, hk s U hW hz hq hX⟩
theorem kc_S (C : cx p s m args meth c cc nL (c0 :: tw_) own D cl_ tys) (hX : X s) (hk : xk A X) {Qc : Array Value → State → Outcome → State → Prop} {free : Addr → Prop}
    (hM : Met l y (Cond.code y bytes maxL ret :: tw_) rm (sp_ As P D cl_ tys X) Qc 0 0 free) (hcode : Cond.code y bytes maxL ret ∈ tw_) (hlink : Cond.methodLink own index y ∈ tw_) (hstat : Cond.static y ∈ tw_) (hini : Cond.initialized y.cls ∈ tw_) (hd : kd_ y n) (hR : kr_ R rm maxL)
    (hn : As.length = n) (hst : st = As.reverse ++ rest) (hroom : (rest.map fun v => v.category).sum ≤ 8) (hcs : cells ≤ R.cells ∧ slots ≤ R.slots) (hdg : decode cc pc = .ok (.invokestatic index, 3)) :
    ∀ (ls : Array Slot) (H : Heap) (locs : List Loc), lw_has ls nL lw → P H → va_S A s.heap H locs → va_Run p l e R s m args below meth c H locs cells slots 0 0 (F0 m pc ls st) rest (Qc As.toArray) free :=
  ar_S (Pc := sp_ As P D cl_ tys X) C hM (va_cwS n C.1.2.2.2.2 (gi_c hlink (gi_c hstat (gi_c hini (gi_ hcode)))) rfl hR.1 hR.2.1 hd ⟨hR.2.2.1, hR.2.2.2⟩) (fun U hP hW hz hq => kc_pre C hX hk U hP hW hz hq) (sp_blind hk) hn hst hroom hdg hcs
theorem kc_SN (C : cx p s m args meth c cc nL (c0 :: tw_) own D cl_ tys) (hX : X s) (hk : xk A X) {Qc : Array Value → State → Outcome → State → Prop} {free : Addr → Prop} {host : String}
    (hM : Met l y (Cond.code y bytes maxL ret :: tw_) rm (sp_ As P D cl_ tys X) Qc 0 0 free) (hcode : Cond.code y bytes maxL ret ∈ tw_) (hlink : va_Nw (Cond.methodLinkNest own index y host) s) (hstat : Cond.static y ∈ tw_) (hini : Cond.initialized y.cls ∈ tw_) (hd : kd_ y n) (hR : kr_ R rm maxL)
    (hn : As.length = n) (hst : st = As.reverse ++ rest) (hroom : (rest.map fun v => v.category).sum ≤ 8) (hcs : cells ≤ R.cells ∧ slots ≤ R.slots) (hdg : decode cc pc = .ok (.invokestatic index, 3)) :
    ∀ (ls : Array Slot) (H : Heap) (locs : List Loc), lw_has ls nL lw → P H → va_S A s.heap H locs → va_Run p l e R s m args below meth c H locs cells slots 0 0 (F0 m pc ls st) rest (Qc As.toArray) free :=
  fun ls H locs hl hP hS => va_runSN C.1 hM ⟨va_cnB n C.1.2.2.2.2 (gi_ hcode) rfl hR.1 hR.2.1 hlink (C.1.2.2.2.2 _ (List.mem_cons_of_mem _ hini)) hd ⟨hR.2.2.1, hR.2.2.2⟩, C.1.2.2.2.2 _ (List.mem_cons_of_mem _ hstat), trivial⟩ ⟨sp_blind hk, fun U hU hW => kc_pre C hX hk U (by rw [hU]; exact hP) hW (by rw [hU]; exact hS.1) (by rw [hU]; exact hS.2.1)⟩ rfl hn hl.1 hst (lv_room hroom) hdg hcs
theorem kc_V (C : cx p s m args meth c cc nL (c0 :: tw_) own D cl_ tys) (hX : X s) (hk : xk A X) {Qc : Array Value → State → Outcome → State → Prop} {free : Addr → Prop} {ws : va_W} (hPw : P = va_P D cl_ ws) (q0 : Nat) {ci : Nat} {fs : List Value} (he : ws[q0]? = some (b, .inr (ci, fs))) {r9 : vw_C} (hc : cl_[ci]? = some r9)
    (hM : Met l y (Cond.code y bytes maxL ret :: tw_) rm (sp_ (.ref b :: As) P D cl_ tys X) Qc 0 0 free) (hcode : Cond.code y bytes maxL ret ∈ tw_) (hlink : Cond.methodLink own index y ∈ tw_) (hinst : Cond.instanceMethod y ∈ tw_) (hsel : Cond.selects r9.1 y y ∈ tw_) (hini : Cond.initialized r9.1 ∈ tw_) (hyc : y.cls = r9.1) (hd : kd_ y n) (hR : kr_ R rm maxL)
    (hn : As.length = n) (hst : st = As.reverse ++ .ref b :: rest) (hroom : (rest.map fun v => v.category).sum ≤ 8) (hcs : cells ≤ R.cells ∧ slots ≤ R.slots) (hdg : decode cc pc = .ok (.invokevirtual index, 3)) :
    ∀ (ls : Array Slot) (H : Heap) (locs : List Loc), lw_has ls nL lw → P H → va_S A s.heap H locs → va_Run p l e R s m args below meth c H locs cells slots 0 0 (F0 m pc ls st) rest (Qc (Value.ref b :: As).toArray) free :=
  ar_V (Pc := sp_ (.ref b :: As) P D cl_ tys X) C hM (cwV n C.1.2.2.2.2 (gi_c hlink (gi_c hinst (gi_c hsel (gi_c hini (gi_ hcode))))) rfl hR.1 hR.2.1 ⟨hyc, hd⟩ ⟨hR.2.2.1, hR.2.2.2⟩) (fun H hP => va_recv C.2.2 (by rw [hPw] at hP; exact hP) hc he) (fun U hP hW hz hq => kc_pre C hX hk U hP hW hz hq) (sp_blind hk) hn hst hroom hdg hcs
/-- behind a call -/
theorem kc_i {a : Array Value} {free : Addr → Prop} {r : Int32} (hA : ∀ q, A1 q → A q) (hf : ∀ q, free q → A q) (hr : ∀ (ls : Array Slot) (H : Heap) (locs : List Loc), lw_has ls nL lw → P H → va_S A s.heap H locs → va_Run p l e R s m args below meth c H locs cells slots 0 0 (F0 m pc ls st) rest (va_Qi (fun x (_ : Unit) => x = r) (fun _ t => P' t.heap) A1 a) free)
    (kk : aw p l e R s m args below meth c nL A cells slots Q P' lw (pc + 3) (.int r :: rest)) : aw p l e R s m args below meth c nL A cells slots Q P lw pc st :=
  aw_runi (P' := fun _ => P') hr hA hf (fun _ _ h _ => h) (fun r' _ h' => by rw [h']; exact kk)
theorem kc_l {a : Array Value} {free : Addr → Prop} {r : Int64} (hA : ∀ q, A1 q → A q) (hf : ∀ q, free q → A q) (hr : ∀ (ls : Array Slot) (H : Heap) (locs : List Loc), lw_has ls nL lw → P H → va_S A s.heap H locs → va_Run p l e R s m args below meth c H locs cells slots 0 0 (F0 m pc ls st) rest (va_Ql (fun x (_ : Unit) => x = r) (fun _ t => P' t.heap) A1 a) free)
    (kk : aw p l e R s m args below meth c nL A cells slots Q P' lw (pc + 3) (.long r :: rest)) : aw p l e R s m args below meth c nL A cells slots Q P lw pc st :=
  aw_runl (P' := fun _ => P') hr hA hf (fun _ _ h _ => h) (fun r' _ h' => by rw [h']; exact kk)
theorem kc_v {a : Array Value} {free : Addr → Prop} (hA : ∀ q, A1 q → A q) (hf : ∀ q, free q → A q) (hr : ∀ (ls : Array Slot) (H : Heap) (locs : List Loc), lw_has ls nL lw → P H → va_S A s.heap H locs → va_Run p l e R s m args below meth c H locs cells slots 0 0 (F0 m pc ls st) rest (va_Qv (fun (_ : Unit) => True) (fun _ t => P' t.heap) A1 a) free)
    (kk : aw p l e R s m args below meth c nL A cells slots Q P' lw (pc + 3) rest) : aw p l e R s m args below meth c nL A cells slots Q P lw pc st :=
  aw_runv (P' := fun _ => P') hr hA hf (fun _ _ h _ => h) (fun _ _ => kk)
/-- the end of a method -/
theorem kc_iret (C : cx p s m args meth c cc nL (c0 :: tw_) own D cl_ tys) (hr : meth.sig.returnType = some .int) {v r : Int32} (hv : v = r) (hP : ∀ H, P H → P' H) (hdg : decode cc pc = .ok (.ireturn, 1)) : aw p l e R s m args below meth c nL A cells slots (MQ below (va_Qi (fun x (_ : Unit) => x = r) (fun _ t => P' t.heap) A) args s cells slots A) P lw pc [.int v] :=
  aw_iret C hr hdg (fun t h _ => ⟨(), hv, hP _ h⟩)
theorem kc_zret (C : cx p s m args meth c cc nL (c0 :: tw_) own D cl_ tys) (hr : meth.sig.returnType = some .boolean) {v r : Int32} (hn : v = 0 ∨ v = 1) (hv : v = r) (hP : ∀ H, P H → P' H) (hdg : decode cc pc = .ok (.ireturn, 1)) : aw p l e R s m args below meth c nL A cells slots (MQ below (va_Qi (fun x (_ : Unit) => x = r) (fun _ t => P' t.heap) A) args s cells slots A) P lw pc [.int v] :=
  aw_zret C hr (by rcases hn with rfl | rfl <;> rfl) hdg (fun t h _ => ⟨(), hv, hP _ h⟩)
theorem kc_lret (C : cx p s m args meth c cc nL (c0 :: tw_) own D cl_ tys) (hr : meth.sig.returnType = some .long) {v r : Int64} (hv : v = r) (hP : ∀ H, P H → P' H) (hdg : decode cc pc = .ok (.lreturn, 1)) : aw p l e R s m args below meth c nL A cells slots (MQ below (va_Ql (fun x (_ : Unit) => x = r) (fun _ t => P' t.heap) A) args s cells slots A) P lw pc [.long v] :=
  aw_lret C hr hdg (fun t h _ => ⟨(), hv, hP _ h⟩)
theorem kc_vret (C : cx p s m args meth c cc nL (c0 :: tw_) own D cl_ tys) (hr : meth.sig.returnType = none) (hP : ∀ H, P H → P' H) (hdg : decode cc pc = .ok (.return_, 1)) : aw p l e R s m args below meth c nL A cells slots (MQ below (va_Qv (fun (_ : Unit) => True) (fun _ t => P' t.heap) A) args s cells slots A) P lw pc [] :=
  aw_vret C hr hdg (fun t h _ => ⟨(), trivial, hP _ h⟩)
end KC
theorem ni_inc (n : Nat) : nI n + Int32.ofInt 1 = nI (n + 1) := nI_1 n
theorem ni_dec (n : Nat) : nI (n + 1) + Int32.ofInt (-1) = nI n := pk_m1 n
/-- a counted loop -/
theorem aw_loop {p : Program} {l : Launch} {e : Env} {R : Room} {s : State} {m : MethodId} {args : Array Value} {below : List Frame} {meth : Method} {c : Code} {nL : Nat} {A : Nat → Prop} {cells slots : Nat} {Q : State → Prop} {pc : Nat} {st : List Value}
    (F : Nat → Heap → Prop) (G : Nat → List (Option Value)) (N : Nat) (hend : aw p l e R s m args below meth c nL A cells slots Q (F N) (G N) pc st)
    (hstep : ∀ n, n < N → aw p l e R s m args below meth c nL A cells slots Q (F (n + 1)) (G (n + 1)) pc st → aw p l e R s m args below meth c nL A cells slots Q (F n) (G n) pc st) : aw p l e R s m args below meth c nL A cells slots Q (F 0) (G 0) pc st := by
  have key : ∀ d n : Nat, n + d = N → aw p l e R s m args below meth c nL A cells slots Q (F n) (G n) pc st := by
    intro d
    induction d with
    | zero => intro n hn; rw [show n = N by omega]; exact hend
    | succ d ih => intro n hn; exact hstep n (by omega) (ih (n + 1) (by omega))
  exact key N 0 (by omega)
theorem ca_id {h : Nat} : ∀ q, ca_ h q → ca_ h q := fun _ h => h
section CP
variable {p : Program} {l : Launch} {e : Env} {R : Room} {s : State} {m : MethodId} {args : Array Value} {below : List Frame} {meth : Method} {c : Code} {cc : ByteArray} {nL : Nat} {Ts : List Cond} {own : String} {D : va_G} {cl : List vw_C} {tys : List (ClassId × FieldType)} {A : Nat → Prop} {cells slots : Nat} {Q : State → Prop} {lw : List (Option Value)} {pc : Nat} {rest : List Value} {ws : va_W} {a a0 : Nat}
/-- System.arraycopy of longs, from the first on -/
theorem aw_copyl (C : cx p s m args meth c cc nL Ts own D cl tys) {index : Nat} (hlink : (Cond.methodLink own index arraycopyName).before args s = true) (hnat : (Cond.native arraycopyName).before args s = true) (hstat : (Cond.static arraycopyName).before args s = true) (hini : (Cond.initialized "java/lang/System").before args s = true)
    (hD : va_D A ws) (q0 q1 t0 t1 : Nat) {c0 c1 : ClassId} {n0 n1 n : Nat} {f g : Nat → Int64} (ha0 : ws[q0]? = some (a0, .inl (c0, n0, .inr (.inl f)))) (ha1 : ws[q1]? = some (a, .inl (c1, n1, .inr (.inl g)))) (ht0 : tys[t0]? = some (c0, .long)) (ht1 : tys[t1]? = some (c1, .long)) (h0 : n ≤ n0) (h1 : n ≤ n1) (hn : n < 2 ^ 31)
    (hframes : 1 ≤ R.frames) (hlocals : (rest.map fun v => v.category).sum + (nativeFrameWords "java/lang/System" "arraycopy" 5 + 11) ≤ R.locals) {ws' : va_W} (hw : ws.set q1 (a, .inl (c1, n1, .inr (.inl (va_cpy f g 0 0 n)))) = ws') (hdg : decode cc pc = .ok (.invokestatic index, 3))
    (kk : aw p l e R s m args below meth c nL A cells slots Q (va_P D cl ws') lw (pc + 3) rest) : aw p l e R s m args below meth c nL A cells slots Q (va_P D cl ws) lw pc (.int (nI n) :: .int (nI 0) :: .ref a :: .int (nI 0) :: .ref a0 :: rest) := by
  intro ls H locs hl hP hS
  have z : (nI 0).toNatClampNeg = 0 := nI_clamp (by decide)
  have zn : (nI n).toNatClampNeg = n := nI_clamp hn
  refine va_copyl C.1.1 C.1.2.1 (C.1.2.2.1.trans hl.1.symm) C.1.2.2.2.1 hlink hnat hstat hini C.2.2 hP hD hS q0 q1 t0 t1 ha0 ha1 ht0 ht1 rfl (by decide) (by decide) (nI_pos hn) (by rw [z, zn]; omega) (by rw [z, zn]; omega) (fun _ _ => rfl) hframes hlocals hdg ?_
  rw [z, zn, hw]
  exact fun H1 locs1 hP1 _ hS1 => kk ls H1 locs1 hl hP1 hS1
end CP
