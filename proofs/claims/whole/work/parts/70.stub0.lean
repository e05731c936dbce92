/-! The law's stubs: a method of the class is called, its answer laid into a cell, what it throws turned into a number. -/
def xn_ (U : State) : Prop := va_Nc "java/lang/IllegalArgumentException" "java/lang/IndexOutOfBoundsException" U ∧ va_Nc "java/lang/ArithmeticException" "java/lang/IndexOutOfBoundsException" U ∧ va_Nc "java/lang/ArithmeticException" "java/lang/IllegalArgumentException" U ∧ va_Nc "java/util/NoSuchElementException" "java/lang/IndexOutOfBoundsException" U
theorem xn_k {A : Nat → Prop} : xk A xn_ := fun _ _ hW _ _ h => ⟨va_Nc.moved hW.alike h.1, va_Nc.moved hW.alike h.2.1, va_Nc.moved hW.alike h.2.2.1, va_Nc.moved hW.alike h.2.2.2⟩
def xq_ (h th : Nat) (U : State) : Prop := xp_ h th U ∧ xn_ U
theorem xq_k {h th : Nat} {A : Nat → Prop} (hA : ∀ q, A q → h ≤ q) : xk A (xq_ h th) := xk_and (xp_k hA) xn_k
theorem aw_metH {l : Launch} {y : MethodName} {ws ws' : List Cond} {rm : Room} {cc : ByteArray} {nL : Nat} {ret : Option FieldType} {hh : List (Nat × Nat × Nat × Nat)} {av : List Value} {P : Heap → Prop} {D : va_G} {cl : List vw_C} {tys : List (ClassId × FieldType)} {X : State → Prop} {Qc : Array Value → State → Outcome → State → Prop} {XC : String → State → State → Prop} {mc ms : Nat} {A free : Addr → Prop} {own : String}
    (hy : plainName y.cls = true) (hw : ws = Cond.codeWith y cc nL ret hh :: ws') (hown : y.cls = own) (hlen : (lg_sl av).length ≤ nL)
    (body : ∀ (p : Program) (e : Env) (s : State) (m : MethodId) (args : Array Value) (below : List Frame) (meth : Method) (c : Code), cx p s m args meth c cc nL ws own D cl tys → meth.sig.returnType = ret → c.exceptionTable.toList = tableOf hh → X s → P s.heap → aw p l e rm s m args below meth c nL A 0 0 (vx_MQ below Qc XC args s mc ms free) P (lw_args av nL) 0 []) :
    vx_Met l y ws rm (sp_ av P D cl tys X) Qc XC mc ms free := by
  refine vx_ofWH (cc := cc) (maxL := nL) (ret := ret) (hh := hh) hy hw ?_
  intro p e s m args below meth c s₁ B hml hv
  obtain ⟨rfl, hP, hK, hX⟩ := hv
  have hts := atoms_spec (ws := ws) B.pre
  have hcl : s.vm.findClass own = some m.cls := by rw [← hown]; exact findClass_of_methodNamed B.named
  have hl := lw_args_has av hlen
  have htb := vx_table (x := y) B (hts _ (by rw [hw]; exact List.mem_cons_self))
  rw [lg_entry_eq]
  exact body p e s m _ below meth c ⟨⟨B.exec, B.bytes, hml, hcl, hts⟩, B.notSynchronized, hK⟩ B.returns htb hX hP _ s.heap [] hl hP va_S.rf
section ST
variable {p : Program} {l : Launch} {e : Env} {R : Room} {s : State} {m : MethodId} {args : Array Value} {below : List Frame} {meth : Method} {c : Code}
variable {cc : ByteArray} {nL : Nat} {c0 : Cond} {own : String} {D : va_G} {tys : List (ClassId × FieldType)} {A A1 : Nat → Prop} {cells slots : Nat} {Q : State → Prop} {P P' Pc P1 : Heap → Prop} {lw : List (Option Value)} {pc : Nat} {st rest : List Value} {X1 : State → Prop}
variable {y : MethodName} {bytes : ByteArray} {maxL index n : Nat} {ret : Option FieldType} {rm : Room} {As : List Value} {b : Nat} {ws : va_W}
theorem aw_ret2 {Qc : Array Value → State → Outcome → State → Prop} {XC : String → State → State → Prop} {mc ms : Nat} {free : Addr → Prop} (k : aw p l e R s m args below meth c nL A cells slots (MQ below Qc args s mc ms free) P lw pc st) : aw p l e R s m args below meth c nL A cells slots (vx_MQ below Qc XC args s mc ms free) P lw pc st := fun ls H locs hl hP hS => vx_ret (k ls H locs hl hP hS)
/-- a method of an object is called: what it needs of the heap, what it leaves, the rest of the heap -/
theorem kq_Vi (C : cx p s m args meth c cc nL (c0 :: tw_) own D cl_ tys) (hX : ∀ U : State, s.WarmedH U.vm → s.heap.size ≤ U.heap.size → (∀ q : Nat, q < s.heap.size → ¬ A q → U.heap[q]? = s.heap[q]?) → X1 U) (hbl : FrameBlind (sp_ (.ref b :: As) Pc D cl_ tys X1)) (hwd : ∀ H, P H → va_P D cl_ ws H) (q0 : Nat) {ci : Nat} {fs : List Value} (he : ws[q0]? = some (b, .inr (ci, fs))) {r9 : vw_C} (hc : cl_[ci]? = some r9) {r : Int32}
    (hM : Met l y (Cond.code y bytes maxL ret :: tw_) rm (sp_ (.ref b :: As) Pc D cl_ tys X1) (va_Qi (fun x (_ : Unit) => x = r) (fun _ t => P1 t.heap) A1) 0 0 A1) (hcode : Cond.code y bytes maxL ret ∈ tw_) (hlink : Cond.methodLink own index y ∈ tw_) (hinst : Cond.instanceMethod y ∈ tw_) (hsel : Cond.selects r9.1 y y ∈ tw_) (hini : Cond.initialized r9.1 ∈ tw_) (hyc : y.cls = r9.1) (hd : kd_ y n) (hR : kr_ R rm maxL)
    (hn : As.length = n) (hst : st = As.reverse ++ .ref b :: rest) (hroom : (rest.map fun v => v.category).sum ≤ 8) (hcs : cells ≤ R.cells ∧ slots ≤ R.slots) (hdg : decode cc pc = .ok (.invokevirtual index, 3))
    (hA : ∀ q, A1 q → A q) (hpre : ∀ H, P H → Pc H) (hpost : ∀ H H1, P H → (∀ q : Nat, q < H.size → ¬ A1 q → H1[q]? = H[q]?) → P1 H1 → P' H1)
    (kk : aw p l e R s m args below meth c nL A cells slots Q P' lw (pc + 3) (.int r :: rest)) : aw p l e R s m args below meth c nL A cells slots Q P lw pc st := by
  intro ls H locs hl hP hS
  refine va_calli (va_runV C.1 hM (cwV n C.1.2.2.2.2 (gi_c hlink (gi_c hinst (gi_c hsel (gi_c hini (gi_ hcode))))) rfl hR.1 hR.2.1 ⟨hyc, hd⟩ ⟨hR.2.2.1, hR.2.2.2⟩) ⟨hbl, va_recv C.2.2 (hwd H hP) hc he, fun U hU hW => ⟨rfl, by rw [hU]; exact hpre H hP, va_K.moved hW.alike C.2.2, hX U hW (by rw [hU]; exact hS.1) (by rw [hU]; exact hS.2.1)⟩⟩ rfl hn hl.1 hst (lv_room hroom) hdg hcs) hS (fun q _ h => hA q h) hA ?_
  intro r' u t H1 locs1 ht _ hr' hB _ hk hS1
  rw [hr']
  exact kk ls H1 locs1 hl (hpost H H1 hP hk (by rw [← ht]; exact hB)) hS1
theorem kq_Vv (C : cx p s m args meth c cc nL (c0 :: tw_) own D cl_ tys) (hX : ∀ U : State, s.WarmedH U.vm → s.heap.size ≤ U.heap.size → (∀ q : Nat, q < s.heap.size → ¬ A q → U.heap[q]? = s.heap[q]?) → X1 U) (hbl : FrameBlind (sp_ (.ref b :: As) Pc D cl_ tys X1)) (hwd : ∀ H, P H → va_P D cl_ ws H) (q0 : Nat) {ci : Nat} {fs : List Value} (he : ws[q0]? = some (b, .inr (ci, fs))) {r9 : vw_C} (hc : cl_[ci]? = some r9)
    (hM : Met l y (Cond.code y bytes maxL ret :: tw_) rm (sp_ (.ref b :: As) Pc D cl_ tys X1) (va_Qv (fun (_ : Unit) => True) (fun _ t => P1 t.heap) A1) 0 0 A1) (hcode : Cond.code y bytes maxL ret ∈ tw_) (hlink : Cond.methodLink own index y ∈ tw_) (hinst : Cond.instanceMethod y ∈ tw_) (hsel : Cond.selects r9.1 y y ∈ tw_) (hini : Cond.initialized r9.1 ∈ tw_) (hyc : y.cls = r9.1) (hd : kd_ y n) (hR : kr_ R rm maxL)
    (hn : As.length = n) (hst : st = As.reverse ++ .ref b :: rest) (hroom : (rest.map fun v => v.category).sum ≤ 8) (hcs : cells ≤ R.cells ∧ slots ≤ R.slots) (hdg : decode cc pc = .ok (.invokevirtual index, 3))
    (hA : ∀ q, A1 q → A q) (hpre : ∀ H, P H → Pc H) (hpost : ∀ H H1, P H → (∀ q : Nat, q < H.size → ¬ A1 q → H1[q]? = H[q]?) → P1 H1 → P' H1)
    (kk : aw p l e R s m args below meth c nL A cells slots Q P' lw (pc + 3) rest) : aw p l e R s m args below meth c nL A cells slots Q P lw pc st := by
  intro ls H locs hl hP hS
  refine va_callv (va_runV C.1 hM (cwV n C.1.2.2.2.2 (gi_c hlink (gi_c hinst (gi_c hsel (gi_c hini (gi_ hcode))))) rfl hR.1 hR.2.1 ⟨hyc, hd⟩ ⟨hR.2.2.1, hR.2.2.2⟩) ⟨hbl, va_recv C.2.2 (hwd H hP) hc he, fun U hU hW => ⟨rfl, by rw [hU]; exact hpre H hP, va_K.moved hW.alike C.2.2, hX U hW (by rw [hU]; exact hS.1) (by rw [hU]; exact hS.2.1)⟩⟩ rfl hn hl.1 hst (lv_room hroom) hdg hcs) hS (fun q _ h => hA q h) hA ?_
  intro u t H1 locs1 ht _ _ hB _ hk hS1
  exact kk ls H1 locs1 hl (hpost H H1 hP hk (by rw [← ht]; exact hB)) hS1
/-- .. and throws, and is caught here -/
theorem kq_Xi {En : String} (C : cx p s m args meth c cc nL (c0 :: tw_) own D cl_ tys) (hX : ∀ U : State, s.WarmedH U.vm → s.heap.size ≤ U.heap.size → (∀ q : Nat, q < s.heap.size → ¬ A q → U.heap[q]? = s.heap[q]?) → X1 U) (hbl : FrameBlind (sp_ (.ref b :: As) Pc D cl_ tys X1)) (hwd : ∀ H, P H → va_P D cl_ ws H) (q0 : Nat) {ci : Nat} {fs : List Value} (he : ws[q0]? = some (b, .inr (ci, fs))) {r9 : vw_C} (hc : cl_[ci]? = some r9)
    (hM : kt_ l y (Cond.code y bytes maxL ret :: tw_) rm D tys X1 A1 (ni_ A1) (.ref b :: As) Pc P1 En) (hcode : Cond.code y bytes maxL ret ∈ tw_) (hlink : Cond.methodLink own index y ∈ tw_) (hinst : Cond.instanceMethod y ∈ tw_) (hsel : Cond.selects r9.1 y y ∈ tw_) (hini : Cond.initialized r9.1 ∈ tw_) (hyc : y.cls = r9.1) (hd : kd_ y n) (hR : rm.cells = 1 ∧ rm.slots = 6 ∧ rm.frames + 1 ≤ R.frames ∧ 8 + (maxL + 11) + rm.locals ≤ R.locals)
    (hn : As.length = n) (hst : st = As.reverse ++ .ref b :: rest) (hroom : (rest.map fun v => v.category).sum ≤ 8) (hcs : cells + 1 ≤ R.cells ∧ slots + 6 ≤ R.slots) (hdg : decode cc pc = .ok (.invokevirtual index, 3))
    (hA : ∀ q, A1 q → A q) (hpre : ∀ H, P H → Pc H) (hpost : ∀ H H1, P H → (∀ q : Nat, q < H.size → ¬ A1 q → H1[q]? = H[q]?) → P1 H1 → P' H1)
    (pre : List ExceptionTableEntry) (x : ExceptionTableEntry) (suf : List ExceptionTableEntry) (hsplit : c.exceptionTable.toList = pre ++ x :: suf) (hpass : ∀ z ∈ pre, covers z pc = false ∨ (z.catchType ≠ 0 ∧ ∃ nm : String, (Cond.classLink own z.catchType nm).before args s = true ∧ va_Nc En nm s)) (hcov : covers x pc = true) (h0 : x.catchType ≠ 0) (hcl9 : Cond.classLink own x.catchType En ∈ tw_) (hcast : va_Nw (Cond.castable En En) s)
    (kk : ∀ q9 : Nat, aw p l e R s m args below meth c nL A (cells + 1) (slots + 6) Q P' lw x.handlerPc [.ref q9]) : aw p l e R s m args below meth c nL A cells slots Q P lw pc st := by
  intro ls H locs hl hP hS
  refine vx_calli (vx_runV C.1 hM (cwV n C.1.2.2.2.2 (gi_c hlink (gi_c hinst (gi_c hsel (gi_c hini (gi_ hcode))))) rfl hR.1 hR.2.1 ⟨hyc, hd⟩ ⟨hR.2.2.1, hR.2.2.2⟩) ⟨hbl, va_recv C.2.2 (hwd H hP) hc he, fun U hU hW => ⟨rfl, by rw [hU]; exact hpre H hP, va_K.moved hW.alike C.2.2, hX U hW (by rw [hU]; exact hS.1) (by rw [hU]; exact hS.2.1)⟩⟩ rfl hn hl.1 hst (lv_room hroom) hdg hcs) hS (fun q _ h => hA q h) hA (fun q _ h => hA q h) ?_ ?_
  · intro E ce q9 u t H1 locs1 ht _ _ hB _ hk hS1 hce hcv hcl
    obtain ⟨rfl, hP1⟩ := hB
    exact vx_catch C.1.2.2.2.1 pre x suf hsplit hpass hcov h0 (C.1.2.2.2.2 _ (List.mem_cons_of_mem _ hcl9)) (va_Nw.use rfl hcast) hce hcv hcl (kk q9 ls H1 locs1 hl (hpost H H1 hP hk (by rw [← ht]; exact hP1)) hS1)
  · intro r u t H1 locs1 _ _ hf
    exact hf.elim
theorem kq_Xv {En : String} (C : cx p s m args meth c cc nL (c0 :: tw_) own D cl_ tys) (hX : ∀ U : State, s.WarmedH U.vm → s.heap.size ≤ U.heap.size → (∀ q : Nat, q < s.heap.size → ¬ A q → U.heap[q]? = s.heap[q]?) → X1 U) (hbl : FrameBlind (sp_ (.ref b :: As) Pc D cl_ tys X1)) (hwd : ∀ H, P H → va_P D cl_ ws H) (q0 : Nat) {ci : Nat} {fs : List Value} (he : ws[q0]? = some (b, .inr (ci, fs))) {r9 : vw_C} (hc : cl_[ci]? = some r9)
    (hM : kt_ l y (Cond.code y bytes maxL ret :: tw_) rm D tys X1 A1 (nv_ A1) (.ref b :: As) Pc P1 En) (hcode : Cond.code y bytes maxL ret ∈ tw_) (hlink : Cond.methodLink own index y ∈ tw_) (hinst : Cond.instanceMethod y ∈ tw_) (hsel : Cond.selects r9.1 y y ∈ tw_) (hini : Cond.initialized r9.1 ∈ tw_) (hyc : y.cls = r9.1) (hd : kd_ y n) (hR : rm.cells = 1 ∧ rm.slots = 6 ∧ rm.frames + 1 ≤ R.frames ∧ 8 + (maxL + 11) + rm.locals ≤ R.locals)
    (hn : As.length = n) (hst : st = As.reverse ++ .ref b :: rest) (hroom : (rest.map fun v => v.category).sum ≤ 8) (hcs : cells + 1 ≤ R.cells ∧ slots + 6 ≤ R.slots) (hdg : decode cc pc = .ok (.invokevirtual index, 3))
    (hA : ∀ q, A1 q → A q) (hpre : ∀ H, P H → Pc H) (hpost : ∀ H H1, P H → (∀ q : Nat, q < H.size → ¬ A1 q → H1[q]? = H[q]?) → P1 H1 → P' H1)
    (pre : List ExceptionTableEntry) (x : ExceptionTableEntry) (suf : List ExceptionTableEntry) (hsplit : c.exceptionTable.toList = pre ++ x :: suf) (hpass : ∀ z ∈ pre, covers z pc = false ∨ (z.catchType ≠ 0 ∧ ∃ nm : String, (Cond.classLink own z.catchType nm).before args s = true ∧ va_Nc En nm s)) (hcov : covers x pc = true) (h0 : x.catchType ≠ 0) (hcl9 : Cond.classLink own x.catchType En ∈ tw_) (hcast : va_Nw (Cond.castable En En) s)
    (kk : ∀ q9 : Nat, aw p l e R s m args below meth c nL A (cells + 1) (slots + 6) Q P' lw x.handlerPc [.ref q9]) : aw p l e R s m args below meth c nL A cells slots Q P lw pc st := by
  intro ls H locs hl hP hS
  refine vx_callv (vx_runV C.1 hM (cwV n C.1.2.2.2.2 (gi_c hlink (gi_c hinst (gi_c hsel (gi_c hini (gi_ hcode))))) rfl hR.1 hR.2.1 ⟨hyc, hd⟩ ⟨hR.2.2.1, hR.2.2.2⟩) ⟨hbl, va_recv C.2.2 (hwd H hP) hc he, fun U hU hW => ⟨rfl, by rw [hU]; exact hpre H hP, va_K.moved hW.alike C.2.2, hX U hW (by rw [hU]; exact hS.1) (by rw [hU]; exact hS.2.1)⟩⟩ rfl hn hl.1 hst (lv_room hroom) hdg hcs) hS (fun q _ h => hA q h) hA (fun q _ h => hA q h) ?_ ?_
  · intro E ce q9 u t H1 locs1 ht _ _ hB _ hk hS1 hce hcv hcl
    obtain ⟨rfl, hP1⟩ := hB
    exact vx_catch C.1.2.2.2.1 pre x suf hsplit hpass hcov h0 (C.1.2.2.2.2 _ (List.mem_cons_of_mem _ hcl9)) (va_Nw.use rfl hcast) hce hcv hcl (kk q9 ls H1 locs1 hl (hpost H H1 hP hk (by rw [← ht]; exact hP1)) hS1)
  · intro u t H1 locs1 _ _ hf
    exact hf.elim
end ST
/-- the stub's cells: the class's world, and the one that takes the answer -/
abbrev ow_ (D : va_G) (h : Nat) (cI cL cF : ClassId) (I : Nat → Nat → Int32) (J : Nat → Nat → Int64) (sh : Nat → Nat) (fr : Nat) (en : Int32) (o : Nat) (O : Nat → Int64) : Heap → Prop := va_P D cl_ (sy_ h cI cL cF I J sh fr en ++ [(o, .inl (cL, 1, .inr (.inl O)))])
def sA_ (h o : Nat) : Nat → Prop := fun q => ca_ h q ∨ q = o
theorem sw_D {h o : Nat} {cI cL cF : ClassId} {I : Nat → Nat → Int32} {J : Nat → Nat → Int64} {sh : Nat → Nat} {fr : Nat} {en : Int32} {O : Nat → Int64} (ho : ¬ ca_ h o) : va_D (sA_ h o) (sy_ h cI cL cF I J sh fr en ++ [(o, .inl (cL, 1, .inr (.inl O)))]) := by
  have key : ∀ (k : Nat) (q : Nat × va_E), (sy_ h cI cL cF I J sh fr en ++ [(o, .inl (cL, 1, .inr (.inl O)))])[k]? = some q → (k < 42 ∧ q.1 = h + k) ∨ (k = 42 ∧ q.1 = o) := by
    intro k q hq
    by_cases hk : k < 42
    · rw [List.getElem?_append_left (by rw [sy_len]; exact hk), sy_at hk] at hq
      cases hq
      exact Or.inl ⟨hk, rfl⟩
    · rw [List.getElem?_append_right (by rw [sy_len]; omega), sy_len] at hq
      have h1 := (List.getElem?_eq_some_iff.mp hq).1
      have h2 : k - 42 < 1 := h1
      rw [show k - 42 = 0 by omega] at hq
      cases hq
      exact Or.inr ⟨by omega, rfl⟩
  refine ⟨fun i j p q hp hq he => ?_, fun k q hq => ?_⟩
  · rcases key i p hp with ⟨a1, a2⟩ | ⟨a1, a2⟩ <;> rcases key j q hq with ⟨b1, b2⟩ | ⟨b1, b2⟩
    · omega
    · exact absurd ⟨by omega, by omega⟩ ho
    · exact absurd ⟨by omega, by omega⟩ ho
    · omega
  · rcases key k q hq with ⟨a1, a2⟩ | ⟨a1, a2⟩
    · exact Or.inl ⟨by omega, by omega⟩
    · exact Or.inr a2
theorem sw_post {D : va_G} {h o : Nat} {cI cL cF : ClassId} {w w' : va_W} {O : Nat → Int64} {H H1 : Heap} (ho : ¬ ca_ h o) (hP : va_P D cl_ (w ++ [(o, .inl (cL, 1, .inr (.inl O)))]) H) (hk : ∀ q : Nat, q < H.size → ¬ ca_ h q → H1[q]? = H[q]?) (h1 : va_P D cl_ w' H1) : va_P D cl_ (w' ++ [(o, .inl (cL, 1, .inr (.inl O)))]) H1 := by
  refine pa_j h1 (va_P.kept (pa_r hP) (fun k q hq => ?_))
  have h9 := (pa_r hP k q hq).lt
  have hz : k < 1 := (List.getElem?_eq_some_iff.mp hq).1
  rw [show k = 0 by omega] at hq
  cases hq
  exact hk o h9 ho
theorem sA_le {h o : Nat} (hho : h ≤ o) : ∀ q, sA_ h o q → h ≤ q := fun q hq => hq.elim (fun h9 => h9.1) (fun h9 => by rw [h9]; exact hho)
def zl_ (b : Bool) : Int64 := if b then 1 else 0
theorem ow_at {h o : Nat} {cI cL cF : ClassId} {I : Nat → Nat → Int32} {J : Nat → Nat → Int64} {sh : Nat → Nat} {fr : Nat} {en : Int32} {O : Nat → Int64} : (sy_ h cI cL cF I J sh fr en ++ [(o, (.inl (cL, 1, .inr (.inl O)) : va_E))])[42]? = some (o, .inl (cL, 1, .inr (.inl O))) := by
  rw [List.getElem?_append_right (by rw [sy_len]; exact Nat.le_refl _), sy_len]
  rfl
theorem ow_set {h o : Nat} {cI cL cF : ClassId} {I : Nat → Nat → Int32} {J : Nat → Nat → Int64} {sh : Nat → Nat} {fr : Nat} {en : Int32} {O : Nat → Int64} {e : va_E} : (sy_ h cI cL cF I J sh fr en ++ [(o, (.inl (cL, 1, .inr (.inl O)) : va_E))]).set 42 (o, e) = sy_ h cI cL cF I J sh fr en ++ [(o, e)] := by
  rw [List.set_append_right _ _ (by rw [sy_len]; exact Nat.le_refl _), sy_len]
  rfl
theorem aw_widen {p : Program} {l : Launch} {e : Env} {R : Room} {s : State} {m : MethodId} {args : Array Value} {below : List Frame} {meth : Method} {c : Code} {nL : Nat} {A : Nat → Prop} {Q : State → Prop} {P : Heap → Prop} {lw : List (Option Value)} {pc : Nat} {st : List Value} {a b k n : Nat} (h1 : a ≤ k) (h2 : b ≤ n) (kk : aw p l e R s m args below meth c nL A k n Q P lw pc st) : aw p l e R s m args below meth c nL A a b Q P lw pc st :=
  fun ls H locs hl hP hS T hT X => kk ls H locs hl hP hS T hT (stand_widen X h1 h2)
/-- a stub: it answers a number, it throws nothing -/
abbrev kh_ (l : Launch) (y : MethodName) (ws : List Cond) (rm : Room) (D : va_G) (tys : List (ClassId × FieldType)) (X : State → Prop) (A : Nat → Prop) (av : List Value) (P P' : Heap → Prop) (r : Int32) : Prop := vx_Met l y ws rm (sp_ av P D cl_ tys X) (va_Qi (fun x (_ : Unit) => x = r) (fun _ t => P' t.heap) A) (vx_X (fun (_ : Unit) => False) (fun _ _ _ => True) A) 1 6 A
