/-! A method's entry, its ends, its calls. -/
def lw_args (vs : List Value) (n : Nat) : List (Option Value) := (lg_sl vs ++ List.replicate (n - (lg_sl vs).length) Slot.unset).map (fun z => match z with
  | .val v => some v
  | _ => none)
theorem lw_args_has (vs : List Value) {n : Nat} (h : (lg_sl vs).length ≤ n) : lw_has ((lg_sl vs ++ List.replicate (n - (lg_sl vs).length) Slot.unset).toArray) n (lw_args vs n) := by
  obtain ⟨h1, h2, -⟩ := lv_entry vs h
  refine ⟨h1, h2, fun k v hk => ?_⟩
  unfold lw_args at hk
  rw [List.getElem?_map, Option.map_eq_some_iff] at hk
  obtain ⟨z, hz, hv⟩ := hk
  rw [List.getElem?_toArray, hz]
  cases z with
  | val w => simp only [Option.some.injEq] at hv; rw [hv]
  | _ => cases hv
/-- a start: the arguments, the heap's predicate, the classes, what else holds of the state -/
def sp_ (av : List Value) (P : Heap → Prop) (D : va_G) (cl : List vw_C) (tys : List (ClassId × FieldType)) (X : State → Prop) : Array Value → State → Prop := va_Pc av (fun U => P U.heap ∧ va_K D cl tys U ∧ X U)
/-- what is kept where only cells of A change -/
def xk (A : Nat → Prop) (X : State → Prop) : Prop := ∀ u U : State, u.WarmedH U.vm → u.heap.size ≤ U.heap.size → (∀ q : Nat, q < u.heap.size → ¬ A q → U.heap[q]? = u.heap[q]?) → X u → X U
theorem xk_true {A : Nat → Prop} : xk A (fun _ => True) := fun _ _ _ _ _ h => h
theorem xk_and {A : Nat → Prop} {X Y : State → Prop} (h1 : xk A X) (h2 : xk A Y) : xk A (fun U => X U ∧ Y U) := fun u U a b d h => ⟨h1 u U a b d h.1, h2 u U a b d h.2⟩
theorem sp_blind {av : List Value} {P : Heap → Prop} {D : va_G} {cl : List vw_C} {tys : List (ClassId × FieldType)} {X : State → Prop} {A : Nat → Prop} (h : xk A X) : FrameBlind (sp_ av P D cl tys X) := fun a U g mk q =>
  ⟨q.1, q.2.1, va_K.moved (u := U) (U := U.calling g mk a) (Vm.Alike.refl U.vm) q.2.2.1, h U (U.calling g mk a) (State.WarmedH.refl U) (Nat.le_refl _) (fun _ _ _ => rfl) q.2.2.2⟩
theorem aw_met {l : Launch} {y : MethodName} {ws ws' : List Cond} {rm : Room} {cc : ByteArray} {nL : Nat} {ret : Option FieldType} {av : List Value} {P : Heap → Prop} {D : va_G} {cl : List vw_C} {tys : List (ClassId × FieldType)} {X : State → Prop} {Qc : Array Value → State → Outcome → State → Prop} {mc ms : Nat} {A free : Addr → Prop} {own : String}
    (hy : plainName y.cls = true) (hw : ws = Cond.code y cc nL ret :: ws') (hown : y.cls = own) (hlen : (lg_sl av).length ≤ nL)
    (body : ∀ (p : Program) (e : Env) (s : State) (m : MethodId) (args : Array Value) (below : List Frame) (meth : Method) (c : Code), cx p s m args meth c cc nL ws own D cl tys → meth.sig.returnType = ret → X s → P s.heap → aw p l e rm s m args below meth c nL A 0 0 (MQ below Qc args s mc ms free) P (lw_args av nL) 0 []) :
    Met l y ws rm (sp_ av P D cl tys X) Qc mc ms free := by
  refine Met.ofW (cc := cc) (maxL := nL) (ret := ret) hy hw ?_
  intro p e s m args below meth c s₁ B hml hv
  obtain ⟨rfl, hP, hK, hX⟩ := hv
  have hts := atoms_spec (ws := ws) B.pre
  have hcl : s.vm.findClass own = some m.cls := by rw [← hown]; exact findClass_of_methodNamed B.named
  have hl := lw_args_has av hlen
  rw [lg_entry_eq]
  exact body p e s m _ below meth c ⟨⟨B.exec, B.bytes, hml, hcl, hts⟩, B.notSynchronized, hK⟩ B.returns hX hP _ s.heap [] hl hP va_S.rf
section AR
variable {p : Program} {l : Launch} {e : Env} {R : Room} {s : State} {m : MethodId} {args : Array Value} {below : List Frame} {meth : Method} {c : Code} {cc : ByteArray} {nL : Nat} {Ts : List Cond} {own : String} {D : va_G} {cl : List vw_C} {tys : List (ClassId × FieldType)} {A : Nat → Prop} {cells slots : Nat} {Q : State → Prop} {P : Heap → Prop} {lw : List (Option Value)} {pc : Nat} {st rest : List Value}
theorem aw_iret (C : cx p s m args meth c cc nL Ts own D cl tys) (hr : meth.sig.returnType = some .int) {S : Type} {post : Int32 → S → Prop} {B : S → State → Prop} {v : Int32} (hdg : decode cc pc = .ok (.ireturn, 1)) (hq : ∀ t : State, P t.heap → s.vm.Alike t.vm → ∃ u, post v u ∧ B u t) : aw p l e R s m args below meth c nL A cells slots (MQ below (va_Qi post B A) args s cells slots A) P lw pc [.int v] := by
  intro ls H locs hl hP hS
  have hlk : meth.locks = false := C.2.1
  refine W.iret C.1.1 C.1.2.1 hr (fun t ht hW => ?_) hS.2.2 hdg
  obtain ⟨u, h1, h2⟩ := hq t (by rw [ht]; exact hP) hW.alike
  exact ⟨⟨v, u, rfl, h1, h2⟩, hS.F ht⟩
theorem aw_zret (C : cx p s m args meth c cc nL Ts own D cl tys) (hr : meth.sig.returnType = some .boolean) {S : Type} {post : Int32 → S → Prop} {B : S → State → Prop} {v : Int32} (hn : narrow .boolean (.int v) = .int v) (hdg : decode cc pc = .ok (.ireturn, 1)) (hq : ∀ t : State, P t.heap → s.vm.Alike t.vm → ∃ u, post v u ∧ B u t) : aw p l e R s m args below meth c nL A cells slots (MQ below (va_Qi post B A) args s cells slots A) P lw pc [.int v] := by
  intro ls H locs hl hP hS
  have hlk : meth.locks = false := C.2.1
  refine W.zret C.1.1 C.1.2.1 hr hn (fun t ht hW => ?_) hS.2.2 hdg
  obtain ⟨u, h1, h2⟩ := hq t (by rw [ht]; exact hP) hW.alike
  exact ⟨⟨v, u, rfl, h1, h2⟩, hS.F ht⟩
theorem aw_lret (C : cx p s m args meth c cc nL Ts own D cl tys) (hr : meth.sig.returnType = some .long) {S : Type} {post : Int64 → S → Prop} {B : S → State → Prop} {v : Int64} (hdg : decode cc pc = .ok (.lreturn, 1)) (hq : ∀ t : State, P t.heap → s.vm.Alike t.vm → ∃ u, post v u ∧ B u t) : aw p l e R s m args below meth c nL A cells slots (MQ below (va_Ql post B A) args s cells slots A) P lw pc [.long v] := by
  intro ls H locs hl hP hS
  have hlk : meth.locks = false := C.2.1
  refine W.lret C.1.1 C.1.2.1 hr (fun t ht hW => ?_) hS.2.2 hdg
  obtain ⟨u, h1, h2⟩ := hq t (by rw [ht]; exact hP) hW.alike
  exact ⟨⟨v, u, rfl, h1, h2⟩, hS.F ht⟩
theorem aw_vret (C : cx p s m args meth c cc nL Ts own D cl tys) (hr : meth.sig.returnType = none) {S : Type} {post : S → Prop} {B : S → State → Prop} (hdg : decode cc pc = .ok (.return_, 1)) (hq : ∀ t : State, P t.heap → s.vm.Alike t.vm → ∃ u, post u ∧ B u t) : aw p l e R s m args below meth c nL A cells slots (MQ below (va_Qv post B A) args s cells slots A) P lw pc [] := by
  intro ls H locs hl hP hS
  have hlk : meth.locks = false := C.2.1
  refine W.vret C.1.1 C.1.2.1 hr (fun t ht hW => ?_) hS.2.2 hdg
  obtain ⟨u, h1, h2⟩ := hq t (by rw [ht]; exact hP) hW.alike
  exact ⟨⟨u, rfl, h1, h2⟩, hS.F ht⟩
variable {y : MethodName} {bytes : ByteArray} {maxL mc ms n index : Nat} {ret : Option FieldType} {wc : List Cond} {rm : Room} {Pc : Array Value → State → Prop} {Qc : Array Value → State → Outcome → State → Prop} {free A1 : Addr → Prop} {As : List Value} {b : Nat} {Cn : String}
theorem ar_S (C : cx p s m args meth c cc nL Ts own D cl tys) (hM : Met l y wc rm Pc Qc mc ms free) (cw : CallB R s args own index y bytes maxL ret wc rm mc ms n ∧ (Cond.static y).before args s = true) (hp : ∀ U : State, P U.heap → s.WarmedH U.vm → s.heap.size ≤ U.heap.size → (∀ q : Nat, q < s.heap.size → ¬ A q → U.heap[q]? = s.heap[q]?) → Pc As.toArray U) (hbl : FrameBlind Pc) (hn : As.length = n) (hst : st = As.reverse ++ rest) (hroom : (rest.map fun v => v.category).sum ≤ 8) (hdg : decode cc pc = .ok (.invokestatic index, 3)) (hf : cells + mc ≤ R.cells ∧ slots + ms ≤ R.slots) :
    ∀ (ls : Array Slot) (H : Heap) (locs : List Loc), lw_has ls nL lw → P H → va_S A s.heap H locs → va_Run p l e R s m args below meth c H locs cells slots mc ms (F0 m pc ls st) rest (Qc As.toArray) free :=
  fun ls H locs hl hP hS => va_runS C.1 hM cw ⟨hbl, fun U hU hW => hp U (by rw [hU]; exact hP) hW (by rw [hU]; exact hS.1) (by rw [hU]; exact hS.2.1)⟩ rfl hn hl.1 hst (lv_room hroom) hdg hf
theorem ar_V (C : cx p s m args meth c cc nL Ts own D cl tys) (hM : Met l y wc rm Pc Qc mc ms free) (cw : CallW R s args own Cn index y bytes maxL ret wc rm mc ms n) (hrc : ∀ H : Heap, P H → ∃ cellB : Cell, H[b]? = some cellB ∧ cellB.vm.isStatics = false ∧ s.vm.findClass Cn = some cellB.cls) (hp : ∀ U : State, P U.heap → s.WarmedH U.vm → s.heap.size ≤ U.heap.size → (∀ q : Nat, q < s.heap.size → ¬ A q → U.heap[q]? = s.heap[q]?) → Pc (Value.ref b :: As).toArray U) (hbl : FrameBlind Pc) (hn : As.length = n) (hst : st = As.reverse ++ .ref b :: rest) (hroom : (rest.map fun v => v.category).sum ≤ 8) (hdg : decode cc pc = .ok (.invokevirtual index, 3)) (hf : cells + mc ≤ R.cells ∧ slots + ms ≤ R.slots) :
    ∀ (ls : Array Slot) (H : Heap) (locs : List Loc), lw_has ls nL lw → P H → va_S A s.heap H locs → va_Run p l e R s m args below meth c H locs cells slots mc ms (F0 m pc ls st) rest (Qc (Value.ref b :: As).toArray) free :=
  fun ls H locs hl hP hS => va_runV C.1 hM cw ⟨hbl, hrc H hP, fun U hU hW => hp U (by rw [hU]; exact hP) hW (by rw [hU]; exact hS.1) (by rw [hU]; exact hS.2.1)⟩ rfl hn hl.1 hst (lv_room hroom) hdg hf
theorem ar_I (C : cx p s m args meth c cc nL Ts own D cl tys) (hM : Met l y wc rm Pc Qc mc ms free) (cw : CallB R s args own index y bytes maxL none wc rm mc ms n ∧ y.name = "<init>" ∧ (Cond.instanceMethod y).before args s = true) (hp : ∀ U : State, P U.heap → s.WarmedH U.vm → s.heap.size ≤ U.heap.size → (∀ q : Nat, q < s.heap.size → ¬ A q → U.heap[q]? = s.heap[q]?) → Pc (Value.ref b :: As).toArray U) (hbl : FrameBlind Pc) (hn : As.length = n) (hst : st = As.reverse ++ .ref b :: rest) (hroom : (rest.map fun v => v.category).sum ≤ 8) (hdg : decode cc pc = .ok (.invokespecial index, 3)) (hf : cells + mc ≤ R.cells ∧ slots + ms ≤ R.slots) :
    ∀ (ls : Array Slot) (H : Heap) (locs : List Loc), lw_has ls nL lw → P H → va_S A s.heap H locs → va_Run p l e R s m args below meth c H locs cells slots mc ms (F0 m pc ls st) rest (Qc (Value.ref b :: As).toArray) free :=
  fun ls H locs hl hP hS => va_runI C.1 hM cw ⟨hbl, fun U hU hW => hp U (by rw [hU]; exact hP) hW (by rw [hU]; exact hS.1) (by rw [hU]; exact hS.2.1)⟩ rfl hn hl.1 hst (lv_room hroom) hdg hf
theorem aw_runi {S : Type} {post : Int32 → S → Prop} {B : S → State → Prop} {P' : S → Heap → Prop} {a : Array Value} (hr : ∀ (ls : Array Slot) (H : Heap) (locs : List Loc), lw_has ls nL lw → P H → va_S A s.heap H locs → va_Run p l e R s m args below meth c H locs cells slots mc ms (F0 m pc ls st) rest (va_Qi post B A1 a) free) (hA : ∀ q, A1 q → A q) (hfree : ∀ q, free q → A q) (hB : ∀ (u : S) (t : State), B u t → s.vm.Alike t.vm → P' u t.heap)
    (kk : ∀ (r : Int32) (u : S), post r u → aw p l e R s m args below meth c nL A (cells + mc) (slots + ms) Q (P' u) lw (pc + 3) (.int r :: rest)) : aw p l e R s m args below meth c nL A cells slots Q P lw pc st := by
  intro ls H locs hl hP hS
  refine va_calli (hr ls H locs hl hP hS) hS (fun q _ h => hA q h) hfree ?_
  intro r u t H1 locs1 ht hvm hpost hB1 hz hk hS1
  exact kk r u hpost ls H1 locs1 hl (by rw [← ht]; exact hB u t hB1 hvm) hS1
theorem aw_runl {S : Type} {post : Int64 → S → Prop} {B : S → State → Prop} {P' : S → Heap → Prop} {a : Array Value} (hr : ∀ (ls : Array Slot) (H : Heap) (locs : List Loc), lw_has ls nL lw → P H → va_S A s.heap H locs → va_Run p l e R s m args below meth c H locs cells slots mc ms (F0 m pc ls st) rest (va_Ql post B A1 a) free) (hA : ∀ q, A1 q → A q) (hfree : ∀ q, free q → A q) (hB : ∀ (u : S) (t : State), B u t → s.vm.Alike t.vm → P' u t.heap)
    (kk : ∀ (r : Int64) (u : S), post r u → aw p l e R s m args below meth c nL A (cells + mc) (slots + ms) Q (P' u) lw (pc + 3) (.long r :: rest)) : aw p l e R s m args below meth c nL A cells slots Q P lw pc st := by
  intro ls H locs hl hP hS
  refine va_calll (hr ls H locs hl hP hS) hS (fun q _ h => hA q h) hfree ?_
  intro r u t H1 locs1 ht hvm hpost hB1 hz hk hS1
  exact kk r u hpost ls H1 locs1 hl (by rw [← ht]; exact hB u t hB1 hvm) hS1
theorem aw_runv {S : Type} {post : S → Prop} {B : S → State → Prop} {P' : S → Heap → Prop} {a : Array Value} (hr : ∀ (ls : Array Slot) (H : Heap) (locs : List Loc), lw_has ls nL lw → P H → va_S A s.heap H locs → va_Run p l e R s m args below meth c H locs cells slots mc ms (F0 m pc ls st) rest (va_Qv post B A1 a) free) (hA : ∀ q, A1 q → A q) (hfree : ∀ q, free q → A q) (hB : ∀ (u : S) (t : State), B u t → s.vm.Alike t.vm → P' u t.heap)
    (kk : ∀ (u : S), post u → aw p l e R s m args below meth c nL A (cells + mc) (slots + ms) Q (P' u) lw (pc + 3) (rest)) : aw p l e R s m args below meth c nL A cells slots Q P lw pc st := by
  intro ls H locs hl hP hS
  refine va_callv (hr ls H locs hl hP hS) hS (fun q _ h => hA q h) hfree ?_
  intro u t H1 locs1 ht hvm hpost hB1 hz hk hS1
  exact kk u hpost ls H1 locs1 hl (by rw [← ht]; exact hB u t hB1 hvm) hS1
end AR
