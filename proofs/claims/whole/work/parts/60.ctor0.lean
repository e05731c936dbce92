/-! Making: worlds whose cells stand one behind another, and how they grow. -/
def en_ : Nat → List va_E → va_W
  | _, [] => []
  | h, e :: r => (h, e) :: en_ (h + 1) r
theorem en_at : ∀ (es : List va_E) (h k : Nat), (en_ h es)[k]? = (es[k]?).map (fun e => (h + k, e))
  | [], h, k => by simp [en_]
  | e :: r, h, 0 => rfl
  | e :: r, h, k + 1 => by
    show (en_ (h + 1) r)[k]? = (r[k]?).map (fun e => (h + (k + 1), e))
    rw [en_at r (h + 1) k, show h + 1 + k = h + (k + 1) by omega]
theorem en_some {es : List va_E} {h k : Nat} {q : Nat × va_E} (hq : (en_ h es)[k]? = some q) : q.1 = h + k ∧ k < es.length ∧ es[k]? = some q.2 := by
  rw [en_at, Option.map_eq_some_iff] at hq
  obtain ⟨e, he, h1⟩ := hq
  subst h1
  exact ⟨rfl, (List.getElem?_eq_some_iff.mp he).1, he⟩
theorem en_of {es : List va_E} {h k : Nat} {e : va_E} (he : es[k]? = some e) : (en_ h es)[k]? = some (h + k, e) := by rw [en_at, he]; rfl
theorem en_len : ∀ (es : List va_E) (h : Nat), (en_ h es).length = es.length
  | [], h => rfl
  | e :: r, h => by show (en_ (h + 1) r).length + 1 = r.length + 1; rw [en_len r (h + 1)]
theorem en_D {es : List va_E} {h : Nat} : va_D (fun q => h ≤ q) (en_ h es) := by
  refine ⟨fun i j p q hp hq he => ?_, fun k q hq => ?_⟩
  · have h1 := (en_some hp).1
    have h2 := (en_some hq).1
    omega
  · have h1 := (en_some hq).1
    show h ≤ q.1
    omega
theorem en_app : ∀ (e0 e1 : List va_E) (h : Nat), en_ h (e0 ++ e1) = en_ h e0 ++ en_ (h + e0.length) e1
  | [], e1, h => rfl
  | e :: r, e1, h => by
    show (h, e) :: en_ (h + 1) (r ++ e1) = (h, e) :: (en_ (h + 1) r ++ en_ (h + (r.length + 1)) e1)
    rw [en_app r e1 (h + 1), show h + 1 + r.length = h + (r.length + 1) by omega]
theorem en_set : ∀ (es : List va_E) (h k : Nat) (e : va_E), (en_ h es).set k (h + k, e) = en_ h (es.set k e)
  | [], h, k, e => rfl
  | x :: r, h, 0, e => rfl
  | x :: r, h, k + 1, e => by
    show (h, x) :: (en_ (h + 1) r).set k (h + (k + 1), e) = (h, x) :: en_ (h + 1) (r.set k e)
    rw [← en_set r (h + 1) k e, show h + (k + 1) = h + 1 + k by omega]
theorem pa_l {D : va_G} {cl : List vw_C} {w0 w1 : va_W} {H : Heap} (h : va_P D cl (w0 ++ w1) H) : va_P D cl w0 H := fun k q hq => h k q (by rw [List.getElem?_append_left (List.getElem?_eq_some_iff.mp hq).1]; exact hq)
theorem pa_r {D : va_G} {cl : List vw_C} {w0 w1 : va_W} {H : Heap} (h : va_P D cl (w0 ++ w1) H) : va_P D cl w1 H := fun k q hq => h (w0.length + k) q (by rw [List.getElem?_append_right (by omega), Nat.add_sub_cancel_left]; exact hq)
theorem pa_j {D : va_G} {cl : List vw_C} {w0 w1 : va_W} {H : Heap} (h0 : va_P D cl w0 H) (h1 : va_P D cl w1 H) : va_P D cl (w0 ++ w1) H := by
  intro k q hq
  by_cases hk : k < w0.length
  · rw [List.getElem?_append_left hk] at hq; exact h0 k q hq
  · rw [List.getElem?_append_right (by omega)] at hq; exact h1 _ q hq
theorem en_next {D : va_G} {cl : List vw_C} {h q : Nat} {es : List va_E} {e : va_E} {H1 : Heap} (hP : va_P D cl (en_ h es ++ [(q, e)]) H1) (hD : va_D (fun q => h ≤ q) (en_ h es ++ [(q, e)])) (hz : H1.size ≤ h + es.length + 1) : q = h + es.length := by
  have hl : (en_ h es ++ [(q, e)])[es.length]? = some (q, e) := by rw [List.getElem?_append_right (by rw [en_len]; omega), en_len, Nat.sub_self]; rfl
  have h1 : q < H1.size := (hP _ _ hl).lt
  have h2 : h ≤ q := hD.2 _ _ hl
  by_cases h3 : q = h + es.length
  · exact h3
  · have hk : q - h < es.length := by omega
    have h4 : (en_ h es ++ [(q, e)])[q - h]? = some (h + (q - h), es[q - h]) := by
      rw [List.getElem?_append_left (by rw [en_len]; exact hk)]
      exact en_of (List.getElem?_eq_getElem hk)
    have h5 := hD.1 _ _ _ _ h4 hl (by show h + (q - h) = q; omega)
    omega
/-- a maker's own cells out of the whole, and back -/
theorem ct_pre {D : va_G} {cl : List vw_C} {h : Nat} {e0 e1 : List va_E} {H : Heap} (hP : va_P D cl (en_ h (e0 ++ e1)) H) : va_P D cl (en_ (h + e0.length) e1) H := by rw [en_app] at hP; exact pa_r hP
theorem ct_post {D : va_G} {cl : List vw_C} {h : Nat} {e0 e1 e2 : List va_E} {H H1 : Heap} (hP : va_P D cl (en_ h (e0 ++ e1)) H) (hk : ∀ q : Nat, q < H.size → ¬ h + e0.length ≤ q → H1[q]? = H[q]?) (h1 : va_P D cl (en_ (h + e0.length) e2) H1) : va_P D cl (en_ h (e0 ++ e2)) H1 := by
  rw [en_app] at hP ⊢
  refine pa_j (va_P.kept (pa_l hP) (fun k q hq => ?_)) h1
  have h2 := en_some hq
  exact hk q.1 ((pa_l hP k q hq).lt) (by omega)
theorem ct_size {D : va_G} {cl : List vw_C} {h n : Nat} {es : List va_E} {H : Heap} (hP : va_P D cl (en_ h es) H) (hn : es.length = n + 1) (hz : H.size ≤ h + es.length) : H.size = h + es.length := by
  have h1 : (en_ h es)[n]? = some (h + n, es[n]'(by omega)) := en_of (List.getElem?_eq_getElem (by omega))
  have h2 : h + n < H.size := (hP n _ h1).lt
  omega
theorem aw_metI {l : Launch} {y : MethodName} {ws ws' : List Cond} {rm : Room} {cc : ByteArray} {nL : Nat} {ret : Option FieldType} {av : List Value} {P : Heap → Prop} {D : va_G} {cl : List vw_C} {tys : List (ClassId × FieldType)} {X : State → Prop} {Qc : Array Value → State → Outcome → State → Prop} {mc ms : Nat} {A free : Addr → Prop} {own : String}
    (hy : plainName y.cls = true) (hw : ws = Cond.code y cc nL ret :: ws') (hown : y.cls = own) (hlen : (lg_sl av).length ≤ nL)
    (body : ∀ (p : Program) (e : Env) (s : State) (m : MethodId) (args : Array Value) (below : List Frame) (meth : Method) (c : Code), cx p s m args meth c cc nL ws own D cl tys → meth.sig.returnType = ret → meth.name = y.name → X s → P s.heap → aw p l e rm s m args below meth c nL A 0 0 (MQ below Qc args s mc ms free) P (lw_args av nL) 0 []) :
    Met l y ws rm (sp_ av P D cl tys X) Qc mc ms free := by
  refine Met.ofW (cc := cc) (maxL := nL) (ret := ret) hy hw ?_
  intro p e s m args below meth c s₁ B hml hv
  obtain ⟨rfl, hP, hK, hX⟩ := hv
  have hts := atoms_spec (ws := ws) B.pre
  have hcl : s.vm.findClass own = some m.cls := by rw [← hown]; exact findClass_of_methodNamed B.named
  have hl := lw_args_has av hlen
  rw [lg_entry_eq]
  exact body p e s m _ below meth c ⟨⟨B.exec, B.bytes, hml, hcl, hts⟩, B.notSynchronized, hK⟩ B.returns (name_of_methodNamed B.named B.method).1 hX hP _ s.heap [] hl hP va_S.rf
theorem ra_eq {U : State} {c d : ClassId} {ty : FieldType} (h1 : va_RA U c ty) (h2 : va_RA U d ty) : c = d := by
  cases ty with
  | object C =>
    obtain ⟨_, _, -, -, -, a⟩ := h1
    obtain ⟨_, _, -, -, -, b⟩ := h2
    exact Option.some.inj (a.symm.trans b)
  | _ =>
    have a : U.vm.findClass _ = some c := h1
    have b : U.vm.findClass _ = some d := h2
    exact Option.some.inj (a.symm.trans b)
section MK
variable {p : Program} {l : Launch} {e : Env} {R : Room} {s : State} {m : MethodId} {args : Array Value} {below : List Frame} {meth : Method} {c : Code}
variable {cc : ByteArray} {nL : Nat} {Ts : List Cond} {own : String} {D : va_G} {cl : List vw_C} {tys : List (ClassId × FieldType)} {A A1 : Nat → Prop} {cells slots : Nat} {Q : State → Prop} {P P' : Heap → Prop} {lw : List (Option Value)} {pc : Nat} {st rest : List Value} {X : State → Prop} {h : Nat} {es : List va_E}
theorem aw_size (k : aw p l e R s m args below meth c nL A cells slots Q (fun H => P H ∧ H.size ≤ s.heap.size + cells) lw pc st) : aw p l e R s m args below meth c nL A cells slots Q P lw pc st := by
  intro ls H locs hl hP hS T hT X
  exact k ls H locs hl ⟨hP, by have h9 := X.same.2.2.1; rw [← hT]; exact h9⟩ hS T hT X
theorem aw_newz (C : cx p s m args meth c cc nL Ts own D cl tys) (hh : h ≤ s.heap.size) (hz : s.heap.size + cells = h + es.length) {Cn : String} {T : u_T} {N ci index : Nat} (hin : ∀ w ∈ u_ws Cn T N, w ∈ Ts) (ty : Nat → FieldType) (hty : ∀ k, k < N → parseFieldDescriptor (T k).2.2.1 = some (ty k)) (hcl : (Cond.classLink own index Cn).before args s = true) (hinst : (Cond.instantiable Cn N).before args s = true) (hini : (Cond.initialized Cn).before args s = true)
    (hc : cl[ci]? = some (Cn, T, N)) {fs : List Value} (hfs : ∀ j, j < N → defaultValue (ty j) = vp_V fs j) (hcells : cells + 1 ≤ R.cells) (hslots : slots + N ≤ R.slots) (hdg : decode cc pc = .ok (.new index, 3))
    (kk : aw p l e R s m args below meth c nL (fun q => h ≤ q) (cells + 1) (slots + N) Q (va_P D cl (en_ h (es ++ [.inr (ci, fs)]))) lw (pc + 3) (.ref (h + es.length) :: rest)) : aw p l e R s m args below meth c nL (fun q => h ≤ q) cells slots Q (va_P D cl (en_ h es)) lw pc rest := by
  intro ls H locs hl hP hS
  refine va_new C.1.1 C.1.2.1 C.1.2.2.2.2 hin ty hty C.1.2.2.2.1 hcl hinst hini C.2.2 hP en_D hS (fun q hq => Nat.le_trans hh hq) hc hfs hcells hslots hdg (fun q H1 hP1 hD1 hS1 => ?_)
  intro T hT X
  have h9 := X.same.2.2.1
  have h8 : H1.size ≤ s.heap.size + (cells + 1) := by rw [← hT]; exact h9
  have hq : q = h + es.length := en_next hP1 hD1 (by omega)
  subst hq
  refine kk ls H1 locs hl ?_ hS1 T hT X
  rw [en_app]
  exact hP1
theorem aw_newaz (C : cx p s m args meth c cc nL Ts own D cl tys) (hh : h ≤ s.heap.size) (hz : s.heap.size + cells = h + es.length) {atype : ArrayType} (harr : (Cond.arrayClass (newarray.typeOf atype)).before args s = true) {ty : FieldType} (hty : newarray.typeOf atype = ty) (t0 : Nat) {cA : ClassId} (ht : tys[t0]? = some (cA, ty))
    {n : Int32} {N' : Nat} {a0 : vp_A} (ha : ∀ cA : ClassId, vp_cell cA a0 = arrV cA N' (fun _ => defaultValue ty)) (hn : n = nI N') (hb : N' * componentBytes ty ≤ 536870912) (hN : N' < 2 ^ 31) (hcells : cells + 1 ≤ R.cells) (hslots : slots + N' ≤ R.slots) (hdg : decode cc pc = .ok (.newarray atype, 2))
    (kk : aw p l e R s m args below meth c nL (fun q => h ≤ q) (cells + 1) (slots + N') Q (va_P D cl (en_ h (es ++ [.inl (cA, a0)]))) lw (pc + 2) (.ref (h + es.length) :: rest)) : aw p l e R s m args below meth c nL (fun q => h ≤ q) cells slots Q (va_P D cl (en_ h es)) lw pc (.int n :: rest) := by
  subst hn
  intro ls H locs hl hP hS
  refine va_newa C.1.1 C.1.2.1 harr hty C.2.2 hP en_D hS (fun q hq => Nat.le_trans hh hq) ha (nI_pos hN) (nI_clamp hN) hb hcells hslots hdg (fun q cB H1 hK1 hP1 hD1 hS1 => ?_)
  have hcc : cB = cA := ra_eq (hK1.2 tys.length (cB, ty) (by rw [List.getElem?_append_right (Nat.le_refl _), Nat.sub_self]; rfl)).2 (C.2.2.2 t0 _ ht).2
  subst hcc
  intro T hT X
  have h9 := X.same.2.2.1
  have h8 : H1.size ≤ s.heap.size + (cells + 1) := by rw [← hT]; exact h9
  have hq : q = h + es.length := en_next hP1 hD1 (by omega)
  subst hq
  refine kk ls H1 locs hl ?_ hS1 T hT X
  rw [en_app]
  exact hP1
theorem aw_newqz (C : cx p s m args meth c cc nL Ts own D cl tys) (hh : h ≤ s.heap.size) (hz : s.heap.size + cells = h + es.length) {Cn : String} {index : Nat} (hcl : (Cond.classLink own index Cn).before args s = true) (hov : va_AO Cn s) (t0 : Nat) {cA : ClassId} (ht : tys[t0]? = some (cA, .object Cn))
    {n : Int32} {N' : Nat} (hn : n = nI N') (hb : N' * 4 ≤ 536870912) (hN : N' < 2 ^ 31) (hcells : cells + 1 ≤ R.cells) (hslots : slots + N' ≤ R.slots) (hdg : decode cc pc = .ok (.anewarray index, 3))
    (kk : aw p l e R s m args below meth c nL (fun q => h ≤ q) (cells + 1) (slots + N') Q (va_P D cl (en_ h (es ++ [.inl (cA, N', .inr (.inr (.inr (.inr (fun _ => none)))))]))) lw (pc + 3) (.ref (h + es.length) :: rest)) : aw p l e R s m args below meth c nL (fun q => h ≤ q) cells slots Q (va_P D cl (en_ h es)) lw pc (.int n :: rest) := by
  subst hn
  intro ls H locs hl hP hS
  refine va_newq C.1.1 C.1.2.1 C.1.2.2.2.1 hcl hov C.2.2 hP en_D hS (fun q hq => Nat.le_trans hh hq) (nI_pos hN) (nI_clamp hN) hb hcells hslots hdg (fun q cB H1 hK1 hP1 hD1 hS1 => ?_)
  have hcc : cB = cA := ra_eq (hK1.2 tys.length (cB, .object Cn) (by rw [List.getElem?_append_right (Nat.le_refl _), Nat.sub_self]; rfl)).2 (C.2.2.2 t0 _ ht).2
  subst hcc
  intro T hT X
  have h9 := X.same.2.2.1
  have h8 : H1.size ≤ s.heap.size + (cells + 1) := by rw [← hT]; exact h9
  have hq : q = h + es.length := en_next hP1 hD1 (by omega)
  subst hq
  refine kk ls H1 locs hl ?_ hS1 T hT X
  rw [en_app]
  exact hP1
theorem aw_putF {ws : va_W} {a : Nat} (C : cx p s m args meth c cc nL Ts own D cl tys) {ref Cn : String} {T : u_T} {N ci index : Nat} (hD : va_D A ws) (hin : ∀ w ∈ u_ws Cn T N, w ∈ Ts) (ty0 : Nat → FieldType) (hty : ∀ k, k < N → parseFieldDescriptor (T k).2.2.1 = some (ty0 k)) (hnm : ∀ a, a < N → ∀ b, b < N → a ≠ b → (T a).2.1 ≠ (T b).2.1) (q0 : Nat) {fs : List Value} (he : ws[q0]? = some (a, .inr (ci, fs))) (hc : cl[ci]? = some (Cn, T, N)) (k : Nat) (hk : k < N) (hlink : (Cond.fieldLink own index ref (T k).2.1 (T k).2.2.1).before args s = true) (hsame : ∀ x, s.fieldFound? (T k).1 (T k).2.1 (T k).2.2.1 = some x → s.fieldFound? ref (T k).2.1 (T k).2.2.1 = some x) (hfin : (T k).2.2.2 = true) (hin2 : meth.name = "<init>") (hdecl : (T k).1 = own) {ty : FieldType} {v : Value} (hd : parseFieldDescriptor (T k).2.2.1 = some ty) (hn : narrow ty v = v) (hfit : fits ty v = true) (hl9 : k < fs.length) {ws' : va_W} (hw : ws.set q0 (a, .inr (ci, fs.set k v)) = ws') (hdg : decode cc pc = .ok (.putfield index, 3))
    (kk : aw p l e R s m args below meth c nL A cells slots Q (va_P D cl ws') lw (pc + 3) (rest)) : aw p l e R s m args below meth c nL A cells slots Q (va_P D cl ws) lw pc (v :: .ref a :: rest) :=
  fun ls H locs hl hP hS => va_putF C.1.1 C.1.2.1 C.1.2.2.2.2 hin ty0 hty hnm C.1.2.2.2.1 C.2.2 hP hD hS q0 he hc k hk hlink hsame hfin hin2 hdecl hd hn hfit hl9 hdg (fun H1 locs1 hP1 _ hS1 => kk ls H1 locs1 hl (by rw [← hw]; exact hP1) hS1)
end MK
section KI
variable {p : Program} {l : Launch} {e : Env} {R : Room} {s : State} {m : MethodId} {args : Array Value} {below : List Frame} {meth : Method} {c : Code}
variable {cc : ByteArray} {nL : Nat} {c0 : Cond} {own : String} {D : va_G} {tys : List (ClassId × FieldType)} {A A1 : Nat → Prop} {cells slots : Nat} {Q : State → Prop} {P P' Pc P1 : Heap → Prop} {lw : List (Option Value)} {pc : Nat} {st rest : List Value} {X X1 : State → Prop}
variable {y : MethodName} {bytes : ByteArray} {maxL index n mc ms : Nat} {rm : Room} {As : List Value} {b : Nat}
/-- a maker is called: what it needs of the heap, what it leaves, the rest of the heap -/
theorem kq_I (C : cx p s m args meth c cc nL (c0 :: tw_) own D cl_ tys) (hX : ∀ U : State, s.WarmedH U.vm → s.heap.size ≤ U.heap.size → (∀ q : Nat, q < s.heap.size → ¬ A q → U.heap[q]? = s.heap[q]?) → X1 U) (hbl : FrameBlind (sp_ (.ref b :: As) Pc D cl_ tys X1))
    (hM : Met l y (Cond.code y bytes maxL none :: tw_) rm (sp_ (.ref b :: As) Pc D cl_ tys X1) (va_Qv (fun (_ : Unit) => True) (fun _ t => P1 t.heap) A1) mc ms A1) (hcode : Cond.code y bytes maxL none ∈ tw_) (hlink : Cond.methodLink own index y ∈ tw_ ∨ ∃ host, va_Nw (Cond.methodLinkNest own index y host) s) (hinst : Cond.instanceMethod y ∈ tw_) (hini : Cond.initialized y.cls ∈ tw_) (hname : y.name = "<init>") (hd : kd_ y n) (hR : rm.cells = mc ∧ rm.slots = ms ∧ rm.frames + 1 ≤ R.frames ∧ 8 + (maxL + 11) + rm.locals ≤ R.locals)
    (hn : As.length = n) (hst : st = As.reverse ++ .ref b :: rest) (hroom : (rest.map fun v => v.category).sum ≤ 8) (hcs : cells + mc ≤ R.cells ∧ slots + ms ≤ R.slots) (hdg : decode cc pc = .ok (.invokespecial index, 3))
    (hA : ∀ q, A1 q → A q) (hpre : ∀ H, P H → H.size ≤ s.heap.size + cells → Pc H) (hpost : ∀ H H1, P H → (∀ q : Nat, q < H.size → ¬ A1 q → H1[q]? = H[q]?) → P1 H1 → P' H1)
    (kk : aw p l e R s m args below meth c nL A (cells + mc) (slots + ms) Q P' lw (pc + 3) rest) : aw p l e R s m args below meth c nL A cells slots Q P lw pc st := by
  refine aw_size ?_
  intro ls H locs hl hP hS
  have hp : PreS s H (sp_ (.ref b :: As) Pc D cl_ tys X1) (.ref b :: As) := ⟨hbl, fun U hU hW => ⟨rfl, by rw [hU]; exact hpre H hP.1 hP.2, va_K.moved hW.alike C.2.2, hX U hW (by rw [hU]; exact hS.1) (by rw [hU]; exact hS.2.1)⟩⟩
  have hw : ∀ w ∈ tw_, w.before args s = true := fun w h => C.1.2.2.2.2 w (List.mem_cons_of_mem _ h)
  have hr : va_Run p l e R s m args below meth c H locs cells slots mc ms (F0 m pc ls st) rest (va_Qv (fun (_ : Unit) => True) (fun _ t => P1 t.heap) A1 (Value.ref b :: As).toArray) A1 := by
    rcases hlink with hlink | ⟨host, hlink⟩
    · exact va_runI C.1 hM (cwI n C.1.2.2.2.2 (gi_ hcode) rfl hR.1 hR.2.1 (hw _ hini) (hw _ hlink) (hw _ hinst) hname hd ⟨hR.2.2.1, hR.2.2.2⟩) hp rfl hn hl.1 hst (lv_room hroom) hdg hcs
    · exact va_runIN C.1 hM ⟨va_cnB n C.1.2.2.2.2 (gi_ hcode) rfl hR.1 hR.2.1 hlink (hw _ hini) hd ⟨hR.2.2.1, hR.2.2.2⟩, hname, hw _ hinst⟩ hp rfl hn hl.1 hst (lv_room hroom) hdg hcs
  refine va_callv hr hS (fun q _ h => hA q h) hA ?_
  intro u t H1 locs1 ht _ _ hB _ hk hS1
  exact kk ls H1 locs1 hl (hpost H H1 hP.1 hk (by rw [← ht]; exact hB)) hS1
end KI
