/-! Exceptions: what a throw takes from outside, and how it passes. -/
def ew_ : List Cond := [.castable "java/lang/IndexOutOfBoundsException" "java/lang/IndexOutOfBoundsException", .declares ⟨"java/lang/RuntimeException", "<init>", "()V"⟩, .declares ⟨"java/lang/RuntimeException", "<init>", "(Ljava/lang/String;)V"⟩, .declares ⟨"java/lang/Exception", "<init>", "()V"⟩, .declares ⟨"java/lang/Exception", "<init>", "(Ljava/lang/String;)V"⟩, .declares ⟨"java/lang/Throwable", "<init>", "()V"⟩, .declares ⟨"java/lang/Throwable", "<init>", "(Ljava/lang/String;)V"⟩, .castable "java/lang/IllegalArgumentException" "java/lang/IllegalArgumentException", .castable "java/lang/ArithmeticException" "java/lang/ArithmeticException", .castable "java/util/NoSuchElementException" "java/util/NoSuchElementException"]
def tx_ : List (Nat × String) := [(150, "no such shelf"), (155, "no such element"), (157, "no such vertex"), (161, "an argument outside its range"), (164, "an edge from a vertex to itself"), (168, "division by a family without sets"), (173, "a family without sets")]
theorem ew_warm {w : Cond} (hw : w ∈ ew_) {s U : State} (hW : s.WarmedH U.vm) (h : va_Nw w s) : va_Nw w U := by
  unfold ew_ at hw
  simp only [List.mem_cons, List.not_mem_nil, or_false] at hw
  rcases hw with rfl | rfl | rfl | rfl | rfl | rfl | rfl | rfl | rfl | rfl
  · exact va_Nw.warmC hW h
  · exact va_Nw.warmD hW h
  · exact va_Nw.warmD hW h
  · exact va_Nw.warmD hW h
  · exact va_Nw.warmD hW h
  · exact va_Nw.warmD hW h
  · exact va_Nw.warmD hW h
  · exact va_Nw.warmC hW h
  · exact va_Nw.warmC hW h
  · exact va_Nw.warmC hW h
def xe_ (h : Nat) (U : State) : Prop := (∀ w ∈ ew_, va_Nw w U) ∧ vx_Zq Bundle.tN "UNASSIGNED_STACK" Bundle.steD (fun q => h ≤ q) U U.heap ∧ vx_Zq Bundle.tN "SUPPRESSED_SENTINEL" Bundle.listD (fun q => h ≤ q) U U.heap ∧ ∀ x ∈ tx_, ∃ a, vk_R "FamilyShelf" x.1 x.2 a U
theorem xe_k {h : Nat} {A : Nat → Prop} (hA : ∀ q, A q → h ≤ q) : xk A (xe_ h) := by
  intro u U hW hz hk hX
  refine ⟨fun w hw => ew_warm hw hW (hX.1 w hw), ?_, ?_, fun x hx => ?_⟩
  · exact vx_Zq.kept (vx_Zq.moved hW.alike hX.2.1) (fun a ha hna => hk a ha (fun h9 => hna (hA a h9)))
  · exact vx_Zq.kept (vx_Zq.moved hW.alike hX.2.2.1) (fun a ha hna => hk a ha (fun h9 => hna (hA a h9)))
  · obtain ⟨a, ha⟩ := hX.2.2.2 x hx
    exact ⟨a, vk_R.warm hW ha⟩
def xp_ (h th : Nat) (U : State) : Prop := xw_ h th U ∧ xe_ h U
theorem xp_k {h th : Nat} {A : Nat → Prop} (hA : ∀ q, A q → h ≤ q) : xk A (xp_ h th) := xk_and (xw_k hA) (xe_k hA)
/-- a heap that grew keeps a world -/
theorem wk_kept {D : va_G} {cl : List vw_C} {ws : va_W} {H H1 : Heap} (h : va_P D cl ws H) (hq : ∀ q : Nat, q < H.size → H1[q]? = H[q]?) : va_P D cl ws H1 :=
  va_P.kept h (fun k q hk => hq q.1 (va_at.lt (h k q hk)))
/-- what a thrower leaves: the class by its name, the heap's predicate -/
abbrev tX_ (En : String) (P : Heap → Prop) (A : Nat → Prop) : String → State → State → Prop := vx_X (fun (_ : Unit) => True) (fun E _ t => E = En ∧ P t.heap) A
abbrev nv_ (A : Nat → Prop) : Array Value → State → Outcome → State → Prop := va_Qv (fun (_ : Unit) => False) (fun _ _ => True) A
abbrev ni_ (A : Nat → Prop) : Array Value → State → Outcome → State → Prop := va_Qi (fun _ (_ : Unit) => False) (fun _ _ => True) A
/-- a method that throws En, always -/
abbrev kt_ (l : Launch) (y : MethodName) (ws : List Cond) (rm : Room) (D : va_G) (tys : List (ClassId × FieldType)) (X : State → Prop) (A : Nat → Prop) (Qc : Array Value → State → Outcome → State → Prop) (av : List Value) (P P' : Heap → Prop) (En : String) : Prop := vx_Met l y ws rm (sp_ av P D cl_ tys X) Qc (tX_ En P' A) 1 6 A
theorem aw_metX {l : Launch} {y : MethodName} {ws ws' : List Cond} {rm : Room} {cc : ByteArray} {nL : Nat} {ret : Option FieldType} {av : List Value} {P : Heap → Prop} {D : va_G} {cl : List vw_C} {tys : List (ClassId × FieldType)} {X : State → Prop} {Qc : Array Value → State → Outcome → State → Prop} {XC : String → State → State → Prop} {mc ms : Nat} {A free : Addr → Prop} {own : String}
    (hy : plainName y.cls = true) (hw : ws = Cond.code y cc nL ret :: ws') (hown : y.cls = own) (hlen : (lg_sl av).length ≤ nL)
    (body : ∀ (p : Program) (e : Env) (s : State) (m : MethodId) (args : Array Value) (below : List Frame) (meth : Method) (c : Code), cx p s m args meth c cc nL ws own D cl tys → meth.sig.returnType = ret → (∀ x ∈ c.exceptionTable.toList, False) → X s → P s.heap → aw p l e rm s m args below meth c nL A 0 0 (vx_MQ below Qc XC args s mc ms free) P (lw_args av nL) 0 []) :
    vx_Met l y ws rm (sp_ av P D cl tys X) Qc XC mc ms free := by
  refine vx_ofW (cc := cc) (maxL := nL) (ret := ret) hy hw ?_
  intro p e s m args below meth c s₁ B hml hno hv
  obtain ⟨rfl, hP, hK, hX⟩ := hv
  have hts := atoms_spec (ws := ws) B.pre
  have hcl : s.vm.findClass own = some m.cls := by rw [← hown]; exact findClass_of_methodNamed B.named
  have hl := lw_args_has av hlen
  rw [lg_entry_eq]
  exact body p e s m _ below meth c ⟨⟨B.exec, B.bytes, hml, hcl, hts⟩, B.notSynchronized, hK⟩ B.returns hno hX hP _ s.heap [] hl hP va_S.rf
section KX
variable {p : Program} {l : Launch} {e : Env} {R : Room} {s : State} {m : MethodId} {args : Array Value} {below : List Frame} {meth : Method} {c : Code}
variable {cc : ByteArray} {nL : Nat} {c0 : Cond} {own : String} {D : va_G} {tys : List (ClassId × FieldType)} {A A1 : Nat → Prop} {P P' : Heap → Prop} {lw : List (Option Value)} {pc : Nat} {st rest : List Value} {X : State → Prop} {Qc : Array Value → State → Outcome → State → Prop}
variable {y : MethodName} {bytes : ByteArray} {maxL index n : Nat} {ret : Option FieldType} {rm : Room} {As : List Value} {b : Nat}
/-- 'throw new cls("text")' in FamilyShelf -/
theorem aw_throw {h : Nat} (C : cx p s m args meth c cc nL (c0 :: tw_) "FamilyShelf" D cl_ tys) (hl : l.stackTraces = false) (hX : xe_ h s) (hA : ∀ q, A q → h ≤ q) (hno : ∀ x ∈ c.exceptionTable.toList, False) {ws : va_W} (hPw : P = va_P D cl_ ws)
    {cls text : String} {names : List String} {ik is ic : Nat} (hcls : Bundle.fit cls = true) (hnames : ∀ n ∈ names, Bundle.fit n = true) (hk : Cond.classLink "FamilyShelf" ik cls ∈ tw_) (hini : Cond.initialized cls ∈ tw_) (htx : (is, text) ∈ tx_)
    (h1 : ∀ w ∈ (vx_atS "FamilyShelf" ic cls names).filter goodWord, w ∈ tw_) (h2 : ∀ w ∈ (vx_atS "FamilyShelf" ic cls names).filter (fun w => !goodWord w), w ∈ ew_) (hgood : ∀ w ∈ Cond.classLink "FamilyShelf" ik cls :: Cond.initialized cls :: vx_atS "FamilyShelf" ic cls names, vx_ot w = true)
    (d0 : decode cc pc = .ok (.new ik, 3)) (d3 : decode cc (pc + 3) = .ok (.dup, 1)) (d4 : decode cc (pc + 4) = .ok (.ldc is, 2)) (d6 : decode cc (pc + 6) = .ok (.invokespecial ic, 3)) (d9 : decode cc (pc + 9) = .ok (.athrow, 1))
    (hRf : names.length + 3 < R.frames) (hRl : (rest.map fun v => v.category).sum + (13 * (names.length + 1) + 43) ≤ R.locals) (hRc : 1 ≤ R.cells) (hRs : 6 ≤ R.slots) :
    aw p l e R s m args below meth c nL A 0 0 (vx_MQ below Qc (tX_ cls P A) args s 1 6 A) P lw pc rest := by
  intro ls H locs hlw hP hS
  obtain ⟨a, ha⟩ := hX.2.2.2 _ htx
  have hw : ∀ w ∈ tw_, w.before args s = true := fun w hw => C.1.2.2.2.2 w (List.mem_cons_of_mem _ hw)
  refine vx_throwS C.1.1 C.1.2.1 hl C.1.2.2.2.1 hcls hnames (hw _ hk) (hw _ hini) ha (vx_hat (B := ew_) (fun w h9 => hw w (h1 w h9)) h2 (fun w h9 => va_Nw.use ?_ (hX.1 w h9))) hgood (vx_Zq.narrow hX.2.1 hA) (vx_Zq.narrow hX.2.2.1 hA) hS (hlw.1.trans C.1.2.2.1.symm) d0 d3 d4 d6 d9 (fun x hx => (hno x hx).elim) hRf hRl (by omega) (by omega) C.2.1 ?_ hS.2.2 (by omega) (by omega)
  · have h9' : ∀ w ∈ ew_, w.onTables = true := by decide +kernel
    exact h9' w h9
  · intro t _ hz hq
    refine ⟨(), trivial, ⟨rfl, ?_⟩, Nat.le_trans hS.1 hz, fun q hq1 hq2 => ?_⟩
    · rw [hPw] at hP ⊢
      exact wk_kept hP hq
    · rw [hq q (Nat.lt_of_lt_of_le hq1 hS.1), hS.2.1 q hq1 hq2]
/-- a call of a thrower: it passes -/
theorem kx_S (C : cx p s m args meth c cc nL (c0 :: tw_) own D cl_ tys) (hX : X s) (hk : xk A X) {En : String} (hno : ∀ x ∈ c.exceptionTable.toList, False)
    (hM : kt_ l y (Cond.code y bytes maxL ret :: tw_) rm D tys X A1 (nv_ A1) As P P' En) (hcode : Cond.code y bytes maxL ret ∈ tw_) (hlink : Cond.methodLink own index y ∈ tw_) (hstat : Cond.static y ∈ tw_) (hini : Cond.initialized y.cls ∈ tw_) (hd : kd_ y n) (hR : rm.cells = 1 ∧ rm.slots = 6 ∧ rm.frames + 1 ≤ R.frames ∧ 8 + (maxL + 11) + rm.locals ≤ R.locals)
    (hn : As.length = n) (hst : st = As.reverse ++ rest) (hroom : (rest.map fun v => v.category).sum ≤ 8) (hRc : 1 ≤ R.cells) (hRs : 6 ≤ R.slots) (hA : ∀ q, A1 q → A q) (hdg : decode cc pc = .ok (.invokestatic index, 3)) :
    aw p l e R s m args below meth c nL A 0 0 (vx_MQ below Qc (tX_ En P' A) args s 1 6 A) P lw pc st := by
  intro ls H locs hlw hP hS
  have hr := vx_runS (meth := meth) (H := H) (locs := locs) (cells := 0) (slots := 0) (g := F0 m pc ls st) (rest := rest) (below := below) (e := e) C.1 hM (va_cwS n C.1.2.2.2.2 (gi_c hlink (gi_c hstat (gi_c hini (gi_ hcode)))) rfl hR.1 hR.2.1 hd ⟨hR.2.2.1, hR.2.2.2⟩) ⟨sp_blind hk, fun U hU hW => kc_pre C hX hk U (by rw [hU]; exact hP) hW (by rw [hU]; exact hS.1) (by rw [hU]; exact hS.2.1)⟩ rfl hn hlw.1 hst (lv_room hroom) hdg ⟨by omega, by omega⟩
  refine vx_callv hr hS (fun q _ h => hA q h) hA (fun q _ h => hA q h) ?_ ?_
  · intro E ce q9 u t H1 locs1 ht hvm _ hB hz hkk hS1 hce hcv hcl
    obtain ⟨rfl, hP1⟩ := hB
    refine vx_out (fun x hx => (hno x hx).elim) C.2.1 hce hcv hcl (fun t2 ht2 _ => ⟨(), trivial, ⟨rfl, ?_⟩, hS1.F ht2⟩) hS1.2.2 (by omega) (by omega)
    rw [ht2, ← ht]
    exact hP1
  · intro u t H1 locs1 _ _ hf
    exact hf.elim
end KX
