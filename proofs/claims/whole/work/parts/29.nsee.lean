/-! A throwable whose constructor hands on by another index than the seventh: java.util.NoSuchElementException links 13. These follow vx_throwS and its constructor, with the first link a parameter and no more said of the cell than a catcher asks. -/
def na_ (own : String) (ic : Nat) (X Y : String) (r : List String) (i1 : Nat) (b1 : ByteArray) : List Cond :=
  Bundle.passSAtoms X Y i1 b1 ++ Bundle.chainSAtoms Y r ++ Bundle.throwableAtoms ++ Bundle.throwableSAtoms ++
  [.methodLink own ic (Bundle.initS X), .instantiable X 6, .selects X Bundle.tFill0 Bundle.tFill0, .selects X Bundle.tFill Bundle.tFill,
   .lays X Bundle.tN "cause" "Ljava/lang/Throwable;", .lays X Bundle.tN "stackTrace" Bundle.steD, .lays X Bundle.tN "suppressedExceptions" Bundle.listD, .lays X Bundle.tN "detailMessage" "Ljava/lang/String;",
   .isRef (.static Bundle.tN "UNASSIGNED_STACK" Bundle.steD), .isRef (.static Bundle.tN "SUPPRESSED_SENTINEL" Bundle.listD),
   .fieldLink Bundle.tN 198 Bundle.tN "backtrace" "Ljava/lang/Object;", .lays Bundle.tN Bundle.tN "backtrace" "Ljava/lang/Object;", .lays X Bundle.tN "backtrace" "Ljava/lang/Object;"]
section NS
variable {p : Program} {l : Launch} {e : Env} {R : Room} {s : State} {m : MethodId} {args : Array Value} {below : List Frame} {meth : Method} {c : Code} {T : State} {locs : List Loc} {cells slots : Nat}
set_option maxHeartbeats 1000000 in
theorem ns_ctor {T : State} {cells slots : Nat} (X : Stand p l e R s m args below meth c T [] cells slots) (hexec : p.tables.exec = Jvm.exec) (htr : e.platform.stackTraces = false) {own cls Y0 : String} {r : List String} {ic i1 : Nat} {b1 : ByteArray}
    (hown : s.vm.findClass own = some m.cls) (hcls : Bundle.fit cls = true) (hY0 : Bundle.fit Y0 = true) (hr : ∀ n ∈ r, Bundle.fit n = true)
    (k0 : decode b1 0 = .ok (.aload_n 0, 1)) (k1 : decode b1 1 = .ok (.aload_n 1, 1)) (k2 : decode b1 2 = .ok (.invokespecial i1, 3)) (k5 : decode b1 5 = .ok (.return_, 1))
    (h : ∀ w ∈ na_ own ic cls Y0 r i1 b1, w.before args s = true)
    {a : Addr} {cX : ClassId} {kX : Class} (hfX : s.vm.findClass cls = some cX) (hkX : s.vm.classes[cX]? = some kX) (hcell : T.heap[a]? = some (freshCell cX kX)) (hnew : s.heap.size ≤ a) {msg : Value} (hmsg : msg.isRef = true)
    {g : JFrame} (hg : g.method = m) (hsize : g.locals.size = c.maxLocals) (hlocked : g.locked = none) (hentered : g.entered = []) {rest : List Value} (hstack : g.stack = msg :: .ref a :: .ref a :: rest)
    (hd6 : decode c.code g.pc = .ok (.invokespecial ic, 3)) (hd9 : decode c.code (g.pc + 3) = .ok (.athrow, 1)) (hout : ∀ x ∈ c.exceptionTable.toList, covers x (g.pc + 3) = false)
    (hRf : r.length + 4 < R.frames) (hRl : 2 * g.monitorRoom + ((Value.ref a :: rest).map fun v => v.category).sum + (13 * (r.length + 2) + 42) ≤ R.locals) (hlocks : meth.locks = false) :
    ∃ U : State, Steps p.tables e below (T.setTop g) U ∧ U.status = .running ∧ Ended U below (.threw a) ∧ s.WarmedH U.vm ∧ s.sameButNew ({ U with vm := s.vm } : State) [] cells slots ∧ ∃ ce, U.heap[a]? = some ce ∧ s.vm.findClass cls = some ce.cls ∧ ce.vm = .none := by
  have hp1 : e.platform.frameOwnsMonitors = true := by rw [X.admits.platform]
  have hp2 : e.platform.finalization = false := by rw [X.admits.platform]
  have hp3 : e.platform.magicAccessors = ({} : Platform).magicAccessors := by rw [X.admits.platform]
  have g9 : ∀ x, x ∈ na_ own ic cls Y0 r i1 b1 → x.holds args s none s [] = true := fun x hx => h x hx
  obtain ⟨Q, Z0, L, -, Y⟩ := ThrowableC.of_atoms (args := args) hp1 hp2 hp3 (fun x hx => h x (by simp [na_, hx]))
  obtain ⟨Z, M, LZ, LM, hnZ⟩ := Init0T.ofS_atoms (args := args) hp3 L Y (fun x hx => h x (by simp [na_, hx]))
  obtain ⟨P1, L1, hP1m, hs1⟩ := PassC.ofS_atoms (args := args) (s := s) hp3 (X := cls) (Y := Y0) (Bundle.fit_spec hcls).1 (Bundle.fit_spec hY0).2 k0 k1 k2 k5 (fun x hx => h x (by simp [na_, hx]))
  obtain ⟨P2, Ps, hlen, L2, hL, hP2m, hl2, hl3⟩ := Bundle.chainS (args := args) hp3 hnZ r Y0 hY0 hr (fun x hx => h x (by simp [na_, hx]))
  have h12 : P1.sup = P2.m := Option.some.inj (hs1.symm.trans hP2m)
  have hf1 : s.vm.findClass cls = some P1.m.cls := findClass_of_methodNamed hP1m
  cases Option.some.inj (hfX.symm.trans hf1)
  obtain ⟨c1, kX', hc1, hk, hord, -, -, -⟩ := Cond.instantiable_spec (g9 (.instantiable cls 6) (by simp [na_]))
  cases Option.some.inj (hc1.symm.trans hf1)
  cases Option.some.inj (hkX.symm.trans hk)
  have sel : ∀ {y : MethodName} {f : MethodId}, Cond.selects cls y y ∈ na_ own ic cls Y0 r i1 b1 → s.methodNamed? y = some f → (y.cls ≠ "java/lang/invoke/MethodHandle" ∧ y.cls ≠ "java/lang/invoke/VarHandle") → selectMethod e.platform s.vm P1.m.cls f = .method f := by
    intro y f hy hf hne
    obtain ⟨c2, r2, m2, q1, q2, q3, q4, -⟩ := Cond.selects_spec (g9 _ hy)
    cases Option.some.inj (q1.symm.trans hf1)
    cases Option.some.inj (q2.symm.trans (State.methodFound?_of_named hf hne))
    cases Option.some.inj (q3.symm.trans hf)
    rw [Launch.admits_selectMethod X.admits]; exact q4
  have hsel0 := sel (y := Bundle.tFill0) (by simp [na_]) Y.fill0 (by decide)
  have hselF := sel (y := Bundle.tFill) (by simp [na_]) Y.fill (by decide)
  obtain ⟨cellS0, hcS0, hiss⟩ := Y.statics
  obtain ⟨u0, hu0⟩ := Cond.staticRefV Y.unassigned L.unassignedStatic L.statics hcS0 hiss (g9 (.isRef (.static Bundle.tN "UNASSIGNED_STACK" Bundle.steD)) (by simp [na_]))
  obtain ⟨sen, hsen⟩ := Cond.staticRefV Y.sentinel L.sentinelStatic L.statics hcS0 hiss (g9 (.isRef (.static Bundle.tN "SUPPRESSED_SENTINEL" Bundle.listD)) (by simp [na_]))
  obtain ⟨ci198, i198, fB, hk198, hg198, ha198, hsB, -, hnB, htB, hffB⟩ := Cond.ownField (t := .object "java/lang/Object") Y.found L.cls (by decide +kernel) (g9 (.fieldLink Bundle.tN 198 Bundle.tN "backtrace" "Ljava/lang/Object;") (by simp [na_])) (g9 (.lays Bundle.tN Bundle.tN "backtrace" "Ljava/lang/Object;") (by simp [na_])) e.platform hp3
  obtain ⟨cellS, hcS', heS, -, hkeep⟩ := X.same.2.2.2.2.2 Q.aS cellS0 hcS0
  have hcellS : T.heap[Q.aS]? = some cellS := hcS'
  have hkn : cellS.vm ≠ .unknown := by
    rw [heS]; intro hu
    rw [show cellS0.vm = .unknown from hu] at hiss
    cases hiss
  have hneS : Q.aS ≠ a := Nat.ne_of_lt (Nat.lt_of_lt_of_le (Array.getElem?_eq_some_iff.mp hcS0).1 hnew)
  obtain ⟨iM, hffM⟩ := Y.msg
  obtain ⟨tyC, dC, hdC, hdnC⟩ := Cond.laysAt hf1 hk Y.cause (g9 (.lays cls Bundle.tN "cause" "Ljava/lang/Throwable;") (by simp [na_]))
  obtain ⟨tyS, dS, hdS, hdnS⟩ := Cond.laysAt hf1 hk Y.stack (g9 (.lays cls Bundle.tN "stackTrace" Bundle.steD) (by simp [na_]))
  obtain ⟨tyP, dP, hdP, hdnP⟩ := Cond.laysAt hf1 hk Y.supp (g9 (.lays cls Bundle.tN "suppressedExceptions" Bundle.listD) (by simp [na_]))
  obtain ⟨tyM, -, -, -⟩ := Cond.laysAt hf1 hk hffM (g9 (.lays cls Bundle.tN "detailMessage" "Ljava/lang/String;") (by simp [na_]))
  obtain ⟨tyB, dB, hdB, hdnB⟩ := Cond.laysAt hf1 hk hffB (g9 (.lays cls Bundle.tN "backtrace" "Ljava/lang/Object;") (by simp [na_]))
  have bC := Cond.laysApart hdB hdC hdnB hdnC (by rw [hnB, Y.causeName]; decide)
  have bS := Cond.laysApart hdB hdS hdnB hdnS (by rw [hnB, Y.stackName]; decide)
  have bP := Cond.laysApart hdB hdP hdnB hdnP (by rw [hnB, Y.suppName]; decide)
  have hskip : SkipFacts Q e.platform s (fun u => u) u0 ((preparedCellV Q.toThrowableT (freshCell P1.m.cls kX) a u0 sen).withEntry T.cur) :=
    ⟨{ ci198 := ci198, i198 := i198, fBack := fB }, ⟨hk198, hg198, ha198, hsB⟩, by
      have h9 := fresh_default (c := P1.m.cls) tyB
      rw [htB] at h9
      simpa [preparedCellV, Cell.setSlot, Cell.withEntry, Array.getElem?_setIfInBounds, bC, bS, bP, bC.symm, bS.symm, bP.symm, defaultValue] using h9, fun _ _ => rfl⟩
  obtain ⟨tm, methC, cdC, kC, vm₁, hnC, -, -, -, -, -, -, -, hW₁, st1⟩ := Steps.initColdS (tb := p.tables) (e := e) (below := below) (s := s) (U := T) X.here hexec X.warmed hp3 hown (t := Bundle.initS cls) rfl rfl (Bundle.fit_spec hcls).2
    (g9 (.methodLink own ic (Bundle.initS cls)) (by simp [na_])) (h (.instanceMethod (Bundle.initS cls)) (by simp [na_, Bundle.passSAtoms])) (bytes := b1) (maxL := 2) (h (.code (Bundle.initS cls) b1 2 none) (by simp [na_, Bundle.passSAtoms]))
    (f := g) hg (a := a) (msg := msg) (rest := .ref a :: rest) hstack hd6
  cases Option.some.inj (hnC.symm.trans hP1m)
  have X₁ := X.noted hW₁
  obtain ⟨vm₂, X₂, st2⟩ := X₁.ctorMessageOffV hexec (g := { g with stack := .ref a :: rest }) hg hsize Q L Z LZ M LM (P1 :: P2 :: Ps)
    (fun P hP => by
      rcases List.mem_cons.mp hP with rfl | hP
      · exact L1
      · rcases List.mem_cons.mp hP with rfl | hP
        · exact L2
        · exact hL P hP) ⟨h12, hl2, hl3⟩ (u0 := u0) (sen := sen) (self := a) hmsg (cell := freshCell P1.m.cls kX) (cellS := cellS)
    hcell (fun _ => by simp) (by simp) rfl rfl hsel0 hselF hcellS hneS hkn (by rw [hkeep _ (fun h9 => nomatch h9)]; exact hu0) (by rw [hkeep _ (fun h9 => nomatch h9)]; exact hsen)
    (Takes.of_laid hk hord tyC (by rw [Y.causeType]; rfl)) (Takes.of_laid hk hord tyS (by rw [Y.stackType]; exact fits_refV_array _ u0)) (Takes.of_laid hk hord tyP (by rw [Y.suppType]; exact fits_refV_object _ sen))
    (Takes.of_laid hk hord tyM (by rw [Y.msgType]; exact fits_refV_object _ ⟨msg, hmsg⟩)) Y.objLocals hskip htr [] hd6
    (by simp only [List.length_cons, hlen]; omega) (by simp only [List.length_cons, hlen]; exact hRl)
  obtain ⟨hwalk, hrun, hended, hWU, hsame⟩ := X₂.athrowLeaves hexec (g := { g with stack := .ref a :: rest, pc := g.pc + 3 }) hg hlocked hentered hout (a := a) (rest := rest) rfl hd9
  have hlt : a < ((T.setVm vm₁).setVm vm₂).heap.size := (Array.getElem?_eq_some_iff.mp hcell).1
  have hU := heapAt_setCell_self (s := (T.setVm vm₁).setVm vm₂) (plainBareV Q.toThrowableT (freshCell P1.m.cls kX) a u0 sen msg) hlt
  refine ⟨_, st1 _ (fun acts => ?_), hrun, hended, hWU, hsame.weaken (fun y hy hlt' => ?_) (Nat.le_refl _) (Nat.le_refl _), _, hU, hf1, rfl⟩
  · rw [doInvoke_state]
    exact st2 _ hwalk
  · exfalso
    have hb : y.base = a := by
      simp only [List.nil_append, List.mem_cons, List.not_mem_nil, or_false] at hy
      rcases hy with rfl | rfl | rfl | rfl | rfl <;> rfl
    rw [hb] at hlt'
    exact Nat.not_lt.mpr hnew hlt'
variable {H : Heap} {ls : Array Slot} {rest : List Value} {Qc : Array Value → State → Outcome → State → Prop} {XC : String → State → State → Prop} {free : Addr → Prop}
set_option maxHeartbeats 1000000 in
theorem ns_throwS {cc : ByteArray} {pc : Nat} (hexec : p.tables.exec = Jvm.exec) (hb : c.code = cc) (hl : l.stackTraces = false) {own cls text Y0 : String} {r : List String} {ik is ic i1 mc ms sa : Nat} {b1 : ByteArray} {A : Nat → Prop}
    (hown : s.vm.findClass own = some m.cls) (hcls : Bundle.fit cls = true) (hY0 : Bundle.fit Y0 = true) (hr : ∀ n ∈ r, Bundle.fit n = true)
    (k0 : decode b1 0 = .ok (.aload_n 0, 1)) (k1 : decode b1 1 = .ok (.aload_n 1, 1)) (k2 : decode b1 2 = .ok (.invokespecial i1, 3)) (k5 : decode b1 5 = .ok (.return_, 1))
    (hk : (Cond.classLink own ik cls).before args s = true) (hini : (Cond.initialized cls).before args s = true) (hstr : vk_R own is text sa s) (hat : ∀ w ∈ (na_ own ic cls Y0 r i1 b1).filter vx_no, w.before args s = true)
    (hgood : ∀ w ∈ Cond.classLink own ik cls :: Cond.initialized cls :: (na_ own ic cls Y0 r i1 b1).filter vx_no, vx_ot w = true)
    (hU : vx_Zq Bundle.tN "UNASSIGNED_STACK" Bundle.steD A s s.heap) (hN : vx_Zq Bundle.tN "SUPPRESSED_SENTINEL" Bundle.listD A s s.heap) (hS : va_S A s.heap H locs) (hsize : ls.size = c.maxLocals)
    (d0 : decode cc pc = .ok (.new ik, 3)) (d3 : decode cc (pc + 3) = .ok (.dup, 1)) (d4 : decode cc (pc + 4) = .ok (.ldc is, 2)) (d6 : decode cc (pc + 6) = .ok (.invokespecial ic, 3)) (d9 : decode cc (pc + 9) = .ok (.athrow, 1))
    (hout : ∀ x ∈ c.exceptionTable.toList, covers x (pc + 9) = false)
    (hRf : r.length + 4 < R.frames) (hRl : (rest.map fun v => v.category).sum + (13 * (r.length + 2) + 43) ≤ R.locals) (hRcells : cells + 1 ≤ R.cells) (hRslots : slots + 6 ≤ R.slots) (hlocks : meth.locks = false)
    (hx : ∀ t : State, s.vm.Alike t.vm → H.size ≤ t.heap.size → (∀ q : Nat, q < H.size → t.heap[q]? = H[q]?) → XC cls s t)
    (hf : ∀ z ∈ locs, free z.base) (hc : cells + 1 ≤ mc) (hs : slots + 6 ≤ ms) :
    W p l e R s m args below meth c H locs cells slots (vx_MQ below Qc XC args s mc ms free) (F0 m pc ls rest) := by
  intro T hT X
  have htr : e.platform.stackTraces = false := (show e.platform.stackTraces = l.stackTraces by rw [X.admits.platform]).trans hl
  have Y := vx_rebase X (R' := { frames := R.frames, locals := R.locals, cells := 1, slots := 6 }) (Nat.le_refl _) (Nat.le_refl _) hRcells hRslots
  obtain ⟨s', hA⟩ : ∃ z, z = (T.setVm s.vm).setFrames (.invoking m args :: below) := ⟨_, rfl⟩
  rw [← hA] at Y
  have hvm : s'.vm = s.vm := by rw [hA]; rfl
  have hhp : s'.heap = H := by rw [hA]; exact hT
  have hW0 : s.WarmedH s'.vm := by rw [hvm]; exact State.WarmedH.refl s
  have go : ∀ w ∈ Cond.classLink own ik cls :: Cond.initialized cls :: (na_ own ic cls Y0 r i1 b1).filter vx_no, w.before args s = true → w.before args s' = true := fun w hw h9 => vx_ot_at hW0 hvm.symm (hgood w hw) h9
  have hat' : ∀ w ∈ (na_ own ic cls Y0 r i1 b1).filter vx_no, w.before args s' = true := fun w hw => go w (List.mem_cons_of_mem _ (List.mem_cons_of_mem _ hw)) (hat w hw)
  have hU' : vx_Zq Bundle.tN "UNASSIGNED_STACK" Bundle.steD A s' s'.heap := by rw [hhp]; exact vx_Zq.moved hW0.alike (hU.kept hS.2.1)
  have hN' : vx_Zq Bundle.tN "SUPPRESSED_SENTINEL" Bundle.listD A s' s'.heap := by rw [hhp]; exact vx_Zq.moved hW0.alike (hN.kept hS.2.1)
  have h : ∀ w ∈ na_ own ic cls Y0 r i1 b1, w.before args s' = true := vx_own hat' (vx_isRefq hU'.1) (vx_isRefq hN'.1) hU'.2.word hN'.2.word
  have hown' : s'.vm.findClass own = some m.cls := by rw [hvm]; exact hown
  obtain ⟨vm₁, cX, kX, hfX, hkX, -, -, X₁, st1⟩ := Y.newCold hexec (own := own) (C := cls) (index := ik) (n := 6) hown' (go _ List.mem_cons_self hk) (h _ (by simp [na_])) (go _ (List.mem_cons_of_mem _ List.mem_cons_self) hini)
    (g := F0 m pc ls rest) rfl (by rw [hb]; exact d0) (Nat.le_refl _) (Nat.le_refl _)
  generalize hT1 : (T.setVm vm₁).pushCell { cls := cX, slots := kX.instanceTypes.map defaultValue, vm := .none } = T1 at X₁ st1
  have hcat : (Value.ref T.heap.size).category = 1 := rfl
  have hcellA : T1.heap[T.heap.size]? = some (freshCell cX kX) := by rw [← hT1]; exact State.heap_pushCell_size _ _
  have d3' : decode c.code (pc + 3) = .ok (.dup, 1) := by rw [hb]; exact d3
  have d4' : decode c.code (pc + 4) = .ok (.ldc is, 2) := by rw [hb]; exact d4
  have hstr' : vk_R own is text sa s' := vk_R.warm hW0 hstr
  obtain ⟨U, hsteps, hrun, hend, hW, hsame, ce, hce, hcl', hcv⟩ := ns_ctor X₁ hexec htr (own := own) (cls := cls) (Y0 := Y0) (r := r) (ic := ic) hown' hcls hY0 hr k0 k1 k2 k5 h hfX hkX hcellA (by rw [hhp, hT]; exact Nat.le_refl _) (msg := .ref sa) rfl
    (g := { method := m, pc := pc + 6, locals := ls, stack := .ref sa :: .ref T.heap.size :: .ref T.heap.size :: rest, locked := none }) rfl hsize rfl rfl (rest := rest) rfl
    (by rw [hb]; exact d6) (by rw [hb]; exact d9) hout hRf (by simp only [List.map_cons, List.sum_cons, hcat]; omega) hlocks
  obtain ⟨f1, f2⟩ := vx_frame hsame
  rw [hhp] at f1 f2
  have hWs : s.WarmedH U.vm := State.WarmedH.trans hW0 hW
  have hcl : s.vm.findClass cls = some ce.cls := by rw [← hvm]; exact hcl'
  have hall : s.sameButNew ({ U with vm := s.vm } : State) locs mc ms := by
    subst hA
    obtain ⟨e1, e2⟩ := hsame
    rw [State.setFrames_setFrames] at e1
    have h2 : (T.setVm s.vm).sameButNew ({ U with vm := s.vm } : State) [] (0 + 1) (0 + 6) := ⟨e1, e2⟩
    have h3 := X.same.trans h2
    rw [List.append_nil] at h3
    exact h3.mono hc hs
  refine ⟨U, ?_, .threw T.heap.size, hrun, hend, Or.inr ⟨T.heap.size, rfl, cls, ce, locs, hx U hWs.alike f1 (fun q hq => f2 q hq (fun z hz => nomatch hz)), hce, hcv, hcl, hWs, hall, hf⟩⟩
  refine st1 _ ?_
  show Steps p.tables e below (T1.setTop { method := m, pc := pc + 3, locals := ls, stack := .ref T.heap.size :: rest, locked := none }) _
  jvm_step X₁.here [X₁.here.top, hexec, d3', Value.category]
  exact X₁.ldcString hexec (own := own) (text := text) (index := is) (a := sa) hown' hstr'.1 hstr'.2
    (g := { method := m, pc := pc + 4, locals := ls, stack := .ref T.heap.size :: .ref T.heap.size :: rest, locked := none }) rfl d4' _ hsteps
end NS
section NT
variable {p : Program} {l : Launch} {e : Env} {R : Room} {s : State} {m : MethodId} {args : Array Value} {below : List Frame} {meth : Method} {c : Code}
variable {cc : ByteArray} {nL : Nat} {c0 : Cond} {D : va_G} {tys : List (ClassId × FieldType)} {A : Nat → Prop} {P : Heap → Prop} {lw : List (Option Value)} {pc : Nat} {rest : List Value} {Qc : Array Value → State → Outcome → State → Prop}
abbrev nl_ : List Cond := (na_ "FamilyShelf" 175 "java/util/NoSuchElementException" "java/lang/RuntimeException" ["java/lang/Exception"] 13 bc_Jn_init).filter vx_no
theorem xg_ns : ∀ w ∈ nl_.filter goodWord, w ∈ tw_ := by
  have h9 : ∀ w ∈ nl_.filter goodWord, w ∈ lw_tbl := by decide +kernel
  exact fun w hw => List.mem_filter.mpr ⟨h9 w hw, (List.mem_filter.mp hw).2⟩
theorem xb_ns : ∀ w ∈ nl_.filter (fun w => !goodWord w), w ∈ ew_ := by decide +kernel
theorem xo_ns : ∀ w ∈ Cond.classLink "FamilyShelf" 171 "java/util/NoSuchElementException" :: Cond.initialized "java/util/NoSuchElementException" :: nl_, vx_ot w = true := by decide +kernel
theorem aw_throwN {h : Nat} (C : cx p s m args meth c cc nL (c0 :: tw_) "FamilyShelf" D cl_ tys) (hl : l.stackTraces = false) (hX : xe_ h s) (hA : ∀ q, A q → h ≤ q) (hno : ∀ x ∈ c.exceptionTable.toList, False) {ws : va_W} (hPw : P = va_P D cl_ ws)
    (hk : Cond.classLink "FamilyShelf" 171 "java/util/NoSuchElementException" ∈ tw_) (hini : Cond.initialized "java/util/NoSuchElementException" ∈ tw_)
    (d0 : decode cc pc = .ok (.new 171, 3)) (d3 : decode cc (pc + 3) = .ok (.dup, 1)) (d4 : decode cc (pc + 4) = .ok (.ldc 173, 2)) (d6 : decode cc (pc + 6) = .ok (.invokespecial 175, 3)) (d9 : decode cc (pc + 9) = .ok (.athrow, 1))
    (hRf : 5 < R.frames) (hRl : (rest.map fun v => v.category).sum + 82 ≤ R.locals) (hRc : 1 ≤ R.cells) (hRs : 6 ≤ R.slots) :
    aw p l e R s m args below meth c nL A 0 0 (vx_MQ below Qc (tX_ "java/util/NoSuchElementException" P A) args s 1 6 A) P lw pc rest := by
  intro ls H locs hlw hP hS
  obtain ⟨a, ha⟩ := hX.2.2.2 (173, "a family without sets") (by decide)
  have hw : ∀ w ∈ tw_, w.before args s = true := fun w hw => C.1.2.2.2.2 w (List.mem_cons_of_mem _ hw)
  refine ns_throwS (own := "FamilyShelf") (Y0 := "java/lang/RuntimeException") (r := ["java/lang/Exception"]) (i1 := 13) (b1 := bc_Jn_init) C.1.1 C.1.2.1 hl C.1.2.2.2.1 (by decide +kernel) (by decide +kernel) (by decide +kernel) (by decide +kernel) (by decide +kernel) (by decide +kernel) (by decide +kernel) (hw _ hk) (hw _ hini) ha (vx_hat (B := ew_) (fun w h9 => hw w (xg_ns w h9)) xb_ns (fun w h9 => va_Nw.use ?_ (hX.1 w h9))) xo_ns (vx_Zq.narrow hX.2.1 hA) (vx_Zq.narrow hX.2.2.1 hA) hS (hlw.1.trans C.1.2.2.1.symm) d0 d3 d4 d6 d9 (fun x hx => (hno x hx).elim) hRf hRl (by omega) (by omega) C.2.1 ?_ hS.2.2 (by omega) (by omega)
  · have h9' : ∀ w ∈ ew_, w.onTables = true := by decide +kernel
    exact h9' w h9
  · intro t _ hz hq
    refine ⟨(), trivial, ⟨rfl, ?_⟩, Nat.le_trans hS.1 hz, fun q hq1 hq2 => ?_⟩
    · rw [hPw] at hP ⊢
      exact wk_kept hP hq
    · rw [hq q (Nat.lt_of_lt_of_le hq1 hS.1), hS.2.1 q hq1 hq2]
end NT
