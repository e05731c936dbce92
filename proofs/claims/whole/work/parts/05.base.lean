/-! Base rows: the locals as a list by place, the heap by a predicate. -/
def lw_has (ls : Array Slot) (nL : Nat) (lw : List (Option Value)) : Prop := ls.size = nL ∧ lv_wf ls ∧ ∀ (k : Nat) (v : Value), lw[k]? = some (some v) → ls[k]? = some (.val v)
def lw_l (lw : List (Option Value)) : List (Nat × Value) := (List.range lw.length).filterMap (fun k => match lw[k]? with
  | some (some v) => some (k, v)
  | _ => none)
theorem lw_mem {lw : List (Option Value)} {k : Nat} {v : Value} : (k, v) ∈ lw_l lw ↔ lw[k]? = some (some v) := by
  unfold lw_l
  rw [List.mem_filterMap]
  constructor
  · rintro ⟨j, hj, h⟩
    split at h
    · rename_i w hw
      cases h
      exact hw
    · cases h
  · intro h
    have hk : k < lw.length := (List.getElem?_eq_some_iff.mp h).1
    refine ⟨k, List.mem_range.mpr hk, ?_⟩
    rw [h]
theorem lw_to {ls : Array Slot} {nL : Nat} {lw : List (Option Value)} (h : lw_has ls nL lw) : lv_has ls nL (lw_l lw) :=
  ⟨h.1, h.2.1, fun q hq => h.2.2 q.1 q.2 (lw_mem.mp hq)⟩
/-- the value ahead of place i takes one slot -/
def lw_ok (lw : List (Option Value)) (i : Nat) : Bool := match i with
  | 0 => true
  | j + 1 => match lw[j]? with
    | some (some v) => v.category == 1
    | _ => true
theorem lw_ok_of {lw : List (Option Value)} {i k : Nat} {v : Value} (h : lw_ok lw i = true) (hk : k + 1 = i) (hv : lw[k]? = some (some v)) : v.category = 1 := by
  subst hk
  unfold lw_ok at h
  simp only [hv, beq_iff_eq] at h
  exact h
theorem lw_of1 {ls : Array Slot} {nL i : Nat} {lw : List (Option Value)} {v : Value} (hp : lw_ok lw i = true) (h : lv_has ls nL ((i, v) :: (lw_l lw).filter (fun q => !(q.1 == i) && !(q.1 + 1 == i && q.2.category == 2)))) : lw_has ls nL (lw.set i (some v)) := by
  refine ⟨h.1, h.2.1, fun k w hk => ?_⟩
  by_cases hki : i = k
  · subst hki
    rw [List.getElem?_set] at hk
    simp only [if_true] at hk
    split at hk
    · cases hk
      exact h.2.2 (i, v) List.mem_cons_self
    · cases hk
  · rw [List.getElem?_set_ne hki] at hk
    refine h.2.2 (k, w) (List.mem_cons_of_mem _ (List.mem_filter.mpr ⟨lw_mem.mpr hk, ?_⟩))
    simp only [Bool.and_eq_true, Bool.not_eq_true', beq_eq_false_iff_ne, ne_eq, Bool.and_eq_false_iff]
    refine ⟨fun h9 => hki h9.symm, ?_⟩
    by_cases h1 : k + 1 = i
    · right
      rw [lw_ok_of hp h1 hk]
      decide
    · left; exact h1
theorem lw_of2 {ls : Array Slot} {nL i : Nat} {lw : List (Option Value)} {v : Value} (hp : lw_ok lw i = true) (h : lv_has ls nL ((i, v) :: (lw_l lw).filter (fun q => !(q.1 == i) && (!(q.1 == i + 1) && !(q.1 + 1 == i && q.2.category == 2))))) : lw_has ls nL ((lw.set i (some v)).set (i + 1) none) := by
  refine ⟨h.1, h.2.1, fun k w hk => ?_⟩
  by_cases hk1 : i + 1 = k
  · subst hk1
    rw [List.getElem?_set] at hk
    simp only [if_true] at hk
    split at hk <;> cases hk
  · rw [List.getElem?_set_ne hk1] at hk
    by_cases hki : i = k
    · subst hki
      rw [List.getElem?_set] at hk
      simp only [if_true] at hk
      split at hk
      · cases hk
        exact h.2.2 (i, v) List.mem_cons_self
      · cases hk
    · rw [List.getElem?_set_ne hki] at hk
      refine h.2.2 (k, w) (List.mem_cons_of_mem _ (List.mem_filter.mpr ⟨lw_mem.mpr hk, ?_⟩))
      simp only [Bool.and_eq_true, Bool.not_eq_true', beq_eq_false_iff_ne, ne_eq, Bool.and_eq_false_iff]
      refine ⟨fun h9 => hki h9.symm, fun h9 => hk1 h9.symm, ?_⟩
      by_cases h1 : k + 1 = i
      · right
        rw [lw_ok_of hp h1 hk]
        decide
      · left; exact h1
/-- fewer or the same listed values -/
theorem lw_has.sub {ls : Array Slot} {nL : Nat} {lw lw' : List (Option Value)} (h : lw_has ls nL lw) (hs : ∀ (k : Nat) (v : Value), lw'[k]? = some (some v) → lw[k]? = some (some v)) : lw_has ls nL lw' :=
  ⟨h.1, h.2.1, fun k v hk => h.2.2 k v (hs k v hk)⟩
theorem lw_args_mem : ∀ (vs : List Value) (i : Nat) (q : Nat × Value), q ∈ lv_args i vs → i ≤ q.1
  | [], _, _, h => by cases h
  | v :: vs, i, q, h => by
    rw [lv_args] at h
    rcases List.mem_cons.mp h with rfl | h
    · exact Nat.le_refl _
    · have := lw_args_mem vs _ q h
      split at this <;> omega
/-- what stands in a method while it runs: the machine, its code, its words, its class's name; the classes as the tables have them -/
def cx (p : Program) (s : State) (m : MethodId) (args : Array Value) (meth : Method) (c : Code) (cc : ByteArray) (nL : Nat) (Ts : List Cond) (own : String) (D : va_G) (cl : List vw_C) (tys : List (ClassId × FieldType)) : Prop :=
  CallFix p m c cc nL s args Ts own ∧ meth.locks = false ∧ va_K D cl tys s
/-- from here the machine comes to a state with Q, whatever heap with P, whatever locals with the listed values -/
def aw (p : Program) (l : Launch) (e : Env) (R : Room) (s : State) (m : MethodId) (args : Array Value) (below : List Frame) (meth : Method) (c : Code) (nL : Nat) (A : Nat → Prop) (cells slots : Nat) (Q : State → Prop) (P : Heap → Prop) (lw : List (Option Value)) (pc : Nat) (st : List Value) : Prop :=
  ∀ (ls : Array Slot) (H : Heap) (locs : List Loc), lw_has ls nL lw → P H → va_S A s.heap H locs → W p l e R s m args below meth c H locs cells slots Q (F0 m pc ls st)
section AW
variable {p : Program} {l : Launch} {e : Env} {R : Room} {s : State} {m : MethodId} {args : Array Value} {below : List Frame} {meth : Method} {c : Code} {cc : ByteArray} {nL : Nat} {Ts : List Cond} {own : String} {D : va_G} {cl : List vw_C} {tys : List (ClassId × FieldType)} {A : Nat → Prop} {cells slots : Nat} {Q : State → Prop} {P : Heap → Prop} {lw : List (Option Value)} {pc : Nat} {rest : List Value}
theorem aw_iconst (C : cx p s m args meth c cc nL Ts own D cl tys) {n : Int} {v : Int32} (hdg : decode cc pc = .ok (.iconst n, 1)) (hv : Int32.ofInt n = v)
    (k : aw p l e R s m args below meth c nL A cells slots Q P lw (pc + 1) (.int v :: rest)) : aw p l e R s m args below meth c nL A cells slots Q P lw pc (rest) := fun ls H locs hl hP hS => lv_iconst C.1.1 C.1.2.1 hdg hv (k ls H locs hl hP hS)
theorem aw_bipush (C : cx p s m args meth c cc nL Ts own D cl tys) {n : Int} {v : Int32} (hdg : decode cc pc = .ok (.bipush n, 2)) (hv : (Int8.ofInt n).toInt32 = v)
    (k : aw p l e R s m args below meth c nL A cells slots Q P lw (pc + 2) (.int v :: rest)) : aw p l e R s m args below meth c nL A cells slots Q P lw pc (rest) := fun ls H locs hl hP hS => lv_bipush C.1.1 C.1.2.1 hdg hv (k ls H locs hl hP hS)
theorem aw_sipush (C : cx p s m args meth c cc nL Ts own D cl tys) {n : Int} {v : Int32} (hdg : decode cc pc = .ok (.sipush n, 3)) (hv : (Int16.ofInt n).toInt32 = v)
    (k : aw p l e R s m args below meth c nL A cells slots Q P lw (pc + 3) (.int v :: rest)) : aw p l e R s m args below meth c nL A cells slots Q P lw pc (rest) := fun ls H locs hl hP hS => lv_sipush C.1.1 C.1.2.1 hdg hv (k ls H locs hl hP hS)
theorem aw_lconst (C : cx p s m args meth c cc nL Ts own D cl tys) {n : Fin 2} {v : Int64} (hdg : decode cc pc = .ok (.lconst n, 1)) (hv : Int64.ofNat (n : Nat) = v)
    (k : aw p l e R s m args below meth c nL A cells slots Q P lw (pc + 1) (.long v :: rest)) : aw p l e R s m args below meth c nL A cells slots Q P lw pc (rest) := fun ls H locs hl hP hS => lv_lconst C.1.1 C.1.2.1 hdg hv (k ls H locs hl hP hS)
theorem aw_iload_n (C : cx p s m args meth c cc nL Ts own D cl tys) {k0 : Fin 4} {x : Int32} (hdg : decode cc pc = .ok (.iload_n k0, 1)) (hw : lw[(k0 : Nat)]? = some (some (.int x)))
    (k : aw p l e R s m args below meth c nL A cells slots Q P lw (pc + 1) (.int x :: rest)) : aw p l e R s m args below meth c nL A cells slots Q P lw pc (rest) := fun ls H locs hl hP hS => lv_iload_n C.1.1 C.1.2.1 hdg rfl (hl.2.2 _ _ hw) (k ls H locs hl hP hS)
theorem aw_iload (C : cx p s m args meth c cc nL Ts own D cl tys) {i : Nat} {x : Int32} (hdg : decode cc pc = .ok (.iload i, 2)) (hw : lw[i]? = some (some (.int x)))
    (k : aw p l e R s m args below meth c nL A cells slots Q P lw (pc + 2) (.int x :: rest)) : aw p l e R s m args below meth c nL A cells slots Q P lw pc (rest) := fun ls H locs hl hP hS => lv_iload C.1.1 C.1.2.1 hdg (hl.2.2 _ _ hw) (k ls H locs hl hP hS)
theorem aw_lload_n (C : cx p s m args meth c cc nL Ts own D cl tys) {k0 : Fin 4} {x : Int64} (hdg : decode cc pc = .ok (.lload_n k0, 1)) (hw : lw[(k0 : Nat)]? = some (some (.long x)))
    (k : aw p l e R s m args below meth c nL A cells slots Q P lw (pc + 1) (.long x :: rest)) : aw p l e R s m args below meth c nL A cells slots Q P lw pc (rest) := fun ls H locs hl hP hS => lv_lload_n C.1.1 C.1.2.1 hdg rfl (hl.2.2 _ _ hw) (k ls H locs hl hP hS)
theorem aw_lload (C : cx p s m args meth c cc nL Ts own D cl tys) {i : Nat} {x : Int64} (hdg : decode cc pc = .ok (.lload i, 2)) (hw : lw[i]? = some (some (.long x)))
    (k : aw p l e R s m args below meth c nL A cells slots Q P lw (pc + 2) (.long x :: rest)) : aw p l e R s m args below meth c nL A cells slots Q P lw pc (rest) := fun ls H locs hl hP hS => lv_lload C.1.1 C.1.2.1 hdg (hl.2.2 _ _ hw) (k ls H locs hl hP hS)
theorem aw_aload_n (C : cx p s m args meth c cc nL Ts own D cl tys) {k0 : Fin 4} {x : Nat} (hdg : decode cc pc = .ok (.aload_n k0, 1)) (hw : lw[(k0 : Nat)]? = some (some (.ref x)))
    (k : aw p l e R s m args below meth c nL A cells slots Q P lw (pc + 1) (.ref x :: rest)) : aw p l e R s m args below meth c nL A cells slots Q P lw pc (rest) := fun ls H locs hl hP hS => lv_aload_n C.1.1 C.1.2.1 hdg rfl (hl.2.2 _ _ hw) (k ls H locs hl hP hS)
theorem aw_aload (C : cx p s m args meth c cc nL Ts own D cl tys) {i : Nat} {x : Nat} (hdg : decode cc pc = .ok (.aload i, 2)) (hw : lw[i]? = some (some (.ref x)))
    (k : aw p l e R s m args below meth c nL A cells slots Q P lw (pc + 2) (.ref x :: rest)) : aw p l e R s m args below meth c nL A cells slots Q P lw pc (rest) := fun ls H locs hl hP hS => lv_aload C.1.1 C.1.2.1 hdg (hl.2.2 _ _ hw) (k ls H locs hl hP hS)
theorem aw_istore_n (C : cx p s m args meth c cc nL Ts own D cl tys) {k0 : Fin 4} {x : Int32} (hdg : decode cc pc = .ok (.istore_n k0, 1)) (hn : (k0 : Nat) < nL) (hp : lw_ok lw (k0 : Nat) = true)
    (k : aw p l e R s m args below meth c nL A cells slots Q P (lw.set (k0 : Nat) (some (.int x))) (pc + 1) rest) : aw p l e R s m args below meth c nL A cells slots Q P lw pc (.int x :: rest) := fun ls H locs hl hP hS => lv_istore_n C.1.1 C.1.2.1 hdg rfl (lw_to hl) hn rfl (fun ls' h' => k ls' H locs (lw_of1 hp h') hP hS)
theorem aw_istore (C : cx p s m args meth c cc nL Ts own D cl tys) {i : Nat} {x : Int32} (hdg : decode cc pc = .ok (.istore i, 2)) (hn : i < nL) (hp : lw_ok lw i = true)
    (k : aw p l e R s m args below meth c nL A cells slots Q P (lw.set i (some (.int x))) (pc + 2) rest) : aw p l e R s m args below meth c nL A cells slots Q P lw pc (.int x :: rest) := fun ls H locs hl hP hS => lv_istore C.1.1 C.1.2.1 hdg (lw_to hl) hn rfl (fun ls' h' => k ls' H locs (lw_of1 hp h') hP hS)
theorem aw_astore_n (C : cx p s m args meth c cc nL Ts own D cl tys) {k0 : Fin 4} {x : Nat} (hdg : decode cc pc = .ok (.astore_n k0, 1)) (hn : (k0 : Nat) < nL) (hp : lw_ok lw (k0 : Nat) = true)
    (k : aw p l e R s m args below meth c nL A cells slots Q P (lw.set (k0 : Nat) (some (.ref x))) (pc + 1) rest) : aw p l e R s m args below meth c nL A cells slots Q P lw pc (.ref x :: rest) := fun ls H locs hl hP hS => lv_astore_n C.1.1 C.1.2.1 hdg rfl (lw_to hl) hn rfl (fun ls' h' => k ls' H locs (lw_of1 hp h') hP hS)
theorem aw_astore (C : cx p s m args meth c cc nL Ts own D cl tys) {i : Nat} {x : Nat} (hdg : decode cc pc = .ok (.astore i, 2)) (hn : i < nL) (hp : lw_ok lw i = true)
    (k : aw p l e R s m args below meth c nL A cells slots Q P (lw.set i (some (.ref x))) (pc + 2) rest) : aw p l e R s m args below meth c nL A cells slots Q P lw pc (.ref x :: rest) := fun ls H locs hl hP hS => lv_astore C.1.1 C.1.2.1 hdg (lw_to hl) hn rfl (fun ls' h' => k ls' H locs (lw_of1 hp h') hP hS)
theorem aw_lstore_n (C : cx p s m args meth c cc nL Ts own D cl tys) {k0 : Fin 4} {x : Int64} (hdg : decode cc pc = .ok (.lstore_n k0, 1)) (hn : (k0 : Nat) + 1 < nL) (hp : lw_ok lw (k0 : Nat) = true)
    (k : aw p l e R s m args below meth c nL A cells slots Q P ((lw.set (k0 : Nat) (some (.long x))).set ((k0 : Nat) + 1) none) (pc + 1) rest) : aw p l e R s m args below meth c nL A cells slots Q P lw pc (.long x :: rest) := fun ls H locs hl hP hS => lv_lstore_n C.1.1 C.1.2.1 hdg rfl (lw_to hl) hn rfl (fun ls' h' => k ls' H locs (lw_of2 hp h') hP hS)
theorem aw_lstore (C : cx p s m args meth c cc nL Ts own D cl tys) {i : Nat} {x : Int64} (hdg : decode cc pc = .ok (.lstore i, 2)) (hn : i + 1 < nL) (hp : lw_ok lw i = true)
    (k : aw p l e R s m args below meth c nL A cells slots Q P ((lw.set i (some (.long x))).set (i + 1) none) (pc + 2) rest) : aw p l e R s m args below meth c nL A cells slots Q P lw pc (.long x :: rest) := fun ls H locs hl hP hS => lv_lstore C.1.1 C.1.2.1 hdg (lw_to hl) hn rfl (fun ls' h' => k ls' H locs (lw_of2 hp h') hP hS)
theorem aw_iinc (C : cx p s m args meth c cc nL Ts own D cl tys) {i : Nat} {n : Int} {x v : Int32} (hdg : decode cc pc = .ok (.iinc i n, 3)) (hw : lw[i]? = some (some (.int x))) (hv : x + Int32.ofInt n = v) (hn : i < nL) (hp : lw_ok lw i = true)
    (k : aw p l e R s m args below meth c nL A cells slots Q P (lw.set i (some (.int v))) (pc + 3) rest) : aw p l e R s m args below meth c nL A cells slots Q P lw pc rest := fun ls H locs hl hP hS => by
  obtain ⟨k9, hk9⟩ := List.getElem?_of_mem (lw_mem.mpr hw)
  exact lv_iinc C.1.1 C.1.2.1 hdg (lw_to hl) hk9 hv hn rfl (fun ls' h' => k ls' H locs (lw_of1 hp h') hP hS)
theorem aw_iadd (C : cx p s m args meth c cc nL Ts own D cl tys) {x y : Int32} (hdg : decode cc pc = .ok (.iadd, 1)) 
    (k : aw p l e R s m args below meth c nL A cells slots Q P lw (pc + 1) (.int (x + y) :: rest)) : aw p l e R s m args below meth c nL A cells slots Q P lw pc (.int y :: .int x :: rest) := fun ls H locs hl hP hS => lv_iadd C.1.1 C.1.2.1 hdg  (k ls H locs hl hP hS)
theorem aw_isub (C : cx p s m args meth c cc nL Ts own D cl tys) {x y : Int32} (hdg : decode cc pc = .ok (.isub, 1)) 
    (k : aw p l e R s m args below meth c nL A cells slots Q P lw (pc + 1) (.int (x - y) :: rest)) : aw p l e R s m args below meth c nL A cells slots Q P lw pc (.int y :: .int x :: rest) := fun ls H locs hl hP hS => lv_isub C.1.1 C.1.2.1 hdg  (k ls H locs hl hP hS)
theorem aw_imul (C : cx p s m args meth c cc nL Ts own D cl tys) {x y : Int32} (hdg : decode cc pc = .ok (.imul, 1)) 
    (k : aw p l e R s m args below meth c nL A cells slots Q P lw (pc + 1) (.int (x * y) :: rest)) : aw p l e R s m args below meth c nL A cells slots Q P lw pc (.int y :: .int x :: rest) := fun ls H locs hl hP hS => lv_imul C.1.1 C.1.2.1 hdg  (k ls H locs hl hP hS)
theorem aw_iand (C : cx p s m args meth c cc nL Ts own D cl tys) {x y : Int32} (hdg : decode cc pc = .ok (.iand, 1)) 
    (k : aw p l e R s m args below meth c nL A cells slots Q P lw (pc + 1) (.int (x &&& y) :: rest)) : aw p l e R s m args below meth c nL A cells slots Q P lw pc (.int y :: .int x :: rest) := fun ls H locs hl hP hS => lv_iand C.1.1 C.1.2.1 hdg  (k ls H locs hl hP hS)
theorem aw_ior (C : cx p s m args meth c cc nL Ts own D cl tys) {x y : Int32} (hdg : decode cc pc = .ok (.ior, 1)) 
    (k : aw p l e R s m args below meth c nL A cells slots Q P lw (pc + 1) (.int (x ||| y) :: rest)) : aw p l e R s m args below meth c nL A cells slots Q P lw pc (.int y :: .int x :: rest) := fun ls H locs hl hP hS => lv_ior C.1.1 C.1.2.1 hdg  (k ls H locs hl hP hS)
theorem aw_ixor (C : cx p s m args meth c cc nL Ts own D cl tys) {x y : Int32} (hdg : decode cc pc = .ok (.ixor, 1)) 
    (k : aw p l e R s m args below meth c nL A cells slots Q P lw (pc + 1) (.int (x ^^^ y) :: rest)) : aw p l e R s m args below meth c nL A cells slots Q P lw pc (.int y :: .int x :: rest) := fun ls H locs hl hP hS => lv_ixor C.1.1 C.1.2.1 hdg  (k ls H locs hl hP hS)
theorem aw_ishl (C : cx p s m args meth c cc nL Ts own D cl tys) {x y : Int32} (hdg : decode cc pc = .ok (.ishl, 1)) 
    (k : aw p l e R s m args below meth c nL A cells slots Q P lw (pc + 1) (.int (x <<< (y &&& 31)) :: rest)) : aw p l e R s m args below meth c nL A cells slots Q P lw pc (.int y :: .int x :: rest) := fun ls H locs hl hP hS => lv_ishl C.1.1 C.1.2.1 hdg  (k ls H locs hl hP hS)
theorem aw_ishr (C : cx p s m args meth c cc nL Ts own D cl tys) {x y : Int32} (hdg : decode cc pc = .ok (.ishr, 1)) 
    (k : aw p l e R s m args below meth c nL A cells slots Q P lw (pc + 1) (.int (x >>> (y &&& 31)) :: rest)) : aw p l e R s m args below meth c nL A cells slots Q P lw pc (.int y :: .int x :: rest) := fun ls H locs hl hP hS => lv_ishr C.1.1 C.1.2.1 hdg  (k ls H locs hl hP hS)
theorem aw_ineg (C : cx p s m args meth c cc nL Ts own D cl tys) {x : Int32} (hdg : decode cc pc = .ok (.ineg, 1)) 
    (k : aw p l e R s m args below meth c nL A cells slots Q P lw (pc + 1) (.int (-x) :: rest)) : aw p l e R s m args below meth c nL A cells slots Q P lw pc (.int x :: rest) := fun ls H locs hl hP hS => lv_ineg C.1.1 C.1.2.1 hdg  (k ls H locs hl hP hS)
theorem aw_idiv (C : cx p s m args meth c cc nL Ts own D cl tys) {x y : Int32} (hdg : decode cc pc = .ok (.idiv, 1)) (hne : ¬ y = 0)
    (k : aw p l e R s m args below meth c nL A cells slots Q P lw (pc + 1) (.int (x / y) :: rest)) : aw p l e R s m args below meth c nL A cells slots Q P lw pc (.int y :: .int x :: rest) := fun ls H locs hl hP hS => lv_idiv C.1.1 C.1.2.1 hdg hne (k ls H locs hl hP hS)
theorem aw_irem (C : cx p s m args meth c cc nL Ts own D cl tys) {x y : Int32} (hdg : decode cc pc = .ok (.irem, 1)) (hne : ¬ y = 0)
    (k : aw p l e R s m args below meth c nL A cells slots Q P lw (pc + 1) (.int (x - x / y * y) :: rest)) : aw p l e R s m args below meth c nL A cells slots Q P lw pc (.int y :: .int x :: rest) := fun ls H locs hl hP hS => lv_irem C.1.1 C.1.2.1 hdg hne (k ls H locs hl hP hS)
theorem aw_ladd (C : cx p s m args meth c cc nL Ts own D cl tys) {x y : Int64} (hdg : decode cc pc = .ok (.ladd, 1)) 
    (k : aw p l e R s m args below meth c nL A cells slots Q P lw (pc + 1) (.long (x + y) :: rest)) : aw p l e R s m args below meth c nL A cells slots Q P lw pc (.long y :: .long x :: rest) := fun ls H locs hl hP hS => lv_ladd C.1.1 C.1.2.1 hdg  (k ls H locs hl hP hS)
theorem aw_lsub (C : cx p s m args meth c cc nL Ts own D cl tys) {x y : Int64} (hdg : decode cc pc = .ok (.lsub, 1)) 
    (k : aw p l e R s m args below meth c nL A cells slots Q P lw (pc + 1) (.long (x - y) :: rest)) : aw p l e R s m args below meth c nL A cells slots Q P lw pc (.long y :: .long x :: rest) := fun ls H locs hl hP hS => lv_lsub C.1.1 C.1.2.1 hdg  (k ls H locs hl hP hS)
theorem aw_lmul (C : cx p s m args meth c cc nL Ts own D cl tys) {x y : Int64} (hdg : decode cc pc = .ok (.lmul, 1)) 
    (k : aw p l e R s m args below meth c nL A cells slots Q P lw (pc + 1) (.long (x * y) :: rest)) : aw p l e R s m args below meth c nL A cells slots Q P lw pc (.long y :: .long x :: rest) := fun ls H locs hl hP hS => lv_lmul C.1.1 C.1.2.1 hdg  (k ls H locs hl hP hS)
theorem aw_land (C : cx p s m args meth c cc nL Ts own D cl tys) {x y : Int64} (hdg : decode cc pc = .ok (.land, 1)) 
    (k : aw p l e R s m args below meth c nL A cells slots Q P lw (pc + 1) (.long (x &&& y) :: rest)) : aw p l e R s m args below meth c nL A cells slots Q P lw pc (.long y :: .long x :: rest) := fun ls H locs hl hP hS => lv_land C.1.1 C.1.2.1 hdg  (k ls H locs hl hP hS)
theorem aw_lor (C : cx p s m args meth c cc nL Ts own D cl tys) {x y : Int64} (hdg : decode cc pc = .ok (.lor, 1)) 
    (k : aw p l e R s m args below meth c nL A cells slots Q P lw (pc + 1) (.long (x ||| y) :: rest)) : aw p l e R s m args below meth c nL A cells slots Q P lw pc (.long y :: .long x :: rest) := fun ls H locs hl hP hS => lv_lor C.1.1 C.1.2.1 hdg  (k ls H locs hl hP hS)
theorem aw_lxor (C : cx p s m args meth c cc nL Ts own D cl tys) {x y : Int64} (hdg : decode cc pc = .ok (.lxor, 1)) 
    (k : aw p l e R s m args below meth c nL A cells slots Q P lw (pc + 1) (.long (x ^^^ y) :: rest)) : aw p l e R s m args below meth c nL A cells slots Q P lw pc (.long y :: .long x :: rest) := fun ls H locs hl hP hS => lv_lxor C.1.1 C.1.2.1 hdg  (k ls H locs hl hP hS)
theorem aw_lneg (C : cx p s m args meth c cc nL Ts own D cl tys) {x : Int64} (hdg : decode cc pc = .ok (.lneg, 1)) 
    (k : aw p l e R s m args below meth c nL A cells slots Q P lw (pc + 1) (.long (-x) :: rest)) : aw p l e R s m args below meth c nL A cells slots Q P lw pc (.long x :: rest) := fun ls H locs hl hP hS => lv_lneg C.1.1 C.1.2.1 hdg  (k ls H locs hl hP hS)
theorem aw_i2l (C : cx p s m args meth c cc nL Ts own D cl tys) {x : Int32} (hdg : decode cc pc = .ok (.i2l, 1)) 
    (k : aw p l e R s m args below meth c nL A cells slots Q P lw (pc + 1) (.long x.toInt64 :: rest)) : aw p l e R s m args below meth c nL A cells slots Q P lw pc (.int x :: rest) := fun ls H locs hl hP hS => lv_i2l C.1.1 C.1.2.1 hdg rfl (k ls H locs hl hP hS)
theorem aw_l2i (C : cx p s m args meth c cc nL Ts own D cl tys) {x : Int64} (hdg : decode cc pc = .ok (.l2i, 1)) 
    (k : aw p l e R s m args below meth c nL A cells slots Q P lw (pc + 1) (.int x.toInt32 :: rest)) : aw p l e R s m args below meth c nL A cells slots Q P lw pc (.long x :: rest) := fun ls H locs hl hP hS => lv_l2i C.1.1 C.1.2.1 hdg rfl (k ls H locs hl hP hS)
theorem aw_iushr (C : cx p s m args meth c cc nL Ts own D cl tys) {x y : Int32} (hdg : decode cc pc = .ok (.iushr, 1)) 
    (k : aw p l e R s m args below meth c nL A cells slots Q P lw (pc + 1) (.int (x.toUInt32 >>> (y.toUInt32 &&& Int32.toUInt32 31)).toInt32 :: rest)) : aw p l e R s m args below meth c nL A cells slots Q P lw pc (.int y :: .int x :: rest) := fun ls H locs hl hP hS => lv_iushr C.1.1 C.1.2.1 hdg rfl (k ls H locs hl hP hS)
theorem aw_lushr (C : cx p s m args meth c cc nL Ts own D cl tys) {x : Int64} {y : Int32} (hdg : decode cc pc = .ok (.lushr, 1)) 
    (k : aw p l e R s m args below meth c nL A cells slots Q P lw (pc + 1) (.long (x.toUInt64 >>> (y.toInt64.toUInt64 &&& Int64.toUInt64 63)).toInt64 :: rest)) : aw p l e R s m args below meth c nL A cells slots Q P lw pc (.int y :: .long x :: rest) := fun ls H locs hl hP hS => lv_lushr C.1.1 C.1.2.1 hdg rfl (k ls H locs hl hP hS)
theorem aw_lshl (C : cx p s m args meth c cc nL Ts own D cl tys) {x : Int64} {y : Int32} (hdg : decode cc pc = .ok (.lshl, 1)) 
    (k : aw p l e R s m args below meth c nL A cells slots Q P lw (pc + 1) (.long (x <<< (y.toInt64 &&& 63)) :: rest)) : aw p l e R s m args below meth c nL A cells slots Q P lw pc (.int y :: .long x :: rest) := fun ls H locs hl hP hS => lv_lshl C.1.1 C.1.2.1 hdg rfl (k ls H locs hl hP hS)
theorem aw_lshr (C : cx p s m args meth c cc nL Ts own D cl tys) {x : Int64} {y : Int32} (hdg : decode cc pc = .ok (.lshr, 1)) 
    (k : aw p l e R s m args below meth c nL A cells slots Q P lw (pc + 1) (.long (x >>> (y.toInt64 &&& 63)) :: rest)) : aw p l e R s m args below meth c nL A cells slots Q P lw pc (.int y :: .long x :: rest) := fun ls H locs hl hP hS => lv_lshr C.1.1 C.1.2.1 hdg rfl (k ls H locs hl hP hS)
theorem aw_dup (C : cx p s m args meth c cc nL Ts own D cl tys) {va : Value} (hdg : decode cc pc = .ok (.dup, 1)) (hva : va.category = 1)
    (k : aw p l e R s m args below meth c nL A cells slots Q P lw (pc + 1) (va :: va :: rest)) : aw p l e R s m args below meth c nL A cells slots Q P lw pc (va :: rest) := fun ls H locs hl hP hS => lv_dup C.1.1 C.1.2.1 hdg hva (k ls H locs hl hP hS)
theorem aw_pop (C : cx p s m args meth c cc nL Ts own D cl tys) {va : Value} (hdg : decode cc pc = .ok (.pop, 1)) (hva : va.category = 1)
    (k : aw p l e R s m args below meth c nL A cells slots Q P lw (pc + 1) (rest)) : aw p l e R s m args below meth c nL A cells slots Q P lw pc (va :: rest) := fun ls H locs hl hP hS => lv_pop C.1.1 C.1.2.1 hdg hva (k ls H locs hl hP hS)
theorem aw_dup_x1 (C : cx p s m args meth c cc nL Ts own D cl tys) {va vb : Value} (hdg : decode cc pc = .ok (.dup_x1, 1)) (hva : va.category = 1) (hvb : vb.category = 1)
    (k : aw p l e R s m args below meth c nL A cells slots Q P lw (pc + 1) (va :: vb :: va :: rest)) : aw p l e R s m args below meth c nL A cells slots Q P lw pc (va :: vb :: rest) := fun ls H locs hl hP hS => lv_dup_x1 C.1.1 C.1.2.1 hdg hva hvb (k ls H locs hl hP hS)
theorem aw_dup_x2 (C : cx p s m args meth c cc nL Ts own D cl tys) {va vb vd : Value} (hdg : decode cc pc = .ok (.dup_x2, 1)) (hva : va.category = 1) (hvb : vb.category = 1) (hvd : vd.category = 1)
    (k : aw p l e R s m args below meth c nL A cells slots Q P lw (pc + 1) (va :: vb :: vd :: va :: rest)) : aw p l e R s m args below meth c nL A cells slots Q P lw pc (va :: vb :: vd :: rest) := fun ls H locs hl hP hS => lv_dup_x2 C.1.1 C.1.2.1 hdg hva hvb hvd (k ls H locs hl hP hS)
theorem aw_dup2_11 (C : cx p s m args meth c cc nL Ts own D cl tys) {va vb : Value} (hdg : decode cc pc = .ok (.dup2, 1)) (hva : va.category = 1) (hvb : vb.category = 1)
    (k : aw p l e R s m args below meth c nL A cells slots Q P lw (pc + 1) (va :: vb :: va :: vb :: rest)) : aw p l e R s m args below meth c nL A cells slots Q P lw pc (va :: vb :: rest) := fun ls H locs hl hP hS => lv_dup2_11 C.1.1 C.1.2.1 hdg hva hvb (k ls H locs hl hP hS)
theorem aw_dup2_2 (C : cx p s m args meth c cc nL Ts own D cl tys) {va : Value} (hdg : decode cc pc = .ok (.dup2, 1)) (hva : va.category = 2)
    (k : aw p l e R s m args below meth c nL A cells slots Q P lw (pc + 1) (va :: va :: rest)) : aw p l e R s m args below meth c nL A cells slots Q P lw pc (va :: rest) := fun ls H locs hl hP hS => lv_dup2_2 C.1.1 C.1.2.1 hdg hva (k ls H locs hl hP hS)
theorem aw_pop2_2 (C : cx p s m args meth c cc nL Ts own D cl tys) {va : Value} (hdg : decode cc pc = .ok (.pop2, 1)) (hva : va.category = 2)
    (k : aw p l e R s m args below meth c nL A cells slots Q P lw (pc + 1) (rest)) : aw p l e R s m args below meth c nL A cells slots Q P lw pc (va :: rest) := fun ls H locs hl hP hS => lv_pop2_2 C.1.1 C.1.2.1 hdg hva (k ls H locs hl hP hS)
theorem aw_if_eq (C : cx p s m args meth c cc nL Ts own D cl tys) {x : Int32} {off : Int} {tgt : Nat} (hdg : decode cc pc = .ok (.ifCond .eq off, 3)) (ht : (pc : Int) + off = (tgt : Int)) (kt : x = 0 → aw p l e R s m args below meth c nL A cells slots Q P lw tgt rest) (kf : ¬ x = 0 → aw p l e R s m args below meth c nL A cells slots Q P lw (pc + 3) rest) : aw p l e R s m args below meth c nL A cells slots Q P lw pc (.int x :: rest) :=
  fun ls H locs hl hP hS => lv_if_eq C.1.1 C.1.2.1 hdg ht (fun h => kt h ls H locs hl hP hS) (fun h => kf h ls H locs hl hP hS)
theorem aw_icmp_eq (C : cx p s m args meth c cc nL Ts own D cl tys) {x y : Int32} {off : Int} {tgt : Nat} (hdg : decode cc pc = .ok (.if_icmp .eq off, 3)) (ht : (pc : Int) + off = (tgt : Int)) (kt : x = y → aw p l e R s m args below meth c nL A cells slots Q P lw tgt rest) (kf : ¬ x = y → aw p l e R s m args below meth c nL A cells slots Q P lw (pc + 3) rest) : aw p l e R s m args below meth c nL A cells slots Q P lw pc (.int y :: .int x :: rest) :=
  fun ls H locs hl hP hS => lv_icmp_eq C.1.1 C.1.2.1 hdg ht (fun h => kt h ls H locs hl hP hS) (fun h => kf h ls H locs hl hP hS)
theorem aw_if_ne (C : cx p s m args meth c cc nL Ts own D cl tys) {x : Int32} {off : Int} {tgt : Nat} (hdg : decode cc pc = .ok (.ifCond .ne off, 3)) (ht : (pc : Int) + off = (tgt : Int)) (kt : ¬ x = 0 → aw p l e R s m args below meth c nL A cells slots Q P lw tgt rest) (kf : x = 0 → aw p l e R s m args below meth c nL A cells slots Q P lw (pc + 3) rest) : aw p l e R s m args below meth c nL A cells slots Q P lw pc (.int x :: rest) :=
  fun ls H locs hl hP hS => lv_if_ne C.1.1 C.1.2.1 hdg ht (fun h => kt h ls H locs hl hP hS) (fun h => kf h ls H locs hl hP hS)
theorem aw_icmp_ne (C : cx p s m args meth c cc nL Ts own D cl tys) {x y : Int32} {off : Int} {tgt : Nat} (hdg : decode cc pc = .ok (.if_icmp .ne off, 3)) (ht : (pc : Int) + off = (tgt : Int)) (kt : ¬ x = y → aw p l e R s m args below meth c nL A cells slots Q P lw tgt rest) (kf : x = y → aw p l e R s m args below meth c nL A cells slots Q P lw (pc + 3) rest) : aw p l e R s m args below meth c nL A cells slots Q P lw pc (.int y :: .int x :: rest) :=
  fun ls H locs hl hP hS => lv_icmp_ne C.1.1 C.1.2.1 hdg ht (fun h => kt h ls H locs hl hP hS) (fun h => kf h ls H locs hl hP hS)
theorem aw_if_lt (C : cx p s m args meth c cc nL Ts own D cl tys) {x : Int32} {off : Int} {tgt : Nat} (hdg : decode cc pc = .ok (.ifCond .lt off, 3)) (ht : (pc : Int) + off = (tgt : Int)) (kt : x < 0 → aw p l e R s m args below meth c nL A cells slots Q P lw tgt rest) (kf : ¬ x < 0 → aw p l e R s m args below meth c nL A cells slots Q P lw (pc + 3) rest) : aw p l e R s m args below meth c nL A cells slots Q P lw pc (.int x :: rest) :=
  fun ls H locs hl hP hS => lv_if_lt C.1.1 C.1.2.1 hdg ht (fun h => kt h ls H locs hl hP hS) (fun h => kf h ls H locs hl hP hS)
theorem aw_icmp_lt (C : cx p s m args meth c cc nL Ts own D cl tys) {x y : Int32} {off : Int} {tgt : Nat} (hdg : decode cc pc = .ok (.if_icmp .lt off, 3)) (ht : (pc : Int) + off = (tgt : Int)) (kt : x < y → aw p l e R s m args below meth c nL A cells slots Q P lw tgt rest) (kf : ¬ x < y → aw p l e R s m args below meth c nL A cells slots Q P lw (pc + 3) rest) : aw p l e R s m args below meth c nL A cells slots Q P lw pc (.int y :: .int x :: rest) :=
  fun ls H locs hl hP hS => lv_icmp_lt C.1.1 C.1.2.1 hdg ht (fun h => kt h ls H locs hl hP hS) (fun h => kf h ls H locs hl hP hS)
theorem aw_if_ge (C : cx p s m args meth c cc nL Ts own D cl tys) {x : Int32} {off : Int} {tgt : Nat} (hdg : decode cc pc = .ok (.ifCond .ge off, 3)) (ht : (pc : Int) + off = (tgt : Int)) (kt : 0 ≤ x → aw p l e R s m args below meth c nL A cells slots Q P lw tgt rest) (kf : ¬ 0 ≤ x → aw p l e R s m args below meth c nL A cells slots Q P lw (pc + 3) rest) : aw p l e R s m args below meth c nL A cells slots Q P lw pc (.int x :: rest) :=
  fun ls H locs hl hP hS => lv_if_ge C.1.1 C.1.2.1 hdg ht (fun h => kt h ls H locs hl hP hS) (fun h => kf h ls H locs hl hP hS)
theorem aw_icmp_ge (C : cx p s m args meth c cc nL Ts own D cl tys) {x y : Int32} {off : Int} {tgt : Nat} (hdg : decode cc pc = .ok (.if_icmp .ge off, 3)) (ht : (pc : Int) + off = (tgt : Int)) (kt : y ≤ x → aw p l e R s m args below meth c nL A cells slots Q P lw tgt rest) (kf : ¬ y ≤ x → aw p l e R s m args below meth c nL A cells slots Q P lw (pc + 3) rest) : aw p l e R s m args below meth c nL A cells slots Q P lw pc (.int y :: .int x :: rest) :=
  fun ls H locs hl hP hS => lv_icmp_ge C.1.1 C.1.2.1 hdg ht (fun h => kt h ls H locs hl hP hS) (fun h => kf h ls H locs hl hP hS)
theorem aw_if_gt (C : cx p s m args meth c cc nL Ts own D cl tys) {x : Int32} {off : Int} {tgt : Nat} (hdg : decode cc pc = .ok (.ifCond .gt off, 3)) (ht : (pc : Int) + off = (tgt : Int)) (kt : 0 < x → aw p l e R s m args below meth c nL A cells slots Q P lw tgt rest) (kf : ¬ 0 < x → aw p l e R s m args below meth c nL A cells slots Q P lw (pc + 3) rest) : aw p l e R s m args below meth c nL A cells slots Q P lw pc (.int x :: rest) :=
  fun ls H locs hl hP hS => lv_if_gt C.1.1 C.1.2.1 hdg ht (fun h => kt h ls H locs hl hP hS) (fun h => kf h ls H locs hl hP hS)
theorem aw_icmp_gt (C : cx p s m args meth c cc nL Ts own D cl tys) {x y : Int32} {off : Int} {tgt : Nat} (hdg : decode cc pc = .ok (.if_icmp .gt off, 3)) (ht : (pc : Int) + off = (tgt : Int)) (kt : y < x → aw p l e R s m args below meth c nL A cells slots Q P lw tgt rest) (kf : ¬ y < x → aw p l e R s m args below meth c nL A cells slots Q P lw (pc + 3) rest) : aw p l e R s m args below meth c nL A cells slots Q P lw pc (.int y :: .int x :: rest) :=
  fun ls H locs hl hP hS => lv_icmp_gt C.1.1 C.1.2.1 hdg ht (fun h => kt h ls H locs hl hP hS) (fun h => kf h ls H locs hl hP hS)
theorem aw_if_le (C : cx p s m args meth c cc nL Ts own D cl tys) {x : Int32} {off : Int} {tgt : Nat} (hdg : decode cc pc = .ok (.ifCond .le off, 3)) (ht : (pc : Int) + off = (tgt : Int)) (kt : x ≤ 0 → aw p l e R s m args below meth c nL A cells slots Q P lw tgt rest) (kf : ¬ x ≤ 0 → aw p l e R s m args below meth c nL A cells slots Q P lw (pc + 3) rest) : aw p l e R s m args below meth c nL A cells slots Q P lw pc (.int x :: rest) :=
  fun ls H locs hl hP hS => lv_if_le C.1.1 C.1.2.1 hdg ht (fun h => kt h ls H locs hl hP hS) (fun h => kf h ls H locs hl hP hS)
theorem aw_icmp_le (C : cx p s m args meth c cc nL Ts own D cl tys) {x y : Int32} {off : Int} {tgt : Nat} (hdg : decode cc pc = .ok (.if_icmp .le off, 3)) (ht : (pc : Int) + off = (tgt : Int)) (kt : x ≤ y → aw p l e R s m args below meth c nL A cells slots Q P lw tgt rest) (kf : ¬ x ≤ y → aw p l e R s m args below meth c nL A cells slots Q P lw (pc + 3) rest) : aw p l e R s m args below meth c nL A cells slots Q P lw pc (.int y :: .int x :: rest) :=
  fun ls H locs hl hP hS => lv_icmp_le C.1.1 C.1.2.1 hdg ht (fun h => kt h ls H locs hl hP hS) (fun h => kf h ls H locs hl hP hS)
theorem aw_goto (C : cx p s m args meth c cc nL Ts own D cl tys) {off : Int} {tgt : Nat} (hdg : decode cc pc = .ok (.goto off, 3)) (ht : (pc : Int) + off = (tgt : Int)) (k : aw p l e R s m args below meth c nL A cells slots Q P lw tgt rest) : aw p l e R s m args below meth c nL A cells slots Q P lw pc rest :=
  fun ls H locs hl hP hS => lv_goto C.1.1 C.1.2.1 hdg ht (k ls H locs hl hP hS)
theorem aw_lcmp (C : cx p s m args meth c cc nL Ts own D cl tys) {x y : Int64} (hdg : decode cc pc = .ok (.lcmp, 1)) 
    (k : aw p l e R s m args below meth c nL A cells slots Q P lw (pc + 1) (.int (lg_cmp x y) :: rest)) : aw p l e R s m args below meth c nL A cells slots Q P lw pc (.long y :: .long x :: rest) := fun ls H locs hl hP hS => W.lcmp C.1.1 C.1.2.1 hdg  (k ls H locs hl hP hS)
/-- a number on the stack gets a name -/
theorem aw_topi {x : Int32} (k : ∀ y : Int32, y = x → aw p l e R s m args below meth c nL A cells slots Q P lw pc (.int y :: rest)) : aw p l e R s m args below meth c nL A cells slots Q P lw pc (.int x :: rest) := k x rfl
theorem aw_topl {x : Int64} (k : ∀ y : Int64, y = x → aw p l e R s m args below meth c nL A cells slots Q P lw pc (.long y :: rest)) : aw p l e R s m args below meth c nL A cells slots Q P lw pc (.long x :: rest) := k x rfl
/-- a number on the stack, put otherwise -/
theorem aw_eqi {x y : Int32} (h : x = y) (k : aw p l e R s m args below meth c nL A cells slots Q P lw pc (.int y :: rest)) : aw p l e R s m args below meth c nL A cells slots Q P lw pc (.int x :: rest) := by rw [h]; exact k
theorem aw_eql {x y : Int64} (h : x = y) (k : aw p l e R s m args below meth c nL A cells slots Q P lw pc (.long y :: rest)) : aw p l e R s m args below meth c nL A cells slots Q P lw pc (.long x :: rest) := by rw [h]; exact k
/-- the heap's predicate, the locals, put otherwise -/
theorem aw_P {P' : Heap → Prop} (h : ∀ H, P H → P' H) (k : aw p l e R s m args below meth c nL A cells slots Q P' lw pc rest) : aw p l e R s m args below meth c nL A cells slots Q P lw pc rest := fun ls H locs hl hP hS => k ls H locs hl (h H hP) hS
theorem aw_lw {lw' : List (Option Value)} (h : lw = lw') (k : aw p l e R s m args below meth c nL A cells slots Q P lw' pc rest) : aw p l e R s m args below meth c nL A cells slots Q P lw pc rest := by rw [h]; exact k
theorem aw_sub {lw' : List (Option Value)} (hs : ∀ (k : Nat) (v : Value), lw'[k]? = some (some v) → lw[k]? = some (some v)) (k : aw p l e R s m args below meth c nL A cells slots Q P lw' pc rest) : aw p l e R s m args below meth c nL A cells slots Q P lw pc rest := fun ls H locs hl hP hS => k ls H locs (hl.sub hs) hP hS
end AW
