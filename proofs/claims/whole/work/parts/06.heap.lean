/-! Heap rows over a world of cells. -/
section AH
variable {p : Program} {l : Launch} {e : Env} {R : Room} {s : State} {m : MethodId} {args : Array Value} {below : List Frame} {meth : Method} {c : Code} {cc : ByteArray} {nL : Nat} {Ts : List Cond} {own : String} {D : va_G} {cl : List vw_C} {tys : List (ClassId × FieldType)} {A : Nat → Prop} {cells slots : Nat} {Q : State → Prop} {P : Heap → Prop} {lw : List (Option Value)} {pc : Nat} {rest : List Value} {ws : va_W} {a : Nat}
theorem aw_get (C : cx p s m args meth c cc nL Ts own D cl tys) {ref Cn : String} {T : u_T} {N ci index : Nat} (hin : ∀ w ∈ u_ws Cn T N, w ∈ Ts) (q0 : Nat) {fs : List Value} (he : ws[q0]? = some (a, .inr (ci, fs))) (hc : cl[ci]? = some (Cn, T, N)) (k : Nat) (hk : k < N) (hlink : (Cond.fieldLink own index ref (T k).2.1 (T k).2.2.1).before args s = true) (hsame : ∀ x, s.fieldFound? (T k).1 (T k).2.1 (T k).2.2.1 = some x → s.fieldFound? ref (T k).2.1 (T k).2.2.1 = some x) {v : Value} (hv : fs[k]? = some v) (hdg : decode cc pc = .ok (.getfield index, 3))
    (kk : aw p l e R s m args below meth c nL A cells slots Q (va_P D cl ws) lw (pc + 3) (v :: rest)) : aw p l e R s m args below meth c nL A cells slots Q (va_P D cl ws) lw pc (.ref a :: rest) :=
  fun ls H locs hl hP hS => va_get C.1.1 C.1.2.1 C.1.2.2.2.2 hin C.1.2.2.2.1 C.2.2 hP q0 he hc k hk hlink hsame hv hdg (kk ls H locs hl hP hS)
theorem aw_put (C : cx p s m args meth c cc nL Ts own D cl tys) {ref Cn : String} {T : u_T} {N ci index : Nat} (hD : va_D A ws) (hin : ∀ w ∈ u_ws Cn T N, w ∈ Ts) (ty0 : Nat → FieldType) (hty : ∀ k, k < N → parseFieldDescriptor (T k).2.2.1 = some (ty0 k)) (hnm : ∀ a, a < N → ∀ b, b < N → a ≠ b → (T a).2.1 ≠ (T b).2.1) (q0 : Nat) {fs : List Value} (he : ws[q0]? = some (a, .inr (ci, fs))) (hc : cl[ci]? = some (Cn, T, N)) (k : Nat) (hk : k < N) (hlink : (Cond.fieldLink own index ref (T k).2.1 (T k).2.2.1).before args s = true) (hsame : ∀ x, s.fieldFound? (T k).1 (T k).2.1 (T k).2.2.1 = some x → s.fieldFound? ref (T k).2.1 (T k).2.2.1 = some x) (hfin : (T k).2.2.2 = false) {ty : FieldType} {v : Value} (hd : parseFieldDescriptor (T k).2.2.1 = some ty) (hn : narrow ty v = v) (hfit : fits ty v = true) (hl9 : k < fs.length) {ws' : va_W} (hw : ws.set q0 (a, .inr (ci, fs.set k v)) = ws') (hdg : decode cc pc = .ok (.putfield index, 3))
    (kk : aw p l e R s m args below meth c nL A cells slots Q (va_P D cl ws') lw (pc + 3) (rest)) : aw p l e R s m args below meth c nL A cells slots Q (va_P D cl ws) lw pc (v :: .ref a :: rest) :=
  fun ls H locs hl hP hS => va_put C.1.1 C.1.2.1 C.1.2.2.2.2 hin ty0 hty hnm C.1.2.2.2.1 C.2.2 hP hD hS q0 he hc k hk hlink hsame hfin hd hn hfit hl9 hdg (fun H1 locs1 hP1 _ hS1 => kk ls H1 locs1 hl (by rw [← hw]; exact hP1) hS1)
theorem aw_getN (C : cx p s m args meth c cc nL Ts own D cl tys) {ref Cn host : String} {T : u_T} {N ci index : Nat} (hin : ∀ w ∈ u_ws Cn T N, w ∈ Ts) (q0 : Nat) {fs : List Value} (he : ws[q0]? = some (a, .inr (ci, fs))) (hc : cl[ci]? = some (Cn, T, N)) (k : Nat) (hk : k < N) (hlink : (Cond.fieldLinkNest own index ref (T k).2.1 (T k).2.2.1 host).before args s = true) (hsame : ∀ x, s.fieldFound? (T k).1 (T k).2.1 (T k).2.2.1 = some x → s.fieldFound? ref (T k).2.1 (T k).2.2.1 = some x) {v : Value} (hv : fs[k]? = some v) (hdg : decode cc pc = .ok (.getfield index, 3))
    (kk : aw p l e R s m args below meth c nL A cells slots Q (va_P D cl ws) lw (pc + 3) (v :: rest)) : aw p l e R s m args below meth c nL A cells slots Q (va_P D cl ws) lw pc (.ref a :: rest) :=
  fun ls H locs hl hP hS => va_getN C.1.1 C.1.2.1 C.1.2.2.2.2 hin C.1.2.2.2.1 C.2.2 hP q0 he hc k hk hlink hsame hv hdg (kk ls H locs hl hP hS)
theorem aw_putN (C : cx p s m args meth c cc nL Ts own D cl tys) {ref Cn host : String} {T : u_T} {N ci index : Nat} (hD : va_D A ws) (hin : ∀ w ∈ u_ws Cn T N, w ∈ Ts) (ty0 : Nat → FieldType) (hty : ∀ k, k < N → parseFieldDescriptor (T k).2.2.1 = some (ty0 k)) (hnm : ∀ a, a < N → ∀ b, b < N → a ≠ b → (T a).2.1 ≠ (T b).2.1) (q0 : Nat) {fs : List Value} (he : ws[q0]? = some (a, .inr (ci, fs))) (hc : cl[ci]? = some (Cn, T, N)) (k : Nat) (hk : k < N) (hlink : (Cond.fieldLinkNest own index ref (T k).2.1 (T k).2.2.1 host).before args s = true) (hsame : ∀ x, s.fieldFound? (T k).1 (T k).2.1 (T k).2.2.1 = some x → s.fieldFound? ref (T k).2.1 (T k).2.2.1 = some x) (hfin : (T k).2.2.2 = false) {ty : FieldType} {v : Value} (hd : parseFieldDescriptor (T k).2.2.1 = some ty) (hn : narrow ty v = v) (hfit : fits ty v = true) (hl9 : k < fs.length) {ws' : va_W} (hw : ws.set q0 (a, .inr (ci, fs.set k v)) = ws') (hdg : decode cc pc = .ok (.putfield index, 3))
    (kk : aw p l e R s m args below meth c nL A cells slots Q (va_P D cl ws') lw (pc + 3) (rest)) : aw p l e R s m args below meth c nL A cells slots Q (va_P D cl ws) lw pc (v :: .ref a :: rest) :=
  fun ls H locs hl hP hS => va_putN C.1.1 C.1.2.1 C.1.2.2.2.2 hin ty0 hty hnm C.1.2.2.2.1 C.2.2 hP hD hS q0 he hc k hk hlink hsame hfin hd hn hfit hl9 hdg (fun H1 locs1 hP1 _ hS1 => kk ls H1 locs1 hl (by rw [← hw]; exact hP1) hS1)
theorem aw_iald (C : cx p s m args meth c cc nL Ts own D cl tys) (q0 t0 : Nat) {cA : ClassId} {n : Nat} {f : Nat → Int32} (ha : ws[q0]? = some (a, .inl (cA, n, .inl f))) (ht : tys[t0]? = some (cA, .int)) {i : Int32} (j : Nat) (hi : i = nI j) (hj : j < n) (hn : n < 2 ^ 31) (hdg : decode cc pc = .ok (.iaload, 1))
    (kk : aw p l e R s m args below meth c nL A cells slots Q (va_P D cl ws) lw (pc + 1) (.int (f j) :: rest)) : aw p l e R s m args below meth c nL A cells slots Q (va_P D cl ws) lw pc (.int i :: .ref a :: rest) := by
  subst hi
  intro ls H locs hl hP hS
  refine va_iald C.1.1 C.1.2.1 C.2.2 hP q0 t0 ha ht (vp_in_nI hj hn) hdg ?_
  rw [nI_clamp (by omega)]
  exact kk ls H locs hl hP hS
theorem aw_iast (C : cx p s m args meth c cc nL Ts own D cl tys) (hD : va_D A ws) (q0 t0 : Nat) {cA : ClassId} {n : Nat} {f : Nat → Int32} (ha : ws[q0]? = some (a, .inl (cA, n, .inl f))) (ht : tys[t0]? = some (cA, .int)) {i : Int32} {x : Int32} (j : Nat) (hi : i = nI j) (hj : j < n) (hn : n < 2 ^ 31) {ws' : va_W} (hw : ws.set q0 (a, .inl (cA, n, .inl (upd f j x))) = ws') (hdg : decode cc pc = .ok (.iastore, 1))
    (kk : aw p l e R s m args below meth c nL A cells slots Q (va_P D cl ws') lw (pc + 1) (rest)) : aw p l e R s m args below meth c nL A cells slots Q (va_P D cl ws) lw pc (.int x :: .int i :: .ref a :: rest) := by
  subst hi
  intro ls H locs hl hP hS
  refine va_iast C.1.1 C.1.2.1 C.2.2 hP hD hS q0 t0 ha ht (vp_in_nI hj hn) hdg ?_
  rw [nI_clamp (by omega), hw]
  exact fun H1 locs1 hP1 _ hS1 => kk ls H1 locs1 hl hP1 hS1
theorem aw_lald (C : cx p s m args meth c cc nL Ts own D cl tys) (q0 t0 : Nat) {cA : ClassId} {n : Nat} {f : Nat → Int64} (ha : ws[q0]? = some (a, .inl (cA, n, .inr (.inl f)))) (ht : tys[t0]? = some (cA, .long)) {i : Int32} (j : Nat) (hi : i = nI j) (hj : j < n) (hn : n < 2 ^ 31) (hdg : decode cc pc = .ok (.laload, 1))
    (kk : aw p l e R s m args below meth c nL A cells slots Q (va_P D cl ws) lw (pc + 1) (.long (f j) :: rest)) : aw p l e R s m args below meth c nL A cells slots Q (va_P D cl ws) lw pc (.int i :: .ref a :: rest) := by
  subst hi
  intro ls H locs hl hP hS
  refine va_lald C.1.1 C.1.2.1 C.2.2 hP q0 t0 ha ht (vp_in_nI hj hn) hdg ?_
  rw [nI_clamp (by omega)]
  exact kk ls H locs hl hP hS
theorem aw_last (C : cx p s m args meth c cc nL Ts own D cl tys) (hD : va_D A ws) (q0 t0 : Nat) {cA : ClassId} {n : Nat} {f : Nat → Int64} (ha : ws[q0]? = some (a, .inl (cA, n, .inr (.inl f)))) (ht : tys[t0]? = some (cA, .long)) {i : Int32} {x : Int64} (j : Nat) (hi : i = nI j) (hj : j < n) (hn : n < 2 ^ 31) {ws' : va_W} (hw : ws.set q0 (a, .inl (cA, n, .inr (.inl (vp_updL f j x)))) = ws') (hdg : decode cc pc = .ok (.lastore, 1))
    (kk : aw p l e R s m args below meth c nL A cells slots Q (va_P D cl ws') lw (pc + 1) (rest)) : aw p l e R s m args below meth c nL A cells slots Q (va_P D cl ws) lw pc (.long x :: .int i :: .ref a :: rest) := by
  subst hi
  intro ls H locs hl hP hS
  refine va_last C.1.1 C.1.2.1 C.2.2 hP hD hS q0 t0 ha ht (vp_in_nI hj hn) hdg ?_
  rw [nI_clamp (by omega), hw]
  exact fun H1 locs1 hP1 _ hS1 => kk ls H1 locs1 hl hP1 hS1
theorem aw_zald (C : cx p s m args meth c cc nL Ts own D cl tys) (q0 t0 : Nat) {cA : ClassId} {n : Nat} {f : Nat → Int32} (ha : ws[q0]? = some (a, .inl (cA, n, .inl f))) (ht : tys[t0]? = some (cA, .boolean)) {i : Int32} (j : Nat) (hi : i = nI j) (hj : j < n) (hn : n < 2 ^ 31) (hdg : decode cc pc = .ok (.baload, 1))
    (kk : aw p l e R s m args below meth c nL A cells slots Q (va_P D cl ws) lw (pc + 1) (.int (f j) :: rest)) : aw p l e R s m args below meth c nL A cells slots Q (va_P D cl ws) lw pc (.int i :: .ref a :: rest) := by
  subst hi
  intro ls H locs hl hP hS
  refine va_zald C.1.1 C.1.2.1 C.2.2 hP q0 t0 ha ht (vp_in_nI hj hn) hdg ?_
  rw [nI_clamp (by omega)]
  exact kk ls H locs hl hP hS
theorem aw_zast (C : cx p s m args meth c cc nL Ts own D cl tys) (hD : va_D A ws) (q0 t0 : Nat) {cA : ClassId} {n : Nat} {f : Nat → Int32} (ha : ws[q0]? = some (a, .inl (cA, n, .inl f))) (ht : tys[t0]? = some (cA, .boolean)) {i : Int32} {x : Int32} (j : Nat) (hi : i = nI j) (hj : j < n) (hn : n < 2 ^ 31) {ws' : va_W} (hw : ws.set q0 (a, .inl (cA, n, .inl (upd f j (vp_nar .boolean x)))) = ws') (hdg : decode cc pc = .ok (.bastore, 1))
    (kk : aw p l e R s m args below meth c nL A cells slots Q (va_P D cl ws') lw (pc + 1) (rest)) : aw p l e R s m args below meth c nL A cells slots Q (va_P D cl ws) lw pc (.int x :: .int i :: .ref a :: rest) := by
  subst hi
  intro ls H locs hl hP hS
  refine va_zast C.1.1 C.1.2.1 C.2.2 hP hD hS q0 t0 ha ht (vp_in_nI hj hn) hdg ?_
  rw [nI_clamp (by omega), hw]
  exact fun H1 locs1 hP1 _ hS1 => kk ls H1 locs1 hl hP1 hS1
theorem aw_bald (C : cx p s m args meth c cc nL Ts own D cl tys) (q0 t0 : Nat) {cA : ClassId} {n : Nat} {f : Nat → Int32} (ha : ws[q0]? = some (a, .inl (cA, n, .inl f))) (ht : tys[t0]? = some (cA, .byte)) {i : Int32} (j : Nat) (hi : i = nI j) (hj : j < n) (hn : n < 2 ^ 31) (hdg : decode cc pc = .ok (.baload, 1))
    (kk : aw p l e R s m args below meth c nL A cells slots Q (va_P D cl ws) lw (pc + 1) (.int (f j) :: rest)) : aw p l e R s m args below meth c nL A cells slots Q (va_P D cl ws) lw pc (.int i :: .ref a :: rest) := by
  subst hi
  intro ls H locs hl hP hS
  refine va_bald C.1.1 C.1.2.1 C.2.2 hP q0 t0 ha ht (vp_in_nI hj hn) hdg ?_
  rw [nI_clamp (by omega)]
  exact kk ls H locs hl hP hS
theorem aw_bast (C : cx p s m args meth c cc nL Ts own D cl tys) (hD : va_D A ws) (q0 t0 : Nat) {cA : ClassId} {n : Nat} {f : Nat → Int32} (ha : ws[q0]? = some (a, .inl (cA, n, .inl f))) (ht : tys[t0]? = some (cA, .byte)) {i : Int32} {x : Int32} (j : Nat) (hi : i = nI j) (hj : j < n) (hn : n < 2 ^ 31) {ws' : va_W} (hw : ws.set q0 (a, .inl (cA, n, .inl (upd f j (vp_nar .byte x)))) = ws') (hdg : decode cc pc = .ok (.bastore, 1))
    (kk : aw p l e R s m args below meth c nL A cells slots Q (va_P D cl ws') lw (pc + 1) (rest)) : aw p l e R s m args below meth c nL A cells slots Q (va_P D cl ws) lw pc (.int x :: .int i :: .ref a :: rest) := by
  subst hi
  intro ls H locs hl hP hS
  refine va_bast C.1.1 C.1.2.1 C.2.2 hP hD hS q0 t0 ha ht (vp_in_nI hj hn) hdg ?_
  rw [nI_clamp (by omega), hw]
  exact fun H1 locs1 hP1 _ hS1 => kk ls H1 locs1 hl hP1 hS1
theorem aw_aald (C : cx p s m args meth c cc nL Ts own D cl tys) (q0 t0 : Nat) {cA : ClassId} {n : Nat} {Cn : String} {f : Nat → Option Nat} (ha : ws[q0]? = some (a, .inl (cA, n, .inr (.inr (.inr (.inr f)))))) (ht : tys[t0]? = some (cA, .object Cn)) {i : Int32} (j : Nat) (hi : i = nI j) (hj : j < n) (hn : n < 2 ^ 31) {y : Nat} (hy : f j = some y) (hdg : decode cc pc = .ok (.aaload, 1))
    (kk : aw p l e R s m args below meth c nL A cells slots Q (va_P D cl ws) lw (pc + 1) (.ref y :: rest)) : aw p l e R s m args below meth c nL A cells slots Q (va_P D cl ws) lw pc (.int i :: .ref a :: rest) := by
  subst hi
  intro ls H locs hl hP hS
  refine va_aldq C.1.1 C.1.2.1 C.2.2 hP q0 t0 ha ht (vp_in_nI hj hn) hdg ?_
  rw [nI_clamp (by omega), hy]
  exact kk ls H locs hl hP hS
theorem aw_aast (C : cx p s m args meth c cc nL Ts own D cl tys) (hD : va_D A ws) (q0 t0 qk ci : Nat) {cA : ClassId} {r : vw_C} {n v : Nat} {vs : List Value} {f : Nat → Option Nat} (ha : ws[q0]? = some (a, .inl (cA, n, .inr (.inr (.inr (.inr f)))))) (ht : tys[t0]? = some (cA, .object r.1)) (hv : ws[qk]? = some (v, .inr (ci, vs))) (hc : cl[ci]? = some r) {i : Int32} (j : Nat) (hi : i = nI j) (hj : j < n) (hn : n < 2 ^ 31) {ws' : va_W} (hw : ws.set q0 (a, .inl (cA, n, .inr (.inr (.inr (.inr (va_up f j (some v))))))) = ws') (hdg : decode cc pc = .ok (.aastore, 1))
    (kk : aw p l e R s m args below meth c nL A cells slots Q (va_P D cl ws') lw (pc + 1) (rest)) : aw p l e R s m args below meth c nL A cells slots Q (va_P D cl ws) lw pc (.ref v :: .int i :: .ref a :: rest) := by
  subst hi
  intro ls H locs hl hP hS
  refine va_astq C.1.1 C.1.2.1 C.2.2 hP hD hS q0 t0 qk ci ha ht hv hc (vp_in_nI hj hn) hdg ?_
  rw [nI_clamp (by omega), hw]
  exact fun H1 locs1 hP1 _ hS1 => kk ls H1 locs1 hl hP1 hS1
theorem aw_alen (C : cx p s m args meth c cc nL Ts own D cl tys) (q0 t0 : Nat) {cA : ClassId} {x : vp_A} (ha : ws[q0]? = some (a, .inl (cA, x))) {ty : FieldType} (ht : tys[t0]? = some (cA, ty)) (hdg : decode cc pc = .ok (.arraylength, 1))
    (kk : aw p l e R s m args below meth c nL A cells slots Q (va_P D cl ws) lw (pc + 1) (.int (nI x.1) :: rest)) : aw p l e R s m args below meth c nL A cells slots Q (va_P D cl ws) lw pc (.ref a :: rest) :=
  fun ls H locs hl hP hS => va_alen C.1.1 C.1.2.1 C.2.2 hP q0 t0 ha ht rfl hdg (kk ls H locs hl hP hS)
theorem aw_gets (C : cx p s m args meth c cc nL Ts own D cl tys) {Cn n d ref : String} {v : Value} {index : Nat} (hZ : va_Z Cn n d v A s s.heap) (hlink : (Cond.fieldLink own index ref n d).before args s = true) (hsame : ∀ x, s.fieldFound? Cn n d = some x → s.fieldFound? ref n d = some x) (hdg : decode cc pc = .ok (.getstatic index, 3))
    (kk : aw p l e R s m args below meth c nL A cells slots Q (P) lw (pc + 3) (v :: rest)) : aw p l e R s m args below meth c nL A cells slots Q (P) lw pc (rest) :=
  fun ls H locs hl hP hS => va_gets C.1.1 C.1.2.1 hZ hS C.1.2.2.2.1 hlink hsame hdg (kk ls H locs hl hP hS)
theorem aw_getsN (C : cx p s m args meth c cc nL Ts own D cl tys) {Cn n d ref host : String} {v : Value} {index : Nat} (hZ : va_Z Cn n d v A s s.heap) (hlink : (Cond.fieldLinkNest own index ref n d host).before args s = true) (hsame : ∀ x, s.fieldFound? Cn n d = some x → s.fieldFound? ref n d = some x) (hdg : decode cc pc = .ok (.getstatic index, 3))
    (kk : aw p l e R s m args below meth c nL A cells slots Q (P) lw (pc + 3) (v :: rest)) : aw p l e R s m args below meth c nL A cells slots Q (P) lw pc (rest) :=
  fun ls H locs hl hP hS => va_getsN C.1.1 C.1.2.1 hZ hS C.1.2.2.2.1 hlink hsame hdg (kk ls H locs hl hP hS)
theorem aw_tl (C : cx p s m args meth c cc nL Ts own D cl tys) {t N : Nat} {f : Nat → Value} (hT : va_T .long t N f A s s.heap) {i : Int32} (j : Nat) (hi : i = nI j) (hj : j < N) (hn : N < 2 ^ 31) {v : Value} (hv : f j = v) (hdg : decode cc pc = .ok (.laload, 1))
    (kk : aw p l e R s m args below meth c nL A cells slots Q (P) lw (pc + 1) (v :: rest)) : aw p l e R s m args below meth c nL A cells slots Q (P) lw pc (.int i :: .ref t :: rest) := by
  subst hi
  intro ls H locs hl hP hS
  exact va_tl C.1.1 C.1.2.1 hT hS (vp_in_nI hj hn) (by rw [nI_clamp (by omega)]; exact hv) hdg (kk ls H locs hl hP hS)
theorem aw_ldc (C : cx p s m args meth c cc nL Ts own D cl tys) {index : Nat} {v : Int32} (hconst : (Jvm.Cond.constant own index v).before args s = true) (hdg : decode cc pc = .ok (.ldc index, 2)) (k : aw p l e R s m args below meth c nL A cells slots Q (P) lw (pc + 2) (.int v :: rest)) : aw p l e R s m args below meth c nL A cells slots Q (P) lw pc (rest) :=
  fun ls H locs hl hP hS => lv_ldc C.1.1 C.1.2.1 C.1.2.2.2.1 hconst hdg (k ls H locs hl hP hS)
theorem aw_ldc2 (C : cx p s m args meth c cc nL Ts own D cl tys) {index : Nat} {v : Int64} (hconst : (Jvm.Cond.constantLong own index v).before args s = true) (hdg : decode cc pc = .ok (.ldc2_w index, 3)) (k : aw p l e R s m args below meth c nL A cells slots Q (P) lw (pc + 3) (.long v :: rest)) : aw p l e R s m args below meth c nL A cells slots Q (P) lw pc (rest) :=
  fun ls H locs hl hP hS => lv_ldc2 C.1.1 C.1.2.1 C.1.2.2.2.1 hconst hdg (k ls H locs hl hP hS)
theorem aw_ldcw (C : cx p s m args meth c cc nL Ts own D cl tys) {index : Nat} {v : Int32} (hconst : (Jvm.Cond.constant own index v).before args s = true) (hdg : decode cc pc = .ok (.ldc_w index, 3)) (k : aw p l e R s m args below meth c nL A cells slots Q (P) lw (pc + 3) (.int v :: rest)) : aw p l e R s m args below meth c nL A cells slots Q (P) lw pc (rest) :=
  fun ls H locs hl hP hS => lv_ldcw C.1.1 C.1.2.1 C.1.2.2.2.1 hconst hdg (k ls H locs hl hP hS)
end AH
