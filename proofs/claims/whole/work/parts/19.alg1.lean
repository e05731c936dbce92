/-! What Algebra does to the words of the families. -/
abbrev fillJ_ (J : Nat → Nat → Int64) (o : Nat) (x : Int64) : Nat → Nat → Int64 := va_up J (o + 1) (fl_ (J (o + 1)) 64 x)
abbrev copyJ_ (J : Nat → Nat → Int64) (o o2 : Nat) : Nat → Nat → Int64 := va_up J (o + 1) (va_cpy (J (o2 + 1)) (J (o + 1)) 0 0 64)
abbrev closeJ_ (J : Nat → Nat → Int64) (o : Nat) (dn : Bool) : Nat → Nat → Int64 := va_up J (o + 1) (co_ (J (o + 1)) dn 12)
abbrev setJ_ (J : Nat → Nat → Int64) (o : Nat) (G : Nat → Int64) : Nat → Nat → Int64 := va_up J (o + 1) (wl_ (J (o + 1)) G 64)
abbrev uniJ_ (J : Nat → Nat → Int64) (o a b : Nat) : Nat → Nat → Int64 := setJ_ J o (fun w => J (a + 1) w ||| J (b + 1) w)
abbrev intJ_ (J : Nat → Nat → Int64) (o a b : Nat) : Nat → Nat → Int64 := setJ_ J o (fun w => J (a + 1) w &&& J (b + 1) w)
abbrev subJ_ (J : Nat → Nat → Int64) (o a b : Nat) : Nat → Nat → Int64 := setJ_ J o (fun w => J (a + 1) w &&& (J (b + 1) w ^^^ (-1)))
abbrev divJ_ (J : Nat → Nat → Int64) (o a b : Nat) : Nat → Nat → Int64 := va_up J (o + 1) (dv_ (J (o + 1)) (J (a + 1)) (J (b + 1)) 4096)
def pj_ (J : Nat → Nat → Int64) (o : Nat) (F G : Nat → Int64) (jn : Bool) (n : Nat) : Nat → Nat → Int64 := va_up (va_up J (o + 1) (pr_ (fl_ (J (o + 1)) 64 0) (J 7) F G jn n).1) 7 (pr_ (fl_ (J (o + 1)) 64 0) (J 7) F G jn n).2
def many_ (A B : Nat → Int64) : Nat → Int64 := if tw64_ A 64 < tw64_ B 64 then B else A
def few_ (A B : Nat → Int64) : Nat → Int64 := if tw64_ A 64 < tw64_ B 64 then A else B
abbrev pairJ_ (J : Nat → Nat → Int64) (o a b : Nat) (jn : Bool) : Nat → Nat → Int64 := pj_ J o (many_ (J (a + 1)) (J (b + 1))) (few_ (J (a + 1)) (J (b + 1))) jn 64
theorem pj_0 {J : Nat → Nat → Int64} {o : Nat} {F G : Nat → Int64} {jn : Bool} (h7 : 7 ≠ o + 1) : pj_ J o F G jn 0 = fillJ_ J o 0 := by
  unfold pj_ pr_
  funext j
  by_cases h : j = 7
  · rw [h, va_up_self]
    exact (va_up_ne _ _ h7).symm
  · rw [va_up_ne _ _ h]
theorem pj_at {J : Nat → Nat → Int64} {o : Nat} {F G : Nat → Int64} {jn : Bool} {n k : Nat} (h7 : k ≠ 7) (ho : k ≠ o + 1) : pj_ J o F G jn n k = J k := by
  unfold pj_
  rw [va_up_ne _ _ h7, va_up_ne _ _ ho]
theorem pj_keep {J : Nat → Nat → Int64} {o : Nat} {F G : Nat → Int64} {jn : Bool} {n : Nat} (hb : lb_ (orr_ G 64) n = false) : pj_ J o F G jn (n + 1) = pj_ J o F G jn n := by
  unfold pj_
  rw [show pr_ (fl_ (J (o + 1)) 64 0) (J 7) F G jn (n + 1) = pr_ (fl_ (J (o + 1)) 64 0) (J 7) F G jn n by rw [pr_, hb]; rfl]
theorem pj_step {J : Nat → Nat → Int64} {o m f : Nat} {jn : Bool} {n : Nat} (h7 : 7 ≠ o + 1) (hm7 : m + 1 ≠ 7) (hf7 : f + 1 ≠ 7) (hm : m ≠ o) (hf : f ≠ o) (hb : lb_ (orr_ (J (f + 1)) 64) n = true)
    {J1 J2 : Nat → Nat → Int64} (e1 : J1 = pj_ J o (J (m + 1)) (J (f + 1)) jn n) (e2 : J2 = va_up J1 7 (wl_ (J1 7) (sw_ (J1 (m + 1)) n jn) 64)) :
    va_up J2 (o + 1) (ph_ (J2 (o + 1)) (J2 7) (J2 (f + 1)) n jn 64) = pj_ J o (J (m + 1)) (J (f + 1)) jn (n + 1) := by
  have a1 : J1 (m + 1) = J (m + 1) := by rw [e1]; exact pj_at hm7 (by omega)
  have a2 : J2 (f + 1) = J (f + 1) := by rw [e2, va_up_ne _ _ hf7, e1]; exact pj_at hf7 (by omega)
  have a3 : J1 7 = (pr_ (fl_ (J (o + 1)) 64 0) (J 7) (J (m + 1)) (J (f + 1)) jn n).2 := by rw [e1]; unfold pj_; rw [va_up_self]
  have a4 : J2 7 = wl_ (J1 7) (sw_ (J1 (m + 1)) n jn) 64 := by rw [e2, va_up_self]
  have a5 : J2 (o + 1) = (pr_ (fl_ (J (o + 1)) 64 0) (J 7) (J (m + 1)) (J (f + 1)) jn n).1 := by
    rw [e2, va_up_ne _ _ (fun h => h7 h.symm), e1]
    unfold pj_
    rw [va_up_ne _ _ (fun h => h7 h.symm), va_up_self]
  rw [a5, a4, a2, a3, a1]
  have hs : pr_ (fl_ (J (o + 1)) 64 0) (J 7) (J (m + 1)) (J (f + 1)) jn (n + 1) = (ph_ (pr_ (fl_ (J (o + 1)) 64 0) (J 7) (J (m + 1)) (J (f + 1)) jn n).1 (wl_ (pr_ (fl_ (J (o + 1)) 64 0) (J 7) (J (m + 1)) (J (f + 1)) jn n).2 (sw_ (J (m + 1)) n jn) 64) (J (f + 1)) n jn 64, wl_ (pr_ (fl_ (J (o + 1)) 64 0) (J 7) (J (m + 1)) (J (f + 1)) jn n).2 (sw_ (J (m + 1)) n jn) 64) := by
    rw [pr_, hb]
    rfl
  rw [e2, a1, a3, e1]
  unfold pj_
  rw [hs, bx_uu, va_comm _ (fun h => h7 h), bx_uu]
section SW
variable {p : Program} {l : Launch} {e : Env} {R : Room} {s : State} {m : MethodId} {args : Array Value} {below : List Frame} {meth : Method} {c : Code} {cc : ByteArray} {nL : Nat} {Ts : List Cond} {own : String} {D : va_G} {cl : List vw_C} {tys : List (ClassId × FieldType)} {A : Nat → Prop} {cells slots : Nat} {Q : State → Prop} {P : Heap → Prop} {lw : List (Option Value)} {pc : Nat} {rest : List Value}
theorem aw_lookup (C : cx p s m args meth c cc nL Ts own D cl tys) {dflt : Int} {ps : Array (Int × Int)} {len : Nat} {x : Int32} {off : Int} {tgt : Nat} (hdg : decode cc pc = .ok (.lookupswitch dflt ps, len)) (hp : (ps.toList.zip (ps.toList.drop 1)).all (fun (a, next) => a.1 < next.1) = true) (ho : Op.lookupswitch.offset ps.toList dflt x.toInt = off) (ht : (pc : Int) + off = (tgt : Int))
    (k : aw p l e R s m args below meth c nL A cells slots Q P lw tgt rest) : aw p l e R s m args below meth c nL A cells slots Q P lw pc (.int x :: rest) :=
  fun ls H locs hl hP hS => lv_lookup C.1.1 C.1.2.1 hdg hp ho ht (k ls H locs hl hP hS)
theorem aw_tableOut (C : cx p s m args meth c cc nL Ts own D cl tys) {dflt lo hi : Int} {offs : Array Int} {len : Nat} {x : Int32} {tgt : Nat} (hdg : decode cc pc = .ok (.tableswitch dflt lo hi offs, len)) (h : x.toInt < lo ∨ hi < x.toInt) (ht : (pc : Int) + dflt = (tgt : Int))
    (k : aw p l e R s m args below meth c nL A cells slots Q P lw tgt rest) : aw p l e R s m args below meth c nL A cells slots Q P lw pc (.int x :: rest) :=
  fun ls H locs hl hP hS => lv_tableOut C.1.1 C.1.2.1 hdg h ht (k ls H locs hl hP hS)
theorem aw_tableIn (C : cx p s m args meth c cc nL Ts own D cl tys) {dflt lo hi : Int} {offs : Array Int} {len : Nat} {x : Int32} {off : Int} {tgt : Nat} (hdg : decode cc pc = .ok (.tableswitch dflt lo hi offs, len)) (h1 : ¬ x.toInt < lo) (h2 : ¬ hi < x.toInt) (ho : offs[(x.toInt - lo).toNat]? = some off) (ht : (pc : Int) + off = (tgt : Int))
    (k : aw p l e R s m args below meth c nL A cells slots Q P lw tgt rest) : aw p l e R s m args below meth c nL A cells slots Q P lw pc (.int x :: rest) :=
  fun ls H locs hl hP hS => lv_tableIn C.1.1 C.1.2.1 hdg h1 h2 ho ht (k ls H locs hl hP hS)
end SW
