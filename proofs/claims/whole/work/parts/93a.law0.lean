/-! Rules for the law: a world that is only known to be there, a stub that is called, the script. -/
theorem gi_t {c0 : Cond} : GoodIn (c0 :: tw_) tw_ := fun w hw => ⟨List.mem_cons_of_mem _ hw, good_of_word (tw_good _ hw)⟩
section LW
variable {p : Program} {l : Launch} {e : Env} {R : Room} {s : State} {m : MethodId} {args : Array Value} {below : List Frame} {meth : Method} {c : Code}
variable {cc : ByteArray} {nL : Nat} {c0 : Cond} {own : String} {D : va_G} {tys : List (ClassId × FieldType)} {A A1 : Nat → Prop} {cells slots : Nat} {Q : State → Prop} {P P' Pc P1 : Heap → Prop} {lw : List (Option Value)} {pc : Nat} {st rest : List Value} {X1 : State → Prop}
variable {y : MethodName} {bytes : ByteArray} {maxL index n : Nat} {ret : Option FieldType} {rm : Room} {As : List Value} {b : Nat} {ws : va_W}
theorem aw_exs {σ : Type} {F : σ → Heap → Prop} (k : ∀ x, aw p l e R s m args below meth c nL A cells slots Q (F x) lw pc st) : aw p l e R s m args below meth c nL A cells slots Q (fun H => ∃ x, F x H) lw pc st := fun ls H locs hl hP hS => hP.elim (fun x hx => k x ls H locs hl hx hS)
theorem aw_fact {φ : Prop} (k : φ → aw p l e R s m args below meth c nL A cells slots Q P lw pc st) : aw p l e R s m args below meth c nL A cells slots Q (fun H => φ ∧ P H) lw pc st := fun ls H locs hl hP hS => k hP.1 ls H locs hl hP.2 hS
/-- a stub is called -/
theorem kq_Si {hh : List (Nat × Nat × Nat × Nat)} (C : cx p s m args meth c cc nL (c0 :: tw_) own D cl_ tys) (hX : ∀ U : State, s.WarmedH U.vm → s.heap.size ≤ U.heap.size → (∀ q : Nat, q < s.heap.size → ¬ A q → U.heap[q]? = s.heap[q]?) → X1 U) (hbl : FrameBlind (sp_ As Pc D cl_ tys X1)) {r : Int32}
    (hM : kh_ l y (Cond.codeWith y bytes maxL ret hh :: tw_) rm D tys X1 A1 As Pc P1 r) (hcode : Cond.codeWith y bytes maxL ret hh ∈ tw_) (hlink : Cond.methodLink own index y ∈ tw_) (hstat : Cond.static y ∈ tw_) (hini : Cond.initialized y.cls ∈ tw_) (hd : kd_ y n) (hR : rm.cells = 1 ∧ rm.slots = 6 ∧ rm.frames + 1 ≤ R.frames ∧ 8 + (maxL + 11) + rm.locals ≤ R.locals)
    (hn : As.length = n) (hst : st = As.reverse ++ rest) (hroom : (rest.map fun v => v.category).sum ≤ 8) (hcs : cells + 1 ≤ R.cells ∧ slots + 6 ≤ R.slots) (hdg : decode cc pc = .ok (.invokestatic index, 3))
    (hA : ∀ q, A1 q → A q) (hpre : ∀ H, P H → Pc H) (hpost : ∀ H H1, P H → (∀ q : Nat, q < H.size → ¬ A1 q → H1[q]? = H[q]?) → P1 H1 → P' H1)
    (kk : aw p l e R s m args below meth c nL A (cells + 1) (slots + 6) Q P' lw (pc + 3) (.int r :: rest)) : aw p l e R s m args below meth c nL A cells slots Q P lw pc st := by
  intro ls H locs hl hP hS
  refine vx_calli (vx_runSX (hh := hh) C.1 hM (vx_cwSW n C.1.2.2.2.2 (gi_c hlink (gi_c hstat (gi_c hini (gi_c hcode gi_t)))) rfl hR.1 hR.2.1 hd ⟨hR.2.2.1, hR.2.2.2⟩) ⟨hbl, fun U hU hW => ⟨rfl, by rw [hU]; exact hpre H hP, va_K.moved hW.alike C.2.2, hX U hW (by rw [hU]; exact hS.1) (by rw [hU]; exact hS.2.1)⟩⟩ rfl hn hl.1 hst (lv_room hroom) hdg hcs) hS (fun q _ h => hA q h) hA (fun q _ h => hA q h) ?_ ?_
  · intro E ce q9 u t H1 locs1 _ _ hf
    exact hf.elim
  · intro r' u t H1 locs1 ht _ hr' hB _ hk hS1
    rw [hr']
    exact kk ls H1 locs1 hl (hpost H H1 hP hk (by rw [← ht]; exact hB)) hS1
/-- the script -/
theorem aw_sld (C : cx p s m args meth c cc nL (c0 :: tw_) own D cl_ tys) {sc L : Nat} {xs : Nat → Int32} (hX : va_X sc L xs s s.heap) (hbl : sc < s.heap.size) (hbA : ¬ A sc) {i : Int32} (j : Nat) (hi : i = nI j) (hj : j < L) (hL : L < 2 ^ 31) (hdg : decode cc pc = .ok (.iaload, 1))
    (kk : aw p l e R s m args below meth c nL A cells slots Q P lw (pc + 1) (.int (xs j) :: rest)) : aw p l e R s m args below meth c nL A cells slots Q P lw pc (.int i :: .ref sc :: rest) := by
  subst hi
  intro ls H locs hl hP hS
  refine va_sld C.1.1 C.1.2.1 hX hbl hbA hS (vp_in_nI hj hL) hdg ?_
  rw [nI_clamp (by omega)]
  exact kk ls H locs hl hP hS
theorem aw_slen (C : cx p s m args meth c cc nL (c0 :: tw_) own D cl_ tys) {sc L : Nat} {xs : Nat → Int32} (hX : va_X sc L xs s s.heap) (hbl : sc < s.heap.size) (hbA : ¬ A sc) (hdg : decode cc pc = .ok (.arraylength, 1))
    (kk : aw p l e R s m args below meth c nL A cells slots Q P lw (pc + 1) (.int (nI L) :: rest)) : aw p l e R s m args below meth c nL A cells slots Q P lw pc (.ref sc :: rest) := by
  intro ls H locs hl hP hS
  exact va_slen C.1.1 C.1.2.1 hX hbl hbA hS hdg (kk ls H locs hl hP hS)
end LW
/-- the law's world: the class's, the cell for answers, the reference's -/
abbrev wx_ : Type := cs_ × (Nat → Int64) × Int32 × rs_
abbrev ww_ (h a o : Nat) (cI cL cF : ClassId) (x : wx_) : va_W :=
  (sy_ h cI cL cF x.1.1 x.1.2.1 x.1.2.2.1 x.1.2.2.2.1 x.1.2.2.2.2 ++ [(o, .inl (cL, 1, .inr (.inl x.2.1)))]) ++ rf_ a cI cL x.2.2.1 x.2.2.2.1 x.2.2.2.2.1 x.2.2.2.2.2.1 x.2.2.2.2.2.2.1 x.2.2.2.2.2.2.2.1 x.2.2.2.2.2.2.2.2.1 x.2.2.2.2.2.2.2.2.2.1 x.2.2.2.2.2.2.2.2.2.2
section WW
variable {D : va_G} {h a o : Nat} {cI cL cF : ClassId} {x y : wx_} {H H1 : Heap}
theorem ww_o : (ww_ h a o cI cL cF x)[42]? = some (o, .inl (cL, 1, .inr (.inl x.2.1))) := by
  rw [List.getElem?_append_left (by rw [List.length_append, sy_len]; exact Nat.lt_succ_self 42)]
  exact ow_at
theorem ww_c (h9 : va_P D cl_ (ww_ h a o cI cL cF x) H) : wc_ D h cI cL cF x.1 o x.2.1 H := pa_l h9
theorem ww_m (h9 : va_P D cl_ (ww_ h a o cI cL cF x) H) : wm_ D a cI cL x.2.2.1 x.2.2.2 H := pa_r h9
/-- where the places lie -/
def wp_ (h a o : Nat) : Prop := a = h + 42 ∧ o = h + 51
theorem ww_cpost (hp : wp_ h a o) {c : cs_} {O : Nat → Int64} (h9 : va_P D cl_ (ww_ h a o cI cL cF x) H) (hk : ∀ q : Nat, q < H.size → ¬ sA_ h o q → H1[q]? = H[q]?) (h1 : wc_ D h cI cL cF c o O H1) : va_P D cl_ (ww_ h a o cI cL cF (c, O, x.2.2)) H1 := by
  obtain ⟨rfl, rfl⟩ := hp
  refine pa_j h1 (va_P.kept (pa_r h9) (fun k q hq => ?_))
  have hlt := (pa_r h9 k q hq).lt
  refine hk q.1 hlt (fun hA => ?_)
  have h3 : h + 42 ≤ q.1 ∧ q.1 < h + 42 + 9 := rf_D.2 k q hq
  rcases hA with h4 | h4
  · have h5 : h ≤ q.1 ∧ q.1 < h + 42 := h4
    omega
  · omega
theorem ww_mpost (hp : wp_ h a o) {t : Int32} {m : rs_} (h9 : va_P D cl_ (ww_ h a o cI cL cF x) H) (hk : ∀ q : Nat, q < H.size → ¬ cm_ a q → H1[q]? = H[q]?) (h1 : wm_ D a cI cL t m H1) : va_P D cl_ (ww_ h a o cI cL cF (x.1, x.2.1, t, m)) H1 := by
  obtain ⟨rfl, rfl⟩ := hp
  refine pa_j (va_P.kept (pa_l h9) (fun k q hq => ?_)) h1
  have hlt := (pa_l h9 k q hq).lt
  refine hk q.1 hlt (fun hA => ?_)
  have hA2 : h + 42 ≤ q.1 ∧ q.1 < h + 42 + 9 := hA
  by_cases hk9 : k < 42
  · rw [List.getElem?_append_left (by rw [sy_len]; exact hk9), sy_at hk9] at hq
    cases hq
    have h3 : h + 42 ≤ h + k := hA2.1
    omega
  · rw [List.getElem?_append_right (by rw [sy_len]; omega), sy_len] at hq
    have h3 : k - 42 < 1 := (List.getElem?_eq_some_iff.mp hq).1
    rw [show k - 42 = 0 by omega] at hq
    cases hq
    have h4 : h + 51 < h + 42 + 9 := hA2.2
    omega
end WW
