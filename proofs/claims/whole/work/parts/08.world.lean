/-! The class's world: 42 cells from h on. Family objects at 3 (helper), 5 (quotient), 20, 22 .. 40; each one's words behind it; 7 shifted, 8 lowsBySize, 10 ends, 12 byElement, 13 highSums, 14 lowSums, 16 kinds, 17 newest, 18 older, 19 lacking. -/
def fo_ (k : Nat) : Bool := k == 3 || k == 5 || (decide (20 ≤ k) && decide (k ≤ 40) && k % 2 == 0)
def sc_ (h : Nat) (cI cL cF : ClassId) (I : Nat → Nat → Int32) (J : Nat → Nat → Int64) (sh : Nat → Nat) (fr : Nat) (en : Int32) (k : Nat) : va_E :=
  if fo_ k then .inr (2, [.ref (h + (k + 1))])
  else if fo_ (k - 1) || k == 7 then .inl (cL, 64, .inr (.inl (J k)))
  else match k with
    | 0 => .inr (5, [.ref (h + 1), .ref (h + 2), .ref (h + 9), .ref (h + 11), .ref (h + 15), .ref (h + fr)])
    | 1 => .inl (cF, 10, .inr (.inr (.inr (.inr (fun i => some (h + sh i))))))
    | 2 => .inr (0, [.ref (h + 3), .ref (h + 5), .ref (h + 7), .ref (h + 8)])
    | 8 => .inl (cL, 7, .inr (.inl (J k)))
    | 9 => .inr (3, [.ref (h + 10)])
    | 10 => .inl (cI, 12, .inl (I k))
    | 11 => .inr (4, [.ref (h + 12), .ref (h + 13), .ref (h + 14)])
    | 12 => .inl (cI, 12, .inl (I k))
    | 13 => .inl (cI, 64, .inl (I k))
    | 14 => .inl (cI, 64, .inl (I k))
    | 15 => .inr (1, [.ref (h + 16), .ref (h + 17), .ref (h + 18), .ref (h + 19), .int en])
    | 16 => .inl (cI, 4096, .inl (I k))
    | _ => .inl (cI, 767, .inl (I k))
def sy_ (h : Nat) (cI cL cF : ClassId) (I : Nat → Nat → Int32) (J : Nat → Nat → Int64) (sh : Nat → Nat) (fr : Nat) (en : Int32) : va_W := (List.range 42).map (fun k => (h + k, sc_ h cI cL cF I J sh fr en k))
/-- the cells that the class may write -/
def ca_ (h : Nat) : Nat → Prop := fun q => h ≤ q ∧ q < h + 42
abbrev ty_s (cI cL cF : ClassId) : List (ClassId × FieldType) := [(cI, .int), (cL, .long), (cF, .object "FamilyShelf$Family")]
section SY
variable {h : Nat} {cI cL cF : ClassId} {I : Nat → Nat → Int32} {J : Nat → Nat → Int64} {sh : Nat → Nat} {fr : Nat} {en : Int32}
theorem sy_at {k : Nat} (hk : k < 42) : (sy_ h cI cL cF I J sh fr en)[k]? = some (h + k, sc_ h cI cL cF I J sh fr en k) := by
  unfold sy_
  rw [List.getElem?_map, List.getElem?_range hk]
  rfl
theorem sy_len : (sy_ h cI cL cF I J sh fr en).length = 42 := by
  unfold sy_
  rw [List.length_map, List.length_range]
theorem sy_set {k : Nat} (hk : k < 42) {e : va_E} {I' : Nat → Nat → Int32} {J' : Nat → Nat → Int64} {sh' : Nat → Nat} {fr' : Nat} {en' : Int32}
    (h1 : sc_ h cI cL cF I' J' sh' fr' en' k = e) (h2 : ∀ j, j < 42 → j ≠ k → sc_ h cI cL cF I' J' sh' fr' en' j = sc_ h cI cL cF I J sh fr en j) :
    (sy_ h cI cL cF I J sh fr en).set k (h + k, e) = sy_ h cI cL cF I' J' sh' fr' en' := by
  apply List.ext_getElem?
  intro j
  rw [List.getElem?_set, sy_len]
  by_cases hj : j < 42
  · rw [sy_at hj, sy_at hj]
    by_cases hkj : k = j
    · subst hkj
      rw [if_pos rfl, if_pos hk, h1]
    · rw [if_neg hkj, h2 j hj (fun h9 => hkj h9.symm)]
  · rw [if_neg (by omega)]
    rw [List.getElem?_eq_none (by rw [sy_len]; omega), List.getElem?_eq_none (by rw [sy_len]; omega)]
theorem sy_D : va_D (ca_ h) (sy_ h cI cL cF I J sh fr en) := by
  refine ⟨fun i j p q hp hq he => ?_, fun k q hq => ?_⟩
  · have hi : i < 42 := by
      have := (List.getElem?_eq_some_iff.mp hp).1
      rw [sy_len] at this
      exact this
    have hj : j < 42 := by
      have := (List.getElem?_eq_some_iff.mp hq).1
      rw [sy_len] at this
      exact this
    rw [sy_at hi] at hp
    rw [sy_at hj] at hq
    cases hp
    cases hq
    simp only at he
    omega
  · have hk : k < 42 := by
      have := (List.getElem?_eq_some_iff.mp hq).1
      rw [sy_len] at this
      exact this
    rw [sy_at hk] at hq
    cases hq
    exact ⟨by simp only; omega, by simp only; omega⟩
theorem fo_lt {o : Nat} (ho : fo_ o = true) : o + 1 < 42 := by
  unfold fo_ at ho
  simp only [Bool.or_eq_true, Bool.and_eq_true, beq_iff_eq, decide_eq_true_eq] at ho
  omega
theorem fo_next {o : Nat} (ho : fo_ o = true) : fo_ (o + 1) = false := by
  unfold fo_ at *
  simp only [Bool.or_eq_true, Bool.and_eq_true, beq_iff_eq, decide_eq_true_eq] at ho
  simp only [Bool.or_eq_false_iff, Bool.and_eq_false_iff, beq_eq_false_iff_ne, decide_eq_false_iff_not, ne_eq]
  omega
/-- a family and its words -/
theorem sy_fam {o : Nat} (ho : fo_ o = true) : (sy_ h cI cL cF I J sh fr en)[o]? = some (h + o, .inr (2, [.ref (h + (o + 1))])) := by
  rw [sy_at (by have := fo_lt ho; omega)]
  unfold sc_
  rw [if_pos ho]
theorem sy_words {o : Nat} (ho : fo_ o = true) : (sy_ h cI cL cF I J sh fr en)[o + 1]? = some (h + (o + 1), .inl (cL, 64, .inr (.inl (J (o + 1))))) := by
  rw [sy_at (fo_lt ho)]
  unfold sc_
  rw [if_neg (by rw [fo_next ho]; decide), if_pos (by rw [Nat.add_sub_cancel, ho]; rfl)]
theorem sc_J {J' : Nat → Nat → Int64} {j : Nat} (hj : J' j = J j) : sc_ h cI cL cF I J' sh fr en j = sc_ h cI cL cF I J sh fr en j := by
  unfold sc_
  rw [hj]
theorem sc_I {I' : Nat → Nat → Int32} {j : Nat} (hj : I' j = I j) : sc_ h cI cL cF I' J sh fr en j = sc_ h cI cL cF I J sh fr en j := by
  unfold sc_
  rw [hj]
theorem sy_setW {o : Nat} (ho : fo_ o = true) (f : Nat → Int64) : (sy_ h cI cL cF I J sh fr en).set (o + 1) (h + (o + 1), .inl (cL, 64, .inr (.inl f))) = sy_ h cI cL cF I (va_up J (o + 1) f) sh fr en := by
  refine sy_set (fo_lt ho) ?_ (fun j _ hj => sc_J (va_up_ne _ _ hj))
  unfold sc_
  rw [if_neg (by rw [fo_next ho]; decide), if_pos (by rw [Nat.add_sub_cancel, ho]; rfl), va_up_self]
theorem sy_setJ {k : Nat} (hk : k < 42) {n : Nat} (f : Nat → Int64) (hs : ∀ J : Nat → Nat → Int64, sc_ h cI cL cF I J sh fr en k = .inl (cL, n, .inr (.inl (J k)))) : (sy_ h cI cL cF I J sh fr en).set k (h + k, .inl (cL, n, .inr (.inl f))) = sy_ h cI cL cF I (va_up J k f) sh fr en := by
  refine sy_set hk ?_ (fun j _ hj => sc_J (va_up_ne _ _ hj))
  rw [hs, va_up_self]
theorem sy_setI {k : Nat} (hk : k < 42) {n : Nat} (f : Nat → Int32) (hs : ∀ I : Nat → Nat → Int32, sc_ h cI cL cF I J sh fr en k = .inl (cI, n, .inl (I k))) : (sy_ h cI cL cF I J sh fr en).set k (h + k, .inl (cI, n, .inl f)) = sy_ h cI cL cF (va_up I k f) J sh fr en := by
  refine sy_set hk ?_ (fun j _ hj => sc_I (va_up_ne _ _ hj))
  rw [hs, va_up_self]
end SY
/-- what the methods take from outside: the words of nest mates, the static row of masks -/
def nw_ : List Cond := [.methodLinkNest "FamilyShelf$Algebra" 11 my_F_init "FamilyShelf", .methodLinkNest "FamilyShelf" 24 my_G_init "FamilyShelf", .methodLinkNest "FamilyShelf" 31 my_W_init "FamilyShelf", .methodLinkNest "FamilyShelf" 38 my_D_init "FamilyShelf", .methodLinkNest "FamilyShelf" 43 my_F_init "FamilyShelf", .fieldLinkNest "FamilyShelf$Algebra" 91 "FamilyShelf" "HAVING" "[J" "FamilyShelf", .fieldLinkNest "FamilyShelf$Family" 50 "FamilyShelf" "HAVING" "[J" "FamilyShelf", .methodLinkNest "FamilyShelf$Graph" 29 my_S_bitOf "FamilyShelf", .methodLinkNest "FamilyShelf$Weights" 31 my_S_bitOf "FamilyShelf"]
/-- the masks -/
def hm_ : Nat → Int64 := fun k => match k with
  | 0 => -6148914691236517206
  | 1 => -3689348814741910324
  | 2 => -1085102592571150096
  | 3 => -71777214294589696
  | 4 => -281470681808896
  | _ => -4294967296
def xw_ (h th : Nat) (U : State) : Prop := (∀ w ∈ nw_, va_Nw w U) ∧ va_Z "FamilyShelf" "HAVING" "[J" (.ref th) (fun q => h ≤ q) U U.heap ∧ va_T .long th 6 (fun j => .long (hm_ j)) (fun q => h ≤ q) U U.heap
theorem nw_warm {w : Cond} (hw : w ∈ nw_) {s U : State} (hW : s.WarmedH U.vm) (h : va_Nw w s) : va_Nw w U := by
  unfold nw_ at hw
  simp only [List.mem_cons, List.not_mem_nil, or_false] at hw
  rcases hw with rfl | rfl | rfl | rfl | rfl | rfl | rfl | rfl | rfl
  · exact va_Nw.warmM hW h
  · exact va_Nw.warmM hW h
  · exact va_Nw.warmM hW h
  · exact va_Nw.warmM hW h
  · exact va_Nw.warmM hW h
  · exact va_Nw.warmF hW h
  · exact va_Nw.warmF hW h
  · exact va_Nw.warmM hW h
  · exact va_Nw.warmM hW h
theorem xw_k {h th : Nat} {A : Nat → Prop} (hA : ∀ q, A q → h ≤ q) : xk A (xw_ h th) := by
  intro u U hW hz hk hX
  refine ⟨fun w hw => nw_warm hw hW (hX.1 w hw), ?_, ?_⟩
  · exact va_Z.kept (va_Z.moved hW.alike hX.2.1) (fun a ha hna => hk a ha (fun h9 => hna (hA a h9)))
  · exact va_T.kept (va_T.moved hW.alike hX.2.2) (fun a ha hna => hk a ha (fun h9 => hna (hA a h9)))
theorem ca_le {h : Nat} : ∀ q, ca_ h q → h ≤ q := fun _ h => h.1
/-- words of a method that stands over all the tables' good words -/
theorem gi_ {c0 : Cond} {y : MethodName} {b : ByteArray} {n : Nat} {r : Option FieldType} (h : Cond.code y b n r ∈ tw_) : GoodIn (c0 :: tw_) (Cond.code y b n r :: tw_) := by
  intro w hw
  rcases List.mem_cons.mp hw with rfl | hw
  · exact ⟨List.mem_cons_of_mem _ h, good_of_word (tw_good _ h)⟩
  · exact ⟨List.mem_cons_of_mem _ hw, good_of_word (tw_good _ hw)⟩
theorem gi_c {c0 w : Cond} {ws : List Cond} (h : w ∈ tw_) (k : GoodIn (c0 :: tw_) ws) : GoodIn (c0 :: tw_) (w :: ws) := by
  intro w' hw
  rcases List.mem_cons.mp hw with rfl | hw
  · exact ⟨List.mem_cons_of_mem _ h, good_of_word (tw_good _ h)⟩
  · exact k w' hw
theorem tw_sel {q : MethodName × Nat} (h : q ∈ lw_privs) : Cond.selects q.1.cls q.1 q.1 ∈ tw_ := List.mem_filter.mpr ⟨List.mem_append_left _ (List.mem_map.mpr ⟨q, h, rfl⟩), rfl⟩
