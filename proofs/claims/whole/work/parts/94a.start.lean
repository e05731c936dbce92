/-! What holds where the law begins. -/
theorem te_i {args : Array Value} {s : State} {t : Term} {z : Int32} (h : (Cond.eq t (.int z)).before args s = true) : t.eval args s none [] s = some (.int z) := by
  cases hv : t.eval args s none [] s with
  | none => simp [Cond.before, Cond.holds, Cond.value, hv] at h
  | some w =>
    have hz : (Term.int z).eval args s none [] s = some (.int z) := rfl
    simp only [Cond.before, Cond.holds, Cond.value, hv, hz] at h
    cases w <;> simp_all
theorem te_l {args : Array Value} {s : State} {t : Term} {z : Int64} (h : (Cond.eq t (.long z)).before args s = true) : t.eval args s none [] s = some (.long z) := by
  cases hv : t.eval args s none [] s with
  | none => simp [Cond.before, Cond.holds, Cond.value, hv] at h
  | some w =>
    have hz : (Term.long z).eval args s none [] s = some (.long z) := rfl
    simp only [Cond.before, Cond.holds, Cond.value, hv, hz] at h
    cases w <;> simp_all
theorem tw_in {s : State} {args : Array Value} (hts : ∀ w ∈ lw_tbl, w.before args s = true) : ∀ w ∈ tw_, w.before args s = true := fun w h => hts w (List.mem_filter.mp h).1
set_option maxHeartbeats 4000000 in
set_option maxRecDepth 100000 in
theorem st_K {s : State} {args : Array Value} (hts : ∀ w ∈ lw_tbl, w.before args s = true) : ∃ (D : va_G) (cI cL cF : ClassId), va_K D cl_ (ty_s cI cL cF) s := by
  have ht := tw_in hts
  obtain ⟨c0, i0, k0⟩ := u_known ht ly_A (ht _ kw_30)
  obtain ⟨c1, i1, k1⟩ := u_known ht ly_D (ht _ kw_94)
  obtain ⟨c2, i2, k2⟩ := u_known ht ly_F (ht _ kw_36)
  obtain ⟨c3, i3, k3⟩ := u_known ht ly_G (ht _ kw_67)
  obtain ⟨c4, i4, k4⟩ := u_known ht ly_W (ht _ kw_78)
  obtain ⟨c5, i5, k5⟩ := u_known ht ly_S (ht _ kw_20)
  obtain ⟨c6, i6, k6⟩ := u_known ht ly_M (ht _ kw_631)
  obtain ⟨cI, kI, pI, a1, a2, a3⟩ := Cond.arrayClass_spec (ht _ kw_76)
  obtain ⟨cL, kL, pL, b1, b2, b3⟩ := Cond.arrayClass_spec (ht _ kw_46)
  obtain ⟨pF, cF, kF, d1, d2, d3, d4, d5⟩ := Cond.arrayOver_spec (hts _ kn_28)
  refine ⟨(fun k => match k with | 0 => c0 | 1 => c1 | 2 => c2 | 3 => c3 | 4 => c4 | 5 => c5 | _ => c6, fun k => match k with | 0 => i0 | 1 => i1 | 2 => i2 | 3 => i3 | 4 => i4 | 5 => i5 | _ => i6), cI, cL, cF, fun c q hq => ?_, fun k q hq => ?_⟩
  · match c, hq with
    | 0, hq => cases hq; exact k0
    | 1, hq => cases hq; exact k1
    | 2, hq => cases hq; exact k2
    | 3, hq => cases hq; exact k3
    | 4, hq => cases hq; exact k4
    | 5, hq => cases hq; exact k5
    | 6, hq => cases hq; exact k6
    | c + 7, hq => cases hq
  · match k, hq with
    | 0, hq => cases hq; exact ⟨fun n z => ⟨fun k h => (by cases h), kI, a2, pI, a3⟩, a1⟩
    | 1, hq => cases hq; exact ⟨fun n z => ⟨fun k h => (by cases h), kL, b2, pL, b3⟩, b1⟩
    | 2, hq => cases hq; exact ⟨fun n z => ⟨fun k h => (by cases h), kF, d3, pF, d4⟩, kF, pF, d3, d4, d1, d5⟩
    | k + 3, hq => cases hq
set_option maxHeartbeats 4000000 in
set_option maxRecDepth 100000 in
theorem st_N {s : State} {args : Array Value} (hts : ∀ w ∈ lw_tbl, w.before args s = true) : ∀ w ∈ nw_, va_Nw w s := by
  have ht := tw_in hts
  intro w hw
  unfold nw_ at hw
  simp only [List.mem_cons, List.not_mem_nil, or_false] at hw
  rcases hw with rfl | rfl | rfl | rfl | rfl | rfl | rfl | rfl | rfl
  · exact va_Nw.of rfl (hts _ kn_37)
  · exact va_Nw.of rfl (hts _ kn_68)
  · exact va_Nw.of rfl (hts _ kn_79)
  · exact va_Nw.of rfl (hts _ kn_95)
  · exact va_Nw.of rfl (hts _ kn_115)
  · exact va_Nw.of rfl (hts _ kn_349)
  · exact va_Nw.of rfl (hts _ kn_382)
  · exact va_Nw.of rfl (hts _ kn_494)
  · exact va_Nw.of rfl (hts _ kn_575)
set_option maxHeartbeats 4000000 in
set_option maxRecDepth 100000 in
theorem st_E {s : State} {args : Array Value} (hts : ∀ w ∈ lw_tbl, w.before args s = true) : ∀ w ∈ ew_, va_Nw w s := by
  have ht := tw_in hts
  intro w hw
  unfold ew_ at hw
  simp only [List.mem_cons, List.not_mem_nil, or_false] at hw
  rcases hw with rfl | rfl | rfl | rfl | rfl | rfl | rfl | rfl | rfl | rfl
  · exact va_Nw.of rfl (hts _ kn_149)
  · exact va_Nw.of rfl (hts _ kn_150)
  · exact va_Nw.of rfl (hts _ kn_151)
  · exact va_Nw.of rfl (hts _ kn_152)
  · exact va_Nw.of rfl (hts _ kn_153)
  · exact va_Nw.of rfl (hts _ kn_154)
  · exact va_Nw.of rfl (hts _ kn_155)
  · exact va_Nw.of rfl (hts _ kn_224)
  · exact va_Nw.of rfl (hts _ kn_305)
  · exact va_Nw.of rfl (hts _ kn_582)
set_option maxHeartbeats 8000000 in
set_option maxRecDepth 100000 in
theorem st_X {s : State} {args : Array Value} (hts : ∀ w ∈ lw_tbl, w.before args s = true) (hg : (Jvm.Cond.and given_1 narrow_1).before args s = true) : ∃ th : Nat, xq_ s.heap.size th s ∧ xc_ s := by
  have ht := tw_in hts
  have hf := flat_of_before _ hg
  have hA : ∀ a : Nat, a < s.heap.size → ¬ s.heap.size ≤ a := fun a ha => Nat.not_le.mpr ha
  have hlen : (Term.length (.static "FamilyShelf" "HAVING" "[J")).eval args s none [] s = some (.int (Int32.ofNat 6)) := te_i (hf (Cond.eq (.length (.static "FamilyShelf" "HAVING" "[J")) (.int 6)) (by decide +kernel))
  have e0 : (Term.elem (.static "FamilyShelf" "HAVING" "[J") (.int (Int32.ofNat 0))).eval args s none [] s = some (.long (hm_ 0)) := te_l (hf (Cond.eq (.elem (.static "FamilyShelf" "HAVING" "[J") (.int 0)) (.long (-6148914691236517206))) (by decide +kernel))
  have e1 : (Term.elem (.static "FamilyShelf" "HAVING" "[J") (.int (Int32.ofNat 1))).eval args s none [] s = some (.long (hm_ 1)) := te_l (hf (Cond.eq (.elem (.static "FamilyShelf" "HAVING" "[J") (.int 1)) (.long (-3689348814741910324))) (by decide +kernel))
  have e2 : (Term.elem (.static "FamilyShelf" "HAVING" "[J") (.int (Int32.ofNat 2))).eval args s none [] s = some (.long (hm_ 2)) := te_l (hf (Cond.eq (.elem (.static "FamilyShelf" "HAVING" "[J") (.int 2)) (.long (-1085102592571150096))) (by decide +kernel))
  have e3 : (Term.elem (.static "FamilyShelf" "HAVING" "[J") (.int (Int32.ofNat 3))).eval args s none [] s = some (.long (hm_ 3)) := te_l (hf (Cond.eq (.elem (.static "FamilyShelf" "HAVING" "[J") (.int 3)) (.long (-71777214294589696))) (by decide +kernel))
  have e4 : (Term.elem (.static "FamilyShelf" "HAVING" "[J") (.int (Int32.ofNat 4))).eval args s none [] s = some (.long (hm_ 4)) := te_l (hf (Cond.eq (.elem (.static "FamilyShelf" "HAVING" "[J") (.int 4)) (.long (-281470681808896))) (by decide +kernel))
  have e5 : (Term.elem (.static "FamilyShelf" "HAVING" "[J") (.int (Int32.ofNat 5))).eval args s none [] s = some (.long (hm_ 5)) := te_l (hf (Cond.eq (.elem (.static "FamilyShelf" "HAVING" "[J") (.int 5)) (.long (-4294967296))) (by decide +kernel))
  have hel : ∀ j : Nat, j < 6 → (Term.elem (.static "FamilyShelf" "HAVING" "[J") (.int (Int32.ofNat j))).eval args s none [] s = some ((fun j => Value.long (hm_ j)) j) := fun j hj => by
    match j, hj with
    | 0, _ => exact e0
    | 1, _ => exact e1
    | 2, _ => exact e2
    | 3, _ => exact e3
    | 4, _ => exact e4
    | 5, _ => exact e5
  obtain ⟨th, h1, h2⟩ := va_Tof (tm := (.static "FamilyShelf" "HAVING" "[J")) (ty := .long) (N := 6) (f := fun j => Value.long (hm_ j)) (A := fun q => s.heap.size ≤ q) (by decide) (hf (Cond.arrayOf (.static "FamilyShelf" "HAVING" "[J") .long) (by decide +kernel)) hlen hel hA
  have hZ := va_Zof (A := fun q => s.heap.size ≤ q) (hts _ kn_350) (ht _ kw_1) h1 hA
  have t0 : ∃ a, vk_R "FamilyShelf" 150 "no such shelf" a s := by
    obtain ⟨a, _, _, _, ha, _⟩ := Cond.exactly_spec (hf (Cond.exactly (.string "FamilyShelf" 150) "java/lang/String") (by decide +kernel))
    exact ⟨a, vk_R.of (A := args) (hts _ kn_189) ha⟩
  have t1 : ∃ a, vk_R "FamilyShelf" 155 "no such element" a s := by
    obtain ⟨a, _, _, _, ha, _⟩ := Cond.exactly_spec (hf (Cond.exactly (.string "FamilyShelf" 155) "java/lang/String") (by decide +kernel))
    exact ⟨a, vk_R.of (A := args) (hts _ kn_417) ha⟩
  have t2 : ∃ a, vk_R "FamilyShelf" 157 "no such vertex" a s := by
    obtain ⟨a, _, _, _, ha, _⟩ := Cond.exactly_spec (hf (Cond.exactly (.string "FamilyShelf" 157) "java/lang/String") (by decide +kernel))
    exact ⟨a, vk_R.of (A := args) (hts _ kn_462) ha⟩
  have t3 : ∃ a, vk_R "FamilyShelf" 161 "an argument outside its range" a s := by
    obtain ⟨a, _, _, _, ha, _⟩ := Cond.exactly_spec (hf (Cond.exactly (.string "FamilyShelf" 161) "java/lang/String") (by decide +kernel))
    exact ⟨a, vk_R.of (A := args) (hts _ kn_231) ha⟩
  have t4 : ∃ a, vk_R "FamilyShelf" 164 "an edge from a vertex to itself" a s := by
    obtain ⟨a, _, _, _, ha, _⟩ := Cond.exactly_spec (hf (Cond.exactly (.string "FamilyShelf" 164) "java/lang/String") (by decide +kernel))
    exact ⟨a, vk_R.of (A := args) (hts _ kn_466) ha⟩
  have t5 : ∃ a, vk_R "FamilyShelf" 168 "division by a family without sets" a s := by
    obtain ⟨a, _, _, _, ha, _⟩ := Cond.exactly_spec (hf (Cond.exactly (.string "FamilyShelf" 168) "java/lang/String") (by decide +kernel))
    exact ⟨a, vk_R.of (A := args) (hts _ kn_312) ha⟩
  have t6 : ∃ a, vk_R "FamilyShelf" 173 "a family without sets" a s := by
    obtain ⟨a, _, _, _, ha, _⟩ := Cond.exactly_spec (hf (Cond.exactly (.string "FamilyShelf" 173) "java/lang/String") (by decide +kernel))
    exact ⟨a, vk_R.of (A := args) (hts _ kn_589) ha⟩
  have htx : ∀ x ∈ tx_, ∃ a, vk_R "FamilyShelf" x.1 x.2 a s := by
    intro x hx
    unfold tx_ at hx
    simp only [List.mem_cons, List.not_mem_nil, or_false] at hx
    rcases hx with rfl | rfl | rfl | rfl | rfl | rfl | rfl
    · exact t0
    · exact t1
    · exact t2
    · exact t3
    · exact t4
    · exact t5
    · exact t6
  have z1 := vx_Zqof (A := fun q => s.heap.size ≤ q) (hts _ kn_174) (ht _ kw_9) (hf (Cond.isRef (.static "java/lang/Throwable" "UNASSIGNED_STACK" "[Ljava/lang/StackTraceElement;")) (by decide +kernel)) hA
  have z2 := vx_Zqof (A := fun q => s.heap.size ≤ q) (hts _ kn_176) (ht _ kw_9) (hf (Cond.isRef (.static "java/lang/Throwable" "SUPPRESSED_SENTINEL" "Ljava/util/List;")) (by decide +kernel)) hA
  have n0 : va_Nc "java/lang/IllegalArgumentException" "java/lang/IndexOutOfBoundsException" s := va_Nc.of (hf (Cond.not (.castable "java/lang/IllegalArgumentException" "java/lang/IndexOutOfBoundsException")) (by decide +kernel))
  have n1 : va_Nc "java/lang/ArithmeticException" "java/lang/IndexOutOfBoundsException" s := va_Nc.of (hf (Cond.not (.castable "java/lang/ArithmeticException" "java/lang/IndexOutOfBoundsException")) (by decide +kernel))
  have n2 : va_Nc "java/lang/ArithmeticException" "java/lang/IllegalArgumentException" s := va_Nc.of (hf (Cond.not (.castable "java/lang/ArithmeticException" "java/lang/IllegalArgumentException")) (by decide +kernel))
  have n3 : va_Nc "java/util/NoSuchElementException" "java/lang/IndexOutOfBoundsException" s := va_Nc.of (hf (Cond.not (.castable "java/util/NoSuchElementException" "java/lang/IndexOutOfBoundsException")) (by decide +kernel))
  exact ⟨th, ⟨⟨⟨st_N hts, hZ, h2⟩, st_E hts, z1, z2, htx⟩, n0, n1, n2, n3⟩, st_N hts, va_AO.of (hts _ kn_28)⟩
