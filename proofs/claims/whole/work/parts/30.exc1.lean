theorem xg_io : ∀ w ∈ (vx_atS "FamilyShelf" 152 "java/lang/IndexOutOfBoundsException" ["java/lang/RuntimeException", "java/lang/Exception"]).filter goodWord, w ∈ tw_ := by
  have h9 : ∀ w ∈ (vx_atS "FamilyShelf" 152 "java/lang/IndexOutOfBoundsException" ["java/lang/RuntimeException", "java/lang/Exception"]).filter goodWord, w ∈ lw_tbl := by decide +kernel
  exact fun w hw => List.mem_filter.mpr ⟨h9 w hw, (List.mem_filter.mp hw).2⟩
theorem xb_io : ∀ w ∈ (vx_atS "FamilyShelf" 152 "java/lang/IndexOutOfBoundsException" ["java/lang/RuntimeException", "java/lang/Exception"]).filter (fun w => !goodWord w), w ∈ ew_ := by decide +kernel
theorem xo_io : ∀ w ∈ Cond.classLink "FamilyShelf" 148 "java/lang/IndexOutOfBoundsException" :: Cond.initialized "java/lang/IndexOutOfBoundsException" :: vx_atS "FamilyShelf" 152 "java/lang/IndexOutOfBoundsException" ["java/lang/RuntimeException", "java/lang/Exception"], vx_ot w = true := by decide +kernel
theorem xg_ia : ∀ w ∈ (vx_atS "FamilyShelf" 163 "java/lang/IllegalArgumentException" ["java/lang/RuntimeException", "java/lang/Exception"]).filter goodWord, w ∈ tw_ := by
  have h9 : ∀ w ∈ (vx_atS "FamilyShelf" 163 "java/lang/IllegalArgumentException" ["java/lang/RuntimeException", "java/lang/Exception"]).filter goodWord, w ∈ lw_tbl := by decide +kernel
  exact fun w hw => List.mem_filter.mpr ⟨h9 w hw, (List.mem_filter.mp hw).2⟩
theorem xb_ia : ∀ w ∈ (vx_atS "FamilyShelf" 163 "java/lang/IllegalArgumentException" ["java/lang/RuntimeException", "java/lang/Exception"]).filter (fun w => !goodWord w), w ∈ ew_ := by decide +kernel
theorem xo_ia : ∀ w ∈ Cond.classLink "FamilyShelf" 159 "java/lang/IllegalArgumentException" :: Cond.initialized "java/lang/IllegalArgumentException" :: vx_atS "FamilyShelf" 163 "java/lang/IllegalArgumentException" ["java/lang/RuntimeException", "java/lang/Exception"], vx_ot w = true := by decide +kernel
theorem xg_ar : ∀ w ∈ (vx_atS "FamilyShelf" 170 "java/lang/ArithmeticException" ["java/lang/RuntimeException", "java/lang/Exception"]).filter goodWord, w ∈ tw_ := by
  have h9 : ∀ w ∈ (vx_atS "FamilyShelf" 170 "java/lang/ArithmeticException" ["java/lang/RuntimeException", "java/lang/Exception"]).filter goodWord, w ∈ lw_tbl := by decide +kernel
  exact fun w hw => List.mem_filter.mpr ⟨h9 w hw, (List.mem_filter.mp hw).2⟩
theorem xb_ar : ∀ w ∈ (vx_atS "FamilyShelf" 170 "java/lang/ArithmeticException" ["java/lang/RuntimeException", "java/lang/Exception"]).filter (fun w => !goodWord w), w ∈ ew_ := by decide +kernel
theorem xo_ar : ∀ w ∈ Cond.classLink "FamilyShelf" 166 "java/lang/ArithmeticException" :: Cond.initialized "java/lang/ArithmeticException" :: vx_atS "FamilyShelf" 170 "java/lang/ArithmeticException" ["java/lang/RuntimeException", "java/lang/Exception"], vx_ot w = true := by decide +kernel
set_option maxHeartbeats 4000000 in
set_option maxRecDepth 100000 in
theorem t_checkShelf (l : Launch) (hl : l.stackTraces = false) (D : va_G) (tys : List (ClassId × FieldType)) (h : Nat) (A : Nat → Prop) (hA : ∀ q, A q → h ≤ q) (ws : va_W) (x : Int32) (hx : x < 0 ∨ nI 10 ≤ x) : kt_ l my_S_checkShelf (Cond.code my_S_checkShelf bc_S_checkShelf 1 none :: tw_) { frames := 6, cells := 1, slots := 6, locals := 90 } D tys (xe_ h) A (nv_ A) [.int x] (va_P D cl_ ws) (va_P D cl_ ws) "java/lang/IndexOutOfBoundsException" := by
  refine aw_metX (A := A) (own := "FamilyShelf") (by decide) rfl rfl (Nat.le_of_ble_eq_true rfl) ?_
  intro p9 e s m args below meth c C hr hno hX hP0
  refine aw_lw (lw' := [some (.int x)]) rfl ?_
  refine aw_iload_n C dc_S_checkShelf_0 rfl ?_
  refine aw_if_lt C dc_S_checkShelf_1 (tgt := 10) (by decide) (fun hB1 => ?_) (fun hB1 => ?_)
  · exact aw_throw (text := "no such shelf") (names := ["java/lang/RuntimeException", "java/lang/Exception"]) C hl hX hA hno rfl (by decide +kernel) (by decide +kernel) kw_147 kw_12 (by decide) xg_io xb_io xo_io dc_S_checkShelf_10 dc_S_checkShelf_13 dc_S_checkShelf_14 dc_S_checkShelf_16 dc_S_checkShelf_19 (by decide) (by decide) (by decide) (by decide)
  · refine aw_iload_n C dc_S_checkShelf_4 rfl ?_
    refine aw_bipush C dc_S_checkShelf_5 (v := nI 10) rfl ?_
    refine aw_icmp_lt C dc_S_checkShelf_7 (tgt := 20) (by decide) (fun h9 => absurd h9 (fun h9 => hx.elim hB1 (fun h8 => absurd h9 (Int32.not_lt.mpr h8)))) (fun _ => ?_)
    exact aw_throw (text := "no such shelf") (names := ["java/lang/RuntimeException", "java/lang/Exception"]) C hl hX hA hno rfl (by decide +kernel) (by decide +kernel) kw_147 kw_12 (by decide) xg_io xb_io xo_io dc_S_checkShelf_10 dc_S_checkShelf_13 dc_S_checkShelf_14 dc_S_checkShelf_16 dc_S_checkShelf_19 (by decide) (by decide) (by decide) (by decide)
set_option maxHeartbeats 4000000 in
set_option maxRecDepth 100000 in
theorem t_checkElement (l : Launch) (hl : l.stackTraces = false) (D : va_G) (tys : List (ClassId × FieldType)) (h : Nat) (A : Nat → Prop) (hA : ∀ q, A q → h ≤ q) (ws : va_W) (x : Int32) (hx : x < 0 ∨ nI 12 ≤ x) : kt_ l my_S_checkElement (Cond.code my_S_checkElement bc_S_checkElement 1 none :: tw_) { frames := 6, cells := 1, slots := 6, locals := 90 } D tys (xe_ h) A (nv_ A) [.int x] (va_P D cl_ ws) (va_P D cl_ ws) "java/lang/IndexOutOfBoundsException" := by
  refine aw_metX (A := A) (own := "FamilyShelf") (by decide) rfl rfl (Nat.le_of_ble_eq_true rfl) ?_
  intro p9 e s m args below meth c C hr hno hX hP0
  refine aw_lw (lw' := [some (.int x)]) rfl ?_
  refine aw_iload_n C dc_S_checkElement_0 rfl ?_
  refine aw_if_lt C dc_S_checkElement_1 (tgt := 10) (by decide) (fun hB1 => ?_) (fun hB1 => ?_)
  · exact aw_throw (text := "no such element") (names := ["java/lang/RuntimeException", "java/lang/Exception"]) C hl hX hA hno rfl (by decide +kernel) (by decide +kernel) kw_147 kw_12 (by decide) xg_io xb_io xo_io dc_S_checkElement_10 dc_S_checkElement_13 dc_S_checkElement_14 dc_S_checkElement_16 dc_S_checkElement_19 (by decide) (by decide) (by decide) (by decide)
  · refine aw_iload_n C dc_S_checkElement_4 rfl ?_
    refine aw_bipush C dc_S_checkElement_5 (v := nI 12) rfl ?_
    refine aw_icmp_lt C dc_S_checkElement_7 (tgt := 20) (by decide) (fun h9 => absurd h9 (fun h9 => hx.elim hB1 (fun h8 => absurd h9 (Int32.not_lt.mpr h8)))) (fun _ => ?_)
    exact aw_throw (text := "no such element") (names := ["java/lang/RuntimeException", "java/lang/Exception"]) C hl hX hA hno rfl (by decide +kernel) (by decide +kernel) kw_147 kw_12 (by decide) xg_io xb_io xo_io dc_S_checkElement_10 dc_S_checkElement_13 dc_S_checkElement_14 dc_S_checkElement_16 dc_S_checkElement_19 (by decide) (by decide) (by decide) (by decide)
set_option maxHeartbeats 4000000 in
set_option maxRecDepth 100000 in
theorem t_checkVertex (l : Launch) (hl : l.stackTraces = false) (D : va_G) (tys : List (ClassId × FieldType)) (h : Nat) (A : Nat → Prop) (hA : ∀ q, A q → h ≤ q) (ws : va_W) (x : Int32) (hx : x < 0 ∨ nI 7 ≤ x) : kt_ l my_S_checkVertex (Cond.code my_S_checkVertex bc_S_checkVertex 1 none :: tw_) { frames := 6, cells := 1, slots := 6, locals := 90 } D tys (xe_ h) A (nv_ A) [.int x] (va_P D cl_ ws) (va_P D cl_ ws) "java/lang/IndexOutOfBoundsException" := by
  refine aw_metX (A := A) (own := "FamilyShelf") (by decide) rfl rfl (Nat.le_of_ble_eq_true rfl) ?_
  intro p9 e s m args below meth c C hr hno hX hP0
  refine aw_lw (lw' := [some (.int x)]) rfl ?_
  refine aw_iload_n C dc_S_checkVertex_0 rfl ?_
  refine aw_if_lt C dc_S_checkVertex_1 (tgt := 10) (by decide) (fun hB1 => ?_) (fun hB1 => ?_)
  · exact aw_throw (text := "no such vertex") (names := ["java/lang/RuntimeException", "java/lang/Exception"]) C hl hX hA hno rfl (by decide +kernel) (by decide +kernel) kw_147 kw_12 (by decide) xg_io xb_io xo_io dc_S_checkVertex_10 dc_S_checkVertex_13 dc_S_checkVertex_14 dc_S_checkVertex_16 dc_S_checkVertex_19 (by decide) (by decide) (by decide) (by decide)
  · refine aw_iload_n C dc_S_checkVertex_4 rfl ?_
    refine aw_bipush C dc_S_checkVertex_5 (v := nI 7) rfl ?_
    refine aw_icmp_lt C dc_S_checkVertex_7 (tgt := 20) (by decide) (fun h9 => absurd h9 (fun h9 => hx.elim hB1 (fun h8 => absurd h9 (Int32.not_lt.mpr h8)))) (fun _ => ?_)
    exact aw_throw (text := "no such vertex") (names := ["java/lang/RuntimeException", "java/lang/Exception"]) C hl hX hA hno rfl (by decide +kernel) (by decide +kernel) kw_147 kw_12 (by decide) xg_io xb_io xo_io dc_S_checkVertex_10 dc_S_checkVertex_13 dc_S_checkVertex_14 dc_S_checkVertex_16 dc_S_checkVertex_19 (by decide) (by decide) (by decide) (by decide)
set_option maxHeartbeats 4000000 in
set_option maxRecDepth 100000 in
theorem t_checkRange (l : Launch) (hl : l.stackTraces = false) (D : va_G) (tys : List (ClassId × FieldType)) (h : Nat) (A : Nat → Prop) (hA : ∀ q, A q → h ≤ q) (ws : va_W) (v lo hi : Int32) (hx : v < lo ∨ hi < v) : kt_ l my_S_checkRange (Cond.code my_S_checkRange bc_S_checkRange 3 none :: tw_) { frames := 6, cells := 1, slots := 6, locals := 90 } D tys (xe_ h) A (nv_ A) [.int v, .int lo, .int hi] (va_P D cl_ ws) (va_P D cl_ ws) "java/lang/IllegalArgumentException" := by
  refine aw_metX (A := A) (own := "FamilyShelf") (by decide) rfl rfl (Nat.le_of_ble_eq_true rfl) ?_
  intro p9 e s m args below meth c C hr hno hX hP0
  refine aw_lw (lw' := [some (.int v), some (.int lo), some (.int hi)]) rfl ?_
  refine aw_iload_n C dc_S_checkRange_0 rfl ?_
  refine aw_iload_n C dc_S_checkRange_1 rfl ?_
  refine aw_icmp_lt C dc_S_checkRange_2 (tgt := 10) (by decide) (fun hB2 => ?_) (fun hB2 => ?_)
  · exact aw_throw (text := "an argument outside its range") (names := ["java/lang/RuntimeException", "java/lang/Exception"]) C hl hX hA hno rfl (by decide +kernel) (by decide +kernel) kw_222 kw_13 (by decide) xg_ia xb_ia xo_ia dc_S_checkRange_10 dc_S_checkRange_13 dc_S_checkRange_14 dc_S_checkRange_16 dc_S_checkRange_19 (by decide) (by decide) (by decide) (by decide)
  · refine aw_iload_n C dc_S_checkRange_5 rfl ?_
    refine aw_iload_n C dc_S_checkRange_6 rfl ?_
    refine aw_icmp_le C dc_S_checkRange_7 (tgt := 20) (by decide) (fun h9 => absurd h9 (fun h9 => hx.elim hB2 (fun h8 => absurd h9 (Int32.not_le.mpr h8)))) (fun _ => ?_)
    exact aw_throw (text := "an argument outside its range") (names := ["java/lang/RuntimeException", "java/lang/Exception"]) C hl hX hA hno rfl (by decide +kernel) (by decide +kernel) kw_222 kw_13 (by decide) xg_ia xb_ia xo_ia dc_S_checkRange_10 dc_S_checkRange_13 dc_S_checkRange_14 dc_S_checkRange_16 dc_S_checkRange_19 (by decide) (by decide) (by decide) (by decide)
set_option maxHeartbeats 4000000 in
set_option maxRecDepth 100000 in
theorem t_checkSet (l : Launch) (hl : l.stackTraces = false) (D : va_G) (tys : List (ClassId × FieldType)) (h : Nat) (A : Nat → Prop) (hA : ∀ q, A q → h ≤ q) (ws : va_W) (v : Int32) (hx : v < nI 0 ∨ nI 4095 < v) : kt_ l my_S_checkSet (Cond.code my_S_checkSet bc_S_checkSet 1 none :: tw_) { frames := 8, cells := 1, slots := 6, locals := 120 } D tys (xe_ h) A (nv_ A) [.int v] (va_P D cl_ ws) (va_P D cl_ ws) "java/lang/IllegalArgumentException" := by
  refine aw_metX (A := A) (own := "FamilyShelf") (by decide) rfl rfl (Nat.le_of_ble_eq_true rfl) ?_
  intro p9 e s m args below meth c C hr hno hX hP0
  refine aw_lw (lw' := [some (.int v)]) rfl ?_
  refine aw_iload_n C dc_S_checkSet_0 rfl ?_
  refine aw_iconst C dc_S_checkSet_1 (v := nI 0) rfl ?_
  refine aw_sipush C dc_S_checkSet_2 (v := nI 4095) rfl ?_
  exact kx_S (n := 3) C hX (xe_k hA) hno (t_checkRange l hl D tys h A hA ws v (nI 0) (nI 4095) hx) kw_221 kw_219 kw_220 kw_1 (by unfold kd_; decide) ⟨rfl, rfl, by decide, by decide⟩ rfl rfl (Nat.le_of_ble_eq_true rfl) (by decide) (by decide) (fun _ h => h) dc_S_checkSet_5
set_option maxHeartbeats 4000000 in
set_option maxRecDepth 100000 in
theorem t_checkDifferent (l : Launch) (hl : l.stackTraces = false) (D : va_G) (tys : List (ClassId × FieldType)) (h : Nat) (A : Nat → Prop) (hA : ∀ q, A q → h ≤ q) (ws : va_W) (v : Int32) : kt_ l my_S_checkDifferent (Cond.code my_S_checkDifferent bc_S_checkDifferent 2 none :: tw_) { frames := 6, cells := 1, slots := 6, locals := 90 } D tys (xe_ h) A (nv_ A) [.int v, .int v] (va_P D cl_ ws) (va_P D cl_ ws) "java/lang/IllegalArgumentException" := by
  refine aw_metX (A := A) (own := "FamilyShelf") (by decide) rfl rfl (Nat.le_of_ble_eq_true rfl) ?_
  intro p9 e s m args below meth c C hr hno hX hP0
  refine aw_lw (lw' := [some (.int v), some (.int v)]) rfl ?_
  refine aw_iload_n C dc_S_checkDifferent_0 rfl ?_
  refine aw_iload_n C dc_S_checkDifferent_1 rfl ?_
  refine aw_icmp_ne C dc_S_checkDifferent_2 (tgt := 15) (by decide) (fun h9 => absurd (rfl) h9) (fun _ => ?_)
  exact aw_throw (text := "an edge from a vertex to itself") (names := ["java/lang/RuntimeException", "java/lang/Exception"]) C hl hX hA hno rfl (by decide +kernel) (by decide +kernel) kw_222 kw_13 (by decide) xg_ia xb_ia xo_ia dc_S_checkDifferent_5 dc_S_checkDifferent_8 dc_S_checkDifferent_9 dc_S_checkDifferent_11 dc_S_checkDifferent_14 (by decide) (by decide) (by decide) (by decide)
set_option maxHeartbeats 4000000 in
set_option maxRecDepth 100000 in
theorem t_checkFound (l : Launch) (hl : l.stackTraces = false) (D : va_G) (tys : List (ClassId × FieldType)) (h : Nat) (A : Nat → Prop) (hA : ∀ q, A q → h ≤ q) (ws : va_W)  : kt_ l my_S_checkFound (Cond.code my_S_checkFound bc_S_checkFound 1 none :: tw_) { frames := 6, cells := 1, slots := 6, locals := 90 } D tys (xe_ h) A (nv_ A) [.int (-1)] (va_P D cl_ ws) (va_P D cl_ ws) "java/util/NoSuchElementException" := by
  refine aw_metX (A := A) (own := "FamilyShelf") (by decide) rfl rfl (Nat.le_of_ble_eq_true rfl) ?_
  intro p9 e s m args below meth c C hr hno hX hP0
  refine aw_lw (lw' := [some (.int (-1))]) rfl ?_
  refine aw_iload_n C dc_S_checkFound_0 rfl ?_
  refine aw_iconst C dc_S_checkFound_1 (v := (-1)) rfl ?_
  refine aw_icmp_ne C dc_S_checkFound_2 (tgt := 15) (by decide) (fun h9 => absurd (rfl) h9) (fun _ => ?_)
  exact aw_throwN C hl hX hA hno rfl kw_580 kw_18 dc_S_checkFound_5 dc_S_checkFound_8 dc_S_checkFound_9 dc_S_checkFound_11 dc_S_checkFound_14 (by decide) (by decide) (by decide) (by decide)
set_option maxHeartbeats 4000000 in
set_option maxRecDepth 100000 in
theorem t_checkDivisor (l : Launch) (hl : l.stackTraces = false) (D : va_G) (h th : Nat) (cI cL cF : ClassId) (I : Nat → Nat → Int32) (J : Nat → Nat → Int64) (sh : Nat → Nat) (fr : Nat) (en : Int32) (o : Nat) (ho : fo_ o = true) (hz : tw64_ (J (o + 1)) 64 = 0) : kt_ l my_S_checkDivisor (Cond.code my_S_checkDivisor bc_S_checkDivisor 1 none :: tw_) { frames := 12, cells := 1, slots := 6, locals := 200 } D (ty_s cI cL cF) (xp_ h th) (ca_ h) (nv_ (ca_ h)) [.ref (h + o)] (kp_ D h cI cL cF I J sh fr en) (kp_ D h cI cL cF I J sh fr en) "java/lang/ArithmeticException" := by
  refine aw_metX (A := ca_ h) (own := "FamilyShelf") (by decide) rfl rfl (Nat.le_of_ble_eq_true rfl) ?_
  intro p9 e s m args below meth c C hr hno hX hP0
  refine aw_lw (lw' := [some (.ref (h + o))]) rfl ?_
  refine aw_aload_n C dc_S_checkDivisor_0 rfl ?_
  refine kc_i (fun _ h => h) (fun _ h => h) (kc_V (n := 0) C hX.1 (xw_k ca_le) rfl o (sy_fam ho) rfl (f_total l D h th cI cL cF I J sh fr en o ho) kw_274 kw_271 kw_272 kw_273 kw_3 rfl (by unfold kd_; decide) ⟨rfl, rfl, by decide, by decide⟩ rfl rfl (Nat.le_of_ble_eq_true rfl) ⟨Nat.zero_le _, Nat.zero_le _⟩ dc_S_checkDivisor_1) ?_
  refine aw_eqi (congrArg nI hz) ?_
  refine aw_if_ne C dc_S_checkDivisor_4 (tgt := 17) (by decide) (fun h9 => absurd (rfl) h9) (fun _ => ?_)
  exact aw_throw (text := "division by a family without sets") (names := ["java/lang/RuntimeException", "java/lang/Exception"]) C hl hX.2 ca_le hno rfl (by decide +kernel) (by decide +kernel) kw_303 kw_16 (by decide) xg_ar xb_ar xo_ar dc_S_checkDivisor_7 dc_S_checkDivisor_10 dc_S_checkDivisor_11 dc_S_checkDivisor_13 dc_S_checkDivisor_16 (by decide) (by decide) (by decide) (by decide)
