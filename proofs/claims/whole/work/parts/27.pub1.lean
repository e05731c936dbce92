theorem mr_b {n k : Nat} (hk : k < 12) : (if n.testBit k then 1 else 0) * 2 ^ (11 - k) < 2 ^ 32 := by
  have h : 2 ^ (11 - k) < 2 ^ 12 := Nat.pow_lt_pow_right (by decide) (by omega)
  split
  · omega
  · omega
def exc_ (f : Nat → Int64) (p : Nat) : Nat → Int64 := vp_updL f (p / 64) (f (p / 64) &&& ((1 : Int64) <<< ((nI (p % 64)).toInt64 &&& 63) ^^^ (-1)))
set_option maxHeartbeats 4000000 in
set_option maxRecDepth 100000 in
theorem s_mirrored (l : Launch) (D : va_G) (tys : List (ClassId × FieldType)) (X : State → Prop) (A : Nat → Prop) (P : Heap → Prop) (hk9 : xk A X) (n : Nat) (hn : n < 4096) : ki_ l my_S_mirrored (Cond.code my_S_mirrored bc_S_mirrored 3 (some .int) :: tw_) ({ frames := 1, cells := 0, slots := 0, locals := 20 }) D tys X A [.int (nI n)] P P (nI (mr_ n 12)) := by
  refine aw_met (A := A) (own := "FamilyShelf") (by decide) rfl rfl (Nat.le_of_ble_eq_true rfl) ?_
  intro p9 e s m args below meth c C hr hX hP0
  refine aw_lw (lw' := [some (.int (nI n)), none, none]) rfl ?_
  refine aw_iconst C dc_S_mirrored_0 (v := nI 0) rfl ?_
  refine aw_istore_n C dc_S_mirrored_1 (by decide) rfl ?_
  refine aw_iconst C dc_S_mirrored_2 (v := nI 0) rfl ?_
  refine aw_istore_n C dc_S_mirrored_3 (by decide) rfl ?_
  refine aw_loop (fun _ => P) (fun k => [some (.int (nI n)), some (.int (nI (mr_ n k))), some (.int (nI k))]) 12 ?_ (fun k hk ih => ?_)
  · refine aw_iload_n C dc_S_mirrored_4 rfl ?_
    refine aw_bipush C dc_S_mirrored_5 (v := nI 12) rfl ?_
    refine aw_icmp_ge C dc_S_mirrored_7 (tgt := 29) (by decide) (fun _ => ?_) (fun h9 => absurd (nI_le (Nat.le_refl _) (by decide)) h9)
    refine aw_iload_n C dc_S_mirrored_29 rfl ?_
    exact kc_iret C hr rfl (fun _ h => h) dc_S_mirrored_30
  · refine aw_iload_n C dc_S_mirrored_4 rfl ?_
    refine aw_bipush C dc_S_mirrored_5 (v := nI 12) rfl ?_
    refine aw_icmp_ge C dc_S_mirrored_7 (tgt := 29) (by decide) (fun h9 => absurd h9 (nI_ge hk (by decide))) (fun _ => ?_)
    refine aw_iload_n C dc_S_mirrored_10 rfl ?_
    refine aw_iload_n C dc_S_mirrored_11 rfl ?_
    refine aw_iload_n C dc_S_mirrored_12 rfl ?_
    refine aw_ishr C dc_S_mirrored_13 ?_
    refine aw_iconst C dc_S_mirrored_14 (v := nI 1) rfl ?_
    refine aw_iand C dc_S_mirrored_15 ?_
    refine aw_eqi (ni_tb (by omega) (by omega)) ?_
    refine aw_iload_n C dc_S_mirrored_16 rfl ?_
    refine kc_i (fun _ h => h) (fun _ h => h) (kc_S (n := 1) C hX hk9 (s_bitOf l D _ _ _ _ k hk) kw_243 kw_241 kw_242 kw_1 (by unfold kd_; decide) ⟨rfl, rfl, by decide, by decide⟩ rfl rfl (Nat.le_of_ble_eq_true rfl) ⟨Nat.zero_le _, Nat.zero_le _⟩ dc_S_mirrored_17) ?_
    refine aw_ishl C dc_S_mirrored_20 ?_
    refine aw_eqi (ni_shl (by omega) (mr_b (by omega))) ?_
    refine aw_ior C dc_S_mirrored_21 ?_
    refine aw_eqi (ni_or _ _) ?_
    refine aw_istore_n C dc_S_mirrored_22 (by decide) rfl ?_
    refine aw_iinc C dc_S_mirrored_23 rfl (ni_inc _) (by decide) rfl ?_
    refine aw_goto C dc_S_mirrored_26 (tgt := 4) (by decide) ?_
    exact ih
set_option maxHeartbeats 4000000 in
set_option maxRecDepth 100000 in
theorem s_checkShelf (l : Launch) (D : va_G) (tys : List (ClassId × FieldType)) (X : State → Prop) (A : Nat → Prop) (P : Heap → Prop) (k : Nat) (hk : k < 10) : kv_ l my_S_checkShelf (Cond.code my_S_checkShelf bc_S_checkShelf 1 none :: tw_) rm0 D tys X A [.int (nI k)] P P := by
  refine aw_met (A := A) (own := "FamilyShelf") (by decide) rfl rfl (Nat.le_of_ble_eq_true rfl) ?_
  intro p9 e s m args below meth c C hr hX hP0
  refine aw_lw (lw' := [some (.int (nI k))]) rfl ?_
  refine aw_iload_n C dc_S_checkShelf_0 rfl ?_
  refine aw_if_lt C dc_S_checkShelf_1 (tgt := 10) (by decide) (fun h9 => absurd h9 (nI_pos (by omega))) (fun _ => ?_)
  refine aw_iload_n C dc_S_checkShelf_4 rfl ?_
  refine aw_bipush C dc_S_checkShelf_5 (v := nI 10) rfl ?_
  refine aw_icmp_lt C dc_S_checkShelf_7 (tgt := 20) (by decide) (fun _ => ?_) (fun h9 => absurd (nI_lt hk (by decide)) h9)
  exact kc_vret C hr (fun _ h => h) dc_S_checkShelf_20
set_option maxHeartbeats 4000000 in
set_option maxRecDepth 100000 in
theorem s_checkElement (l : Launch) (D : va_G) (tys : List (ClassId × FieldType)) (X : State → Prop) (A : Nat → Prop) (P : Heap → Prop) (k : Nat) (hk : k < 12) : kv_ l my_S_checkElement (Cond.code my_S_checkElement bc_S_checkElement 1 none :: tw_) rm0 D tys X A [.int (nI k)] P P := by
  refine aw_met (A := A) (own := "FamilyShelf") (by decide) rfl rfl (Nat.le_of_ble_eq_true rfl) ?_
  intro p9 e s m args below meth c C hr hX hP0
  refine aw_lw (lw' := [some (.int (nI k))]) rfl ?_
  refine aw_iload_n C dc_S_checkElement_0 rfl ?_
  refine aw_if_lt C dc_S_checkElement_1 (tgt := 10) (by decide) (fun h9 => absurd h9 (nI_pos (by omega))) (fun _ => ?_)
  refine aw_iload_n C dc_S_checkElement_4 rfl ?_
  refine aw_bipush C dc_S_checkElement_5 (v := nI 12) rfl ?_
  refine aw_icmp_lt C dc_S_checkElement_7 (tgt := 20) (by decide) (fun _ => ?_) (fun h9 => absurd (nI_lt hk (by decide)) h9)
  exact kc_vret C hr (fun _ h => h) dc_S_checkElement_20
set_option maxHeartbeats 4000000 in
set_option maxRecDepth 100000 in
theorem s_checkVertex (l : Launch) (D : va_G) (tys : List (ClassId × FieldType)) (X : State → Prop) (A : Nat → Prop) (P : Heap → Prop) (k : Nat) (hk : k < 7) : kv_ l my_S_checkVertex (Cond.code my_S_checkVertex bc_S_checkVertex 1 none :: tw_) rm0 D tys X A [.int (nI k)] P P := by
  refine aw_met (A := A) (own := "FamilyShelf") (by decide) rfl rfl (Nat.le_of_ble_eq_true rfl) ?_
  intro p9 e s m args below meth c C hr hX hP0
  refine aw_lw (lw' := [some (.int (nI k))]) rfl ?_
  refine aw_iload_n C dc_S_checkVertex_0 rfl ?_
  refine aw_if_lt C dc_S_checkVertex_1 (tgt := 10) (by decide) (fun h9 => absurd h9 (nI_pos (by omega))) (fun _ => ?_)
  refine aw_iload_n C dc_S_checkVertex_4 rfl ?_
  refine aw_bipush C dc_S_checkVertex_5 (v := nI 7) rfl ?_
  refine aw_icmp_lt C dc_S_checkVertex_7 (tgt := 20) (by decide) (fun _ => ?_) (fun h9 => absurd (nI_lt hk (by decide)) h9)
  exact kc_vret C hr (fun _ h => h) dc_S_checkVertex_20
set_option maxHeartbeats 4000000 in
set_option maxRecDepth 100000 in
theorem s_checkRange (l : Launch) (D : va_G) (tys : List (ClassId × FieldType)) (X : State → Prop) (A : Nat → Prop) (P : Heap → Prop) (v lo hi : Int32) (h1 : ¬ v < lo) (h2 : v ≤ hi) : kv_ l my_S_checkRange (Cond.code my_S_checkRange bc_S_checkRange 3 none :: tw_) rm0 D tys X A [.int v, .int lo, .int hi] P P := by
  refine aw_met (A := A) (own := "FamilyShelf") (by decide) rfl rfl (Nat.le_of_ble_eq_true rfl) ?_
  intro p9 e s m args below meth c C hr hX hP0
  refine aw_lw (lw' := [some (.int v), some (.int lo), some (.int hi)]) rfl ?_
  refine aw_iload_n C dc_S_checkRange_0 rfl ?_
  refine aw_iload_n C dc_S_checkRange_1 rfl ?_
  refine aw_icmp_lt C dc_S_checkRange_2 (tgt := 10) (by decide) (fun h9 => absurd h9 (h1)) (fun _ => ?_)
  refine aw_iload_n C dc_S_checkRange_5 rfl ?_
  refine aw_iload_n C dc_S_checkRange_6 rfl ?_
  refine aw_icmp_le C dc_S_checkRange_7 (tgt := 20) (by decide) (fun _ => ?_) (fun h9 => absurd (h2) h9)
  exact kc_vret C hr (fun _ h => h) dc_S_checkRange_20
set_option maxHeartbeats 4000000 in
set_option maxRecDepth 100000 in
theorem s_checkSet (l : Launch) (D : va_G) (tys : List (ClassId × FieldType)) (X : State → Prop) (A : Nat → Prop) (P : Heap → Prop) (hk9 : xk A X) (n : Nat) (hn : n < 4096) : kv_ l my_S_checkSet (Cond.code my_S_checkSet bc_S_checkSet 1 none :: tw_) ({ frames := 1, cells := 0, slots := 0, locals := 22 }) D tys X A [.int (nI n)] P P := by
  refine aw_met (A := A) (own := "FamilyShelf") (by decide) rfl rfl (Nat.le_of_ble_eq_true rfl) ?_
  intro p9 e s m args below meth c C hr hX hP0
  refine aw_lw (lw' := [some (.int (nI n))]) rfl ?_
  refine aw_iload_n C dc_S_checkSet_0 rfl ?_
  refine aw_iconst C dc_S_checkSet_1 (v := nI 0) rfl ?_
  refine aw_sipush C dc_S_checkSet_2 (v := nI 4095) rfl ?_
  refine kc_v (fun _ h => h) (fun _ h => h) (kc_S (n := 3) C hX hk9 (s_checkRange l D _ _ _ _ (nI n) (nI 0) (nI 4095) (nI_nlt (Nat.zero_le _) (by omega)) (nI_le (by omega) (by decide))) kw_221 kw_219 kw_220 kw_1 (by unfold kd_; decide) ⟨rfl, rfl, by decide, by decide⟩ rfl rfl (Nat.le_of_ble_eq_true rfl) ⟨Nat.zero_le _, Nat.zero_le _⟩ dc_S_checkSet_5) ?_
  exact kc_vret C hr (fun _ h => h) dc_S_checkSet_8
set_option maxHeartbeats 4000000 in
set_option maxRecDepth 100000 in
theorem s_checkDifferent (l : Launch) (D : va_G) (tys : List (ClassId × FieldType)) (X : State → Prop) (A : Nat → Prop) (P : Heap → Prop) (u v : Int32) (h1 : ¬ u = v) : kv_ l my_S_checkDifferent (Cond.code my_S_checkDifferent bc_S_checkDifferent 2 none :: tw_) rm0 D tys X A [.int u, .int v] P P := by
  refine aw_met (A := A) (own := "FamilyShelf") (by decide) rfl rfl (Nat.le_of_ble_eq_true rfl) ?_
  intro p9 e s m args below meth c C hr hX hP0
  refine aw_lw (lw' := [some (.int u), some (.int v)]) rfl ?_
  refine aw_iload_n C dc_S_checkDifferent_0 rfl ?_
  refine aw_iload_n C dc_S_checkDifferent_1 rfl ?_
  refine aw_icmp_ne C dc_S_checkDifferent_2 (tgt := 15) (by decide) (fun _ => ?_) (fun h9 => absurd h9 (h1))
  exact kc_vret C hr (fun _ h => h) dc_S_checkDifferent_15
set_option maxHeartbeats 4000000 in
set_option maxRecDepth 100000 in
theorem s_checkFound (l : Launch) (D : va_G) (tys : List (ClassId × FieldType)) (X : State → Prop) (A : Nat → Prop) (P : Heap → Prop) (u : Int32) (h1 : ¬ u = -1) : kv_ l my_S_checkFound (Cond.code my_S_checkFound bc_S_checkFound 1 none :: tw_) rm0 D tys X A [.int u] P P := by
  refine aw_met (A := A) (own := "FamilyShelf") (by decide) rfl rfl (Nat.le_of_ble_eq_true rfl) ?_
  intro p9 e s m args below meth c C hr hX hP0
  refine aw_lw (lw' := [some (.int u)]) rfl ?_
  refine aw_iload_n C dc_S_checkFound_0 rfl ?_
  refine aw_iconst C dc_S_checkFound_1 (v := (-1)) rfl ?_
  refine aw_icmp_ne C dc_S_checkFound_2 (tgt := 15) (by decide) (fun _ => ?_) (fun h9 => absurd h9 (h1))
  exact kc_vret C hr (fun _ h => h) dc_S_checkFound_15
set_option maxHeartbeats 4000000 in
set_option maxRecDepth 100000 in
theorem s_checkDivisor (l : Launch) (D : va_G) (h th : Nat) (cI cL cF : ClassId) (I : Nat → Nat → Int32) (J : Nat → Nat → Int64) (sh : Nat → Nat) (fr : Nat) (en : Int32) (o : Nat) (ho : fo_ o = true) (h1 : ¬ tw64_ (J (o + 1)) 64 = 0) : kv_ l my_S_checkDivisor (Cond.code my_S_checkDivisor bc_S_checkDivisor 1 none :: tw_) ({ frames := 3, cells := 0, slots := 0, locals := 64 }) D (ty_s cI cL cF) (xw_ h th) (ca_ h) [.ref (h + o)] (kp_ D h cI cL cF I J sh fr en) (kp_ D h cI cL cF I J sh fr en) := by
  refine aw_met (A := ca_ h) (own := "FamilyShelf") (by decide) rfl rfl (Nat.le_of_ble_eq_true rfl) ?_
  intro p9 e s m args below meth c C hr hX hP0
  refine aw_lw (lw' := [some (.ref (h + o))]) rfl ?_
  refine aw_aload_n C dc_S_checkDivisor_0 rfl ?_
  refine kc_i (fun _ h => h) (fun _ h => h) (kc_V (n := 0) C hX (xw_k ca_le) rfl o (sy_fam ho) rfl (f_total l D h th cI cL cF I J sh fr en o ho) kw_274 kw_271 kw_272 kw_273 kw_3 rfl (by unfold kd_; decide) ⟨rfl, rfl, by decide, by decide⟩ rfl rfl (Nat.le_of_ble_eq_true rfl) ⟨Nat.zero_le _, Nat.zero_le _⟩ dc_S_checkDivisor_1) ?_
  refine aw_if_ne C dc_S_checkDivisor_4 (tgt := 17) (by decide) (fun _ => ?_) (fun h9 => absurd h9 (fun h9 => h1 ((ni_z (by have := tw64_le (J (o + 1)) 64; omega)).mp h9)))
  exact kc_vret C hr (fun _ h => h) dc_S_checkDivisor_17
set_option maxHeartbeats 4000000 in
set_option maxRecDepth 100000 in
theorem s_shelveFresh (l : Launch) (D : va_G) (h th : Nat) (cI cL cF : ClassId) (I : Nat → Nat → Int32) (J : Nat → Nat → Int64) (sh : Nat → Nat) (fr : Nat) (en : Int32) (hs : shok_ sh fr) (k : Nat) (hk : k < 10) : ki_ l my_S_shelveFresh (Cond.code my_S_shelveFresh bc_S_shelveFresh 3 (some .int) :: tw_) ({ frames := 3, cells := 0, slots := 0, locals := 64 }) D (ty_s cI cL cF) (xw_ h th) (ca_ h) [.ref h, .int (nI k)] (kp_ D h cI cL cF I J sh fr en) (kp_ D h cI cL cF I J (va_up sh k fr) (sh k) en) (nI (tw64_ (J (fr + 1)) 64)) := by
  refine aw_met (A := ca_ h) (own := "FamilyShelf") (by decide) rfl rfl (Nat.le_of_ble_eq_true rfl) ?_
  intro p9 e s m args below meth c C hr hX hP0
  refine aw_lw (lw' := [some (.ref h), some (.int (nI k)), none]) rfl ?_
  refine aw_aload_n C dc_S_shelveFresh_0 rfl ?_
  refine aw_get C (fun w h => List.mem_cons_of_mem _ (ly_S w h)) 0 sy_p0 rfl 0 (by decide) (C.1.2.2.2.2 _ (List.mem_cons_of_mem _ kw_116)) (fun _ h => h) rfl dc_S_shelveFresh_1 ?_
  refine aw_iload_n C dc_S_shelveFresh_4 rfl ?_
  refine aw_aald C 1 2 sy_p1 rfl k rfl hk (by decide) (y := h + sh k) rfl dc_S_shelveFresh_5 ?_
  refine aw_astore_n C dc_S_shelveFresh_6 (by decide) rfl ?_
  refine aw_aload_n C dc_S_shelveFresh_7 rfl ?_
  refine aw_get C (fun w h => List.mem_cons_of_mem _ (ly_S w h)) 0 sy_p0 rfl 0 (by decide) (C.1.2.2.2.2 _ (List.mem_cons_of_mem _ kw_116)) (fun _ h => h) rfl dc_S_shelveFresh_8 ?_
  refine aw_iload_n C dc_S_shelveFresh_11 rfl ?_
  refine aw_aload_n C dc_S_shelveFresh_12 rfl ?_
  refine aw_get C (fun w h => List.mem_cons_of_mem _ (ly_S w h)) 0 sy_p0 rfl 5 (by decide) (C.1.2.2.2.2 _ (List.mem_cons_of_mem _ kw_121)) (fun _ h => h) rfl dc_S_shelveFresh_13 ?_
  refine aw_aast C sy_D 1 2 fr 2 (r := (R_F, T_F, 1)) sy_p1 rfl (sy_fam hs.1) rfl k rfl hk (by decide) (ws' := sy_ h cI cL cF I J (va_up sh k fr) fr en) (by rw [sh_some, sy_setsh]) dc_S_shelveFresh_16 ?_
  refine aw_aload_n C dc_S_shelveFresh_17 rfl ?_
  refine aw_aload_n C dc_S_shelveFresh_18 rfl ?_
  refine aw_put C sy_D (fun w h => List.mem_cons_of_mem _ (ly_S w h)) ty_S ty_S_ok nm_S 0 sy_p0 rfl 5 (by decide) (C.1.2.2.2.2 _ (List.mem_cons_of_mem _ kw_121)) (fun _ h => h) rfl (ty := .object "FamilyShelf$Family") (by decide +kernel) rfl rfl (Nat.le_of_ble_eq_true rfl) (ws' := sy_ h cI cL cF I J (va_up sh k fr) (sh k) en) sy_setfr dc_S_shelveFresh_19 ?_
  refine aw_aload_n C dc_S_shelveFresh_22 rfl ?_
  refine aw_get C (fun w h => List.mem_cons_of_mem _ (ly_S w h)) 0 sy_p0 rfl 0 (by decide) (C.1.2.2.2.2 _ (List.mem_cons_of_mem _ kw_116)) (fun _ h => h) rfl dc_S_shelveFresh_23 ?_
  refine aw_iload_n C dc_S_shelveFresh_26 rfl ?_
  refine aw_aald C 1 2 sy_p1 rfl k rfl hk (by decide) (y := h + fr) (by show some (h + va_up sh k fr k) = _; rw [va_up_self]) dc_S_shelveFresh_27 ?_
  refine kc_i (fun _ h => h) (fun _ h => h) (kc_V (n := 0) C hX (xw_k ca_le) rfl fr (sy_fam hs.1) rfl (f_total l D h th cI cL cF I J (va_up sh k fr) (sh k) en fr hs.1) kw_274 kw_271 kw_272 kw_273 kw_3 rfl (by unfold kd_; decide) ⟨rfl, rfl, by decide, by decide⟩ rfl rfl (Nat.le_of_ble_eq_true rfl) ⟨Nat.zero_le _, Nat.zero_le _⟩ dc_S_shelveFresh_28) ?_
  exact kc_iret C hr rfl (fun _ h => h) dc_S_shelveFresh_31
