set_option maxHeartbeats 4000000 in
set_option maxRecDepth 100000 in
theorem j_lbc (l : Launch) (D : va_G) (tys : List (ClassId × FieldType)) (X : State → Prop) (A : Nat → Prop) (P : Heap → Prop) (x : Int64) : ki_ l my_Jl_bitCount (Cond.code my_Jl_bitCount bc_Jl_bitCount 2 (some .int) :: tw_) rm0 D tys X A [.long x] P P (nI (lc_ x)) := by
  refine aw_met (A := A) (own := "java/lang/Long") (by decide) rfl rfl (Nat.le_of_ble_eq_true rfl) ?_
  intro p9 e s m args below meth c C hr hX hP0
  refine aw_lw (lw' := [some (.long x), none]) rfl ?_
  refine aw_lload_n C dc_Jl_bitCount_0 rfl ?_
  refine aw_lload_n C dc_Jl_bitCount_1 rfl ?_
  refine aw_iconst C dc_Jl_bitCount_2 (v := nI 1) rfl ?_
  refine aw_lushr C dc_Jl_bitCount_3 ?_
  refine aw_ldc2 C (C.1.2.2.2.2 _ (List.mem_cons_of_mem _ kw_282)) dc_Jl_bitCount_4 ?_
  refine aw_land C dc_Jl_bitCount_7 ?_
  refine aw_lsub C dc_Jl_bitCount_8 ?_
  refine aw_topl (fun i1 e1 => ?_)
  refine aw_lstore_n C dc_Jl_bitCount_9 (by decide) rfl ?_
  refine aw_lload_n C dc_Jl_bitCount_10 rfl ?_
  refine aw_ldc2 C (C.1.2.2.2.2 _ (List.mem_cons_of_mem _ kw_283)) dc_Jl_bitCount_11 ?_
  refine aw_land C dc_Jl_bitCount_14 ?_
  refine aw_lload_n C dc_Jl_bitCount_15 rfl ?_
  refine aw_iconst C dc_Jl_bitCount_16 (v := nI 2) rfl ?_
  refine aw_lushr C dc_Jl_bitCount_17 ?_
  refine aw_ldc2 C (C.1.2.2.2.2 _ (List.mem_cons_of_mem _ kw_283)) dc_Jl_bitCount_18 ?_
  refine aw_land C dc_Jl_bitCount_21 ?_
  refine aw_ladd C dc_Jl_bitCount_22 ?_
  refine aw_topl (fun i2 e2 => ?_)
  refine aw_lstore_n C dc_Jl_bitCount_23 (by decide) rfl ?_
  refine aw_lload_n C dc_Jl_bitCount_24 rfl ?_
  refine aw_lload_n C dc_Jl_bitCount_25 rfl ?_
  refine aw_iconst C dc_Jl_bitCount_26 (v := nI 4) rfl ?_
  refine aw_lushr C dc_Jl_bitCount_27 ?_
  refine aw_ladd C dc_Jl_bitCount_28 ?_
  refine aw_ldc2 C (C.1.2.2.2.2 _ (List.mem_cons_of_mem _ kw_284)) dc_Jl_bitCount_29 ?_
  refine aw_land C dc_Jl_bitCount_32 ?_
  refine aw_topl (fun i3 e3 => ?_)
  refine aw_lstore_n C dc_Jl_bitCount_33 (by decide) rfl ?_
  refine aw_lload_n C dc_Jl_bitCount_34 rfl ?_
  refine aw_lload_n C dc_Jl_bitCount_35 rfl ?_
  refine aw_bipush C dc_Jl_bitCount_36 (v := nI 8) rfl ?_
  refine aw_lushr C dc_Jl_bitCount_38 ?_
  refine aw_ladd C dc_Jl_bitCount_39 ?_
  refine aw_topl (fun i4 e4 => ?_)
  refine aw_lstore_n C dc_Jl_bitCount_40 (by decide) rfl ?_
  refine aw_lload_n C dc_Jl_bitCount_41 rfl ?_
  refine aw_lload_n C dc_Jl_bitCount_42 rfl ?_
  refine aw_bipush C dc_Jl_bitCount_43 (v := nI 16) rfl ?_
  refine aw_lushr C dc_Jl_bitCount_45 ?_
  refine aw_ladd C dc_Jl_bitCount_46 ?_
  refine aw_topl (fun i5 e5 => ?_)
  refine aw_lstore_n C dc_Jl_bitCount_47 (by decide) rfl ?_
  refine aw_lload_n C dc_Jl_bitCount_48 rfl ?_
  refine aw_lload_n C dc_Jl_bitCount_49 rfl ?_
  refine aw_bipush C dc_Jl_bitCount_50 (v := nI 32) rfl ?_
  refine aw_lushr C dc_Jl_bitCount_52 ?_
  refine aw_ladd C dc_Jl_bitCount_53 ?_
  refine aw_topl (fun i6 e6 => ?_)
  refine aw_lstore_n C dc_Jl_bitCount_54 (by decide) rfl ?_
  refine aw_lload_n C dc_Jl_bitCount_55 rfl ?_
  refine aw_l2i C dc_Jl_bitCount_56 ?_
  refine aw_bipush C dc_Jl_bitCount_57 (v := nI 127) rfl ?_
  refine aw_iand C dc_Jl_bitCount_59 ?_
  exact kc_iret C hr (lc_calc e1 e2 e3 e4 e5 e6) (fun _ h => h) dc_Jl_bitCount_60
set_option maxHeartbeats 4000000 in
set_option maxRecDepth 100000 in
theorem j_ibc (l : Launch) (D : va_G) (tys : List (ClassId × FieldType)) (X : State → Prop) (A : Nat → Prop) (P : Heap → Prop) (k : Nat) (hk : k < 64) : ki_ l my_Ji_bitCount (Cond.code my_Ji_bitCount bc_Ji_bitCount 1 (some .int) :: tw_) rm0 D tys X A [.int (nI k)] P P (nI (nb_ k)) := by
  refine aw_met (A := A) (own := "java/lang/Integer") (by decide) rfl rfl (Nat.le_of_ble_eq_true rfl) ?_
  intro p9 e s m args below meth c C hr hX hP0
  refine aw_lw (lw' := [some (.int (nI k))]) rfl ?_
  refine aw_iload_n C dc_Ji_bitCount_0 rfl ?_
  refine aw_iload_n C dc_Ji_bitCount_1 rfl ?_
  refine aw_iconst C dc_Ji_bitCount_2 (v := nI 1) rfl ?_
  refine aw_iushr C dc_Ji_bitCount_3 ?_
  refine aw_ldcw C (C.1.2.2.2.2 _ (List.mem_cons_of_mem _ kw_50)) dc_Ji_bitCount_4 ?_
  refine aw_iand C dc_Ji_bitCount_7 ?_
  refine aw_isub C dc_Ji_bitCount_8 ?_
  refine aw_istore_n C dc_Ji_bitCount_9 (by decide) rfl ?_
  refine aw_iload_n C dc_Ji_bitCount_10 rfl ?_
  refine aw_ldcw C (C.1.2.2.2.2 _ (List.mem_cons_of_mem _ kw_51)) dc_Ji_bitCount_11 ?_
  refine aw_iand C dc_Ji_bitCount_14 ?_
  refine aw_iload_n C dc_Ji_bitCount_15 rfl ?_
  refine aw_iconst C dc_Ji_bitCount_16 (v := nI 2) rfl ?_
  refine aw_iushr C dc_Ji_bitCount_17 ?_
  refine aw_ldcw C (C.1.2.2.2.2 _ (List.mem_cons_of_mem _ kw_51)) dc_Ji_bitCount_18 ?_
  refine aw_iand C dc_Ji_bitCount_21 ?_
  refine aw_iadd C dc_Ji_bitCount_22 ?_
  refine aw_istore_n C dc_Ji_bitCount_23 (by decide) rfl ?_
  refine aw_iload_n C dc_Ji_bitCount_24 rfl ?_
  refine aw_iload_n C dc_Ji_bitCount_25 rfl ?_
  refine aw_iconst C dc_Ji_bitCount_26 (v := nI 4) rfl ?_
  refine aw_iushr C dc_Ji_bitCount_27 ?_
  refine aw_iadd C dc_Ji_bitCount_28 ?_
  refine aw_ldcw C (C.1.2.2.2.2 _ (List.mem_cons_of_mem _ kw_52)) dc_Ji_bitCount_29 ?_
  refine aw_iand C dc_Ji_bitCount_32 ?_
  refine aw_istore_n C dc_Ji_bitCount_33 (by decide) rfl ?_
  refine aw_iload_n C dc_Ji_bitCount_34 rfl ?_
  refine aw_iload_n C dc_Ji_bitCount_35 rfl ?_
  refine aw_bipush C dc_Ji_bitCount_36 (v := nI 8) rfl ?_
  refine aw_iushr C dc_Ji_bitCount_38 ?_
  refine aw_iadd C dc_Ji_bitCount_39 ?_
  refine aw_istore_n C dc_Ji_bitCount_40 (by decide) rfl ?_
  refine aw_iload_n C dc_Ji_bitCount_41 rfl ?_
  refine aw_iload_n C dc_Ji_bitCount_42 rfl ?_
  refine aw_bipush C dc_Ji_bitCount_43 (v := nI 16) rfl ?_
  refine aw_iushr C dc_Ji_bitCount_45 ?_
  refine aw_iadd C dc_Ji_bitCount_46 ?_
  refine aw_istore_n C dc_Ji_bitCount_47 (by decide) rfl ?_
  refine aw_iload_n C dc_Ji_bitCount_48 rfl ?_
  refine aw_bipush C dc_Ji_bitCount_49 (v := nI 63) rfl ?_
  refine aw_iand C dc_Ji_bitCount_51 ?_
  exact kc_iret C hr (ib_ok ⟨k, hk⟩) (fun _ h => h) dc_Ji_bitCount_52
set_option maxHeartbeats 4000000 in
set_option maxRecDepth 100000 in
theorem j_fillL (l : Launch) (D : va_G) (tys : List (ClassId × FieldType)) (X : State → Prop) (A : Nat → Prop) (ws : va_W) (hD : va_D A ws) (k t0 a n : Nat) (cA : ClassId) (f : Nat → Int64) (hk : ws[k]? = some (a, .inl (cA, n, .inr (.inl f)))) (ht : tys[t0]? = some (cA, .long)) (hn : n < 2 ^ 31) (x : Int64) : kv_ l my_Ja_fill_JJV (Cond.code my_Ja_fill_JJV bc_Ja_fill_JJV 5 none :: tw_) rm0 D tys X A [.ref a, .long x] (va_P D cl_ ws) (va_P D cl_ (ws.set k (a, .inl (cA, n, .inr (.inl (fl_ f n x)))))) := by
  refine aw_met (A := A) (own := "java/util/Arrays") (by decide) rfl rfl (Nat.le_of_ble_eq_true rfl) ?_
  intro p9 e s m args below meth c C hr hX hP0
  refine aw_lw (lw' := [some (.ref a), some (.long x), none, none, none]) rfl ?_
  refine aw_iconst C dc_Ja_fill_JJV_0 (v := nI 0) rfl ?_
  refine aw_istore_n C dc_Ja_fill_JJV_1 (by decide) rfl ?_
  refine aw_aload_n C dc_Ja_fill_JJV_2 rfl ?_
  refine aw_alen C k t0 hk ht dc_Ja_fill_JJV_3 ?_
  refine aw_istore C dc_Ja_fill_JJV_4 (by decide) rfl ?_
  have h0 : ws = ws.set k (a, .inl (cA, n, .inr (.inl (fl_ f 0 x)))) := by
    rw [fl_0]
    apply List.ext_getElem?
    intro j
    rw [List.getElem?_set]
    by_cases hj : k = j
    · subst hj
      rw [if_pos rfl, hk, if_pos (List.getElem?_eq_some_iff.mp hk).1]
    · rw [if_neg hj]
  refine aw_P (P' := va_P D cl_ (ws.set k (a, .inl (cA, n, .inr (.inl (fl_ f 0 x)))))) (fun H h => by rw [← h0]; exact h) ?_
  refine aw_loop (fun i => va_P D cl_ (ws.set k (a, .inl (cA, n, .inr (.inl (fl_ f i x)))))) (fun i => [some (.ref a), some (.long x), none, some (.int (nI i)), some (.int (nI n))]) n ?_ (fun i hi ih => ?_)
  · refine aw_iload_n C dc_Ja_fill_JJV_6 rfl ?_
    refine aw_iload C dc_Ja_fill_JJV_7 rfl ?_
    refine aw_icmp_ge C dc_Ja_fill_JJV_9 (tgt := 22) (by decide) (fun _ => ?_) (fun h9 => absurd (nI_le (Nat.le_refl _) hn) h9)
    exact kc_vret C hr (fun _ h => h) dc_Ja_fill_JJV_22
  · refine aw_iload_n C dc_Ja_fill_JJV_6 rfl ?_
    refine aw_iload C dc_Ja_fill_JJV_7 rfl ?_
    refine aw_icmp_ge C dc_Ja_fill_JJV_9 (tgt := 22) (by decide) (fun h9 => absurd h9 (nI_ge hi hn)) (fun _ => ?_)
    refine aw_aload_n C dc_Ja_fill_JJV_12 rfl ?_
    refine aw_iload_n C dc_Ja_fill_JJV_13 rfl ?_
    refine aw_lload_n C dc_Ja_fill_JJV_14 rfl ?_
    refine aw_last C (va_D.set hD hk) k t0 (f := fl_ f i x) (by rw [List.getElem?_set, if_pos rfl, if_pos (List.getElem?_eq_some_iff.mp hk).1]) ht i rfl hi hn (by rw [List.set_set, fl_sL]) dc_Ja_fill_JJV_15 ?_
    refine aw_iinc C dc_Ja_fill_JJV_16 rfl (ni_inc _) (by decide) rfl ?_
    refine aw_goto C dc_Ja_fill_JJV_19 (tgt := 6) (by decide) ?_
    exact ih
set_option maxHeartbeats 4000000 in
set_option maxRecDepth 100000 in
theorem j_fillI (l : Launch) (D : va_G) (tys : List (ClassId × FieldType)) (X : State → Prop) (A : Nat → Prop) (ws : va_W) (hD : va_D A ws) (k t0 a n : Nat) (cA : ClassId) (f : Nat → Int32) (hk : ws[k]? = some (a, .inl (cA, n, .inl f))) (ht : tys[t0]? = some (cA, .int)) (hn : n < 2 ^ 31) (x : Int32) : kv_ l my_Ja_fill_IIV (Cond.code my_Ja_fill_IIV bc_Ja_fill_IIV 4 none :: tw_) rm0 D tys X A [.ref a, .int x] (va_P D cl_ ws) (va_P D cl_ (ws.set k (a, .inl (cA, n, .inl (fl_ f n x))))) := by
  refine aw_met (A := A) (own := "java/util/Arrays") (by decide) rfl rfl (Nat.le_of_ble_eq_true rfl) ?_
  intro p9 e s m args below meth c C hr hX hP0
  refine aw_lw (lw' := [some (.ref a), some (.int x), none, none]) rfl ?_
  refine aw_iconst C dc_Ja_fill_IIV_0 (v := nI 0) rfl ?_
  refine aw_istore_n C dc_Ja_fill_IIV_1 (by decide) rfl ?_
  refine aw_aload_n C dc_Ja_fill_IIV_2 rfl ?_
  refine aw_alen C k t0 hk ht dc_Ja_fill_IIV_3 ?_
  refine aw_istore_n C dc_Ja_fill_IIV_4 (by decide) rfl ?_
  have h0 : ws = ws.set k (a, .inl (cA, n, .inl (fl_ f 0 x))) := by
    rw [fl_0]
    apply List.ext_getElem?
    intro j
    rw [List.getElem?_set]
    by_cases hj : k = j
    · subst hj
      rw [if_pos rfl, hk, if_pos (List.getElem?_eq_some_iff.mp hk).1]
    · rw [if_neg hj]
  refine aw_P (P' := va_P D cl_ (ws.set k (a, .inl (cA, n, .inl (fl_ f 0 x))))) (fun H h => by rw [← h0]; exact h) ?_
  refine aw_loop (fun i => va_P D cl_ (ws.set k (a, .inl (cA, n, .inl (fl_ f i x))))) (fun i => [some (.ref a), some (.int x), some (.int (nI i)), some (.int (nI n))]) n ?_ (fun i hi ih => ?_)
  · refine aw_iload_n C dc_Ja_fill_IIV_5 rfl ?_
    refine aw_iload_n C dc_Ja_fill_IIV_6 rfl ?_
    refine aw_icmp_ge C dc_Ja_fill_IIV_7 (tgt := 20) (by decide) (fun _ => ?_) (fun h9 => absurd (nI_le (Nat.le_refl _) hn) h9)
    exact kc_vret C hr (fun _ h => h) dc_Ja_fill_IIV_20
  · refine aw_iload_n C dc_Ja_fill_IIV_5 rfl ?_
    refine aw_iload_n C dc_Ja_fill_IIV_6 rfl ?_
    refine aw_icmp_ge C dc_Ja_fill_IIV_7 (tgt := 20) (by decide) (fun h9 => absurd h9 (nI_ge hi hn)) (fun _ => ?_)
    refine aw_aload_n C dc_Ja_fill_IIV_10 rfl ?_
    refine aw_iload_n C dc_Ja_fill_IIV_11 rfl ?_
    refine aw_iload_n C dc_Ja_fill_IIV_12 rfl ?_
    refine aw_iast C (va_D.set hD hk) k t0 (f := fl_ f i x) (by rw [List.getElem?_set, if_pos rfl, if_pos (List.getElem?_eq_some_iff.mp hk).1]) ht i rfl hi hn (by rw [List.set_set, fl_sI]) dc_Ja_fill_IIV_13 ?_
    refine aw_iinc C dc_Ja_fill_IIV_14 rfl (ni_inc _) (by decide) rfl ?_
    refine aw_goto C dc_Ja_fill_IIV_17 (tgt := 5) (by decide) ?_
    exact ih
