set_option maxHeartbeats 4000000 in
set_option maxRecDepth 100000 in
theorem a_init (l : Launch) (D : va_G) (cI cL cF : ClassId) (b : Nat) : kz_ l my_A_init (Cond.code my_A_init bc_A_init 2 none :: tw_) { frames := 2, cells := 6, slots := 201, locals := 40 } D (ty_s cI cL cF) xc_ (fun q => b ≤ q) [.ref b] (gz_ D b [.inr (0, [.null, .null, .null, .null])]) (va_P D cl_ (en_ b [.inr (0, [.ref (b + 1), .ref (b + 3), .ref (b + 5), .ref (b + 6)]), eF_ (b + 1), eW_ cL, eF_ (b + 3), eW_ cL, eW_ cL, .inl (cL, 7, .inr (.inl (lz_ 64)))])) 6 201 := by
  refine aw_metI (A := fun q => b ≤ q) (own := "FamilyShelf$Algebra") (by decide) rfl rfl (Nat.le_of_ble_eq_true rfl) ?_
  intro p9 e s m args below meth c C hr hnm hX hP0
  have hsz : s.heap.size = b + 1 := hP0.2
  refine aw_P (P' := va_P D cl_ (en_ b [.inr (0, [.null, .null, .null, .null])])) (fun H h => h.1) ?_
  refine aw_lw (lw' := [some (.ref b), none]) rfl ?_
  refine aw_aload_n C dc_A_init_0 rfl ?_
  refine aw_oinit C (C.1.2.2.2.2 _ (List.mem_cons_of_mem _ kw_34)) (C.1.2.2.2.2 _ (List.mem_cons_of_mem _ kw_25)) (C.1.2.2.2.2 _ (List.mem_cons_of_mem _ kw_26)) dc_A_init_1 (by decide) (by decide) ?_
  refine aw_aload_n C dc_A_init_4 rfl ?_
  refine aw_newz (h := b) (es := [.inr (0, [.null, .null, .null, .null])]) C (by omega) (by simp only [hsz, List.length_cons, List.length_nil, List.length_append] <;> omega) (fun w h => List.mem_cons_of_mem _ (ly_F w h)) ty_F ty_F_ok (C.1.2.2.2.2 _ (List.mem_cons_of_mem _ kw_35)) (C.1.2.2.2.2 _ (List.mem_cons_of_mem _ kw_36)) (C.1.2.2.2.2 _ (List.mem_cons_of_mem _ kw_3)) (ci := 2) rfl (fs := [.null]) (by decide) (by decide) (by decide) dc_A_init_5 ?_
  refine aw_dup C dc_A_init_8 rfl ?_
  refine kq_I (X1 := (fun _ => True)) (As := []) (n := 0) (P' := va_P D cl_ (en_ b ([.inr (0, [.null, .null, .null, .null])] ++ [eF_ (b + 1), eW_ cL]))) C (fun _ _ _ _ => trivial) (sp_blind (A := fun _ => True) xk_true) (f_init l D cI cL cF (b + 1)) kw_39 (Or.inr ⟨"FamilyShelf", hX.1 _ (by decide +kernel)⟩) kw_38 kw_3 rfl (by unfold kd_; decide) ⟨rfl, rfl, by decide, by decide⟩ rfl rfl (Nat.le_of_ble_eq_true rfl) ⟨by decide, by decide⟩ dc_A_init_9 (fun q h => Nat.le_trans (Nat.le_add_right _ _) h) (fun H h hz => ct_pre' (e0 := [.inr (0, [.null, .null, .null, .null])]) h hz (by simp only [hsz, List.length_cons, List.length_nil, List.length_append] <;> omega)) (fun H H1 h hk h1 => ct_post (e0 := [.inr (0, [.null, .null, .null, .null])]) (e1 := [.inr (2, [.null])]) h hk h1) ?_
  refine aw_putF C en_D (fun w h => List.mem_cons_of_mem _ (ly_A w h)) ty_A ty_A_ok nm_A 0 (en_of rfl) rfl 0 (by decide) (C.1.2.2.2.2 _ (List.mem_cons_of_mem _ kw_53)) (fun _ h => h) rfl hnm rfl (ty := .object "FamilyShelf$Family") (by decide +kernel) rfl rfl (Nat.le_of_ble_eq_true rfl) (ws' := en_ b [.inr (0, [.ref (b + 1), .null, .null, .null]), eF_ (b + 1), eW_ cL]) rfl dc_A_init_12 ?_
  refine aw_aload_n C dc_A_init_15 rfl ?_
  refine aw_newz (h := b) (es := [.inr (0, [.ref (b + 1), .null, .null, .null]), eF_ (b + 1), eW_ cL]) C (by omega) (by simp only [hsz, List.length_cons, List.length_nil, List.length_append] <;> omega) (fun w h => List.mem_cons_of_mem _ (ly_F w h)) ty_F ty_F_ok (C.1.2.2.2.2 _ (List.mem_cons_of_mem _ kw_35)) (C.1.2.2.2.2 _ (List.mem_cons_of_mem _ kw_36)) (C.1.2.2.2.2 _ (List.mem_cons_of_mem _ kw_3)) (ci := 2) rfl (fs := [.null]) (by decide) (by decide) (by decide) dc_A_init_16 ?_
  refine aw_dup C dc_A_init_19 rfl ?_
  refine kq_I (X1 := (fun _ => True)) (As := []) (n := 0) (P' := va_P D cl_ (en_ b ([.inr (0, [.ref (b + 1), .null, .null, .null]), eF_ (b + 1), eW_ cL] ++ [eF_ (b + 3), eW_ cL]))) C (fun _ _ _ _ => trivial) (sp_blind (A := fun _ => True) xk_true) (f_init l D cI cL cF (b + 3)) kw_39 (Or.inr ⟨"FamilyShelf", hX.1 _ (by decide +kernel)⟩) kw_38 kw_3 rfl (by unfold kd_; decide) ⟨rfl, rfl, by decide, by decide⟩ rfl rfl (Nat.le_of_ble_eq_true rfl) ⟨by decide, by decide⟩ dc_A_init_20 (fun q h => Nat.le_trans (Nat.le_add_right _ _) h) (fun H h hz => ct_pre' (e0 := [.inr (0, [.ref (b + 1), .null, .null, .null]), eF_ (b + 1), eW_ cL]) h hz (by simp only [hsz, List.length_cons, List.length_nil, List.length_append] <;> omega)) (fun H H1 h hk h1 => ct_post (e0 := [.inr (0, [.ref (b + 1), .null, .null, .null]), eF_ (b + 1), eW_ cL]) (e1 := [.inr (2, [.null])]) h hk h1) ?_
  refine aw_putF C en_D (fun w h => List.mem_cons_of_mem _ (ly_A w h)) ty_A ty_A_ok nm_A 0 (en_of rfl) rfl 1 (by decide) (C.1.2.2.2.2 _ (List.mem_cons_of_mem _ kw_54)) (fun _ h => h) rfl hnm rfl (ty := .object "FamilyShelf$Family") (by decide +kernel) rfl rfl (Nat.le_of_ble_eq_true rfl) (ws' := en_ b [.inr (0, [.ref (b + 1), .ref (b + 3), .null, .null]), eF_ (b + 1), eW_ cL, eF_ (b + 3), eW_ cL]) rfl dc_A_init_23 ?_
  refine aw_aload_n C dc_A_init_26 rfl ?_
  refine aw_bipush C dc_A_init_27 (v := nI 64) rfl ?_
  refine aw_newaz (h := b) (es := [.inr (0, [.ref (b + 1), .ref (b + 3), .null, .null]), eF_ (b + 1), eW_ cL, eF_ (b + 3), eW_ cL]) C (by omega) (by simp only [hsz, List.length_cons, List.length_nil, List.length_append] <;> omega) (atype := .long) (C.1.2.2.2.2 _ (List.mem_cons_of_mem _ kw_46)) rfl 1 rfl (a0 := (64, .inr (.inl (fun _ => 0)))) (fun _ => by rw [vp_cell_l]; rfl) (N' := 64) rfl (by decide) (by decide) (by decide) (by decide) dc_A_init_29 ?_
  refine aw_putF C en_D (fun w h => List.mem_cons_of_mem _ (ly_A w h)) ty_A ty_A_ok nm_A 0 (en_of rfl) rfl 2 (by decide) (C.1.2.2.2.2 _ (List.mem_cons_of_mem _ kw_55)) (fun _ h => h) rfl hnm rfl (ty := .array .long) (by decide +kernel) rfl rfl (Nat.le_of_ble_eq_true rfl) (ws' := en_ b [.inr (0, [.ref (b + 1), .ref (b + 3), .ref (b + 5), .null]), eF_ (b + 1), eW_ cL, eF_ (b + 3), eW_ cL, eW_ cL]) rfl dc_A_init_31 ?_
  refine aw_aload_n C dc_A_init_34 rfl ?_
  refine aw_bipush C dc_A_init_35 (v := nI 7) rfl ?_
  refine aw_newaz (h := b) (es := [.inr (0, [.ref (b + 1), .ref (b + 3), .ref (b + 5), .null]), eF_ (b + 1), eW_ cL, eF_ (b + 3), eW_ cL, eW_ cL]) C (by omega) (by simp only [hsz, List.length_cons, List.length_nil, List.length_append] <;> omega) (atype := .long) (C.1.2.2.2.2 _ (List.mem_cons_of_mem _ kw_46)) rfl 1 rfl (a0 := (7, .inr (.inl (fun _ => 0)))) (fun _ => by rw [vp_cell_l]; rfl) (N' := 7) rfl (by decide) (by decide) (by decide) (by decide) dc_A_init_37 ?_
  refine aw_putF C en_D (fun w h => List.mem_cons_of_mem _ (ly_A w h)) ty_A ty_A_ok nm_A 0 (en_of rfl) rfl 3 (by decide) (C.1.2.2.2.2 _ (List.mem_cons_of_mem _ kw_56)) (fun _ h => h) rfl hnm rfl (ty := .array .long) (by decide +kernel) rfl rfl (Nat.le_of_ble_eq_true rfl) (ws' := en_ b [.inr (0, [.ref (b + 1), .ref (b + 3), .ref (b + 5), .ref (b + 6)]), eF_ (b + 1), eW_ cL, eF_ (b + 3), eW_ cL, eW_ cL, .inl (cL, 7, .inr (.inl (lz_ 0)))]) rfl dc_A_init_39 ?_
  refine aw_iconst C dc_A_init_42 (v := nI 0) rfl ?_
  refine aw_istore_n C dc_A_init_43 (by decide) rfl ?_
  refine aw_loop (fun k => va_P D cl_ (en_ b [.inr (0, [.ref (b + 1), .ref (b + 3), .ref (b + 5), .ref (b + 6)]), eF_ (b + 1), eW_ cL, eF_ (b + 3), eW_ cL, eW_ cL, .inl (cL, 7, .inr (.inl (lz_ k)))])) (fun k => [some (.ref b), some (.int (nI k))]) 64 ?_ (fun k hk ih => ?_)
  · refine aw_iload_n C dc_A_init_44 rfl ?_
    refine aw_bipush C dc_A_init_45 (v := nI 64) rfl ?_
    refine aw_icmp_ge C dc_A_init_47 (tgt := 71) (by decide) (fun _ => ?_) (fun h9 => absurd (nI_le (Nat.le_refl _) (by decide)) h9)
    exact aw_vret C hr dc_A_init_71 (fun t h _ => ⟨(), trivial, h⟩)
  · have hnb := nb_le k
    refine aw_iload_n C dc_A_init_44 rfl ?_
    refine aw_bipush C dc_A_init_45 (v := nI 64) rfl ?_
    refine aw_icmp_ge C dc_A_init_47 (tgt := 71) (by decide) (fun h9 => absurd h9 (nI_ge hk (by decide))) (fun _ => ?_)
    refine aw_aload_n C dc_A_init_50 rfl ?_
    refine aw_get C (fun w h => List.mem_cons_of_mem _ (ly_A w h)) 0 (en_of rfl) rfl 3 (by decide) (C.1.2.2.2.2 _ (List.mem_cons_of_mem _ kw_56)) (fun _ h => h) rfl dc_A_init_51 ?_
    refine aw_iload_n C dc_A_init_54 rfl ?_
    refine kc_i (fun _ h => h) (fun _ h => h) (kc_S (n := 1) C hX xc_k (j_ibc l D _ _ _ _ k hk) kw_49 kw_47 kw_48 kw_4 (by unfold kd_; decide) ⟨rfl, rfl, by decide, by decide⟩ rfl rfl (Nat.le_of_ble_eq_true rfl) ⟨Nat.zero_le _, Nat.zero_le _⟩ dc_A_init_55) ?_
    refine aw_dup2_11 C dc_A_init_58 rfl rfl ?_
    refine aw_lald C 6 1 (en_of rfl) rfl (nb_ k) rfl (by omega) (by decide) dc_A_init_59 ?_
    refine aw_lconst C dc_A_init_60 (v := 1) rfl ?_
    refine aw_iload_n C dc_A_init_61 rfl ?_
    refine aw_lshl C dc_A_init_62 ?_
    refine aw_lor C dc_A_init_63 ?_
    refine aw_last C en_D 6 1 (en_of rfl) rfl (nb_ k) rfl (by omega) (by decide) (ws' := en_ b [.inr (0, [.ref (b + 1), .ref (b + 3), .ref (b + 5), .ref (b + 6)]), eF_ (b + 1), eW_ cL, eF_ (b + 3), eW_ cL, eW_ cL, .inl (cL, 7, .inr (.inl (lz_ (k + 1))))]) rfl dc_A_init_64 ?_
    refine aw_iinc C dc_A_init_65 rfl (ni_inc _) (by decide) rfl ?_
    refine aw_goto C dc_A_init_68 (tgt := 44) (by decide) ?_
    exact ih
