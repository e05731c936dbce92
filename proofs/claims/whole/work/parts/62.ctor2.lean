set_option maxHeartbeats 4000000 in
set_option maxRecDepth 100000 in
theorem f_init (l : Launch) (D : va_G) (cI cL cF : ClassId) (b : Nat) : kz_ l my_F_init (Cond.code my_F_init bc_F_init 1 none :: tw_) { frames := 1, cells := 1, slots := 64, locals := 20 } D (ty_s cI cL cF) (fun _ => True) (fun q => b ≤ q) [.ref b] (gz_ D b [.inr (2, [.null])]) (va_P D cl_ (en_ b [.inr (2, [.ref (b + 1)]), .inl (cL, 64, .inr (.inl (fun _ => 0)))])) 1 64 := by
  refine aw_metI (A := fun q => b ≤ q) (own := "FamilyShelf$Family") (by decide) rfl rfl (Nat.le_of_ble_eq_true rfl) ?_
  intro p9 e s m args below meth c C hr hnm hX hP0
  have hsz : s.heap.size = b + 1 := hP0.2
  refine aw_P (P' := va_P D cl_ (en_ b [.inr (2, [.null])])) (fun H h => h.1) ?_
  refine aw_lw (lw' := [some (.ref b)]) rfl ?_
  refine aw_aload_n C dc_F_init_0 rfl ?_
  refine aw_oinit C (C.1.2.2.2.2 _ (List.mem_cons_of_mem _ kw_40)) (C.1.2.2.2.2 _ (List.mem_cons_of_mem _ kw_25)) (C.1.2.2.2.2 _ (List.mem_cons_of_mem _ kw_26)) dc_F_init_1 (by decide) (by decide) ?_
  refine aw_aload_n C dc_F_init_4 rfl ?_
  refine aw_bipush C dc_F_init_5 (v := nI 64) rfl ?_
  refine aw_newaz (h := b) (es := [.inr (2, [.null])]) C (by omega) (by simp only [hsz, List.length_cons, List.length_nil, List.length_append] <;> omega) (atype := .long) (C.1.2.2.2.2 _ (List.mem_cons_of_mem _ kw_46)) rfl 1 rfl (a0 := (64, .inr (.inl (fun _ => 0)))) (fun _ => by rw [vp_cell_l]; rfl) (N' := 64) rfl (by decide) (by decide) (by decide) (by decide) dc_F_init_7 ?_
  refine aw_putF C en_D (fun w h => List.mem_cons_of_mem _ (ly_F w h)) ty_F ty_F_ok nm_F 0 (en_of rfl) rfl 0 (by decide) (C.1.2.2.2.2 _ (List.mem_cons_of_mem _ kw_41)) (fun _ h => h) rfl hnm rfl (ty := .array .long) (by decide +kernel) rfl rfl (Nat.le_of_ble_eq_true rfl) (ws' := en_ b [.inr (2, [.ref (b + 1)]), .inl (cL, 64, .inr (.inl (fun _ => 0)))]) rfl dc_F_init_9 ?_
  exact aw_vret C hr dc_F_init_12 (fun t h _ => ⟨(), trivial, h⟩)
set_option maxHeartbeats 4000000 in
set_option maxRecDepth 100000 in
theorem g_init (l : Launch) (D : va_G) (cI cL cF : ClassId) (b : Nat) : kz_ l my_G_init (Cond.code my_G_init bc_G_init 1 none :: tw_) { frames := 1, cells := 1, slots := 12, locals := 20 } D (ty_s cI cL cF) (fun _ => True) (fun q => b ≤ q) [.ref b] (gz_ D b [.inr (3, [.null])]) (va_P D cl_ (en_ b [.inr (3, [.ref (b + 1)]), .inl (cI, 12, .inl (fun _ => 0))])) 1 12 := by
  refine aw_metI (A := fun q => b ≤ q) (own := "FamilyShelf$Graph") (by decide) rfl rfl (Nat.le_of_ble_eq_true rfl) ?_
  intro p9 e s m args below meth c C hr hnm hX hP0
  have hsz : s.heap.size = b + 1 := hP0.2
  refine aw_P (P' := va_P D cl_ (en_ b [.inr (3, [.null])])) (fun H h => h.1) ?_
  refine aw_lw (lw' := [some (.ref b)]) rfl ?_
  refine aw_aload_n C dc_G_init_0 rfl ?_
  refine aw_oinit C (C.1.2.2.2.2 _ (List.mem_cons_of_mem _ kw_71)) (C.1.2.2.2.2 _ (List.mem_cons_of_mem _ kw_25)) (C.1.2.2.2.2 _ (List.mem_cons_of_mem _ kw_26)) dc_G_init_1 (by decide) (by decide) ?_
  refine aw_aload_n C dc_G_init_4 rfl ?_
  refine aw_bipush C dc_G_init_5 (v := nI 12) rfl ?_
  refine aw_newaz (h := b) (es := [.inr (3, [.null])]) C (by omega) (by simp only [hsz, List.length_cons, List.length_nil, List.length_append] <;> omega) (atype := .int) (C.1.2.2.2.2 _ (List.mem_cons_of_mem _ kw_76)) rfl 0 rfl (a0 := (12, .inl (fun _ => 0))) (fun _ => by rw [vp_cell_i]; rfl) (N' := 12) rfl (by decide) (by decide) (by decide) (by decide) dc_G_init_7 ?_
  refine aw_putF C en_D (fun w h => List.mem_cons_of_mem _ (ly_G w h)) ty_G ty_G_ok nm_G 0 (en_of rfl) rfl 0 (by decide) (C.1.2.2.2.2 _ (List.mem_cons_of_mem _ kw_72)) (fun _ h => h) rfl hnm rfl (ty := .array .int) (by decide +kernel) rfl rfl (Nat.le_of_ble_eq_true rfl) (ws' := en_ b [.inr (3, [.ref (b + 1)]), .inl (cI, 12, .inl (fun _ => 0))]) rfl dc_G_init_9 ?_
  exact aw_vret C hr dc_G_init_12 (fun t h _ => ⟨(), trivial, h⟩)
set_option maxHeartbeats 4000000 in
set_option maxRecDepth 100000 in
theorem w_init (l : Launch) (D : va_G) (cI cL cF : ClassId) (b : Nat) : kz_ l my_W_init (Cond.code my_W_init bc_W_init 1 none :: tw_) { frames := 1, cells := 3, slots := 140, locals := 20 } D (ty_s cI cL cF) (fun _ => True) (fun q => b ≤ q) [.ref b] (gz_ D b [.inr (4, [.null, .null, .null])]) (va_P D cl_ (en_ b [.inr (4, [.ref (b + 1), .ref (b + 2), .ref (b + 3)]), .inl (cI, 12, .inl (fun _ => 0)), .inl (cI, 64, .inl (fun _ => 0)), .inl (cI, 64, .inl (fun _ => 0))])) 3 140 := by
  refine aw_metI (A := fun q => b ≤ q) (own := "FamilyShelf$Weights") (by decide) rfl rfl (Nat.le_of_ble_eq_true rfl) ?_
  intro p9 e s m args below meth c C hr hnm hX hP0
  have hsz : s.heap.size = b + 1 := hP0.2
  refine aw_P (P' := va_P D cl_ (en_ b [.inr (4, [.null, .null, .null])])) (fun H h => h.1) ?_
  refine aw_lw (lw' := [some (.ref b)]) rfl ?_
  refine aw_aload_n C dc_W_init_0 rfl ?_
  refine aw_oinit C (C.1.2.2.2.2 _ (List.mem_cons_of_mem _ kw_82)) (C.1.2.2.2.2 _ (List.mem_cons_of_mem _ kw_25)) (C.1.2.2.2.2 _ (List.mem_cons_of_mem _ kw_26)) dc_W_init_1 (by decide) (by decide) ?_
  refine aw_aload_n C dc_W_init_4 rfl ?_
  refine aw_bipush C dc_W_init_5 (v := nI 12) rfl ?_
  refine aw_newaz (h := b) (es := [.inr (4, [.null, .null, .null])]) C (by omega) (by simp only [hsz, List.length_cons, List.length_nil, List.length_append] <;> omega) (atype := .int) (C.1.2.2.2.2 _ (List.mem_cons_of_mem _ kw_76)) rfl 0 rfl (a0 := (12, .inl (fun _ => 0))) (fun _ => by rw [vp_cell_i]; rfl) (N' := 12) rfl (by decide) (by decide) (by decide) (by decide) dc_W_init_7 ?_
  refine aw_putF C en_D (fun w h => List.mem_cons_of_mem _ (ly_W w h)) ty_W ty_W_ok nm_W 0 (en_of rfl) rfl 0 (by decide) (C.1.2.2.2.2 _ (List.mem_cons_of_mem _ kw_83)) (fun _ h => h) rfl hnm rfl (ty := .array .int) (by decide +kernel) rfl rfl (Nat.le_of_ble_eq_true rfl) (ws' := en_ b [.inr (4, [.ref (b + 1), .null, .null]), .inl (cI, 12, .inl (fun _ => 0))]) rfl dc_W_init_9 ?_
  refine aw_aload_n C dc_W_init_12 rfl ?_
  refine aw_bipush C dc_W_init_13 (v := nI 64) rfl ?_
  refine aw_newaz (h := b) (es := [.inr (4, [.ref (b + 1), .null, .null]), .inl (cI, 12, .inl (fun _ => 0))]) C (by omega) (by simp only [hsz, List.length_cons, List.length_nil, List.length_append] <;> omega) (atype := .int) (C.1.2.2.2.2 _ (List.mem_cons_of_mem _ kw_76)) rfl 0 rfl (a0 := (64, .inl (fun _ => 0))) (fun _ => by rw [vp_cell_i]; rfl) (N' := 64) rfl (by decide) (by decide) (by decide) (by decide) dc_W_init_15 ?_
  refine aw_putF C en_D (fun w h => List.mem_cons_of_mem _ (ly_W w h)) ty_W ty_W_ok nm_W 0 (en_of rfl) rfl 1 (by decide) (C.1.2.2.2.2 _ (List.mem_cons_of_mem _ kw_84)) (fun _ h => h) rfl hnm rfl (ty := .array .int) (by decide +kernel) rfl rfl (Nat.le_of_ble_eq_true rfl) (ws' := en_ b [.inr (4, [.ref (b + 1), .ref (b + 2), .null]), .inl (cI, 12, .inl (fun _ => 0)), .inl (cI, 64, .inl (fun _ => 0))]) rfl dc_W_init_17 ?_
  refine aw_aload_n C dc_W_init_20 rfl ?_
  refine aw_bipush C dc_W_init_21 (v := nI 64) rfl ?_
  refine aw_newaz (h := b) (es := [.inr (4, [.ref (b + 1), .ref (b + 2), .null]), .inl (cI, 12, .inl (fun _ => 0)), .inl (cI, 64, .inl (fun _ => 0))]) C (by omega) (by simp only [hsz, List.length_cons, List.length_nil, List.length_append] <;> omega) (atype := .int) (C.1.2.2.2.2 _ (List.mem_cons_of_mem _ kw_76)) rfl 0 rfl (a0 := (64, .inl (fun _ => 0))) (fun _ => by rw [vp_cell_i]; rfl) (N' := 64) rfl (by decide) (by decide) (by decide) (by decide) dc_W_init_23 ?_
  refine aw_putF C en_D (fun w h => List.mem_cons_of_mem _ (ly_W w h)) ty_W ty_W_ok nm_W 0 (en_of rfl) rfl 2 (by decide) (C.1.2.2.2.2 _ (List.mem_cons_of_mem _ kw_85)) (fun _ h => h) rfl hnm rfl (ty := .array .int) (by decide +kernel) rfl rfl (Nat.le_of_ble_eq_true rfl) (ws' := en_ b [.inr (4, [.ref (b + 1), .ref (b + 2), .ref (b + 3)]), .inl (cI, 12, .inl (fun _ => 0)), .inl (cI, 64, .inl (fun _ => 0)), .inl (cI, 64, .inl (fun _ => 0))]) rfl dc_W_init_25 ?_
  exact aw_vret C hr dc_W_init_28 (fun t h _ => ⟨(), trivial, h⟩)
set_option maxHeartbeats 4000000 in
set_option maxRecDepth 100000 in
theorem d_init (l : Launch) (D : va_G) (cI cL cF : ClassId) (b : Nat) : kz_ l my_D_init (Cond.code my_D_init bc_D_init 1 none :: tw_) { frames := 1, cells := 4, slots := 6397, locals := 20 } D (ty_s cI cL cF) (fun _ => True) (fun q => b ≤ q) [.ref b] (gz_ D b [.inr (1, [.null, .null, .null, .null, .int 0])]) (va_P D cl_ (en_ b [.inr (1, [.ref (b + 1), .ref (b + 2), .ref (b + 3), .ref (b + 4), .int 0]), .inl (cI, 4096, .inl (fun _ => 0)), .inl (cI, 767, .inl (fun _ => 0)), .inl (cI, 767, .inl (fun _ => 0)), .inl (cI, 767, .inl (fun _ => 0))])) 4 6397 := by
  refine aw_metI (A := fun q => b ≤ q) (own := "FamilyShelf$Diagram") (by decide) rfl rfl (Nat.le_of_ble_eq_true rfl) ?_
  intro p9 e s m args below meth c C hr hnm hX hP0
  have hsz : s.heap.size = b + 1 := hP0.2
  refine aw_P (P' := va_P D cl_ (en_ b [.inr (1, [.null, .null, .null, .null, .int 0])])) (fun H h => h.1) ?_
  refine aw_lw (lw' := [some (.ref b)]) rfl ?_
  refine aw_aload_n C dc_D_init_0 rfl ?_
  refine aw_oinit C (C.1.2.2.2.2 _ (List.mem_cons_of_mem _ kw_98)) (C.1.2.2.2.2 _ (List.mem_cons_of_mem _ kw_25)) (C.1.2.2.2.2 _ (List.mem_cons_of_mem _ kw_26)) dc_D_init_1 (by decide) (by decide) ?_
  refine aw_aload_n C dc_D_init_4 rfl ?_
  refine aw_sipush C dc_D_init_5 (v := nI 4096) rfl ?_
  refine aw_newaz (h := b) (es := [.inr (1, [.null, .null, .null, .null, .int 0])]) C (by omega) (by simp only [hsz, List.length_cons, List.length_nil, List.length_append] <;> omega) (atype := .int) (C.1.2.2.2.2 _ (List.mem_cons_of_mem _ kw_76)) rfl 0 rfl (a0 := (4096, .inl (fun _ => 0))) (fun _ => by rw [vp_cell_i]; rfl) (N' := 4096) rfl (by decide) (by decide) (by decide) (by decide) dc_D_init_8 ?_
  refine aw_putF C en_D (fun w h => List.mem_cons_of_mem _ (ly_D w h)) ty_D ty_D_ok nm_D 0 (en_of rfl) rfl 0 (by decide) (C.1.2.2.2.2 _ (List.mem_cons_of_mem _ kw_99)) (fun _ h => h) rfl hnm rfl (ty := .array .int) (by decide +kernel) rfl rfl (Nat.le_of_ble_eq_true rfl) (ws' := en_ b [.inr (1, [.ref (b + 1), .null, .null, .null, .int 0]), .inl (cI, 4096, .inl (fun _ => 0))]) rfl dc_D_init_10 ?_
  refine aw_aload_n C dc_D_init_13 rfl ?_
  refine aw_sipush C dc_D_init_14 (v := nI 767) rfl ?_
  refine aw_newaz (h := b) (es := [.inr (1, [.ref (b + 1), .null, .null, .null, .int 0]), .inl (cI, 4096, .inl (fun _ => 0))]) C (by omega) (by simp only [hsz, List.length_cons, List.length_nil, List.length_append] <;> omega) (atype := .int) (C.1.2.2.2.2 _ (List.mem_cons_of_mem _ kw_76)) rfl 0 rfl (a0 := (767, .inl (fun _ => 0))) (fun _ => by rw [vp_cell_i]; rfl) (N' := 767) rfl (by decide) (by decide) (by decide) (by decide) dc_D_init_17 ?_
  refine aw_putF C en_D (fun w h => List.mem_cons_of_mem _ (ly_D w h)) ty_D ty_D_ok nm_D 0 (en_of rfl) rfl 1 (by decide) (C.1.2.2.2.2 _ (List.mem_cons_of_mem _ kw_100)) (fun _ h => h) rfl hnm rfl (ty := .array .int) (by decide +kernel) rfl rfl (Nat.le_of_ble_eq_true rfl) (ws' := en_ b [.inr (1, [.ref (b + 1), .ref (b + 2), .null, .null, .int 0]), .inl (cI, 4096, .inl (fun _ => 0)), .inl (cI, 767, .inl (fun _ => 0))]) rfl dc_D_init_19 ?_
  refine aw_aload_n C dc_D_init_22 rfl ?_
  refine aw_sipush C dc_D_init_23 (v := nI 767) rfl ?_
  refine aw_newaz (h := b) (es := [.inr (1, [.ref (b + 1), .ref (b + 2), .null, .null, .int 0]), .inl (cI, 4096, .inl (fun _ => 0)), .inl (cI, 767, .inl (fun _ => 0))]) C (by omega) (by simp only [hsz, List.length_cons, List.length_nil, List.length_append] <;> omega) (atype := .int) (C.1.2.2.2.2 _ (List.mem_cons_of_mem _ kw_76)) rfl 0 rfl (a0 := (767, .inl (fun _ => 0))) (fun _ => by rw [vp_cell_i]; rfl) (N' := 767) rfl (by decide) (by decide) (by decide) (by decide) dc_D_init_26 ?_
  refine aw_putF C en_D (fun w h => List.mem_cons_of_mem _ (ly_D w h)) ty_D ty_D_ok nm_D 0 (en_of rfl) rfl 2 (by decide) (C.1.2.2.2.2 _ (List.mem_cons_of_mem _ kw_101)) (fun _ h => h) rfl hnm rfl (ty := .array .int) (by decide +kernel) rfl rfl (Nat.le_of_ble_eq_true rfl) (ws' := en_ b [.inr (1, [.ref (b + 1), .ref (b + 2), .ref (b + 3), .null, .int 0]), .inl (cI, 4096, .inl (fun _ => 0)), .inl (cI, 767, .inl (fun _ => 0)), .inl (cI, 767, .inl (fun _ => 0))]) rfl dc_D_init_28 ?_
  refine aw_aload_n C dc_D_init_31 rfl ?_
  refine aw_sipush C dc_D_init_32 (v := nI 767) rfl ?_
  refine aw_newaz (h := b) (es := [.inr (1, [.ref (b + 1), .ref (b + 2), .ref (b + 3), .null, .int 0]), .inl (cI, 4096, .inl (fun _ => 0)), .inl (cI, 767, .inl (fun _ => 0)), .inl (cI, 767, .inl (fun _ => 0))]) C (by omega) (by simp only [hsz, List.length_cons, List.length_nil, List.length_append] <;> omega) (atype := .int) (C.1.2.2.2.2 _ (List.mem_cons_of_mem _ kw_76)) rfl 0 rfl (a0 := (767, .inl (fun _ => 0))) (fun _ => by rw [vp_cell_i]; rfl) (N' := 767) rfl (by decide) (by decide) (by decide) (by decide) dc_D_init_35 ?_
  refine aw_putF C en_D (fun w h => List.mem_cons_of_mem _ (ly_D w h)) ty_D ty_D_ok nm_D 0 (en_of rfl) rfl 3 (by decide) (C.1.2.2.2.2 _ (List.mem_cons_of_mem _ kw_102)) (fun _ h => h) rfl hnm rfl (ty := .array .int) (by decide +kernel) rfl rfl (Nat.le_of_ble_eq_true rfl) (ws' := en_ b [.inr (1, [.ref (b + 1), .ref (b + 2), .ref (b + 3), .ref (b + 4), .int 0]), .inl (cI, 4096, .inl (fun _ => 0)), .inl (cI, 767, .inl (fun _ => 0)), .inl (cI, 767, .inl (fun _ => 0)), .inl (cI, 767, .inl (fun _ => 0))]) rfl dc_D_init_37 ?_
  exact aw_vret C hr dc_D_init_40 (fun t h _ => ⟨(), trivial, h⟩)
