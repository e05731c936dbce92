set_option maxHeartbeats 4000000 in
set_option maxRecDepth 100000 in
theorem m_combine0 (l : Launch) (D : va_G) (a : Nat) (cI cL cF : ClassId) (t : Int32) (S K Qt : Nat → Int64) (O1 O2 En Ot Wt : Nat → Int32) (i : Nat) (hi : i < 10) (f9 : Nat) (hf : f9 < 10) (g9 : Nat) (hg : g9 < 10) : ki_ l my_M_combine (Cond.code my_M_combine bc_M_combine 10 (some .int) :: tw_) ({ frames := 3, cells := 0, slots := 0, locals := 75 }) D (ty_s cI cL cF) (fun _ => True) (cm_ a) [.ref a, .int (nI i), .int (nI 0), .int (nI f9), .int (nI g9)] (rp_ D a cI cL t S K Qt O1 O2 En Ot Wt) (rp_ D a cI cL (nI 0) (sl_ S i (fw_ (fun j => S (64 * f9 + j) ||| S (64 * g9 + j)) (fl_ K 64 0) 64) 64) (fw_ (fun j => S (64 * f9 + j) ||| S (64 * g9 + j)) (fl_ K 64 0) 64) Qt O1 O2 En Ot Wt) (nI (tw64_ (rw_ (sl_ S i (fw_ (fun j => S (64 * f9 + j) ||| S (64 * g9 + j)) (fl_ K 64 0) 64) 64) i) 64)) := by
  refine aw_met (A := cm_ a) (own := "FamilyShelfModel") (by decide) rfl rfl (Nat.le_of_ble_eq_true rfl) ?_
  intro p9 e s m args below meth c C hr hX hP0
  refine aw_lw (lw' := [some (.ref a), some (.int (nI i)), some (.int (nI 0)), some (.int (nI f9)), some (.int (nI g9)), none, none, none, none, none]) rfl ?_
  refine aw_aload_n C dc_M_combine_0 rfl ?_
  refine aw_iload_n C dc_M_combine_1 rfl ?_
  refine kc_i (fun _ h => h) (fun _ h => h) (kc_S (n := 1) C hX xk_true (m_noShelf0 l D _ _ _ _ i hi) kw_677 kw_675 kw_676 kw_8 (by unfold kd_; decide) ⟨rfl, rfl, by decide, by decide⟩ rfl rfl (Nat.le_of_ble_eq_true rfl) ⟨Nat.zero_le _, Nat.zero_le _⟩ dc_M_combine_2) ?_
  refine aw_if_ne C dc_M_combine_5 (tgt := 23) (by decide) (fun h9 => absurd (by decide) h9) (fun _ => ?_)
  refine aw_iload_n C dc_M_combine_8 rfl ?_
  refine kc_i (fun _ h => h) (fun _ h => h) (kc_S (n := 1) C hX xk_true (m_noShelf0 l D _ _ _ _ f9 hf) kw_677 kw_675 kw_676 kw_8 (by unfold kd_; decide) ⟨rfl, rfl, by decide, by decide⟩ rfl rfl (Nat.le_of_ble_eq_true rfl) ⟨Nat.zero_le _, Nat.zero_le _⟩ dc_M_combine_9) ?_
  refine aw_if_ne C dc_M_combine_12 (tgt := 23) (by decide) (fun h9 => absurd (by decide) h9) (fun _ => ?_)
  refine aw_iload C dc_M_combine_15 rfl ?_
  refine kc_i (fun _ h => h) (fun _ h => h) (kc_S (n := 1) C hX xk_true (m_noShelf0 l D _ _ _ _ g9 hg) kw_677 kw_675 kw_676 kw_8 (by unfold kd_; decide) ⟨rfl, rfl, by decide, by decide⟩ rfl rfl (Nat.le_of_ble_eq_true rfl) ⟨Nat.zero_le _, Nat.zero_le _⟩ dc_M_combine_17) ?_
  refine aw_if_eq C dc_M_combine_20 (tgt := 27) (by decide) (fun _ => ?_) (fun h9 => absurd (by decide) h9)
  refine aw_iload_n C dc_M_combine_27 rfl ?_
  refine aw_if_lt C dc_M_combine_28 (tgt := 37) (by decide) (fun h9 => absurd h9 (by decide)) (fun _ => ?_)
  refine aw_iload_n C dc_M_combine_31 rfl ?_
  refine aw_bipush C dc_M_combine_32 (v := nI 8) rfl ?_
  refine aw_icmp_le C dc_M_combine_34 (tgt := 41) (by decide) (fun _ => ?_) (fun h9 => absurd (by decide) h9)
  refine aw_iload_n C dc_M_combine_41 rfl ?_
  refine aw_bipush C dc_M_combine_42 (v := nI 6) rfl ?_
  refine aw_icmp_le C dc_M_combine_44 (tgt := 60) (by decide) (fun _ => ?_) (fun h9 => absurd (by decide) h9)
  refine aw_iconst C dc_M_combine_60 (v := nI 0) rfl ?_
  refine aw_put C rf_D (fun w h => List.mem_cons_of_mem _ (ly_M w h)) ty_M ty_M_ok nm_M 0 rf_p0 rfl 0 (by decide) (C.1.2.2.2.2 _ (List.mem_cons_of_mem _ kw_636)) (fun _ h => h) rfl (ty := .int) (by decide +kernel) rfl rfl (Nat.le_of_ble_eq_true rfl) (ws' := rf_ a cI cL (nI 0) S K Qt O1 O2 En Ot Wt) rfl dc_M_combine_61 ?_
  refine aw_aload_n C dc_M_combine_64 rfl ?_
  refine aw_get C (fun w h => List.mem_cons_of_mem _ (ly_M w h)) 0 rf_p0 rfl 0 (by decide) (C.1.2.2.2.2 _ (List.mem_cons_of_mem _ kw_636)) (fun _ h => h) rfl dc_M_combine_65 ?_
  refine aw_if_eq C dc_M_combine_68 (tgt := 73) (by decide) (fun _ => ?_) (fun h9 => absurd (by decide) h9)
  refine aw_aload_n C dc_M_combine_73 rfl ?_
  refine kc_v (fun _ h => h) (fun _ h => h) (kc_V (n := 0) C hX xk_true rfl 0 rf_p0 rfl (m_begin l D a cI cL cF (nI 0) S K Qt O1 O2 En Ot Wt) kw_708 kw_705 kw_707 (tw_sel (q := (my_M_begin, 9)) (by decide +kernel)) kw_8 rfl (by unfold kd_; decide) ⟨rfl, rfl, by decide, by decide⟩ rfl rfl (Nat.le_of_ble_eq_true rfl) ⟨Nat.zero_le _, Nat.zero_le _⟩ dc_M_combine_74) ?_
  refine aw_iload_n C dc_M_combine_77 rfl ?_
  refine aw_tabOut C dc_M_combine_78 (tgt := 180) (Or.inl (by decide)) (by decide) ?_
  refine aw_iconst C dc_M_combine_180 (v := nI 0) rfl ?_
  refine aw_istore C dc_M_combine_181 (by decide) rfl ?_
  refine aw_P (P' := rp_ D a cI cL (nI 0) S (fw_ (fun j => S (64 * f9 + j) ||| S (64 * g9 + j)) (fl_ K 64 0) 0) Qt O1 O2 En Ot Wt) (fun H h => by rw [fw_0]; exact h) ?_
  refine aw_loop (fun k => rp_ D a cI cL (nI 0) S (fw_ (fun j => S (64 * f9 + j) ||| S (64 * g9 + j)) (fl_ K 64 0) k) Qt O1 O2 En Ot Wt) (fun k => [some (.ref a), some (.int (nI i)), some (.int (nI 0)), some (.int (nI f9)), some (.int (nI g9)), some (.int (nI k)), none, none, none, none]) 64 ?_ (fun k hk ih => ?_)
  · refine aw_iload C dc_M_combine_183 rfl ?_
    refine aw_bipush C dc_M_combine_185 (v := nI 64) rfl ?_
    refine aw_icmp_ge C dc_M_combine_187 (tgt := 266) (by decide) (fun _ => ?_) (fun h9 => absurd (nI_le (Nat.le_refl _) (by decide)) h9)
    refine aw_aload_n C dc_M_combine_266 rfl ?_
    refine aw_iload_n C dc_M_combine_267 rfl ?_
    refine kc_i (fun _ h => h) (fun _ h => h) (kc_V (n := 1) C hX xk_true rfl 0 rf_p0 rfl (m_lay l D a cI cL cF (nI 0) S (fw_ (fun j => S (64 * f9 + j) ||| S (64 * g9 + j)) (fl_ K 64 0) 64) Qt O1 O2 En Ot Wt i hi) kw_742 kw_739 kw_741 (tw_sel (q := (my_M_lay, 9)) (by decide +kernel)) kw_8 rfl (by unfold kd_; decide) ⟨rfl, rfl, by decide, by decide⟩ rfl rfl (Nat.le_of_ble_eq_true rfl) ⟨Nat.zero_le _, Nat.zero_le _⟩ dc_M_combine_268) ?_
    exact kc_iret C hr rfl (fun _ h => h) dc_M_combine_271
  · refine aw_iload C dc_M_combine_183 rfl ?_
    refine aw_bipush C dc_M_combine_185 (v := nI 64) rfl ?_
    refine aw_icmp_ge C dc_M_combine_187 (tgt := 266) (by decide) (fun h9 => absurd h9 (nI_ge hk (by decide))) (fun _ => ?_)
    refine aw_aload_n C dc_M_combine_190 rfl ?_
    refine aw_get C (fun w h => List.mem_cons_of_mem _ (ly_M w h)) 0 rf_p0 rfl 1 (by decide) (C.1.2.2.2.2 _ (List.mem_cons_of_mem _ kw_637)) (fun _ h => h) rfl dc_M_combine_191 ?_
    refine aw_bipush C dc_M_combine_194 (v := nI 64) rfl ?_
    refine aw_iload_n C dc_M_combine_196 rfl ?_
    refine aw_imul C dc_M_combine_197 ?_
    refine aw_iload C dc_M_combine_198 rfl ?_
    refine aw_iadd C dc_M_combine_200 ?_
    refine aw_lald C 1 1 rf_p1 rfl (64 * f9 + k) (ms_i2 f9 k) (by omega) (by decide) dc_M_combine_201 ?_
    refine aw_lstore C dc_M_combine_202 (by decide) rfl ?_
    refine aw_aload_n C dc_M_combine_204 rfl ?_
    refine aw_get C (fun w h => List.mem_cons_of_mem _ (ly_M w h)) 0 rf_p0 rfl 1 (by decide) (C.1.2.2.2.2 _ (List.mem_cons_of_mem _ kw_637)) (fun _ h => h) rfl dc_M_combine_205 ?_
    refine aw_bipush C dc_M_combine_208 (v := nI 64) rfl ?_
    refine aw_iload C dc_M_combine_210 rfl ?_
    refine aw_imul C dc_M_combine_212 ?_
    refine aw_iload C dc_M_combine_213 rfl ?_
    refine aw_iadd C dc_M_combine_215 ?_
    refine aw_lald C 1 1 rf_p1 rfl (64 * g9 + k) (ms_i2 g9 k) (by omega) (by decide) dc_M_combine_216 ?_
    refine aw_lstore C dc_M_combine_217 (by decide) rfl ?_
    refine aw_aload_n C dc_M_combine_219 rfl ?_
    refine aw_get C (fun w h => List.mem_cons_of_mem _ (ly_M w h)) 0 rf_p0 rfl 2 (by decide) (C.1.2.2.2.2 _ (List.mem_cons_of_mem _ kw_638)) (fun _ h => h) rfl dc_M_combine_220 ?_
    refine aw_iload C dc_M_combine_223 rfl ?_
    refine aw_iload_n C dc_M_combine_225 rfl ?_
    refine aw_if_ne C dc_M_combine_226 (tgt := 237) (by decide) (fun h9 => absurd (by decide) h9) (fun _ => ?_)
    refine aw_lload C dc_M_combine_229 rfl ?_
    refine aw_lload C dc_M_combine_231 rfl ?_
    refine aw_lor C dc_M_combine_233 ?_
    refine aw_goto C dc_M_combine_234 (tgt := 259) (by decide) ?_
    refine aw_last C rf_D 2 1 rf_p2 rfl k rfl (by omega) (by decide) (ws' := rf_ a cI cL (nI 0) S (fw_ (fun j => S (64 * f9 + j) ||| S (64 * g9 + j)) (fl_ K 64 0) (k + 1)) Qt O1 O2 En Ot Wt) (by rw [← fw_s]; rfl) dc_M_combine_259 ?_
    refine aw_iinc C dc_M_combine_260 rfl (ni_inc _) (by decide) rfl ?_
    refine aw_goto C dc_M_combine_263 (tgt := 183) (by decide) ?_
    refine aw_sub (lw' := [some (.ref a), some (.int (nI i)), some (.int (nI 0)), some (.int (nI f9)), some (.int (nI g9)), some (.int (nI (k + 1))), none, none, none, none]) (by
      intro k v h
      match k, h with
      | 0, h => exact h
      | 1, h => exact h
      | 2, h => exact h
      | 3, h => exact h
      | 4, h => exact h
      | 5, h => exact h
      | 6, h => exact nomatch (show (some none : Option (Option Value)) = some (some v) from h)
      | 7, h => exact nomatch (show (some none : Option (Option Value)) = some (some v) from h)
      | 8, h => exact nomatch (show (some none : Option (Option Value)) = some (some v) from h)
      | 9, h => exact nomatch (show (some none : Option (Option Value)) = some (some v) from h)
      | n + 10, h => exact nomatch (show (none : Option (Option Value)) = some (some v) from h)) ?_
    exact ih
set_option maxHeartbeats 4000000 in
set_option maxRecDepth 100000 in
theorem m_combine1 (l : Launch) (D : va_G) (a : Nat) (cI cL cF : ClassId) (t : Int32) (S K Qt : Nat → Int64) (O1 O2 En Ot Wt : Nat → Int32) (i : Nat) (hi : i < 10) (f9 : Nat) (hf : f9 < 10) (g9 : Nat) (hg : g9 < 10) : ki_ l my_M_combine (Cond.code my_M_combine bc_M_combine 10 (some .int) :: tw_) ({ frames := 3, cells := 0, slots := 0, locals := 75 }) D (ty_s cI cL cF) (fun _ => True) (cm_ a) [.ref a, .int (nI i), .int (nI 1), .int (nI f9), .int (nI g9)] (rp_ D a cI cL t S K Qt O1 O2 En Ot Wt) (rp_ D a cI cL (nI 0) (sl_ S i (fw_ (fun j => S (64 * f9 + j) &&& S (64 * g9 + j)) (fl_ K 64 0) 64) 64) (fw_ (fun j => S (64 * f9 + j) &&& S (64 * g9 + j)) (fl_ K 64 0) 64) Qt O1 O2 En Ot Wt) (nI (tw64_ (rw_ (sl_ S i (fw_ (fun j => S (64 * f9 + j) &&& S (64 * g9 + j)) (fl_ K 64 0) 64) 64) i) 64)) := by
  refine aw_met (A := cm_ a) (own := "FamilyShelfModel") (by decide) rfl rfl (Nat.le_of_ble_eq_true rfl) ?_
  intro p9 e s m args below meth c C hr hX hP0
  refine aw_lw (lw' := [some (.ref a), some (.int (nI i)), some (.int (nI 1)), some (.int (nI f9)), some (.int (nI g9)), none, none, none, none, none]) rfl ?_
  refine aw_aload_n C dc_M_combine_0 rfl ?_
  refine aw_iload_n C dc_M_combine_1 rfl ?_
  refine kc_i (fun _ h => h) (fun _ h => h) (kc_S (n := 1) C hX xk_true (m_noShelf0 l D _ _ _ _ i hi) kw_677 kw_675 kw_676 kw_8 (by unfold kd_; decide) ⟨rfl, rfl, by decide, by decide⟩ rfl rfl (Nat.le_of_ble_eq_true rfl) ⟨Nat.zero_le _, Nat.zero_le _⟩ dc_M_combine_2) ?_
  refine aw_if_ne C dc_M_combine_5 (tgt := 23) (by decide) (fun h9 => absurd (by decide) h9) (fun _ => ?_)
  refine aw_iload_n C dc_M_combine_8 rfl ?_
  refine kc_i (fun _ h => h) (fun _ h => h) (kc_S (n := 1) C hX xk_true (m_noShelf0 l D _ _ _ _ f9 hf) kw_677 kw_675 kw_676 kw_8 (by unfold kd_; decide) ⟨rfl, rfl, by decide, by decide⟩ rfl rfl (Nat.le_of_ble_eq_true rfl) ⟨Nat.zero_le _, Nat.zero_le _⟩ dc_M_combine_9) ?_
  refine aw_if_ne C dc_M_combine_12 (tgt := 23) (by decide) (fun h9 => absurd (by decide) h9) (fun _ => ?_)
  refine aw_iload C dc_M_combine_15 rfl ?_
  refine kc_i (fun _ h => h) (fun _ h => h) (kc_S (n := 1) C hX xk_true (m_noShelf0 l D _ _ _ _ g9 hg) kw_677 kw_675 kw_676 kw_8 (by unfold kd_; decide) ⟨rfl, rfl, by decide, by decide⟩ rfl rfl (Nat.le_of_ble_eq_true rfl) ⟨Nat.zero_le _, Nat.zero_le _⟩ dc_M_combine_17) ?_
  refine aw_if_eq C dc_M_combine_20 (tgt := 27) (by decide) (fun _ => ?_) (fun h9 => absurd (by decide) h9)
  refine aw_iload_n C dc_M_combine_27 rfl ?_
  refine aw_if_lt C dc_M_combine_28 (tgt := 37) (by decide) (fun h9 => absurd h9 (by decide)) (fun _ => ?_)
  refine aw_iload_n C dc_M_combine_31 rfl ?_
  refine aw_bipush C dc_M_combine_32 (v := nI 8) rfl ?_
  refine aw_icmp_le C dc_M_combine_34 (tgt := 41) (by decide) (fun _ => ?_) (fun h9 => absurd (by decide) h9)
  refine aw_iload_n C dc_M_combine_41 rfl ?_
  refine aw_bipush C dc_M_combine_42 (v := nI 6) rfl ?_
  refine aw_icmp_le C dc_M_combine_44 (tgt := 60) (by decide) (fun _ => ?_) (fun h9 => absurd (by decide) h9)
  refine aw_iconst C dc_M_combine_60 (v := nI 0) rfl ?_
  refine aw_put C rf_D (fun w h => List.mem_cons_of_mem _ (ly_M w h)) ty_M ty_M_ok nm_M 0 rf_p0 rfl 0 (by decide) (C.1.2.2.2.2 _ (List.mem_cons_of_mem _ kw_636)) (fun _ h => h) rfl (ty := .int) (by decide +kernel) rfl rfl (Nat.le_of_ble_eq_true rfl) (ws' := rf_ a cI cL (nI 0) S K Qt O1 O2 En Ot Wt) rfl dc_M_combine_61 ?_
  refine aw_aload_n C dc_M_combine_64 rfl ?_
  refine aw_get C (fun w h => List.mem_cons_of_mem _ (ly_M w h)) 0 rf_p0 rfl 0 (by decide) (C.1.2.2.2.2 _ (List.mem_cons_of_mem _ kw_636)) (fun _ h => h) rfl dc_M_combine_65 ?_
  refine aw_if_eq C dc_M_combine_68 (tgt := 73) (by decide) (fun _ => ?_) (fun h9 => absurd (by decide) h9)
  refine aw_aload_n C dc_M_combine_73 rfl ?_
  refine kc_v (fun _ h => h) (fun _ h => h) (kc_V (n := 0) C hX xk_true rfl 0 rf_p0 rfl (m_begin l D a cI cL cF (nI 0) S K Qt O1 O2 En Ot Wt) kw_708 kw_705 kw_707 (tw_sel (q := (my_M_begin, 9)) (by decide +kernel)) kw_8 rfl (by unfold kd_; decide) ⟨rfl, rfl, by decide, by decide⟩ rfl rfl (Nat.le_of_ble_eq_true rfl) ⟨Nat.zero_le _, Nat.zero_le _⟩ dc_M_combine_74) ?_
  refine aw_iload_n C dc_M_combine_77 rfl ?_
  refine aw_tabOut C dc_M_combine_78 (tgt := 180) (Or.inl (by decide)) (by decide) ?_
  refine aw_iconst C dc_M_combine_180 (v := nI 0) rfl ?_
  refine aw_istore C dc_M_combine_181 (by decide) rfl ?_
  refine aw_P (P' := rp_ D a cI cL (nI 0) S (fw_ (fun j => S (64 * f9 + j) &&& S (64 * g9 + j)) (fl_ K 64 0) 0) Qt O1 O2 En Ot Wt) (fun H h => by rw [fw_0]; exact h) ?_
  refine aw_loop (fun k => rp_ D a cI cL (nI 0) S (fw_ (fun j => S (64 * f9 + j) &&& S (64 * g9 + j)) (fl_ K 64 0) k) Qt O1 O2 En Ot Wt) (fun k => [some (.ref a), some (.int (nI i)), some (.int (nI 1)), some (.int (nI f9)), some (.int (nI g9)), some (.int (nI k)), none, none, none, none]) 64 ?_ (fun k hk ih => ?_)
  · refine aw_iload C dc_M_combine_183 rfl ?_
    refine aw_bipush C dc_M_combine_185 (v := nI 64) rfl ?_
    refine aw_icmp_ge C dc_M_combine_187 (tgt := 266) (by decide) (fun _ => ?_) (fun h9 => absurd (nI_le (Nat.le_refl _) (by decide)) h9)
    refine aw_aload_n C dc_M_combine_266 rfl ?_
    refine aw_iload_n C dc_M_combine_267 rfl ?_
    refine kc_i (fun _ h => h) (fun _ h => h) (kc_V (n := 1) C hX xk_true rfl 0 rf_p0 rfl (m_lay l D a cI cL cF (nI 0) S (fw_ (fun j => S (64 * f9 + j) &&& S (64 * g9 + j)) (fl_ K 64 0) 64) Qt O1 O2 En Ot Wt i hi) kw_742 kw_739 kw_741 (tw_sel (q := (my_M_lay, 9)) (by decide +kernel)) kw_8 rfl (by unfold kd_; decide) ⟨rfl, rfl, by decide, by decide⟩ rfl rfl (Nat.le_of_ble_eq_true rfl) ⟨Nat.zero_le _, Nat.zero_le _⟩ dc_M_combine_268) ?_
    exact kc_iret C hr rfl (fun _ h => h) dc_M_combine_271
  · refine aw_iload C dc_M_combine_183 rfl ?_
    refine aw_bipush C dc_M_combine_185 (v := nI 64) rfl ?_
    refine aw_icmp_ge C dc_M_combine_187 (tgt := 266) (by decide) (fun h9 => absurd h9 (nI_ge hk (by decide))) (fun _ => ?_)
    refine aw_aload_n C dc_M_combine_190 rfl ?_
    refine aw_get C (fun w h => List.mem_cons_of_mem _ (ly_M w h)) 0 rf_p0 rfl 1 (by decide) (C.1.2.2.2.2 _ (List.mem_cons_of_mem _ kw_637)) (fun _ h => h) rfl dc_M_combine_191 ?_
    refine aw_bipush C dc_M_combine_194 (v := nI 64) rfl ?_
    refine aw_iload_n C dc_M_combine_196 rfl ?_
    refine aw_imul C dc_M_combine_197 ?_
    refine aw_iload C dc_M_combine_198 rfl ?_
    refine aw_iadd C dc_M_combine_200 ?_
    refine aw_lald C 1 1 rf_p1 rfl (64 * f9 + k) (ms_i2 f9 k) (by omega) (by decide) dc_M_combine_201 ?_
    refine aw_lstore C dc_M_combine_202 (by decide) rfl ?_
    refine aw_aload_n C dc_M_combine_204 rfl ?_
    refine aw_get C (fun w h => List.mem_cons_of_mem _ (ly_M w h)) 0 rf_p0 rfl 1 (by decide) (C.1.2.2.2.2 _ (List.mem_cons_of_mem _ kw_637)) (fun _ h => h) rfl dc_M_combine_205 ?_
    refine aw_bipush C dc_M_combine_208 (v := nI 64) rfl ?_
    refine aw_iload C dc_M_combine_210 rfl ?_
    refine aw_imul C dc_M_combine_212 ?_
    refine aw_iload C dc_M_combine_213 rfl ?_
    refine aw_iadd C dc_M_combine_215 ?_
    refine aw_lald C 1 1 rf_p1 rfl (64 * g9 + k) (ms_i2 g9 k) (by omega) (by decide) dc_M_combine_216 ?_
    refine aw_lstore C dc_M_combine_217 (by decide) rfl ?_
    refine aw_aload_n C dc_M_combine_219 rfl ?_
    refine aw_get C (fun w h => List.mem_cons_of_mem _ (ly_M w h)) 0 rf_p0 rfl 2 (by decide) (C.1.2.2.2.2 _ (List.mem_cons_of_mem _ kw_638)) (fun _ h => h) rfl dc_M_combine_220 ?_
    refine aw_iload C dc_M_combine_223 rfl ?_
    refine aw_iload_n C dc_M_combine_225 rfl ?_
    refine aw_if_ne C dc_M_combine_226 (tgt := 237) (by decide) (fun _ => ?_) (fun h9 => absurd h9 (by decide))
    refine aw_iload_n C dc_M_combine_237 rfl ?_
    refine aw_iconst C dc_M_combine_238 (v := nI 1) rfl ?_
    refine aw_icmp_ne C dc_M_combine_239 (tgt := 250) (by decide) (fun h9 => absurd (by decide) h9) (fun _ => ?_)
    refine aw_lload C dc_M_combine_242 rfl ?_
    refine aw_lload C dc_M_combine_244 rfl ?_
    refine aw_land C dc_M_combine_246 ?_
    refine aw_goto C dc_M_combine_247 (tgt := 259) (by decide) ?_
    refine aw_last C rf_D 2 1 rf_p2 rfl k rfl (by omega) (by decide) (ws' := rf_ a cI cL (nI 0) S (fw_ (fun j => S (64 * f9 + j) &&& S (64 * g9 + j)) (fl_ K 64 0) (k + 1)) Qt O1 O2 En Ot Wt) (by rw [← fw_s]; rfl) dc_M_combine_259 ?_
    refine aw_iinc C dc_M_combine_260 rfl (ni_inc _) (by decide) rfl ?_
    refine aw_goto C dc_M_combine_263 (tgt := 183) (by decide) ?_
    refine aw_sub (lw' := [some (.ref a), some (.int (nI i)), some (.int (nI 1)), some (.int (nI f9)), some (.int (nI g9)), some (.int (nI (k + 1))), none, none, none, none]) (by
      intro k v h
      match k, h with
      | 0, h => exact h
      | 1, h => exact h
      | 2, h => exact h
      | 3, h => exact h
      | 4, h => exact h
      | 5, h => exact h
      | 6, h => exact nomatch (show (some none : Option (Option Value)) = some (some v) from h)
      | 7, h => exact nomatch (show (some none : Option (Option Value)) = some (some v) from h)
      | 8, h => exact nomatch (show (some none : Option (Option Value)) = some (some v) from h)
      | 9, h => exact nomatch (show (some none : Option (Option Value)) = some (some v) from h)
      | n + 10, h => exact nomatch (show (none : Option (Option Value)) = some (some v) from h)) ?_
    exact ih
set_option maxHeartbeats 4000000 in
set_option maxRecDepth 100000 in
theorem m_combine2 (l : Launch) (D : va_G) (a : Nat) (cI cL cF : ClassId) (t : Int32) (S K Qt : Nat → Int64) (O1 O2 En Ot Wt : Nat → Int32) (i : Nat) (hi : i < 10) (f9 : Nat) (hf : f9 < 10) (g9 : Nat) (hg : g9 < 10) : ki_ l my_M_combine (Cond.code my_M_combine bc_M_combine 10 (some .int) :: tw_) ({ frames := 3, cells := 0, slots := 0, locals := 75 }) D (ty_s cI cL cF) (fun _ => True) (cm_ a) [.ref a, .int (nI i), .int (nI 2), .int (nI f9), .int (nI g9)] (rp_ D a cI cL t S K Qt O1 O2 En Ot Wt) (rp_ D a cI cL (nI 0) (sl_ S i (fw_ (fun j => S (64 * f9 + j) &&& (S (64 * g9 + j) ^^^ (-1))) (fl_ K 64 0) 64) 64) (fw_ (fun j => S (64 * f9 + j) &&& (S (64 * g9 + j) ^^^ (-1))) (fl_ K 64 0) 64) Qt O1 O2 En Ot Wt) (nI (tw64_ (rw_ (sl_ S i (fw_ (fun j => S (64 * f9 + j) &&& (S (64 * g9 + j) ^^^ (-1))) (fl_ K 64 0) 64) 64) i) 64)) := by
  refine aw_met (A := cm_ a) (own := "FamilyShelfModel") (by decide) rfl rfl (Nat.le_of_ble_eq_true rfl) ?_
  intro p9 e s m args below meth c C hr hX hP0
  refine aw_lw (lw' := [some (.ref a), some (.int (nI i)), some (.int (nI 2)), some (.int (nI f9)), some (.int (nI g9)), none, none, none, none, none]) rfl ?_
  refine aw_aload_n C dc_M_combine_0 rfl ?_
  refine aw_iload_n C dc_M_combine_1 rfl ?_
  refine kc_i (fun _ h => h) (fun _ h => h) (kc_S (n := 1) C hX xk_true (m_noShelf0 l D _ _ _ _ i hi) kw_677 kw_675 kw_676 kw_8 (by unfold kd_; decide) ⟨rfl, rfl, by decide, by decide⟩ rfl rfl (Nat.le_of_ble_eq_true rfl) ⟨Nat.zero_le _, Nat.zero_le _⟩ dc_M_combine_2) ?_
  refine aw_if_ne C dc_M_combine_5 (tgt := 23) (by decide) (fun h9 => absurd (by decide) h9) (fun _ => ?_)
  refine aw_iload_n C dc_M_combine_8 rfl ?_
  refine kc_i (fun _ h => h) (fun _ h => h) (kc_S (n := 1) C hX xk_true (m_noShelf0 l D _ _ _ _ f9 hf) kw_677 kw_675 kw_676 kw_8 (by unfold kd_; decide) ⟨rfl, rfl, by decide, by decide⟩ rfl rfl (Nat.le_of_ble_eq_true rfl) ⟨Nat.zero_le _, Nat.zero_le _⟩ dc_M_combine_9) ?_
  refine aw_if_ne C dc_M_combine_12 (tgt := 23) (by decide) (fun h9 => absurd (by decide) h9) (fun _ => ?_)
  refine aw_iload C dc_M_combine_15 rfl ?_
  refine kc_i (fun _ h => h) (fun _ h => h) (kc_S (n := 1) C hX xk_true (m_noShelf0 l D _ _ _ _ g9 hg) kw_677 kw_675 kw_676 kw_8 (by unfold kd_; decide) ⟨rfl, rfl, by decide, by decide⟩ rfl rfl (Nat.le_of_ble_eq_true rfl) ⟨Nat.zero_le _, Nat.zero_le _⟩ dc_M_combine_17) ?_
  refine aw_if_eq C dc_M_combine_20 (tgt := 27) (by decide) (fun _ => ?_) (fun h9 => absurd (by decide) h9)
  refine aw_iload_n C dc_M_combine_27 rfl ?_
  refine aw_if_lt C dc_M_combine_28 (tgt := 37) (by decide) (fun h9 => absurd h9 (by decide)) (fun _ => ?_)
  refine aw_iload_n C dc_M_combine_31 rfl ?_
  refine aw_bipush C dc_M_combine_32 (v := nI 8) rfl ?_
  refine aw_icmp_le C dc_M_combine_34 (tgt := 41) (by decide) (fun _ => ?_) (fun h9 => absurd (by decide) h9)
  refine aw_iload_n C dc_M_combine_41 rfl ?_
  refine aw_bipush C dc_M_combine_42 (v := nI 6) rfl ?_
  refine aw_icmp_le C dc_M_combine_44 (tgt := 60) (by decide) (fun _ => ?_) (fun h9 => absurd (by decide) h9)
  refine aw_iconst C dc_M_combine_60 (v := nI 0) rfl ?_
  refine aw_put C rf_D (fun w h => List.mem_cons_of_mem _ (ly_M w h)) ty_M ty_M_ok nm_M 0 rf_p0 rfl 0 (by decide) (C.1.2.2.2.2 _ (List.mem_cons_of_mem _ kw_636)) (fun _ h => h) rfl (ty := .int) (by decide +kernel) rfl rfl (Nat.le_of_ble_eq_true rfl) (ws' := rf_ a cI cL (nI 0) S K Qt O1 O2 En Ot Wt) rfl dc_M_combine_61 ?_
  refine aw_aload_n C dc_M_combine_64 rfl ?_
  refine aw_get C (fun w h => List.mem_cons_of_mem _ (ly_M w h)) 0 rf_p0 rfl 0 (by decide) (C.1.2.2.2.2 _ (List.mem_cons_of_mem _ kw_636)) (fun _ h => h) rfl dc_M_combine_65 ?_
  refine aw_if_eq C dc_M_combine_68 (tgt := 73) (by decide) (fun _ => ?_) (fun h9 => absurd (by decide) h9)
  refine aw_aload_n C dc_M_combine_73 rfl ?_
  refine kc_v (fun _ h => h) (fun _ h => h) (kc_V (n := 0) C hX xk_true rfl 0 rf_p0 rfl (m_begin l D a cI cL cF (nI 0) S K Qt O1 O2 En Ot Wt) kw_708 kw_705 kw_707 (tw_sel (q := (my_M_begin, 9)) (by decide +kernel)) kw_8 rfl (by unfold kd_; decide) ⟨rfl, rfl, by decide, by decide⟩ rfl rfl (Nat.le_of_ble_eq_true rfl) ⟨Nat.zero_le _, Nat.zero_le _⟩ dc_M_combine_74) ?_
  refine aw_iload_n C dc_M_combine_77 rfl ?_
  refine aw_tabOut C dc_M_combine_78 (tgt := 180) (Or.inl (by decide)) (by decide) ?_
  refine aw_iconst C dc_M_combine_180 (v := nI 0) rfl ?_
  refine aw_istore C dc_M_combine_181 (by decide) rfl ?_
  refine aw_P (P' := rp_ D a cI cL (nI 0) S (fw_ (fun j => S (64 * f9 + j) &&& (S (64 * g9 + j) ^^^ (-1))) (fl_ K 64 0) 0) Qt O1 O2 En Ot Wt) (fun H h => by rw [fw_0]; exact h) ?_
  refine aw_loop (fun k => rp_ D a cI cL (nI 0) S (fw_ (fun j => S (64 * f9 + j) &&& (S (64 * g9 + j) ^^^ (-1))) (fl_ K 64 0) k) Qt O1 O2 En Ot Wt) (fun k => [some (.ref a), some (.int (nI i)), some (.int (nI 2)), some (.int (nI f9)), some (.int (nI g9)), some (.int (nI k)), none, none, none, none]) 64 ?_ (fun k hk ih => ?_)
  · refine aw_iload C dc_M_combine_183 rfl ?_
    refine aw_bipush C dc_M_combine_185 (v := nI 64) rfl ?_
    refine aw_icmp_ge C dc_M_combine_187 (tgt := 266) (by decide) (fun _ => ?_) (fun h9 => absurd (nI_le (Nat.le_refl _) (by decide)) h9)
    refine aw_aload_n C dc_M_combine_266 rfl ?_
    refine aw_iload_n C dc_M_combine_267 rfl ?_
    refine kc_i (fun _ h => h) (fun _ h => h) (kc_V (n := 1) C hX xk_true rfl 0 rf_p0 rfl (m_lay l D a cI cL cF (nI 0) S (fw_ (fun j => S (64 * f9 + j) &&& (S (64 * g9 + j) ^^^ (-1))) (fl_ K 64 0) 64) Qt O1 O2 En Ot Wt i hi) kw_742 kw_739 kw_741 (tw_sel (q := (my_M_lay, 9)) (by decide +kernel)) kw_8 rfl (by unfold kd_; decide) ⟨rfl, rfl, by decide, by decide⟩ rfl rfl (Nat.le_of_ble_eq_true rfl) ⟨Nat.zero_le _, Nat.zero_le _⟩ dc_M_combine_268) ?_
    exact kc_iret C hr rfl (fun _ h => h) dc_M_combine_271
  · refine aw_iload C dc_M_combine_183 rfl ?_
    refine aw_bipush C dc_M_combine_185 (v := nI 64) rfl ?_
    refine aw_icmp_ge C dc_M_combine_187 (tgt := 266) (by decide) (fun h9 => absurd h9 (nI_ge hk (by decide))) (fun _ => ?_)
    refine aw_aload_n C dc_M_combine_190 rfl ?_
    refine aw_get C (fun w h => List.mem_cons_of_mem _ (ly_M w h)) 0 rf_p0 rfl 1 (by decide) (C.1.2.2.2.2 _ (List.mem_cons_of_mem _ kw_637)) (fun _ h => h) rfl dc_M_combine_191 ?_
    refine aw_bipush C dc_M_combine_194 (v := nI 64) rfl ?_
    refine aw_iload_n C dc_M_combine_196 rfl ?_
    refine aw_imul C dc_M_combine_197 ?_
    refine aw_iload C dc_M_combine_198 rfl ?_
    refine aw_iadd C dc_M_combine_200 ?_
    refine aw_lald C 1 1 rf_p1 rfl (64 * f9 + k) (ms_i2 f9 k) (by omega) (by decide) dc_M_combine_201 ?_
    refine aw_lstore C dc_M_combine_202 (by decide) rfl ?_
    refine aw_aload_n C dc_M_combine_204 rfl ?_
    refine aw_get C (fun w h => List.mem_cons_of_mem _ (ly_M w h)) 0 rf_p0 rfl 1 (by decide) (C.1.2.2.2.2 _ (List.mem_cons_of_mem _ kw_637)) (fun _ h => h) rfl dc_M_combine_205 ?_
    refine aw_bipush C dc_M_combine_208 (v := nI 64) rfl ?_
    refine aw_iload C dc_M_combine_210 rfl ?_
    refine aw_imul C dc_M_combine_212 ?_
    refine aw_iload C dc_M_combine_213 rfl ?_
    refine aw_iadd C dc_M_combine_215 ?_
    refine aw_lald C 1 1 rf_p1 rfl (64 * g9 + k) (ms_i2 g9 k) (by omega) (by decide) dc_M_combine_216 ?_
    refine aw_lstore C dc_M_combine_217 (by decide) rfl ?_
    refine aw_aload_n C dc_M_combine_219 rfl ?_
    refine aw_get C (fun w h => List.mem_cons_of_mem _ (ly_M w h)) 0 rf_p0 rfl 2 (by decide) (C.1.2.2.2.2 _ (List.mem_cons_of_mem _ kw_638)) (fun _ h => h) rfl dc_M_combine_220 ?_
    refine aw_iload C dc_M_combine_223 rfl ?_
    refine aw_iload_n C dc_M_combine_225 rfl ?_
    refine aw_if_ne C dc_M_combine_226 (tgt := 237) (by decide) (fun _ => ?_) (fun h9 => absurd h9 (by decide))
    refine aw_iload_n C dc_M_combine_237 rfl ?_
    refine aw_iconst C dc_M_combine_238 (v := nI 1) rfl ?_
    refine aw_icmp_ne C dc_M_combine_239 (tgt := 250) (by decide) (fun _ => ?_) (fun h9 => absurd h9 (by decide))
    refine aw_lload C dc_M_combine_250 rfl ?_
    refine aw_lload C dc_M_combine_252 rfl ?_
    refine aw_ldc2 C (C.1.2.2.2.2 _ (List.mem_cons_of_mem _ kw_689)) dc_M_combine_254 ?_
    refine aw_lxor C dc_M_combine_257 ?_
    refine aw_land C dc_M_combine_258 ?_
    refine aw_last C rf_D 2 1 rf_p2 rfl k rfl (by omega) (by decide) (ws' := rf_ a cI cL (nI 0) S (fw_ (fun j => S (64 * f9 + j) &&& (S (64 * g9 + j) ^^^ (-1))) (fl_ K 64 0) (k + 1)) Qt O1 O2 En Ot Wt) (by rw [← fw_s]; rfl) dc_M_combine_259 ?_
    refine aw_iinc C dc_M_combine_260 rfl (ni_inc _) (by decide) rfl ?_
    refine aw_goto C dc_M_combine_263 (tgt := 183) (by decide) ?_
    refine aw_sub (lw' := [some (.ref a), some (.int (nI i)), some (.int (nI 2)), some (.int (nI f9)), some (.int (nI g9)), some (.int (nI (k + 1))), none, none, none, none]) (by
      intro k v h
      match k, h with
      | 0, h => exact h
      | 1, h => exact h
      | 2, h => exact h
      | 3, h => exact h
      | 4, h => exact h
      | 5, h => exact h
      | 6, h => exact nomatch (show (some none : Option (Option Value)) = some (some v) from h)
      | 7, h => exact nomatch (show (some none : Option (Option Value)) = some (some v) from h)
      | 8, h => exact nomatch (show (some none : Option (Option Value)) = some (some v) from h)
      | 9, h => exact nomatch (show (some none : Option (Option Value)) = some (some v) from h)
      | n + 10, h => exact nomatch (show (none : Option (Option Value)) = some (some v) from h)) ?_
    exact ih
set_option maxHeartbeats 4000000 in
set_option maxRecDepth 100000 in
theorem m_combine3 (l : Launch) (D : va_G) (a : Nat) (cI cL cF : ClassId) (t : Int32) (S K Qt : Nat → Int64) (O1 O2 En Ot Wt : Nat → Int32) (i : Nat) (hi : i < 10) (f9 : Nat) (hf : f9 < 10) (g9 : Nat) (hg : g9 < 10) : ki_ l my_M_combine (Cond.code my_M_combine bc_M_combine 10 (some .int) :: tw_) ({ frames := 3, cells := 0, slots := 0, locals := 75 }) D (ty_s cI cL cF) (fun _ => True) (cm_ a) [.ref a, .int (nI i), .int (nI 3), .int (nI f9), .int (nI g9)] (rp_ D a cI cL t S K Qt O1 O2 En Ot Wt) (rp_ D a cI cL (nI 0) (sl_ S i (mkl_ (fl_ K 64 0) (fun p => decide (0 < (pz_ false (fb_ (rw_ S f9)) (fb_ (rw_ S g9)) O1 O2) p)) (fun p => p) 4096) 64) (mkl_ (fl_ K 64 0) (fun p => decide (0 < (pz_ false (fb_ (rw_ S f9)) (fb_ (rw_ S g9)) O1 O2) p)) (fun p => p) 4096) Qt (pz_ false (fb_ (rw_ S f9)) (fb_ (rw_ S g9)) O1 O2) (zo_ (· + ·) false (ll_ (fb_ (rw_ S g9)) O2 4096) 12) En Ot Wt) (nI (tw64_ (rw_ (sl_ S i (mkl_ (fl_ K 64 0) (fun p => decide (0 < (pz_ false (fb_ (rw_ S f9)) (fb_ (rw_ S g9)) O1 O2) p)) (fun p => p) 4096) 64) i) 64)) := by
  refine aw_met (A := cm_ a) (own := "FamilyShelfModel") (by decide) rfl rfl (Nat.le_of_ble_eq_true rfl) ?_
  intro p9 e s m args below meth c C hr hX hP0
  refine aw_lw (lw' := [some (.ref a), some (.int (nI i)), some (.int (nI 3)), some (.int (nI f9)), some (.int (nI g9)), none, none, none, none, none]) rfl ?_
  refine aw_aload_n C dc_M_combine_0 rfl ?_
  refine aw_iload_n C dc_M_combine_1 rfl ?_
  refine kc_i (fun _ h => h) (fun _ h => h) (kc_S (n := 1) C hX xk_true (m_noShelf0 l D _ _ _ _ i hi) kw_677 kw_675 kw_676 kw_8 (by unfold kd_; decide) ⟨rfl, rfl, by decide, by decide⟩ rfl rfl (Nat.le_of_ble_eq_true rfl) ⟨Nat.zero_le _, Nat.zero_le _⟩ dc_M_combine_2) ?_
  refine aw_if_ne C dc_M_combine_5 (tgt := 23) (by decide) (fun h9 => absurd (by decide) h9) (fun _ => ?_)
  refine aw_iload_n C dc_M_combine_8 rfl ?_
  refine kc_i (fun _ h => h) (fun _ h => h) (kc_S (n := 1) C hX xk_true (m_noShelf0 l D _ _ _ _ f9 hf) kw_677 kw_675 kw_676 kw_8 (by unfold kd_; decide) ⟨rfl, rfl, by decide, by decide⟩ rfl rfl (Nat.le_of_ble_eq_true rfl) ⟨Nat.zero_le _, Nat.zero_le _⟩ dc_M_combine_9) ?_
  refine aw_if_ne C dc_M_combine_12 (tgt := 23) (by decide) (fun h9 => absurd (by decide) h9) (fun _ => ?_)
  refine aw_iload C dc_M_combine_15 rfl ?_
  refine kc_i (fun _ h => h) (fun _ h => h) (kc_S (n := 1) C hX xk_true (m_noShelf0 l D _ _ _ _ g9 hg) kw_677 kw_675 kw_676 kw_8 (by unfold kd_; decide) ⟨rfl, rfl, by decide, by decide⟩ rfl rfl (Nat.le_of_ble_eq_true rfl) ⟨Nat.zero_le _, Nat.zero_le _⟩ dc_M_combine_17) ?_
  refine aw_if_eq C dc_M_combine_20 (tgt := 27) (by decide) (fun _ => ?_) (fun h9 => absurd (by decide) h9)
  refine aw_iload_n C dc_M_combine_27 rfl ?_
  refine aw_if_lt C dc_M_combine_28 (tgt := 37) (by decide) (fun h9 => absurd h9 (by decide)) (fun _ => ?_)
  refine aw_iload_n C dc_M_combine_31 rfl ?_
  refine aw_bipush C dc_M_combine_32 (v := nI 8) rfl ?_
  refine aw_icmp_le C dc_M_combine_34 (tgt := 41) (by decide) (fun _ => ?_) (fun h9 => absurd (by decide) h9)
  refine aw_iload_n C dc_M_combine_41 rfl ?_
  refine aw_bipush C dc_M_combine_42 (v := nI 6) rfl ?_
  refine aw_icmp_le C dc_M_combine_44 (tgt := 60) (by decide) (fun _ => ?_) (fun h9 => absurd (by decide) h9)
  refine aw_iconst C dc_M_combine_60 (v := nI 0) rfl ?_
  refine aw_put C rf_D (fun w h => List.mem_cons_of_mem _ (ly_M w h)) ty_M ty_M_ok nm_M 0 rf_p0 rfl 0 (by decide) (C.1.2.2.2.2 _ (List.mem_cons_of_mem _ kw_636)) (fun _ h => h) rfl (ty := .int) (by decide +kernel) rfl rfl (Nat.le_of_ble_eq_true rfl) (ws' := rf_ a cI cL (nI 0) S K Qt O1 O2 En Ot Wt) rfl dc_M_combine_61 ?_
  refine aw_aload_n C dc_M_combine_64 rfl ?_
  refine aw_get C (fun w h => List.mem_cons_of_mem _ (ly_M w h)) 0 rf_p0 rfl 0 (by decide) (C.1.2.2.2.2 _ (List.mem_cons_of_mem _ kw_636)) (fun _ h => h) rfl dc_M_combine_65 ?_
  refine aw_if_eq C dc_M_combine_68 (tgt := 73) (by decide) (fun _ => ?_) (fun h9 => absurd (by decide) h9)
  refine aw_aload_n C dc_M_combine_73 rfl ?_
  refine kc_v (fun _ h => h) (fun _ h => h) (kc_V (n := 0) C hX xk_true rfl 0 rf_p0 rfl (m_begin l D a cI cL cF (nI 0) S K Qt O1 O2 En Ot Wt) kw_708 kw_705 kw_707 (tw_sel (q := (my_M_begin, 9)) (by decide +kernel)) kw_8 rfl (by unfold kd_; decide) ⟨rfl, rfl, by decide, by decide⟩ rfl rfl (Nat.le_of_ble_eq_true rfl) ⟨Nat.zero_le _, Nat.zero_le _⟩ dc_M_combine_74) ?_
  refine aw_iload_n C dc_M_combine_77 rfl ?_
  refine aw_tabIn C dc_M_combine_78 (off := 38) (tgt := 116) (by decide) (by decide) (by decide) (by decide) ?_
  refine aw_aload_n C dc_M_combine_116 rfl ?_
  refine aw_iload_n C dc_M_combine_117 rfl ?_
  refine aw_iload C dc_M_combine_118 rfl ?_
  refine aw_iconst C dc_M_combine_120 (v := nI 0) rfl ?_
  refine aw_eqi (show nI 0 = z1_ false from by decide) ?_
  refine kc_v (fun _ h => h) (fun _ h => h) (kc_V (n := 3) C hX xk_true rfl 0 rf_p0 rfl (m_makePairs l D a cI cL cF (nI 0) S (fl_ K 64 0) Qt O1 O2 En Ot Wt f9 hf g9 hg false) kw_712 kw_709 kw_711 (tw_sel (q := (my_M_makePairs, 9)) (by decide +kernel)) kw_8 rfl (by unfold kd_; decide) ⟨rfl, rfl, by decide, by decide⟩ rfl rfl (Nat.le_of_ble_eq_true rfl) ⟨Nat.zero_le _, Nat.zero_le _⟩ dc_M_combine_121) ?_
  refine aw_goto C dc_M_combine_124 (tgt := 266) (by decide) ?_
  refine aw_aload_n C dc_M_combine_266 rfl ?_
  refine aw_iload_n C dc_M_combine_267 rfl ?_
  refine kc_i (fun _ h => h) (fun _ h => h) (kc_V (n := 1) C hX xk_true rfl 0 rf_p0 rfl (m_lay l D a cI cL cF (nI 0) S (mkl_ (fl_ K 64 0) (fun p => decide (0 < (pz_ false (fb_ (rw_ S f9)) (fb_ (rw_ S g9)) O1 O2) p)) (fun p => p) 4096) Qt (pz_ false (fb_ (rw_ S f9)) (fb_ (rw_ S g9)) O1 O2) (zo_ (· + ·) false (ll_ (fb_ (rw_ S g9)) O2 4096) 12) En Ot Wt i hi) kw_742 kw_739 kw_741 (tw_sel (q := (my_M_lay, 9)) (by decide +kernel)) kw_8 rfl (by unfold kd_; decide) ⟨rfl, rfl, by decide, by decide⟩ rfl rfl (Nat.le_of_ble_eq_true rfl) ⟨Nat.zero_le _, Nat.zero_le _⟩ dc_M_combine_268) ?_
  exact kc_iret C hr rfl (fun _ h => h) dc_M_combine_271
set_option maxHeartbeats 4000000 in
set_option maxRecDepth 100000 in
theorem m_combine4 (l : Launch) (D : va_G) (a : Nat) (cI cL cF : ClassId) (t : Int32) (S K Qt : Nat → Int64) (O1 O2 En Ot Wt : Nat → Int32) (i : Nat) (hi : i < 10) (f9 : Nat) (hf : f9 < 10) (g9 : Nat) (hg : g9 < 10) : ki_ l my_M_combine (Cond.code my_M_combine bc_M_combine 10 (some .int) :: tw_) ({ frames := 3, cells := 0, slots := 0, locals := 75 }) D (ty_s cI cL cF) (fun _ => True) (cm_ a) [.ref a, .int (nI i), .int (nI 4), .int (nI f9), .int (nI g9)] (rp_ D a cI cL t S K Qt O1 O2 En Ot Wt) (rp_ D a cI cL (nI 0) (sl_ S i (mkl_ (fl_ K 64 0) (fun p => decide (0 < (pz_ true (fb_ (rw_ S f9)) (fb_ (rw_ S g9)) O1 O2) p)) (fun p => p) 4096) 64) (mkl_ (fl_ K 64 0) (fun p => decide (0 < (pz_ true (fb_ (rw_ S f9)) (fb_ (rw_ S g9)) O1 O2) p)) (fun p => p) 4096) Qt (pz_ true (fb_ (rw_ S f9)) (fb_ (rw_ S g9)) O1 O2) (zo_ (· + ·) true (ll_ (fb_ (rw_ S g9)) O2 4096) 12) En Ot Wt) (nI (tw64_ (rw_ (sl_ S i (mkl_ (fl_ K 64 0) (fun p => decide (0 < (pz_ true (fb_ (rw_ S f9)) (fb_ (rw_ S g9)) O1 O2) p)) (fun p => p) 4096) 64) i) 64)) := by
  refine aw_met (A := cm_ a) (own := "FamilyShelfModel") (by decide) rfl rfl (Nat.le_of_ble_eq_true rfl) ?_
  intro p9 e s m args below meth c C hr hX hP0
  refine aw_lw (lw' := [some (.ref a), some (.int (nI i)), some (.int (nI 4)), some (.int (nI f9)), some (.int (nI g9)), none, none, none, none, none]) rfl ?_
  refine aw_aload_n C dc_M_combine_0 rfl ?_
  refine aw_iload_n C dc_M_combine_1 rfl ?_
  refine kc_i (fun _ h => h) (fun _ h => h) (kc_S (n := 1) C hX xk_true (m_noShelf0 l D _ _ _ _ i hi) kw_677 kw_675 kw_676 kw_8 (by unfold kd_; decide) ⟨rfl, rfl, by decide, by decide⟩ rfl rfl (Nat.le_of_ble_eq_true rfl) ⟨Nat.zero_le _, Nat.zero_le _⟩ dc_M_combine_2) ?_
  refine aw_if_ne C dc_M_combine_5 (tgt := 23) (by decide) (fun h9 => absurd (by decide) h9) (fun _ => ?_)
  refine aw_iload_n C dc_M_combine_8 rfl ?_
  refine kc_i (fun _ h => h) (fun _ h => h) (kc_S (n := 1) C hX xk_true (m_noShelf0 l D _ _ _ _ f9 hf) kw_677 kw_675 kw_676 kw_8 (by unfold kd_; decide) ⟨rfl, rfl, by decide, by decide⟩ rfl rfl (Nat.le_of_ble_eq_true rfl) ⟨Nat.zero_le _, Nat.zero_le _⟩ dc_M_combine_9) ?_
  refine aw_if_ne C dc_M_combine_12 (tgt := 23) (by decide) (fun h9 => absurd (by decide) h9) (fun _ => ?_)
  refine aw_iload C dc_M_combine_15 rfl ?_
  refine kc_i (fun _ h => h) (fun _ h => h) (kc_S (n := 1) C hX xk_true (m_noShelf0 l D _ _ _ _ g9 hg) kw_677 kw_675 kw_676 kw_8 (by unfold kd_; decide) ⟨rfl, rfl, by decide, by decide⟩ rfl rfl (Nat.le_of_ble_eq_true rfl) ⟨Nat.zero_le _, Nat.zero_le _⟩ dc_M_combine_17) ?_
  refine aw_if_eq C dc_M_combine_20 (tgt := 27) (by decide) (fun _ => ?_) (fun h9 => absurd (by decide) h9)
  refine aw_iload_n C dc_M_combine_27 rfl ?_
  refine aw_if_lt C dc_M_combine_28 (tgt := 37) (by decide) (fun h9 => absurd h9 (by decide)) (fun _ => ?_)
  refine aw_iload_n C dc_M_combine_31 rfl ?_
  refine aw_bipush C dc_M_combine_32 (v := nI 8) rfl ?_
  refine aw_icmp_le C dc_M_combine_34 (tgt := 41) (by decide) (fun _ => ?_) (fun h9 => absurd (by decide) h9)
  refine aw_iload_n C dc_M_combine_41 rfl ?_
  refine aw_bipush C dc_M_combine_42 (v := nI 6) rfl ?_
  refine aw_icmp_le C dc_M_combine_44 (tgt := 60) (by decide) (fun _ => ?_) (fun h9 => absurd (by decide) h9)
  refine aw_iconst C dc_M_combine_60 (v := nI 0) rfl ?_
  refine aw_put C rf_D (fun w h => List.mem_cons_of_mem _ (ly_M w h)) ty_M ty_M_ok nm_M 0 rf_p0 rfl 0 (by decide) (C.1.2.2.2.2 _ (List.mem_cons_of_mem _ kw_636)) (fun _ h => h) rfl (ty := .int) (by decide +kernel) rfl rfl (Nat.le_of_ble_eq_true rfl) (ws' := rf_ a cI cL (nI 0) S K Qt O1 O2 En Ot Wt) rfl dc_M_combine_61 ?_
  refine aw_aload_n C dc_M_combine_64 rfl ?_
  refine aw_get C (fun w h => List.mem_cons_of_mem _ (ly_M w h)) 0 rf_p0 rfl 0 (by decide) (C.1.2.2.2.2 _ (List.mem_cons_of_mem _ kw_636)) (fun _ h => h) rfl dc_M_combine_65 ?_
  refine aw_if_eq C dc_M_combine_68 (tgt := 73) (by decide) (fun _ => ?_) (fun h9 => absurd (by decide) h9)
  refine aw_aload_n C dc_M_combine_73 rfl ?_
  refine kc_v (fun _ h => h) (fun _ h => h) (kc_V (n := 0) C hX xk_true rfl 0 rf_p0 rfl (m_begin l D a cI cL cF (nI 0) S K Qt O1 O2 En Ot Wt) kw_708 kw_705 kw_707 (tw_sel (q := (my_M_begin, 9)) (by decide +kernel)) kw_8 rfl (by unfold kd_; decide) ⟨rfl, rfl, by decide, by decide⟩ rfl rfl (Nat.le_of_ble_eq_true rfl) ⟨Nat.zero_le _, Nat.zero_le _⟩ dc_M_combine_74) ?_
  refine aw_iload_n C dc_M_combine_77 rfl ?_
  refine aw_tabIn C dc_M_combine_78 (off := 49) (tgt := 127) (by decide) (by decide) (by decide) (by decide) ?_
  refine aw_aload_n C dc_M_combine_127 rfl ?_
  refine aw_iload_n C dc_M_combine_128 rfl ?_
  refine aw_iload C dc_M_combine_129 rfl ?_
  refine aw_iconst C dc_M_combine_131 (v := nI 1) rfl ?_
  refine aw_eqi (show nI 1 = z1_ true from by decide) ?_
  refine kc_v (fun _ h => h) (fun _ h => h) (kc_V (n := 3) C hX xk_true rfl 0 rf_p0 rfl (m_makePairs l D a cI cL cF (nI 0) S (fl_ K 64 0) Qt O1 O2 En Ot Wt f9 hf g9 hg true) kw_712 kw_709 kw_711 (tw_sel (q := (my_M_makePairs, 9)) (by decide +kernel)) kw_8 rfl (by unfold kd_; decide) ⟨rfl, rfl, by decide, by decide⟩ rfl rfl (Nat.le_of_ble_eq_true rfl) ⟨Nat.zero_le _, Nat.zero_le _⟩ dc_M_combine_132) ?_
  refine aw_goto C dc_M_combine_135 (tgt := 266) (by decide) ?_
  refine aw_aload_n C dc_M_combine_266 rfl ?_
  refine aw_iload_n C dc_M_combine_267 rfl ?_
  refine kc_i (fun _ h => h) (fun _ h => h) (kc_V (n := 1) C hX xk_true rfl 0 rf_p0 rfl (m_lay l D a cI cL cF (nI 0) S (mkl_ (fl_ K 64 0) (fun p => decide (0 < (pz_ true (fb_ (rw_ S f9)) (fb_ (rw_ S g9)) O1 O2) p)) (fun p => p) 4096) Qt (pz_ true (fb_ (rw_ S f9)) (fb_ (rw_ S g9)) O1 O2) (zo_ (· + ·) true (ll_ (fb_ (rw_ S g9)) O2 4096) 12) En Ot Wt i hi) kw_742 kw_739 kw_741 (tw_sel (q := (my_M_lay, 9)) (by decide +kernel)) kw_8 rfl (by unfold kd_; decide) ⟨rfl, rfl, by decide, by decide⟩ rfl rfl (Nat.le_of_ble_eq_true rfl) ⟨Nat.zero_le _, Nat.zero_le _⟩ dc_M_combine_268) ?_
  exact kc_iret C hr rfl (fun _ h => h) dc_M_combine_271
set_option maxHeartbeats 4000000 in
set_option maxRecDepth 100000 in
theorem m_combine5 (l : Launch) (D : va_G) (a : Nat) (cI cL cF : ClassId) (t : Int32) (S K Qt : Nat → Int64) (O1 O2 En Ot Wt : Nat → Int32) (i : Nat) (hi : i < 10) (f9 : Nat) (hf : f9 < 10) (g9 : Nat) (hg : g9 < 10) : ki_ l my_M_combine (Cond.code my_M_combine bc_M_combine 10 (some .int) :: tw_) ({ frames := 3, cells := 0, slots := 0, locals := 75 }) D (ty_s cI cL cF) (fun _ => True) (cm_ a) [.ref a, .int (nI i), .int (nI 5), .int (nI f9), .int (nI g9)] (rp_ D a cI cL t S K Qt O1 O2 En Ot Wt) (rp_ D a cI cL (nI 0) (sl_ S i (mkl_ (fl_ K 64 0) (fun p => (fb_ (rw_ S f9)) p && decide ((zo_ (· + ·) true (ll_ (fb_ (rw_ S g9)) O2 4096) 12) p = 0)) (fun p => p) 4096) 64) (mkl_ (fl_ K 64 0) (fun p => (fb_ (rw_ S f9)) p && decide ((zo_ (· + ·) true (ll_ (fb_ (rw_ S g9)) O2 4096) 12) p = 0)) (fun p => p) 4096) Qt O1 (zo_ (· + ·) true (ll_ (fb_ (rw_ S g9)) O2 4096) 12) En Ot Wt) (nI (tw64_ (rw_ (sl_ S i (mkl_ (fl_ K 64 0) (fun p => (fb_ (rw_ S f9)) p && decide ((zo_ (· + ·) true (ll_ (fb_ (rw_ S g9)) O2 4096) 12) p = 0)) (fun p => p) 4096) 64) i) 64)) := by
  refine aw_met (A := cm_ a) (own := "FamilyShelfModel") (by decide) rfl rfl (Nat.le_of_ble_eq_true rfl) ?_
  intro p9 e s m args below meth c C hr hX hP0
  refine aw_lw (lw' := [some (.ref a), some (.int (nI i)), some (.int (nI 5)), some (.int (nI f9)), some (.int (nI g9)), none, none, none, none, none]) rfl ?_
  refine aw_aload_n C dc_M_combine_0 rfl ?_
  refine aw_iload_n C dc_M_combine_1 rfl ?_
  refine kc_i (fun _ h => h) (fun _ h => h) (kc_S (n := 1) C hX xk_true (m_noShelf0 l D _ _ _ _ i hi) kw_677 kw_675 kw_676 kw_8 (by unfold kd_; decide) ⟨rfl, rfl, by decide, by decide⟩ rfl rfl (Nat.le_of_ble_eq_true rfl) ⟨Nat.zero_le _, Nat.zero_le _⟩ dc_M_combine_2) ?_
  refine aw_if_ne C dc_M_combine_5 (tgt := 23) (by decide) (fun h9 => absurd (by decide) h9) (fun _ => ?_)
  refine aw_iload_n C dc_M_combine_8 rfl ?_
  refine kc_i (fun _ h => h) (fun _ h => h) (kc_S (n := 1) C hX xk_true (m_noShelf0 l D _ _ _ _ f9 hf) kw_677 kw_675 kw_676 kw_8 (by unfold kd_; decide) ⟨rfl, rfl, by decide, by decide⟩ rfl rfl (Nat.le_of_ble_eq_true rfl) ⟨Nat.zero_le _, Nat.zero_le _⟩ dc_M_combine_9) ?_
  refine aw_if_ne C dc_M_combine_12 (tgt := 23) (by decide) (fun h9 => absurd (by decide) h9) (fun _ => ?_)
  refine aw_iload C dc_M_combine_15 rfl ?_
  refine kc_i (fun _ h => h) (fun _ h => h) (kc_S (n := 1) C hX xk_true (m_noShelf0 l D _ _ _ _ g9 hg) kw_677 kw_675 kw_676 kw_8 (by unfold kd_; decide) ⟨rfl, rfl, by decide, by decide⟩ rfl rfl (Nat.le_of_ble_eq_true rfl) ⟨Nat.zero_le _, Nat.zero_le _⟩ dc_M_combine_17) ?_
  refine aw_if_eq C dc_M_combine_20 (tgt := 27) (by decide) (fun _ => ?_) (fun h9 => absurd (by decide) h9)
  refine aw_iload_n C dc_M_combine_27 rfl ?_
  refine aw_if_lt C dc_M_combine_28 (tgt := 37) (by decide) (fun h9 => absurd h9 (by decide)) (fun _ => ?_)
  refine aw_iload_n C dc_M_combine_31 rfl ?_
  refine aw_bipush C dc_M_combine_32 (v := nI 8) rfl ?_
  refine aw_icmp_le C dc_M_combine_34 (tgt := 41) (by decide) (fun _ => ?_) (fun h9 => absurd (by decide) h9)
  refine aw_iload_n C dc_M_combine_41 rfl ?_
  refine aw_bipush C dc_M_combine_42 (v := nI 6) rfl ?_
  refine aw_icmp_le C dc_M_combine_44 (tgt := 60) (by decide) (fun _ => ?_) (fun h9 => absurd (by decide) h9)
  refine aw_iconst C dc_M_combine_60 (v := nI 0) rfl ?_
  refine aw_put C rf_D (fun w h => List.mem_cons_of_mem _ (ly_M w h)) ty_M ty_M_ok nm_M 0 rf_p0 rfl 0 (by decide) (C.1.2.2.2.2 _ (List.mem_cons_of_mem _ kw_636)) (fun _ h => h) rfl (ty := .int) (by decide +kernel) rfl rfl (Nat.le_of_ble_eq_true rfl) (ws' := rf_ a cI cL (nI 0) S K Qt O1 O2 En Ot Wt) rfl dc_M_combine_61 ?_
  refine aw_aload_n C dc_M_combine_64 rfl ?_
  refine aw_get C (fun w h => List.mem_cons_of_mem _ (ly_M w h)) 0 rf_p0 rfl 0 (by decide) (C.1.2.2.2.2 _ (List.mem_cons_of_mem _ kw_636)) (fun _ h => h) rfl dc_M_combine_65 ?_
  refine aw_if_eq C dc_M_combine_68 (tgt := 73) (by decide) (fun _ => ?_) (fun h9 => absurd (by decide) h9)
  refine aw_aload_n C dc_M_combine_73 rfl ?_
  refine kc_v (fun _ h => h) (fun _ h => h) (kc_V (n := 0) C hX xk_true rfl 0 rf_p0 rfl (m_begin l D a cI cL cF (nI 0) S K Qt O1 O2 En Ot Wt) kw_708 kw_705 kw_707 (tw_sel (q := (my_M_begin, 9)) (by decide +kernel)) kw_8 rfl (by unfold kd_; decide) ⟨rfl, rfl, by decide, by decide⟩ rfl rfl (Nat.le_of_ble_eq_true rfl) ⟨Nat.zero_le _, Nat.zero_le _⟩ dc_M_combine_74) ?_
  refine aw_iload_n C dc_M_combine_77 rfl ?_
  refine aw_tabIn C dc_M_combine_78 (off := 60) (tgt := 138) (by decide) (by decide) (by decide) (by decide) ?_
  refine aw_aload_n C dc_M_combine_138 rfl ?_
  refine aw_iload_n C dc_M_combine_139 rfl ?_
  refine aw_iload C dc_M_combine_140 rfl ?_
  refine aw_iconst C dc_M_combine_142 (v := nI 1) rfl ?_
  refine aw_eqi (show nI 1 = z1_ true from by decide) ?_
  refine kc_v (fun _ h => h) (fun _ h => h) (kc_V (n := 3) C hX xk_true rfl 0 rf_p0 rfl (m_makeFree l D a cI cL cF (nI 0) S (fl_ K 64 0) Qt O1 O2 En Ot Wt f9 hf g9 hg true) kw_730 kw_727 kw_729 (tw_sel (q := (my_M_makeFree, 9)) (by decide +kernel)) kw_8 rfl (by unfold kd_; decide) ⟨rfl, rfl, by decide, by decide⟩ rfl rfl (Nat.le_of_ble_eq_true rfl) ⟨Nat.zero_le _, Nat.zero_le _⟩ dc_M_combine_143) ?_
  refine aw_goto C dc_M_combine_146 (tgt := 266) (by decide) ?_
  refine aw_aload_n C dc_M_combine_266 rfl ?_
  refine aw_iload_n C dc_M_combine_267 rfl ?_
  refine kc_i (fun _ h => h) (fun _ h => h) (kc_V (n := 1) C hX xk_true rfl 0 rf_p0 rfl (m_lay l D a cI cL cF (nI 0) S (mkl_ (fl_ K 64 0) (fun p => (fb_ (rw_ S f9)) p && decide ((zo_ (· + ·) true (ll_ (fb_ (rw_ S g9)) O2 4096) 12) p = 0)) (fun p => p) 4096) Qt O1 (zo_ (· + ·) true (ll_ (fb_ (rw_ S g9)) O2 4096) 12) En Ot Wt i hi) kw_742 kw_739 kw_741 (tw_sel (q := (my_M_lay, 9)) (by decide +kernel)) kw_8 rfl (by unfold kd_; decide) ⟨rfl, rfl, by decide, by decide⟩ rfl rfl (Nat.le_of_ble_eq_true rfl) ⟨Nat.zero_le _, Nat.zero_le _⟩ dc_M_combine_268) ?_
  exact kc_iret C hr rfl (fun _ h => h) dc_M_combine_271
set_option maxHeartbeats 4000000 in
set_option maxRecDepth 100000 in
theorem m_combine6 (l : Launch) (D : va_G) (a : Nat) (cI cL cF : ClassId) (t : Int32) (S K Qt : Nat → Int64) (O1 O2 En Ot Wt : Nat → Int32) (i : Nat) (hi : i < 10) (f9 : Nat) (hf : f9 < 10) (g9 : Nat) (hg : g9 < 10) : ki_ l my_M_combine (Cond.code my_M_combine bc_M_combine 10 (some .int) :: tw_) ({ frames := 3, cells := 0, slots := 0, locals := 75 }) D (ty_s cI cL cF) (fun _ => True) (cm_ a) [.ref a, .int (nI i), .int (nI 6), .int (nI f9), .int (nI g9)] (rp_ D a cI cL t S K Qt O1 O2 En Ot Wt) (rp_ D a cI cL (nI 0) (sl_ S i (mkl_ (fl_ K 64 0) (fun p => (fb_ (rw_ S f9)) p && decide ((zo_ (· + ·) false (ll_ (fb_ (rw_ S g9)) O2 4096) 12) p = 0)) (fun p => p) 4096) 64) (mkl_ (fl_ K 64 0) (fun p => (fb_ (rw_ S f9)) p && decide ((zo_ (· + ·) false (ll_ (fb_ (rw_ S g9)) O2 4096) 12) p = 0)) (fun p => p) 4096) Qt O1 (zo_ (· + ·) false (ll_ (fb_ (rw_ S g9)) O2 4096) 12) En Ot Wt) (nI (tw64_ (rw_ (sl_ S i (mkl_ (fl_ K 64 0) (fun p => (fb_ (rw_ S f9)) p && decide ((zo_ (· + ·) false (ll_ (fb_ (rw_ S g9)) O2 4096) 12) p = 0)) (fun p => p) 4096) 64) i) 64)) := by
  refine aw_met (A := cm_ a) (own := "FamilyShelfModel") (by decide) rfl rfl (Nat.le_of_ble_eq_true rfl) ?_
  intro p9 e s m args below meth c C hr hX hP0
  refine aw_lw (lw' := [some (.ref a), some (.int (nI i)), some (.int (nI 6)), some (.int (nI f9)), some (.int (nI g9)), none, none, none, none, none]) rfl ?_
  refine aw_aload_n C dc_M_combine_0 rfl ?_
  refine aw_iload_n C dc_M_combine_1 rfl ?_
  refine kc_i (fun _ h => h) (fun _ h => h) (kc_S (n := 1) C hX xk_true (m_noShelf0 l D _ _ _ _ i hi) kw_677 kw_675 kw_676 kw_8 (by unfold kd_; decide) ⟨rfl, rfl, by decide, by decide⟩ rfl rfl (Nat.le_of_ble_eq_true rfl) ⟨Nat.zero_le _, Nat.zero_le _⟩ dc_M_combine_2) ?_
  refine aw_if_ne C dc_M_combine_5 (tgt := 23) (by decide) (fun h9 => absurd (by decide) h9) (fun _ => ?_)
  refine aw_iload_n C dc_M_combine_8 rfl ?_
  refine kc_i (fun _ h => h) (fun _ h => h) (kc_S (n := 1) C hX xk_true (m_noShelf0 l D _ _ _ _ f9 hf) kw_677 kw_675 kw_676 kw_8 (by unfold kd_; decide) ⟨rfl, rfl, by decide, by decide⟩ rfl rfl (Nat.le_of_ble_eq_true rfl) ⟨Nat.zero_le _, Nat.zero_le _⟩ dc_M_combine_9) ?_
  refine aw_if_ne C dc_M_combine_12 (tgt := 23) (by decide) (fun h9 => absurd (by decide) h9) (fun _ => ?_)
  refine aw_iload C dc_M_combine_15 rfl ?_
  refine kc_i (fun _ h => h) (fun _ h => h) (kc_S (n := 1) C hX xk_true (m_noShelf0 l D _ _ _ _ g9 hg) kw_677 kw_675 kw_676 kw_8 (by unfold kd_; decide) ⟨rfl, rfl, by decide, by decide⟩ rfl rfl (Nat.le_of_ble_eq_true rfl) ⟨Nat.zero_le _, Nat.zero_le _⟩ dc_M_combine_17) ?_
  refine aw_if_eq C dc_M_combine_20 (tgt := 27) (by decide) (fun _ => ?_) (fun h9 => absurd (by decide) h9)
  refine aw_iload_n C dc_M_combine_27 rfl ?_
  refine aw_if_lt C dc_M_combine_28 (tgt := 37) (by decide) (fun h9 => absurd h9 (by decide)) (fun _ => ?_)
  refine aw_iload_n C dc_M_combine_31 rfl ?_
  refine aw_bipush C dc_M_combine_32 (v := nI 8) rfl ?_
  refine aw_icmp_le C dc_M_combine_34 (tgt := 41) (by decide) (fun _ => ?_) (fun h9 => absurd (by decide) h9)
  refine aw_iload_n C dc_M_combine_41 rfl ?_
  refine aw_bipush C dc_M_combine_42 (v := nI 6) rfl ?_
  refine aw_icmp_le C dc_M_combine_44 (tgt := 60) (by decide) (fun _ => ?_) (fun h9 => absurd (by decide) h9)
  refine aw_iconst C dc_M_combine_60 (v := nI 0) rfl ?_
  refine aw_put C rf_D (fun w h => List.mem_cons_of_mem _ (ly_M w h)) ty_M ty_M_ok nm_M 0 rf_p0 rfl 0 (by decide) (C.1.2.2.2.2 _ (List.mem_cons_of_mem _ kw_636)) (fun _ h => h) rfl (ty := .int) (by decide +kernel) rfl rfl (Nat.le_of_ble_eq_true rfl) (ws' := rf_ a cI cL (nI 0) S K Qt O1 O2 En Ot Wt) rfl dc_M_combine_61 ?_
  refine aw_aload_n C dc_M_combine_64 rfl ?_
  refine aw_get C (fun w h => List.mem_cons_of_mem _ (ly_M w h)) 0 rf_p0 rfl 0 (by decide) (C.1.2.2.2.2 _ (List.mem_cons_of_mem _ kw_636)) (fun _ h => h) rfl dc_M_combine_65 ?_
  refine aw_if_eq C dc_M_combine_68 (tgt := 73) (by decide) (fun _ => ?_) (fun h9 => absurd (by decide) h9)
  refine aw_aload_n C dc_M_combine_73 rfl ?_
  refine kc_v (fun _ h => h) (fun _ h => h) (kc_V (n := 0) C hX xk_true rfl 0 rf_p0 rfl (m_begin l D a cI cL cF (nI 0) S K Qt O1 O2 En Ot Wt) kw_708 kw_705 kw_707 (tw_sel (q := (my_M_begin, 9)) (by decide +kernel)) kw_8 rfl (by unfold kd_; decide) ⟨rfl, rfl, by decide, by decide⟩ rfl rfl (Nat.le_of_ble_eq_true rfl) ⟨Nat.zero_le _, Nat.zero_le _⟩ dc_M_combine_74) ?_
  refine aw_iload_n C dc_M_combine_77 rfl ?_
  refine aw_tabIn C dc_M_combine_78 (off := 71) (tgt := 149) (by decide) (by decide) (by decide) (by decide) ?_
  refine aw_aload_n C dc_M_combine_149 rfl ?_
  refine aw_iload_n C dc_M_combine_150 rfl ?_
  refine aw_iload C dc_M_combine_151 rfl ?_
  refine aw_iconst C dc_M_combine_153 (v := nI 0) rfl ?_
  refine aw_eqi (show nI 0 = z1_ false from by decide) ?_
  refine kc_v (fun _ h => h) (fun _ h => h) (kc_V (n := 3) C hX xk_true rfl 0 rf_p0 rfl (m_makeFree l D a cI cL cF (nI 0) S (fl_ K 64 0) Qt O1 O2 En Ot Wt f9 hf g9 hg false) kw_730 kw_727 kw_729 (tw_sel (q := (my_M_makeFree, 9)) (by decide +kernel)) kw_8 rfl (by unfold kd_; decide) ⟨rfl, rfl, by decide, by decide⟩ rfl rfl (Nat.le_of_ble_eq_true rfl) ⟨Nat.zero_le _, Nat.zero_le _⟩ dc_M_combine_154) ?_
  refine aw_goto C dc_M_combine_157 (tgt := 266) (by decide) ?_
  refine aw_aload_n C dc_M_combine_266 rfl ?_
  refine aw_iload_n C dc_M_combine_267 rfl ?_
  refine kc_i (fun _ h => h) (fun _ h => h) (kc_V (n := 1) C hX xk_true rfl 0 rf_p0 rfl (m_lay l D a cI cL cF (nI 0) S (mkl_ (fl_ K 64 0) (fun p => (fb_ (rw_ S f9)) p && decide ((zo_ (· + ·) false (ll_ (fb_ (rw_ S g9)) O2 4096) 12) p = 0)) (fun p => p) 4096) Qt O1 (zo_ (· + ·) false (ll_ (fb_ (rw_ S g9)) O2 4096) 12) En Ot Wt i hi) kw_742 kw_739 kw_741 (tw_sel (q := (my_M_lay, 9)) (by decide +kernel)) kw_8 rfl (by unfold kd_; decide) ⟨rfl, rfl, by decide, by decide⟩ rfl rfl (Nat.le_of_ble_eq_true rfl) ⟨Nat.zero_le _, Nat.zero_le _⟩ dc_M_combine_268) ?_
  exact kc_iret C hr rfl (fun _ h => h) dc_M_combine_271
set_option maxHeartbeats 4000000 in
set_option maxRecDepth 100000 in
theorem m_combine7 (l : Launch) (D : va_G) (a : Nat) (cI cL cF : ClassId) (t : Int32) (S K Qt : Nat → Int64) (O1 O2 En Ot Wt : Nat → Int32) (i : Nat) (hi : i < 10) (f9 : Nat) (hf : f9 < 10) (g9 : Nat) (hg : g9 < 10) (hz : ¬ tw64_ (rw_ S g9) 64 = 0) : ki_ l my_M_combine (Cond.code my_M_combine bc_M_combine 10 (some .int) :: tw_) ({ frames := 3, cells := 0, slots := 0, locals := 75 }) D (ty_s cI cL cF) (fun _ => True) (cm_ a) [.ref a, .int (nI i), .int (nI 7), .int (nI f9), .int (nI g9)] (rp_ D a cI cL t S K Qt O1 O2 En Ot Wt) (rp_ D a cI cL (nI 0) (sl_ S i (mkl_ (fl_ K 64 0) (qo_ (fb_ (rw_ S f9)) (fb_ (rw_ S g9)) (al_ (fb_ (rw_ S g9)) 4096)) (fun p => p) 4096) 64) (mkl_ (fl_ K 64 0) (qo_ (fb_ (rw_ S f9)) (fb_ (rw_ S g9)) (al_ (fb_ (rw_ S g9)) 4096)) (fun p => p) 4096) Qt O1 O2 En Ot Wt) (nI (tw64_ (rw_ (sl_ S i (mkl_ (fl_ K 64 0) (qo_ (fb_ (rw_ S f9)) (fb_ (rw_ S g9)) (al_ (fb_ (rw_ S g9)) 4096)) (fun p => p) 4096) 64) i) 64)) := by
  refine aw_met (A := cm_ a) (own := "FamilyShelfModel") (by decide) rfl rfl (Nat.le_of_ble_eq_true rfl) ?_
  intro p9 e s m args below meth c C hr hX hP0
  refine aw_lw (lw' := [some (.ref a), some (.int (nI i)), some (.int (nI 7)), some (.int (nI f9)), some (.int (nI g9)), none, none, none, none, none]) rfl ?_
  refine aw_aload_n C dc_M_combine_0 rfl ?_
  refine aw_iload_n C dc_M_combine_1 rfl ?_
  refine kc_i (fun _ h => h) (fun _ h => h) (kc_S (n := 1) C hX xk_true (m_noShelf0 l D _ _ _ _ i hi) kw_677 kw_675 kw_676 kw_8 (by unfold kd_; decide) ⟨rfl, rfl, by decide, by decide⟩ rfl rfl (Nat.le_of_ble_eq_true rfl) ⟨Nat.zero_le _, Nat.zero_le _⟩ dc_M_combine_2) ?_
  refine aw_if_ne C dc_M_combine_5 (tgt := 23) (by decide) (fun h9 => absurd (by decide) h9) (fun _ => ?_)
  refine aw_iload_n C dc_M_combine_8 rfl ?_
  refine kc_i (fun _ h => h) (fun _ h => h) (kc_S (n := 1) C hX xk_true (m_noShelf0 l D _ _ _ _ f9 hf) kw_677 kw_675 kw_676 kw_8 (by unfold kd_; decide) ⟨rfl, rfl, by decide, by decide⟩ rfl rfl (Nat.le_of_ble_eq_true rfl) ⟨Nat.zero_le _, Nat.zero_le _⟩ dc_M_combine_9) ?_
  refine aw_if_ne C dc_M_combine_12 (tgt := 23) (by decide) (fun h9 => absurd (by decide) h9) (fun _ => ?_)
  refine aw_iload C dc_M_combine_15 rfl ?_
  refine kc_i (fun _ h => h) (fun _ h => h) (kc_S (n := 1) C hX xk_true (m_noShelf0 l D _ _ _ _ g9 hg) kw_677 kw_675 kw_676 kw_8 (by unfold kd_; decide) ⟨rfl, rfl, by decide, by decide⟩ rfl rfl (Nat.le_of_ble_eq_true rfl) ⟨Nat.zero_le _, Nat.zero_le _⟩ dc_M_combine_17) ?_
  refine aw_if_eq C dc_M_combine_20 (tgt := 27) (by decide) (fun _ => ?_) (fun h9 => absurd (by decide) h9)
  refine aw_iload_n C dc_M_combine_27 rfl ?_
  refine aw_if_lt C dc_M_combine_28 (tgt := 37) (by decide) (fun h9 => absurd h9 (by decide)) (fun _ => ?_)
  refine aw_iload_n C dc_M_combine_31 rfl ?_
  refine aw_bipush C dc_M_combine_32 (v := nI 8) rfl ?_
  refine aw_icmp_le C dc_M_combine_34 (tgt := 41) (by decide) (fun _ => ?_) (fun h9 => absurd (by decide) h9)
  refine aw_iload_n C dc_M_combine_41 rfl ?_
  refine aw_bipush C dc_M_combine_42 (v := nI 6) rfl ?_
  refine aw_icmp_le C dc_M_combine_44 (tgt := 60) (by decide) (fun h9 => absurd h9 (by decide)) (fun _ => ?_)
  refine aw_aload_n C dc_M_combine_47 rfl ?_
  refine aw_iload C dc_M_combine_48 rfl ?_
  refine kc_i (fun _ h => h) (fun _ h => h) (kc_V (n := 1) C hX xk_true rfl 0 rf_p0 rfl (m_countOf l D a cI cL cF t S K Qt O1 O2 En Ot Wt g9 hg) kw_697 kw_694 kw_696 (tw_sel (q := (my_M_countOf, 9)) (by decide +kernel)) kw_8 rfl (by unfold kd_; decide) ⟨rfl, rfl, by decide, by decide⟩ rfl rfl (Nat.le_of_ble_eq_true rfl) ⟨Nat.zero_le _, Nat.zero_le _⟩ dc_M_combine_50) ?_
  refine aw_if_ne C dc_M_combine_53 (tgt := 60) (by decide) (fun _ => ?_) (fun h9 => absurd h9 (fun h9 => hz ((ni_z (by have := tw64_le (rw_ S g9) 64; omega)).mp h9)))
  refine aw_iconst C dc_M_combine_60 (v := nI 0) rfl ?_
  refine aw_put C rf_D (fun w h => List.mem_cons_of_mem _ (ly_M w h)) ty_M ty_M_ok nm_M 0 rf_p0 rfl 0 (by decide) (C.1.2.2.2.2 _ (List.mem_cons_of_mem _ kw_636)) (fun _ h => h) rfl (ty := .int) (by decide +kernel) rfl rfl (Nat.le_of_ble_eq_true rfl) (ws' := rf_ a cI cL (nI 0) S K Qt O1 O2 En Ot Wt) rfl dc_M_combine_61 ?_
  refine aw_aload_n C dc_M_combine_64 rfl ?_
  refine aw_get C (fun w h => List.mem_cons_of_mem _ (ly_M w h)) 0 rf_p0 rfl 0 (by decide) (C.1.2.2.2.2 _ (List.mem_cons_of_mem _ kw_636)) (fun _ h => h) rfl dc_M_combine_65 ?_
  refine aw_if_eq C dc_M_combine_68 (tgt := 73) (by decide) (fun _ => ?_) (fun h9 => absurd (by decide) h9)
  refine aw_aload_n C dc_M_combine_73 rfl ?_
  refine kc_v (fun _ h => h) (fun _ h => h) (kc_V (n := 0) C hX xk_true rfl 0 rf_p0 rfl (m_begin l D a cI cL cF (nI 0) S K Qt O1 O2 En Ot Wt) kw_708 kw_705 kw_707 (tw_sel (q := (my_M_begin, 9)) (by decide +kernel)) kw_8 rfl (by unfold kd_; decide) ⟨rfl, rfl, by decide, by decide⟩ rfl rfl (Nat.le_of_ble_eq_true rfl) ⟨Nat.zero_le _, Nat.zero_le _⟩ dc_M_combine_74) ?_
  refine aw_iload_n C dc_M_combine_77 rfl ?_
  refine aw_tabIn C dc_M_combine_78 (off := 82) (tgt := 160) (by decide) (by decide) (by decide) (by decide) ?_
  refine aw_aload_n C dc_M_combine_160 rfl ?_
  refine aw_iload_n C dc_M_combine_161 rfl ?_
  refine aw_iload C dc_M_combine_162 rfl ?_
  refine kc_v (fun _ h => h) (fun _ h => h) (kc_V (n := 2) C hX xk_true rfl 0 rf_p0 rfl (m_makeQuotient l D a cI cL cF (nI 0) S (fl_ K 64 0) Qt O1 O2 En Ot Wt f9 hf g9 hg) kw_734 kw_731 kw_733 (tw_sel (q := (my_M_makeQuotient, 9)) (by decide +kernel)) kw_8 rfl (by unfold kd_; decide) ⟨rfl, rfl, by decide, by decide⟩ rfl rfl (Nat.le_of_ble_eq_true rfl) ⟨Nat.zero_le _, Nat.zero_le _⟩ dc_M_combine_164) ?_
  refine aw_goto C dc_M_combine_167 (tgt := 266) (by decide) ?_
  refine aw_aload_n C dc_M_combine_266 rfl ?_
  refine aw_iload_n C dc_M_combine_267 rfl ?_
  refine kc_i (fun _ h => h) (fun _ h => h) (kc_V (n := 1) C hX xk_true rfl 0 rf_p0 rfl (m_lay l D a cI cL cF (nI 0) S (mkl_ (fl_ K 64 0) (qo_ (fb_ (rw_ S f9)) (fb_ (rw_ S g9)) (al_ (fb_ (rw_ S g9)) 4096)) (fun p => p) 4096) Qt O1 O2 En Ot Wt i hi) kw_742 kw_739 kw_741 (tw_sel (q := (my_M_lay, 9)) (by decide +kernel)) kw_8 rfl (by unfold kd_; decide) ⟨rfl, rfl, by decide, by decide⟩ rfl rfl (Nat.le_of_ble_eq_true rfl) ⟨Nat.zero_le _, Nat.zero_le _⟩ dc_M_combine_268) ?_
  exact kc_iret C hr rfl (fun _ h => h) dc_M_combine_271
set_option maxHeartbeats 4000000 in
set_option maxRecDepth 100000 in
theorem m_combine8 (l : Launch) (D : va_G) (a : Nat) (cI cL cF : ClassId) (t : Int32) (S K Qt : Nat → Int64) (O1 O2 En Ot Wt : Nat → Int32) (i : Nat) (hi : i < 10) (f9 : Nat) (hf : f9 < 10) (g9 : Nat) (hg : g9 < 10) (hz : ¬ tw64_ (rw_ S g9) 64 = 0) : ki_ l my_M_combine (Cond.code my_M_combine bc_M_combine 10 (some .int) :: tw_) ({ frames := 3, cells := 0, slots := 0, locals := 75 }) D (ty_s cI cL cF) (fun _ => True) (cm_ a) [.ref a, .int (nI i), .int (nI 8), .int (nI f9), .int (nI g9)] (rp_ D a cI cL t S K Qt O1 O2 En Ot Wt) (rp_ D a cI cL (nI 0) (sl_ S i (ro_ (fb_ (fw_ (mkl_ (fl_ K 64 0) (qo_ (fb_ (rw_ S f9)) (fb_ (rw_ S g9)) (al_ (fb_ (rw_ S g9)) 4096)) (fun p => p) 4096) Qt 64)) (fb_ (rw_ S g9)) (al_ (fb_ (rw_ S g9)) 4096) (fw_ (rw_ S f9) (mkl_ (fl_ K 64 0) (qo_ (fb_ (rw_ S f9)) (fb_ (rw_ S g9)) (al_ (fb_ (rw_ S g9)) 4096)) (fun p => p) 4096) 64) 4096) 64) (ro_ (fb_ (fw_ (mkl_ (fl_ K 64 0) (qo_ (fb_ (rw_ S f9)) (fb_ (rw_ S g9)) (al_ (fb_ (rw_ S g9)) 4096)) (fun p => p) 4096) Qt 64)) (fb_ (rw_ S g9)) (al_ (fb_ (rw_ S g9)) 4096) (fw_ (rw_ S f9) (mkl_ (fl_ K 64 0) (qo_ (fb_ (rw_ S f9)) (fb_ (rw_ S g9)) (al_ (fb_ (rw_ S g9)) 4096)) (fun p => p) 4096) 64) 4096) (fw_ (mkl_ (fl_ K 64 0) (qo_ (fb_ (rw_ S f9)) (fb_ (rw_ S g9)) (al_ (fb_ (rw_ S g9)) 4096)) (fun p => p) 4096) Qt 64) O1 O2 En Ot Wt) (nI (tw64_ (rw_ (sl_ S i (ro_ (fb_ (fw_ (mkl_ (fl_ K 64 0) (qo_ (fb_ (rw_ S f9)) (fb_ (rw_ S g9)) (al_ (fb_ (rw_ S g9)) 4096)) (fun p => p) 4096) Qt 64)) (fb_ (rw_ S g9)) (al_ (fb_ (rw_ S g9)) 4096) (fw_ (rw_ S f9) (mkl_ (fl_ K 64 0) (qo_ (fb_ (rw_ S f9)) (fb_ (rw_ S g9)) (al_ (fb_ (rw_ S g9)) 4096)) (fun p => p) 4096) 64) 4096) 64) i) 64)) := by
  refine aw_met (A := cm_ a) (own := "FamilyShelfModel") (by decide) rfl rfl (Nat.le_of_ble_eq_true rfl) ?_
  intro p9 e s m args below meth c C hr hX hP0
  refine aw_lw (lw' := [some (.ref a), some (.int (nI i)), some (.int (nI 8)), some (.int (nI f9)), some (.int (nI g9)), none, none, none, none, none]) rfl ?_
  refine aw_aload_n C dc_M_combine_0 rfl ?_
  refine aw_iload_n C dc_M_combine_1 rfl ?_
  refine kc_i (fun _ h => h) (fun _ h => h) (kc_S (n := 1) C hX xk_true (m_noShelf0 l D _ _ _ _ i hi) kw_677 kw_675 kw_676 kw_8 (by unfold kd_; decide) ⟨rfl, rfl, by decide, by decide⟩ rfl rfl (Nat.le_of_ble_eq_true rfl) ⟨Nat.zero_le _, Nat.zero_le _⟩ dc_M_combine_2) ?_
  refine aw_if_ne C dc_M_combine_5 (tgt := 23) (by decide) (fun h9 => absurd (by decide) h9) (fun _ => ?_)
  refine aw_iload_n C dc_M_combine_8 rfl ?_
  refine kc_i (fun _ h => h) (fun _ h => h) (kc_S (n := 1) C hX xk_true (m_noShelf0 l D _ _ _ _ f9 hf) kw_677 kw_675 kw_676 kw_8 (by unfold kd_; decide) ⟨rfl, rfl, by decide, by decide⟩ rfl rfl (Nat.le_of_ble_eq_true rfl) ⟨Nat.zero_le _, Nat.zero_le _⟩ dc_M_combine_9) ?_
  refine aw_if_ne C dc_M_combine_12 (tgt := 23) (by decide) (fun h9 => absurd (by decide) h9) (fun _ => ?_)
  refine aw_iload C dc_M_combine_15 rfl ?_
  refine kc_i (fun _ h => h) (fun _ h => h) (kc_S (n := 1) C hX xk_true (m_noShelf0 l D _ _ _ _ g9 hg) kw_677 kw_675 kw_676 kw_8 (by unfold kd_; decide) ⟨rfl, rfl, by decide, by decide⟩ rfl rfl (Nat.le_of_ble_eq_true rfl) ⟨Nat.zero_le _, Nat.zero_le _⟩ dc_M_combine_17) ?_
  refine aw_if_eq C dc_M_combine_20 (tgt := 27) (by decide) (fun _ => ?_) (fun h9 => absurd (by decide) h9)
  refine aw_iload_n C dc_M_combine_27 rfl ?_
  refine aw_if_lt C dc_M_combine_28 (tgt := 37) (by decide) (fun h9 => absurd h9 (by decide)) (fun _ => ?_)
  refine aw_iload_n C dc_M_combine_31 rfl ?_
  refine aw_bipush C dc_M_combine_32 (v := nI 8) rfl ?_
  refine aw_icmp_le C dc_M_combine_34 (tgt := 41) (by decide) (fun _ => ?_) (fun h9 => absurd (by decide) h9)
  refine aw_iload_n C dc_M_combine_41 rfl ?_
  refine aw_bipush C dc_M_combine_42 (v := nI 6) rfl ?_
  refine aw_icmp_le C dc_M_combine_44 (tgt := 60) (by decide) (fun h9 => absurd h9 (by decide)) (fun _ => ?_)
  refine aw_aload_n C dc_M_combine_47 rfl ?_
  refine aw_iload C dc_M_combine_48 rfl ?_
  refine kc_i (fun _ h => h) (fun _ h => h) (kc_V (n := 1) C hX xk_true rfl 0 rf_p0 rfl (m_countOf l D a cI cL cF t S K Qt O1 O2 En Ot Wt g9 hg) kw_697 kw_694 kw_696 (tw_sel (q := (my_M_countOf, 9)) (by decide +kernel)) kw_8 rfl (by unfold kd_; decide) ⟨rfl, rfl, by decide, by decide⟩ rfl rfl (Nat.le_of_ble_eq_true rfl) ⟨Nat.zero_le _, Nat.zero_le _⟩ dc_M_combine_50) ?_
  refine aw_if_ne C dc_M_combine_53 (tgt := 60) (by decide) (fun _ => ?_) (fun h9 => absurd h9 (fun h9 => hz ((ni_z (by have := tw64_le (rw_ S g9) 64; omega)).mp h9)))
  refine aw_iconst C dc_M_combine_60 (v := nI 0) rfl ?_
  refine aw_put C rf_D (fun w h => List.mem_cons_of_mem _ (ly_M w h)) ty_M ty_M_ok nm_M 0 rf_p0 rfl 0 (by decide) (C.1.2.2.2.2 _ (List.mem_cons_of_mem _ kw_636)) (fun _ h => h) rfl (ty := .int) (by decide +kernel) rfl rfl (Nat.le_of_ble_eq_true rfl) (ws' := rf_ a cI cL (nI 0) S K Qt O1 O2 En Ot Wt) rfl dc_M_combine_61 ?_
  refine aw_aload_n C dc_M_combine_64 rfl ?_
  refine aw_get C (fun w h => List.mem_cons_of_mem _ (ly_M w h)) 0 rf_p0 rfl 0 (by decide) (C.1.2.2.2.2 _ (List.mem_cons_of_mem _ kw_636)) (fun _ h => h) rfl dc_M_combine_65 ?_
  refine aw_if_eq C dc_M_combine_68 (tgt := 73) (by decide) (fun _ => ?_) (fun h9 => absurd (by decide) h9)
  refine aw_aload_n C dc_M_combine_73 rfl ?_
  refine kc_v (fun _ h => h) (fun _ h => h) (kc_V (n := 0) C hX xk_true rfl 0 rf_p0 rfl (m_begin l D a cI cL cF (nI 0) S K Qt O1 O2 En Ot Wt) kw_708 kw_705 kw_707 (tw_sel (q := (my_M_begin, 9)) (by decide +kernel)) kw_8 rfl (by unfold kd_; decide) ⟨rfl, rfl, by decide, by decide⟩ rfl rfl (Nat.le_of_ble_eq_true rfl) ⟨Nat.zero_le _, Nat.zero_le _⟩ dc_M_combine_74) ?_
  refine aw_iload_n C dc_M_combine_77 rfl ?_
  refine aw_tabIn C dc_M_combine_78 (off := 92) (tgt := 170) (by decide) (by decide) (by decide) (by decide) ?_
  refine aw_aload_n C dc_M_combine_170 rfl ?_
  refine aw_iload_n C dc_M_combine_171 rfl ?_
  refine aw_iload C dc_M_combine_172 rfl ?_
  refine kc_v (fun _ h => h) (fun _ h => h) (kc_V (n := 2) C hX xk_true rfl 0 rf_p0 rfl (m_makeRemainder l D a cI cL cF (nI 0) S (fl_ K 64 0) Qt O1 O2 En Ot Wt f9 hf g9 hg) kw_738 kw_735 kw_737 (tw_sel (q := (my_M_makeRemainder, 9)) (by decide +kernel)) kw_8 rfl (by unfold kd_; decide) ⟨rfl, rfl, by decide, by decide⟩ rfl rfl (Nat.le_of_ble_eq_true rfl) ⟨Nat.zero_le _, Nat.zero_le _⟩ dc_M_combine_174) ?_
  refine aw_goto C dc_M_combine_177 (tgt := 266) (by decide) ?_
  refine aw_aload_n C dc_M_combine_266 rfl ?_
  refine aw_iload_n C dc_M_combine_267 rfl ?_
  refine kc_i (fun _ h => h) (fun _ h => h) (kc_V (n := 1) C hX xk_true rfl 0 rf_p0 rfl (m_lay l D a cI cL cF (nI 0) S (ro_ (fb_ (fw_ (mkl_ (fl_ K 64 0) (qo_ (fb_ (rw_ S f9)) (fb_ (rw_ S g9)) (al_ (fb_ (rw_ S g9)) 4096)) (fun p => p) 4096) Qt 64)) (fb_ (rw_ S g9)) (al_ (fb_ (rw_ S g9)) 4096) (fw_ (rw_ S f9) (mkl_ (fl_ K 64 0) (qo_ (fb_ (rw_ S f9)) (fb_ (rw_ S g9)) (al_ (fb_ (rw_ S g9)) 4096)) (fun p => p) 4096) 64) 4096) (fw_ (mkl_ (fl_ K 64 0) (qo_ (fb_ (rw_ S f9)) (fb_ (rw_ S g9)) (al_ (fb_ (rw_ S g9)) 4096)) (fun p => p) 4096) Qt 64) O1 O2 En Ot Wt i hi) kw_742 kw_739 kw_741 (tw_sel (q := (my_M_lay, 9)) (by decide +kernel)) kw_8 rfl (by unfold kd_; decide) ⟨rfl, rfl, by decide, by decide⟩ rfl rfl (Nat.le_of_ble_eq_true rfl) ⟨Nat.zero_le _, Nat.zero_le _⟩ dc_M_combine_268) ?_
  exact kc_iret C hr rfl (fun _ h => h) dc_M_combine_271
