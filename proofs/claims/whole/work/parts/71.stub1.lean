set_option maxHeartbeats 4000000 in
set_option maxRecDepth 100000 in
theorem l_put (l : Launch) (D : va_G) (h th : Nat) (cI cL cF : ClassId) (I : Nat → Nat → Int32) (J : Nat → Nat → Int64) (sh : Nat → Nat) (fr : Nat) (en : Int32) (hs : shok_ sh fr) (i : Nat) (hi : i < 10) (n : Nat) (hn : n < 4096) (o : Nat) (O : Nat → Int64) (ho : ¬ ca_ h o) (hho : h ≤ o) : kh_ l my_L_put (Cond.codeWith my_L_put bc_L_put 5 (some .int) [(0, 17, 20, 13), (0, 17, 24, 15)] :: tw_) { frames := 41, cells := 1, slots := 6, locals := 2040 } D (ty_s cI cL cF) (xq_ h th) (sA_ h o) [.ref h, .int (nI i), .int (nI n), .ref o] (ow_ D h cI cL cF I J sh fr en o O) (ow_ D h cI cL cF I (va_up J (sh i + 1) (inc_ (J (sh i + 1)) (mr_ n 12))) sh fr en o (vp_updL O 0 (zl_ (!fb_ (J (sh i + 1)) (mr_ n 12))))) (nI 0) := by
  refine aw_metH (A := sA_ h o) (own := "FamilyShelfLaw") (by decide) rfl rfl (Nat.le_of_ble_eq_true rfl) ?_
  intro p9 e s m args below meth c C hr htb hX hP0
  refine aw_lw (lw' := [some (.ref h), some (.int (nI i)), some (.int (nI n)), some (.ref o), none]) rfl ?_
  refine aw_aload_n C dc_L_put_0 rfl ?_
  refine aw_iconst C dc_L_put_1 (v := nI 0) rfl ?_
  refine aw_aload_n C dc_L_put_2 rfl ?_
  refine aw_iload_n C dc_L_put_3 rfl ?_
  refine aw_iload_n C dc_L_put_4 rfl ?_
  refine kq_Vi (ws := sy_ h cI cL cF I J sh fr en) (n := 2) (P' := ow_ D h cI cL cF I (va_up J (sh i + 1) (inc_ (J (sh i + 1)) (mr_ n 12))) sh fr en o O) C (fun U hW hz hq => xw_k (sA_le hho) s U hW hz hq hX.1.1) (sp_blind (A := ca_ h) (xw_k ca_le)) (fun H h => pa_l h) 0 sy_p0 rfl (s_put l D h th cI cL cF I J sh fr en hs i hi n hn) kw_143 kw_140 kw_141 kw_142 kw_1 rfl (by unfold kd_; decide) ⟨rfl, rfl, by decide, by decide⟩ rfl rfl (Nat.le_of_ble_eq_true rfl) ⟨by decide, by decide⟩ dc_L_put_5 (fun q h => Or.inl h) (fun H h => pa_l h) (fun H H1 h hk h1 => sw_post (cI := cI) (cF := cF) ho h hk h1) ?_
  refine aw_if_eq C dc_L_put_8 (tgt := 15) (by decide) (fun hB8 => ?_) (fun hB8 => ?_)
  · have hb := z1_0.mp hB8
    refine aw_lconst C dc_L_put_15 (v := 0) rfl ?_
    refine aw_last C (sw_D ho) 42 1 ow_at rfl 0 rfl (by decide) (by decide) (ws' := sy_ h cI cL cF I (va_up J (sh i + 1) (inc_ (J (sh i + 1)) (mr_ n 12))) sh fr en ++ [(o, .inl (cL, 1, .inr (.inl (vp_updL O 0 (zl_ (!fb_ (J (sh i + 1)) (mr_ n 12)))))))]) (by rw [ow_set, hb]; rfl) dc_L_put_16 ?_
    refine aw_goto C dc_L_put_17 (tgt := 28) (by decide) ?_
    refine aw_iconst C dc_L_put_28 (v := nI 0) rfl ?_
    exact aw_ret2 (aw_widen (k := 1) (n := 6) (by decide) (by decide) (aw_iret C hr dc_L_put_29 (fun t h _ => ⟨(), rfl, h⟩)))
  · have hb := z1_n.mp hB8
    refine aw_lconst C dc_L_put_11 (v := 1) rfl ?_
    refine aw_goto C dc_L_put_12 (tgt := 16) (by decide) ?_
    refine aw_last C (sw_D ho) 42 1 ow_at rfl 0 rfl (by decide) (by decide) (ws' := sy_ h cI cL cF I (va_up J (sh i + 1) (inc_ (J (sh i + 1)) (mr_ n 12))) sh fr en ++ [(o, .inl (cL, 1, .inr (.inl (vp_updL O 0 (zl_ (!fb_ (J (sh i + 1)) (mr_ n 12)))))))]) (by rw [ow_set, hb]; rfl) dc_L_put_16 ?_
    refine aw_goto C dc_L_put_17 (tgt := 28) (by decide) ?_
    refine aw_iconst C dc_L_put_28 (v := nI 0) rfl ?_
    exact aw_ret2 (aw_widen (k := 1) (n := 6) (by decide) (by decide) (aw_iret C hr dc_L_put_29 (fun t h _ => ⟨(), rfl, h⟩)))
set_option maxHeartbeats 4000000 in
set_option maxRecDepth 100000 in
theorem l_take (l : Launch) (D : va_G) (h th : Nat) (cI cL cF : ClassId) (I : Nat → Nat → Int32) (J : Nat → Nat → Int64) (sh : Nat → Nat) (fr : Nat) (en : Int32) (hs : shok_ sh fr) (i : Nat) (hi : i < 10) (n : Nat) (hn : n < 4096) (o : Nat) (O : Nat → Int64) (ho : ¬ ca_ h o) (hho : h ≤ o) : kh_ l my_L_take (Cond.codeWith my_L_take bc_L_take 5 (some .int) [(0, 17, 20, 13), (0, 17, 24, 15)] :: tw_) { frames := 41, cells := 1, slots := 6, locals := 2040 } D (ty_s cI cL cF) (xq_ h th) (sA_ h o) [.ref h, .int (nI i), .int (nI n), .ref o] (ow_ D h cI cL cF I J sh fr en o O) (ow_ D h cI cL cF I (va_up J (sh i + 1) (exc_ (J (sh i + 1)) (mr_ n 12))) sh fr en o (vp_updL O 0 (zl_ (fb_ (J (sh i + 1)) (mr_ n 12))))) (nI 0) := by
  refine aw_metH (A := sA_ h o) (own := "FamilyShelfLaw") (by decide) rfl rfl (Nat.le_of_ble_eq_true rfl) ?_
  intro p9 e s m args below meth c C hr htb hX hP0
  refine aw_lw (lw' := [some (.ref h), some (.int (nI i)), some (.int (nI n)), some (.ref o), none]) rfl ?_
  refine aw_aload_n C dc_L_take_0 rfl ?_
  refine aw_iconst C dc_L_take_1 (v := nI 0) rfl ?_
  refine aw_aload_n C dc_L_take_2 rfl ?_
  refine aw_iload_n C dc_L_take_3 rfl ?_
  refine aw_iload_n C dc_L_take_4 rfl ?_
  refine kq_Vi (ws := sy_ h cI cL cF I J sh fr en) (n := 2) (P' := ow_ D h cI cL cF I (va_up J (sh i + 1) (exc_ (J (sh i + 1)) (mr_ n 12))) sh fr en o O) C (fun U hW hz hq => xw_k (sA_le hho) s U hW hz hq hX.1.1) (sp_blind (A := ca_ h) (xw_k ca_le)) (fun H h => pa_l h) 0 sy_p0 rfl (s_take l D h th cI cL cF I J sh fr en hs i hi n hn) kw_258 kw_255 kw_256 kw_257 kw_1 rfl (by unfold kd_; decide) ⟨rfl, rfl, by decide, by decide⟩ rfl rfl (Nat.le_of_ble_eq_true rfl) ⟨by decide, by decide⟩ dc_L_take_5 (fun q h => Or.inl h) (fun H h => pa_l h) (fun H H1 h hk h1 => sw_post (cI := cI) (cF := cF) ho h hk h1) ?_
  refine aw_if_eq C dc_L_take_8 (tgt := 15) (by decide) (fun hB8 => ?_) (fun hB8 => ?_)
  · have hb := z1_0.mp hB8
    refine aw_lconst C dc_L_take_15 (v := 0) rfl ?_
    refine aw_last C (sw_D ho) 42 1 ow_at rfl 0 rfl (by decide) (by decide) (ws' := sy_ h cI cL cF I (va_up J (sh i + 1) (exc_ (J (sh i + 1)) (mr_ n 12))) sh fr en ++ [(o, .inl (cL, 1, .inr (.inl (vp_updL O 0 (zl_ (fb_ (J (sh i + 1)) (mr_ n 12)))))))]) (by rw [ow_set, hb]; rfl) dc_L_take_16 ?_
    refine aw_goto C dc_L_take_17 (tgt := 28) (by decide) ?_
    refine aw_iconst C dc_L_take_28 (v := nI 0) rfl ?_
    exact aw_ret2 (aw_widen (k := 1) (n := 6) (by decide) (by decide) (aw_iret C hr dc_L_take_29 (fun t h _ => ⟨(), rfl, h⟩)))
  · have hb := z1_n.mp hB8
    refine aw_lconst C dc_L_take_11 (v := 1) rfl ?_
    refine aw_goto C dc_L_take_12 (tgt := 16) (by decide) ?_
    refine aw_last C (sw_D ho) 42 1 ow_at rfl 0 rfl (by decide) (by decide) (ws' := sy_ h cI cL cF I (va_up J (sh i + 1) (exc_ (J (sh i + 1)) (mr_ n 12))) sh fr en ++ [(o, .inl (cL, 1, .inr (.inl (vp_updL O 0 (zl_ (fb_ (J (sh i + 1)) (mr_ n 12)))))))]) (by rw [ow_set, hb]; rfl) dc_L_take_16 ?_
    refine aw_goto C dc_L_take_17 (tgt := 28) (by decide) ?_
    refine aw_iconst C dc_L_take_28 (v := nI 0) rfl ?_
    exact aw_ret2 (aw_widen (k := 1) (n := 6) (by decide) (by decide) (aw_iret C hr dc_L_take_29 (fun t h _ => ⟨(), rfl, h⟩)))
set_option maxHeartbeats 4000000 in
set_option maxRecDepth 100000 in
theorem l_clear (l : Launch) (D : va_G) (h th : Nat) (cI cL cF : ClassId) (I : Nat → Nat → Int32) (J : Nat → Nat → Int64) (sh : Nat → Nat) (fr : Nat) (en : Int32) (hs : shok_ sh fr) (i : Nat) (hi : i < 10) (o : Nat) (O : Nat → Int64) (ho : ¬ ca_ h o) (hho : h ≤ o) : kh_ l my_L_clear (Cond.codeWith my_L_clear bc_L_clear 4 (some .int) [(0, 9, 12, 13)] :: tw_) { frames := 41, cells := 1, slots := 6, locals := 2040 } D (ty_s cI cL cF) (xq_ h th) (sA_ h o) [.ref h, .int (nI i), .ref o] (ow_ D h cI cL cF I J sh fr en o O) (ow_ D h cI cL cF I (fillJ_ J (sh i) 0) sh fr en o (vp_updL O 0 (nI (tw64_ (J (sh i + 1)) 64)).toInt64)) (nI 0) := by
  refine aw_metH (A := sA_ h o) (own := "FamilyShelfLaw") (by decide) rfl rfl (Nat.le_of_ble_eq_true rfl) ?_
  intro p9 e s m args below meth c C hr htb hX hP0
  refine aw_lw (lw' := [some (.ref h), some (.int (nI i)), some (.ref o), none]) rfl ?_
  refine aw_aload_n C dc_L_clear_0 rfl ?_
  refine aw_iconst C dc_L_clear_1 (v := nI 0) rfl ?_
  refine aw_aload_n C dc_L_clear_2 rfl ?_
  refine aw_iload_n C dc_L_clear_3 rfl ?_
  refine kq_Vi (ws := sy_ h cI cL cF I J sh fr en) (n := 1) (P' := ow_ D h cI cL cF I (fillJ_ J (sh i) 0) sh fr en o O) C (fun U hW hz hq => xw_k (sA_le hho) s U hW hz hq hX.1.1) (sp_blind (A := ca_ h) (xw_k ca_le)) (fun H h => pa_l h) 0 sy_p0 rfl (s_clear l D h th cI cL cF I J sh fr en hs i hi) kw_270 kw_267 kw_268 kw_269 kw_1 rfl (by unfold kd_; decide) ⟨rfl, rfl, by decide, by decide⟩ rfl rfl (Nat.le_of_ble_eq_true rfl) ⟨by decide, by decide⟩ dc_L_clear_4 (fun q h => Or.inl h) (fun H h => pa_l h) (fun H H1 h hk h1 => sw_post (cI := cI) (cF := cF) ho h hk h1) ?_
  refine aw_i2l C dc_L_clear_7 ?_
  refine aw_last C (sw_D ho) 42 1 ow_at rfl 0 rfl (by decide) (by decide) (ws' := sy_ h cI cL cF I (fillJ_ J (sh i) 0) sh fr en ++ [(o, .inl (cL, 1, .inr (.inl (vp_updL O 0 (nI (tw64_ (J (sh i + 1)) 64)).toInt64))))]) (by rw [ow_set]) dc_L_clear_8 ?_
  refine aw_goto C dc_L_clear_9 (tgt := 15) (by decide) ?_
  refine aw_iconst C dc_L_clear_15 (v := nI 0) rfl ?_
  exact aw_ret2 (aw_widen (k := 1) (n := 6) (by decide) (by decide) (aw_iret C hr dc_L_clear_16 (fun t h _ => ⟨(), rfl, h⟩)))
set_option maxHeartbeats 4000000 in
set_option maxRecDepth 100000 in
theorem l_combine0 (l : Launch) (D : va_G) (h th : Nat) (cI cL cF : ClassId) (I : Nat → Nat → Int32) (J : Nat → Nat → Int64) (sh : Nat → Nat) (fr : Nat) (en : Int32) (hs : shok_ sh fr) (i : Nat) (hi : i < 10) (fa : Nat) (hfa : fa < 10) (gb : Nat) (hgb : gb < 10) (o : Nat) (O : Nat → Int64) (ho : ¬ ca_ h o) (hho : h ≤ o) : kh_ l my_L_combine (Cond.codeWith my_L_combine bc_L_combine 7 (some .int) [(0, 14, 17, 13), (0, 14, 21, 15), (0, 14, 25, 28)] :: tw_) { frames := 41, cells := 1, slots := 6, locals := 2040 } D (ty_s cI cL cF) (xq_ h th) (sA_ h o) [.ref h, .int (nI i), .int (nI 0), .int (nI fa), .int (nI gb), .ref o] (ow_ D h cI cL cF I J sh fr en o O) (ow_ D h cI cL cF I (uniJ_ J fr (sh fa) (sh gb)) (va_up sh i fr) (sh i) en o (vp_updL O 0 (nI (tw64_ ((uniJ_ J fr (sh fa) (sh gb)) (fr + 1)) 64)).toInt64)) (nI 0) := by
  refine aw_metH (A := sA_ h o) (own := "FamilyShelfLaw") (by decide) rfl rfl (Nat.le_of_ble_eq_true rfl) ?_
  intro p9 e s m args below meth c C hr htb hX hP0
  refine aw_lw (lw' := [some (.ref h), some (.int (nI i)), some (.int (nI 0)), some (.int (nI fa)), some (.int (nI gb)), some (.ref o), none]) rfl ?_
  refine aw_aload C dc_L_combine_0 rfl ?_
  refine aw_iconst C dc_L_combine_2 (v := nI 0) rfl ?_
  refine aw_aload_n C dc_L_combine_3 rfl ?_
  refine aw_iload_n C dc_L_combine_4 rfl ?_
  refine aw_iload_n C dc_L_combine_5 rfl ?_
  refine aw_iload_n C dc_L_combine_6 rfl ?_
  refine aw_iload C dc_L_combine_7 rfl ?_
  refine kq_Vi (ws := sy_ h cI cL cF I J sh fr en) (n := 4) (P' := ow_ D h cI cL cF I (uniJ_ J fr (sh fa) (sh gb)) (va_up sh i fr) (sh i) en o O) C (fun U hW hz hq => xw_k (sA_le hho) s U hW hz hq hX.1.1) (sp_blind (A := ca_ h) (xw_k ca_le)) (fun H h => pa_l h) 0 sy_p0 rfl (s_combine0 l D h th cI cL cF I J sh fr en hs i hi fa hfa gb hgb) kw_299 kw_296 kw_297 kw_298 kw_1 rfl (by unfold kd_; decide) ⟨rfl, rfl, by decide, by decide⟩ rfl rfl (Nat.le_of_ble_eq_true rfl) ⟨by decide, by decide⟩ dc_L_combine_9 (fun q h => Or.inl h) (fun H h => pa_l h) (fun H H1 h hk h1 => sw_post (cI := cI) (cF := cF) ho h hk h1) ?_
  refine aw_i2l C dc_L_combine_12 ?_
  refine aw_last C (sw_D ho) 42 1 ow_at rfl 0 rfl (by decide) (by decide) (ws' := sy_ h cI cL cF I (uniJ_ J fr (sh fa) (sh gb)) (va_up sh i fr) (sh i) en ++ [(o, .inl (cL, 1, .inr (.inl (vp_updL O 0 (nI (tw64_ ((uniJ_ J fr (sh fa) (sh gb)) (fr + 1)) 64)).toInt64))))]) (by rw [ow_set]) dc_L_combine_13 ?_
  refine aw_goto C dc_L_combine_14 (tgt := 29) (by decide) ?_
  refine aw_iconst C dc_L_combine_29 (v := nI 0) rfl ?_
  exact aw_ret2 (aw_widen (k := 1) (n := 6) (by decide) (by decide) (aw_iret C hr dc_L_combine_30 (fun t h _ => ⟨(), rfl, h⟩)))
set_option maxHeartbeats 4000000 in
set_option maxRecDepth 100000 in
theorem l_combine1 (l : Launch) (D : va_G) (h th : Nat) (cI cL cF : ClassId) (I : Nat → Nat → Int32) (J : Nat → Nat → Int64) (sh : Nat → Nat) (fr : Nat) (en : Int32) (hs : shok_ sh fr) (i : Nat) (hi : i < 10) (fa : Nat) (hfa : fa < 10) (gb : Nat) (hgb : gb < 10) (o : Nat) (O : Nat → Int64) (ho : ¬ ca_ h o) (hho : h ≤ o) : kh_ l my_L_combine (Cond.codeWith my_L_combine bc_L_combine 7 (some .int) [(0, 14, 17, 13), (0, 14, 21, 15), (0, 14, 25, 28)] :: tw_) { frames := 41, cells := 1, slots := 6, locals := 2040 } D (ty_s cI cL cF) (xq_ h th) (sA_ h o) [.ref h, .int (nI i), .int (nI 1), .int (nI fa), .int (nI gb), .ref o] (ow_ D h cI cL cF I J sh fr en o O) (ow_ D h cI cL cF I (intJ_ J fr (sh fa) (sh gb)) (va_up sh i fr) (sh i) en o (vp_updL O 0 (nI (tw64_ ((intJ_ J fr (sh fa) (sh gb)) (fr + 1)) 64)).toInt64)) (nI 0) := by
  refine aw_metH (A := sA_ h o) (own := "FamilyShelfLaw") (by decide) rfl rfl (Nat.le_of_ble_eq_true rfl) ?_
  intro p9 e s m args below meth c C hr htb hX hP0
  refine aw_lw (lw' := [some (.ref h), some (.int (nI i)), some (.int (nI 1)), some (.int (nI fa)), some (.int (nI gb)), some (.ref o), none]) rfl ?_
  refine aw_aload C dc_L_combine_0 rfl ?_
  refine aw_iconst C dc_L_combine_2 (v := nI 0) rfl ?_
  refine aw_aload_n C dc_L_combine_3 rfl ?_
  refine aw_iload_n C dc_L_combine_4 rfl ?_
  refine aw_iload_n C dc_L_combine_5 rfl ?_
  refine aw_iload_n C dc_L_combine_6 rfl ?_
  refine aw_iload C dc_L_combine_7 rfl ?_
  refine kq_Vi (ws := sy_ h cI cL cF I J sh fr en) (n := 4) (P' := ow_ D h cI cL cF I (intJ_ J fr (sh fa) (sh gb)) (va_up sh i fr) (sh i) en o O) C (fun U hW hz hq => xw_k (sA_le hho) s U hW hz hq hX.1.1) (sp_blind (A := ca_ h) (xw_k ca_le)) (fun H h => pa_l h) 0 sy_p0 rfl (s_combine1 l D h th cI cL cF I J sh fr en hs i hi fa hfa gb hgb) kw_299 kw_296 kw_297 kw_298 kw_1 rfl (by unfold kd_; decide) ⟨rfl, rfl, by decide, by decide⟩ rfl rfl (Nat.le_of_ble_eq_true rfl) ⟨by decide, by decide⟩ dc_L_combine_9 (fun q h => Or.inl h) (fun H h => pa_l h) (fun H H1 h hk h1 => sw_post (cI := cI) (cF := cF) ho h hk h1) ?_
  refine aw_i2l C dc_L_combine_12 ?_
  refine aw_last C (sw_D ho) 42 1 ow_at rfl 0 rfl (by decide) (by decide) (ws' := sy_ h cI cL cF I (intJ_ J fr (sh fa) (sh gb)) (va_up sh i fr) (sh i) en ++ [(o, .inl (cL, 1, .inr (.inl (vp_updL O 0 (nI (tw64_ ((intJ_ J fr (sh fa) (sh gb)) (fr + 1)) 64)).toInt64))))]) (by rw [ow_set]) dc_L_combine_13 ?_
  refine aw_goto C dc_L_combine_14 (tgt := 29) (by decide) ?_
  refine aw_iconst C dc_L_combine_29 (v := nI 0) rfl ?_
  exact aw_ret2 (aw_widen (k := 1) (n := 6) (by decide) (by decide) (aw_iret C hr dc_L_combine_30 (fun t h _ => ⟨(), rfl, h⟩)))
set_option maxHeartbeats 4000000 in
set_option maxRecDepth 100000 in
theorem l_combine2 (l : Launch) (D : va_G) (h th : Nat) (cI cL cF : ClassId) (I : Nat → Nat → Int32) (J : Nat → Nat → Int64) (sh : Nat → Nat) (fr : Nat) (en : Int32) (hs : shok_ sh fr) (i : Nat) (hi : i < 10) (fa : Nat) (hfa : fa < 10) (gb : Nat) (hgb : gb < 10) (o : Nat) (O : Nat → Int64) (ho : ¬ ca_ h o) (hho : h ≤ o) : kh_ l my_L_combine (Cond.codeWith my_L_combine bc_L_combine 7 (some .int) [(0, 14, 17, 13), (0, 14, 21, 15), (0, 14, 25, 28)] :: tw_) { frames := 41, cells := 1, slots := 6, locals := 2040 } D (ty_s cI cL cF) (xq_ h th) (sA_ h o) [.ref h, .int (nI i), .int (nI 2), .int (nI fa), .int (nI gb), .ref o] (ow_ D h cI cL cF I J sh fr en o O) (ow_ D h cI cL cF I (subJ_ J fr (sh fa) (sh gb)) (va_up sh i fr) (sh i) en o (vp_updL O 0 (nI (tw64_ ((subJ_ J fr (sh fa) (sh gb)) (fr + 1)) 64)).toInt64)) (nI 0) := by
  refine aw_metH (A := sA_ h o) (own := "FamilyShelfLaw") (by decide) rfl rfl (Nat.le_of_ble_eq_true rfl) ?_
  intro p9 e s m args below meth c C hr htb hX hP0
  refine aw_lw (lw' := [some (.ref h), some (.int (nI i)), some (.int (nI 2)), some (.int (nI fa)), some (.int (nI gb)), some (.ref o), none]) rfl ?_
  refine aw_aload C dc_L_combine_0 rfl ?_
  refine aw_iconst C dc_L_combine_2 (v := nI 0) rfl ?_
  refine aw_aload_n C dc_L_combine_3 rfl ?_
  refine aw_iload_n C dc_L_combine_4 rfl ?_
  refine aw_iload_n C dc_L_combine_5 rfl ?_
  refine aw_iload_n C dc_L_combine_6 rfl ?_
  refine aw_iload C dc_L_combine_7 rfl ?_
  refine kq_Vi (ws := sy_ h cI cL cF I J sh fr en) (n := 4) (P' := ow_ D h cI cL cF I (subJ_ J fr (sh fa) (sh gb)) (va_up sh i fr) (sh i) en o O) C (fun U hW hz hq => xw_k (sA_le hho) s U hW hz hq hX.1.1) (sp_blind (A := ca_ h) (xw_k ca_le)) (fun H h => pa_l h) 0 sy_p0 rfl (s_combine2 l D h th cI cL cF I J sh fr en hs i hi fa hfa gb hgb) kw_299 kw_296 kw_297 kw_298 kw_1 rfl (by unfold kd_; decide) ⟨rfl, rfl, by decide, by decide⟩ rfl rfl (Nat.le_of_ble_eq_true rfl) ⟨by decide, by decide⟩ dc_L_combine_9 (fun q h => Or.inl h) (fun H h => pa_l h) (fun H H1 h hk h1 => sw_post (cI := cI) (cF := cF) ho h hk h1) ?_
  refine aw_i2l C dc_L_combine_12 ?_
  refine aw_last C (sw_D ho) 42 1 ow_at rfl 0 rfl (by decide) (by decide) (ws' := sy_ h cI cL cF I (subJ_ J fr (sh fa) (sh gb)) (va_up sh i fr) (sh i) en ++ [(o, .inl (cL, 1, .inr (.inl (vp_updL O 0 (nI (tw64_ ((subJ_ J fr (sh fa) (sh gb)) (fr + 1)) 64)).toInt64))))]) (by rw [ow_set]) dc_L_combine_13 ?_
  refine aw_goto C dc_L_combine_14 (tgt := 29) (by decide) ?_
  refine aw_iconst C dc_L_combine_29 (v := nI 0) rfl ?_
  exact aw_ret2 (aw_widen (k := 1) (n := 6) (by decide) (by decide) (aw_iret C hr dc_L_combine_30 (fun t h _ => ⟨(), rfl, h⟩)))
set_option maxHeartbeats 4000000 in
set_option maxRecDepth 100000 in
theorem l_combine3 (l : Launch) (D : va_G) (h th : Nat) (cI cL cF : ClassId) (I : Nat → Nat → Int32) (J : Nat → Nat → Int64) (sh : Nat → Nat) (fr : Nat) (en : Int32) (hs : shok_ sh fr) (i : Nat) (hi : i < 10) (fa : Nat) (hfa : fa < 10) (gb : Nat) (hgb : gb < 10) (o : Nat) (O : Nat → Int64) (ho : ¬ ca_ h o) (hho : h ≤ o) : kh_ l my_L_combine (Cond.codeWith my_L_combine bc_L_combine 7 (some .int) [(0, 14, 17, 13), (0, 14, 21, 15), (0, 14, 25, 28)] :: tw_) { frames := 41, cells := 1, slots := 6, locals := 2040 } D (ty_s cI cL cF) (xq_ h th) (sA_ h o) [.ref h, .int (nI i), .int (nI 3), .int (nI fa), .int (nI gb), .ref o] (ow_ D h cI cL cF I J sh fr en o O) (ow_ D h cI cL cF I (pairJ_ J fr (sh fa) (sh gb) true) (va_up sh i fr) (sh i) en o (vp_updL O 0 (nI (tw64_ ((pairJ_ J fr (sh fa) (sh gb) true) (fr + 1)) 64)).toInt64)) (nI 0) := by
  refine aw_metH (A := sA_ h o) (own := "FamilyShelfLaw") (by decide) rfl rfl (Nat.le_of_ble_eq_true rfl) ?_
  intro p9 e s m args below meth c C hr htb hX hP0
  refine aw_lw (lw' := [some (.ref h), some (.int (nI i)), some (.int (nI 3)), some (.int (nI fa)), some (.int (nI gb)), some (.ref o), none]) rfl ?_
  refine aw_aload C dc_L_combine_0 rfl ?_
  refine aw_iconst C dc_L_combine_2 (v := nI 0) rfl ?_
  refine aw_aload_n C dc_L_combine_3 rfl ?_
  refine aw_iload_n C dc_L_combine_4 rfl ?_
  refine aw_iload_n C dc_L_combine_5 rfl ?_
  refine aw_iload_n C dc_L_combine_6 rfl ?_
  refine aw_iload C dc_L_combine_7 rfl ?_
  refine kq_Vi (ws := sy_ h cI cL cF I J sh fr en) (n := 4) (P' := ow_ D h cI cL cF I (pairJ_ J fr (sh fa) (sh gb) true) (va_up sh i fr) (sh i) en o O) C (fun U hW hz hq => xw_k (sA_le hho) s U hW hz hq hX.1.1) (sp_blind (A := ca_ h) (xw_k ca_le)) (fun H h => pa_l h) 0 sy_p0 rfl (s_combine3 l D h th cI cL cF I J sh fr en hs i hi fa hfa gb hgb) kw_299 kw_296 kw_297 kw_298 kw_1 rfl (by unfold kd_; decide) ⟨rfl, rfl, by decide, by decide⟩ rfl rfl (Nat.le_of_ble_eq_true rfl) ⟨by decide, by decide⟩ dc_L_combine_9 (fun q h => Or.inl h) (fun H h => pa_l h) (fun H H1 h hk h1 => sw_post (cI := cI) (cF := cF) ho h hk h1) ?_
  refine aw_i2l C dc_L_combine_12 ?_
  refine aw_last C (sw_D ho) 42 1 ow_at rfl 0 rfl (by decide) (by decide) (ws' := sy_ h cI cL cF I (pairJ_ J fr (sh fa) (sh gb) true) (va_up sh i fr) (sh i) en ++ [(o, .inl (cL, 1, .inr (.inl (vp_updL O 0 (nI (tw64_ ((pairJ_ J fr (sh fa) (sh gb) true) (fr + 1)) 64)).toInt64))))]) (by rw [ow_set]) dc_L_combine_13 ?_
  refine aw_goto C dc_L_combine_14 (tgt := 29) (by decide) ?_
  refine aw_iconst C dc_L_combine_29 (v := nI 0) rfl ?_
  exact aw_ret2 (aw_widen (k := 1) (n := 6) (by decide) (by decide) (aw_iret C hr dc_L_combine_30 (fun t h _ => ⟨(), rfl, h⟩)))
set_option maxHeartbeats 4000000 in
set_option maxRecDepth 100000 in
theorem l_combine4 (l : Launch) (D : va_G) (h th : Nat) (cI cL cF : ClassId) (I : Nat → Nat → Int32) (J : Nat → Nat → Int64) (sh : Nat → Nat) (fr : Nat) (en : Int32) (hs : shok_ sh fr) (i : Nat) (hi : i < 10) (fa : Nat) (hfa : fa < 10) (gb : Nat) (hgb : gb < 10) (o : Nat) (O : Nat → Int64) (ho : ¬ ca_ h o) (hho : h ≤ o) : kh_ l my_L_combine (Cond.codeWith my_L_combine bc_L_combine 7 (some .int) [(0, 14, 17, 13), (0, 14, 21, 15), (0, 14, 25, 28)] :: tw_) { frames := 41, cells := 1, slots := 6, locals := 2040 } D (ty_s cI cL cF) (xq_ h th) (sA_ h o) [.ref h, .int (nI i), .int (nI 4), .int (nI fa), .int (nI gb), .ref o] (ow_ D h cI cL cF I J sh fr en o O) (ow_ D h cI cL cF I (pairJ_ J fr (sh fa) (sh gb) false) (va_up sh i fr) (sh i) en o (vp_updL O 0 (nI (tw64_ ((pairJ_ J fr (sh fa) (sh gb) false) (fr + 1)) 64)).toInt64)) (nI 0) := by
  refine aw_metH (A := sA_ h o) (own := "FamilyShelfLaw") (by decide) rfl rfl (Nat.le_of_ble_eq_true rfl) ?_
  intro p9 e s m args below meth c C hr htb hX hP0
  refine aw_lw (lw' := [some (.ref h), some (.int (nI i)), some (.int (nI 4)), some (.int (nI fa)), some (.int (nI gb)), some (.ref o), none]) rfl ?_
  refine aw_aload C dc_L_combine_0 rfl ?_
  refine aw_iconst C dc_L_combine_2 (v := nI 0) rfl ?_
  refine aw_aload_n C dc_L_combine_3 rfl ?_
  refine aw_iload_n C dc_L_combine_4 rfl ?_
  refine aw_iload_n C dc_L_combine_5 rfl ?_
  refine aw_iload_n C dc_L_combine_6 rfl ?_
  refine aw_iload C dc_L_combine_7 rfl ?_
  refine kq_Vi (ws := sy_ h cI cL cF I J sh fr en) (n := 4) (P' := ow_ D h cI cL cF I (pairJ_ J fr (sh fa) (sh gb) false) (va_up sh i fr) (sh i) en o O) C (fun U hW hz hq => xw_k (sA_le hho) s U hW hz hq hX.1.1) (sp_blind (A := ca_ h) (xw_k ca_le)) (fun H h => pa_l h) 0 sy_p0 rfl (s_combine4 l D h th cI cL cF I J sh fr en hs i hi fa hfa gb hgb) kw_299 kw_296 kw_297 kw_298 kw_1 rfl (by unfold kd_; decide) ⟨rfl, rfl, by decide, by decide⟩ rfl rfl (Nat.le_of_ble_eq_true rfl) ⟨by decide, by decide⟩ dc_L_combine_9 (fun q h => Or.inl h) (fun H h => pa_l h) (fun H H1 h hk h1 => sw_post (cI := cI) (cF := cF) ho h hk h1) ?_
  refine aw_i2l C dc_L_combine_12 ?_
  refine aw_last C (sw_D ho) 42 1 ow_at rfl 0 rfl (by decide) (by decide) (ws' := sy_ h cI cL cF I (pairJ_ J fr (sh fa) (sh gb) false) (va_up sh i fr) (sh i) en ++ [(o, .inl (cL, 1, .inr (.inl (vp_updL O 0 (nI (tw64_ ((pairJ_ J fr (sh fa) (sh gb) false) (fr + 1)) 64)).toInt64))))]) (by rw [ow_set]) dc_L_combine_13 ?_
  refine aw_goto C dc_L_combine_14 (tgt := 29) (by decide) ?_
  refine aw_iconst C dc_L_combine_29 (v := nI 0) rfl ?_
  exact aw_ret2 (aw_widen (k := 1) (n := 6) (by decide) (by decide) (aw_iret C hr dc_L_combine_30 (fun t h _ => ⟨(), rfl, h⟩)))
set_option maxHeartbeats 4000000 in
set_option maxRecDepth 100000 in
theorem l_combine5 (l : Launch) (D : va_G) (h th : Nat) (cI cL cF : ClassId) (I : Nat → Nat → Int32) (J : Nat → Nat → Int64) (sh : Nat → Nat) (fr : Nat) (en : Int32) (hs : shok_ sh fr) (i : Nat) (hi : i < 10) (fa : Nat) (hfa : fa < 10) (gb : Nat) (hgb : gb < 10) (o : Nat) (O : Nat → Int64) (ho : ¬ ca_ h o) (hho : h ≤ o) : kh_ l my_L_combine (Cond.codeWith my_L_combine bc_L_combine 7 (some .int) [(0, 14, 17, 13), (0, 14, 21, 15), (0, 14, 25, 28)] :: tw_) { frames := 41, cells := 1, slots := 6, locals := 2040 } D (ty_s cI cL cF) (xq_ h th) (sA_ h o) [.ref h, .int (nI i), .int (nI 5), .int (nI fa), .int (nI gb), .ref o] (ow_ D h cI cL cF I J sh fr en o O) (ow_ D h cI cL cF I (subJ_ (closeJ_ (copyJ_ J 3 (sh gb)) 3 true) fr (sh fa) 3) (va_up sh i fr) (sh i) en o (vp_updL O 0 (nI (tw64_ ((subJ_ (closeJ_ (copyJ_ J 3 (sh gb)) 3 true) fr (sh fa) 3) (fr + 1)) 64)).toInt64)) (nI 0) := by
  refine aw_metH (A := sA_ h o) (own := "FamilyShelfLaw") (by decide) rfl rfl (Nat.le_of_ble_eq_true rfl) ?_
  intro p9 e s m args below meth c C hr htb hX hP0
  refine aw_lw (lw' := [some (.ref h), some (.int (nI i)), some (.int (nI 5)), some (.int (nI fa)), some (.int (nI gb)), some (.ref o), none]) rfl ?_
  refine aw_aload C dc_L_combine_0 rfl ?_
  refine aw_iconst C dc_L_combine_2 (v := nI 0) rfl ?_
  refine aw_aload_n C dc_L_combine_3 rfl ?_
  refine aw_iload_n C dc_L_combine_4 rfl ?_
  refine aw_iload_n C dc_L_combine_5 rfl ?_
  refine aw_iload_n C dc_L_combine_6 rfl ?_
  refine aw_iload C dc_L_combine_7 rfl ?_
  refine kq_Vi (ws := sy_ h cI cL cF I J sh fr en) (n := 4) (P' := ow_ D h cI cL cF I (subJ_ (closeJ_ (copyJ_ J 3 (sh gb)) 3 true) fr (sh fa) 3) (va_up sh i fr) (sh i) en o O) C (fun U hW hz hq => xw_k (sA_le hho) s U hW hz hq hX.1.1) (sp_blind (A := ca_ h) (xw_k ca_le)) (fun H h => pa_l h) 0 sy_p0 rfl (s_combine5 l D h th cI cL cF I J sh fr en hs i hi fa hfa gb hgb) kw_299 kw_296 kw_297 kw_298 kw_1 rfl (by unfold kd_; decide) ⟨rfl, rfl, by decide, by decide⟩ rfl rfl (Nat.le_of_ble_eq_true rfl) ⟨by decide, by decide⟩ dc_L_combine_9 (fun q h => Or.inl h) (fun H h => pa_l h) (fun H H1 h hk h1 => sw_post (cI := cI) (cF := cF) ho h hk h1) ?_
  refine aw_i2l C dc_L_combine_12 ?_
  refine aw_last C (sw_D ho) 42 1 ow_at rfl 0 rfl (by decide) (by decide) (ws' := sy_ h cI cL cF I (subJ_ (closeJ_ (copyJ_ J 3 (sh gb)) 3 true) fr (sh fa) 3) (va_up sh i fr) (sh i) en ++ [(o, .inl (cL, 1, .inr (.inl (vp_updL O 0 (nI (tw64_ ((subJ_ (closeJ_ (copyJ_ J 3 (sh gb)) 3 true) fr (sh fa) 3) (fr + 1)) 64)).toInt64))))]) (by rw [ow_set]) dc_L_combine_13 ?_
  refine aw_goto C dc_L_combine_14 (tgt := 29) (by decide) ?_
  refine aw_iconst C dc_L_combine_29 (v := nI 0) rfl ?_
  exact aw_ret2 (aw_widen (k := 1) (n := 6) (by decide) (by decide) (aw_iret C hr dc_L_combine_30 (fun t h _ => ⟨(), rfl, h⟩)))
set_option maxHeartbeats 4000000 in
set_option maxRecDepth 100000 in
theorem l_combine6 (l : Launch) (D : va_G) (h th : Nat) (cI cL cF : ClassId) (I : Nat → Nat → Int32) (J : Nat → Nat → Int64) (sh : Nat → Nat) (fr : Nat) (en : Int32) (hs : shok_ sh fr) (i : Nat) (hi : i < 10) (fa : Nat) (hfa : fa < 10) (gb : Nat) (hgb : gb < 10) (o : Nat) (O : Nat → Int64) (ho : ¬ ca_ h o) (hho : h ≤ o) : kh_ l my_L_combine (Cond.codeWith my_L_combine bc_L_combine 7 (some .int) [(0, 14, 17, 13), (0, 14, 21, 15), (0, 14, 25, 28)] :: tw_) { frames := 41, cells := 1, slots := 6, locals := 2040 } D (ty_s cI cL cF) (xq_ h th) (sA_ h o) [.ref h, .int (nI i), .int (nI 6), .int (nI fa), .int (nI gb), .ref o] (ow_ D h cI cL cF I J sh fr en o O) (ow_ D h cI cL cF I (subJ_ (closeJ_ (copyJ_ J 3 (sh gb)) 3 false) fr (sh fa) 3) (va_up sh i fr) (sh i) en o (vp_updL O 0 (nI (tw64_ ((subJ_ (closeJ_ (copyJ_ J 3 (sh gb)) 3 false) fr (sh fa) 3) (fr + 1)) 64)).toInt64)) (nI 0) := by
  refine aw_metH (A := sA_ h o) (own := "FamilyShelfLaw") (by decide) rfl rfl (Nat.le_of_ble_eq_true rfl) ?_
  intro p9 e s m args below meth c C hr htb hX hP0
  refine aw_lw (lw' := [some (.ref h), some (.int (nI i)), some (.int (nI 6)), some (.int (nI fa)), some (.int (nI gb)), some (.ref o), none]) rfl ?_
  refine aw_aload C dc_L_combine_0 rfl ?_
  refine aw_iconst C dc_L_combine_2 (v := nI 0) rfl ?_
  refine aw_aload_n C dc_L_combine_3 rfl ?_
  refine aw_iload_n C dc_L_combine_4 rfl ?_
  refine aw_iload_n C dc_L_combine_5 rfl ?_
  refine aw_iload_n C dc_L_combine_6 rfl ?_
  refine aw_iload C dc_L_combine_7 rfl ?_
  refine kq_Vi (ws := sy_ h cI cL cF I J sh fr en) (n := 4) (P' := ow_ D h cI cL cF I (subJ_ (closeJ_ (copyJ_ J 3 (sh gb)) 3 false) fr (sh fa) 3) (va_up sh i fr) (sh i) en o O) C (fun U hW hz hq => xw_k (sA_le hho) s U hW hz hq hX.1.1) (sp_blind (A := ca_ h) (xw_k ca_le)) (fun H h => pa_l h) 0 sy_p0 rfl (s_combine6 l D h th cI cL cF I J sh fr en hs i hi fa hfa gb hgb) kw_299 kw_296 kw_297 kw_298 kw_1 rfl (by unfold kd_; decide) ⟨rfl, rfl, by decide, by decide⟩ rfl rfl (Nat.le_of_ble_eq_true rfl) ⟨by decide, by decide⟩ dc_L_combine_9 (fun q h => Or.inl h) (fun H h => pa_l h) (fun H H1 h hk h1 => sw_post (cI := cI) (cF := cF) ho h hk h1) ?_
  refine aw_i2l C dc_L_combine_12 ?_
  refine aw_last C (sw_D ho) 42 1 ow_at rfl 0 rfl (by decide) (by decide) (ws' := sy_ h cI cL cF I (subJ_ (closeJ_ (copyJ_ J 3 (sh gb)) 3 false) fr (sh fa) 3) (va_up sh i fr) (sh i) en ++ [(o, .inl (cL, 1, .inr (.inl (vp_updL O 0 (nI (tw64_ ((subJ_ (closeJ_ (copyJ_ J 3 (sh gb)) 3 false) fr (sh fa) 3) (fr + 1)) 64)).toInt64))))]) (by rw [ow_set]) dc_L_combine_13 ?_
  refine aw_goto C dc_L_combine_14 (tgt := 29) (by decide) ?_
  refine aw_iconst C dc_L_combine_29 (v := nI 0) rfl ?_
  exact aw_ret2 (aw_widen (k := 1) (n := 6) (by decide) (by decide) (aw_iret C hr dc_L_combine_30 (fun t h _ => ⟨(), rfl, h⟩)))
set_option maxHeartbeats 4000000 in
set_option maxRecDepth 100000 in
theorem l_combine7 (l : Launch) (D : va_G) (h th : Nat) (cI cL cF : ClassId) (I : Nat → Nat → Int32) (J : Nat → Nat → Int64) (sh : Nat → Nat) (fr : Nat) (en : Int32) (hs : shok_ sh fr) (i : Nat) (hi : i < 10) (fa : Nat) (hfa : fa < 10) (gb : Nat) (hgb : gb < 10) (hdiv : ¬ tw64_ (J (sh gb + 1)) 64 = 0) (o : Nat) (O : Nat → Int64) (ho : ¬ ca_ h o) (hho : h ≤ o) : kh_ l my_L_combine (Cond.codeWith my_L_combine bc_L_combine 7 (some .int) [(0, 14, 17, 13), (0, 14, 21, 15), (0, 14, 25, 28)] :: tw_) { frames := 41, cells := 1, slots := 6, locals := 2040 } D (ty_s cI cL cF) (xq_ h th) (sA_ h o) [.ref h, .int (nI i), .int (nI 7), .int (nI fa), .int (nI gb), .ref o] (ow_ D h cI cL cF I J sh fr en o O) (ow_ D h cI cL cF I (divJ_ J fr (sh fa) (sh gb)) (va_up sh i fr) (sh i) en o (vp_updL O 0 (nI (tw64_ ((divJ_ J fr (sh fa) (sh gb)) (fr + 1)) 64)).toInt64)) (nI 0) := by
  refine aw_metH (A := sA_ h o) (own := "FamilyShelfLaw") (by decide) rfl rfl (Nat.le_of_ble_eq_true rfl) ?_
  intro p9 e s m args below meth c C hr htb hX hP0
  refine aw_lw (lw' := [some (.ref h), some (.int (nI i)), some (.int (nI 7)), some (.int (nI fa)), some (.int (nI gb)), some (.ref o), none]) rfl ?_
  refine aw_aload C dc_L_combine_0 rfl ?_
  refine aw_iconst C dc_L_combine_2 (v := nI 0) rfl ?_
  refine aw_aload_n C dc_L_combine_3 rfl ?_
  refine aw_iload_n C dc_L_combine_4 rfl ?_
  refine aw_iload_n C dc_L_combine_5 rfl ?_
  refine aw_iload_n C dc_L_combine_6 rfl ?_
  refine aw_iload C dc_L_combine_7 rfl ?_
  refine kq_Vi (ws := sy_ h cI cL cF I J sh fr en) (n := 4) (P' := ow_ D h cI cL cF I (divJ_ J fr (sh fa) (sh gb)) (va_up sh i fr) (sh i) en o O) C (fun U hW hz hq => xw_k (sA_le hho) s U hW hz hq hX.1.1) (sp_blind (A := ca_ h) (xw_k ca_le)) (fun H h => pa_l h) 0 sy_p0 rfl (s_combine7 l D h th cI cL cF I J sh fr en hs i hi fa hfa gb hgb hdiv) kw_299 kw_296 kw_297 kw_298 kw_1 rfl (by unfold kd_; decide) ⟨rfl, rfl, by decide, by decide⟩ rfl rfl (Nat.le_of_ble_eq_true rfl) ⟨by decide, by decide⟩ dc_L_combine_9 (fun q h => Or.inl h) (fun H h => pa_l h) (fun H H1 h hk h1 => sw_post (cI := cI) (cF := cF) ho h hk h1) ?_
  refine aw_i2l C dc_L_combine_12 ?_
  refine aw_last C (sw_D ho) 42 1 ow_at rfl 0 rfl (by decide) (by decide) (ws' := sy_ h cI cL cF I (divJ_ J fr (sh fa) (sh gb)) (va_up sh i fr) (sh i) en ++ [(o, .inl (cL, 1, .inr (.inl (vp_updL O 0 (nI (tw64_ ((divJ_ J fr (sh fa) (sh gb)) (fr + 1)) 64)).toInt64))))]) (by rw [ow_set]) dc_L_combine_13 ?_
  refine aw_goto C dc_L_combine_14 (tgt := 29) (by decide) ?_
  refine aw_iconst C dc_L_combine_29 (v := nI 0) rfl ?_
  exact aw_ret2 (aw_widen (k := 1) (n := 6) (by decide) (by decide) (aw_iret C hr dc_L_combine_30 (fun t h _ => ⟨(), rfl, h⟩)))
set_option maxHeartbeats 4000000 in
set_option maxRecDepth 100000 in
theorem l_combine8 (l : Launch) (D : va_G) (h th : Nat) (cI cL cF : ClassId) (I : Nat → Nat → Int32) (J : Nat → Nat → Int64) (sh : Nat → Nat) (fr : Nat) (en : Int32) (hs : shok_ sh fr) (i : Nat) (hi : i < 10) (fa : Nat) (hfa : fa < 10) (gb : Nat) (hgb : gb < 10) (hdiv : ¬ tw64_ (J (sh gb + 1)) 64 = 0) (o : Nat) (O : Nat → Int64) (ho : ¬ ca_ h o) (hho : h ≤ o) : kh_ l my_L_combine (Cond.codeWith my_L_combine bc_L_combine 7 (some .int) [(0, 14, 17, 13), (0, 14, 21, 15), (0, 14, 25, 28)] :: tw_) { frames := 41, cells := 1, slots := 6, locals := 2040 } D (ty_s cI cL cF) (xq_ h th) (sA_ h o) [.ref h, .int (nI i), .int (nI 8), .int (nI fa), .int (nI gb), .ref o] (ow_ D h cI cL cF I J sh fr en o O) (ow_ D h cI cL cF I (subJ_ (pairJ_ (divJ_ J 5 (sh fa) (sh gb)) 3 5 (sh gb) true) fr (sh fa) 3) (va_up sh i fr) (sh i) en o (vp_updL O 0 (nI (tw64_ ((subJ_ (pairJ_ (divJ_ J 5 (sh fa) (sh gb)) 3 5 (sh gb) true) fr (sh fa) 3) (fr + 1)) 64)).toInt64)) (nI 0) := by
  refine aw_metH (A := sA_ h o) (own := "FamilyShelfLaw") (by decide) rfl rfl (Nat.le_of_ble_eq_true rfl) ?_
  intro p9 e s m args below meth c C hr htb hX hP0
  refine aw_lw (lw' := [some (.ref h), some (.int (nI i)), some (.int (nI 8)), some (.int (nI fa)), some (.int (nI gb)), some (.ref o), none]) rfl ?_
  refine aw_aload C dc_L_combine_0 rfl ?_
  refine aw_iconst C dc_L_combine_2 (v := nI 0) rfl ?_
  refine aw_aload_n C dc_L_combine_3 rfl ?_
  refine aw_iload_n C dc_L_combine_4 rfl ?_
  refine aw_iload_n C dc_L_combine_5 rfl ?_
  refine aw_iload_n C dc_L_combine_6 rfl ?_
  refine aw_iload C dc_L_combine_7 rfl ?_
  refine kq_Vi (ws := sy_ h cI cL cF I J sh fr en) (n := 4) (P' := ow_ D h cI cL cF I (subJ_ (pairJ_ (divJ_ J 5 (sh fa) (sh gb)) 3 5 (sh gb) true) fr (sh fa) 3) (va_up sh i fr) (sh i) en o O) C (fun U hW hz hq => xw_k (sA_le hho) s U hW hz hq hX.1.1) (sp_blind (A := ca_ h) (xw_k ca_le)) (fun H h => pa_l h) 0 sy_p0 rfl (s_combine8 l D h th cI cL cF I J sh fr en hs i hi fa hfa gb hgb hdiv) kw_299 kw_296 kw_297 kw_298 kw_1 rfl (by unfold kd_; decide) ⟨rfl, rfl, by decide, by decide⟩ rfl rfl (Nat.le_of_ble_eq_true rfl) ⟨by decide, by decide⟩ dc_L_combine_9 (fun q h => Or.inl h) (fun H h => pa_l h) (fun H H1 h hk h1 => sw_post (cI := cI) (cF := cF) ho h hk h1) ?_
  refine aw_i2l C dc_L_combine_12 ?_
  refine aw_last C (sw_D ho) 42 1 ow_at rfl 0 rfl (by decide) (by decide) (ws' := sy_ h cI cL cF I (subJ_ (pairJ_ (divJ_ J 5 (sh fa) (sh gb)) 3 5 (sh gb) true) fr (sh fa) 3) (va_up sh i fr) (sh i) en ++ [(o, .inl (cL, 1, .inr (.inl (vp_updL O 0 (nI (tw64_ ((subJ_ (pairJ_ (divJ_ J 5 (sh fa) (sh gb)) 3 5 (sh gb) true) fr (sh fa) 3) (fr + 1)) 64)).toInt64))))]) (by rw [ow_set]) dc_L_combine_13 ?_
  refine aw_goto C dc_L_combine_14 (tgt := 29) (by decide) ?_
  refine aw_iconst C dc_L_combine_29 (v := nI 0) rfl ?_
  exact aw_ret2 (aw_widen (k := 1) (n := 6) (by decide) (by decide) (aw_iret C hr dc_L_combine_30 (fun t h _ => ⟨(), rfl, h⟩)))
set_option maxHeartbeats 4000000 in
set_option maxRecDepth 100000 in
theorem l_change0 (l : Launch) (D : va_G) (h th : Nat) (cI cL cF : ClassId) (I : Nat → Nat → Int32) (J : Nat → Nat → Int64) (sh : Nat → Nat) (fr : Nat) (en : Int32) (hs : shok_ sh fr) (i : Nat) (hi : i < 10) (fa : Nat) (hfa : fa < 10) (el : Nat) (hel : el < 12) (o : Nat) (O : Nat → Int64) (ho : ¬ ca_ h o) (hho : h ≤ o) : kh_ l my_L_change (Cond.codeWith my_L_change bc_L_change 7 (some .int) [(0, 14, 17, 13), (0, 14, 21, 15)] :: tw_) { frames := 41, cells := 1, slots := 6, locals := 2040 } D (ty_s cI cL cF) (xq_ h th) (sA_ h o) [.ref h, .int (nI i), .int (nI 0), .int (nI fa), .int (nI el), .ref o] (ow_ D h cI cL cF I J sh fr en o O) (ow_ D h cI cL cF I (setJ_ J fr (chg_ 0 (J (sh fa + 1)) (11 - el))) (va_up sh i fr) (sh i) en o (vp_updL O 0 (nI (tw64_ ((setJ_ J fr (chg_ 0 (J (sh fa + 1)) (11 - el))) (fr + 1)) 64)).toInt64)) (nI 0) := by
  refine aw_metH (A := sA_ h o) (own := "FamilyShelfLaw") (by decide) rfl rfl (Nat.le_of_ble_eq_true rfl) ?_
  intro p9 e s m args below meth c C hr htb hX hP0
  refine aw_lw (lw' := [some (.ref h), some (.int (nI i)), some (.int (nI 0)), some (.int (nI fa)), some (.int (nI el)), some (.ref o), none]) rfl ?_
  refine aw_aload C dc_L_change_0 rfl ?_
  refine aw_iconst C dc_L_change_2 (v := nI 0) rfl ?_
  refine aw_aload_n C dc_L_change_3 rfl ?_
  refine aw_iload_n C dc_L_change_4 rfl ?_
  refine aw_iload_n C dc_L_change_5 rfl ?_
  refine aw_iload_n C dc_L_change_6 rfl ?_
  refine aw_iload C dc_L_change_7 rfl ?_
  refine kq_Vi (ws := sy_ h cI cL cF I J sh fr en) (n := 4) (P' := ow_ D h cI cL cF I (setJ_ J fr (chg_ 0 (J (sh fa + 1)) (11 - el))) (va_up sh i fr) (sh i) en o O) C (fun U hW hz hq => xw_k (sA_le hho) s U hW hz hq hX.1.1) (sp_blind (A := ca_ h) (xw_k ca_le)) (fun H h => pa_l h) 0 sy_p0 rfl (s_change0 l D h th cI cL cF I J sh fr en hs i hi fa hfa el hel) kw_413 kw_410 kw_411 kw_412 kw_1 rfl (by unfold kd_; decide) ⟨rfl, rfl, by decide, by decide⟩ rfl rfl (Nat.le_of_ble_eq_true rfl) ⟨by decide, by decide⟩ dc_L_change_9 (fun q h => Or.inl h) (fun H h => pa_l h) (fun H H1 h hk h1 => sw_post (cI := cI) (cF := cF) ho h hk h1) ?_
  refine aw_i2l C dc_L_change_12 ?_
  refine aw_last C (sw_D ho) 42 1 ow_at rfl 0 rfl (by decide) (by decide) (ws' := sy_ h cI cL cF I (setJ_ J fr (chg_ 0 (J (sh fa + 1)) (11 - el))) (va_up sh i fr) (sh i) en ++ [(o, .inl (cL, 1, .inr (.inl (vp_updL O 0 (nI (tw64_ ((setJ_ J fr (chg_ 0 (J (sh fa + 1)) (11 - el))) (fr + 1)) 64)).toInt64))))]) (by rw [ow_set]) dc_L_change_13 ?_
  refine aw_goto C dc_L_change_14 (tgt := 25) (by decide) ?_
  refine aw_iconst C dc_L_change_25 (v := nI 0) rfl ?_
  exact aw_ret2 (aw_widen (k := 1) (n := 6) (by decide) (by decide) (aw_iret C hr dc_L_change_26 (fun t h _ => ⟨(), rfl, h⟩)))
set_option maxHeartbeats 4000000 in
set_option maxRecDepth 100000 in
theorem l_change1 (l : Launch) (D : va_G) (h th : Nat) (cI cL cF : ClassId) (I : Nat → Nat → Int32) (J : Nat → Nat → Int64) (sh : Nat → Nat) (fr : Nat) (en : Int32) (hs : shok_ sh fr) (i : Nat) (hi : i < 10) (fa : Nat) (hfa : fa < 10) (el : Nat) (hel : el < 12) (o : Nat) (O : Nat → Int64) (ho : ¬ ca_ h o) (hho : h ≤ o) : kh_ l my_L_change (Cond.codeWith my_L_change bc_L_change 7 (some .int) [(0, 14, 17, 13), (0, 14, 21, 15)] :: tw_) { frames := 41, cells := 1, slots := 6, locals := 2040 } D (ty_s cI cL cF) (xq_ h th) (sA_ h o) [.ref h, .int (nI i), .int (nI 1), .int (nI fa), .int (nI el), .ref o] (ow_ D h cI cL cF I J sh fr en o O) (ow_ D h cI cL cF I (setJ_ J fr (chg_ 1 (J (sh fa + 1)) (11 - el))) (va_up sh i fr) (sh i) en o (vp_updL O 0 (nI (tw64_ ((setJ_ J fr (chg_ 1 (J (sh fa + 1)) (11 - el))) (fr + 1)) 64)).toInt64)) (nI 0) := by
  refine aw_metH (A := sA_ h o) (own := "FamilyShelfLaw") (by decide) rfl rfl (Nat.le_of_ble_eq_true rfl) ?_
  intro p9 e s m args below meth c C hr htb hX hP0
  refine aw_lw (lw' := [some (.ref h), some (.int (nI i)), some (.int (nI 1)), some (.int (nI fa)), some (.int (nI el)), some (.ref o), none]) rfl ?_
  refine aw_aload C dc_L_change_0 rfl ?_
  refine aw_iconst C dc_L_change_2 (v := nI 0) rfl ?_
  refine aw_aload_n C dc_L_change_3 rfl ?_
  refine aw_iload_n C dc_L_change_4 rfl ?_
  refine aw_iload_n C dc_L_change_5 rfl ?_
  refine aw_iload_n C dc_L_change_6 rfl ?_
  refine aw_iload C dc_L_change_7 rfl ?_
  refine kq_Vi (ws := sy_ h cI cL cF I J sh fr en) (n := 4) (P' := ow_ D h cI cL cF I (setJ_ J fr (chg_ 1 (J (sh fa + 1)) (11 - el))) (va_up sh i fr) (sh i) en o O) C (fun U hW hz hq => xw_k (sA_le hho) s U hW hz hq hX.1.1) (sp_blind (A := ca_ h) (xw_k ca_le)) (fun H h => pa_l h) 0 sy_p0 rfl (s_change1 l D h th cI cL cF I J sh fr en hs i hi fa hfa el hel) kw_413 kw_410 kw_411 kw_412 kw_1 rfl (by unfold kd_; decide) ⟨rfl, rfl, by decide, by decide⟩ rfl rfl (Nat.le_of_ble_eq_true rfl) ⟨by decide, by decide⟩ dc_L_change_9 (fun q h => Or.inl h) (fun H h => pa_l h) (fun H H1 h hk h1 => sw_post (cI := cI) (cF := cF) ho h hk h1) ?_
  refine aw_i2l C dc_L_change_12 ?_
  refine aw_last C (sw_D ho) 42 1 ow_at rfl 0 rfl (by decide) (by decide) (ws' := sy_ h cI cL cF I (setJ_ J fr (chg_ 1 (J (sh fa + 1)) (11 - el))) (va_up sh i fr) (sh i) en ++ [(o, .inl (cL, 1, .inr (.inl (vp_updL O 0 (nI (tw64_ ((setJ_ J fr (chg_ 1 (J (sh fa + 1)) (11 - el))) (fr + 1)) 64)).toInt64))))]) (by rw [ow_set]) dc_L_change_13 ?_
  refine aw_goto C dc_L_change_14 (tgt := 25) (by decide) ?_
  refine aw_iconst C dc_L_change_25 (v := nI 0) rfl ?_
  exact aw_ret2 (aw_widen (k := 1) (n := 6) (by decide) (by decide) (aw_iret C hr dc_L_change_26 (fun t h _ => ⟨(), rfl, h⟩)))
set_option maxHeartbeats 4000000 in
set_option maxRecDepth 100000 in
theorem l_change2 (l : Launch) (D : va_G) (h th : Nat) (cI cL cF : ClassId) (I : Nat → Nat → Int32) (J : Nat → Nat → Int64) (sh : Nat → Nat) (fr : Nat) (en : Int32) (hs : shok_ sh fr) (i : Nat) (hi : i < 10) (fa : Nat) (hfa : fa < 10) (el : Nat) (hel : el < 12) (o : Nat) (O : Nat → Int64) (ho : ¬ ca_ h o) (hho : h ≤ o) : kh_ l my_L_change (Cond.codeWith my_L_change bc_L_change 7 (some .int) [(0, 14, 17, 13), (0, 14, 21, 15)] :: tw_) { frames := 41, cells := 1, slots := 6, locals := 2040 } D (ty_s cI cL cF) (xq_ h th) (sA_ h o) [.ref h, .int (nI i), .int (nI 2), .int (nI fa), .int (nI el), .ref o] (ow_ D h cI cL cF I J sh fr en o O) (ow_ D h cI cL cF I (setJ_ J fr (chg_ 2 (J (sh fa + 1)) (11 - el))) (va_up sh i fr) (sh i) en o (vp_updL O 0 (nI (tw64_ ((setJ_ J fr (chg_ 2 (J (sh fa + 1)) (11 - el))) (fr + 1)) 64)).toInt64)) (nI 0) := by
  refine aw_metH (A := sA_ h o) (own := "FamilyShelfLaw") (by decide) rfl rfl (Nat.le_of_ble_eq_true rfl) ?_
  intro p9 e s m args below meth c C hr htb hX hP0
  refine aw_lw (lw' := [some (.ref h), some (.int (nI i)), some (.int (nI 2)), some (.int (nI fa)), some (.int (nI el)), some (.ref o), none]) rfl ?_
  refine aw_aload C dc_L_change_0 rfl ?_
  refine aw_iconst C dc_L_change_2 (v := nI 0) rfl ?_
  refine aw_aload_n C dc_L_change_3 rfl ?_
  refine aw_iload_n C dc_L_change_4 rfl ?_
  refine aw_iload_n C dc_L_change_5 rfl ?_
  refine aw_iload_n C dc_L_change_6 rfl ?_
  refine aw_iload C dc_L_change_7 rfl ?_
  refine kq_Vi (ws := sy_ h cI cL cF I J sh fr en) (n := 4) (P' := ow_ D h cI cL cF I (setJ_ J fr (chg_ 2 (J (sh fa + 1)) (11 - el))) (va_up sh i fr) (sh i) en o O) C (fun U hW hz hq => xw_k (sA_le hho) s U hW hz hq hX.1.1) (sp_blind (A := ca_ h) (xw_k ca_le)) (fun H h => pa_l h) 0 sy_p0 rfl (s_change2 l D h th cI cL cF I J sh fr en hs i hi fa hfa el hel) kw_413 kw_410 kw_411 kw_412 kw_1 rfl (by unfold kd_; decide) ⟨rfl, rfl, by decide, by decide⟩ rfl rfl (Nat.le_of_ble_eq_true rfl) ⟨by decide, by decide⟩ dc_L_change_9 (fun q h => Or.inl h) (fun H h => pa_l h) (fun H H1 h hk h1 => sw_post (cI := cI) (cF := cF) ho h hk h1) ?_
  refine aw_i2l C dc_L_change_12 ?_
  refine aw_last C (sw_D ho) 42 1 ow_at rfl 0 rfl (by decide) (by decide) (ws' := sy_ h cI cL cF I (setJ_ J fr (chg_ 2 (J (sh fa + 1)) (11 - el))) (va_up sh i fr) (sh i) en ++ [(o, .inl (cL, 1, .inr (.inl (vp_updL O 0 (nI (tw64_ ((setJ_ J fr (chg_ 2 (J (sh fa + 1)) (11 - el))) (fr + 1)) 64)).toInt64))))]) (by rw [ow_set]) dc_L_change_13 ?_
  refine aw_goto C dc_L_change_14 (tgt := 25) (by decide) ?_
  refine aw_iconst C dc_L_change_25 (v := nI 0) rfl ?_
  exact aw_ret2 (aw_widen (k := 1) (n := 6) (by decide) (by decide) (aw_iret C hr dc_L_change_26 (fun t h _ => ⟨(), rfl, h⟩)))
set_option maxHeartbeats 4000000 in
set_option maxRecDepth 100000 in
theorem l_extreme (l : Launch) (D : va_G) (h th : Nat) (cI cL cF : ClassId) (I : Nat → Nat → Int32) (J : Nat → Nat → Int64) (sh : Nat → Nat) (fr : Nat) (en : Int32) (hs : shok_ sh fr) (i : Nat) (hi : i < 10) (fa : Nat) (hfa : fa < 10) (dn : Bool) (o : Nat) (O : Nat → Int64) (ho : ¬ ca_ h o) (hho : h ≤ o) : kh_ l my_L_extreme (Cond.codeWith my_L_extreme bc_L_extreme 6 (some .int) [(0, 12, 15, 13)] :: tw_) { frames := 41, cells := 1, slots := 6, locals := 2040 } D (ty_s cI cL cF) (xq_ h th) (sA_ h o) [.ref h, .int (nI i), .int (nI fa), .int (z1_ dn), .ref o] (ow_ D h cI cL cF I J sh fr en o O) (ow_ D h cI cL cF I (va_up (closeJ_ (copyJ_ J 3 (sh fa)) 3 dn) (fr + 1) (wl_ ((closeJ_ (copyJ_ J 3 (sh fa)) 3 dn) (fr + 1)) (exg_ (J (sh fa + 1)) ((closeJ_ (copyJ_ J 3 (sh fa)) 3 dn) 4) dn) 64)) (va_up sh i fr) (sh i) en o (vp_updL O 0 (nI (tw64_ ((va_up (closeJ_ (copyJ_ J 3 (sh fa)) 3 dn) (fr + 1) (wl_ ((closeJ_ (copyJ_ J 3 (sh fa)) 3 dn) (fr + 1)) (exg_ (J (sh fa + 1)) ((closeJ_ (copyJ_ J 3 (sh fa)) 3 dn) 4) dn) 64)) (fr + 1)) 64)).toInt64)) (nI 0) := by
  refine aw_metH (A := sA_ h o) (own := "FamilyShelfLaw") (by decide) rfl rfl (Nat.le_of_ble_eq_true rfl) ?_
  intro p9 e s m args below meth c C hr htb hX hP0
  refine aw_lw (lw' := [some (.ref h), some (.int (nI i)), some (.int (nI fa)), some (.int (z1_ dn)), some (.ref o), none]) rfl ?_
  refine aw_aload C dc_L_extreme_0 rfl ?_
  refine aw_iconst C dc_L_extreme_2 (v := nI 0) rfl ?_
  refine aw_aload_n C dc_L_extreme_3 rfl ?_
  refine aw_iload_n C dc_L_extreme_4 rfl ?_
  refine aw_iload_n C dc_L_extreme_5 rfl ?_
  refine aw_iload_n C dc_L_extreme_6 rfl ?_
  refine kq_Vi (ws := sy_ h cI cL cF I J sh fr en) (n := 3) (P' := ow_ D h cI cL cF I (va_up (closeJ_ (copyJ_ J 3 (sh fa)) 3 dn) (fr + 1) (wl_ ((closeJ_ (copyJ_ J 3 (sh fa)) 3 dn) (fr + 1)) (exg_ (J (sh fa + 1)) ((closeJ_ (copyJ_ J 3 (sh fa)) 3 dn) 4) dn) 64)) (va_up sh i fr) (sh i) en o O) C (fun U hW hz hq => xw_k (sA_le hho) s U hW hz hq hX.1.1) (sp_blind (A := ca_ h) (xw_k ca_le)) (fun H h => pa_l h) 0 sy_p0 rfl (s_extreme l D h th cI cL cF I J sh fr en hs i hi fa hfa dn) kw_431 kw_428 kw_429 kw_430 kw_1 rfl (by unfold kd_; decide) ⟨rfl, rfl, by decide, by decide⟩ rfl rfl (Nat.le_of_ble_eq_true rfl) ⟨by decide, by decide⟩ dc_L_extreme_7 (fun q h => Or.inl h) (fun H h => pa_l h) (fun H H1 h hk h1 => sw_post (cI := cI) (cF := cF) ho h hk h1) ?_
  refine aw_i2l C dc_L_extreme_10 ?_
  refine aw_last C (sw_D ho) 42 1 ow_at rfl 0 rfl (by decide) (by decide) (ws' := sy_ h cI cL cF I (va_up (closeJ_ (copyJ_ J 3 (sh fa)) 3 dn) (fr + 1) (wl_ ((closeJ_ (copyJ_ J 3 (sh fa)) 3 dn) (fr + 1)) (exg_ (J (sh fa + 1)) ((closeJ_ (copyJ_ J 3 (sh fa)) 3 dn) 4) dn) 64)) (va_up sh i fr) (sh i) en ++ [(o, .inl (cL, 1, .inr (.inl (vp_updL O 0 (nI (tw64_ ((va_up (closeJ_ (copyJ_ J 3 (sh fa)) 3 dn) (fr + 1) (wl_ ((closeJ_ (copyJ_ J 3 (sh fa)) 3 dn) (fr + 1)) (exg_ (J (sh fa + 1)) ((closeJ_ (copyJ_ J 3 (sh fa)) 3 dn) 4) dn) 64)) (fr + 1)) 64)).toInt64))))]) (by rw [ow_set]) dc_L_extreme_11 ?_
  refine aw_goto C dc_L_extreme_12 (tgt := 19) (by decide) ?_
  refine aw_iconst C dc_L_extreme_19 (v := nI 0) rfl ?_
  exact aw_ret2 (aw_widen (k := 1) (n := 6) (by decide) (by decide) (aw_iret C hr dc_L_extreme_20 (fun t h _ => ⟨(), rfl, h⟩)))
set_option maxHeartbeats 4000000 in
set_option maxRecDepth 100000 in
theorem l_sized (l : Launch) (D : va_G) (h th : Nat) (cI cL cF : ClassId) (I : Nat → Nat → Int32) (J : Nat → Nat → Int64) (sh : Nat → Nat) (fr : Nat) (en : Int32) (hs : shok_ sh fr) (i : Nat) (hi : i < 10) (fa : Nat) (hfa : fa < 10) (k : Nat) (hk : k ≤ 12) (o : Nat) (O : Nat → Int64) (ho : ¬ ca_ h o) (hho : h ≤ o) : kh_ l my_L_sized (Cond.codeWith my_L_sized bc_L_sized 6 (some .int) [(0, 12, 15, 13), (0, 12, 19, 15)] :: tw_) { frames := 41, cells := 1, slots := 6, locals := 2040 } D (ty_s cI cL cF) (xq_ h th) (sA_ h o) [.ref h, .int (nI i), .int (nI fa), .int (nI k), .ref o] (ow_ D h cI cL cF I J sh fr en o O) (ow_ D h cI cL cF I (setJ_ J fr (szg_ (J (sh fa + 1)) (J 8) k)) (va_up sh i fr) (sh i) en o (vp_updL O 0 (nI (tw64_ ((setJ_ J fr (szg_ (J (sh fa + 1)) (J 8) k)) (fr + 1)) 64)).toInt64)) (nI 0) := by
  refine aw_metH (A := sA_ h o) (own := "FamilyShelfLaw") (by decide) rfl rfl (Nat.le_of_ble_eq_true rfl) ?_
  intro p9 e s m args below meth c C hr htb hX hP0
  refine aw_lw (lw' := [some (.ref h), some (.int (nI i)), some (.int (nI fa)), some (.int (nI k)), some (.ref o), none]) rfl ?_
  refine aw_aload C dc_L_sized_0 rfl ?_
  refine aw_iconst C dc_L_sized_2 (v := nI 0) rfl ?_
  refine aw_aload_n C dc_L_sized_3 rfl ?_
  refine aw_iload_n C dc_L_sized_4 rfl ?_
  refine aw_iload_n C dc_L_sized_5 rfl ?_
  refine aw_iload_n C dc_L_sized_6 rfl ?_
  refine kq_Vi (ws := sy_ h cI cL cF I J sh fr en) (n := 3) (P' := ow_ D h cI cL cF I (setJ_ J fr (szg_ (J (sh fa + 1)) (J 8) k)) (va_up sh i fr) (sh i) en o O) C (fun U hW hz hq => xw_k (sA_le hho) s U hW hz hq hX.1.1) (sp_blind (A := ca_ h) (xw_k ca_le)) (fun H h => pa_l h) 0 sy_p0 rfl (s_sized l D h th cI cL cF I J sh fr en hs i hi fa hfa k hk) kw_447 kw_444 kw_445 kw_446 kw_1 rfl (by unfold kd_; decide) ⟨rfl, rfl, by decide, by decide⟩ rfl rfl (Nat.le_of_ble_eq_true rfl) ⟨by decide, by decide⟩ dc_L_sized_7 (fun q h => Or.inl h) (fun H h => pa_l h) (fun H H1 h hk h1 => sw_post (cI := cI) (cF := cF) ho h hk h1) ?_
  refine aw_i2l C dc_L_sized_10 ?_
  refine aw_last C (sw_D ho) 42 1 ow_at rfl 0 rfl (by decide) (by decide) (ws' := sy_ h cI cL cF I (setJ_ J fr (szg_ (J (sh fa + 1)) (J 8) k)) (va_up sh i fr) (sh i) en ++ [(o, .inl (cL, 1, .inr (.inl (vp_updL O 0 (nI (tw64_ ((setJ_ J fr (szg_ (J (sh fa + 1)) (J 8) k)) (fr + 1)) 64)).toInt64))))]) (by rw [ow_set]) dc_L_sized_11 ?_
  refine aw_goto C dc_L_sized_12 (tgt := 23) (by decide) ?_
  refine aw_iconst C dc_L_sized_23 (v := nI 0) rfl ?_
  exact aw_ret2 (aw_widen (k := 1) (n := 6) (by decide) (by decide) (aw_iret C hr dc_L_sized_24 (fun t h _ => ⟨(), rfl, h⟩)))
set_option maxHeartbeats 4000000 in
set_option maxRecDepth 100000 in
theorem l_edge (l : Launch) (D : va_G) (h th : Nat) (cI cL cF : ClassId) (I : Nat → Nat → Int32) (J : Nat → Nat → Int64) (sh : Nat → Nat) (fr : Nat) (en : Int32) (el : Nat) (hel : el < 12) (u : Nat) (hu : u < 7) (v : Nat) (hv : v < 7) (huv : u ≠ v) (o : Nat) (O : Nat → Int64) (ho : ¬ ca_ h o) (hho : h ≤ o) : kh_ l my_L_edge (Cond.codeWith my_L_edge bc_L_edge 5 (some .int) [(0, 7, 10, 13), (0, 7, 14, 15)] :: tw_) { frames := 41, cells := 1, slots := 6, locals := 2040 } D (ty_s cI cL cF) (xq_ h th) (sA_ h o) [.ref h, .int (nI el), .int (nI u), .int (nI v)] (ow_ D h cI cL cF I J sh fr en o O) (ow_ D h cI cL cF (va_up I 10 (upd (I 10) el (nI (2 ^ u ||| 2 ^ v)))) J sh fr en o O) (nI 0) := by
  refine aw_metH (A := sA_ h o) (own := "FamilyShelfLaw") (by decide) rfl rfl (Nat.le_of_ble_eq_true rfl) ?_
  intro p9 e s m args below meth c C hr htb hX hP0
  refine aw_lw (lw' := [some (.ref h), some (.int (nI el)), some (.int (nI u)), some (.int (nI v)), none]) rfl ?_
  refine aw_aload_n C dc_L_edge_0 rfl ?_
  refine aw_iload_n C dc_L_edge_1 rfl ?_
  refine aw_iload_n C dc_L_edge_2 rfl ?_
  refine aw_iload_n C dc_L_edge_3 rfl ?_
  refine kq_Vv (ws := sy_ h cI cL cF I J sh fr en) (n := 3) (P' := ow_ D h cI cL cF (va_up I 10 (upd (I 10) el (nI (2 ^ u ||| 2 ^ v)))) J sh fr en o O) C (fun U hW hz hq => xw_k (sA_le hho) s U hW hz hq hX.1.1) (sp_blind (A := ca_ h) (xw_k ca_le)) (fun H h => pa_l h) 0 sy_p0 rfl (s_edge l D h th cI cL cF I J sh fr en el hel u hu v hv huv) kw_458 kw_455 kw_456 kw_457 kw_1 rfl (by unfold kd_; decide) ⟨rfl, rfl, by decide, by decide⟩ rfl rfl (Nat.le_of_ble_eq_true rfl) ⟨by decide, by decide⟩ dc_L_edge_4 (fun q h => Or.inl h) (fun H h => pa_l h) (fun H H1 h hk h1 => sw_post (cI := cI) (cF := cF) ho h hk h1) ?_
  refine aw_goto C dc_L_edge_7 (tgt := 18) (by decide) ?_
  refine aw_iconst C dc_L_edge_18 (v := nI 0) rfl ?_
  exact aw_ret2 (aw_widen (k := 1) (n := 6) (by decide) (by decide) (aw_iret C hr dc_L_edge_19 (fun t h _ => ⟨(), rfl, h⟩)))
set_option maxHeartbeats 4000000 in
set_option maxRecDepth 100000 in
theorem l_cut (l : Launch) (D : va_G) (h th : Nat) (cI cL cF : ClassId) (I : Nat → Nat → Int32) (J : Nat → Nat → Int64) (sh : Nat → Nat) (fr : Nat) (en : Int32) (el : Nat) (hel : el < 12) (o : Nat) (O : Nat → Int64) (ho : ¬ ca_ h o) (hho : h ≤ o) : kh_ l my_L_cut (Cond.codeWith my_L_cut bc_L_cut 4 (some .int) [(0, 16, 19, 13)] :: tw_) { frames := 41, cells := 1, slots := 6, locals := 2040 } D (ty_s cI cL cF) (xq_ h th) (sA_ h o) [.ref h, .int (nI el), .ref o] (ow_ D h cI cL cF I J sh fr en o O) (ow_ D h cI cL cF (va_up I 10 (upd (I 10) el (nI 0))) J sh fr en o (vp_updL O 0 (zl_ (decide (¬ I 10 el = 0))))) (nI 0) := by
  refine aw_metH (A := sA_ h o) (own := "FamilyShelfLaw") (by decide) rfl rfl (Nat.le_of_ble_eq_true rfl) ?_
  intro p9 e s m args below meth c C hr htb hX hP0
  refine aw_lw (lw' := [some (.ref h), some (.int (nI el)), some (.ref o), none]) rfl ?_
  refine aw_aload_n C dc_L_cut_0 rfl ?_
  refine aw_iconst C dc_L_cut_1 (v := nI 0) rfl ?_
  refine aw_aload_n C dc_L_cut_2 rfl ?_
  refine aw_iload_n C dc_L_cut_3 rfl ?_
  refine kq_Vi (ws := sy_ h cI cL cF I J sh fr en) (n := 1) (P' := ow_ D h cI cL cF (va_up I 10 (upd (I 10) el (nI 0))) J sh fr en o O) C (fun U hW hz hq => xw_k (sA_le hho) s U hW hz hq hX.1.1) (sp_blind (A := ca_ h) (xw_k ca_le)) (fun H h => pa_l h) 0 sy_p0 rfl (s_cut l D h th cI cL cF I J sh fr en el hel) kw_477 kw_474 kw_475 kw_476 kw_1 rfl (by unfold kd_; decide) ⟨rfl, rfl, by decide, by decide⟩ rfl rfl (Nat.le_of_ble_eq_true rfl) ⟨by decide, by decide⟩ dc_L_cut_4 (fun q h => Or.inl h) (fun H h => pa_l h) (fun H H1 h hk h1 => sw_post (cI := cI) (cF := cF) ho h hk h1) ?_
  refine aw_if_eq C dc_L_cut_7 (tgt := 14) (by decide) (fun hB7 => ?_) (fun hB7 => ?_)
  · have hb := z1_0.mp hB7
    refine aw_lconst C dc_L_cut_14 (v := 0) rfl ?_
    refine aw_last C (sw_D ho) 42 1 ow_at rfl 0 rfl (by decide) (by decide) (ws' := sy_ h cI cL cF (va_up I 10 (upd (I 10) el (nI 0))) J sh fr en ++ [(o, .inl (cL, 1, .inr (.inl (vp_updL O 0 (zl_ (decide (¬ I 10 el = 0)))))))]) (by rw [ow_set, hb]; rfl) dc_L_cut_15 ?_
    refine aw_goto C dc_L_cut_16 (tgt := 22) (by decide) ?_
    refine aw_iconst C dc_L_cut_22 (v := nI 0) rfl ?_
    exact aw_ret2 (aw_widen (k := 1) (n := 6) (by decide) (by decide) (aw_iret C hr dc_L_cut_23 (fun t h _ => ⟨(), rfl, h⟩)))
  · have hb := z1_n.mp hB7
    refine aw_lconst C dc_L_cut_10 (v := 1) rfl ?_
    refine aw_goto C dc_L_cut_11 (tgt := 15) (by decide) ?_
    refine aw_last C (sw_D ho) 42 1 ow_at rfl 0 rfl (by decide) (by decide) (ws' := sy_ h cI cL cF (va_up I 10 (upd (I 10) el (nI 0))) J sh fr en ++ [(o, .inl (cL, 1, .inr (.inl (vp_updL O 0 (zl_ (decide (¬ I 10 el = 0)))))))]) (by rw [ow_set, hb]; rfl) dc_L_cut_15 ?_
    refine aw_goto C dc_L_cut_16 (tgt := 22) (by decide) ?_
    refine aw_iconst C dc_L_cut_22 (v := nI 0) rfl ?_
    exact aw_ret2 (aw_widen (k := 1) (n := 6) (by decide) (by decide) (aw_iret C hr dc_L_cut_23 (fun t h _ => ⟨(), rfl, h⟩)))
set_option maxHeartbeats 4000000 in
set_option maxRecDepth 100000 in
theorem l_paths (l : Launch) (D : va_G) (h th : Nat) (cI cL cF : ClassId) (I : Nat → Nat → Int32) (J : Nat → Nat → Int64) (sh : Nat → Nat) (fr : Nat) (en : Int32) (hs : shok_ sh fr) (i : Nat) (hi : i < 10) (ed : Nat → Nat) (hed : ∀ j, j < 12 → I 10 j = nI (ed j)) (hok : ∀ j, j < 12 → eok_ (ed j)) (sv : Nat) (hsv : sv < 7) (tv : Nat) (htv : tv < 7) (o : Nat) (O : Nat → Int64) (ho : ¬ ca_ h o) (hho : h ≤ o) : kh_ l my_L_paths (Cond.codeWith my_L_paths bc_L_paths 6 (some .int) [(0, 12, 15, 13)] :: tw_) { frames := 41, cells := 1, slots := 6, locals := 2040 } D (ty_s cI cL cF) (xq_ h th) (sA_ h o) [.ref h, .int (nI i), .int (nI sv), .int (nI tv), .ref o] (ow_ D h cI cL cF I J sh fr en o O) (ow_ D h cI cL cF I (va_up (fillJ_ J fr 0) (fr + 1) (wk_ ed (2 ^ tv) 8 (2 ^ sv) (2 ^ sv) 0 ((fillJ_ J fr 0) (fr + 1)))) (va_up sh i fr) (sh i) en o (vp_updL O 0 (nI (tw64_ ((va_up (fillJ_ J fr 0) (fr + 1) (wk_ ed (2 ^ tv) 8 (2 ^ sv) (2 ^ sv) 0 ((fillJ_ J fr 0) (fr + 1)))) (fr + 1)) 64)).toInt64)) (nI 0) := by
  refine aw_metH (A := sA_ h o) (own := "FamilyShelfLaw") (by decide) rfl rfl (Nat.le_of_ble_eq_true rfl) ?_
  intro p9 e s m args below meth c C hr htb hX hP0
  refine aw_lw (lw' := [some (.ref h), some (.int (nI i)), some (.int (nI sv)), some (.int (nI tv)), some (.ref o), none]) rfl ?_
  refine aw_aload C dc_L_paths_0 rfl ?_
  refine aw_iconst C dc_L_paths_2 (v := nI 0) rfl ?_
  refine aw_aload_n C dc_L_paths_3 rfl ?_
  refine aw_iload_n C dc_L_paths_4 rfl ?_
  refine aw_iload_n C dc_L_paths_5 rfl ?_
  refine aw_iload_n C dc_L_paths_6 rfl ?_
  refine kq_Vi (ws := sy_ h cI cL cF I J sh fr en) (n := 3) (P' := ow_ D h cI cL cF I (va_up (fillJ_ J fr 0) (fr + 1) (wk_ ed (2 ^ tv) 8 (2 ^ sv) (2 ^ sv) 0 ((fillJ_ J fr 0) (fr + 1)))) (va_up sh i fr) (sh i) en o O) C (fun U hW hz hq => xw_k (sA_le hho) s U hW hz hq hX.1.1) (sp_blind (A := ca_ h) (xw_k ca_le)) (fun H h => pa_l h) 0 sy_p0 rfl (s_paths l D h th cI cL cF I J sh fr en hs i hi ed hed hok sv hsv tv htv) kw_484 kw_481 kw_482 kw_483 kw_1 rfl (by unfold kd_; decide) ⟨rfl, rfl, by decide, by decide⟩ rfl rfl (Nat.le_of_ble_eq_true rfl) ⟨by decide, by decide⟩ dc_L_paths_7 (fun q h => Or.inl h) (fun H h => pa_l h) (fun H H1 h hk h1 => sw_post (cI := cI) (cF := cF) ho h hk h1) ?_
  refine aw_i2l C dc_L_paths_10 ?_
  refine aw_last C (sw_D ho) 42 1 ow_at rfl 0 rfl (by decide) (by decide) (ws' := sy_ h cI cL cF I (va_up (fillJ_ J fr 0) (fr + 1) (wk_ ed (2 ^ tv) 8 (2 ^ sv) (2 ^ sv) 0 ((fillJ_ J fr 0) (fr + 1)))) (va_up sh i fr) (sh i) en ++ [(o, .inl (cL, 1, .inr (.inl (vp_updL O 0 (nI (tw64_ ((va_up (fillJ_ J fr 0) (fr + 1) (wk_ ed (2 ^ tv) 8 (2 ^ sv) (2 ^ sv) 0 ((fillJ_ J fr 0) (fr + 1)))) (fr + 1)) 64)).toInt64))))]) (by rw [ow_set]) dc_L_paths_11 ?_
  refine aw_goto C dc_L_paths_12 (tgt := 19) (by decide) ?_
  refine aw_iconst C dc_L_paths_19 (v := nI 0) rfl ?_
  exact aw_ret2 (aw_widen (k := 1) (n := 6) (by decide) (by decide) (aw_iret C hr dc_L_paths_20 (fun t h _ => ⟨(), rfl, h⟩)))
set_option maxHeartbeats 4000000 in
set_option maxRecDepth 100000 in
theorem l_matchings (l : Launch) (D : va_G) (h th : Nat) (cI cL cF : ClassId) (I : Nat → Nat → Int32) (J : Nat → Nat → Int64) (sh : Nat → Nat) (fr : Nat) (en : Int32) (hs : shok_ sh fr) (i : Nat) (hi : i < 10) (ed : Nat → Nat) (hed : ∀ j, j < 12 → I 10 j = nI (ed j)) (hok : ∀ j, j < 12 → eok_ (ed j)) (o : Nat) (O : Nat → Int64) (ho : ¬ ca_ h o) (hho : h ≤ o) : kh_ l my_L_matchings (Cond.codeWith my_L_matchings bc_L_matchings 4 (some .int) [(0, 9, 12, 13)] :: tw_) { frames := 41, cells := 1, slots := 6, locals := 2040 } D (ty_s cI cL cF) (xq_ h th) (sA_ h o) [.ref h, .int (nI i), .ref o] (ow_ D h cI cL cF I J sh fr en o O) (ow_ D h cI cL cF I (va_up (fillJ_ J fr 0) (fr + 1) (mt_ ed 12 0 0 ((fillJ_ J fr 0) (fr + 1)))) (va_up sh i fr) (sh i) en o (vp_updL O 0 (nI (tw64_ ((va_up (fillJ_ J fr 0) (fr + 1) (mt_ ed 12 0 0 ((fillJ_ J fr 0) (fr + 1)))) (fr + 1)) 64)).toInt64)) (nI 0) := by
  refine aw_metH (A := sA_ h o) (own := "FamilyShelfLaw") (by decide) rfl rfl (Nat.le_of_ble_eq_true rfl) ?_
  intro p9 e s m args below meth c C hr htb hX hP0
  refine aw_lw (lw' := [some (.ref h), some (.int (nI i)), some (.ref o), none]) rfl ?_
  refine aw_aload_n C dc_L_matchings_0 rfl ?_
  refine aw_iconst C dc_L_matchings_1 (v := nI 0) rfl ?_
  refine aw_aload_n C dc_L_matchings_2 rfl ?_
  refine aw_iload_n C dc_L_matchings_3 rfl ?_
  refine kq_Vi (ws := sy_ h cI cL cF I J sh fr en) (n := 1) (P' := ow_ D h cI cL cF I (va_up (fillJ_ J fr 0) (fr + 1) (mt_ ed 12 0 0 ((fillJ_ J fr 0) (fr + 1)))) (va_up sh i fr) (sh i) en o O) C (fun U hW hz hq => xw_k (sA_le hho) s U hW hz hq hX.1.1) (sp_blind (A := ca_ h) (xw_k ca_le)) (fun H h => pa_l h) 0 sy_p0 rfl (s_matchings l D h th cI cL cF I J sh fr en hs i hi ed hed hok) kw_501 kw_498 kw_499 kw_500 kw_1 rfl (by unfold kd_; decide) ⟨rfl, rfl, by decide, by decide⟩ rfl rfl (Nat.le_of_ble_eq_true rfl) ⟨by decide, by decide⟩ dc_L_matchings_4 (fun q h => Or.inl h) (fun H h => pa_l h) (fun H H1 h hk h1 => sw_post (cI := cI) (cF := cF) ho h hk h1) ?_
  refine aw_i2l C dc_L_matchings_7 ?_
  refine aw_last C (sw_D ho) 42 1 ow_at rfl 0 rfl (by decide) (by decide) (ws' := sy_ h cI cL cF I (va_up (fillJ_ J fr 0) (fr + 1) (mt_ ed 12 0 0 ((fillJ_ J fr 0) (fr + 1)))) (va_up sh i fr) (sh i) en ++ [(o, .inl (cL, 1, .inr (.inl (vp_updL O 0 (nI (tw64_ ((va_up (fillJ_ J fr 0) (fr + 1) (mt_ ed 12 0 0 ((fillJ_ J fr 0) (fr + 1)))) (fr + 1)) 64)).toInt64))))]) (by rw [ow_set]) dc_L_matchings_8 ?_
  refine aw_goto C dc_L_matchings_9 (tgt := 15) (by decide) ?_
  refine aw_iconst C dc_L_matchings_15 (v := nI 0) rfl ?_
  exact aw_ret2 (aw_widen (k := 1) (n := 6) (by decide) (by decide) (aw_iret C hr dc_L_matchings_16 (fun t h _ => ⟨(), rfl, h⟩)))
set_option maxHeartbeats 4000000 in
set_option maxRecDepth 100000 in
theorem l_weight (l : Launch) (D : va_G) (h th : Nat) (cI cL cF : ClassId) (I : Nat → Nat → Int32) (J : Nat → Nat → Int64) (sh : Nat → Nat) (fr : Nat) (en : Int32) (el : Nat) (hel : el < 12) (x : Int32) (hx1 : ¬ x < (-99)) (hx2 : x ≤ nI 99) (o : Nat) (O : Nat → Int64) (ho : ¬ ca_ h o) (hho : h ≤ o) : kh_ l my_L_weight (Cond.codeWith my_L_weight bc_L_weight 5 (some .int) [(0, 10, 13, 13), (0, 10, 17, 15)] :: tw_) { frames := 41, cells := 1, slots := 6, locals := 2040 } D (ty_s cI cL cF) (xq_ h th) (sA_ h o) [.ref h, .int (nI el), .int x, .ref o] (ow_ D h cI cL cF I J sh fr en o O) (ow_ D h cI cL cF (va_up I 12 (upd (I 12) el x)) J sh fr en o (vp_updL O 0 (I 12 el).toInt64)) (nI 0) := by
  refine aw_metH (A := sA_ h o) (own := "FamilyShelfLaw") (by decide) rfl rfl (Nat.le_of_ble_eq_true rfl) ?_
  intro p9 e s m args below meth c C hr htb hX hP0
  refine aw_lw (lw' := [some (.ref h), some (.int (nI el)), some (.int x), some (.ref o), none]) rfl ?_
  refine aw_aload_n C dc_L_weight_0 rfl ?_
  refine aw_iconst C dc_L_weight_1 (v := nI 0) rfl ?_
  refine aw_aload_n C dc_L_weight_2 rfl ?_
  refine aw_iload_n C dc_L_weight_3 rfl ?_
  refine aw_iload_n C dc_L_weight_4 rfl ?_
  refine kq_Vi (ws := sy_ h cI cL cF I J sh fr en) (n := 2) (P' := ow_ D h cI cL cF (va_up I 12 (upd (I 12) el x)) J sh fr en o O) C (fun U hW hz hq => xw_k (sA_le hho) s U hW hz hq hX.1.1) (sp_blind (A := ca_ h) (xw_k ca_le)) (fun H h => pa_l h) 0 sy_p0 rfl (s_weight l D h th cI cL cF I J sh fr en el hel x hx1 hx2) kw_515 kw_512 kw_513 kw_514 kw_1 rfl (by unfold kd_; decide) ⟨rfl, rfl, by decide, by decide⟩ rfl rfl (Nat.le_of_ble_eq_true rfl) ⟨by decide, by decide⟩ dc_L_weight_5 (fun q h => Or.inl h) (fun H h => pa_l h) (fun H H1 h hk h1 => sw_post (cI := cI) (cF := cF) ho h hk h1) ?_
  refine aw_i2l C dc_L_weight_8 ?_
  refine aw_last C (sw_D ho) 42 1 ow_at rfl 0 rfl (by decide) (by decide) (ws' := sy_ h cI cL cF (va_up I 12 (upd (I 12) el x)) J sh fr en ++ [(o, .inl (cL, 1, .inr (.inl (vp_updL O 0 (I 12 el).toInt64))))]) (by rw [ow_set]) dc_L_weight_9 ?_
  refine aw_goto C dc_L_weight_10 (tgt := 21) (by decide) ?_
  refine aw_iconst C dc_L_weight_21 (v := nI 0) rfl ?_
  exact aw_ret2 (aw_widen (k := 1) (n := 6) (by decide) (by decide) (aw_iret C hr dc_L_weight_22 (fun t h _ => ⟨(), rfl, h⟩)))
set_option maxHeartbeats 4000000 in
set_option maxRecDepth 100000 in
theorem l_count (l : Launch) (D : va_G) (h th : Nat) (cI cL cF : ClassId) (I : Nat → Nat → Int32) (J : Nat → Nat → Int64) (sh : Nat → Nat) (fr : Nat) (en : Int32) (hs : shok_ sh fr) (i : Nat) (hi : i < 10) (o : Nat) (O : Nat → Int64) (ho : ¬ ca_ h o) (hho : h ≤ o) : kh_ l my_L_count (Cond.codeWith my_L_count bc_L_count 4 (some .int) [(0, 9, 12, 13)] :: tw_) { frames := 41, cells := 1, slots := 6, locals := 2040 } D (ty_s cI cL cF) (xq_ h th) (sA_ h o) [.ref h, .int (nI i), .ref o] (ow_ D h cI cL cF I J sh fr en o O) (ow_ D h cI cL cF I J sh fr en o (vp_updL O 0 (nI (tw64_ (J (sh i + 1)) 64)).toInt64)) (nI 0) := by
  refine aw_metH (A := sA_ h o) (own := "FamilyShelfLaw") (by decide) rfl rfl (Nat.le_of_ble_eq_true rfl) ?_
  intro p9 e s m args below meth c C hr htb hX hP0
  refine aw_lw (lw' := [some (.ref h), some (.int (nI i)), some (.ref o), none]) rfl ?_
  refine aw_aload_n C dc_L_count_0 rfl ?_
  refine aw_iconst C dc_L_count_1 (v := nI 0) rfl ?_
  refine aw_aload_n C dc_L_count_2 rfl ?_
  refine aw_iload_n C dc_L_count_3 rfl ?_
  refine kq_Vi (ws := sy_ h cI cL cF I J sh fr en) (n := 1) (P' := ow_ D h cI cL cF I J sh fr en o O) C (fun U hW hz hq => xw_k (sA_le hho) s U hW hz hq hX.1.1) (sp_blind (A := ca_ h) (xw_k ca_le)) (fun H h => pa_l h) 0 sy_p0 rfl (s_count l D h th cI cL cF I J sh fr en hs i hi) kw_526 kw_523 kw_524 kw_525 kw_1 rfl (by unfold kd_; decide) ⟨rfl, rfl, by decide, by decide⟩ rfl rfl (Nat.le_of_ble_eq_true rfl) ⟨by decide, by decide⟩ dc_L_count_4 (fun q h => Or.inl h) (fun H h => pa_l h) (fun H H1 h hk h1 => sw_post (cI := cI) (cF := cF) ho h hk h1) ?_
  refine aw_i2l C dc_L_count_7 ?_
  refine aw_last C (sw_D ho) 42 1 ow_at rfl 0 rfl (by decide) (by decide) (ws' := sy_ h cI cL cF I J sh fr en ++ [(o, .inl (cL, 1, .inr (.inl (vp_updL O 0 (nI (tw64_ (J (sh i + 1)) 64)).toInt64))))]) (by rw [ow_set]) dc_L_count_8 ?_
  refine aw_goto C dc_L_count_9 (tgt := 15) (by decide) ?_
  refine aw_iconst C dc_L_count_15 (v := nI 0) rfl ?_
  exact aw_ret2 (aw_widen (k := 1) (n := 6) (by decide) (by decide) (aw_iret C hr dc_L_count_16 (fun t h _ => ⟨(), rfl, h⟩)))
set_option maxHeartbeats 4000000 in
set_option maxRecDepth 100000 in
theorem l_has (l : Launch) (D : va_G) (h th : Nat) (cI cL cF : ClassId) (I : Nat → Nat → Int32) (J : Nat → Nat → Int64) (sh : Nat → Nat) (fr : Nat) (en : Int32) (hs : shok_ sh fr) (i : Nat) (hi : i < 10) (n : Nat) (hn : n < 4096) (o : Nat) (O : Nat → Int64) (ho : ¬ ca_ h o) (hho : h ≤ o) : kh_ l my_L_has (Cond.codeWith my_L_has bc_L_has 5 (some .int) [(0, 17, 20, 13), (0, 17, 24, 15)] :: tw_) { frames := 41, cells := 1, slots := 6, locals := 2040 } D (ty_s cI cL cF) (xq_ h th) (sA_ h o) [.ref h, .int (nI i), .int (nI n), .ref o] (ow_ D h cI cL cF I J sh fr en o O) (ow_ D h cI cL cF I J sh fr en o (vp_updL O 0 (zl_ (fb_ (J (sh i + 1)) (mr_ n 12))))) (nI 0) := by
  refine aw_metH (A := sA_ h o) (own := "FamilyShelfLaw") (by decide) rfl rfl (Nat.le_of_ble_eq_true rfl) ?_
  intro p9 e s m args below meth c C hr htb hX hP0
  refine aw_lw (lw' := [some (.ref h), some (.int (nI i)), some (.int (nI n)), some (.ref o), none]) rfl ?_
  refine aw_aload_n C dc_L_has_0 rfl ?_
  refine aw_iconst C dc_L_has_1 (v := nI 0) rfl ?_
  refine aw_aload_n C dc_L_has_2 rfl ?_
  refine aw_iload_n C dc_L_has_3 rfl ?_
  refine aw_iload_n C dc_L_has_4 rfl ?_
  refine kq_Vi (ws := sy_ h cI cL cF I J sh fr en) (n := 2) (P' := ow_ D h cI cL cF I J sh fr en o O) C (fun U hW hz hq => xw_k (sA_le hho) s U hW hz hq hX.1.1) (sp_blind (A := ca_ h) (xw_k ca_le)) (fun H h => pa_l h) 0 sy_p0 rfl (s_has l D h th cI cL cF I J sh fr en hs i hi n hn) kw_533 kw_530 kw_531 kw_532 kw_1 rfl (by unfold kd_; decide) ⟨rfl, rfl, by decide, by decide⟩ rfl rfl (Nat.le_of_ble_eq_true rfl) ⟨by decide, by decide⟩ dc_L_has_5 (fun q h => Or.inl h) (fun H h => pa_l h) (fun H H1 h hk h1 => sw_post (cI := cI) (cF := cF) ho h hk h1) ?_
  refine aw_if_eq C dc_L_has_8 (tgt := 15) (by decide) (fun hB8 => ?_) (fun hB8 => ?_)
  · have hb := z1_0.mp hB8
    refine aw_lconst C dc_L_has_15 (v := 0) rfl ?_
    refine aw_last C (sw_D ho) 42 1 ow_at rfl 0 rfl (by decide) (by decide) (ws' := sy_ h cI cL cF I J sh fr en ++ [(o, .inl (cL, 1, .inr (.inl (vp_updL O 0 (zl_ (fb_ (J (sh i + 1)) (mr_ n 12)))))))]) (by rw [ow_set, hb]; rfl) dc_L_has_16 ?_
    refine aw_goto C dc_L_has_17 (tgt := 28) (by decide) ?_
    refine aw_iconst C dc_L_has_28 (v := nI 0) rfl ?_
    exact aw_ret2 (aw_widen (k := 1) (n := 6) (by decide) (by decide) (aw_iret C hr dc_L_has_29 (fun t h _ => ⟨(), rfl, h⟩)))
  · have hb := z1_n.mp hB8
    refine aw_lconst C dc_L_has_11 (v := 1) rfl ?_
    refine aw_goto C dc_L_has_12 (tgt := 16) (by decide) ?_
    refine aw_last C (sw_D ho) 42 1 ow_at rfl 0 rfl (by decide) (by decide) (ws' := sy_ h cI cL cF I J sh fr en ++ [(o, .inl (cL, 1, .inr (.inl (vp_updL O 0 (zl_ (fb_ (J (sh i + 1)) (mr_ n 12)))))))]) (by rw [ow_set, hb]; rfl) dc_L_has_16 ?_
    refine aw_goto C dc_L_has_17 (tgt := 28) (by decide) ?_
    refine aw_iconst C dc_L_has_28 (v := nI 0) rfl ?_
    exact aw_ret2 (aw_widen (k := 1) (n := 6) (by decide) (by decide) (aw_iret C hr dc_L_has_29 (fun t h _ => ⟨(), rfl, h⟩)))
set_option maxHeartbeats 4000000 in
set_option maxRecDepth 100000 in
theorem l_rank (l : Launch) (D : va_G) (h th : Nat) (cI cL cF : ClassId) (I : Nat → Nat → Int32) (J : Nat → Nat → Int64) (sh : Nat → Nat) (fr : Nat) (en : Int32) (hs : shok_ sh fr) (i : Nat) (hi : i < 10) (n : Nat) (hn : n < 4096) (o : Nat) (O : Nat → Int64) (ho : ¬ ca_ h o) (hho : h ≤ o) : kh_ l my_L_rank (Cond.codeWith my_L_rank bc_L_rank 5 (some .int) [(0, 10, 13, 13), (0, 10, 17, 15)] :: tw_) { frames := 41, cells := 1, slots := 6, locals := 2040 } D (ty_s cI cL cF) (xq_ h th) (sA_ h o) [.ref h, .int (nI i), .int (nI n), .ref o] (ow_ D h cI cL cF I J sh fr en o O) (ow_ D h cI cL cF I J sh fr en o (vp_updL O 0 (nI (cn_ (fb_ (J (sh i + 1))) (mr_ n 12))).toInt64)) (nI 0) := by
  refine aw_metH (A := sA_ h o) (own := "FamilyShelfLaw") (by decide) rfl rfl (Nat.le_of_ble_eq_true rfl) ?_
  intro p9 e s m args below meth c C hr htb hX hP0
  refine aw_lw (lw' := [some (.ref h), some (.int (nI i)), some (.int (nI n)), some (.ref o), none]) rfl ?_
  refine aw_aload_n C dc_L_rank_0 rfl ?_
  refine aw_iconst C dc_L_rank_1 (v := nI 0) rfl ?_
  refine aw_aload_n C dc_L_rank_2 rfl ?_
  refine aw_iload_n C dc_L_rank_3 rfl ?_
  refine aw_iload_n C dc_L_rank_4 rfl ?_
  refine kq_Vi (ws := sy_ h cI cL cF I J sh fr en) (n := 2) (P' := ow_ D h cI cL cF I J sh fr en o O) C (fun U hW hz hq => xw_k (sA_le hho) s U hW hz hq hX.1.1) (sp_blind (A := ca_ h) (xw_k ca_le)) (fun H h => pa_l h) 0 sy_p0 rfl (s_rank l D h th cI cL cF I J sh fr en hs i hi n hn) kw_554 kw_551 kw_552 kw_553 kw_1 rfl (by unfold kd_; decide) ⟨rfl, rfl, by decide, by decide⟩ rfl rfl (Nat.le_of_ble_eq_true rfl) ⟨by decide, by decide⟩ dc_L_rank_5 (fun q h => Or.inl h) (fun H h => pa_l h) (fun H H1 h hk h1 => sw_post (cI := cI) (cF := cF) ho h hk h1) ?_
  refine aw_i2l C dc_L_rank_8 ?_
  refine aw_last C (sw_D ho) 42 1 ow_at rfl 0 rfl (by decide) (by decide) (ws' := sy_ h cI cL cF I J sh fr en ++ [(o, .inl (cL, 1, .inr (.inl (vp_updL O 0 (nI (cn_ (fb_ (J (sh i + 1))) (mr_ n 12))).toInt64))))]) (by rw [ow_set]) dc_L_rank_9 ?_
  refine aw_goto C dc_L_rank_10 (tgt := 21) (by decide) ?_
  refine aw_iconst C dc_L_rank_21 (v := nI 0) rfl ?_
  exact aw_ret2 (aw_widen (k := 1) (n := 6) (by decide) (by decide) (aw_iret C hr dc_L_rank_22 (fun t h _ => ⟨(), rfl, h⟩)))
set_option maxHeartbeats 4000000 in
set_option maxRecDepth 100000 in
theorem l_nthNeg (l : Launch) (D : va_G) (h th : Nat) (cI cL cF : ClassId) (I : Nat → Nat → Int32) (J : Nat → Nat → Int64) (sh : Nat → Nat) (fr : Nat) (en : Int32) (hs : shok_ sh fr) (i : Nat) (hi : i < 10) (x : Int32) (hx : x < 0) (o : Nat) (O : Nat → Int64) (ho : ¬ ca_ h o) (hho : h ≤ o) : kh_ l my_L_nth (Cond.codeWith my_L_nth bc_L_nth 5 (some .int) [(0, 10, 13, 13)] :: tw_) { frames := 41, cells := 1, slots := 6, locals := 2040 } D (ty_s cI cL cF) (xq_ h th) (sA_ h o) [.ref h, .int (nI i), .int x, .ref o] (ow_ D h cI cL cF I J sh fr en o O) (ow_ D h cI cL cF I J sh fr en o (vp_updL O 0 (-1 : Int32).toInt64)) (nI 0) := by
  refine aw_metH (A := sA_ h o) (own := "FamilyShelfLaw") (by decide) rfl rfl (Nat.le_of_ble_eq_true rfl) ?_
  intro p9 e s m args below meth c C hr htb hX hP0
  refine aw_lw (lw' := [some (.ref h), some (.int (nI i)), some (.int x), some (.ref o), none]) rfl ?_
  refine aw_aload_n C dc_L_nth_0 rfl ?_
  refine aw_iconst C dc_L_nth_1 (v := nI 0) rfl ?_
  refine aw_aload_n C dc_L_nth_2 rfl ?_
  refine aw_iload_n C dc_L_nth_3 rfl ?_
  refine aw_iload_n C dc_L_nth_4 rfl ?_
  refine kq_Vi (ws := sy_ h cI cL cF I J sh fr en) (n := 2) (P' := ow_ D h cI cL cF I J sh fr en o O) C (fun U hW hz hq => xw_k (sA_le hho) s U hW hz hq hX.1.1) (sp_blind (A := ca_ h) (xw_k ca_le)) (fun H h => pa_l h) 0 sy_p0 rfl (s_nthNeg l D h th cI cL cF I J sh fr en hs i hi x hx) kw_540 kw_537 kw_538 kw_539 kw_1 rfl (by unfold kd_; decide) ⟨rfl, rfl, by decide, by decide⟩ rfl rfl (Nat.le_of_ble_eq_true rfl) ⟨by decide, by decide⟩ dc_L_nth_5 (fun q h => Or.inl h) (fun H h => pa_l h) (fun H H1 h hk h1 => sw_post (cI := cI) (cF := cF) ho h hk h1) ?_
  refine aw_i2l C dc_L_nth_8 ?_
  refine aw_last C (sw_D ho) 42 1 ow_at rfl 0 rfl (by decide) (by decide) (ws' := sy_ h cI cL cF I J sh fr en ++ [(o, .inl (cL, 1, .inr (.inl (vp_updL O 0 (-1 : Int32).toInt64))))]) (by rw [ow_set]) dc_L_nth_9 ?_
  refine aw_goto C dc_L_nth_10 (tgt := 17) (by decide) ?_
  refine aw_iconst C dc_L_nth_17 (v := nI 0) rfl ?_
  exact aw_ret2 (aw_widen (k := 1) (n := 6) (by decide) (by decide) (aw_iret C hr dc_L_nth_18 (fun t h _ => ⟨(), rfl, h⟩)))
set_option maxHeartbeats 4000000 in
set_option maxRecDepth 100000 in
theorem l_nth (l : Launch) (D : va_G) (h th : Nat) (cI cL cF : ClassId) (I : Nat → Nat → Int32) (J : Nat → Nat → Int64) (sh : Nat → Nat) (fr : Nat) (en : Int32) (hs : shok_ sh fr) (i : Nat) (hi : i < 10) (j : Nat) (hj : j < 2 ^ 31) (o : Nat) (O : Nat → Int64) (ho : ¬ ca_ h o) (hho : h ≤ o) : kh_ l my_L_nth (Cond.codeWith my_L_nth bc_L_nth 5 (some .int) [(0, 10, 13, 13)] :: tw_) { frames := 41, cells := 1, slots := 6, locals := 2040 } D (ty_s cI cL cF) (xq_ h th) (sA_ h o) [.ref h, .int (nI i), .int (nI j), .ref o] (ow_ D h cI cL cF I J sh fr en o O) (ow_ D h cI cL cF I J sh fr en o (vp_updL O 0 (if j < cn_ (fb_ (J (sh i + 1))) 4096 then nI (mr_ (sel_ (fb_ (J (sh i + 1))) 4096 j) 12) else -1).toInt64)) (nI 0) := by
  refine aw_metH (A := sA_ h o) (own := "FamilyShelfLaw") (by decide) rfl rfl (Nat.le_of_ble_eq_true rfl) ?_
  intro p9 e s m args below meth c C hr htb hX hP0
  refine aw_lw (lw' := [some (.ref h), some (.int (nI i)), some (.int (nI j)), some (.ref o), none]) rfl ?_
  refine aw_aload_n C dc_L_nth_0 rfl ?_
  refine aw_iconst C dc_L_nth_1 (v := nI 0) rfl ?_
  refine aw_aload_n C dc_L_nth_2 rfl ?_
  refine aw_iload_n C dc_L_nth_3 rfl ?_
  refine aw_iload_n C dc_L_nth_4 rfl ?_
  refine kq_Vi (ws := sy_ h cI cL cF I J sh fr en) (n := 2) (P' := ow_ D h cI cL cF I J sh fr en o O) C (fun U hW hz hq => xw_k (sA_le hho) s U hW hz hq hX.1.1) (sp_blind (A := ca_ h) (xw_k ca_le)) (fun H h => pa_l h) 0 sy_p0 rfl (s_nth l D h th cI cL cF I J sh fr en hs i hi j hj) kw_540 kw_537 kw_538 kw_539 kw_1 rfl (by unfold kd_; decide) ⟨rfl, rfl, by decide, by decide⟩ rfl rfl (Nat.le_of_ble_eq_true rfl) ⟨by decide, by decide⟩ dc_L_nth_5 (fun q h => Or.inl h) (fun H h => pa_l h) (fun H H1 h hk h1 => sw_post (cI := cI) (cF := cF) ho h hk h1) ?_
  refine aw_i2l C dc_L_nth_8 ?_
  refine aw_last C (sw_D ho) 42 1 ow_at rfl 0 rfl (by decide) (by decide) (ws' := sy_ h cI cL cF I J sh fr en ++ [(o, .inl (cL, 1, .inr (.inl (vp_updL O 0 (if j < cn_ (fb_ (J (sh i + 1))) 4096 then nI (mr_ (sel_ (fb_ (J (sh i + 1))) 4096 j) 12) else -1).toInt64))))]) (by rw [ow_set]) dc_L_nth_9 ?_
  refine aw_goto C dc_L_nth_10 (tgt := 17) (by decide) ?_
  refine aw_iconst C dc_L_nth_17 (v := nI 0) rfl ?_
  exact aw_ret2 (aw_widen (k := 1) (n := 6) (by decide) (by decide) (aw_iret C hr dc_L_nth_18 (fun t h _ => ⟨(), rfl, h⟩)))
set_option maxHeartbeats 4000000 in
set_option maxRecDepth 100000 in
theorem l_heaviest (l : Launch) (D : va_G) (h th : Nat) (cI cL cF : ClassId) (I : Nat → Nat → Int32) (J : Nat → Nat → Int64) (sh : Nat → Nat) (fr : Nat) (en : Int32) (hs : shok_ sh fr) (i : Nat) (hi : i < 10) (q : Nat) (hq2 : q < 4096) (hq : (hp_ (J (sh i + 1)) (hs_ I) 4096).1 = nI q) (o : Nat) (O : Nat → Int64) (ho : ¬ ca_ h o) (hho : h ≤ o) : kh_ l my_L_heaviest (Cond.codeWith my_L_heaviest bc_L_heaviest 4 (some .int) [(0, 9, 12, 13), (0, 9, 15, 74)] :: tw_) { frames := 41, cells := 1, slots := 6, locals := 2040 } D (ty_s cI cL cF) (xq_ h th) (sA_ h o) [.ref h, .int (nI i), .ref o] (ow_ D h cI cL cF I J sh fr en o O) (ow_ D h cI cL cF (hI_ I) J sh fr en o (vp_updL O 0 (nI (mr_ q 12)).toInt64)) (nI 0) := by
  refine aw_metH (A := sA_ h o) (own := "FamilyShelfLaw") (by decide) rfl rfl (Nat.le_of_ble_eq_true rfl) ?_
  intro p9 e s m args below meth c C hr htb hX hP0
  refine aw_lw (lw' := [some (.ref h), some (.int (nI i)), some (.ref o), none]) rfl ?_
  refine aw_aload_n C dc_L_heaviest_0 rfl ?_
  refine aw_iconst C dc_L_heaviest_1 (v := nI 0) rfl ?_
  refine aw_aload_n C dc_L_heaviest_2 rfl ?_
  refine aw_iload_n C dc_L_heaviest_3 rfl ?_
  refine kq_Vi (ws := sy_ h cI cL cF I J sh fr en) (n := 1) (P' := ow_ D h cI cL cF (hI_ I) J sh fr en o O) C (fun U hW hz hq => xw_k (sA_le hho) s U hW hz hq hX.1.1) (sp_blind (A := ca_ h) (xw_k ca_le)) (fun H h => pa_l h) 0 sy_p0 rfl (s_heaviest l D h th cI cL cF I J sh fr en hs i hi q hq2 hq) kw_566 kw_563 kw_564 kw_565 kw_1 rfl (by unfold kd_; decide) ⟨rfl, rfl, by decide, by decide⟩ rfl rfl (Nat.le_of_ble_eq_true rfl) ⟨by decide, by decide⟩ dc_L_heaviest_4 (fun q h => Or.inl h) (fun H h => pa_l h) (fun H H1 h hk h1 => sw_post (cI := cI) (cF := cF) ho h hk h1) ?_
  refine aw_i2l C dc_L_heaviest_7 ?_
  refine aw_last C (sw_D ho) 42 1 ow_at rfl 0 rfl (by decide) (by decide) (ws' := sy_ h cI cL cF (hI_ I) J sh fr en ++ [(o, .inl (cL, 1, .inr (.inl (vp_updL O 0 (nI (mr_ q 12)).toInt64))))]) (by rw [ow_set]) dc_L_heaviest_8 ?_
  refine aw_goto C dc_L_heaviest_9 (tgt := 18) (by decide) ?_
  refine aw_iconst C dc_L_heaviest_18 (v := nI 0) rfl ?_
  exact aw_ret2 (aw_widen (k := 1) (n := 6) (by decide) (by decide) (aw_iret C hr dc_L_heaviest_19 (fun t h _ => ⟨(), rfl, h⟩)))
set_option maxHeartbeats 4000000 in
set_option maxRecDepth 100000 in
theorem l_size (l : Launch) (D : va_G) (h th : Nat) (cI cL cF : ClassId) (I0 : Nat → Nat → Int32) (T : Nat → Nat → Nat) (J : Nat → Nat → Int64) (sh : Nat → Nat) (fr : Nat) (E : Nat) (hs : shok_ sh fr) (i : Nat) (hi : i < 10) (hT : tb_ T) (o : Nat) (O : Nat → Int64) (ho : ¬ ca_ h o) (hho : h ≤ o) : kh_ l my_L_size (Cond.codeWith my_L_size bc_L_size 4 (some .int) [(0, 9, 12, 13)] :: tw_) { frames := 41, cells := 1, slots := 6, locals := 2040 } D (ty_s cI cL cF) (xq_ h th) (sA_ h o) [.ref h, .int (nI i), .ref o] (ow_ D h cI cL cF (it_ I0 T) J sh fr (nI E) o O) (ow_ D h cI cL cF (it_ I0 (dl_ (d0_ T (J (sh i + 1)) 4096, 2) 12).1) J sh fr (nI (dl_ (d0_ T (J (sh i + 1)) 4096, 2) 12).2) o (vp_updL O 0 (nI ((dl_ (d0_ T (J (sh i + 1)) 4096, 2) 12).2 - 2)).toInt64)) (nI 0) := by
  refine aw_metH (A := sA_ h o) (own := "FamilyShelfLaw") (by decide) rfl rfl (Nat.le_of_ble_eq_true rfl) ?_
  intro p9 e s m args below meth c C hr htb hX hP0
  refine aw_lw (lw' := [some (.ref h), some (.int (nI i)), some (.ref o), none]) rfl ?_
  refine aw_aload_n C dc_L_size_0 rfl ?_
  refine aw_iconst C dc_L_size_1 (v := nI 0) rfl ?_
  refine aw_aload_n C dc_L_size_2 rfl ?_
  refine aw_iload_n C dc_L_size_3 rfl ?_
  refine kq_Vi (ws := sy_ h cI cL cF (it_ I0 T) J sh fr (nI E)) (n := 1) (P' := ow_ D h cI cL cF (it_ I0 (dl_ (d0_ T (J (sh i + 1)) 4096, 2) 12).1) J sh fr (nI (dl_ (d0_ T (J (sh i + 1)) 4096, 2) 12).2) o O) C (fun U hW hz hq => xw_k (sA_le hho) s U hW hz hq hX.1.1) (sp_blind (A := ca_ h) (xw_k ca_le)) (fun H h => pa_l h) 0 sy_p0 rfl (s_size l D h th cI cL cF I0 T J sh fr E hs i hi hT) kw_602 kw_599 kw_600 kw_601 kw_1 rfl (by unfold kd_; decide) ⟨rfl, rfl, by decide, by decide⟩ rfl rfl (Nat.le_of_ble_eq_true rfl) ⟨by decide, by decide⟩ dc_L_size_4 (fun q h => Or.inl h) (fun H h => pa_l h) (fun H H1 h hk h1 => sw_post (cI := cI) (cF := cF) ho h hk h1) ?_
  refine aw_i2l C dc_L_size_7 ?_
  refine aw_last C (sw_D ho) 42 1 ow_at rfl 0 rfl (by decide) (by decide) (ws' := sy_ h cI cL cF (it_ I0 (dl_ (d0_ T (J (sh i + 1)) 4096, 2) 12).1) J sh fr (nI (dl_ (d0_ T (J (sh i + 1)) 4096, 2) 12).2) ++ [(o, .inl (cL, 1, .inr (.inl (vp_updL O 0 (nI ((dl_ (d0_ T (J (sh i + 1)) 4096, 2) 12).2 - 2)).toInt64))))]) (by rw [ow_set]) dc_L_size_8 ?_
  refine aw_goto C dc_L_size_9 (tgt := 15) (by decide) ?_
  refine aw_iconst C dc_L_size_15 (v := nI 0) rfl ?_
  exact aw_ret2 (aw_widen (k := 1) (n := 6) (by decide) (by decide) (aw_iret C hr dc_L_size_16 (fun t h _ => ⟨(), rfl, h⟩)))
set_option maxHeartbeats 4000000 in
set_option maxRecDepth 100000 in
theorem l_parts (l : Launch) (D : va_G) (h th : Nat) (cI cL cF : ClassId) (I : Nat → Nat → Int32) (J : Nat → Nat → Int64) (sh : Nat → Nat) (fr : Nat) (en : Int32) (hs : shok_ sh fr) (i : Nat) (hi : i < 10) (o : Nat) (O : Nat → Int64) (ho : ¬ ca_ h o) (hho : h ≤ o) : kh_ l my_L_parts (Cond.codeWith my_L_parts bc_L_parts 4 (some .int) [(0, 9, 12, 13)] :: tw_) { frames := 41, cells := 1, slots := 6, locals := 2040 } D (ty_s cI cL cF) (xq_ h th) (sA_ h o) [.ref h, .int (nI i), .ref o] (ow_ D h cI cL cF I J sh fr en o O) (ow_ D h cI cL cF I J sh fr en o (vp_updL O 0 (fia_ (fi_ (fun e => ptf_ (J (sh i + 1)) (11 - e)) 0 12)).toInt64)) (nI 0) := by
  refine aw_metH (A := sA_ h o) (own := "FamilyShelfLaw") (by decide) rfl rfl (Nat.le_of_ble_eq_true rfl) ?_
  intro p9 e s m args below meth c C hr htb hX hP0
  refine aw_lw (lw' := [some (.ref h), some (.int (nI i)), some (.ref o), none]) rfl ?_
  refine aw_aload_n C dc_L_parts_0 rfl ?_
  refine aw_iconst C dc_L_parts_1 (v := nI 0) rfl ?_
  refine aw_aload_n C dc_L_parts_2 rfl ?_
  refine aw_iload_n C dc_L_parts_3 rfl ?_
  refine kq_Vi (ws := sy_ h cI cL cF I J sh fr en) (n := 1) (P' := ow_ D h cI cL cF I J sh fr en o O) C (fun U hW hz hq => xw_k (sA_le hho) s U hW hz hq hX.1.1) (sp_blind (A := ca_ h) (xw_k ca_le)) (fun H h => pa_l h) 0 sy_p0 rfl (s_parts l D h th cI cL cF I J sh fr en hs i hi) kw_625 kw_622 kw_623 kw_624 kw_1 rfl (by unfold kd_; decide) ⟨rfl, rfl, by decide, by decide⟩ rfl rfl (Nat.le_of_ble_eq_true rfl) ⟨by decide, by decide⟩ dc_L_parts_4 (fun q h => Or.inl h) (fun H h => pa_l h) (fun H H1 h hk h1 => sw_post (cI := cI) (cF := cF) ho h hk h1) ?_
  refine aw_i2l C dc_L_parts_7 ?_
  refine aw_last C (sw_D ho) 42 1 ow_at rfl 0 rfl (by decide) (by decide) (ws' := sy_ h cI cL cF I J sh fr en ++ [(o, .inl (cL, 1, .inr (.inl (vp_updL O 0 (fia_ (fi_ (fun e => ptf_ (J (sh i + 1)) (11 - e)) 0 12)).toInt64))))]) (by rw [ow_set]) dc_L_parts_8 ?_
  refine aw_goto C dc_L_parts_9 (tgt := 15) (by decide) ?_
  refine aw_iconst C dc_L_parts_15 (v := nI 0) rfl ?_
  exact aw_ret2 (aw_widen (k := 1) (n := 6) (by decide) (by decide) (aw_iret C hr dc_L_parts_16 (fun t h _ => ⟨(), rfl, h⟩)))
