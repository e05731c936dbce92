set_option maxHeartbeats 4000000 in
set_option maxRecDepth 100000 in
theorem lt_put_0 (l : Launch) (hl : l.stackTraces = false) (D : va_G) (h th : Nat) (cI cL cF : ClassId) (I : Nat → Nat → Int32) (J : Nat → Nat → Int64) (sh : Nat → Nat) (fr : Nat) (en : Int32) (xka : Int32) (hx : xka < 0 ∨ nI 10 ≤ xka) (ykb : Int32) (o : Nat) (O : Nat → Int64) (ho : ¬ ca_ h o) (hho : h ≤ o) : kh_ l my_L_put (Cond.codeWith my_L_put bc_L_put 5 (some .int) [(0, 17, 20, 13), (0, 17, 24, 15)] :: tw_) { frames := 41, cells := 1, slots := 6, locals := 2040 } D (ty_s cI cL cF) (xq_ h th) (sA_ h o) [.ref h, .int xka, .int ykb, .ref o] (ow_ D h cI cL cF I J sh fr en o O) (ow_ D h cI cL cF I J sh fr en o O) (nI 1) := by
  refine aw_metH (A := sA_ h o) (own := "FamilyShelfLaw") (by decide) rfl rfl (Nat.le_of_ble_eq_true rfl) ?_
  intro p9 e s m args below meth c C hr htb hX hP0
  refine aw_lw (lw' := [some (.ref h), some (.int xka), some (.int ykb), some (.ref o), none]) rfl ?_
  refine aw_aload_n C dc_L_put_0 rfl ?_
  refine aw_iconst C dc_L_put_1 (v := nI 0) rfl ?_
  refine aw_aload_n C dc_L_put_2 rfl ?_
  refine aw_iload_n C dc_L_put_3 rfl ?_
  refine aw_iload_n C dc_L_put_4 rfl ?_
  refine kq_Xi (ws := sy_ h cI cL cF I J sh fr en) (n := 2) (P' := ow_ D h cI cL cF I J sh fr en o O) C (fun U hW hz hq => xp_k (sA_le hho) s U hW hz hq hX.1) (sp_blind (A := ca_ h) (xp_k ca_le)) (fun H h => pa_l h) 0 sy_p0 rfl (t_put_0 l hl D h th cI cL cF I J sh fr en xka hx ykb) kw_143 kw_140 kw_141 kw_142 kw_1 rfl (by unfold kd_; decide) ⟨rfl, rfl, by decide, by decide⟩ rfl rfl (Nat.le_of_ble_eq_true rfl) ⟨by decide, by decide⟩ dc_L_put_5 (fun q h => Or.inl h) (fun H h => pa_l h) (fun H H1 h hk h1 => sw_post (cI := cI) (cF := cF) ho h hk h1) [] ⟨0, 17, 20, 13⟩ [⟨0, 17, 24, 15⟩] (htb.trans rfl) (fun z hz => nomatch hz) (by decide) (by decide) kw_138 (hX.1.2.1 _ (by decide +kernel)) (fun q9 => ?_)
  refine aw_astore C dc_L_put_20 (by decide) rfl ?_
  refine aw_iconst C dc_L_put_22 (v := nI 1) rfl ?_
  exact aw_ret2 (aw_iret C hr dc_L_put_23 (fun t h _ => ⟨(), rfl, h⟩))
set_option maxHeartbeats 4000000 in
set_option maxRecDepth 100000 in
theorem lt_put_1 (l : Launch) (hl : l.stackTraces = false) (D : va_G) (h th : Nat) (cI cL cF : ClassId) (I : Nat → Nat → Int32) (J : Nat → Nat → Int64) (sh : Nat → Nat) (fr : Nat) (en : Int32) (ka : Nat) (hka : ka < 10) (xkb : Int32) (hx : xkb < nI 0 ∨ nI 4095 < xkb) (o : Nat) (O : Nat → Int64) (ho : ¬ ca_ h o) (hho : h ≤ o) : kh_ l my_L_put (Cond.codeWith my_L_put bc_L_put 5 (some .int) [(0, 17, 20, 13), (0, 17, 24, 15)] :: tw_) { frames := 41, cells := 1, slots := 6, locals := 2040 } D (ty_s cI cL cF) (xq_ h th) (sA_ h o) [.ref h, .int (nI ka), .int xkb, .ref o] (ow_ D h cI cL cF I J sh fr en o O) (ow_ D h cI cL cF I J sh fr en o O) (nI 2) := by
  refine aw_metH (A := sA_ h o) (own := "FamilyShelfLaw") (by decide) rfl rfl (Nat.le_of_ble_eq_true rfl) ?_
  intro p9 e s m args below meth c C hr htb hX hP0
  refine aw_lw (lw' := [some (.ref h), some (.int (nI ka)), some (.int xkb), some (.ref o), none]) rfl ?_
  refine aw_aload_n C dc_L_put_0 rfl ?_
  refine aw_iconst C dc_L_put_1 (v := nI 0) rfl ?_
  refine aw_aload_n C dc_L_put_2 rfl ?_
  refine aw_iload_n C dc_L_put_3 rfl ?_
  refine aw_iload_n C dc_L_put_4 rfl ?_
  refine kq_Xi (ws := sy_ h cI cL cF I J sh fr en) (n := 2) (P' := ow_ D h cI cL cF I J sh fr en o O) C (fun U hW hz hq => xp_k (sA_le hho) s U hW hz hq hX.1) (sp_blind (A := ca_ h) (xp_k ca_le)) (fun H h => pa_l h) 0 sy_p0 rfl (t_put_1 l hl D h th cI cL cF I J sh fr en ka hka xkb hx) kw_143 kw_140 kw_141 kw_142 kw_1 rfl (by unfold kd_; decide) ⟨rfl, rfl, by decide, by decide⟩ rfl rfl (Nat.le_of_ble_eq_true rfl) ⟨by decide, by decide⟩ dc_L_put_5 (fun q h => Or.inl h) (fun H h => pa_l h) (fun H H1 h hk h1 => sw_post (cI := cI) (cF := cF) ho h hk h1) [⟨0, 17, 20, 13⟩] ⟨0, 17, 24, 15⟩ [] (htb.trans rfl) (fun z hz => by rcases List.mem_singleton.mp hz with rfl; exact Or.inr ⟨by decide, "java/lang/IndexOutOfBoundsException", (C.1.2.2.2.2 _ (List.mem_cons_of_mem _ kw_138)), hX.2.1⟩) (by decide) (by decide) kw_139 (hX.1.2.1 _ (by decide +kernel)) (fun q9 => ?_)
  refine aw_astore C dc_L_put_24 (by decide) rfl ?_
  refine aw_iconst C dc_L_put_26 (v := nI 2) rfl ?_
  exact aw_ret2 (aw_iret C hr dc_L_put_27 (fun t h _ => ⟨(), rfl, h⟩))
set_option maxHeartbeats 4000000 in
set_option maxRecDepth 100000 in
theorem lt_take_0 (l : Launch) (hl : l.stackTraces = false) (D : va_G) (h th : Nat) (cI cL cF : ClassId) (I : Nat → Nat → Int32) (J : Nat → Nat → Int64) (sh : Nat → Nat) (fr : Nat) (en : Int32) (xka : Int32) (hx : xka < 0 ∨ nI 10 ≤ xka) (ykb : Int32) (o : Nat) (O : Nat → Int64) (ho : ¬ ca_ h o) (hho : h ≤ o) : kh_ l my_L_take (Cond.codeWith my_L_take bc_L_take 5 (some .int) [(0, 17, 20, 13), (0, 17, 24, 15)] :: tw_) { frames := 41, cells := 1, slots := 6, locals := 2040 } D (ty_s cI cL cF) (xq_ h th) (sA_ h o) [.ref h, .int xka, .int ykb, .ref o] (ow_ D h cI cL cF I J sh fr en o O) (ow_ D h cI cL cF I J sh fr en o O) (nI 1) := by
  refine aw_metH (A := sA_ h o) (own := "FamilyShelfLaw") (by decide) rfl rfl (Nat.le_of_ble_eq_true rfl) ?_
  intro p9 e s m args below meth c C hr htb hX hP0
  refine aw_lw (lw' := [some (.ref h), some (.int xka), some (.int ykb), some (.ref o), none]) rfl ?_
  refine aw_aload_n C dc_L_take_0 rfl ?_
  refine aw_iconst C dc_L_take_1 (v := nI 0) rfl ?_
  refine aw_aload_n C dc_L_take_2 rfl ?_
  refine aw_iload_n C dc_L_take_3 rfl ?_
  refine aw_iload_n C dc_L_take_4 rfl ?_
  refine kq_Xi (ws := sy_ h cI cL cF I J sh fr en) (n := 2) (P' := ow_ D h cI cL cF I J sh fr en o O) C (fun U hW hz hq => xp_k (sA_le hho) s U hW hz hq hX.1) (sp_blind (A := ca_ h) (xp_k ca_le)) (fun H h => pa_l h) 0 sy_p0 rfl (t_take_0 l hl D h th cI cL cF I J sh fr en xka hx ykb) kw_258 kw_255 kw_256 kw_257 kw_1 rfl (by unfold kd_; decide) ⟨rfl, rfl, by decide, by decide⟩ rfl rfl (Nat.le_of_ble_eq_true rfl) ⟨by decide, by decide⟩ dc_L_take_5 (fun q h => Or.inl h) (fun H h => pa_l h) (fun H H1 h hk h1 => sw_post (cI := cI) (cF := cF) ho h hk h1) [] ⟨0, 17, 20, 13⟩ [⟨0, 17, 24, 15⟩] (htb.trans rfl) (fun z hz => nomatch hz) (by decide) (by decide) kw_138 (hX.1.2.1 _ (by decide +kernel)) (fun q9 => ?_)
  refine aw_astore C dc_L_take_20 (by decide) rfl ?_
  refine aw_iconst C dc_L_take_22 (v := nI 1) rfl ?_
  exact aw_ret2 (aw_iret C hr dc_L_take_23 (fun t h _ => ⟨(), rfl, h⟩))
set_option maxHeartbeats 4000000 in
set_option maxRecDepth 100000 in
theorem lt_take_1 (l : Launch) (hl : l.stackTraces = false) (D : va_G) (h th : Nat) (cI cL cF : ClassId) (I : Nat → Nat → Int32) (J : Nat → Nat → Int64) (sh : Nat → Nat) (fr : Nat) (en : Int32) (ka : Nat) (hka : ka < 10) (xkb : Int32) (hx : xkb < nI 0 ∨ nI 4095 < xkb) (o : Nat) (O : Nat → Int64) (ho : ¬ ca_ h o) (hho : h ≤ o) : kh_ l my_L_take (Cond.codeWith my_L_take bc_L_take 5 (some .int) [(0, 17, 20, 13), (0, 17, 24, 15)] :: tw_) { frames := 41, cells := 1, slots := 6, locals := 2040 } D (ty_s cI cL cF) (xq_ h th) (sA_ h o) [.ref h, .int (nI ka), .int xkb, .ref o] (ow_ D h cI cL cF I J sh fr en o O) (ow_ D h cI cL cF I J sh fr en o O) (nI 2) := by
  refine aw_metH (A := sA_ h o) (own := "FamilyShelfLaw") (by decide) rfl rfl (Nat.le_of_ble_eq_true rfl) ?_
  intro p9 e s m args below meth c C hr htb hX hP0
  refine aw_lw (lw' := [some (.ref h), some (.int (nI ka)), some (.int xkb), some (.ref o), none]) rfl ?_
  refine aw_aload_n C dc_L_take_0 rfl ?_
  refine aw_iconst C dc_L_take_1 (v := nI 0) rfl ?_
  refine aw_aload_n C dc_L_take_2 rfl ?_
  refine aw_iload_n C dc_L_take_3 rfl ?_
  refine aw_iload_n C dc_L_take_4 rfl ?_
  refine kq_Xi (ws := sy_ h cI cL cF I J sh fr en) (n := 2) (P' := ow_ D h cI cL cF I J sh fr en o O) C (fun U hW hz hq => xp_k (sA_le hho) s U hW hz hq hX.1) (sp_blind (A := ca_ h) (xp_k ca_le)) (fun H h => pa_l h) 0 sy_p0 rfl (t_take_1 l hl D h th cI cL cF I J sh fr en ka hka xkb hx) kw_258 kw_255 kw_256 kw_257 kw_1 rfl (by unfold kd_; decide) ⟨rfl, rfl, by decide, by decide⟩ rfl rfl (Nat.le_of_ble_eq_true rfl) ⟨by decide, by decide⟩ dc_L_take_5 (fun q h => Or.inl h) (fun H h => pa_l h) (fun H H1 h hk h1 => sw_post (cI := cI) (cF := cF) ho h hk h1) [⟨0, 17, 20, 13⟩] ⟨0, 17, 24, 15⟩ [] (htb.trans rfl) (fun z hz => by rcases List.mem_singleton.mp hz with rfl; exact Or.inr ⟨by decide, "java/lang/IndexOutOfBoundsException", (C.1.2.2.2.2 _ (List.mem_cons_of_mem _ kw_138)), hX.2.1⟩) (by decide) (by decide) kw_139 (hX.1.2.1 _ (by decide +kernel)) (fun q9 => ?_)
  refine aw_astore C dc_L_take_24 (by decide) rfl ?_
  refine aw_iconst C dc_L_take_26 (v := nI 2) rfl ?_
  exact aw_ret2 (aw_iret C hr dc_L_take_27 (fun t h _ => ⟨(), rfl, h⟩))
set_option maxHeartbeats 4000000 in
set_option maxRecDepth 100000 in
theorem lt_has_0 (l : Launch) (hl : l.stackTraces = false) (D : va_G) (h th : Nat) (cI cL cF : ClassId) (I : Nat → Nat → Int32) (J : Nat → Nat → Int64) (sh : Nat → Nat) (fr : Nat) (en : Int32) (xka : Int32) (hx : xka < 0 ∨ nI 10 ≤ xka) (ykb : Int32) (o : Nat) (O : Nat → Int64) (ho : ¬ ca_ h o) (hho : h ≤ o) : kh_ l my_L_has (Cond.codeWith my_L_has bc_L_has 5 (some .int) [(0, 17, 20, 13), (0, 17, 24, 15)] :: tw_) { frames := 41, cells := 1, slots := 6, locals := 2040 } D (ty_s cI cL cF) (xq_ h th) (sA_ h o) [.ref h, .int xka, .int ykb, .ref o] (ow_ D h cI cL cF I J sh fr en o O) (ow_ D h cI cL cF I J sh fr en o O) (nI 1) := by
  refine aw_metH (A := sA_ h o) (own := "FamilyShelfLaw") (by decide) rfl rfl (Nat.le_of_ble_eq_true rfl) ?_
  intro p9 e s m args below meth c C hr htb hX hP0
  refine aw_lw (lw' := [some (.ref h), some (.int xka), some (.int ykb), some (.ref o), none]) rfl ?_
  refine aw_aload_n C dc_L_has_0 rfl ?_
  refine aw_iconst C dc_L_has_1 (v := nI 0) rfl ?_
  refine aw_aload_n C dc_L_has_2 rfl ?_
  refine aw_iload_n C dc_L_has_3 rfl ?_
  refine aw_iload_n C dc_L_has_4 rfl ?_
  refine kq_Xi (ws := sy_ h cI cL cF I J sh fr en) (n := 2) (P' := ow_ D h cI cL cF I J sh fr en o O) C (fun U hW hz hq => xp_k (sA_le hho) s U hW hz hq hX.1) (sp_blind (A := ca_ h) (xp_k ca_le)) (fun H h => pa_l h) 0 sy_p0 rfl (t_has_0 l hl D h th cI cL cF I J sh fr en xka hx ykb) kw_533 kw_530 kw_531 kw_532 kw_1 rfl (by unfold kd_; decide) ⟨rfl, rfl, by decide, by decide⟩ rfl rfl (Nat.le_of_ble_eq_true rfl) ⟨by decide, by decide⟩ dc_L_has_5 (fun q h => Or.inl h) (fun H h => pa_l h) (fun H H1 h hk h1 => sw_post (cI := cI) (cF := cF) ho h hk h1) [] ⟨0, 17, 20, 13⟩ [⟨0, 17, 24, 15⟩] (htb.trans rfl) (fun z hz => nomatch hz) (by decide) (by decide) kw_138 (hX.1.2.1 _ (by decide +kernel)) (fun q9 => ?_)
  refine aw_astore C dc_L_has_20 (by decide) rfl ?_
  refine aw_iconst C dc_L_has_22 (v := nI 1) rfl ?_
  exact aw_ret2 (aw_iret C hr dc_L_has_23 (fun t h _ => ⟨(), rfl, h⟩))
set_option maxHeartbeats 4000000 in
set_option maxRecDepth 100000 in
theorem lt_has_1 (l : Launch) (hl : l.stackTraces = false) (D : va_G) (h th : Nat) (cI cL cF : ClassId) (I : Nat → Nat → Int32) (J : Nat → Nat → Int64) (sh : Nat → Nat) (fr : Nat) (en : Int32) (ka : Nat) (hka : ka < 10) (xkb : Int32) (hx : xkb < nI 0 ∨ nI 4095 < xkb) (o : Nat) (O : Nat → Int64) (ho : ¬ ca_ h o) (hho : h ≤ o) : kh_ l my_L_has (Cond.codeWith my_L_has bc_L_has 5 (some .int) [(0, 17, 20, 13), (0, 17, 24, 15)] :: tw_) { frames := 41, cells := 1, slots := 6, locals := 2040 } D (ty_s cI cL cF) (xq_ h th) (sA_ h o) [.ref h, .int (nI ka), .int xkb, .ref o] (ow_ D h cI cL cF I J sh fr en o O) (ow_ D h cI cL cF I J sh fr en o O) (nI 2) := by
  refine aw_metH (A := sA_ h o) (own := "FamilyShelfLaw") (by decide) rfl rfl (Nat.le_of_ble_eq_true rfl) ?_
  intro p9 e s m args below meth c C hr htb hX hP0
  refine aw_lw (lw' := [some (.ref h), some (.int (nI ka)), some (.int xkb), some (.ref o), none]) rfl ?_
  refine aw_aload_n C dc_L_has_0 rfl ?_
  refine aw_iconst C dc_L_has_1 (v := nI 0) rfl ?_
  refine aw_aload_n C dc_L_has_2 rfl ?_
  refine aw_iload_n C dc_L_has_3 rfl ?_
  refine aw_iload_n C dc_L_has_4 rfl ?_
  refine kq_Xi (ws := sy_ h cI cL cF I J sh fr en) (n := 2) (P' := ow_ D h cI cL cF I J sh fr en o O) C (fun U hW hz hq => xp_k (sA_le hho) s U hW hz hq hX.1) (sp_blind (A := ca_ h) (xp_k ca_le)) (fun H h => pa_l h) 0 sy_p0 rfl (t_has_1 l hl D h th cI cL cF I J sh fr en ka hka xkb hx) kw_533 kw_530 kw_531 kw_532 kw_1 rfl (by unfold kd_; decide) ⟨rfl, rfl, by decide, by decide⟩ rfl rfl (Nat.le_of_ble_eq_true rfl) ⟨by decide, by decide⟩ dc_L_has_5 (fun q h => Or.inl h) (fun H h => pa_l h) (fun H H1 h hk h1 => sw_post (cI := cI) (cF := cF) ho h hk h1) [⟨0, 17, 20, 13⟩] ⟨0, 17, 24, 15⟩ [] (htb.trans rfl) (fun z hz => by rcases List.mem_singleton.mp hz with rfl; exact Or.inr ⟨by decide, "java/lang/IndexOutOfBoundsException", (C.1.2.2.2.2 _ (List.mem_cons_of_mem _ kw_138)), hX.2.1⟩) (by decide) (by decide) kw_139 (hX.1.2.1 _ (by decide +kernel)) (fun q9 => ?_)
  refine aw_astore C dc_L_has_24 (by decide) rfl ?_
  refine aw_iconst C dc_L_has_26 (v := nI 2) rfl ?_
  exact aw_ret2 (aw_iret C hr dc_L_has_27 (fun t h _ => ⟨(), rfl, h⟩))
set_option maxHeartbeats 4000000 in
set_option maxRecDepth 100000 in
theorem lt_rank_0 (l : Launch) (hl : l.stackTraces = false) (D : va_G) (h th : Nat) (cI cL cF : ClassId) (I : Nat → Nat → Int32) (J : Nat → Nat → Int64) (sh : Nat → Nat) (fr : Nat) (en : Int32) (xka : Int32) (hx : xka < 0 ∨ nI 10 ≤ xka) (ykb : Int32) (o : Nat) (O : Nat → Int64) (ho : ¬ ca_ h o) (hho : h ≤ o) : kh_ l my_L_rank (Cond.codeWith my_L_rank bc_L_rank 5 (some .int) [(0, 10, 13, 13), (0, 10, 17, 15)] :: tw_) { frames := 41, cells := 1, slots := 6, locals := 2040 } D (ty_s cI cL cF) (xq_ h th) (sA_ h o) [.ref h, .int xka, .int ykb, .ref o] (ow_ D h cI cL cF I J sh fr en o O) (ow_ D h cI cL cF I J sh fr en o O) (nI 1) := by
  refine aw_metH (A := sA_ h o) (own := "FamilyShelfLaw") (by decide) rfl rfl (Nat.le_of_ble_eq_true rfl) ?_
  intro p9 e s m args below meth c C hr htb hX hP0
  refine aw_lw (lw' := [some (.ref h), some (.int xka), some (.int ykb), some (.ref o), none]) rfl ?_
  refine aw_aload_n C dc_L_rank_0 rfl ?_
  refine aw_iconst C dc_L_rank_1 (v := nI 0) rfl ?_
  refine aw_aload_n C dc_L_rank_2 rfl ?_
  refine aw_iload_n C dc_L_rank_3 rfl ?_
  refine aw_iload_n C dc_L_rank_4 rfl ?_
  refine kq_Xi (ws := sy_ h cI cL cF I J sh fr en) (n := 2) (P' := ow_ D h cI cL cF I J sh fr en o O) C (fun U hW hz hq => xp_k (sA_le hho) s U hW hz hq hX.1) (sp_blind (A := ca_ h) (xp_k ca_le)) (fun H h => pa_l h) 0 sy_p0 rfl (t_rank_0 l hl D h th cI cL cF I J sh fr en xka hx ykb) kw_554 kw_551 kw_552 kw_553 kw_1 rfl (by unfold kd_; decide) ⟨rfl, rfl, by decide, by decide⟩ rfl rfl (Nat.le_of_ble_eq_true rfl) ⟨by decide, by decide⟩ dc_L_rank_5 (fun q h => Or.inl h) (fun H h => pa_l h) (fun H H1 h hk h1 => sw_post (cI := cI) (cF := cF) ho h hk h1) [] ⟨0, 10, 13, 13⟩ [⟨0, 10, 17, 15⟩] (htb.trans rfl) (fun z hz => nomatch hz) (by decide) (by decide) kw_138 (hX.1.2.1 _ (by decide +kernel)) (fun q9 => ?_)
  refine aw_astore C dc_L_rank_13 (by decide) rfl ?_
  refine aw_iconst C dc_L_rank_15 (v := nI 1) rfl ?_
  exact aw_ret2 (aw_iret C hr dc_L_rank_16 (fun t h _ => ⟨(), rfl, h⟩))
set_option maxHeartbeats 4000000 in
set_option maxRecDepth 100000 in
theorem lt_rank_1 (l : Launch) (hl : l.stackTraces = false) (D : va_G) (h th : Nat) (cI cL cF : ClassId) (I : Nat → Nat → Int32) (J : Nat → Nat → Int64) (sh : Nat → Nat) (fr : Nat) (en : Int32) (ka : Nat) (hka : ka < 10) (xkb : Int32) (hx : xkb < nI 0 ∨ nI 4095 < xkb) (o : Nat) (O : Nat → Int64) (ho : ¬ ca_ h o) (hho : h ≤ o) : kh_ l my_L_rank (Cond.codeWith my_L_rank bc_L_rank 5 (some .int) [(0, 10, 13, 13), (0, 10, 17, 15)] :: tw_) { frames := 41, cells := 1, slots := 6, locals := 2040 } D (ty_s cI cL cF) (xq_ h th) (sA_ h o) [.ref h, .int (nI ka), .int xkb, .ref o] (ow_ D h cI cL cF I J sh fr en o O) (ow_ D h cI cL cF I J sh fr en o O) (nI 2) := by
  refine aw_metH (A := sA_ h o) (own := "FamilyShelfLaw") (by decide) rfl rfl (Nat.le_of_ble_eq_true rfl) ?_
  intro p9 e s m args below meth c C hr htb hX hP0
  refine aw_lw (lw' := [some (.ref h), some (.int (nI ka)), some (.int xkb), some (.ref o), none]) rfl ?_
  refine aw_aload_n C dc_L_rank_0 rfl ?_
  refine aw_iconst C dc_L_rank_1 (v := nI 0) rfl ?_
  refine aw_aload_n C dc_L_rank_2 rfl ?_
  refine aw_iload_n C dc_L_rank_3 rfl ?_
  refine aw_iload_n C dc_L_rank_4 rfl ?_
  refine kq_Xi (ws := sy_ h cI cL cF I J sh fr en) (n := 2) (P' := ow_ D h cI cL cF I J sh fr en o O) C (fun U hW hz hq => xp_k (sA_le hho) s U hW hz hq hX.1) (sp_blind (A := ca_ h) (xp_k ca_le)) (fun H h => pa_l h) 0 sy_p0 rfl (t_rank_1 l hl D h th cI cL cF I J sh fr en ka hka xkb hx) kw_554 kw_551 kw_552 kw_553 kw_1 rfl (by unfold kd_; decide) ⟨rfl, rfl, by decide, by decide⟩ rfl rfl (Nat.le_of_ble_eq_true rfl) ⟨by decide, by decide⟩ dc_L_rank_5 (fun q h => Or.inl h) (fun H h => pa_l h) (fun H H1 h hk h1 => sw_post (cI := cI) (cF := cF) ho h hk h1) [⟨0, 10, 13, 13⟩] ⟨0, 10, 17, 15⟩ [] (htb.trans rfl) (fun z hz => by rcases List.mem_singleton.mp hz with rfl; exact Or.inr ⟨by decide, "java/lang/IndexOutOfBoundsException", (C.1.2.2.2.2 _ (List.mem_cons_of_mem _ kw_138)), hX.2.1⟩) (by decide) (by decide) kw_139 (hX.1.2.1 _ (by decide +kernel)) (fun q9 => ?_)
  refine aw_astore C dc_L_rank_17 (by decide) rfl ?_
  refine aw_iconst C dc_L_rank_19 (v := nI 2) rfl ?_
  exact aw_ret2 (aw_iret C hr dc_L_rank_20 (fun t h _ => ⟨(), rfl, h⟩))
set_option maxHeartbeats 4000000 in
set_option maxRecDepth 100000 in
theorem lt_clear_0 (l : Launch) (hl : l.stackTraces = false) (D : va_G) (h th : Nat) (cI cL cF : ClassId) (I : Nat → Nat → Int32) (J : Nat → Nat → Int64) (sh : Nat → Nat) (fr : Nat) (en : Int32) (xka : Int32) (hx : xka < 0 ∨ nI 10 ≤ xka) (o : Nat) (O : Nat → Int64) (ho : ¬ ca_ h o) (hho : h ≤ o) : kh_ l my_L_clear (Cond.codeWith my_L_clear bc_L_clear 4 (some .int) [(0, 9, 12, 13)] :: tw_) { frames := 41, cells := 1, slots := 6, locals := 2040 } D (ty_s cI cL cF) (xq_ h th) (sA_ h o) [.ref h, .int xka, .ref o] (ow_ D h cI cL cF I J sh fr en o O) (ow_ D h cI cL cF I J sh fr en o O) (nI 1) := by
  refine aw_metH (A := sA_ h o) (own := "FamilyShelfLaw") (by decide) rfl rfl (Nat.le_of_ble_eq_true rfl) ?_
  intro p9 e s m args below meth c C hr htb hX hP0
  refine aw_lw (lw' := [some (.ref h), some (.int xka), some (.ref o), none]) rfl ?_
  refine aw_aload_n C dc_L_clear_0 rfl ?_
  refine aw_iconst C dc_L_clear_1 (v := nI 0) rfl ?_
  refine aw_aload_n C dc_L_clear_2 rfl ?_
  refine aw_iload_n C dc_L_clear_3 rfl ?_
  refine kq_Xi (ws := sy_ h cI cL cF I J sh fr en) (n := 1) (P' := ow_ D h cI cL cF I J sh fr en o O) C (fun U hW hz hq => xp_k (sA_le hho) s U hW hz hq hX.1) (sp_blind (A := ca_ h) (xp_k ca_le)) (fun H h => pa_l h) 0 sy_p0 rfl (t_clear_0 l hl D h th cI cL cF I J sh fr en xka hx) kw_270 kw_267 kw_268 kw_269 kw_1 rfl (by unfold kd_; decide) ⟨rfl, rfl, by decide, by decide⟩ rfl rfl (Nat.le_of_ble_eq_true rfl) ⟨by decide, by decide⟩ dc_L_clear_4 (fun q h => Or.inl h) (fun H h => pa_l h) (fun H H1 h hk h1 => sw_post (cI := cI) (cF := cF) ho h hk h1) [] ⟨0, 9, 12, 13⟩ [] (htb.trans rfl) (fun z hz => nomatch hz) (by decide) (by decide) kw_138 (hX.1.2.1 _ (by decide +kernel)) (fun q9 => ?_)
  refine aw_astore_n C dc_L_clear_12 (by decide) rfl ?_
  refine aw_iconst C dc_L_clear_13 (v := nI 1) rfl ?_
  exact aw_ret2 (aw_iret C hr dc_L_clear_14 (fun t h _ => ⟨(), rfl, h⟩))
set_option maxHeartbeats 4000000 in
set_option maxRecDepth 100000 in
theorem lt_matchings_0 (l : Launch) (hl : l.stackTraces = false) (D : va_G) (h th : Nat) (cI cL cF : ClassId) (I : Nat → Nat → Int32) (J : Nat → Nat → Int64) (sh : Nat → Nat) (fr : Nat) (en : Int32) (xka : Int32) (hx : xka < 0 ∨ nI 10 ≤ xka) (o : Nat) (O : Nat → Int64) (ho : ¬ ca_ h o) (hho : h ≤ o) : kh_ l my_L_matchings (Cond.codeWith my_L_matchings bc_L_matchings 4 (some .int) [(0, 9, 12, 13)] :: tw_) { frames := 41, cells := 1, slots := 6, locals := 2040 } D (ty_s cI cL cF) (xq_ h th) (sA_ h o) [.ref h, .int xka, .ref o] (ow_ D h cI cL cF I J sh fr en o O) (ow_ D h cI cL cF I J sh fr en o O) (nI 1) := by
  refine aw_metH (A := sA_ h o) (own := "FamilyShelfLaw") (by decide) rfl rfl (Nat.le_of_ble_eq_true rfl) ?_
  intro p9 e s m args below meth c C hr htb hX hP0
  refine aw_lw (lw' := [some (.ref h), some (.int xka), some (.ref o), none]) rfl ?_
  refine aw_aload_n C dc_L_matchings_0 rfl ?_
  refine aw_iconst C dc_L_matchings_1 (v := nI 0) rfl ?_
  refine aw_aload_n C dc_L_matchings_2 rfl ?_
  refine aw_iload_n C dc_L_matchings_3 rfl ?_
  refine kq_Xi (ws := sy_ h cI cL cF I J sh fr en) (n := 1) (P' := ow_ D h cI cL cF I J sh fr en o O) C (fun U hW hz hq => xp_k (sA_le hho) s U hW hz hq hX.1) (sp_blind (A := ca_ h) (xp_k ca_le)) (fun H h => pa_l h) 0 sy_p0 rfl (t_matchings_0 l hl D h th cI cL cF I J sh fr en xka hx) kw_501 kw_498 kw_499 kw_500 kw_1 rfl (by unfold kd_; decide) ⟨rfl, rfl, by decide, by decide⟩ rfl rfl (Nat.le_of_ble_eq_true rfl) ⟨by decide, by decide⟩ dc_L_matchings_4 (fun q h => Or.inl h) (fun H h => pa_l h) (fun H H1 h hk h1 => sw_post (cI := cI) (cF := cF) ho h hk h1) [] ⟨0, 9, 12, 13⟩ [] (htb.trans rfl) (fun z hz => nomatch hz) (by decide) (by decide) kw_138 (hX.1.2.1 _ (by decide +kernel)) (fun q9 => ?_)
  refine aw_astore_n C dc_L_matchings_12 (by decide) rfl ?_
  refine aw_iconst C dc_L_matchings_13 (v := nI 1) rfl ?_
  exact aw_ret2 (aw_iret C hr dc_L_matchings_14 (fun t h _ => ⟨(), rfl, h⟩))
set_option maxHeartbeats 4000000 in
set_option maxRecDepth 100000 in
theorem lt_count_0 (l : Launch) (hl : l.stackTraces = false) (D : va_G) (h th : Nat) (cI cL cF : ClassId) (I : Nat → Nat → Int32) (J : Nat → Nat → Int64) (sh : Nat → Nat) (fr : Nat) (en : Int32) (xka : Int32) (hx : xka < 0 ∨ nI 10 ≤ xka) (o : Nat) (O : Nat → Int64) (ho : ¬ ca_ h o) (hho : h ≤ o) : kh_ l my_L_count (Cond.codeWith my_L_count bc_L_count 4 (some .int) [(0, 9, 12, 13)] :: tw_) { frames := 41, cells := 1, slots := 6, locals := 2040 } D (ty_s cI cL cF) (xq_ h th) (sA_ h o) [.ref h, .int xka, .ref o] (ow_ D h cI cL cF I J sh fr en o O) (ow_ D h cI cL cF I J sh fr en o O) (nI 1) := by
  refine aw_metH (A := sA_ h o) (own := "FamilyShelfLaw") (by decide) rfl rfl (Nat.le_of_ble_eq_true rfl) ?_
  intro p9 e s m args below meth c C hr htb hX hP0
  refine aw_lw (lw' := [some (.ref h), some (.int xka), some (.ref o), none]) rfl ?_
  refine aw_aload_n C dc_L_count_0 rfl ?_
  refine aw_iconst C dc_L_count_1 (v := nI 0) rfl ?_
  refine aw_aload_n C dc_L_count_2 rfl ?_
  refine aw_iload_n C dc_L_count_3 rfl ?_
  refine kq_Xi (ws := sy_ h cI cL cF I J sh fr en) (n := 1) (P' := ow_ D h cI cL cF I J sh fr en o O) C (fun U hW hz hq => xp_k (sA_le hho) s U hW hz hq hX.1) (sp_blind (A := ca_ h) (xp_k ca_le)) (fun H h => pa_l h) 0 sy_p0 rfl (t_count_0 l hl D h th cI cL cF I J sh fr en xka hx) kw_526 kw_523 kw_524 kw_525 kw_1 rfl (by unfold kd_; decide) ⟨rfl, rfl, by decide, by decide⟩ rfl rfl (Nat.le_of_ble_eq_true rfl) ⟨by decide, by decide⟩ dc_L_count_4 (fun q h => Or.inl h) (fun H h => pa_l h) (fun H H1 h hk h1 => sw_post (cI := cI) (cF := cF) ho h hk h1) [] ⟨0, 9, 12, 13⟩ [] (htb.trans rfl) (fun z hz => nomatch hz) (by decide) (by decide) kw_138 (hX.1.2.1 _ (by decide +kernel)) (fun q9 => ?_)
  refine aw_astore_n C dc_L_count_12 (by decide) rfl ?_
  refine aw_iconst C dc_L_count_13 (v := nI 1) rfl ?_
  exact aw_ret2 (aw_iret C hr dc_L_count_14 (fun t h _ => ⟨(), rfl, h⟩))
set_option maxHeartbeats 4000000 in
set_option maxRecDepth 100000 in
theorem lt_size_0 (l : Launch) (hl : l.stackTraces = false) (D : va_G) (h th : Nat) (cI cL cF : ClassId) (I : Nat → Nat → Int32) (J : Nat → Nat → Int64) (sh : Nat → Nat) (fr : Nat) (en : Int32) (xka : Int32) (hx : xka < 0 ∨ nI 10 ≤ xka) (o : Nat) (O : Nat → Int64) (ho : ¬ ca_ h o) (hho : h ≤ o) : kh_ l my_L_size (Cond.codeWith my_L_size bc_L_size 4 (some .int) [(0, 9, 12, 13)] :: tw_) { frames := 41, cells := 1, slots := 6, locals := 2040 } D (ty_s cI cL cF) (xq_ h th) (sA_ h o) [.ref h, .int xka, .ref o] (ow_ D h cI cL cF I J sh fr en o O) (ow_ D h cI cL cF I J sh fr en o O) (nI 1) := by
  refine aw_metH (A := sA_ h o) (own := "FamilyShelfLaw") (by decide) rfl rfl (Nat.le_of_ble_eq_true rfl) ?_
  intro p9 e s m args below meth c C hr htb hX hP0
  refine aw_lw (lw' := [some (.ref h), some (.int xka), some (.ref o), none]) rfl ?_
  refine aw_aload_n C dc_L_size_0 rfl ?_
  refine aw_iconst C dc_L_size_1 (v := nI 0) rfl ?_
  refine aw_aload_n C dc_L_size_2 rfl ?_
  refine aw_iload_n C dc_L_size_3 rfl ?_
  refine kq_Xi (ws := sy_ h cI cL cF I J sh fr en) (n := 1) (P' := ow_ D h cI cL cF I J sh fr en o O) C (fun U hW hz hq => xp_k (sA_le hho) s U hW hz hq hX.1) (sp_blind (A := ca_ h) (xp_k ca_le)) (fun H h => pa_l h) 0 sy_p0 rfl (t_size_0 l hl D h th cI cL cF I J sh fr en xka hx) kw_602 kw_599 kw_600 kw_601 kw_1 rfl (by unfold kd_; decide) ⟨rfl, rfl, by decide, by decide⟩ rfl rfl (Nat.le_of_ble_eq_true rfl) ⟨by decide, by decide⟩ dc_L_size_4 (fun q h => Or.inl h) (fun H h => pa_l h) (fun H H1 h hk h1 => sw_post (cI := cI) (cF := cF) ho h hk h1) [] ⟨0, 9, 12, 13⟩ [] (htb.trans rfl) (fun z hz => nomatch hz) (by decide) (by decide) kw_138 (hX.1.2.1 _ (by decide +kernel)) (fun q9 => ?_)
  refine aw_astore_n C dc_L_size_12 (by decide) rfl ?_
  refine aw_iconst C dc_L_size_13 (v := nI 1) rfl ?_
  exact aw_ret2 (aw_iret C hr dc_L_size_14 (fun t h _ => ⟨(), rfl, h⟩))
set_option maxHeartbeats 4000000 in
set_option maxRecDepth 100000 in
theorem lt_parts_0 (l : Launch) (hl : l.stackTraces = false) (D : va_G) (h th : Nat) (cI cL cF : ClassId) (I : Nat → Nat → Int32) (J : Nat → Nat → Int64) (sh : Nat → Nat) (fr : Nat) (en : Int32) (xka : Int32) (hx : xka < 0 ∨ nI 10 ≤ xka) (o : Nat) (O : Nat → Int64) (ho : ¬ ca_ h o) (hho : h ≤ o) : kh_ l my_L_parts (Cond.codeWith my_L_parts bc_L_parts 4 (some .int) [(0, 9, 12, 13)] :: tw_) { frames := 41, cells := 1, slots := 6, locals := 2040 } D (ty_s cI cL cF) (xq_ h th) (sA_ h o) [.ref h, .int xka, .ref o] (ow_ D h cI cL cF I J sh fr en o O) (ow_ D h cI cL cF I J sh fr en o O) (nI 1) := by
  refine aw_metH (A := sA_ h o) (own := "FamilyShelfLaw") (by decide) rfl rfl (Nat.le_of_ble_eq_true rfl) ?_
  intro p9 e s m args below meth c C hr htb hX hP0
  refine aw_lw (lw' := [some (.ref h), some (.int xka), some (.ref o), none]) rfl ?_
  refine aw_aload_n C dc_L_parts_0 rfl ?_
  refine aw_iconst C dc_L_parts_1 (v := nI 0) rfl ?_
  refine aw_aload_n C dc_L_parts_2 rfl ?_
  refine aw_iload_n C dc_L_parts_3 rfl ?_
  refine kq_Xi (ws := sy_ h cI cL cF I J sh fr en) (n := 1) (P' := ow_ D h cI cL cF I J sh fr en o O) C (fun U hW hz hq => xp_k (sA_le hho) s U hW hz hq hX.1) (sp_blind (A := ca_ h) (xp_k ca_le)) (fun H h => pa_l h) 0 sy_p0 rfl (t_parts_0 l hl D h th cI cL cF I J sh fr en xka hx) kw_625 kw_622 kw_623 kw_624 kw_1 rfl (by unfold kd_; decide) ⟨rfl, rfl, by decide, by decide⟩ rfl rfl (Nat.le_of_ble_eq_true rfl) ⟨by decide, by decide⟩ dc_L_parts_4 (fun q h => Or.inl h) (fun H h => pa_l h) (fun H H1 h hk h1 => sw_post (cI := cI) (cF := cF) ho h hk h1) [] ⟨0, 9, 12, 13⟩ [] (htb.trans rfl) (fun z hz => nomatch hz) (by decide) (by decide) kw_138 (hX.1.2.1 _ (by decide +kernel)) (fun q9 => ?_)
  refine aw_astore_n C dc_L_parts_12 (by decide) rfl ?_
  refine aw_iconst C dc_L_parts_13 (v := nI 1) rfl ?_
  exact aw_ret2 (aw_iret C hr dc_L_parts_14 (fun t h _ => ⟨(), rfl, h⟩))
set_option maxHeartbeats 4000000 in
set_option maxRecDepth 100000 in
theorem lt_nth_0 (l : Launch) (hl : l.stackTraces = false) (D : va_G) (h th : Nat) (cI cL cF : ClassId) (I : Nat → Nat → Int32) (J : Nat → Nat → Int64) (sh : Nat → Nat) (fr : Nat) (en : Int32) (xka : Int32) (hx : xka < 0 ∨ nI 10 ≤ xka) (ykb : Int32) (o : Nat) (O : Nat → Int64) (ho : ¬ ca_ h o) (hho : h ≤ o) : kh_ l my_L_nth (Cond.codeWith my_L_nth bc_L_nth 5 (some .int) [(0, 10, 13, 13)] :: tw_) { frames := 41, cells := 1, slots := 6, locals := 2040 } D (ty_s cI cL cF) (xq_ h th) (sA_ h o) [.ref h, .int xka, .int ykb, .ref o] (ow_ D h cI cL cF I J sh fr en o O) (ow_ D h cI cL cF I J sh fr en o O) (nI 1) := by
  refine aw_metH (A := sA_ h o) (own := "FamilyShelfLaw") (by decide) rfl rfl (Nat.le_of_ble_eq_true rfl) ?_
  intro p9 e s m args below meth c C hr htb hX hP0
  refine aw_lw (lw' := [some (.ref h), some (.int xka), some (.int ykb), some (.ref o), none]) rfl ?_
  refine aw_aload_n C dc_L_nth_0 rfl ?_
  refine aw_iconst C dc_L_nth_1 (v := nI 0) rfl ?_
  refine aw_aload_n C dc_L_nth_2 rfl ?_
  refine aw_iload_n C dc_L_nth_3 rfl ?_
  refine aw_iload_n C dc_L_nth_4 rfl ?_
  refine kq_Xi (ws := sy_ h cI cL cF I J sh fr en) (n := 2) (P' := ow_ D h cI cL cF I J sh fr en o O) C (fun U hW hz hq => xp_k (sA_le hho) s U hW hz hq hX.1) (sp_blind (A := ca_ h) (xp_k ca_le)) (fun H h => pa_l h) 0 sy_p0 rfl (t_nth_0 l hl D h th cI cL cF I J sh fr en xka hx ykb) kw_540 kw_537 kw_538 kw_539 kw_1 rfl (by unfold kd_; decide) ⟨rfl, rfl, by decide, by decide⟩ rfl rfl (Nat.le_of_ble_eq_true rfl) ⟨by decide, by decide⟩ dc_L_nth_5 (fun q h => Or.inl h) (fun H h => pa_l h) (fun H H1 h hk h1 => sw_post (cI := cI) (cF := cF) ho h hk h1) [] ⟨0, 10, 13, 13⟩ [] (htb.trans rfl) (fun z hz => nomatch hz) (by decide) (by decide) kw_138 (hX.1.2.1 _ (by decide +kernel)) (fun q9 => ?_)
  refine aw_astore C dc_L_nth_13 (by decide) rfl ?_
  refine aw_iconst C dc_L_nth_15 (v := nI 1) rfl ?_
  exact aw_ret2 (aw_iret C hr dc_L_nth_16 (fun t h _ => ⟨(), rfl, h⟩))
set_option maxHeartbeats 4000000 in
set_option maxRecDepth 100000 in
theorem lt_heaviest_0 (l : Launch) (hl : l.stackTraces = false) (D : va_G) (h th : Nat) (cI cL cF : ClassId) (I : Nat → Nat → Int32) (J : Nat → Nat → Int64) (sh : Nat → Nat) (fr : Nat) (en : Int32) (xka : Int32) (hx : xka < 0 ∨ nI 10 ≤ xka) (o : Nat) (O : Nat → Int64) (ho : ¬ ca_ h o) (hho : h ≤ o) : kh_ l my_L_heaviest (Cond.codeWith my_L_heaviest bc_L_heaviest 4 (some .int) [(0, 9, 12, 13), (0, 9, 15, 74)] :: tw_) { frames := 41, cells := 1, slots := 6, locals := 2040 } D (ty_s cI cL cF) (xq_ h th) (sA_ h o) [.ref h, .int xka, .ref o] (ow_ D h cI cL cF I J sh fr en o O) (ow_ D h cI cL cF I J sh fr en o O) (nI 1) := by
  refine aw_metH (A := sA_ h o) (own := "FamilyShelfLaw") (by decide) rfl rfl (Nat.le_of_ble_eq_true rfl) ?_
  intro p9 e s m args below meth c C hr htb hX hP0
  refine aw_lw (lw' := [some (.ref h), some (.int xka), some (.ref o), none]) rfl ?_
  refine aw_aload_n C dc_L_heaviest_0 rfl ?_
  refine aw_iconst C dc_L_heaviest_1 (v := nI 0) rfl ?_
  refine aw_aload_n C dc_L_heaviest_2 rfl ?_
  refine aw_iload_n C dc_L_heaviest_3 rfl ?_
  refine kq_Xi (ws := sy_ h cI cL cF I J sh fr en) (n := 1) (P' := ow_ D h cI cL cF I J sh fr en o O) C (fun U hW hz hq => xp_k (sA_le hho) s U hW hz hq hX.1) (sp_blind (A := ca_ h) (xp_k ca_le)) (fun H h => pa_l h) 0 sy_p0 rfl (t_heaviest_0 l hl D h th cI cL cF I J sh fr en xka hx) kw_566 kw_563 kw_564 kw_565 kw_1 rfl (by unfold kd_; decide) ⟨rfl, rfl, by decide, by decide⟩ rfl rfl (Nat.le_of_ble_eq_true rfl) ⟨by decide, by decide⟩ dc_L_heaviest_4 (fun q h => Or.inl h) (fun H h => pa_l h) (fun H H1 h hk h1 => sw_post (cI := cI) (cF := cF) ho h hk h1) [] ⟨0, 9, 12, 13⟩ [⟨0, 9, 15, 74⟩] (htb.trans rfl) (fun z hz => nomatch hz) (by decide) (by decide) kw_138 (hX.1.2.1 _ (by decide +kernel)) (fun q9 => ?_)
  refine aw_astore_n C dc_L_heaviest_12 (by decide) rfl ?_
  refine aw_iconst C dc_L_heaviest_13 (v := nI 1) rfl ?_
  exact aw_ret2 (aw_iret C hr dc_L_heaviest_14 (fun t h _ => ⟨(), rfl, h⟩))
set_option maxHeartbeats 4000000 in
set_option maxRecDepth 100000 in
theorem lt_combine_0 (l : Launch) (hl : l.stackTraces = false) (D : va_G) (h th : Nat) (cI cL cF : ClassId) (I : Nat → Nat → Int32) (J : Nat → Nat → Int64) (sh : Nat → Nat) (fr : Nat) (en : Int32) (xka : Int32) (hx : xka < 0 ∨ nI 10 ≤ xka) (ykb : Int32) (ykc : Int32) (ykd : Int32) (o : Nat) (O : Nat → Int64) (ho : ¬ ca_ h o) (hho : h ≤ o) : kh_ l my_L_combine (Cond.codeWith my_L_combine bc_L_combine 7 (some .int) [(0, 14, 17, 13), (0, 14, 21, 15), (0, 14, 25, 28)] :: tw_) { frames := 41, cells := 1, slots := 6, locals := 2040 } D (ty_s cI cL cF) (xq_ h th) (sA_ h o) [.ref h, .int xka, .int ykb, .int ykc, .int ykd, .ref o] (ow_ D h cI cL cF I J sh fr en o O) (ow_ D h cI cL cF I J sh fr en o O) (nI 1) := by
  refine aw_metH (A := sA_ h o) (own := "FamilyShelfLaw") (by decide) rfl rfl (Nat.le_of_ble_eq_true rfl) ?_
  intro p9 e s m args below meth c C hr htb hX hP0
  refine aw_lw (lw' := [some (.ref h), some (.int xka), some (.int ykb), some (.int ykc), some (.int ykd), some (.ref o), none]) rfl ?_
  refine aw_aload C dc_L_combine_0 rfl ?_
  refine aw_iconst C dc_L_combine_2 (v := nI 0) rfl ?_
  refine aw_aload_n C dc_L_combine_3 rfl ?_
  refine aw_iload_n C dc_L_combine_4 rfl ?_
  refine aw_iload_n C dc_L_combine_5 rfl ?_
  refine aw_iload_n C dc_L_combine_6 rfl ?_
  refine aw_iload C dc_L_combine_7 rfl ?_
  refine kq_Xi (ws := sy_ h cI cL cF I J sh fr en) (n := 4) (P' := ow_ D h cI cL cF I J sh fr en o O) C (fun U hW hz hq => xp_k (sA_le hho) s U hW hz hq hX.1) (sp_blind (A := ca_ h) (xp_k ca_le)) (fun H h => pa_l h) 0 sy_p0 rfl (t_combine_0 l hl D h th cI cL cF I J sh fr en xka hx ykb ykc ykd) kw_299 kw_296 kw_297 kw_298 kw_1 rfl (by unfold kd_; decide) ⟨rfl, rfl, by decide, by decide⟩ rfl rfl (Nat.le_of_ble_eq_true rfl) ⟨by decide, by decide⟩ dc_L_combine_9 (fun q h => Or.inl h) (fun H h => pa_l h) (fun H H1 h hk h1 => sw_post (cI := cI) (cF := cF) ho h hk h1) [] ⟨0, 14, 17, 13⟩ [⟨0, 14, 21, 15⟩, ⟨0, 14, 25, 28⟩] (htb.trans rfl) (fun z hz => nomatch hz) (by decide) (by decide) kw_138 (hX.1.2.1 _ (by decide +kernel)) (fun q9 => ?_)
  refine aw_astore C dc_L_combine_17 (by decide) rfl ?_
  refine aw_iconst C dc_L_combine_19 (v := nI 1) rfl ?_
  exact aw_ret2 (aw_iret C hr dc_L_combine_20 (fun t h _ => ⟨(), rfl, h⟩))
set_option maxHeartbeats 4000000 in
set_option maxRecDepth 100000 in
theorem lt_combine_1 (l : Launch) (hl : l.stackTraces = false) (D : va_G) (h th : Nat) (cI cL cF : ClassId) (I : Nat → Nat → Int32) (J : Nat → Nat → Int64) (sh : Nat → Nat) (fr : Nat) (en : Int32) (ka : Nat) (hka : ka < 10) (xkc : Int32) (hx : xkc < 0 ∨ nI 10 ≤ xkc) (ykb : Int32) (ykd : Int32) (o : Nat) (O : Nat → Int64) (ho : ¬ ca_ h o) (hho : h ≤ o) : kh_ l my_L_combine (Cond.codeWith my_L_combine bc_L_combine 7 (some .int) [(0, 14, 17, 13), (0, 14, 21, 15), (0, 14, 25, 28)] :: tw_) { frames := 41, cells := 1, slots := 6, locals := 2040 } D (ty_s cI cL cF) (xq_ h th) (sA_ h o) [.ref h, .int (nI ka), .int ykb, .int xkc, .int ykd, .ref o] (ow_ D h cI cL cF I J sh fr en o O) (ow_ D h cI cL cF I J sh fr en o O) (nI 1) := by
  refine aw_metH (A := sA_ h o) (own := "FamilyShelfLaw") (by decide) rfl rfl (Nat.le_of_ble_eq_true rfl) ?_
  intro p9 e s m args below meth c C hr htb hX hP0
  refine aw_lw (lw' := [some (.ref h), some (.int (nI ka)), some (.int ykb), some (.int xkc), some (.int ykd), some (.ref o), none]) rfl ?_
  refine aw_aload C dc_L_combine_0 rfl ?_
  refine aw_iconst C dc_L_combine_2 (v := nI 0) rfl ?_
  refine aw_aload_n C dc_L_combine_3 rfl ?_
  refine aw_iload_n C dc_L_combine_4 rfl ?_
  refine aw_iload_n C dc_L_combine_5 rfl ?_
  refine aw_iload_n C dc_L_combine_6 rfl ?_
  refine aw_iload C dc_L_combine_7 rfl ?_
  refine kq_Xi (ws := sy_ h cI cL cF I J sh fr en) (n := 4) (P' := ow_ D h cI cL cF I J sh fr en o O) C (fun U hW hz hq => xp_k (sA_le hho) s U hW hz hq hX.1) (sp_blind (A := ca_ h) (xp_k ca_le)) (fun H h => pa_l h) 0 sy_p0 rfl (t_combine_1 l hl D h th cI cL cF I J sh fr en ka hka xkc hx ykb ykd) kw_299 kw_296 kw_297 kw_298 kw_1 rfl (by unfold kd_; decide) ⟨rfl, rfl, by decide, by decide⟩ rfl rfl (Nat.le_of_ble_eq_true rfl) ⟨by decide, by decide⟩ dc_L_combine_9 (fun q h => Or.inl h) (fun H h => pa_l h) (fun H H1 h hk h1 => sw_post (cI := cI) (cF := cF) ho h hk h1) [] ⟨0, 14, 17, 13⟩ [⟨0, 14, 21, 15⟩, ⟨0, 14, 25, 28⟩] (htb.trans rfl) (fun z hz => nomatch hz) (by decide) (by decide) kw_138 (hX.1.2.1 _ (by decide +kernel)) (fun q9 => ?_)
  refine aw_astore C dc_L_combine_17 (by decide) rfl ?_
  refine aw_iconst C dc_L_combine_19 (v := nI 1) rfl ?_
  exact aw_ret2 (aw_iret C hr dc_L_combine_20 (fun t h _ => ⟨(), rfl, h⟩))
set_option maxHeartbeats 4000000 in
set_option maxRecDepth 100000 in
theorem lt_combine_2 (l : Launch) (hl : l.stackTraces = false) (D : va_G) (h th : Nat) (cI cL cF : ClassId) (I : Nat → Nat → Int32) (J : Nat → Nat → Int64) (sh : Nat → Nat) (fr : Nat) (en : Int32) (ka : Nat) (hka : ka < 10) (kc : Nat) (hkc : kc < 10) (xkd : Int32) (hx : xkd < 0 ∨ nI 10 ≤ xkd) (ykb : Int32) (o : Nat) (O : Nat → Int64) (ho : ¬ ca_ h o) (hho : h ≤ o) : kh_ l my_L_combine (Cond.codeWith my_L_combine bc_L_combine 7 (some .int) [(0, 14, 17, 13), (0, 14, 21, 15), (0, 14, 25, 28)] :: tw_) { frames := 41, cells := 1, slots := 6, locals := 2040 } D (ty_s cI cL cF) (xq_ h th) (sA_ h o) [.ref h, .int (nI ka), .int ykb, .int (nI kc), .int xkd, .ref o] (ow_ D h cI cL cF I J sh fr en o O) (ow_ D h cI cL cF I J sh fr en o O) (nI 1) := by
  refine aw_metH (A := sA_ h o) (own := "FamilyShelfLaw") (by decide) rfl rfl (Nat.le_of_ble_eq_true rfl) ?_
  intro p9 e s m args below meth c C hr htb hX hP0
  refine aw_lw (lw' := [some (.ref h), some (.int (nI ka)), some (.int ykb), some (.int (nI kc)), some (.int xkd), some (.ref o), none]) rfl ?_
  refine aw_aload C dc_L_combine_0 rfl ?_
  refine aw_iconst C dc_L_combine_2 (v := nI 0) rfl ?_
  refine aw_aload_n C dc_L_combine_3 rfl ?_
  refine aw_iload_n C dc_L_combine_4 rfl ?_
  refine aw_iload_n C dc_L_combine_5 rfl ?_
  refine aw_iload_n C dc_L_combine_6 rfl ?_
  refine aw_iload C dc_L_combine_7 rfl ?_
  refine kq_Xi (ws := sy_ h cI cL cF I J sh fr en) (n := 4) (P' := ow_ D h cI cL cF I J sh fr en o O) C (fun U hW hz hq => xp_k (sA_le hho) s U hW hz hq hX.1) (sp_blind (A := ca_ h) (xp_k ca_le)) (fun H h => pa_l h) 0 sy_p0 rfl (t_combine_2 l hl D h th cI cL cF I J sh fr en ka hka kc hkc xkd hx ykb) kw_299 kw_296 kw_297 kw_298 kw_1 rfl (by unfold kd_; decide) ⟨rfl, rfl, by decide, by decide⟩ rfl rfl (Nat.le_of_ble_eq_true rfl) ⟨by decide, by decide⟩ dc_L_combine_9 (fun q h => Or.inl h) (fun H h => pa_l h) (fun H H1 h hk h1 => sw_post (cI := cI) (cF := cF) ho h hk h1) [] ⟨0, 14, 17, 13⟩ [⟨0, 14, 21, 15⟩, ⟨0, 14, 25, 28⟩] (htb.trans rfl) (fun z hz => nomatch hz) (by decide) (by decide) kw_138 (hX.1.2.1 _ (by decide +kernel)) (fun q9 => ?_)
  refine aw_astore C dc_L_combine_17 (by decide) rfl ?_
  refine aw_iconst C dc_L_combine_19 (v := nI 1) rfl ?_
  exact aw_ret2 (aw_iret C hr dc_L_combine_20 (fun t h _ => ⟨(), rfl, h⟩))
set_option maxHeartbeats 4000000 in
set_option maxRecDepth 100000 in
theorem lt_combine_3 (l : Launch) (hl : l.stackTraces = false) (D : va_G) (h th : Nat) (cI cL cF : ClassId) (I : Nat → Nat → Int32) (J : Nat → Nat → Int64) (sh : Nat → Nat) (fr : Nat) (en : Int32) (ka : Nat) (hka : ka < 10) (kc : Nat) (hkc : kc < 10) (kd : Nat) (hkd : kd < 10) (xkb : Int32) (hx : xkb < (nI 0) ∨ (nI 8) < xkb) (o : Nat) (O : Nat → Int64) (ho : ¬ ca_ h o) (hho : h ≤ o) : kh_ l my_L_combine (Cond.codeWith my_L_combine bc_L_combine 7 (some .int) [(0, 14, 17, 13), (0, 14, 21, 15), (0, 14, 25, 28)] :: tw_) { frames := 41, cells := 1, slots := 6, locals := 2040 } D (ty_s cI cL cF) (xq_ h th) (sA_ h o) [.ref h, .int (nI ka), .int xkb, .int (nI kc), .int (nI kd), .ref o] (ow_ D h cI cL cF I J sh fr en o O) (ow_ D h cI cL cF I J sh fr en o O) (nI 2) := by
  refine aw_metH (A := sA_ h o) (own := "FamilyShelfLaw") (by decide) rfl rfl (Nat.le_of_ble_eq_true rfl) ?_
  intro p9 e s m args below meth c C hr htb hX hP0
  refine aw_lw (lw' := [some (.ref h), some (.int (nI ka)), some (.int xkb), some (.int (nI kc)), some (.int (nI kd)), some (.ref o), none]) rfl ?_
  refine aw_aload C dc_L_combine_0 rfl ?_
  refine aw_iconst C dc_L_combine_2 (v := nI 0) rfl ?_
  refine aw_aload_n C dc_L_combine_3 rfl ?_
  refine aw_iload_n C dc_L_combine_4 rfl ?_
  refine aw_iload_n C dc_L_combine_5 rfl ?_
  refine aw_iload_n C dc_L_combine_6 rfl ?_
  refine aw_iload C dc_L_combine_7 rfl ?_
  refine kq_Xi (ws := sy_ h cI cL cF I J sh fr en) (n := 4) (P' := ow_ D h cI cL cF I J sh fr en o O) C (fun U hW hz hq => xp_k (sA_le hho) s U hW hz hq hX.1) (sp_blind (A := ca_ h) (xp_k ca_le)) (fun H h => pa_l h) 0 sy_p0 rfl (t_combine_3 l hl D h th cI cL cF I J sh fr en ka hka kc hkc kd hkd xkb hx) kw_299 kw_296 kw_297 kw_298 kw_1 rfl (by unfold kd_; decide) ⟨rfl, rfl, by decide, by decide⟩ rfl rfl (Nat.le_of_ble_eq_true rfl) ⟨by decide, by decide⟩ dc_L_combine_9 (fun q h => Or.inl h) (fun H h => pa_l h) (fun H H1 h hk h1 => sw_post (cI := cI) (cF := cF) ho h hk h1) [⟨0, 14, 17, 13⟩] ⟨0, 14, 21, 15⟩ [⟨0, 14, 25, 28⟩] (htb.trans rfl) (fun z hz => by rcases List.mem_singleton.mp hz with rfl; exact Or.inr ⟨by decide, "java/lang/IndexOutOfBoundsException", (C.1.2.2.2.2 _ (List.mem_cons_of_mem _ kw_138)), hX.2.1⟩) (by decide) (by decide) kw_139 (hX.1.2.1 _ (by decide +kernel)) (fun q9 => ?_)
  refine aw_astore C dc_L_combine_21 (by decide) rfl ?_
  refine aw_iconst C dc_L_combine_23 (v := nI 2) rfl ?_
  exact aw_ret2 (aw_iret C hr dc_L_combine_24 (fun t h _ => ⟨(), rfl, h⟩))
set_option maxHeartbeats 4000000 in
set_option maxRecDepth 100000 in
theorem lt_change_0 (l : Launch) (hl : l.stackTraces = false) (D : va_G) (h th : Nat) (cI cL cF : ClassId) (I : Nat → Nat → Int32) (J : Nat → Nat → Int64) (sh : Nat → Nat) (fr : Nat) (en : Int32) (xka : Int32) (hx : xka < 0 ∨ nI 10 ≤ xka) (ykb : Int32) (ykc : Int32) (ykd : Int32) (o : Nat) (O : Nat → Int64) (ho : ¬ ca_ h o) (hho : h ≤ o) : kh_ l my_L_change (Cond.codeWith my_L_change bc_L_change 7 (some .int) [(0, 14, 17, 13), (0, 14, 21, 15)] :: tw_) { frames := 41, cells := 1, slots := 6, locals := 2040 } D (ty_s cI cL cF) (xq_ h th) (sA_ h o) [.ref h, .int xka, .int ykb, .int ykc, .int ykd, .ref o] (ow_ D h cI cL cF I J sh fr en o O) (ow_ D h cI cL cF I J sh fr en o O) (nI 1) := by
  refine aw_metH (A := sA_ h o) (own := "FamilyShelfLaw") (by decide) rfl rfl (Nat.le_of_ble_eq_true rfl) ?_
  intro p9 e s m args below meth c C hr htb hX hP0
  refine aw_lw (lw' := [some (.ref h), some (.int xka), some (.int ykb), some (.int ykc), some (.int ykd), some (.ref o), none]) rfl ?_
  refine aw_aload C dc_L_change_0 rfl ?_
  refine aw_iconst C dc_L_change_2 (v := nI 0) rfl ?_
  refine aw_aload_n C dc_L_change_3 rfl ?_
  refine aw_iload_n C dc_L_change_4 rfl ?_
  refine aw_iload_n C dc_L_change_5 rfl ?_
  refine aw_iload_n C dc_L_change_6 rfl ?_
  refine aw_iload C dc_L_change_7 rfl ?_
  refine kq_Xi (ws := sy_ h cI cL cF I J sh fr en) (n := 4) (P' := ow_ D h cI cL cF I J sh fr en o O) C (fun U hW hz hq => xp_k (sA_le hho) s U hW hz hq hX.1) (sp_blind (A := ca_ h) (xp_k ca_le)) (fun H h => pa_l h) 0 sy_p0 rfl (t_change_0 l hl D h th cI cL cF I J sh fr en xka hx ykb ykc ykd) kw_413 kw_410 kw_411 kw_412 kw_1 rfl (by unfold kd_; decide) ⟨rfl, rfl, by decide, by decide⟩ rfl rfl (Nat.le_of_ble_eq_true rfl) ⟨by decide, by decide⟩ dc_L_change_9 (fun q h => Or.inl h) (fun H h => pa_l h) (fun H H1 h hk h1 => sw_post (cI := cI) (cF := cF) ho h hk h1) [] ⟨0, 14, 17, 13⟩ [⟨0, 14, 21, 15⟩] (htb.trans rfl) (fun z hz => nomatch hz) (by decide) (by decide) kw_138 (hX.1.2.1 _ (by decide +kernel)) (fun q9 => ?_)
  refine aw_astore C dc_L_change_17 (by decide) rfl ?_
  refine aw_iconst C dc_L_change_19 (v := nI 1) rfl ?_
  exact aw_ret2 (aw_iret C hr dc_L_change_20 (fun t h _ => ⟨(), rfl, h⟩))
set_option maxHeartbeats 4000000 in
set_option maxRecDepth 100000 in
theorem lt_change_1 (l : Launch) (hl : l.stackTraces = false) (D : va_G) (h th : Nat) (cI cL cF : ClassId) (I : Nat → Nat → Int32) (J : Nat → Nat → Int64) (sh : Nat → Nat) (fr : Nat) (en : Int32) (ka : Nat) (hka : ka < 10) (xkc : Int32) (hx : xkc < 0 ∨ nI 10 ≤ xkc) (ykb : Int32) (ykd : Int32) (o : Nat) (O : Nat → Int64) (ho : ¬ ca_ h o) (hho : h ≤ o) : kh_ l my_L_change (Cond.codeWith my_L_change bc_L_change 7 (some .int) [(0, 14, 17, 13), (0, 14, 21, 15)] :: tw_) { frames := 41, cells := 1, slots := 6, locals := 2040 } D (ty_s cI cL cF) (xq_ h th) (sA_ h o) [.ref h, .int (nI ka), .int ykb, .int xkc, .int ykd, .ref o] (ow_ D h cI cL cF I J sh fr en o O) (ow_ D h cI cL cF I J sh fr en o O) (nI 1) := by
  refine aw_metH (A := sA_ h o) (own := "FamilyShelfLaw") (by decide) rfl rfl (Nat.le_of_ble_eq_true rfl) ?_
  intro p9 e s m args below meth c C hr htb hX hP0
  refine aw_lw (lw' := [some (.ref h), some (.int (nI ka)), some (.int ykb), some (.int xkc), some (.int ykd), some (.ref o), none]) rfl ?_
  refine aw_aload C dc_L_change_0 rfl ?_
  refine aw_iconst C dc_L_change_2 (v := nI 0) rfl ?_
  refine aw_aload_n C dc_L_change_3 rfl ?_
  refine aw_iload_n C dc_L_change_4 rfl ?_
  refine aw_iload_n C dc_L_change_5 rfl ?_
  refine aw_iload_n C dc_L_change_6 rfl ?_
  refine aw_iload C dc_L_change_7 rfl ?_
  refine kq_Xi (ws := sy_ h cI cL cF I J sh fr en) (n := 4) (P' := ow_ D h cI cL cF I J sh fr en o O) C (fun U hW hz hq => xp_k (sA_le hho) s U hW hz hq hX.1) (sp_blind (A := ca_ h) (xp_k ca_le)) (fun H h => pa_l h) 0 sy_p0 rfl (t_change_1 l hl D h th cI cL cF I J sh fr en ka hka xkc hx ykb ykd) kw_413 kw_410 kw_411 kw_412 kw_1 rfl (by unfold kd_; decide) ⟨rfl, rfl, by decide, by decide⟩ rfl rfl (Nat.le_of_ble_eq_true rfl) ⟨by decide, by decide⟩ dc_L_change_9 (fun q h => Or.inl h) (fun H h => pa_l h) (fun H H1 h hk h1 => sw_post (cI := cI) (cF := cF) ho h hk h1) [] ⟨0, 14, 17, 13⟩ [⟨0, 14, 21, 15⟩] (htb.trans rfl) (fun z hz => nomatch hz) (by decide) (by decide) kw_138 (hX.1.2.1 _ (by decide +kernel)) (fun q9 => ?_)
  refine aw_astore C dc_L_change_17 (by decide) rfl ?_
  refine aw_iconst C dc_L_change_19 (v := nI 1) rfl ?_
  exact aw_ret2 (aw_iret C hr dc_L_change_20 (fun t h _ => ⟨(), rfl, h⟩))
set_option maxHeartbeats 4000000 in
set_option maxRecDepth 100000 in
theorem lt_change_2 (l : Launch) (hl : l.stackTraces = false) (D : va_G) (h th : Nat) (cI cL cF : ClassId) (I : Nat → Nat → Int32) (J : Nat → Nat → Int64) (sh : Nat → Nat) (fr : Nat) (en : Int32) (ka : Nat) (hka : ka < 10) (kc : Nat) (hkc : kc < 10) (xkd : Int32) (hx : xkd < 0 ∨ nI 12 ≤ xkd) (ykb : Int32) (o : Nat) (O : Nat → Int64) (ho : ¬ ca_ h o) (hho : h ≤ o) : kh_ l my_L_change (Cond.codeWith my_L_change bc_L_change 7 (some .int) [(0, 14, 17, 13), (0, 14, 21, 15)] :: tw_) { frames := 41, cells := 1, slots := 6, locals := 2040 } D (ty_s cI cL cF) (xq_ h th) (sA_ h o) [.ref h, .int (nI ka), .int ykb, .int (nI kc), .int xkd, .ref o] (ow_ D h cI cL cF I J sh fr en o O) (ow_ D h cI cL cF I J sh fr en o O) (nI 1) := by
  refine aw_metH (A := sA_ h o) (own := "FamilyShelfLaw") (by decide) rfl rfl (Nat.le_of_ble_eq_true rfl) ?_
  intro p9 e s m args below meth c C hr htb hX hP0
  refine aw_lw (lw' := [some (.ref h), some (.int (nI ka)), some (.int ykb), some (.int (nI kc)), some (.int xkd), some (.ref o), none]) rfl ?_
  refine aw_aload C dc_L_change_0 rfl ?_
  refine aw_iconst C dc_L_change_2 (v := nI 0) rfl ?_
  refine aw_aload_n C dc_L_change_3 rfl ?_
  refine aw_iload_n C dc_L_change_4 rfl ?_
  refine aw_iload_n C dc_L_change_5 rfl ?_
  refine aw_iload_n C dc_L_change_6 rfl ?_
  refine aw_iload C dc_L_change_7 rfl ?_
  refine kq_Xi (ws := sy_ h cI cL cF I J sh fr en) (n := 4) (P' := ow_ D h cI cL cF I J sh fr en o O) C (fun U hW hz hq => xp_k (sA_le hho) s U hW hz hq hX.1) (sp_blind (A := ca_ h) (xp_k ca_le)) (fun H h => pa_l h) 0 sy_p0 rfl (t_change_2 l hl D h th cI cL cF I J sh fr en ka hka kc hkc xkd hx ykb) kw_413 kw_410 kw_411 kw_412 kw_1 rfl (by unfold kd_; decide) ⟨rfl, rfl, by decide, by decide⟩ rfl rfl (Nat.le_of_ble_eq_true rfl) ⟨by decide, by decide⟩ dc_L_change_9 (fun q h => Or.inl h) (fun H h => pa_l h) (fun H H1 h hk h1 => sw_post (cI := cI) (cF := cF) ho h hk h1) [] ⟨0, 14, 17, 13⟩ [⟨0, 14, 21, 15⟩] (htb.trans rfl) (fun z hz => nomatch hz) (by decide) (by decide) kw_138 (hX.1.2.1 _ (by decide +kernel)) (fun q9 => ?_)
  refine aw_astore C dc_L_change_17 (by decide) rfl ?_
  refine aw_iconst C dc_L_change_19 (v := nI 1) rfl ?_
  exact aw_ret2 (aw_iret C hr dc_L_change_20 (fun t h _ => ⟨(), rfl, h⟩))
set_option maxHeartbeats 4000000 in
set_option maxRecDepth 100000 in
theorem lt_change_3 (l : Launch) (hl : l.stackTraces = false) (D : va_G) (h th : Nat) (cI cL cF : ClassId) (I : Nat → Nat → Int32) (J : Nat → Nat → Int64) (sh : Nat → Nat) (fr : Nat) (en : Int32) (ka : Nat) (hka : ka < 10) (kc : Nat) (hkc : kc < 10) (kd : Nat) (hkd : kd < 12) (xkb : Int32) (hx : xkb < (nI 0) ∨ (nI 2) < xkb) (o : Nat) (O : Nat → Int64) (ho : ¬ ca_ h o) (hho : h ≤ o) : kh_ l my_L_change (Cond.codeWith my_L_change bc_L_change 7 (some .int) [(0, 14, 17, 13), (0, 14, 21, 15)] :: tw_) { frames := 41, cells := 1, slots := 6, locals := 2040 } D (ty_s cI cL cF) (xq_ h th) (sA_ h o) [.ref h, .int (nI ka), .int xkb, .int (nI kc), .int (nI kd), .ref o] (ow_ D h cI cL cF I J sh fr en o O) (ow_ D h cI cL cF I J sh fr en o O) (nI 2) := by
  refine aw_metH (A := sA_ h o) (own := "FamilyShelfLaw") (by decide) rfl rfl (Nat.le_of_ble_eq_true rfl) ?_
  intro p9 e s m args below meth c C hr htb hX hP0
  refine aw_lw (lw' := [some (.ref h), some (.int (nI ka)), some (.int xkb), some (.int (nI kc)), some (.int (nI kd)), some (.ref o), none]) rfl ?_
  refine aw_aload C dc_L_change_0 rfl ?_
  refine aw_iconst C dc_L_change_2 (v := nI 0) rfl ?_
  refine aw_aload_n C dc_L_change_3 rfl ?_
  refine aw_iload_n C dc_L_change_4 rfl ?_
  refine aw_iload_n C dc_L_change_5 rfl ?_
  refine aw_iload_n C dc_L_change_6 rfl ?_
  refine aw_iload C dc_L_change_7 rfl ?_
  refine kq_Xi (ws := sy_ h cI cL cF I J sh fr en) (n := 4) (P' := ow_ D h cI cL cF I J sh fr en o O) C (fun U hW hz hq => xp_k (sA_le hho) s U hW hz hq hX.1) (sp_blind (A := ca_ h) (xp_k ca_le)) (fun H h => pa_l h) 0 sy_p0 rfl (t_change_3 l hl D h th cI cL cF I J sh fr en ka hka kc hkc kd hkd xkb hx) kw_413 kw_410 kw_411 kw_412 kw_1 rfl (by unfold kd_; decide) ⟨rfl, rfl, by decide, by decide⟩ rfl rfl (Nat.le_of_ble_eq_true rfl) ⟨by decide, by decide⟩ dc_L_change_9 (fun q h => Or.inl h) (fun H h => pa_l h) (fun H H1 h hk h1 => sw_post (cI := cI) (cF := cF) ho h hk h1) [⟨0, 14, 17, 13⟩] ⟨0, 14, 21, 15⟩ [] (htb.trans rfl) (fun z hz => by rcases List.mem_singleton.mp hz with rfl; exact Or.inr ⟨by decide, "java/lang/IndexOutOfBoundsException", (C.1.2.2.2.2 _ (List.mem_cons_of_mem _ kw_138)), hX.2.1⟩) (by decide) (by decide) kw_139 (hX.1.2.1 _ (by decide +kernel)) (fun q9 => ?_)
  refine aw_astore C dc_L_change_21 (by decide) rfl ?_
  refine aw_iconst C dc_L_change_23 (v := nI 2) rfl ?_
  exact aw_ret2 (aw_iret C hr dc_L_change_24 (fun t h _ => ⟨(), rfl, h⟩))
set_option maxHeartbeats 4000000 in
set_option maxRecDepth 100000 in
theorem lt_extreme_0 (l : Launch) (hl : l.stackTraces = false) (D : va_G) (h th : Nat) (cI cL cF : ClassId) (I : Nat → Nat → Int32) (J : Nat → Nat → Int64) (sh : Nat → Nat) (fr : Nat) (en : Int32) (xka : Int32) (hx : xka < 0 ∨ nI 10 ≤ xka) (ykb : Int32) (ykc : Int32) (o : Nat) (O : Nat → Int64) (ho : ¬ ca_ h o) (hho : h ≤ o) : kh_ l my_L_extreme (Cond.codeWith my_L_extreme bc_L_extreme 6 (some .int) [(0, 12, 15, 13)] :: tw_) { frames := 41, cells := 1, slots := 6, locals := 2040 } D (ty_s cI cL cF) (xq_ h th) (sA_ h o) [.ref h, .int xka, .int ykb, .int ykc, .ref o] (ow_ D h cI cL cF I J sh fr en o O) (ow_ D h cI cL cF I J sh fr en o O) (nI 1) := by
  refine aw_metH (A := sA_ h o) (own := "FamilyShelfLaw") (by decide) rfl rfl (Nat.le_of_ble_eq_true rfl) ?_
  intro p9 e s m args below meth c C hr htb hX hP0
  refine aw_lw (lw' := [some (.ref h), some (.int xka), some (.int ykb), some (.int ykc), some (.ref o), none]) rfl ?_
  refine aw_aload C dc_L_extreme_0 rfl ?_
  refine aw_iconst C dc_L_extreme_2 (v := nI 0) rfl ?_
  refine aw_aload_n C dc_L_extreme_3 rfl ?_
  refine aw_iload_n C dc_L_extreme_4 rfl ?_
  refine aw_iload_n C dc_L_extreme_5 rfl ?_
  refine aw_iload_n C dc_L_extreme_6 rfl ?_
  refine kq_Xi (ws := sy_ h cI cL cF I J sh fr en) (n := 3) (P' := ow_ D h cI cL cF I J sh fr en o O) C (fun U hW hz hq => xp_k (sA_le hho) s U hW hz hq hX.1) (sp_blind (A := ca_ h) (xp_k ca_le)) (fun H h => pa_l h) 0 sy_p0 rfl (t_extreme_0 l hl D h th cI cL cF I J sh fr en xka hx ykb ykc) kw_431 kw_428 kw_429 kw_430 kw_1 rfl (by unfold kd_; decide) ⟨rfl, rfl, by decide, by decide⟩ rfl rfl (Nat.le_of_ble_eq_true rfl) ⟨by decide, by decide⟩ dc_L_extreme_7 (fun q h => Or.inl h) (fun H h => pa_l h) (fun H H1 h hk h1 => sw_post (cI := cI) (cF := cF) ho h hk h1) [] ⟨0, 12, 15, 13⟩ [] (htb.trans rfl) (fun z hz => nomatch hz) (by decide) (by decide) kw_138 (hX.1.2.1 _ (by decide +kernel)) (fun q9 => ?_)
  refine aw_astore C dc_L_extreme_15 (by decide) rfl ?_
  refine aw_iconst C dc_L_extreme_17 (v := nI 1) rfl ?_
  exact aw_ret2 (aw_iret C hr dc_L_extreme_18 (fun t h _ => ⟨(), rfl, h⟩))
set_option maxHeartbeats 4000000 in
set_option maxRecDepth 100000 in
theorem lt_extreme_1 (l : Launch) (hl : l.stackTraces = false) (D : va_G) (h th : Nat) (cI cL cF : ClassId) (I : Nat → Nat → Int32) (J : Nat → Nat → Int64) (sh : Nat → Nat) (fr : Nat) (en : Int32) (ka : Nat) (hka : ka < 10) (xkb : Int32) (hx : xkb < 0 ∨ nI 10 ≤ xkb) (ykc : Int32) (o : Nat) (O : Nat → Int64) (ho : ¬ ca_ h o) (hho : h ≤ o) : kh_ l my_L_extreme (Cond.codeWith my_L_extreme bc_L_extreme 6 (some .int) [(0, 12, 15, 13)] :: tw_) { frames := 41, cells := 1, slots := 6, locals := 2040 } D (ty_s cI cL cF) (xq_ h th) (sA_ h o) [.ref h, .int (nI ka), .int xkb, .int ykc, .ref o] (ow_ D h cI cL cF I J sh fr en o O) (ow_ D h cI cL cF I J sh fr en o O) (nI 1) := by
  refine aw_metH (A := sA_ h o) (own := "FamilyShelfLaw") (by decide) rfl rfl (Nat.le_of_ble_eq_true rfl) ?_
  intro p9 e s m args below meth c C hr htb hX hP0
  refine aw_lw (lw' := [some (.ref h), some (.int (nI ka)), some (.int xkb), some (.int ykc), some (.ref o), none]) rfl ?_
  refine aw_aload C dc_L_extreme_0 rfl ?_
  refine aw_iconst C dc_L_extreme_2 (v := nI 0) rfl ?_
  refine aw_aload_n C dc_L_extreme_3 rfl ?_
  refine aw_iload_n C dc_L_extreme_4 rfl ?_
  refine aw_iload_n C dc_L_extreme_5 rfl ?_
  refine aw_iload_n C dc_L_extreme_6 rfl ?_
  refine kq_Xi (ws := sy_ h cI cL cF I J sh fr en) (n := 3) (P' := ow_ D h cI cL cF I J sh fr en o O) C (fun U hW hz hq => xp_k (sA_le hho) s U hW hz hq hX.1) (sp_blind (A := ca_ h) (xp_k ca_le)) (fun H h => pa_l h) 0 sy_p0 rfl (t_extreme_1 l hl D h th cI cL cF I J sh fr en ka hka xkb hx ykc) kw_431 kw_428 kw_429 kw_430 kw_1 rfl (by unfold kd_; decide) ⟨rfl, rfl, by decide, by decide⟩ rfl rfl (Nat.le_of_ble_eq_true rfl) ⟨by decide, by decide⟩ dc_L_extreme_7 (fun q h => Or.inl h) (fun H h => pa_l h) (fun H H1 h hk h1 => sw_post (cI := cI) (cF := cF) ho h hk h1) [] ⟨0, 12, 15, 13⟩ [] (htb.trans rfl) (fun z hz => nomatch hz) (by decide) (by decide) kw_138 (hX.1.2.1 _ (by decide +kernel)) (fun q9 => ?_)
  refine aw_astore C dc_L_extreme_15 (by decide) rfl ?_
  refine aw_iconst C dc_L_extreme_17 (v := nI 1) rfl ?_
  exact aw_ret2 (aw_iret C hr dc_L_extreme_18 (fun t h _ => ⟨(), rfl, h⟩))
set_option maxHeartbeats 4000000 in
set_option maxRecDepth 100000 in
theorem lt_sized_0 (l : Launch) (hl : l.stackTraces = false) (D : va_G) (h th : Nat) (cI cL cF : ClassId) (I : Nat → Nat → Int32) (J : Nat → Nat → Int64) (sh : Nat → Nat) (fr : Nat) (en : Int32) (xka : Int32) (hx : xka < 0 ∨ nI 10 ≤ xka) (ykb : Int32) (ykc : Int32) (o : Nat) (O : Nat → Int64) (ho : ¬ ca_ h o) (hho : h ≤ o) : kh_ l my_L_sized (Cond.codeWith my_L_sized bc_L_sized 6 (some .int) [(0, 12, 15, 13), (0, 12, 19, 15)] :: tw_) { frames := 41, cells := 1, slots := 6, locals := 2040 } D (ty_s cI cL cF) (xq_ h th) (sA_ h o) [.ref h, .int xka, .int ykb, .int ykc, .ref o] (ow_ D h cI cL cF I J sh fr en o O) (ow_ D h cI cL cF I J sh fr en o O) (nI 1) := by
  refine aw_metH (A := sA_ h o) (own := "FamilyShelfLaw") (by decide) rfl rfl (Nat.le_of_ble_eq_true rfl) ?_
  intro p9 e s m args below meth c C hr htb hX hP0
  refine aw_lw (lw' := [some (.ref h), some (.int xka), some (.int ykb), some (.int ykc), some (.ref o), none]) rfl ?_
  refine aw_aload C dc_L_sized_0 rfl ?_
  refine aw_iconst C dc_L_sized_2 (v := nI 0) rfl ?_
  refine aw_aload_n C dc_L_sized_3 rfl ?_
  refine aw_iload_n C dc_L_sized_4 rfl ?_
  refine aw_iload_n C dc_L_sized_5 rfl ?_
  refine aw_iload_n C dc_L_sized_6 rfl ?_
  refine kq_Xi (ws := sy_ h cI cL cF I J sh fr en) (n := 3) (P' := ow_ D h cI cL cF I J sh fr en o O) C (fun U hW hz hq => xp_k (sA_le hho) s U hW hz hq hX.1) (sp_blind (A := ca_ h) (xp_k ca_le)) (fun H h => pa_l h) 0 sy_p0 rfl (t_sized_0 l hl D h th cI cL cF I J sh fr en xka hx ykb ykc) kw_447 kw_444 kw_445 kw_446 kw_1 rfl (by unfold kd_; decide) ⟨rfl, rfl, by decide, by decide⟩ rfl rfl (Nat.le_of_ble_eq_true rfl) ⟨by decide, by decide⟩ dc_L_sized_7 (fun q h => Or.inl h) (fun H h => pa_l h) (fun H H1 h hk h1 => sw_post (cI := cI) (cF := cF) ho h hk h1) [] ⟨0, 12, 15, 13⟩ [⟨0, 12, 19, 15⟩] (htb.trans rfl) (fun z hz => nomatch hz) (by decide) (by decide) kw_138 (hX.1.2.1 _ (by decide +kernel)) (fun q9 => ?_)
  refine aw_astore C dc_L_sized_15 (by decide) rfl ?_
  refine aw_iconst C dc_L_sized_17 (v := nI 1) rfl ?_
  exact aw_ret2 (aw_iret C hr dc_L_sized_18 (fun t h _ => ⟨(), rfl, h⟩))
set_option maxHeartbeats 4000000 in
set_option maxRecDepth 100000 in
theorem lt_sized_1 (l : Launch) (hl : l.stackTraces = false) (D : va_G) (h th : Nat) (cI cL cF : ClassId) (I : Nat → Nat → Int32) (J : Nat → Nat → Int64) (sh : Nat → Nat) (fr : Nat) (en : Int32) (ka : Nat) (hka : ka < 10) (xkb : Int32) (hx : xkb < 0 ∨ nI 10 ≤ xkb) (ykc : Int32) (o : Nat) (O : Nat → Int64) (ho : ¬ ca_ h o) (hho : h ≤ o) : kh_ l my_L_sized (Cond.codeWith my_L_sized bc_L_sized 6 (some .int) [(0, 12, 15, 13), (0, 12, 19, 15)] :: tw_) { frames := 41, cells := 1, slots := 6, locals := 2040 } D (ty_s cI cL cF) (xq_ h th) (sA_ h o) [.ref h, .int (nI ka), .int xkb, .int ykc, .ref o] (ow_ D h cI cL cF I J sh fr en o O) (ow_ D h cI cL cF I J sh fr en o O) (nI 1) := by
  refine aw_metH (A := sA_ h o) (own := "FamilyShelfLaw") (by decide) rfl rfl (Nat.le_of_ble_eq_true rfl) ?_
  intro p9 e s m args below meth c C hr htb hX hP0
  refine aw_lw (lw' := [some (.ref h), some (.int (nI ka)), some (.int xkb), some (.int ykc), some (.ref o), none]) rfl ?_
  refine aw_aload C dc_L_sized_0 rfl ?_
  refine aw_iconst C dc_L_sized_2 (v := nI 0) rfl ?_
  refine aw_aload_n C dc_L_sized_3 rfl ?_
  refine aw_iload_n C dc_L_sized_4 rfl ?_
  refine aw_iload_n C dc_L_sized_5 rfl ?_
  refine aw_iload_n C dc_L_sized_6 rfl ?_
  refine kq_Xi (ws := sy_ h cI cL cF I J sh fr en) (n := 3) (P' := ow_ D h cI cL cF I J sh fr en o O) C (fun U hW hz hq => xp_k (sA_le hho) s U hW hz hq hX.1) (sp_blind (A := ca_ h) (xp_k ca_le)) (fun H h => pa_l h) 0 sy_p0 rfl (t_sized_1 l hl D h th cI cL cF I J sh fr en ka hka xkb hx ykc) kw_447 kw_444 kw_445 kw_446 kw_1 rfl (by unfold kd_; decide) ⟨rfl, rfl, by decide, by decide⟩ rfl rfl (Nat.le_of_ble_eq_true rfl) ⟨by decide, by decide⟩ dc_L_sized_7 (fun q h => Or.inl h) (fun H h => pa_l h) (fun H H1 h hk h1 => sw_post (cI := cI) (cF := cF) ho h hk h1) [] ⟨0, 12, 15, 13⟩ [⟨0, 12, 19, 15⟩] (htb.trans rfl) (fun z hz => nomatch hz) (by decide) (by decide) kw_138 (hX.1.2.1 _ (by decide +kernel)) (fun q9 => ?_)
  refine aw_astore C dc_L_sized_15 (by decide) rfl ?_
  refine aw_iconst C dc_L_sized_17 (v := nI 1) rfl ?_
  exact aw_ret2 (aw_iret C hr dc_L_sized_18 (fun t h _ => ⟨(), rfl, h⟩))
set_option maxHeartbeats 4000000 in
set_option maxRecDepth 100000 in
theorem lt_sized_2 (l : Launch) (hl : l.stackTraces = false) (D : va_G) (h th : Nat) (cI cL cF : ClassId) (I : Nat → Nat → Int32) (J : Nat → Nat → Int64) (sh : Nat → Nat) (fr : Nat) (en : Int32) (ka : Nat) (hka : ka < 10) (kb : Nat) (hkb : kb < 10) (xkc : Int32) (hx : xkc < (nI 0) ∨ (nI 12) < xkc) (o : Nat) (O : Nat → Int64) (ho : ¬ ca_ h o) (hho : h ≤ o) : kh_ l my_L_sized (Cond.codeWith my_L_sized bc_L_sized 6 (some .int) [(0, 12, 15, 13), (0, 12, 19, 15)] :: tw_) { frames := 41, cells := 1, slots := 6, locals := 2040 } D (ty_s cI cL cF) (xq_ h th) (sA_ h o) [.ref h, .int (nI ka), .int (nI kb), .int xkc, .ref o] (ow_ D h cI cL cF I J sh fr en o O) (ow_ D h cI cL cF I J sh fr en o O) (nI 2) := by
  refine aw_metH (A := sA_ h o) (own := "FamilyShelfLaw") (by decide) rfl rfl (Nat.le_of_ble_eq_true rfl) ?_
  intro p9 e s m args below meth c C hr htb hX hP0
  refine aw_lw (lw' := [some (.ref h), some (.int (nI ka)), some (.int (nI kb)), some (.int xkc), some (.ref o), none]) rfl ?_
  refine aw_aload C dc_L_sized_0 rfl ?_
  refine aw_iconst C dc_L_sized_2 (v := nI 0) rfl ?_
  refine aw_aload_n C dc_L_sized_3 rfl ?_
  refine aw_iload_n C dc_L_sized_4 rfl ?_
  refine aw_iload_n C dc_L_sized_5 rfl ?_
  refine aw_iload_n C dc_L_sized_6 rfl ?_
  refine kq_Xi (ws := sy_ h cI cL cF I J sh fr en) (n := 3) (P' := ow_ D h cI cL cF I J sh fr en o O) C (fun U hW hz hq => xp_k (sA_le hho) s U hW hz hq hX.1) (sp_blind (A := ca_ h) (xp_k ca_le)) (fun H h => pa_l h) 0 sy_p0 rfl (t_sized_2 l hl D h th cI cL cF I J sh fr en ka hka kb hkb xkc hx) kw_447 kw_444 kw_445 kw_446 kw_1 rfl (by unfold kd_; decide) ⟨rfl, rfl, by decide, by decide⟩ rfl rfl (Nat.le_of_ble_eq_true rfl) ⟨by decide, by decide⟩ dc_L_sized_7 (fun q h => Or.inl h) (fun H h => pa_l h) (fun H H1 h hk h1 => sw_post (cI := cI) (cF := cF) ho h hk h1) [⟨0, 12, 15, 13⟩] ⟨0, 12, 19, 15⟩ [] (htb.trans rfl) (fun z hz => by rcases List.mem_singleton.mp hz with rfl; exact Or.inr ⟨by decide, "java/lang/IndexOutOfBoundsException", (C.1.2.2.2.2 _ (List.mem_cons_of_mem _ kw_138)), hX.2.1⟩) (by decide) (by decide) kw_139 (hX.1.2.1 _ (by decide +kernel)) (fun q9 => ?_)
  refine aw_astore C dc_L_sized_19 (by decide) rfl ?_
  refine aw_iconst C dc_L_sized_21 (v := nI 2) rfl ?_
  exact aw_ret2 (aw_iret C hr dc_L_sized_22 (fun t h _ => ⟨(), rfl, h⟩))
set_option maxHeartbeats 4000000 in
set_option maxRecDepth 100000 in
theorem lt_edge_0 (l : Launch) (hl : l.stackTraces = false) (D : va_G) (h th : Nat) (cI cL cF : ClassId) (I : Nat → Nat → Int32) (J : Nat → Nat → Int64) (sh : Nat → Nat) (fr : Nat) (en : Int32) (xka : Int32) (hx : xka < 0 ∨ nI 12 ≤ xka) (ykb : Int32) (ykc : Int32) (o : Nat) (O : Nat → Int64) (ho : ¬ ca_ h o) (hho : h ≤ o) : kh_ l my_L_edge (Cond.codeWith my_L_edge bc_L_edge 5 (some .int) [(0, 7, 10, 13), (0, 7, 14, 15)] :: tw_) { frames := 41, cells := 1, slots := 6, locals := 2040 } D (ty_s cI cL cF) (xq_ h th) (sA_ h o) [.ref h, .int xka, .int ykb, .int ykc] (ow_ D h cI cL cF I J sh fr en o O) (ow_ D h cI cL cF I J sh fr en o O) (nI 1) := by
  refine aw_metH (A := sA_ h o) (own := "FamilyShelfLaw") (by decide) rfl rfl (Nat.le_of_ble_eq_true rfl) ?_
  intro p9 e s m args below meth c C hr htb hX hP0
  refine aw_lw (lw' := [some (.ref h), some (.int xka), some (.int ykb), some (.int ykc), none]) rfl ?_
  refine aw_aload_n C dc_L_edge_0 rfl ?_
  refine aw_iload_n C dc_L_edge_1 rfl ?_
  refine aw_iload_n C dc_L_edge_2 rfl ?_
  refine aw_iload_n C dc_L_edge_3 rfl ?_
  refine kq_Xv (ws := sy_ h cI cL cF I J sh fr en) (n := 3) (P' := ow_ D h cI cL cF I J sh fr en o O) C (fun U hW hz hq => xp_k (sA_le hho) s U hW hz hq hX.1) (sp_blind (A := ca_ h) (xp_k ca_le)) (fun H h => pa_l h) 0 sy_p0 rfl (t_edge_0 l hl D h th cI cL cF I J sh fr en xka hx ykb ykc) kw_458 kw_455 kw_456 kw_457 kw_1 rfl (by unfold kd_; decide) ⟨rfl, rfl, by decide, by decide⟩ rfl rfl (Nat.le_of_ble_eq_true rfl) ⟨by decide, by decide⟩ dc_L_edge_4 (fun q h => Or.inl h) (fun H h => pa_l h) (fun H H1 h hk h1 => sw_post (cI := cI) (cF := cF) ho h hk h1) [] ⟨0, 7, 10, 13⟩ [⟨0, 7, 14, 15⟩] (htb.trans rfl) (fun z hz => nomatch hz) (by decide) (by decide) kw_138 (hX.1.2.1 _ (by decide +kernel)) (fun q9 => ?_)
  refine aw_astore C dc_L_edge_10 (by decide) rfl ?_
  refine aw_iconst C dc_L_edge_12 (v := nI 1) rfl ?_
  exact aw_ret2 (aw_iret C hr dc_L_edge_13 (fun t h _ => ⟨(), rfl, h⟩))
set_option maxHeartbeats 4000000 in
set_option maxRecDepth 100000 in
theorem lt_edge_1 (l : Launch) (hl : l.stackTraces = false) (D : va_G) (h th : Nat) (cI cL cF : ClassId) (I : Nat → Nat → Int32) (J : Nat → Nat → Int64) (sh : Nat → Nat) (fr : Nat) (en : Int32) (ka : Nat) (hka : ka < 12) (xkb : Int32) (hx : xkb < 0 ∨ nI 7 ≤ xkb) (ykc : Int32) (o : Nat) (O : Nat → Int64) (ho : ¬ ca_ h o) (hho : h ≤ o) : kh_ l my_L_edge (Cond.codeWith my_L_edge bc_L_edge 5 (some .int) [(0, 7, 10, 13), (0, 7, 14, 15)] :: tw_) { frames := 41, cells := 1, slots := 6, locals := 2040 } D (ty_s cI cL cF) (xq_ h th) (sA_ h o) [.ref h, .int (nI ka), .int xkb, .int ykc] (ow_ D h cI cL cF I J sh fr en o O) (ow_ D h cI cL cF I J sh fr en o O) (nI 1) := by
  refine aw_metH (A := sA_ h o) (own := "FamilyShelfLaw") (by decide) rfl rfl (Nat.le_of_ble_eq_true rfl) ?_
  intro p9 e s m args below meth c C hr htb hX hP0
  refine aw_lw (lw' := [some (.ref h), some (.int (nI ka)), some (.int xkb), some (.int ykc), none]) rfl ?_
  refine aw_aload_n C dc_L_edge_0 rfl ?_
  refine aw_iload_n C dc_L_edge_1 rfl ?_
  refine aw_iload_n C dc_L_edge_2 rfl ?_
  refine aw_iload_n C dc_L_edge_3 rfl ?_
  refine kq_Xv (ws := sy_ h cI cL cF I J sh fr en) (n := 3) (P' := ow_ D h cI cL cF I J sh fr en o O) C (fun U hW hz hq => xp_k (sA_le hho) s U hW hz hq hX.1) (sp_blind (A := ca_ h) (xp_k ca_le)) (fun H h => pa_l h) 0 sy_p0 rfl (t_edge_1 l hl D h th cI cL cF I J sh fr en ka hka xkb hx ykc) kw_458 kw_455 kw_456 kw_457 kw_1 rfl (by unfold kd_; decide) ⟨rfl, rfl, by decide, by decide⟩ rfl rfl (Nat.le_of_ble_eq_true rfl) ⟨by decide, by decide⟩ dc_L_edge_4 (fun q h => Or.inl h) (fun H h => pa_l h) (fun H H1 h hk h1 => sw_post (cI := cI) (cF := cF) ho h hk h1) [] ⟨0, 7, 10, 13⟩ [⟨0, 7, 14, 15⟩] (htb.trans rfl) (fun z hz => nomatch hz) (by decide) (by decide) kw_138 (hX.1.2.1 _ (by decide +kernel)) (fun q9 => ?_)
  refine aw_astore C dc_L_edge_10 (by decide) rfl ?_
  refine aw_iconst C dc_L_edge_12 (v := nI 1) rfl ?_
  exact aw_ret2 (aw_iret C hr dc_L_edge_13 (fun t h _ => ⟨(), rfl, h⟩))
set_option maxHeartbeats 4000000 in
set_option maxRecDepth 100000 in
theorem lt_edge_2 (l : Launch) (hl : l.stackTraces = false) (D : va_G) (h th : Nat) (cI cL cF : ClassId) (I : Nat → Nat → Int32) (J : Nat → Nat → Int64) (sh : Nat → Nat) (fr : Nat) (en : Int32) (ka : Nat) (hka : ka < 12) (kb : Nat) (hkb : kb < 7) (xkc : Int32) (hx : xkc < 0 ∨ nI 7 ≤ xkc) (o : Nat) (O : Nat → Int64) (ho : ¬ ca_ h o) (hho : h ≤ o) : kh_ l my_L_edge (Cond.codeWith my_L_edge bc_L_edge 5 (some .int) [(0, 7, 10, 13), (0, 7, 14, 15)] :: tw_) { frames := 41, cells := 1, slots := 6, locals := 2040 } D (ty_s cI cL cF) (xq_ h th) (sA_ h o) [.ref h, .int (nI ka), .int (nI kb), .int xkc] (ow_ D h cI cL cF I J sh fr en o O) (ow_ D h cI cL cF I J sh fr en o O) (nI 1) := by
  refine aw_metH (A := sA_ h o) (own := "FamilyShelfLaw") (by decide) rfl rfl (Nat.le_of_ble_eq_true rfl) ?_
  intro p9 e s m args below meth c C hr htb hX hP0
  refine aw_lw (lw' := [some (.ref h), some (.int (nI ka)), some (.int (nI kb)), some (.int xkc), none]) rfl ?_
  refine aw_aload_n C dc_L_edge_0 rfl ?_
  refine aw_iload_n C dc_L_edge_1 rfl ?_
  refine aw_iload_n C dc_L_edge_2 rfl ?_
  refine aw_iload_n C dc_L_edge_3 rfl ?_
  refine kq_Xv (ws := sy_ h cI cL cF I J sh fr en) (n := 3) (P' := ow_ D h cI cL cF I J sh fr en o O) C (fun U hW hz hq => xp_k (sA_le hho) s U hW hz hq hX.1) (sp_blind (A := ca_ h) (xp_k ca_le)) (fun H h => pa_l h) 0 sy_p0 rfl (t_edge_2 l hl D h th cI cL cF I J sh fr en ka hka kb hkb xkc hx) kw_458 kw_455 kw_456 kw_457 kw_1 rfl (by unfold kd_; decide) ⟨rfl, rfl, by decide, by decide⟩ rfl rfl (Nat.le_of_ble_eq_true rfl) ⟨by decide, by decide⟩ dc_L_edge_4 (fun q h => Or.inl h) (fun H h => pa_l h) (fun H H1 h hk h1 => sw_post (cI := cI) (cF := cF) ho h hk h1) [] ⟨0, 7, 10, 13⟩ [⟨0, 7, 14, 15⟩] (htb.trans rfl) (fun z hz => nomatch hz) (by decide) (by decide) kw_138 (hX.1.2.1 _ (by decide +kernel)) (fun q9 => ?_)
  refine aw_astore C dc_L_edge_10 (by decide) rfl ?_
  refine aw_iconst C dc_L_edge_12 (v := nI 1) rfl ?_
  exact aw_ret2 (aw_iret C hr dc_L_edge_13 (fun t h _ => ⟨(), rfl, h⟩))
set_option maxHeartbeats 4000000 in
set_option maxRecDepth 100000 in
theorem lt_cut_0 (l : Launch) (hl : l.stackTraces = false) (D : va_G) (h th : Nat) (cI cL cF : ClassId) (I : Nat → Nat → Int32) (J : Nat → Nat → Int64) (sh : Nat → Nat) (fr : Nat) (en : Int32) (xka : Int32) (hx : xka < 0 ∨ nI 12 ≤ xka) (o : Nat) (O : Nat → Int64) (ho : ¬ ca_ h o) (hho : h ≤ o) : kh_ l my_L_cut (Cond.codeWith my_L_cut bc_L_cut 4 (some .int) [(0, 16, 19, 13)] :: tw_) { frames := 41, cells := 1, slots := 6, locals := 2040 } D (ty_s cI cL cF) (xq_ h th) (sA_ h o) [.ref h, .int xka, .ref o] (ow_ D h cI cL cF I J sh fr en o O) (ow_ D h cI cL cF I J sh fr en o O) (nI 1) := by
  refine aw_metH (A := sA_ h o) (own := "FamilyShelfLaw") (by decide) rfl rfl (Nat.le_of_ble_eq_true rfl) ?_
  intro p9 e s m args below meth c C hr htb hX hP0
  refine aw_lw (lw' := [some (.ref h), some (.int xka), some (.ref o), none]) rfl ?_
  refine aw_aload_n C dc_L_cut_0 rfl ?_
  refine aw_iconst C dc_L_cut_1 (v := nI 0) rfl ?_
  refine aw_aload_n C dc_L_cut_2 rfl ?_
  refine aw_iload_n C dc_L_cut_3 rfl ?_
  refine kq_Xi (ws := sy_ h cI cL cF I J sh fr en) (n := 1) (P' := ow_ D h cI cL cF I J sh fr en o O) C (fun U hW hz hq => xp_k (sA_le hho) s U hW hz hq hX.1) (sp_blind (A := ca_ h) (xp_k ca_le)) (fun H h => pa_l h) 0 sy_p0 rfl (t_cut_0 l hl D h th cI cL cF I J sh fr en xka hx) kw_477 kw_474 kw_475 kw_476 kw_1 rfl (by unfold kd_; decide) ⟨rfl, rfl, by decide, by decide⟩ rfl rfl (Nat.le_of_ble_eq_true rfl) ⟨by decide, by decide⟩ dc_L_cut_4 (fun q h => Or.inl h) (fun H h => pa_l h) (fun H H1 h hk h1 => sw_post (cI := cI) (cF := cF) ho h hk h1) [] ⟨0, 16, 19, 13⟩ [] (htb.trans rfl) (fun z hz => nomatch hz) (by decide) (by decide) kw_138 (hX.1.2.1 _ (by decide +kernel)) (fun q9 => ?_)
  refine aw_astore_n C dc_L_cut_19 (by decide) rfl ?_
  refine aw_iconst C dc_L_cut_20 (v := nI 1) rfl ?_
  exact aw_ret2 (aw_iret C hr dc_L_cut_21 (fun t h _ => ⟨(), rfl, h⟩))
set_option maxHeartbeats 4000000 in
set_option maxRecDepth 100000 in
theorem lt_paths_0 (l : Launch) (hl : l.stackTraces = false) (D : va_G) (h th : Nat) (cI cL cF : ClassId) (I : Nat → Nat → Int32) (J : Nat → Nat → Int64) (sh : Nat → Nat) (fr : Nat) (en : Int32) (xka : Int32) (hx : xka < 0 ∨ nI 10 ≤ xka) (ykb : Int32) (ykc : Int32) (o : Nat) (O : Nat → Int64) (ho : ¬ ca_ h o) (hho : h ≤ o) : kh_ l my_L_paths (Cond.codeWith my_L_paths bc_L_paths 6 (some .int) [(0, 12, 15, 13)] :: tw_) { frames := 41, cells := 1, slots := 6, locals := 2040 } D (ty_s cI cL cF) (xq_ h th) (sA_ h o) [.ref h, .int xka, .int ykb, .int ykc, .ref o] (ow_ D h cI cL cF I J sh fr en o O) (ow_ D h cI cL cF I J sh fr en o O) (nI 1) := by
  refine aw_metH (A := sA_ h o) (own := "FamilyShelfLaw") (by decide) rfl rfl (Nat.le_of_ble_eq_true rfl) ?_
  intro p9 e s m args below meth c C hr htb hX hP0
  refine aw_lw (lw' := [some (.ref h), some (.int xka), some (.int ykb), some (.int ykc), some (.ref o), none]) rfl ?_
  refine aw_aload C dc_L_paths_0 rfl ?_
  refine aw_iconst C dc_L_paths_2 (v := nI 0) rfl ?_
  refine aw_aload_n C dc_L_paths_3 rfl ?_
  refine aw_iload_n C dc_L_paths_4 rfl ?_
  refine aw_iload_n C dc_L_paths_5 rfl ?_
  refine aw_iload_n C dc_L_paths_6 rfl ?_
  refine kq_Xi (ws := sy_ h cI cL cF I J sh fr en) (n := 3) (P' := ow_ D h cI cL cF I J sh fr en o O) C (fun U hW hz hq => xp_k (sA_le hho) s U hW hz hq hX.1) (sp_blind (A := ca_ h) (xp_k ca_le)) (fun H h => pa_l h) 0 sy_p0 rfl (t_paths_0 l hl D h th cI cL cF I J sh fr en xka hx ykb ykc) kw_484 kw_481 kw_482 kw_483 kw_1 rfl (by unfold kd_; decide) ⟨rfl, rfl, by decide, by decide⟩ rfl rfl (Nat.le_of_ble_eq_true rfl) ⟨by decide, by decide⟩ dc_L_paths_7 (fun q h => Or.inl h) (fun H h => pa_l h) (fun H H1 h hk h1 => sw_post (cI := cI) (cF := cF) ho h hk h1) [] ⟨0, 12, 15, 13⟩ [] (htb.trans rfl) (fun z hz => nomatch hz) (by decide) (by decide) kw_138 (hX.1.2.1 _ (by decide +kernel)) (fun q9 => ?_)
  refine aw_astore C dc_L_paths_15 (by decide) rfl ?_
  refine aw_iconst C dc_L_paths_17 (v := nI 1) rfl ?_
  exact aw_ret2 (aw_iret C hr dc_L_paths_18 (fun t h _ => ⟨(), rfl, h⟩))
set_option maxHeartbeats 4000000 in
set_option maxRecDepth 100000 in
theorem lt_paths_1 (l : Launch) (hl : l.stackTraces = false) (D : va_G) (h th : Nat) (cI cL cF : ClassId) (I : Nat → Nat → Int32) (J : Nat → Nat → Int64) (sh : Nat → Nat) (fr : Nat) (en : Int32) (ka : Nat) (hka : ka < 10) (xkb : Int32) (hx : xkb < 0 ∨ nI 7 ≤ xkb) (ykc : Int32) (o : Nat) (O : Nat → Int64) (ho : ¬ ca_ h o) (hho : h ≤ o) : kh_ l my_L_paths (Cond.codeWith my_L_paths bc_L_paths 6 (some .int) [(0, 12, 15, 13)] :: tw_) { frames := 41, cells := 1, slots := 6, locals := 2040 } D (ty_s cI cL cF) (xq_ h th) (sA_ h o) [.ref h, .int (nI ka), .int xkb, .int ykc, .ref o] (ow_ D h cI cL cF I J sh fr en o O) (ow_ D h cI cL cF I J sh fr en o O) (nI 1) := by
  refine aw_metH (A := sA_ h o) (own := "FamilyShelfLaw") (by decide) rfl rfl (Nat.le_of_ble_eq_true rfl) ?_
  intro p9 e s m args below meth c C hr htb hX hP0
  refine aw_lw (lw' := [some (.ref h), some (.int (nI ka)), some (.int xkb), some (.int ykc), some (.ref o), none]) rfl ?_
  refine aw_aload C dc_L_paths_0 rfl ?_
  refine aw_iconst C dc_L_paths_2 (v := nI 0) rfl ?_
  refine aw_aload_n C dc_L_paths_3 rfl ?_
  refine aw_iload_n C dc_L_paths_4 rfl ?_
  refine aw_iload_n C dc_L_paths_5 rfl ?_
  refine aw_iload_n C dc_L_paths_6 rfl ?_
  refine kq_Xi (ws := sy_ h cI cL cF I J sh fr en) (n := 3) (P' := ow_ D h cI cL cF I J sh fr en o O) C (fun U hW hz hq => xp_k (sA_le hho) s U hW hz hq hX.1) (sp_blind (A := ca_ h) (xp_k ca_le)) (fun H h => pa_l h) 0 sy_p0 rfl (t_paths_1 l hl D h th cI cL cF I J sh fr en ka hka xkb hx ykc) kw_484 kw_481 kw_482 kw_483 kw_1 rfl (by unfold kd_; decide) ⟨rfl, rfl, by decide, by decide⟩ rfl rfl (Nat.le_of_ble_eq_true rfl) ⟨by decide, by decide⟩ dc_L_paths_7 (fun q h => Or.inl h) (fun H h => pa_l h) (fun H H1 h hk h1 => sw_post (cI := cI) (cF := cF) ho h hk h1) [] ⟨0, 12, 15, 13⟩ [] (htb.trans rfl) (fun z hz => nomatch hz) (by decide) (by decide) kw_138 (hX.1.2.1 _ (by decide +kernel)) (fun q9 => ?_)
  refine aw_astore C dc_L_paths_15 (by decide) rfl ?_
  refine aw_iconst C dc_L_paths_17 (v := nI 1) rfl ?_
  exact aw_ret2 (aw_iret C hr dc_L_paths_18 (fun t h _ => ⟨(), rfl, h⟩))
set_option maxHeartbeats 4000000 in
set_option maxRecDepth 100000 in
theorem lt_paths_2 (l : Launch) (hl : l.stackTraces = false) (D : va_G) (h th : Nat) (cI cL cF : ClassId) (I : Nat → Nat → Int32) (J : Nat → Nat → Int64) (sh : Nat → Nat) (fr : Nat) (en : Int32) (ka : Nat) (hka : ka < 10) (kb : Nat) (hkb : kb < 7) (xkc : Int32) (hx : xkc < 0 ∨ nI 7 ≤ xkc) (o : Nat) (O : Nat → Int64) (ho : ¬ ca_ h o) (hho : h ≤ o) : kh_ l my_L_paths (Cond.codeWith my_L_paths bc_L_paths 6 (some .int) [(0, 12, 15, 13)] :: tw_) { frames := 41, cells := 1, slots := 6, locals := 2040 } D (ty_s cI cL cF) (xq_ h th) (sA_ h o) [.ref h, .int (nI ka), .int (nI kb), .int xkc, .ref o] (ow_ D h cI cL cF I J sh fr en o O) (ow_ D h cI cL cF I J sh fr en o O) (nI 1) := by
  refine aw_metH (A := sA_ h o) (own := "FamilyShelfLaw") (by decide) rfl rfl (Nat.le_of_ble_eq_true rfl) ?_
  intro p9 e s m args below meth c C hr htb hX hP0
  refine aw_lw (lw' := [some (.ref h), some (.int (nI ka)), some (.int (nI kb)), some (.int xkc), some (.ref o), none]) rfl ?_
  refine aw_aload C dc_L_paths_0 rfl ?_
  refine aw_iconst C dc_L_paths_2 (v := nI 0) rfl ?_
  refine aw_aload_n C dc_L_paths_3 rfl ?_
  refine aw_iload_n C dc_L_paths_4 rfl ?_
  refine aw_iload_n C dc_L_paths_5 rfl ?_
  refine aw_iload_n C dc_L_paths_6 rfl ?_
  refine kq_Xi (ws := sy_ h cI cL cF I J sh fr en) (n := 3) (P' := ow_ D h cI cL cF I J sh fr en o O) C (fun U hW hz hq => xp_k (sA_le hho) s U hW hz hq hX.1) (sp_blind (A := ca_ h) (xp_k ca_le)) (fun H h => pa_l h) 0 sy_p0 rfl (t_paths_2 l hl D h th cI cL cF I J sh fr en ka hka kb hkb xkc hx) kw_484 kw_481 kw_482 kw_483 kw_1 rfl (by unfold kd_; decide) ⟨rfl, rfl, by decide, by decide⟩ rfl rfl (Nat.le_of_ble_eq_true rfl) ⟨by decide, by decide⟩ dc_L_paths_7 (fun q h => Or.inl h) (fun H h => pa_l h) (fun H H1 h hk h1 => sw_post (cI := cI) (cF := cF) ho h hk h1) [] ⟨0, 12, 15, 13⟩ [] (htb.trans rfl) (fun z hz => nomatch hz) (by decide) (by decide) kw_138 (hX.1.2.1 _ (by decide +kernel)) (fun q9 => ?_)
  refine aw_astore C dc_L_paths_15 (by decide) rfl ?_
  refine aw_iconst C dc_L_paths_17 (v := nI 1) rfl ?_
  exact aw_ret2 (aw_iret C hr dc_L_paths_18 (fun t h _ => ⟨(), rfl, h⟩))
set_option maxHeartbeats 4000000 in
set_option maxRecDepth 100000 in
theorem lt_weight_0 (l : Launch) (hl : l.stackTraces = false) (D : va_G) (h th : Nat) (cI cL cF : ClassId) (I : Nat → Nat → Int32) (J : Nat → Nat → Int64) (sh : Nat → Nat) (fr : Nat) (en : Int32) (xka : Int32) (hx : xka < 0 ∨ nI 12 ≤ xka) (ykb : Int32) (o : Nat) (O : Nat → Int64) (ho : ¬ ca_ h o) (hho : h ≤ o) : kh_ l my_L_weight (Cond.codeWith my_L_weight bc_L_weight 5 (some .int) [(0, 10, 13, 13), (0, 10, 17, 15)] :: tw_) { frames := 41, cells := 1, slots := 6, locals := 2040 } D (ty_s cI cL cF) (xq_ h th) (sA_ h o) [.ref h, .int xka, .int ykb, .ref o] (ow_ D h cI cL cF I J sh fr en o O) (ow_ D h cI cL cF I J sh fr en o O) (nI 1) := by
  refine aw_metH (A := sA_ h o) (own := "FamilyShelfLaw") (by decide) rfl rfl (Nat.le_of_ble_eq_true rfl) ?_
  intro p9 e s m args below meth c C hr htb hX hP0
  refine aw_lw (lw' := [some (.ref h), some (.int xka), some (.int ykb), some (.ref o), none]) rfl ?_
  refine aw_aload_n C dc_L_weight_0 rfl ?_
  refine aw_iconst C dc_L_weight_1 (v := nI 0) rfl ?_
  refine aw_aload_n C dc_L_weight_2 rfl ?_
  refine aw_iload_n C dc_L_weight_3 rfl ?_
  refine aw_iload_n C dc_L_weight_4 rfl ?_
  refine kq_Xi (ws := sy_ h cI cL cF I J sh fr en) (n := 2) (P' := ow_ D h cI cL cF I J sh fr en o O) C (fun U hW hz hq => xp_k (sA_le hho) s U hW hz hq hX.1) (sp_blind (A := ca_ h) (xp_k ca_le)) (fun H h => pa_l h) 0 sy_p0 rfl (t_weight_0 l hl D h th cI cL cF I J sh fr en xka hx ykb) kw_515 kw_512 kw_513 kw_514 kw_1 rfl (by unfold kd_; decide) ⟨rfl, rfl, by decide, by decide⟩ rfl rfl (Nat.le_of_ble_eq_true rfl) ⟨by decide, by decide⟩ dc_L_weight_5 (fun q h => Or.inl h) (fun H h => pa_l h) (fun H H1 h hk h1 => sw_post (cI := cI) (cF := cF) ho h hk h1) [] ⟨0, 10, 13, 13⟩ [⟨0, 10, 17, 15⟩] (htb.trans rfl) (fun z hz => nomatch hz) (by decide) (by decide) kw_138 (hX.1.2.1 _ (by decide +kernel)) (fun q9 => ?_)
  refine aw_astore C dc_L_weight_13 (by decide) rfl ?_
  refine aw_iconst C dc_L_weight_15 (v := nI 1) rfl ?_
  exact aw_ret2 (aw_iret C hr dc_L_weight_16 (fun t h _ => ⟨(), rfl, h⟩))
set_option maxHeartbeats 4000000 in
set_option maxRecDepth 100000 in
theorem lt_weight_1 (l : Launch) (hl : l.stackTraces = false) (D : va_G) (h th : Nat) (cI cL cF : ClassId) (I : Nat → Nat → Int32) (J : Nat → Nat → Int64) (sh : Nat → Nat) (fr : Nat) (en : Int32) (ka : Nat) (hka : ka < 12) (xkb : Int32) (hx : xkb < (-99) ∨ (nI 99) < xkb) (o : Nat) (O : Nat → Int64) (ho : ¬ ca_ h o) (hho : h ≤ o) : kh_ l my_L_weight (Cond.codeWith my_L_weight bc_L_weight 5 (some .int) [(0, 10, 13, 13), (0, 10, 17, 15)] :: tw_) { frames := 41, cells := 1, slots := 6, locals := 2040 } D (ty_s cI cL cF) (xq_ h th) (sA_ h o) [.ref h, .int (nI ka), .int xkb, .ref o] (ow_ D h cI cL cF I J sh fr en o O) (ow_ D h cI cL cF I J sh fr en o O) (nI 2) := by
  refine aw_metH (A := sA_ h o) (own := "FamilyShelfLaw") (by decide) rfl rfl (Nat.le_of_ble_eq_true rfl) ?_
  intro p9 e s m args below meth c C hr htb hX hP0
  refine aw_lw (lw' := [some (.ref h), some (.int (nI ka)), some (.int xkb), some (.ref o), none]) rfl ?_
  refine aw_aload_n C dc_L_weight_0 rfl ?_
  refine aw_iconst C dc_L_weight_1 (v := nI 0) rfl ?_
  refine aw_aload_n C dc_L_weight_2 rfl ?_
  refine aw_iload_n C dc_L_weight_3 rfl ?_
  refine aw_iload_n C dc_L_weight_4 rfl ?_
  refine kq_Xi (ws := sy_ h cI cL cF I J sh fr en) (n := 2) (P' := ow_ D h cI cL cF I J sh fr en o O) C (fun U hW hz hq => xp_k (sA_le hho) s U hW hz hq hX.1) (sp_blind (A := ca_ h) (xp_k ca_le)) (fun H h => pa_l h) 0 sy_p0 rfl (t_weight_1 l hl D h th cI cL cF I J sh fr en ka hka xkb hx) kw_515 kw_512 kw_513 kw_514 kw_1 rfl (by unfold kd_; decide) ⟨rfl, rfl, by decide, by decide⟩ rfl rfl (Nat.le_of_ble_eq_true rfl) ⟨by decide, by decide⟩ dc_L_weight_5 (fun q h => Or.inl h) (fun H h => pa_l h) (fun H H1 h hk h1 => sw_post (cI := cI) (cF := cF) ho h hk h1) [⟨0, 10, 13, 13⟩] ⟨0, 10, 17, 15⟩ [] (htb.trans rfl) (fun z hz => by rcases List.mem_singleton.mp hz with rfl; exact Or.inr ⟨by decide, "java/lang/IndexOutOfBoundsException", (C.1.2.2.2.2 _ (List.mem_cons_of_mem _ kw_138)), hX.2.1⟩) (by decide) (by decide) kw_139 (hX.1.2.1 _ (by decide +kernel)) (fun q9 => ?_)
  refine aw_astore C dc_L_weight_17 (by decide) rfl ?_
  refine aw_iconst C dc_L_weight_19 (v := nI 2) rfl ?_
  exact aw_ret2 (aw_iret C hr dc_L_weight_20 (fun t h _ => ⟨(), rfl, h⟩))
set_option maxHeartbeats 4000000 in
set_option maxRecDepth 100000 in
theorem lt_edge_3 (l : Launch) (hl : l.stackTraces = false) (D : va_G) (h th : Nat) (cI cL cF : ClassId) (I : Nat → Nat → Int32) (J : Nat → Nat → Int64) (sh : Nat → Nat) (fr : Nat) (en : Int32) (a : Nat) (ha : a < 12) (u : Nat) (hu : u < 7) (o : Nat) (O : Nat → Int64) (ho : ¬ ca_ h o) (hho : h ≤ o) : kh_ l my_L_edge (Cond.codeWith my_L_edge bc_L_edge 5 (some .int) [(0, 7, 10, 13), (0, 7, 14, 15)] :: tw_) { frames := 41, cells := 1, slots := 6, locals := 2040 } D (ty_s cI cL cF) (xq_ h th) (sA_ h o) [.ref h, .int (nI a), .int (nI u), .int (nI u)] (ow_ D h cI cL cF I J sh fr en o O) (ow_ D h cI cL cF I J sh fr en o O) (nI 2) := by
  refine aw_metH (A := sA_ h o) (own := "FamilyShelfLaw") (by decide) rfl rfl (Nat.le_of_ble_eq_true rfl) ?_
  intro p9 e s m args below meth c C hr htb hX hP0
  refine aw_lw (lw' := [some (.ref h), some (.int (nI a)), some (.int (nI u)), some (.int (nI u)), none]) rfl ?_
  refine aw_aload_n C dc_L_edge_0 rfl ?_
  refine aw_iload_n C dc_L_edge_1 rfl ?_
  refine aw_iload_n C dc_L_edge_2 rfl ?_
  refine aw_iload_n C dc_L_edge_3 rfl ?_
  refine kq_Xv (ws := sy_ h cI cL cF I J sh fr en) (n := 3) (P' := ow_ D h cI cL cF I J sh fr en o O) C (fun U hW hz hq => xp_k (sA_le hho) s U hW hz hq hX.1) (sp_blind (A := ca_ h) (xp_k ca_le)) (fun H h => pa_l h) 0 sy_p0 rfl (t_edge_3 l hl D h th cI cL cF I J sh fr en a ha u hu) kw_458 kw_455 kw_456 kw_457 kw_1 rfl (by unfold kd_; decide) ⟨rfl, rfl, by decide, by decide⟩ rfl rfl (Nat.le_of_ble_eq_true rfl) ⟨by decide, by decide⟩ dc_L_edge_4 (fun q h => Or.inl h) (fun H h => pa_l h) (fun H H1 h hk h1 => sw_post (cI := cI) (cF := cF) ho h hk h1) [⟨0, 7, 10, 13⟩] ⟨0, 7, 14, 15⟩ [] (htb.trans rfl) (fun z hz => by rcases List.mem_singleton.mp hz with rfl; exact Or.inr ⟨by decide, "java/lang/IndexOutOfBoundsException", (C.1.2.2.2.2 _ (List.mem_cons_of_mem _ kw_138)), hX.2.1⟩) (by decide) (by decide) kw_139 (hX.1.2.1 _ (by decide +kernel)) (fun q9 => ?_)
  refine aw_astore C dc_L_edge_14 (by decide) rfl ?_
  refine aw_iconst C dc_L_edge_16 (v := nI 2) rfl ?_
  exact aw_ret2 (aw_iret C hr dc_L_edge_17 (fun t h _ => ⟨(), rfl, h⟩))
set_option maxHeartbeats 4000000 in
set_option maxRecDepth 100000 in
theorem lt_combine_d7 (l : Launch) (hl : l.stackTraces = false) (D : va_G) (h th : Nat) (cI cL cF : ClassId) (I : Nat → Nat → Int32) (J : Nat → Nat → Int64) (sh : Nat → Nat) (fr : Nat) (en : Int32) (hs : shok_ sh fr) (i : Nat) (hi : i < 10) (fa : Nat) (hfa : fa < 10) (gb : Nat) (hgb : gb < 10) (hz : tw64_ (J (sh gb + 1)) 64 = 0) (o : Nat) (O : Nat → Int64) (ho : ¬ ca_ h o) (hho : h ≤ o) : kh_ l my_L_combine (Cond.codeWith my_L_combine bc_L_combine 7 (some .int) [(0, 14, 17, 13), (0, 14, 21, 15), (0, 14, 25, 28)] :: tw_) { frames := 41, cells := 1, slots := 6, locals := 2040 } D (ty_s cI cL cF) (xq_ h th) (sA_ h o) [.ref h, .int (nI i), .int (nI 7), .int (nI fa), .int (nI gb), .ref o] (ow_ D h cI cL cF I J sh fr en o O) (ow_ D h cI cL cF I J sh fr en o O) (nI 3) := by
  refine aw_metH (A := sA_ h o) (own := "FamilyShelfLaw") (by decide) rfl rfl (Nat.le_of_ble_eq_true rfl) ?_
  intro p9 e s m args below meth c C hr htb hX hP0
  refine aw_lw (lw' := [some (.ref h), some (.int (nI i)), some (.int (nI 7)), some (.int (nI fa)), some (.int (nI gb)), some (.ref o), none]) rfl ?_
  refine aw_aload C dc_L_combine_0 rfl ?_
  refine aw_iconst C dc_L_combine_2 (v := nI 0) rfl ?_
  refine aw_aload_n C dc_L_combine_3 rfl ?_
  refine aw_iload_n C dc_L_combine_4 rfl ?_
  refine aw_iload_n C dc_L_combine_5 rfl ?_
  refine aw_iload_n C dc_L_combine_6 rfl ?_
  refine aw_iload C dc_L_combine_7 rfl ?_
  refine kq_Xi (ws := sy_ h cI cL cF I J sh fr en) (n := 4) (P' := ow_ D h cI cL cF I J sh fr en o O) C (fun U hW hz hq => xp_k (sA_le hho) s U hW hz hq hX.1) (sp_blind (A := ca_ h) (xp_k ca_le)) (fun H h => pa_l h) 0 sy_p0 rfl (t_combine_d7 l hl D h th cI cL cF I J sh fr en hs i hi fa hfa gb hgb hz) kw_299 kw_296 kw_297 kw_298 kw_1 rfl (by unfold kd_; decide) ⟨rfl, rfl, by decide, by decide⟩ rfl rfl (Nat.le_of_ble_eq_true rfl) ⟨by decide, by decide⟩ dc_L_combine_9 (fun q h => Or.inl h) (fun H h => pa_l h) (fun H H1 h hk h1 => sw_post (cI := cI) (cF := cF) ho h hk h1) [⟨0, 14, 17, 13⟩, ⟨0, 14, 21, 15⟩] ⟨0, 14, 25, 28⟩ [] (htb.trans rfl) (fun z hz => by rcases List.mem_cons.mp hz with rfl | hz; exact Or.inr ⟨by decide, "java/lang/IndexOutOfBoundsException", (C.1.2.2.2.2 _ (List.mem_cons_of_mem _ kw_138)), hX.2.2.1⟩; rcases List.mem_singleton.mp hz with rfl; exact Or.inr ⟨by decide, "java/lang/IllegalArgumentException", (C.1.2.2.2.2 _ (List.mem_cons_of_mem _ kw_139)), hX.2.2.2.1⟩) (by decide) (by decide) kw_295 (hX.1.2.1 _ (by decide +kernel)) (fun q9 => ?_)
  refine aw_astore C dc_L_combine_25 (by decide) rfl ?_
  refine aw_iconst C dc_L_combine_27 (v := nI 3) rfl ?_
  exact aw_ret2 (aw_iret C hr dc_L_combine_28 (fun t h _ => ⟨(), rfl, h⟩))
set_option maxHeartbeats 4000000 in
set_option maxRecDepth 100000 in
theorem lt_combine_d8 (l : Launch) (hl : l.stackTraces = false) (D : va_G) (h th : Nat) (cI cL cF : ClassId) (I : Nat → Nat → Int32) (J : Nat → Nat → Int64) (sh : Nat → Nat) (fr : Nat) (en : Int32) (hs : shok_ sh fr) (i : Nat) (hi : i < 10) (fa : Nat) (hfa : fa < 10) (gb : Nat) (hgb : gb < 10) (hz : tw64_ (J (sh gb + 1)) 64 = 0) (o : Nat) (O : Nat → Int64) (ho : ¬ ca_ h o) (hho : h ≤ o) : kh_ l my_L_combine (Cond.codeWith my_L_combine bc_L_combine 7 (some .int) [(0, 14, 17, 13), (0, 14, 21, 15), (0, 14, 25, 28)] :: tw_) { frames := 41, cells := 1, slots := 6, locals := 2040 } D (ty_s cI cL cF) (xq_ h th) (sA_ h o) [.ref h, .int (nI i), .int (nI 8), .int (nI fa), .int (nI gb), .ref o] (ow_ D h cI cL cF I J sh fr en o O) (ow_ D h cI cL cF I J sh fr en o O) (nI 3) := by
  refine aw_metH (A := sA_ h o) (own := "FamilyShelfLaw") (by decide) rfl rfl (Nat.le_of_ble_eq_true rfl) ?_
  intro p9 e s m args below meth c C hr htb hX hP0
  refine aw_lw (lw' := [some (.ref h), some (.int (nI i)), some (.int (nI 8)), some (.int (nI fa)), some (.int (nI gb)), some (.ref o), none]) rfl ?_
  refine aw_aload C dc_L_combine_0 rfl ?_
  refine aw_iconst C dc_L_combine_2 (v := nI 0) rfl ?_
  refine aw_aload_n C dc_L_combine_3 rfl ?_
  refine aw_iload_n C dc_L_combine_4 rfl ?_
  refine aw_iload_n C dc_L_combine_5 rfl ?_
  refine aw_iload_n C dc_L_combine_6 rfl ?_
  refine aw_iload C dc_L_combine_7 rfl ?_
  refine kq_Xi (ws := sy_ h cI cL cF I J sh fr en) (n := 4) (P' := ow_ D h cI cL cF I J sh fr en o O) C (fun U hW hz hq => xp_k (sA_le hho) s U hW hz hq hX.1) (sp_blind (A := ca_ h) (xp_k ca_le)) (fun H h => pa_l h) 0 sy_p0 rfl (t_combine_d8 l hl D h th cI cL cF I J sh fr en hs i hi fa hfa gb hgb hz) kw_299 kw_296 kw_297 kw_298 kw_1 rfl (by unfold kd_; decide) ⟨rfl, rfl, by decide, by decide⟩ rfl rfl (Nat.le_of_ble_eq_true rfl) ⟨by decide, by decide⟩ dc_L_combine_9 (fun q h => Or.inl h) (fun H h => pa_l h) (fun H H1 h hk h1 => sw_post (cI := cI) (cF := cF) ho h hk h1) [⟨0, 14, 17, 13⟩, ⟨0, 14, 21, 15⟩] ⟨0, 14, 25, 28⟩ [] (htb.trans rfl) (fun z hz => by rcases List.mem_cons.mp hz with rfl | hz; exact Or.inr ⟨by decide, "java/lang/IndexOutOfBoundsException", (C.1.2.2.2.2 _ (List.mem_cons_of_mem _ kw_138)), hX.2.2.1⟩; rcases List.mem_singleton.mp hz with rfl; exact Or.inr ⟨by decide, "java/lang/IllegalArgumentException", (C.1.2.2.2.2 _ (List.mem_cons_of_mem _ kw_139)), hX.2.2.2.1⟩) (by decide) (by decide) kw_295 (hX.1.2.1 _ (by decide +kernel)) (fun q9 => ?_)
  refine aw_astore C dc_L_combine_25 (by decide) rfl ?_
  refine aw_iconst C dc_L_combine_27 (v := nI 3) rfl ?_
  exact aw_ret2 (aw_iret C hr dc_L_combine_28 (fun t h _ => ⟨(), rfl, h⟩))
set_option maxHeartbeats 4000000 in
set_option maxRecDepth 100000 in
theorem lt_heaviest_1 (l : Launch) (hl : l.stackTraces = false) (D : va_G) (h th : Nat) (cI cL cF : ClassId) (I : Nat → Nat → Int32) (J : Nat → Nat → Int64) (sh : Nat → Nat) (fr : Nat) (en : Int32) (hs : shok_ sh fr) (i : Nat) (hi : i < 10) (hq : (hp_ (J (sh i + 1)) (hs_ I) 4096).1 = -1) (o : Nat) (O : Nat → Int64) (ho : ¬ ca_ h o) (hho : h ≤ o) : kh_ l my_L_heaviest (Cond.codeWith my_L_heaviest bc_L_heaviest 4 (some .int) [(0, 9, 12, 13), (0, 9, 15, 74)] :: tw_) { frames := 41, cells := 1, slots := 6, locals := 2040 } D (ty_s cI cL cF) (xq_ h th) (sA_ h o) [.ref h, .int (nI i), .ref o] (ow_ D h cI cL cF I J sh fr en o O) (ow_ D h cI cL cF (hI_ I) J sh fr en o O) (nI 2) := by
  refine aw_metH (A := sA_ h o) (own := "FamilyShelfLaw") (by decide) rfl rfl (Nat.le_of_ble_eq_true rfl) ?_
  intro p9 e s m args below meth c C hr htb hX hP0
  refine aw_lw (lw' := [some (.ref h), some (.int (nI i)), some (.ref o), none]) rfl ?_
  refine aw_aload_n C dc_L_heaviest_0 rfl ?_
  refine aw_iconst C dc_L_heaviest_1 (v := nI 0) rfl ?_
  refine aw_aload_n C dc_L_heaviest_2 rfl ?_
  refine aw_iload_n C dc_L_heaviest_3 rfl ?_
  refine kq_Xi (ws := sy_ h cI cL cF I J sh fr en) (n := 1) (P' := ow_ D h cI cL cF (hI_ I) J sh fr en o O) C (fun U hW hz hq => xp_k (sA_le hho) s U hW hz hq hX.1) (sp_blind (A := ca_ h) (xp_k ca_le)) (fun H h => pa_l h) 0 sy_p0 rfl (t_heaviest_1 l hl D h th cI cL cF I J sh fr en hs i hi hq) kw_566 kw_563 kw_564 kw_565 kw_1 rfl (by unfold kd_; decide) ⟨rfl, rfl, by decide, by decide⟩ rfl rfl (Nat.le_of_ble_eq_true rfl) ⟨by decide, by decide⟩ dc_L_heaviest_4 (fun q h => Or.inl h) (fun H h => pa_l h) (fun H H1 h hk h1 => sw_post (cI := cI) (cF := cF) ho h hk h1) [⟨0, 9, 12, 13⟩] ⟨0, 9, 15, 74⟩ [] (htb.trans rfl) (fun z hz => by rcases List.mem_singleton.mp hz with rfl; exact Or.inr ⟨by decide, "java/lang/IndexOutOfBoundsException", (C.1.2.2.2.2 _ (List.mem_cons_of_mem _ kw_138)), hX.2.2.2.2⟩) (by decide) (by decide) kw_562 (hX.1.2.1 _ (by decide +kernel)) (fun q9 => ?_)
  refine aw_astore_n C dc_L_heaviest_15 (by decide) rfl ?_
  refine aw_iconst C dc_L_heaviest_16 (v := nI 2) rfl ?_
  exact aw_ret2 (aw_iret C hr dc_L_heaviest_17 (fun t h _ => ⟨(), rfl, h⟩))
