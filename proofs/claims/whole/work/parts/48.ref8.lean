set_option maxHeartbeats 4000000 in
set_option maxRecDepth 100000 in
theorem m_areEdges (l : Launch) (D : va_G) (a : Nat) (cI cL cF : ClassId) (t : Int32) (S K Qt : Nat → Int64) (O1 O2 En Ot Wt : Nat → Int32) (n : Nat) (hn : n < 4096) : ki_ l my_M_areEdges (Cond.code my_M_areEdges bc_M_areEdges 4 (some .boolean) :: tw_) rm0 D (ty_s cI cL cF) (fun _ => True) (cm_ a) [.ref a, .int (nI n)] (rp_ D a cI cL t S K Qt O1 O2 En Ot Wt) (rp_ D a cI cL t S K Qt O1 O2 En Ot Wt) (z1_ (fa_ (aef_ En n) 12)) := by
  refine aw_met (A := cm_ a) (own := "FamilyShelfModel") (by decide) rfl rfl (Nat.le_of_ble_eq_true rfl) ?_
  intro p9 e s m args below meth c C hr hX hP0
  refine aw_lw (lw' := [some (.ref a), some (.int (nI n)), none, none]) rfl ?_
  refine aw_iconst C dc_M_areEdges_0 (v := nI 1) rfl ?_
  refine aw_istore_n C dc_M_areEdges_1 (by decide) rfl ?_
  refine aw_iconst C dc_M_areEdges_2 (v := nI 0) rfl ?_
  refine aw_istore_n C dc_M_areEdges_3 (by decide) rfl ?_
  refine aw_loop (fun k => rp_ D a cI cL t S K Qt O1 O2 En Ot Wt) (fun k => [some (.ref a), some (.int (nI n)), some (.int (z1_ (fa_ (aef_ En n) k))), some (.int (nI k))]) 12 ?_ (fun k hk ih => ?_)
  · refine aw_iload_n C dc_M_areEdges_4 rfl ?_
    refine aw_bipush C dc_M_areEdges_5 (v := nI 12) rfl ?_
    refine aw_icmp_ge C dc_M_areEdges_7 (tgt := 43) (by decide) (fun _ => ?_) (fun h9 => absurd (nI_le (Nat.le_refl _) (by decide)) h9)
    refine aw_iload_n C dc_M_areEdges_43 rfl ?_
    exact kc_zret C hr (z1_01 _) rfl (fun _ h => h) dc_M_areEdges_44
  · refine aw_iload_n C dc_M_areEdges_4 rfl ?_
    refine aw_bipush C dc_M_areEdges_5 (v := nI 12) rfl ?_
    refine aw_icmp_ge C dc_M_areEdges_7 (tgt := 43) (by decide) (fun h9 => absurd h9 (nI_ge hk (by decide))) (fun _ => ?_)
    refine aw_iload_n C dc_M_areEdges_10 rfl ?_
    refine aw_if_eq C dc_M_areEdges_11 (tgt := 35) (by decide) (fun hB11 => ?_) (fun hB11 => ?_)
    · have hs : (fa_ (aef_ En n) (k + 1)) = false := by rw [fa_, z1_0.mp hB11]; rfl
      refine aw_iconst C dc_M_areEdges_35 (v := nI 0) rfl ?_
      refine aw_eqi (show nI 0 = z1_ ((fa_ (aef_ En n) (k + 1))) from by rw [hs]; decide) ?_
      refine aw_istore_n C dc_M_areEdges_36 (by decide) rfl ?_
      refine aw_iinc C dc_M_areEdges_37 rfl (ni_inc _) (by decide) rfl ?_
      refine aw_goto C dc_M_areEdges_40 (tgt := 4) (by decide) ?_
      exact ih
    · have h5 := z1_n.mp hB11
      refine aw_iload_n C dc_M_areEdges_14 rfl ?_
      refine aw_iload_n C dc_M_areEdges_15 rfl ?_
      refine aw_ishr C dc_M_areEdges_16 ?_
      refine aw_iconst C dc_M_areEdges_17 (v := nI 1) rfl ?_
      refine aw_iand C dc_M_areEdges_18 ?_
      refine aw_eqi (ni_tb (by omega) (by omega)) ?_
      refine aw_if_eq C dc_M_areEdges_19 (tgt := 31) (by decide) (fun hB19 => ?_) (fun hB19 => ?_)
      · have hb : n.testBit k = false := by
          cases h9 : n.testBit k
          · rfl
          · rw [h9] at hB19; exact absurd hB19 (by decide)
        have hs : (fa_ (aef_ En n) (k + 1)) = true := fa_s h5 (by unfold aef_; rw [hb]; rfl)
        refine aw_iconst C dc_M_areEdges_31 (v := nI 1) rfl ?_
        refine aw_eqi (show nI 1 = z1_ ((fa_ (aef_ En n) (k + 1))) from by rw [hs]; decide) ?_
        refine aw_goto C dc_M_areEdges_32 (tgt := 36) (by decide) ?_
        refine aw_istore_n C dc_M_areEdges_36 (by decide) rfl ?_
        refine aw_iinc C dc_M_areEdges_37 rfl (ni_inc _) (by decide) rfl ?_
        refine aw_goto C dc_M_areEdges_40 (tgt := 4) (by decide) ?_
        exact ih
      · have hb : n.testBit k = true := by
          cases h9 : n.testBit k
          · rw [h9] at hB19; exact absurd rfl hB19
          · rfl
        refine aw_aload_n C dc_M_areEdges_22 rfl ?_
        refine aw_get C (fun w h => List.mem_cons_of_mem _ (ly_M w h)) 0 rf_p0 rfl 6 (by decide) (C.1.2.2.2.2 _ (List.mem_cons_of_mem _ kw_642)) (fun _ h => h) rfl dc_M_areEdges_23 ?_
        refine aw_iload_n C dc_M_areEdges_26 rfl ?_
        refine aw_iald C 6 0 rf_p6 rfl k rfl (by omega) (by decide) dc_M_areEdges_27 ?_
        refine aw_if_lt C dc_M_areEdges_28 (tgt := 35) (by decide) (fun hB28 => ?_) (fun hB28 => ?_)
        · have hs : (fa_ (aef_ En n) (k + 1)) = false := by rw [fa_, h5]; unfold aef_; rw [hb, decide_eq_true hB28]; rfl
          refine aw_iconst C dc_M_areEdges_35 (v := nI 0) rfl ?_
          refine aw_eqi (show nI 0 = z1_ ((fa_ (aef_ En n) (k + 1))) from by rw [hs]; decide) ?_
          refine aw_istore_n C dc_M_areEdges_36 (by decide) rfl ?_
          refine aw_iinc C dc_M_areEdges_37 rfl (ni_inc _) (by decide) rfl ?_
          refine aw_goto C dc_M_areEdges_40 (tgt := 4) (by decide) ?_
          exact ih
        · have hs : (fa_ (aef_ En n) (k + 1)) = true := fa_s h5 (by unfold aef_; rw [hb, decide_eq_false hB28]; rfl)
          refine aw_iconst C dc_M_areEdges_31 (v := nI 1) rfl ?_
          refine aw_eqi (show nI 1 = z1_ ((fa_ (aef_ En n) (k + 1))) from by rw [hs]; decide) ?_
          refine aw_goto C dc_M_areEdges_32 (tgt := 36) (by decide) ?_
          refine aw_istore_n C dc_M_areEdges_36 (by decide) rfl ?_
          refine aw_iinc C dc_M_areEdges_37 rfl (ni_inc _) (by decide) rfl ?_
          refine aw_goto C dc_M_areEdges_40 (tgt := 4) (by decide) ?_
          exact ih
set_option maxHeartbeats 4000000 in
set_option maxRecDepth 100000 in
theorem m_onlyEdge (l : Launch) (D : va_G) (a : Nat) (cI cL cF : ClassId) (t : Int32) (S K Qt : Nat → Int64) (O1 O2 En Ot Wt : Nat → Int32) (n : Nat) (hn : n < 4096) (v : Int32) : ki_ l my_M_onlyEdge (Cond.code my_M_onlyEdge bc_M_onlyEdge 6 (some .int) :: tw_) rm0 D (ty_s cI cL cF) (fun _ => True) (cm_ a) [.ref a, .int (nI n), .int v] (rp_ D a cI cL t S K Qt O1 O2 En Ot Wt) (rp_ D a cI cL t S K Qt O1 O2 En Ot Wt) (oer_ En Ot n v) := by
  refine aw_met (A := cm_ a) (own := "FamilyShelfModel") (by decide) rfl rfl (Nat.le_of_ble_eq_true rfl) ?_
  intro p9 e s m args below meth c C hr hX hP0
  refine aw_lw (lw' := [some (.ref a), some (.int (nI n)), some (.int v), none, none, none]) rfl ?_
  refine aw_iconst C dc_M_onlyEdge_0 (v := (-1)) rfl ?_
  refine aw_istore_n C dc_M_onlyEdge_1 (by decide) rfl ?_
  refine aw_iconst C dc_M_onlyEdge_2 (v := nI 0) rfl ?_
  refine aw_istore C dc_M_onlyEdge_3 (by decide) rfl ?_
  refine aw_iconst C dc_M_onlyEdge_5 (v := nI 0) rfl ?_
  refine aw_istore C dc_M_onlyEdge_6 (by decide) rfl ?_
  refine aw_loop (fun k => rp_ D a cI cL t S K Qt O1 O2 En Ot Wt) (fun k => [some (.ref a), some (.int (nI n)), some (.int v), some (.int (oe_ En Ot n v k).1), some (.int (nI (oe_ En Ot n v k).2)), some (.int (nI k))]) 12 ?_ (fun k hk ih => ?_)
  · refine aw_iload C dc_M_onlyEdge_8 rfl ?_
    refine aw_bipush C dc_M_onlyEdge_10 (v := nI 12) rfl ?_
    refine aw_icmp_ge C dc_M_onlyEdge_12 (tgt := 59) (by decide) (fun _ => ?_) (fun h9 => absurd (nI_le (Nat.le_refl _) (by decide)) h9)
    refine aw_iload C dc_M_onlyEdge_59 rfl ?_
    refine aw_iconst C dc_M_onlyEdge_61 (v := nI 1) rfl ?_
    refine aw_icmp_ne C dc_M_onlyEdge_62 (tgt := 69) (by decide) (fun hB62 => ?_) (fun hB62 => ?_)
    · have h1 : ¬ (oe_ En Ot n v 12).2 = 1 := fun h9 => hB62 (congrArg nI h9)
      refine aw_iconst C dc_M_onlyEdge_69 (v := (-1)) rfl ?_
      exact kc_iret C hr (by unfold oer_; first | rw [if_pos h1] | rw [if_neg h1]) (fun _ h => h) dc_M_onlyEdge_70
    · have h1 : (oe_ En Ot n v 12).2 = 1 := (nI_eq (by have := oe_le (En := En) (Ot := Ot) (n := n) (v := v) 12; omega) (by decide)).mp hB62
      refine aw_iload_n C dc_M_onlyEdge_65 rfl ?_
      refine aw_goto C dc_M_onlyEdge_66 (tgt := 70) (by decide) ?_
      exact kc_iret C hr (by unfold oer_; first | rw [if_pos h1] | rw [if_neg h1]) (fun _ h => h) dc_M_onlyEdge_70
  · refine aw_iload C dc_M_onlyEdge_8 rfl ?_
    refine aw_bipush C dc_M_onlyEdge_10 (v := nI 12) rfl ?_
    refine aw_icmp_ge C dc_M_onlyEdge_12 (tgt := 59) (by decide) (fun h9 => absurd h9 (nI_ge hk (by decide))) (fun _ => ?_)
    refine aw_iload_n C dc_M_onlyEdge_15 rfl ?_
    refine aw_iload C dc_M_onlyEdge_16 rfl ?_
    refine aw_ishr C dc_M_onlyEdge_18 ?_
    refine aw_iconst C dc_M_onlyEdge_19 (v := nI 1) rfl ?_
    refine aw_iand C dc_M_onlyEdge_20 ?_
    refine aw_eqi (ni_tb (by omega) (by omega)) ?_
    refine aw_iconst C dc_M_onlyEdge_21 (v := nI 1) rfl ?_
    refine aw_icmp_ne C dc_M_onlyEdge_22 (tgt := 53) (by decide) (fun hB22 => ?_) (fun hB22 => ?_)
    · have hb : n.testBit k = false := by
        cases h9 : n.testBit k
        · rfl
        · rw [h9] at hB22; exact absurd rfl hB22
      rw [oe_f (e := k) (by rw [hb]; rfl)] at ih
      refine aw_iinc C dc_M_onlyEdge_53 rfl (ni_inc _) (by decide) rfl ?_
      refine aw_goto C dc_M_onlyEdge_56 (tgt := 8) (by decide) ?_
      exact ih
    · have hb : n.testBit k = true := by
        cases h9 : n.testBit k
        · rw [h9] at hB22; exact absurd hB22 (by decide)
        · rfl
      refine aw_aload_n C dc_M_onlyEdge_25 rfl ?_
      refine aw_get C (fun w h => List.mem_cons_of_mem _ (ly_M w h)) 0 rf_p0 rfl 6 (by decide) (C.1.2.2.2.2 _ (List.mem_cons_of_mem _ kw_642)) (fun _ h => h) rfl dc_M_onlyEdge_26 ?_
      refine aw_iload C dc_M_onlyEdge_29 rfl ?_
      refine aw_iald C 6 0 rf_p6 rfl k rfl (by omega) (by decide) dc_M_onlyEdge_31 ?_
      refine aw_iload_n C dc_M_onlyEdge_32 rfl ?_
      refine aw_icmp_eq C dc_M_onlyEdge_33 (tgt := 47) (by decide) (fun hB33 => ?_) (fun hB33 => ?_)
      · rw [oe_t (e := k) (by rw [hb, decide_eq_true hB33]; rfl)] at ih
        refine aw_iload C dc_M_onlyEdge_47 rfl ?_
        refine aw_istore_n C dc_M_onlyEdge_49 (by decide) rfl ?_
        refine aw_iinc C dc_M_onlyEdge_50 rfl (ni_inc _) (by decide) rfl ?_
        refine aw_iinc C dc_M_onlyEdge_53 rfl (ni_inc _) (by decide) rfl ?_
        refine aw_goto C dc_M_onlyEdge_56 (tgt := 8) (by decide) ?_
        exact ih
      · refine aw_aload_n C dc_M_onlyEdge_36 rfl ?_
        refine aw_get C (fun w h => List.mem_cons_of_mem _ (ly_M w h)) 0 rf_p0 rfl 7 (by decide) (C.1.2.2.2.2 _ (List.mem_cons_of_mem _ kw_643)) (fun _ h => h) rfl dc_M_onlyEdge_37 ?_
        refine aw_iload C dc_M_onlyEdge_40 rfl ?_
        refine aw_iald C 7 0 rf_p7 rfl k rfl (by omega) (by decide) dc_M_onlyEdge_42 ?_
        refine aw_iload_n C dc_M_onlyEdge_43 rfl ?_
        refine aw_icmp_ne C dc_M_onlyEdge_44 (tgt := 53) (by decide) (fun hB44 => ?_) (fun hB44 => ?_)
        · rw [oe_f (e := k) (by rw [hb, decide_eq_false hB33, decide_eq_false hB44]; rfl)] at ih
          refine aw_iinc C dc_M_onlyEdge_53 rfl (ni_inc _) (by decide) rfl ?_
          refine aw_goto C dc_M_onlyEdge_56 (tgt := 8) (by decide) ?_
          exact ih
        · rw [oe_t (e := k) (by rw [hb, decide_eq_false hB33, decide_eq_true hB44]; rfl)] at ih
          refine aw_iload C dc_M_onlyEdge_47 rfl ?_
          refine aw_istore_n C dc_M_onlyEdge_49 (by decide) rfl ?_
          refine aw_iinc C dc_M_onlyEdge_50 rfl (ni_inc _) (by decide) rfl ?_
          refine aw_iinc C dc_M_onlyEdge_53 rfl (ni_inc _) (by decide) rfl ?_
          refine aw_goto C dc_M_onlyEdge_56 (tgt := 8) (by decide) ?_
          exact ih
set_option maxHeartbeats 4000000 in
set_option maxRecDepth 100000 in
theorem m_isPath (l : Launch) (D : va_G) (a : Nat) (cI cL cF : ClassId) (t : Int32) (S K Qt : Nat → Int64) (O1 O2 En Ot Wt : Nat → Int32) (n : Nat) (hn : n < 4096) (sv tv : Int32) : ki_ l my_M_isPath (Cond.code my_M_isPath bc_M_isPath 8 (some .boolean) :: tw_) ({ frames := 1, cells := 0, slots := 0, locals := 25 }) D (ty_s cI cL cF) (fun _ => True) (cm_ a) [.ref a, .int (nI n), .int sv, .int tv] (rp_ D a cI cL t S K Qt O1 O2 En Ot Wt) (rp_ D a cI cL t S K Qt O1 O2 En Ot Wt) (z1_ (ip_ En Ot tv 4096 (n, sv, nI 1 <<< (sv &&& 31)))) := by
  refine aw_met (A := cm_ a) (own := "FamilyShelfModel") (by decide) rfl rfl (Nat.le_of_ble_eq_true rfl) ?_
  intro p9 e s m args below meth c C hr hX hP0
  refine aw_lw (lw' := [some (.ref a), some (.int (nI n)), some (.int sv), some (.int tv), none, none, none, none]) rfl ?_
  refine aw_iload_n C dc_M_isPath_0 rfl ?_
  refine aw_istore C dc_M_isPath_1 (by decide) rfl ?_
  refine aw_iload_n C dc_M_isPath_3 rfl ?_
  refine aw_istore C dc_M_isPath_4 (by decide) rfl ?_
  refine aw_iconst C dc_M_isPath_6 (v := nI 1) rfl ?_
  refine aw_iload_n C dc_M_isPath_7 rfl ?_
  refine aw_ishl C dc_M_isPath_8 ?_
  refine aw_istore C dc_M_isPath_9 (by decide) rfl ?_
  refine aw_fuelR (fun x : Nat × Int32 × Int32 => x.1 < 4096) (fun x => x.1) (fun _ => rp_ D a cI cL t S K Qt O1 O2 En Ot Wt) (fun x => [some (.ref a), some (.int (nI n)), some (.int sv), some (.int tv), some (.int (nI x.1)), some (.int x.2.1), some (.int x.2.2), none]) (fun n x => ip_ En Ot tv n x) (ip_ En Ot tv 4096 (n, sv, nI 1 <<< (sv &&& 31))) 4096 (n, sv, nI 1 <<< (sv &&& 31)) hn hn rfl (fun n9 x hV hx hk2 hr9 => ?_)
  obtain ⟨lf, vv, bn⟩ := x
  have hlf : lf < 4096 := hV
  have hlx : lf < n9 + 1 := hx
  refine aw_iload C dc_M_isPath_11 rfl ?_
  refine aw_iload_n C dc_M_isPath_13 rfl ?_
  refine aw_icmp_eq C dc_M_isPath_14 (tgt := 99) (by decide) (fun hB14 => ?_) (fun hB14 => ?_)
  · refine aw_iload C dc_M_isPath_99 rfl ?_
    refine aw_if_ne C dc_M_isPath_101 (tgt := 108) (by decide) (fun hB101 => ?_) (fun hB101 => ?_)
    · have h0 : ¬ lf = 0 := fun h9 => hB101 (by rw [h9]; rfl)
      refine aw_iconst C dc_M_isPath_108 (v := nI 0) rfl ?_
      exact kc_zret C hr (by decide) (by rw [← hr9, ip_end hB14]; first | rw [decide_eq_true h0]; rfl | rw [decide_eq_false h0]; rfl) (fun _ h => h) dc_M_isPath_109
    · have h0 : lf = 0 := (ni_z (by omega)).mp hB101
      refine aw_iconst C dc_M_isPath_104 (v := nI 1) rfl ?_
      refine aw_goto C dc_M_isPath_105 (tgt := 109) (by decide) ?_
      exact kc_zret C hr (by decide) (by rw [← hr9, ip_end hB14]; first | rw [decide_eq_true h0]; rfl | rw [decide_eq_false h0]; rfl) (fun _ h => h) dc_M_isPath_109
  · refine aw_aload_n C dc_M_isPath_17 rfl ?_
    refine aw_iload C dc_M_isPath_18 rfl ?_
    refine aw_iload C dc_M_isPath_20 rfl ?_
    refine kc_i (fun _ h => h) (fun _ h => h) (kc_V (n := 2) C hX xk_true rfl 0 rf_p0 rfl (m_onlyEdge l D a cI cL cF t S K Qt O1 O2 En Ot Wt lf hlf vv) kw_787 kw_784 kw_786 (tw_sel (q := (my_M_onlyEdge, 9)) (by decide +kernel)) kw_8 rfl (by unfold kd_; decide) ⟨rfl, rfl, by decide, by decide⟩ rfl rfl (Nat.le_of_ble_eq_true rfl) ⟨Nat.zero_le _, Nat.zero_le _⟩ dc_M_isPath_22) ?_
    rcases oer_in En Ot lf vv with h1 | ⟨e9, he, hoe, hbit⟩
    · refine aw_eqi h1 ?_
      refine aw_istore C dc_M_isPath_25 (by decide) rfl ?_
      refine aw_iload C dc_M_isPath_27 rfl ?_
      refine aw_if_ge C dc_M_isPath_29 (tgt := 34) (by decide) (fun h9 => absurd h9 (by decide)) (fun _ => ?_)
      refine aw_iconst C dc_M_isPath_32 (v := nI 0) rfl ?_
      exact kc_zret C hr (by decide) (by rw [← hr9, ip_neg hB14 h1]; rfl) (fun _ h => h) dc_M_isPath_33
    · refine aw_eqi hoe ?_
      refine aw_istore C dc_M_isPath_25 (by decide) rfl ?_
      refine aw_iload C dc_M_isPath_27 rfl ?_
      refine aw_if_ge C dc_M_isPath_29 (tgt := 34) (by decide) (fun _ => ?_) (fun h9 => absurd (nI_pos' (by omega)) h9)
      refine aw_aload_n C dc_M_isPath_34 rfl ?_
      refine aw_get C (fun w h => List.mem_cons_of_mem _ (ly_M w h)) 0 rf_p0 rfl 6 (by decide) (C.1.2.2.2.2 _ (List.mem_cons_of_mem _ kw_642)) (fun _ h => h) rfl dc_M_isPath_35 ?_
      refine aw_iload C dc_M_isPath_38 rfl ?_
      refine aw_iald C 6 0 rf_p6 rfl e9 rfl (by omega) (by decide) dc_M_isPath_40 ?_
      refine aw_iload C dc_M_isPath_41 rfl ?_
      refine aw_icmp_ne C dc_M_isPath_43 (tgt := 56) (by decide) (fun hB43 => ?_) (fun hB43 => ?_)
      · have hgo := ip_on (n := n9) (b := bn) hB14 hoe he (if_neg hB43)
        refine aw_aload_n C dc_M_isPath_56 rfl ?_
        refine aw_get C (fun w h => List.mem_cons_of_mem _ (ly_M w h)) 0 rf_p0 rfl 6 (by decide) (C.1.2.2.2.2 _ (List.mem_cons_of_mem _ kw_642)) (fun _ h => h) rfl dc_M_isPath_57 ?_
        refine aw_iload C dc_M_isPath_60 rfl ?_
        refine aw_iald C 6 0 rf_p6 rfl e9 rfl (by omega) (by decide) dc_M_isPath_62 ?_
        refine aw_istore C dc_M_isPath_63 (by decide) rfl ?_
        refine aw_iload C dc_M_isPath_65 rfl ?_
        refine aw_iconst C dc_M_isPath_67 (v := nI 1) rfl ?_
        refine aw_iload C dc_M_isPath_68 rfl ?_
        refine aw_ishl C dc_M_isPath_70 ?_
        refine aw_eqi (ni_bit (by omega)) ?_
        refine aw_ixor C dc_M_isPath_71 ?_
        refine aw_eqi (ni_xor _ _) ?_
        refine aw_istore C dc_M_isPath_72 (by decide) rfl ?_
        refine aw_iload C dc_M_isPath_74 rfl ?_
        refine aw_iload C dc_M_isPath_76 rfl ?_
        refine aw_ishr C dc_M_isPath_78 ?_
        refine aw_iconst C dc_M_isPath_79 (v := nI 1) rfl ?_
        refine aw_iand C dc_M_isPath_80 ?_
        refine aw_iconst C dc_M_isPath_81 (v := nI 1) rfl ?_
        refine aw_icmp_ne C dc_M_isPath_82 (tgt := 87) (by decide) (fun hB82 => ?_) (fun hB82 => ?_)
        · refine aw_iload C dc_M_isPath_87 rfl ?_
          refine aw_iconst C dc_M_isPath_89 (v := nI 1) rfl ?_
          refine aw_iload C dc_M_isPath_90 rfl ?_
          refine aw_ishl C dc_M_isPath_92 ?_
          refine aw_ior C dc_M_isPath_93 ?_
          refine aw_istore C dc_M_isPath_94 (by decide) rfl ?_
          refine aw_goto C dc_M_isPath_96 (tgt := 11) (by decide) ?_
          refine aw_sub (lw' := [some (.ref a), some (.int (nI n)), some (.int sv), some (.int tv), some (.int (nI (lf ^^^ 2 ^ e9))), some (.int (En e9)), some (.int (bn ||| nI 1 <<< ((En e9) &&& 31))), none]) (by
            intro k v h
            match k, h with
            | 0, h => exact h
            | 1, h => exact h
            | 2, h => exact h
            | 3, h => exact h
            | 4, h => exact h
            | 5, h => exact h
            | 6, h => exact h
            | 7, h => exact nomatch (show (some none : Option (Option Value)) = some (some v) from h)
            | n + 8, h => exact nomatch (show (none : Option (Option Value)) = some (some v) from h)) ?_
          exact hk2 (lf ^^^ 2 ^ e9, (En e9), bn ||| nI 1 <<< ((En e9) &&& 31)) (ms_xor hlf he) (by have := xor_less hbit; show lf ^^^ 2 ^ e9 < n9; omega) (by rw [← hr9, hgo, if_neg hB82])
        · refine aw_iconst C dc_M_isPath_85 (v := nI 0) rfl ?_
          exact kc_zret C hr (by decide) (by rw [← hr9, hgo, if_pos hB82]; rfl) (fun _ h => h) dc_M_isPath_86
      · have hgo := ip_on (n := n9) (b := bn) hB14 hoe he (if_pos hB43)
        refine aw_aload_n C dc_M_isPath_46 rfl ?_
        refine aw_get C (fun w h => List.mem_cons_of_mem _ (ly_M w h)) 0 rf_p0 rfl 7 (by decide) (C.1.2.2.2.2 _ (List.mem_cons_of_mem _ kw_643)) (fun _ h => h) rfl dc_M_isPath_47 ?_
        refine aw_iload C dc_M_isPath_50 rfl ?_
        refine aw_iald C 7 0 rf_p7 rfl e9 rfl (by omega) (by decide) dc_M_isPath_52 ?_
        refine aw_goto C dc_M_isPath_53 (tgt := 63) (by decide) ?_
        refine aw_istore C dc_M_isPath_63 (by decide) rfl ?_
        refine aw_iload C dc_M_isPath_65 rfl ?_
        refine aw_iconst C dc_M_isPath_67 (v := nI 1) rfl ?_
        refine aw_iload C dc_M_isPath_68 rfl ?_
        refine aw_ishl C dc_M_isPath_70 ?_
        refine aw_eqi (ni_bit (by omega)) ?_
        refine aw_ixor C dc_M_isPath_71 ?_
        refine aw_eqi (ni_xor _ _) ?_
        refine aw_istore C dc_M_isPath_72 (by decide) rfl ?_
        refine aw_iload C dc_M_isPath_74 rfl ?_
        refine aw_iload C dc_M_isPath_76 rfl ?_
        refine aw_ishr C dc_M_isPath_78 ?_
        refine aw_iconst C dc_M_isPath_79 (v := nI 1) rfl ?_
        refine aw_iand C dc_M_isPath_80 ?_
        refine aw_iconst C dc_M_isPath_81 (v := nI 1) rfl ?_
        refine aw_icmp_ne C dc_M_isPath_82 (tgt := 87) (by decide) (fun hB82 => ?_) (fun hB82 => ?_)
        · refine aw_iload C dc_M_isPath_87 rfl ?_
          refine aw_iconst C dc_M_isPath_89 (v := nI 1) rfl ?_
          refine aw_iload C dc_M_isPath_90 rfl ?_
          refine aw_ishl C dc_M_isPath_92 ?_
          refine aw_ior C dc_M_isPath_93 ?_
          refine aw_istore C dc_M_isPath_94 (by decide) rfl ?_
          refine aw_goto C dc_M_isPath_96 (tgt := 11) (by decide) ?_
          refine aw_sub (lw' := [some (.ref a), some (.int (nI n)), some (.int sv), some (.int tv), some (.int (nI (lf ^^^ 2 ^ e9))), some (.int (Ot e9)), some (.int (bn ||| nI 1 <<< ((Ot e9) &&& 31))), none]) (by
            intro k v h
            match k, h with
            | 0, h => exact h
            | 1, h => exact h
            | 2, h => exact h
            | 3, h => exact h
            | 4, h => exact h
            | 5, h => exact h
            | 6, h => exact h
            | 7, h => exact nomatch (show (some none : Option (Option Value)) = some (some v) from h)
            | n + 8, h => exact nomatch (show (none : Option (Option Value)) = some (some v) from h)) ?_
          exact hk2 (lf ^^^ 2 ^ e9, (Ot e9), bn ||| nI 1 <<< ((Ot e9) &&& 31)) (ms_xor hlf he) (by have := xor_less hbit; show lf ^^^ 2 ^ e9 < n9; omega) (by rw [← hr9, hgo, if_neg hB82])
        · refine aw_iconst C dc_M_isPath_85 (v := nI 0) rfl ?_
          exact kc_zret C hr (by decide) (by rw [← hr9, hgo, if_pos hB82]; rfl) (fun _ h => h) dc_M_isPath_86
set_option maxHeartbeats 4000000 in
set_option maxRecDepth 100000 in
theorem m_paths (l : Launch) (D : va_G) (a : Nat) (cI cL cF : ClassId) (t : Int32) (S K Qt : Nat → Int64) (O1 O2 En Ot Wt : Nat → Int32) (i : Nat) (hi : i < 10) (u : Nat) (hu : u < 7) (v : Nat) (hv : v < 7) : ki_ l my_M_paths (Cond.code my_M_paths bc_M_paths 5 (some .int) :: tw_) ({ frames := 3, cells := 0, slots := 0, locals := 68 }) D (ty_s cI cL cF) (fun _ => True) (cm_ a) [.ref a, .int (nI i), .int (nI u), .int (nI v)] (rp_ D a cI cL t S K Qt O1 O2 En Ot Wt) (rp_ D a cI cL (nI 0) (sl_ S i (mkl_ (fl_ K 64 0) (fun n => fa_ (aef_ En n) 12 && ip_ En Ot (nI v) 4096 (n, nI u, nI 1 <<< (nI u &&& 31))) (fun n => tu_ n 12) 4096) 64) (mkl_ (fl_ K 64 0) (fun n => fa_ (aef_ En n) 12 && ip_ En Ot (nI v) 4096 (n, nI u, nI 1 <<< (nI u &&& 31))) (fun n => tu_ n 12) 4096) Qt O1 O2 En Ot Wt) (nI (tw64_ (rw_ (sl_ S i (mkl_ (fl_ K 64 0) (fun n => fa_ (aef_ En n) 12 && ip_ En Ot (nI v) 4096 (n, nI u, nI 1 <<< (nI u &&& 31))) (fun n => tu_ n 12) 4096) 64) i) 64)) := by
  refine aw_met (A := cm_ a) (own := "FamilyShelfModel") (by decide) rfl rfl (Nat.le_of_ble_eq_true rfl) ?_
  intro p9 e s m args below meth c C hr hX hP0
  refine aw_lw (lw' := [some (.ref a), some (.int (nI i)), some (.int (nI u)), some (.int (nI v)), none]) rfl ?_
  refine aw_aload_n C dc_M_paths_0 rfl ?_
  refine aw_iload_n C dc_M_paths_1 rfl ?_
  refine kc_i (fun _ h => h) (fun _ h => h) (kc_S (n := 1) C hX xk_true (m_noShelf0 l D _ _ _ _ i hi) kw_677 kw_675 kw_676 kw_8 (by unfold kd_; decide) ⟨rfl, rfl, by decide, by decide⟩ rfl rfl (Nat.le_of_ble_eq_true rfl) ⟨Nat.zero_le _, Nat.zero_le _⟩ dc_M_paths_2) ?_
  refine aw_if_ne C dc_M_paths_5 (tgt := 22) (by decide) (fun h9 => absurd (by decide) h9) (fun _ => ?_)
  refine aw_iload_n C dc_M_paths_8 rfl ?_
  refine kc_i (fun _ h => h) (fun _ h => h) (kc_S (n := 1) C hX xk_true (m_noVertex0 l D _ _ _ _ u hu) kw_767 kw_765 kw_766 kw_8 (by unfold kd_; decide) ⟨rfl, rfl, by decide, by decide⟩ rfl rfl (Nat.le_of_ble_eq_true rfl) ⟨Nat.zero_le _, Nat.zero_le _⟩ dc_M_paths_9) ?_
  refine aw_if_ne C dc_M_paths_12 (tgt := 22) (by decide) (fun h9 => absurd (by decide) h9) (fun _ => ?_)
  refine aw_iload_n C dc_M_paths_15 rfl ?_
  refine kc_i (fun _ h => h) (fun _ h => h) (kc_S (n := 1) C hX xk_true (m_noVertex0 l D _ _ _ _ v hv) kw_767 kw_765 kw_766 kw_8 (by unfold kd_; decide) ⟨rfl, rfl, by decide, by decide⟩ rfl rfl (Nat.le_of_ble_eq_true rfl) ⟨Nat.zero_le _, Nat.zero_le _⟩ dc_M_paths_16) ?_
  refine aw_if_eq C dc_M_paths_19 (tgt := 26) (by decide) (fun _ => ?_) (fun h9 => absurd (by decide) h9)
  refine aw_iconst C dc_M_paths_26 (v := nI 0) rfl ?_
  refine aw_put C rf_D (fun w h => List.mem_cons_of_mem _ (ly_M w h)) ty_M ty_M_ok nm_M 0 rf_p0 rfl 0 (by decide) (C.1.2.2.2.2 _ (List.mem_cons_of_mem _ kw_636)) (fun _ h => h) rfl (ty := .int) (by decide +kernel) rfl rfl (Nat.le_of_ble_eq_true rfl) (ws' := rf_ a cI cL (nI 0) S K Qt O1 O2 En Ot Wt) rfl dc_M_paths_27 ?_
  refine aw_aload_n C dc_M_paths_30 rfl ?_
  refine aw_get C (fun w h => List.mem_cons_of_mem _ (ly_M w h)) 0 rf_p0 rfl 0 (by decide) (C.1.2.2.2.2 _ (List.mem_cons_of_mem _ kw_636)) (fun _ h => h) rfl dc_M_paths_31 ?_
  refine aw_if_eq C dc_M_paths_34 (tgt := 39) (by decide) (fun _ => ?_) (fun h9 => absurd (by decide) h9)
  refine aw_aload_n C dc_M_paths_39 rfl ?_
  refine kc_v (fun _ h => h) (fun _ h => h) (kc_V (n := 0) C hX xk_true rfl 0 rf_p0 rfl (m_begin l D a cI cL cF (nI 0) S K Qt O1 O2 En Ot Wt) kw_708 kw_705 kw_707 (tw_sel (q := (my_M_begin, 9)) (by decide +kernel)) kw_8 rfl (by unfold kd_; decide) ⟨rfl, rfl, by decide, by decide⟩ rfl rfl (Nat.le_of_ble_eq_true rfl) ⟨Nat.zero_le _, Nat.zero_le _⟩ dc_M_paths_40) ?_
  refine aw_iconst C dc_M_paths_43 (v := nI 0) rfl ?_
  refine aw_istore C dc_M_paths_44 (by decide) rfl ?_
  refine aw_loop (fun k => rp_ D a cI cL (nI 0) S (mkl_ (fl_ K 64 0) (fun n => fa_ (aef_ En n) 12 && ip_ En Ot (nI v) 4096 (n, nI u, nI 1 <<< (nI u &&& 31))) (fun n => tu_ n 12) k) Qt O1 O2 En Ot Wt) (fun k => [some (.ref a), some (.int (nI i)), some (.int (nI u)), some (.int (nI v)), some (.int (nI k))]) 4096 ?_ (fun k hk ih => ?_)
  · refine aw_iload C dc_M_paths_46 rfl ?_
    refine aw_sipush C dc_M_paths_48 (v := nI 4096) rfl ?_
    refine aw_icmp_ge C dc_M_paths_51 (tgt := 89) (by decide) (fun _ => ?_) (fun h9 => absurd (nI_le (Nat.le_refl _) (by decide)) h9)
    refine aw_aload_n C dc_M_paths_89 rfl ?_
    refine aw_iload_n C dc_M_paths_90 rfl ?_
    refine kc_i (fun _ h => h) (fun _ h => h) (kc_V (n := 1) C hX xk_true rfl 0 rf_p0 rfl (m_lay l D a cI cL cF (nI 0) S (mkl_ (fl_ K 64 0) (fun n => fa_ (aef_ En n) 12 && ip_ En Ot (nI v) 4096 (n, nI u, nI 1 <<< (nI u &&& 31))) (fun n => tu_ n 12) 4096) Qt O1 O2 En Ot Wt i hi) kw_742 kw_739 kw_741 (tw_sel (q := (my_M_lay, 9)) (by decide +kernel)) kw_8 rfl (by unfold kd_; decide) ⟨rfl, rfl, by decide, by decide⟩ rfl rfl (Nat.le_of_ble_eq_true rfl) ⟨Nat.zero_le _, Nat.zero_le _⟩ dc_M_paths_91) ?_
    exact kc_iret C hr rfl (fun _ h => h) dc_M_paths_94
  · refine aw_iload C dc_M_paths_46 rfl ?_
    refine aw_sipush C dc_M_paths_48 (v := nI 4096) rfl ?_
    refine aw_icmp_ge C dc_M_paths_51 (tgt := 89) (by decide) (fun h9 => absurd h9 (nI_ge hk (by decide))) (fun _ => ?_)
    refine aw_aload_n C dc_M_paths_54 rfl ?_
    refine aw_iload C dc_M_paths_55 rfl ?_
    refine kc_i (fun _ h => h) (fun _ h => h) (kc_V (n := 1) C hX xk_true rfl 0 rf_p0 rfl (m_areEdges l D a cI cL cF (nI 0) S (mkl_ (fl_ K 64 0) (fun n => fa_ (aef_ En n) 12 && ip_ En Ot (nI v) 4096 (n, nI u, nI 1 <<< (nI u &&& 31))) (fun n => tu_ n 12) k) Qt O1 O2 En Ot Wt k hk) kw_779 kw_776 kw_778 (tw_sel (q := (my_M_areEdges, 9)) (by decide +kernel)) kw_8 rfl (by unfold kd_; decide) ⟨rfl, rfl, by decide, by decide⟩ rfl rfl (Nat.le_of_ble_eq_true rfl) ⟨Nat.zero_le _, Nat.zero_le _⟩ dc_M_paths_57) ?_
    refine aw_if_eq C dc_M_paths_60 (tgt := 83) (by decide) (fun hB60 => ?_) (fun hB60 => ?_)
    · rw [mkl_f (n := k) (f := (fun n => fa_ (aef_ En n) 12 && ip_ En Ot (nI v) 4096 (n, nI u, nI 1 <<< (nI u &&& 31)))) (by show (_ && _) = false; rw [z1_0.mp hB60]; rfl)] at ih
      refine aw_iinc C dc_M_paths_83 rfl (ni_inc _) (by decide) rfl ?_
      refine aw_goto C dc_M_paths_86 (tgt := 46) (by decide) ?_
      exact ih
    · have hb := z1_n.mp hB60
      refine aw_aload_n C dc_M_paths_63 rfl ?_
      refine aw_iload C dc_M_paths_64 rfl ?_
      refine aw_iload_n C dc_M_paths_66 rfl ?_
      refine aw_iload_n C dc_M_paths_67 rfl ?_
      refine kc_i (fun _ h => h) (fun _ h => h) (kc_V (n := 3) C hX xk_true rfl 0 rf_p0 rfl (m_isPath l D a cI cL cF (nI 0) S (mkl_ (fl_ K 64 0) (fun n => fa_ (aef_ En n) 12 && ip_ En Ot (nI v) 4096 (n, nI u, nI 1 <<< (nI u &&& 31))) (fun n => tu_ n 12) k) Qt O1 O2 En Ot Wt k hk (nI u) (nI v)) kw_783 kw_780 kw_782 (tw_sel (q := (my_M_isPath, 9)) (by decide +kernel)) kw_8 rfl (by unfold kd_; decide) ⟨rfl, rfl, by decide, by decide⟩ rfl rfl (Nat.le_of_ble_eq_true rfl) ⟨Nat.zero_le _, Nat.zero_le _⟩ dc_M_paths_68) ?_
      refine aw_if_eq C dc_M_paths_71 (tgt := 83) (by decide) (fun hB71 => ?_) (fun hB71 => ?_)
      · rw [mkl_f (n := k) (f := (fun n => fa_ (aef_ En n) 12 && ip_ En Ot (nI v) 4096 (n, nI u, nI 1 <<< (nI u &&& 31)))) (by show (_ && _) = false; rw [hb, z1_0.mp hB71]; rfl)] at ih
        refine aw_iinc C dc_M_paths_83 rfl (ni_inc _) (by decide) rfl ?_
        refine aw_goto C dc_M_paths_86 (tgt := 46) (by decide) ?_
        exact ih
      · rw [mkl_t (n := k) (f := (fun n => fa_ (aef_ En n) 12 && ip_ En Ot (nI v) 4096 (n, nI u, nI 1 <<< (nI u &&& 31)))) (by show (_ && _) = true; rw [hb, z1_n.mp hB71]; rfl)] at ih
        refine aw_aload_n C dc_M_paths_74 rfl ?_
        refine aw_iload C dc_M_paths_75 rfl ?_
        refine kc_i (fun _ h => h) (fun _ h => h) (kc_S (n := 1) C hX xk_true (m_turned l D _ _ _ _ k hk) kw_680 kw_678 kw_679 kw_8 (by unfold kd_; decide) ⟨rfl, rfl, by decide, by decide⟩ rfl rfl (Nat.le_of_ble_eq_true rfl) ⟨Nat.zero_le _, Nat.zero_le _⟩ dc_M_paths_77) ?_
        refine kc_v (fun _ h => h) (fun _ h => h) (kc_V (n := 1) C hX xk_true rfl 0 rf_p0 rfl (m_make l D a cI cL cF (nI 0) S (mkl_ (fl_ K 64 0) (fun n => fa_ (aef_ En n) 12 && ip_ En Ot (nI v) 4096 (n, nI u, nI 1 <<< (nI u &&& 31))) (fun n => tu_ n 12) k) Qt O1 O2 En Ot Wt (tu_ k 12) (tu_12 k)) kw_726 kw_723 kw_725 (tw_sel (q := (my_M_make, 9)) (by decide +kernel)) kw_8 rfl (by unfold kd_; decide) ⟨rfl, rfl, by decide, by decide⟩ rfl rfl (Nat.le_of_ble_eq_true rfl) ⟨Nat.zero_le _, Nat.zero_le _⟩ dc_M_paths_80) ?_
        refine aw_iinc C dc_M_paths_83 rfl (ni_inc _) (by decide) rfl ?_
        refine aw_goto C dc_M_paths_86 (tgt := 46) (by decide) ?_
        exact ih
set_option maxHeartbeats 4000000 in
set_option maxRecDepth 100000 in
theorem m_isMatching (l : Launch) (D : va_G) (a : Nat) (cI cL cF : ClassId) (t : Int32) (S K Qt : Nat → Int64) (O1 O2 En Ot Wt : Nat → Int32) (n : Nat) (hn : n < 4096) : ki_ l my_M_isMatching (Cond.code my_M_isMatching bc_M_isMatching 5 (some .boolean) :: tw_) rm0 D (ty_s cI cL cF) (fun _ => True) (cm_ a) [.ref a, .int (nI n)] (rp_ D a cI cL t S K Qt O1 O2 En Ot Wt) (rp_ D a cI cL t S K Qt O1 O2 En Ot Wt) (z1_ (fa_ (imf_ En Ot n) 12)) := by
  refine aw_met (A := cm_ a) (own := "FamilyShelfModel") (by decide) rfl rfl (Nat.le_of_ble_eq_true rfl) ?_
  intro p9 e s m args below meth c C hr hX hP0
  refine aw_lw (lw' := [some (.ref a), some (.int (nI n)), none, none, none]) rfl ?_
  refine aw_iconst C dc_M_isMatching_0 (v := nI 0) rfl ?_
  refine aw_istore_n C dc_M_isMatching_1 (by decide) rfl ?_
  refine aw_iconst C dc_M_isMatching_2 (v := nI 0) rfl ?_
  refine aw_istore_n C dc_M_isMatching_3 (by decide) rfl ?_
  refine aw_loopK (fun k => (fa_ (imf_ En Ot n) k) = true) (fun k => rp_ D a cI cL t S K Qt O1 O2 En Ot Wt) (fun k => [some (.ref a), some (.int (nI n)), some (.int (tm_ En Ot n k)), some (.int (nI k)), none]) 12 rfl (fun hK => ?_) (fun k hk hK ih => ?_)
  · refine aw_iload_n C dc_M_isMatching_4 rfl ?_
    refine aw_bipush C dc_M_isMatching_5 (v := nI 12) rfl ?_
    refine aw_icmp_ge C dc_M_isMatching_7 (tgt := 60) (by decide) (fun _ => ?_) (fun h9 => absurd (nI_le (Nat.le_refl _) (by decide)) h9)
    refine aw_iconst C dc_M_isMatching_60 (v := nI 1) rfl ?_
    exact kc_zret C hr (by decide) (by rw [hK]; rfl) (fun _ h => h) dc_M_isMatching_61
  · refine aw_iload_n C dc_M_isMatching_4 rfl ?_
    refine aw_bipush C dc_M_isMatching_5 (v := nI 12) rfl ?_
    refine aw_icmp_ge C dc_M_isMatching_7 (tgt := 60) (by decide) (fun h9 => absurd h9 (nI_ge hk (by decide))) (fun _ => ?_)
    refine aw_iload_n C dc_M_isMatching_10 rfl ?_
    refine aw_iload_n C dc_M_isMatching_11 rfl ?_
    refine aw_ishr C dc_M_isMatching_12 ?_
    refine aw_iconst C dc_M_isMatching_13 (v := nI 1) rfl ?_
    refine aw_iand C dc_M_isMatching_14 ?_
    refine aw_eqi (ni_tb (by omega) (by omega)) ?_
    refine aw_if_ne C dc_M_isMatching_15 (tgt := 21) (by decide) (fun hB15 => ?_) (fun hB15 => ?_)
    · have hb : n.testBit k = true := by
        cases h9 : n.testBit k
        · rw [h9] at hB15; exact absurd rfl hB15
        · rfl
      refine aw_iconst C dc_M_isMatching_21 (v := nI 1) rfl ?_
      refine aw_aload_n C dc_M_isMatching_22 rfl ?_
      refine aw_get C (fun w h => List.mem_cons_of_mem _ (ly_M w h)) 0 rf_p0 rfl 6 (by decide) (C.1.2.2.2.2 _ (List.mem_cons_of_mem _ kw_642)) (fun _ h => h) rfl dc_M_isMatching_23 ?_
      refine aw_iload_n C dc_M_isMatching_26 rfl ?_
      refine aw_iald C 6 0 rf_p6 rfl k rfl (by omega) (by decide) dc_M_isMatching_27 ?_
      refine aw_ishl C dc_M_isMatching_28 ?_
      refine aw_iconst C dc_M_isMatching_29 (v := nI 1) rfl ?_
      refine aw_aload_n C dc_M_isMatching_30 rfl ?_
      refine aw_get C (fun w h => List.mem_cons_of_mem _ (ly_M w h)) 0 rf_p0 rfl 7 (by decide) (C.1.2.2.2.2 _ (List.mem_cons_of_mem _ kw_643)) (fun _ h => h) rfl dc_M_isMatching_31 ?_
      refine aw_iload_n C dc_M_isMatching_34 rfl ?_
      refine aw_iald C 7 0 rf_p7 rfl k rfl (by omega) (by decide) dc_M_isMatching_35 ?_
      refine aw_ishl C dc_M_isMatching_36 ?_
      refine aw_ior C dc_M_isMatching_37 ?_
      refine aw_eqi (show _ = bo_ En Ot k from rfl) ?_
      refine aw_istore C dc_M_isMatching_38 (by decide) rfl ?_
      refine aw_iload_n C dc_M_isMatching_40 rfl ?_
      refine aw_iload C dc_M_isMatching_41 rfl ?_
      refine aw_iand C dc_M_isMatching_43 ?_
      refine aw_if_eq C dc_M_isMatching_44 (tgt := 49) (by decide) (fun hB44 => ?_) (fun hB44 => ?_)
      · have e9 : tm_ En Ot n (k + 1) = tm_ En Ot n k ||| bo_ En Ot k := by rw [tm_, hb]; rfl
        have ih2 := ih (fa_s hK (by unfold imf_; rw [hb, decide_eq_true hB44]; rfl))
        rw [e9] at ih2
        refine aw_iload_n C dc_M_isMatching_49 rfl ?_
        refine aw_iload C dc_M_isMatching_50 rfl ?_
        refine aw_ior C dc_M_isMatching_52 ?_
        refine aw_istore_n C dc_M_isMatching_53 (by decide) rfl ?_
        refine aw_iinc C dc_M_isMatching_54 rfl (ni_inc _) (by decide) rfl ?_
        refine aw_goto C dc_M_isMatching_57 (tgt := 4) (by decide) ?_
        refine (fun hs9 => aw_sub hs9 ih2) (by
          intro k8 v8 h8
          match k8, h8 with
          | 0, h8 => exact h8
          | 1, h8 => exact h8
          | 2, h8 => exact h8
          | 3, h8 => exact h8
          | 4, h8 => exact nomatch (show (some none : Option (Option Value)) = some (some v8) from h8)
          | n8 + 5, h8 => exact nomatch (show (none : Option (Option Value)) = some (some v8) from h8))
      · have hs := fa_no (g := imf_ En Ot n) (k := k) (by unfold imf_; rw [hb, decide_eq_false hB44]; rfl) hk
        refine aw_iconst C dc_M_isMatching_47 (v := nI 0) rfl ?_
        exact kc_zret C hr (by decide) (by rw [hs]; rfl) (fun _ h => h) dc_M_isMatching_48
    · have hb : n.testBit k = false := by
        cases h9 : n.testBit k
        · rfl
        · rw [h9] at hB15; exact absurd hB15 (by decide)
      have e9 : tm_ En Ot n (k + 1) = tm_ En Ot n k := by rw [tm_, hb]; rfl
      have ih2 := ih (fa_s hK (by unfold imf_; rw [hb]; rfl))
      rw [e9] at ih2
      refine aw_goto C dc_M_isMatching_18 (tgt := 54) (by decide) ?_
      refine aw_iinc C dc_M_isMatching_54 rfl (ni_inc _) (by decide) rfl ?_
      refine aw_goto C dc_M_isMatching_57 (tgt := 4) (by decide) ?_
      refine (fun hs9 => aw_sub hs9 ih2) (by
        intro k8 v8 h8
        match k8, h8 with
        | 0, h8 => exact h8
        | 1, h8 => exact h8
        | 2, h8 => exact h8
        | 3, h8 => exact h8
        | 4, h8 => exact nomatch (show (some none : Option (Option Value)) = some (some v8) from h8)
        | n8 + 5, h8 => exact nomatch (show (none : Option (Option Value)) = some (some v8) from h8))
set_option maxHeartbeats 4000000 in
set_option maxRecDepth 100000 in
theorem m_matchings (l : Launch) (D : va_G) (a : Nat) (cI cL cF : ClassId) (t : Int32) (S K Qt : Nat → Int64) (O1 O2 En Ot Wt : Nat → Int32) (i : Nat) (hi : i < 10) : ki_ l my_M_matchings (Cond.code my_M_matchings bc_M_matchings 3 (some .int) :: tw_) ({ frames := 3, cells := 0, slots := 0, locals := 68 }) D (ty_s cI cL cF) (fun _ => True) (cm_ a) [.ref a, .int (nI i)] (rp_ D a cI cL t S K Qt O1 O2 En Ot Wt) (rp_ D a cI cL (nI 0) (sl_ S i (mkl_ (fl_ K 64 0) (fun n => fa_ (aef_ En n) 12 && fa_ (imf_ En Ot n) 12) (fun n => tu_ n 12) 4096) 64) (mkl_ (fl_ K 64 0) (fun n => fa_ (aef_ En n) 12 && fa_ (imf_ En Ot n) 12) (fun n => tu_ n 12) 4096) Qt O1 O2 En Ot Wt) (nI (tw64_ (rw_ (sl_ S i (mkl_ (fl_ K 64 0) (fun n => fa_ (aef_ En n) 12 && fa_ (imf_ En Ot n) 12) (fun n => tu_ n 12) 4096) 64) i) 64)) := by
  refine aw_met (A := cm_ a) (own := "FamilyShelfModel") (by decide) rfl rfl (Nat.le_of_ble_eq_true rfl) ?_
  intro p9 e s m args below meth c C hr hX hP0
  refine aw_lw (lw' := [some (.ref a), some (.int (nI i)), none]) rfl ?_
  refine aw_aload_n C dc_M_matchings_0 rfl ?_
  refine aw_iload_n C dc_M_matchings_1 rfl ?_
  refine kc_i (fun _ h => h) (fun _ h => h) (kc_S (n := 1) C hX xk_true (m_noShelf0 l D _ _ _ _ i hi) kw_677 kw_675 kw_676 kw_8 (by unfold kd_; decide) ⟨rfl, rfl, by decide, by decide⟩ rfl rfl (Nat.le_of_ble_eq_true rfl) ⟨Nat.zero_le _, Nat.zero_le _⟩ dc_M_matchings_2) ?_
  refine aw_if_eq C dc_M_matchings_5 (tgt := 12) (by decide) (fun _ => ?_) (fun h9 => absurd (by decide) h9)
  refine aw_iconst C dc_M_matchings_12 (v := nI 0) rfl ?_
  refine aw_put C rf_D (fun w h => List.mem_cons_of_mem _ (ly_M w h)) ty_M ty_M_ok nm_M 0 rf_p0 rfl 0 (by decide) (C.1.2.2.2.2 _ (List.mem_cons_of_mem _ kw_636)) (fun _ h => h) rfl (ty := .int) (by decide +kernel) rfl rfl (Nat.le_of_ble_eq_true rfl) (ws' := rf_ a cI cL (nI 0) S K Qt O1 O2 En Ot Wt) rfl dc_M_matchings_13 ?_
  refine aw_aload_n C dc_M_matchings_16 rfl ?_
  refine aw_get C (fun w h => List.mem_cons_of_mem _ (ly_M w h)) 0 rf_p0 rfl 0 (by decide) (C.1.2.2.2.2 _ (List.mem_cons_of_mem _ kw_636)) (fun _ h => h) rfl dc_M_matchings_17 ?_
  refine aw_if_eq C dc_M_matchings_20 (tgt := 25) (by decide) (fun _ => ?_) (fun h9 => absurd (by decide) h9)
  refine aw_aload_n C dc_M_matchings_25 rfl ?_
  refine kc_v (fun _ h => h) (fun _ h => h) (kc_V (n := 0) C hX xk_true rfl 0 rf_p0 rfl (m_begin l D a cI cL cF (nI 0) S K Qt O1 O2 En Ot Wt) kw_708 kw_705 kw_707 (tw_sel (q := (my_M_begin, 9)) (by decide +kernel)) kw_8 rfl (by unfold kd_; decide) ⟨rfl, rfl, by decide, by decide⟩ rfl rfl (Nat.le_of_ble_eq_true rfl) ⟨Nat.zero_le _, Nat.zero_le _⟩ dc_M_matchings_26) ?_
  refine aw_iconst C dc_M_matchings_29 (v := nI 0) rfl ?_
  refine aw_istore_n C dc_M_matchings_30 (by decide) rfl ?_
  refine aw_loop (fun k => rp_ D a cI cL (nI 0) S (mkl_ (fl_ K 64 0) (fun n => fa_ (aef_ En n) 12 && fa_ (imf_ En Ot n) 12) (fun n => tu_ n 12) k) Qt O1 O2 En Ot Wt) (fun k => [some (.ref a), some (.int (nI i)), some (.int (nI k))]) 4096 ?_ (fun k hk ih => ?_)
  · refine aw_iload_n C dc_M_matchings_31 rfl ?_
    refine aw_sipush C dc_M_matchings_32 (v := nI 4096) rfl ?_
    refine aw_icmp_ge C dc_M_matchings_35 (tgt := 68) (by decide) (fun _ => ?_) (fun h9 => absurd (nI_le (Nat.le_refl _) (by decide)) h9)
    refine aw_aload_n C dc_M_matchings_68 rfl ?_
    refine aw_iload_n C dc_M_matchings_69 rfl ?_
    refine kc_i (fun _ h => h) (fun _ h => h) (kc_V (n := 1) C hX xk_true rfl 0 rf_p0 rfl (m_lay l D a cI cL cF (nI 0) S (mkl_ (fl_ K 64 0) (fun n => fa_ (aef_ En n) 12 && fa_ (imf_ En Ot n) 12) (fun n => tu_ n 12) 4096) Qt O1 O2 En Ot Wt i hi) kw_742 kw_739 kw_741 (tw_sel (q := (my_M_lay, 9)) (by decide +kernel)) kw_8 rfl (by unfold kd_; decide) ⟨rfl, rfl, by decide, by decide⟩ rfl rfl (Nat.le_of_ble_eq_true rfl) ⟨Nat.zero_le _, Nat.zero_le _⟩ dc_M_matchings_70) ?_
    exact kc_iret C hr rfl (fun _ h => h) dc_M_matchings_73
  · refine aw_iload_n C dc_M_matchings_31 rfl ?_
    refine aw_sipush C dc_M_matchings_32 (v := nI 4096) rfl ?_
    refine aw_icmp_ge C dc_M_matchings_35 (tgt := 68) (by decide) (fun h9 => absurd h9 (nI_ge hk (by decide))) (fun _ => ?_)
    refine aw_aload_n C dc_M_matchings_38 rfl ?_
    refine aw_iload_n C dc_M_matchings_39 rfl ?_
    refine kc_i (fun _ h => h) (fun _ h => h) (kc_V (n := 1) C hX xk_true rfl 0 rf_p0 rfl (m_areEdges l D a cI cL cF (nI 0) S (mkl_ (fl_ K 64 0) (fun n => fa_ (aef_ En n) 12 && fa_ (imf_ En Ot n) 12) (fun n => tu_ n 12) k) Qt O1 O2 En Ot Wt k hk) kw_779 kw_776 kw_778 (tw_sel (q := (my_M_areEdges, 9)) (by decide +kernel)) kw_8 rfl (by unfold kd_; decide) ⟨rfl, rfl, by decide, by decide⟩ rfl rfl (Nat.le_of_ble_eq_true rfl) ⟨Nat.zero_le _, Nat.zero_le _⟩ dc_M_matchings_40) ?_
    refine aw_if_eq C dc_M_matchings_43 (tgt := 62) (by decide) (fun hB43 => ?_) (fun hB43 => ?_)
    · rw [mkl_f (n := k) (f := (fun n => fa_ (aef_ En n) 12 && fa_ (imf_ En Ot n) 12)) (by show (_ && _) = false; rw [z1_0.mp hB43]; rfl)] at ih
      refine aw_iinc C dc_M_matchings_62 rfl (ni_inc _) (by decide) rfl ?_
      refine aw_goto C dc_M_matchings_65 (tgt := 31) (by decide) ?_
      exact ih
    · have hb := z1_n.mp hB43
      refine aw_aload_n C dc_M_matchings_46 rfl ?_
      refine aw_iload_n C dc_M_matchings_47 rfl ?_
      refine kc_i (fun _ h => h) (fun _ h => h) (kc_V (n := 1) C hX xk_true rfl 0 rf_p0 rfl (m_isMatching l D a cI cL cF (nI 0) S (mkl_ (fl_ K 64 0) (fun n => fa_ (aef_ En n) 12 && fa_ (imf_ En Ot n) 12) (fun n => tu_ n 12) k) Qt O1 O2 En Ot Wt k hk) kw_795 kw_792 kw_794 (tw_sel (q := (my_M_isMatching, 9)) (by decide +kernel)) kw_8 rfl (by unfold kd_; decide) ⟨rfl, rfl, by decide, by decide⟩ rfl rfl (Nat.le_of_ble_eq_true rfl) ⟨Nat.zero_le _, Nat.zero_le _⟩ dc_M_matchings_48) ?_
      refine aw_if_eq C dc_M_matchings_51 (tgt := 62) (by decide) (fun hB51 => ?_) (fun hB51 => ?_)
      · rw [mkl_f (n := k) (f := (fun n => fa_ (aef_ En n) 12 && fa_ (imf_ En Ot n) 12)) (by show (_ && _) = false; rw [hb, z1_0.mp hB51]; rfl)] at ih
        refine aw_iinc C dc_M_matchings_62 rfl (ni_inc _) (by decide) rfl ?_
        refine aw_goto C dc_M_matchings_65 (tgt := 31) (by decide) ?_
        exact ih
      · rw [mkl_t (n := k) (f := (fun n => fa_ (aef_ En n) 12 && fa_ (imf_ En Ot n) 12)) (by show (_ && _) = true; rw [hb, z1_n.mp hB51]; rfl)] at ih
        refine aw_aload_n C dc_M_matchings_54 rfl ?_
        refine aw_iload_n C dc_M_matchings_55 rfl ?_
        refine kc_i (fun _ h => h) (fun _ h => h) (kc_S (n := 1) C hX xk_true (m_turned l D _ _ _ _ k hk) kw_680 kw_678 kw_679 kw_8 (by unfold kd_; decide) ⟨rfl, rfl, by decide, by decide⟩ rfl rfl (Nat.le_of_ble_eq_true rfl) ⟨Nat.zero_le _, Nat.zero_le _⟩ dc_M_matchings_56) ?_
        refine kc_v (fun _ h => h) (fun _ h => h) (kc_V (n := 1) C hX xk_true rfl 0 rf_p0 rfl (m_make l D a cI cL cF (nI 0) S (mkl_ (fl_ K 64 0) (fun n => fa_ (aef_ En n) 12 && fa_ (imf_ En Ot n) 12) (fun n => tu_ n 12) k) Qt O1 O2 En Ot Wt (tu_ k 12) (tu_12 k)) kw_726 kw_723 kw_725 (tw_sel (q := (my_M_make, 9)) (by decide +kernel)) kw_8 rfl (by unfold kd_; decide) ⟨rfl, rfl, by decide, by decide⟩ rfl rfl (Nat.le_of_ble_eq_true rfl) ⟨Nat.zero_le _, Nat.zero_le _⟩ dc_M_matchings_59) ?_
        refine aw_iinc C dc_M_matchings_62 rfl (ni_inc _) (by decide) rfl ?_
        refine aw_goto C dc_M_matchings_65 (tgt := 31) (by decide) ?_
        exact ih
