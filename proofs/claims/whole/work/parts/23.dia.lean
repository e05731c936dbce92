theorem ko_ge {T : Nat → Nat → Nat} {E wo wi : Nat} : E ≤ (ko_ T E wo wi).2.1 := by
  unfold ko_
  split
  · exact Nat.le_refl _
  · split
    · exact Nat.le_refl _
    · unfold nn_
      split
      · exact Nat.le_refl _
      · exact Nat.le_succ _
theorem di_ge (s : (Nat → Nat → Nat) × Nat) : ∀ n, s.2 ≤ (di_ s n).2
  | 0 => Nat.le_refl _
  | n + 1 => Nat.le_trans (di_ge s n) (by rw [di_]; exact ko_ge)
theorem dl_ge' (s : (Nat → Nat → Nat) × Nat) : ∀ n, s.2 ≤ (dl_ s n).2
  | 0 => Nat.le_refl _
  | n + 1 => Nat.le_trans (dl_ge' s n) (by rw [dl_]; exact di_ge (va_up (dl_ s n).1 17 (fl_ ((dl_ s n).1 17) 767 0), (dl_ s n).2) _)
theorem dl_ge {T : Nat → Nat → Nat} {n : Nat} : 2 ≤ (dl_ (T, 2) n).2 := dl_ge' (T, 2) n
theorem eb_ {k : Nat} (hk : k < 12) : (if k + 1 < 12 then nI (11 - (k + 1)) else (-1 : Int32)) = nI (11 - k) + Int32.ofInt (-1) := by
  by_cases h : k + 1 < 12
  · rw [if_pos h, show 11 - k = (11 - (k + 1)) + 1 by omega]
    exact (ni_dec _).symm
  · rw [if_neg h, show 11 - k = 0 by omega]
    rfl
set_option maxHeartbeats 4000000 in
set_option maxRecDepth 100000 in
theorem d_newNode (l : Launch) (D : va_G) (h th : Nat) (cI cL cF : ClassId) (I0 : Nat → Nat → Int32) (T : Nat → Nat → Nat) (J : Nat → Nat → Int64) (sh : Nat → Nat) (fr : Nat) (E : Nat) (hT : tb_ T) (hE : E ≤ 767) (wo wi : Nat) (hwo : wo < 767) (hwi : wi < 767) : ki_ l my_D_newNode (Cond.code my_D_newNode bc_D_newNode 4 (some .int) :: tw_) rm0 D (ty_s cI cL cF) (xw_ h th) (ca_ h) [.ref (h + 15), .int (nI wo), .int (nI wi)] (kp_ D h cI cL cF (it_ I0 T) J sh fr (nI E)) (kp_ D h cI cL cF (it_ I0 (nn_ T E wo wi).1) J sh fr (nI (nn_ T E wo wi).2.1)) (nI (nn_ T E wo wi).2.2) := by
  refine aw_met (A := ca_ h) (own := "FamilyShelf$Diagram") (by decide) rfl rfl (Nat.le_of_ble_eq_true rfl) ?_
  intro p9 e s m args below meth c C hr hX hP0
  refine aw_lw (lw' := [some (.ref (h + 15)), some (.int (nI wo)), some (.int (nI wi)), none]) rfl ?_
  refine aw_aload_n C dc_D_newNode_0 rfl ?_
  refine aw_get C (fun w h => List.mem_cons_of_mem _ (ly_D w h)) 15 sy_p15 rfl 4 (by decide) (C.1.2.2.2.2 _ (List.mem_cons_of_mem _ kw_103)) (fun _ h => h) rfl dc_D_newNode_1 ?_
  refine aw_sipush C dc_D_newNode_4 (v := nI 767) rfl ?_
  refine aw_icmp_lt C dc_D_newNode_7 (tgt := 12) (by decide) (fun hB7 => ?_) (fun hB7 => ?_)
  · have hlt : E < 767 := (nI_ltI (by omega) (by decide)).mp hB7
    have e9 : nn_ T E wo wi = ((va_up (va_up (va_up T 19 (va_up (T 19) E wo)) 18 (va_up (T 18) E (T 17 wi))) 17 (va_up (T 17) wi E)), E + 1, E) := by unfold nn_; rw [if_neg (by omega)]
    rw [e9]
    refine aw_aload_n C dc_D_newNode_12 rfl ?_
    refine aw_get C (fun w h => List.mem_cons_of_mem _ (ly_D w h)) 15 sy_p15 rfl 4 (by decide) (C.1.2.2.2.2 _ (List.mem_cons_of_mem _ kw_103)) (fun _ h => h) rfl dc_D_newNode_13 ?_
    refine aw_istore_n C dc_D_newNode_16 (by decide) rfl ?_
    refine aw_aload_n C dc_D_newNode_17 rfl ?_
    refine aw_dup C dc_D_newNode_18 rfl ?_
    refine aw_get C (fun w h => List.mem_cons_of_mem _ (ly_D w h)) 15 sy_p15 rfl 4 (by decide) (C.1.2.2.2.2 _ (List.mem_cons_of_mem _ kw_103)) (fun _ h => h) rfl dc_D_newNode_19 ?_
    refine aw_iconst C dc_D_newNode_22 (v := nI 1) rfl ?_
    refine aw_iadd C dc_D_newNode_23 ?_
    refine aw_eqi (nI_add _ _) ?_
    refine aw_put C sy_D (fun w h => List.mem_cons_of_mem _ (ly_D w h)) ty_D ty_D_ok nm_D 15 sy_p15 rfl 4 (by decide) (C.1.2.2.2.2 _ (List.mem_cons_of_mem _ kw_103)) (fun _ h => h) rfl (ty := .int) (by decide +kernel) rfl rfl (Nat.le_of_ble_eq_true rfl) (ws' := sy_ h cI cL cF (it_ I0 T) J sh fr (nI (E + 1))) sy_seten dc_D_newNode_24 ?_
    refine aw_aload_n C dc_D_newNode_27 rfl ?_
    refine aw_get C (fun w h => List.mem_cons_of_mem _ (ly_D w h)) 15 sy_p15 rfl 3 (by decide) (C.1.2.2.2.2 _ (List.mem_cons_of_mem _ kw_102)) (fun _ h => h) rfl dc_D_newNode_28 ?_
    refine aw_iload_n C dc_D_newNode_31 rfl ?_
    refine aw_iload_n C dc_D_newNode_32 rfl ?_
    refine aw_iast C sy_D 19 0 sy_p19 rfl E rfl hlt (by decide) (ws' := sy_ h cI cL cF (it_ I0 (va_up T 19 (va_up (T 19) E wo))) J sh fr (nI (E + 1))) (by rw [sy_setI (k := 19) (by decide) _ (fun _ => rfl), it_up (by decide) (by decide)]) dc_D_newNode_33 ?_
    refine aw_aload_n C dc_D_newNode_34 rfl ?_
    refine aw_get C (fun w h => List.mem_cons_of_mem _ (ly_D w h)) 15 sy_p15 rfl 2 (by decide) (C.1.2.2.2.2 _ (List.mem_cons_of_mem _ kw_101)) (fun _ h => h) rfl dc_D_newNode_35 ?_
    refine aw_iload_n C dc_D_newNode_38 rfl ?_
    refine aw_aload_n C dc_D_newNode_39 rfl ?_
    refine aw_get C (fun w h => List.mem_cons_of_mem _ (ly_D w h)) 15 sy_p15 rfl 1 (by decide) (C.1.2.2.2.2 _ (List.mem_cons_of_mem _ kw_100)) (fun _ h => h) rfl dc_D_newNode_40 ?_
    refine aw_iload_n C dc_D_newNode_43 rfl ?_
    refine aw_iald C 17 0 sy_p17 rfl wi rfl hwi (by decide) dc_D_newNode_44 ?_
    refine aw_eqi (show _ = nI (T 17 wi) by rw [it_rd (by decide) (by decide), va_up_ne _ _ (show 17 ≠ 19 by decide)]) ?_
    refine aw_iast C sy_D 18 0 sy_p18 rfl E rfl hlt (by decide) (ws' := sy_ h cI cL cF (it_ I0 (va_up (va_up T 19 (va_up (T 19) E wo)) 18 (va_up (T 18) E (T 17 wi)))) J sh fr (nI (E + 1))) (by rw [sy_setI (k := 18) (by decide) _ (fun _ => rfl), it_up (by decide) (by decide), va_up_ne _ _ (show 18 ≠ 19 by decide)]) dc_D_newNode_45 ?_
    refine aw_aload_n C dc_D_newNode_46 rfl ?_
    refine aw_get C (fun w h => List.mem_cons_of_mem _ (ly_D w h)) 15 sy_p15 rfl 1 (by decide) (C.1.2.2.2.2 _ (List.mem_cons_of_mem _ kw_100)) (fun _ h => h) rfl dc_D_newNode_47 ?_
    refine aw_iload_n C dc_D_newNode_50 rfl ?_
    refine aw_iload_n C dc_D_newNode_51 rfl ?_
    refine aw_iast C sy_D 17 0 sy_p17 rfl wi rfl hwi (by decide) (ws' := sy_ h cI cL cF (it_ I0 (va_up (va_up (va_up T 19 (va_up (T 19) E wo)) 18 (va_up (T 18) E (T 17 wi))) 17 (va_up (T 17) wi E))) J sh fr (nI (E + 1))) (by rw [sy_setI (k := 17) (by decide) _ (fun _ => rfl), it_up (by decide) (by decide), va_up_ne _ _ (show 17 ≠ 18 by decide), va_up_ne _ _ (show 17 ≠ 19 by decide)]) dc_D_newNode_52 ?_
    refine aw_iload_n C dc_D_newNode_53 rfl ?_
    exact kc_iret C hr rfl (fun _ h => h) dc_D_newNode_54
  · have hge : 767 ≤ E := Nat.le_of_not_lt (fun h9 => hB7 ((nI_ltI (by omega) (by decide)).mpr h9))
    have e9 : nn_ T E wo wi = (T, E, 0) := by unfold nn_; rw [if_pos hge]
    rw [e9]
    refine aw_iconst C dc_D_newNode_10 (v := nI 0) rfl ?_
    exact kc_iret C hr rfl (fun _ h => h) dc_D_newNode_11
set_option maxHeartbeats 4000000 in
set_option maxRecDepth 100000 in
theorem d_kindOf (l : Launch) (D : va_G) (h th : Nat) (cI cL cF : ClassId) (I0 : Nat → Nat → Int32) (T : Nat → Nat → Nat) (J : Nat → Nat → Int64) (sh : Nat → Nat) (fr : Nat) (E : Nat) (hT : tb_ T) (hE : E ≤ 767) (wo wi : Nat) (hwo : wo < 767) (hwi : wi < 767) : ki_ l my_D_kindOf (Cond.code my_D_kindOf bc_D_kindOf 5 (some .int) :: tw_) ({ frames := 1, cells := 0, slots := 0, locals := 23 }) D (ty_s cI cL cF) (xw_ h th) (ca_ h) [.ref (h + 15), .int (nI wo), .int (nI wi)] (kp_ D h cI cL cF (it_ I0 T) J sh fr (nI E)) (kp_ D h cI cL cF (it_ I0 (ko_ T E wo wi).1) J sh fr (nI (ko_ T E wo wi).2.1)) (nI (ko_ T E wo wi).2.2) := by
  refine aw_met (A := ca_ h) (own := "FamilyShelf$Diagram") (by decide) rfl rfl (Nat.le_of_ble_eq_true rfl) ?_
  intro p9 e s m args below meth c C hr hX hP0
  refine aw_lw (lw' := [some (.ref (h + 15)), some (.int (nI wo)), some (.int (nI wi)), none, none]) rfl ?_
  refine aw_iload_n C dc_D_kindOf_0 rfl ?_
  refine aw_if_ne C dc_D_kindOf_1 (tgt := 6) (by decide) (fun hB1 => ?_) (fun hB1 => ?_)
  · have hne : ¬ wi = 0 := fun h9 => hB1 ((ni_z (by omega)).mpr h9)
    refine aw_aload_n C dc_D_kindOf_6 rfl ?_
    refine aw_get C (fun w h => List.mem_cons_of_mem _ (ly_D w h)) 15 sy_p15 rfl 1 (by decide) (C.1.2.2.2.2 _ (List.mem_cons_of_mem _ kw_100)) (fun _ h => h) rfl dc_D_kindOf_7 ?_
    refine aw_iload_n C dc_D_kindOf_10 rfl ?_
    refine aw_iald C 17 0 sy_p17 rfl wi rfl hwi (by decide) dc_D_kindOf_11 ?_
    refine aw_eqi (it_rd (by decide) (by decide)) ?_
    refine aw_istore_n C dc_D_kindOf_12 (by decide) rfl ?_
    refine aw_iconst C dc_D_kindOf_13 (v := nI 0) rfl ?_
    refine aw_istore C dc_D_kindOf_14 (by decide) rfl ?_
    refine aw_loopS (fun n c => c < 767 ∧ klk_ T wo (767 - n) c = klk_ T wo 767 (T 17 wi)) (fun _ _ => (kp_ D h cI cL cF (it_ I0 T) J sh fr (nI E))) (fun n c => [some (.ref (h + 15)), some (.int (nI wo)), some (.int (nI wi)), some (.int (nI c)), some (.int (nI n))]) 767 (T 17 wi) ⟨hT 17 wi, rfl⟩ (fun c hk => ?_) (fun n c hn hk ih => ?_)
    · refine aw_iload C dc_D_kindOf_16 rfl ?_
      refine aw_sipush C dc_D_kindOf_18 (v := nI 767) rfl ?_
      have e9 : ko_ T E wo wi = nn_ T E wo wi := by
        unfold ko_
        rw [if_neg hne, ← hk.2, show 767 - 767 = 0 from rfl, klk_]
      rw [e9]
      refine aw_icmp_ge C dc_D_kindOf_21 (tgt := 53) (by decide) (fun _ => ?_) (fun h9 => absurd (nI_le (Nat.le_refl _) (by decide)) h9)
      refine aw_aload_n C dc_D_kindOf_53 rfl ?_
      refine aw_iload_n C dc_D_kindOf_54 rfl ?_
      refine aw_iload_n C dc_D_kindOf_55 rfl ?_
      refine kc_i (fun _ h => h) (fun _ h => h) (kc_V (n := 2) C hX (xw_k ca_le) rfl 15 sy_p15 rfl (d_newNode l D h th cI cL cF I0 T J sh fr E hT hE wo wi hwo hwi) kw_618 kw_615 kw_617 (tw_sel (q := (my_D_newNode, 5)) (by decide +kernel)) kw_7 rfl (by unfold kd_; decide) ⟨rfl, rfl, by decide, by decide⟩ rfl rfl (Nat.le_of_ble_eq_true rfl) ⟨Nat.zero_le _, Nat.zero_le _⟩ dc_D_kindOf_56) ?_
      exact kc_iret C hr rfl (fun _ h => h) dc_D_kindOf_59
    · refine aw_iload C dc_D_kindOf_16 rfl ?_
      refine aw_sipush C dc_D_kindOf_18 (v := nI 767) rfl ?_
      have hs : klk_ T wo (767 - n) c = if c = 0 then none else if T 19 c = wo then some c else klk_ T wo (767 - (n + 1)) (T 18 c) := by rw [show 767 - n = (767 - (n + 1)) + 1 by omega, klk_]
      refine aw_icmp_ge C dc_D_kindOf_21 (tgt := 53) (by decide) (fun h9 => absurd h9 (nI_ge hn (by decide))) (fun _ => ?_)
      refine aw_iload_n C dc_D_kindOf_24 rfl ?_
      refine aw_if_eq C dc_D_kindOf_25 (tgt := 53) (by decide) (fun hB25 => ?_) (fun hB25 => ?_)
      · have hz : c = 0 := (ni_z (by omega)).mp hB25
        rw [if_pos hz] at hs
        have e9 : ko_ T E wo wi = nn_ T E wo wi := by
          unfold ko_
          rw [if_neg hne, ← hk.2, hs]
        rw [e9]
        refine aw_aload_n C dc_D_kindOf_53 rfl ?_
        refine aw_iload_n C dc_D_kindOf_54 rfl ?_
        refine aw_iload_n C dc_D_kindOf_55 rfl ?_
        refine kc_i (fun _ h => h) (fun _ h => h) (kc_V (n := 2) C hX (xw_k ca_le) rfl 15 sy_p15 rfl (d_newNode l D h th cI cL cF I0 T J sh fr E hT hE wo wi hwo hwi) kw_618 kw_615 kw_617 (tw_sel (q := (my_D_newNode, 5)) (by decide +kernel)) kw_7 rfl (by unfold kd_; decide) ⟨rfl, rfl, by decide, by decide⟩ rfl rfl (Nat.le_of_ble_eq_true rfl) ⟨Nat.zero_le _, Nat.zero_le _⟩ dc_D_kindOf_56) ?_
        exact kc_iret C hr rfl (fun _ h => h) dc_D_kindOf_59
      · have hz : ¬ c = 0 := fun h9 => hB25 ((ni_z (by omega)).mpr h9)
        rw [if_neg hz] at hs
        refine aw_aload_n C dc_D_kindOf_28 rfl ?_
        refine aw_get C (fun w h => List.mem_cons_of_mem _ (ly_D w h)) 15 sy_p15 rfl 3 (by decide) (C.1.2.2.2.2 _ (List.mem_cons_of_mem _ kw_102)) (fun _ h => h) rfl dc_D_kindOf_29 ?_
        refine aw_iload_n C dc_D_kindOf_32 rfl ?_
        refine aw_iald C 19 0 sy_p19 rfl c rfl hk.1 (by decide) dc_D_kindOf_33 ?_
        refine aw_eqi (it_rd (by decide) (by decide)) ?_
        refine aw_iload_n C dc_D_kindOf_34 rfl ?_
        refine aw_icmp_ne C dc_D_kindOf_35 (tgt := 40) (by decide) (fun hB35 => ?_) (fun hB35 => ?_)
        · have hl : ¬ T 19 c = wo := fun h9 => hB35 (by rw [h9])
          rw [if_neg hl] at hs
          refine aw_aload_n C dc_D_kindOf_40 rfl ?_
          refine aw_get C (fun w h => List.mem_cons_of_mem _ (ly_D w h)) 15 sy_p15 rfl 2 (by decide) (C.1.2.2.2.2 _ (List.mem_cons_of_mem _ kw_101)) (fun _ h => h) rfl dc_D_kindOf_41 ?_
          refine aw_iload_n C dc_D_kindOf_44 rfl ?_
          refine aw_iald C 18 0 sy_p18 rfl c rfl hk.1 (by decide) dc_D_kindOf_45 ?_
          refine aw_eqi (it_rd (by decide) (by decide)) ?_
          refine aw_istore_n C dc_D_kindOf_46 (by decide) rfl ?_
          refine aw_iinc C dc_D_kindOf_47 rfl (ni_inc _) (by decide) rfl ?_
          refine aw_goto C dc_D_kindOf_50 (tgt := 16) (by decide) ?_
          exact ih (T 18 c) ⟨hT 18 c, by rw [← hs]; exact hk.2⟩
        · have hl : T 19 c = wo := (nI_eq (by have := hT 19 c; omega) (by omega)).mp hB35
          rw [if_pos hl] at hs
          have e9 : ko_ T E wo wi = (T, E, c) := by
            unfold ko_
            rw [if_neg hne, ← hk.2, hs]
          rw [e9]
          refine aw_iload_n C dc_D_kindOf_38 rfl ?_
          exact kc_iret C hr rfl (fun _ h => h) dc_D_kindOf_39
  · have e9 : ko_ T E wo wi = (T, E, wo) := by unfold ko_; rw [if_pos ((ni_z (by omega)).mp hB1)]
    rw [e9]
    refine aw_iload_n C dc_D_kindOf_4 rfl ?_
    exact kc_iret C hr rfl (fun _ h => h) dc_D_kindOf_5
set_option maxHeartbeats 4000000 in
set_option maxRecDepth 100000 in
theorem d_nodesFor (l : Launch) (D : va_G) (h th : Nat) (cI cL cF : ClassId) (I0 : Nat → Nat → Int32) (T : Nat → Nat → Nat) (J : Nat → Nat → Int64) (sh : Nat → Nat) (fr : Nat) (E : Nat) (o : Nat) (ho : fo_ o = true) (hT : tb_ T) : ki_ l my_D_nodesFor (Cond.code my_D_nodesFor bc_D_nodesFor 4 (some .int) :: tw_) ({ frames := 2, cells := 0, slots := 0, locals := 47 }) D (ty_s cI cL cF) (xw_ h th) (ca_ h) [.ref (h + 15), .ref (h + o)] (kp_ D h cI cL cF (it_ I0 T) J sh fr (nI E)) (kp_ D h cI cL cF (it_ I0 (dl_ (d0_ T (J (o + 1)) 4096, 2) 12).1) J sh fr (nI (dl_ (d0_ T (J (o + 1)) 4096, 2) 12).2)) (nI ((dl_ (d0_ T (J (o + 1)) 4096, 2) 12).2 - 2)) := by
  refine aw_met (A := ca_ h) (own := "FamilyShelf$Diagram") (by decide) rfl rfl (Nat.le_of_ble_eq_true rfl) ?_
  intro p9 e s m args below meth c C hr hX hP0
  refine aw_lw (lw' := [some (.ref (h + 15)), some (.ref (h + o)), none, none]) rfl ?_
  have hd : ∀ k, tb_ (dl_ (d0_ T (J (o + 1)) 4096, 2) k).1 ∧ (dl_ (d0_ T (J (o + 1)) 4096, 2) k).2 ≤ 767 := fun k => dl_tb (s := (d0_ T (J (o + 1)) 4096, 2)) (d0_tb hT _ _) (show 2 ≤ 767 by decide) k
  refine aw_iconst C dc_D_nodesFor_0 (v := nI 0) rfl ?_
  refine aw_istore_n C dc_D_nodesFor_1 (by decide) rfl ?_
  refine aw_P (P' := (kp_ D h cI cL cF (it_ I0 (d0_ T (J (o + 1)) 0)) J sh fr (nI E))) (fun H h => by rw [d0_0]; exact h) ?_
  refine aw_loop (fun n => (kp_ D h cI cL cF (it_ I0 (d0_ T (J (o + 1)) n)) J sh fr (nI E))) (fun n => [some (.ref (h + 15)), some (.ref (h + o)), some (.int (nI n)), none]) 4096 ?_ (fun n hn ih => ?_)
  · refine aw_iload_n C dc_D_nodesFor_2 rfl ?_
    refine aw_sipush C dc_D_nodesFor_3 (v := nI 4096) rfl ?_
    refine aw_icmp_ge C dc_D_nodesFor_6 (tgt := 34) (by decide) (fun _ => ?_) (fun h9 => absurd (nI_le (Nat.le_refl _) (by decide)) h9)
    refine aw_aload_n C dc_D_nodesFor_34 rfl ?_
    refine aw_iconst C dc_D_nodesFor_35 (v := nI 2) rfl ?_
    refine aw_put C sy_D (fun w h => List.mem_cons_of_mem _ (ly_D w h)) ty_D ty_D_ok nm_D 15 sy_p15 rfl 4 (by decide) (C.1.2.2.2.2 _ (List.mem_cons_of_mem _ kw_103)) (fun _ h => h) rfl (ty := .int) (by decide +kernel) rfl rfl (Nat.le_of_ble_eq_true rfl) (ws' := sy_ h cI cL cF (it_ I0 (d0_ T (J (o + 1)) 4096)) J sh fr (nI 2)) sy_seten dc_D_nodesFor_36 ?_
    refine aw_bipush C dc_D_nodesFor_39 (v := nI 11) rfl ?_
    refine aw_istore_n C dc_D_nodesFor_41 (by decide) rfl ?_
    refine aw_loop (fun k => (kp_ D h cI cL cF (it_ I0 (dl_ (d0_ T (J (o + 1)) 4096, 2) k).1) J sh fr (nI (dl_ (d0_ T (J (o + 1)) 4096, 2) k).2))) (fun k => [some (.ref (h + 15)), some (.ref (h + o)), some (.int (if k < 12 then nI (11 - k) else -1)), none]) 12 ?_ (fun k hk ih => ?_)
    · refine aw_iload_n C dc_D_nodesFor_42 rfl ?_
      refine aw_if_lt C dc_D_nodesFor_43 (tgt := 103) (by decide) (fun _ => ?_) (fun h9 => absurd (by decide) h9)
      refine aw_aload_n C dc_D_nodesFor_103 rfl ?_
      refine aw_get C (fun w h => List.mem_cons_of_mem _ (ly_D w h)) 15 sy_p15 rfl 4 (by decide) (C.1.2.2.2.2 _ (List.mem_cons_of_mem _ kw_103)) (fun _ h => h) rfl dc_D_nodesFor_104 ?_
      refine aw_iconst C dc_D_nodesFor_107 (v := nI 2) rfl ?_
      refine aw_isub C dc_D_nodesFor_108 ?_
      refine aw_eqi (ni_sub (a := (dl_ (d0_ T (J (o + 1)) 4096, 2) 12).2) (b := 2) dl_ge) ?_
      exact kc_iret C hr rfl (fun _ h => h) dc_D_nodesFor_109
    · have e0 : (if k < 12 then nI (11 - k) else (-1 : Int32)) = nI (11 - k) := if_pos hk
      have e1 : (if k + 1 < 12 then nI (11 - (k + 1)) else (-1 : Int32)) = nI (11 - k) + Int32.ofInt (-1) := eb_ hk
      try dsimp only
      rw [e0]
      rw [e1] at ih
      refine aw_iload_n C dc_D_nodesFor_42 rfl ?_
      refine aw_if_lt C dc_D_nodesFor_43 (tgt := 103) (by decide) (fun h9 => absurd h9 (nI_pos (by omega))) (fun _ => ?_)
      refine aw_aload_n C dc_D_nodesFor_46 rfl ?_
      refine aw_get C (fun w h => List.mem_cons_of_mem _ (ly_D w h)) 15 sy_p15 rfl 1 (by decide) (C.1.2.2.2.2 _ (List.mem_cons_of_mem _ kw_100)) (fun _ h => h) rfl dc_D_nodesFor_47 ?_
      refine aw_iconst C dc_D_nodesFor_50 (v := nI 0) rfl ?_
      refine kc_v (fun _ h => h) (fun _ h => h) (kc_S (n := 2) C hX (xw_k ca_le) (j_fillI l D _ _ _ _ sy_D 17 0 _ 767 cI _ sy_p17 rfl (by decide) (nI 0)) kw_610 kw_608 kw_609 kw_15 (by unfold kd_; decide) ⟨rfl, rfl, by decide, by decide⟩ rfl rfl (Nat.le_of_ble_eq_true rfl) ⟨Nat.zero_le _, Nat.zero_le _⟩ dc_D_nodesFor_51) ?_
      refine aw_P (P' := (kp_ D h cI cL cF (it_ I0 (va_up (dl_ (d0_ T (J (o + 1)) 4096, 2) k).1 17 (fl_ ((dl_ (d0_ T (J (o + 1)) 4096, 2) k).1 17) 767 0))) J sh fr (nI (dl_ (d0_ T (J (o + 1)) 4096, 2) k).2))) (fun H h => by rw [sy_setI (k := 17) (by decide) _ (fun _ => rfl), it_fill (by decide) (by decide)] at h; exact h) ?_
      refine aw_iconst C dc_D_nodesFor_54 (v := nI 0) rfl ?_
      refine aw_istore_n C dc_D_nodesFor_55 (by decide) rfl ?_
      have hp2 : 2 ^ (11 - k) ≤ 2048 := Nat.pow_le_pow_right (by decide) (show 11 - k ≤ 11 by omega)
      have hdi : ∀ n, tb_ (di_ ((va_up (dl_ (d0_ T (J (o + 1)) 4096, 2) k).1 17 (fl_ ((dl_ (d0_ T (J (o + 1)) 4096, 2) k).1 17) 767 0)), (dl_ (d0_ T (J (o + 1)) 4096, 2) k).2) n).1 ∧ (di_ ((va_up (dl_ (d0_ T (J (o + 1)) 4096, 2) k).1 17 (fl_ ((dl_ (d0_ T (J (o + 1)) 4096, 2) k).1 17) 767 0)), (dl_ (d0_ T (J (o + 1)) 4096, 2) k).2) n).2 ≤ 767 := fun n => di_tb (s := ((va_up (dl_ (d0_ T (J (o + 1)) 4096, 2) k).1 17 (fl_ ((dl_ (d0_ T (J (o + 1)) 4096, 2) k).1 17) 767 0)), (dl_ (d0_ T (J (o + 1)) 4096, 2) k).2)) (tb_fill (hd k).1) (hd k).2 n
      refine aw_loop (fun n => (kp_ D h cI cL cF (it_ I0 (di_ ((va_up (dl_ (d0_ T (J (o + 1)) 4096, 2) k).1 17 (fl_ ((dl_ (d0_ T (J (o + 1)) 4096, 2) k).1 17) 767 0)), (dl_ (d0_ T (J (o + 1)) 4096, 2) k).2) n).1) J sh fr (nI (di_ ((va_up (dl_ (d0_ T (J (o + 1)) 4096, 2) k).1 17 (fl_ ((dl_ (d0_ T (J (o + 1)) 4096, 2) k).1 17) 767 0)), (dl_ (d0_ T (J (o + 1)) 4096, 2) k).2) n).2))) (fun n => [some (.ref (h + 15)), some (.ref (h + o)), some (.int (nI (11 - k))), some (.int (nI n))]) (2 ^ (11 - k)) ?_ (fun n hn ih2 => ?_)
      · refine aw_iload_n C dc_D_nodesFor_56 rfl ?_
        refine aw_iconst C dc_D_nodesFor_57 (v := nI 1) rfl ?_
        refine aw_iload_n C dc_D_nodesFor_58 rfl ?_
        refine aw_ishl C dc_D_nodesFor_59 ?_
        refine aw_eqi (ni_bit (by omega)) ?_
        refine aw_icmp_ge C dc_D_nodesFor_60 (tgt := 97) (by decide) (fun _ => ?_) (fun h9 => absurd (nI_le (Nat.le_refl _) (by omega)) h9)
        refine aw_iinc C dc_D_nodesFor_97 rfl rfl (by decide) rfl ?_
        refine aw_goto C dc_D_nodesFor_100 (tgt := 42) (by decide) ?_
        refine (fun hs => aw_sub hs ih) (by
          intro k v h
          match k, h with
          | 0, h => exact h
          | 1, h => exact h
          | 2, h => exact h
          | 3, h => exact nomatch (show (some none : Option (Option Value)) = some (some v) from h)
          | n + 4, h => exact nomatch (show (none : Option (Option Value)) = some (some v) from h))
      · refine aw_iload_n C dc_D_nodesFor_56 rfl ?_
        refine aw_iconst C dc_D_nodesFor_57 (v := nI 1) rfl ?_
        refine aw_iload_n C dc_D_nodesFor_58 rfl ?_
        refine aw_ishl C dc_D_nodesFor_59 ?_
        refine aw_eqi (ni_bit (by omega)) ?_
        refine aw_icmp_ge C dc_D_nodesFor_60 (tgt := 97) (by decide) (fun h9 => absurd h9 (nI_ge hn (by omega))) (fun _ => ?_)
        refine aw_aload_n C dc_D_nodesFor_63 rfl ?_
        refine aw_get C (fun w h => List.mem_cons_of_mem _ (ly_D w h)) 15 sy_p15 rfl 0 (by decide) (C.1.2.2.2.2 _ (List.mem_cons_of_mem _ kw_99)) (fun _ h => h) rfl dc_D_nodesFor_64 ?_
        refine aw_iload_n C dc_D_nodesFor_67 rfl ?_
        refine aw_aload_n C dc_D_nodesFor_68 rfl ?_
        refine aw_aload_n C dc_D_nodesFor_69 rfl ?_
        refine aw_get C (fun w h => List.mem_cons_of_mem _ (ly_D w h)) 15 sy_p15 rfl 0 (by decide) (C.1.2.2.2.2 _ (List.mem_cons_of_mem _ kw_99)) (fun _ h => h) rfl dc_D_nodesFor_70 ?_
        refine aw_iconst C dc_D_nodesFor_73 (v := nI 2) rfl ?_
        refine aw_iload_n C dc_D_nodesFor_74 rfl ?_
        refine aw_imul C dc_D_nodesFor_75 ?_
        refine aw_eqi (pk_mul _ _) ?_
        refine aw_iald C 16 0 sy_p16 rfl (2 * n) rfl (by omega) (by decide) dc_D_nodesFor_76 ?_
        refine aw_eqi (it_rd (by decide) (by decide)) ?_
        refine aw_aload_n C dc_D_nodesFor_77 rfl ?_
        refine aw_get C (fun w h => List.mem_cons_of_mem _ (ly_D w h)) 15 sy_p15 rfl 0 (by decide) (C.1.2.2.2.2 _ (List.mem_cons_of_mem _ kw_99)) (fun _ h => h) rfl dc_D_nodesFor_78 ?_
        refine aw_iconst C dc_D_nodesFor_81 (v := nI 2) rfl ?_
        refine aw_iload_n C dc_D_nodesFor_82 rfl ?_
        refine aw_imul C dc_D_nodesFor_83 ?_
        refine aw_eqi (pk_mul _ _) ?_
        refine aw_iconst C dc_D_nodesFor_84 (v := nI 1) rfl ?_
        refine aw_iadd C dc_D_nodesFor_85 ?_
        refine aw_eqi (nI_add _ _) ?_
        refine aw_iald C 16 0 sy_p16 rfl (2 * n + 1) rfl (by omega) (by decide) dc_D_nodesFor_86 ?_
        refine aw_eqi (it_rd (by decide) (by decide)) ?_
        refine kc_i (fun _ h => h) (fun _ h => h) (kc_V (n := 2) C hX (xw_k ca_le) rfl 15 sy_p15 rfl (d_kindOf l D h th cI cL cF I0 (di_ ((va_up (dl_ (d0_ T (J (o + 1)) 4096, 2) k).1 17 (fl_ ((dl_ (d0_ T (J (o + 1)) 4096, 2) k).1 17) 767 0)), (dl_ (d0_ T (J (o + 1)) 4096, 2) k).2) n).1 J sh fr (di_ ((va_up (dl_ (d0_ T (J (o + 1)) 4096, 2) k).1 17 (fl_ ((dl_ (d0_ T (J (o + 1)) 4096, 2) k).1 17) 767 0)), (dl_ (d0_ T (J (o + 1)) 4096, 2) k).2) n).2 (hdi n).1 (hdi n).2 ((di_ ((va_up (dl_ (d0_ T (J (o + 1)) 4096, 2) k).1 17 (fl_ ((dl_ (d0_ T (J (o + 1)) 4096, 2) k).1 17) 767 0)), (dl_ (d0_ T (J (o + 1)) 4096, 2) k).2) n).1 16 (2 * n)) ((di_ ((va_up (dl_ (d0_ T (J (o + 1)) 4096, 2) k).1 17 (fl_ ((dl_ (d0_ T (J (o + 1)) 4096, 2) k).1 17) 767 0)), (dl_ (d0_ T (J (o + 1)) 4096, 2) k).2) n).1 16 (2 * n + 1)) ((hdi n).1 16 (2 * n)) ((hdi n).1 16 (2 * n + 1))) kw_614 kw_611 kw_613 (tw_sel (q := (my_D_kindOf, 5)) (by decide +kernel)) kw_7 rfl (by unfold kd_; decide) ⟨rfl, rfl, by decide, by decide⟩ rfl rfl (Nat.le_of_ble_eq_true rfl) ⟨Nat.zero_le _, Nat.zero_le _⟩ dc_D_nodesFor_87) ?_
        refine aw_iast C sy_D 16 0 sy_p16 rfl n rfl (by omega) (by decide) (ws' := sy_ h cI cL cF (it_ I0 (di_ ((va_up (dl_ (d0_ T (J (o + 1)) 4096, 2) k).1 17 (fl_ ((dl_ (d0_ T (J (o + 1)) 4096, 2) k).1 17) 767 0)), (dl_ (d0_ T (J (o + 1)) 4096, 2) k).2) (n + 1)).1) J sh fr (nI (di_ ((va_up (dl_ (d0_ T (J (o + 1)) 4096, 2) k).1 17 (fl_ ((dl_ (d0_ T (J (o + 1)) 4096, 2) k).1 17) 767 0)), (dl_ (d0_ T (J (o + 1)) 4096, 2) k).2) (n + 1)).2)) (by rw [sy_setI (k := 16) (by decide) _ (fun _ => rfl), it_up (by decide) (by decide)]; rfl) dc_D_nodesFor_90 ?_
        refine aw_iinc C dc_D_nodesFor_91 rfl (ni_inc _) (by decide) rfl ?_
        refine aw_goto C dc_D_nodesFor_94 (tgt := 56) (by decide) ?_
        exact ih2
  · refine aw_iload_n C dc_D_nodesFor_2 rfl ?_
    refine aw_sipush C dc_D_nodesFor_3 (v := nI 4096) rfl ?_
    refine aw_icmp_ge C dc_D_nodesFor_6 (tgt := 34) (by decide) (fun h9 => absurd h9 (nI_ge hn (by decide))) (fun _ => ?_)
    refine aw_aload_n C dc_D_nodesFor_9 rfl ?_
    refine aw_get C (fun w h => List.mem_cons_of_mem _ (ly_D w h)) 15 sy_p15 rfl 0 (by decide) (C.1.2.2.2.2 _ (List.mem_cons_of_mem _ kw_99)) (fun _ h => h) rfl dc_D_nodesFor_10 ?_
    refine aw_iload_n C dc_D_nodesFor_13 rfl ?_
    refine aw_aload_n C dc_D_nodesFor_14 rfl ?_
    refine aw_iload_n C dc_D_nodesFor_15 rfl ?_
    refine kc_i (fun _ h => h) (fun _ h => h) (kc_V (n := 1) C hX (xw_k ca_le) rfl o (sy_fam ho) rfl (f_holds l D h th cI cL cF (it_ I0 (d0_ T (J (o + 1)) n)) J sh fr (nI E) o ho n hn) kw_247 kw_607 kw_245 kw_246 kw_3 rfl (by unfold kd_; decide) ⟨rfl, rfl, by decide, by decide⟩ rfl rfl (Nat.le_of_ble_eq_true rfl) ⟨Nat.zero_le _, Nat.zero_le _⟩ dc_D_nodesFor_16) ?_
    refine aw_if_eq C dc_D_nodesFor_19 (tgt := 26) (by decide) (fun hB19 => ?_) (fun hB19 => ?_)
    · have hf : fb_ (J (o + 1)) n = false := by
        cases h9 : fb_ (J (o + 1)) n
        · rfl
        · rw [h9] at hB19; exact absurd hB19 (by decide)
      have e9 : dk_ (J (o + 1)) n = 0 := by unfold dk_; rw [hf]; rfl
      refine aw_iconst C dc_D_nodesFor_26 (v := nI 0) rfl ?_
      refine aw_iast C sy_D 16 0 sy_p16 rfl n rfl hn (by decide) (ws' := sy_ h cI cL cF (it_ I0 (d0_ T (J (o + 1)) (n + 1))) J sh fr (nI E)) (by rw [sy_setI (k := 16) (by decide) _ (fun _ => rfl), it_up (by decide) (by decide), ← d0_s, e9]) dc_D_nodesFor_27 ?_
      refine aw_iinc C dc_D_nodesFor_28 rfl (ni_inc _) (by decide) rfl ?_
      refine aw_goto C dc_D_nodesFor_31 (tgt := 2) (by decide) ?_
      exact ih
    · have hf : fb_ (J (o + 1)) n = true := by
        cases h9 : fb_ (J (o + 1)) n
        · rw [h9] at hB19; exact absurd rfl hB19
        · rfl
      have e9 : dk_ (J (o + 1)) n = 1 := by unfold dk_; rw [hf]; rfl
      refine aw_iconst C dc_D_nodesFor_22 (v := nI 1) rfl ?_
      refine aw_goto C dc_D_nodesFor_23 (tgt := 27) (by decide) ?_
      refine aw_iast C sy_D 16 0 sy_p16 rfl n rfl hn (by decide) (ws' := sy_ h cI cL cF (it_ I0 (d0_ T (J (o + 1)) (n + 1))) J sh fr (nI E)) (by rw [sy_setI (k := 16) (by decide) _ (fun _ => rfl), it_up (by decide) (by decide), ← d0_s, e9]) dc_D_nodesFor_27 ?_
      refine aw_iinc C dc_D_nodesFor_28 rfl (ni_inc _) (by decide) rfl ?_
      refine aw_goto C dc_D_nodesFor_31 (tgt := 2) (by decide) ?_
      exact ih
