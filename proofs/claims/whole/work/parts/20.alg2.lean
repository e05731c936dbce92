set_option maxHeartbeats 4000000 in
set_option maxRecDepth 100000 in
theorem a_pair (l : Launch) (D : va_G) (h th : Nat) (cI cL cF : ClassId) (I : Nat → Nat → Int32) (J : Nat → Nat → Int64) (sh : Nat → Nat) (fr : Nat) (en : Int32) (o : Nat) (ho : fo_ o = true) (a : Nat) (ha : fo_ a = true) (hao : a ≠ o) (b : Nat) (hb : fo_ b = true) (hbo : b ≠ o) (jn : Bool) : kv_ l my_A_pair (Cond.code my_A_pair bc_A_pair 11 none :: tw_) ({ frames := 3, cells := 0, slots := 0, locals := 64 }) D (ty_s cI cL cF) (xw_ h th) (ca_ h) [.ref (h + 2), .ref (h + o), .ref (h + a), .ref (h + b), .int (z1_ jn)] (kp_ D h cI cL cF I J sh fr en) (kp_ D h cI cL cF I (pairJ_ J o a b jn) sh fr en) := by
  refine aw_met (A := ca_ h) (own := "FamilyShelf$Algebra") (by decide) rfl rfl (Nat.le_of_ble_eq_true rfl) ?_
  intro p9 e s m args below meth c C hr hX hP0
  refine aw_lw (lw' := [some (.ref (h + 2)), some (.ref (h + o)), some (.ref (h + a)), some (.ref (h + b)), some (.int (z1_ jn)), none, none, none, none, none, none]) rfl ?_
  have ho7 : o + 1 ≠ 7 := fun h9 => by rw [show o = 6 by omega] at ho; exact absurd ho (by decide)
  have ha7 : a + 1 ≠ 7 := fun h9 => by rw [show a = 6 by omega] at ha; exact absurd ha (by decide)
  have hb7 : b + 1 ≠ 7 := fun h9 => by rw [show b = 6 by omega] at hb; exact absurd hb (by decide)
  have hta := tw64_le (J (a + 1)) 64
  have htb := tw64_le (J (b + 1)) 64
  by_cases hlt : tw64_ (J (a + 1)) 64 < tw64_ (J (b + 1)) 64
  · have em : many_ (J (a + 1)) (J (b + 1)) = (J (b + 1)) := if_pos hlt
    have ef : few_ (J (a + 1)) (J (b + 1)) = (J (a + 1)) := if_pos hlt
    unfold pairJ_
    rw [em, ef]
    refine aw_aload_n C dc_A_pair_0 rfl ?_
    refine kc_i (fun _ h => h) (fun _ h => h) (kc_V (n := 0) C hX (xw_k ca_le) rfl a (sy_fam ha) rfl (f_total l D h th cI cL cF I J sh fr en a ha) kw_274 kw_337 kw_272 kw_273 kw_3 rfl (by unfold kd_; decide) ⟨rfl, rfl, by decide, by decide⟩ rfl rfl (Nat.le_of_ble_eq_true rfl) ⟨Nat.zero_le _, Nat.zero_le _⟩ dc_A_pair_1) ?_
    refine aw_aload_n C dc_A_pair_4 rfl ?_
    refine kc_i (fun _ h => h) (fun _ h => h) (kc_V (n := 0) C hX (xw_k ca_le) rfl b (sy_fam hb) rfl (f_total l D h th cI cL cF I J sh fr en b hb) kw_274 kw_337 kw_272 kw_273 kw_3 rfl (by unfold kd_; decide) ⟨rfl, rfl, by decide, by decide⟩ rfl rfl (Nat.le_of_ble_eq_true rfl) ⟨Nat.zero_le _, Nat.zero_le _⟩ dc_A_pair_5) ?_
    refine aw_icmp_ge C dc_A_pair_8 (tgt := 15) (by decide) (fun h9 => absurd h9 (nI_ge hlt (by omega))) (fun _ => ?_)
    refine aw_iconst C dc_A_pair_11 (v := nI 1) rfl ?_
    refine aw_goto C dc_A_pair_12 (tgt := 16) (by decide) ?_
    refine aw_istore C dc_A_pair_16 (by decide) rfl ?_
    refine aw_iload C dc_A_pair_18 rfl ?_
    refine aw_if_eq C dc_A_pair_20 (tgt := 27) (by decide) (fun h9 => absurd h9 (by decide)) (fun _ => ?_)
    refine aw_aload_n C dc_A_pair_23 rfl ?_
    refine aw_goto C dc_A_pair_24 (tgt := 28) (by decide) ?_
    refine aw_astore C dc_A_pair_28 (by decide) rfl ?_
    refine aw_iload C dc_A_pair_30 rfl ?_
    refine aw_if_eq C dc_A_pair_32 (tgt := 39) (by decide) (fun h9 => absurd h9 (by decide)) (fun _ => ?_)
    refine aw_aload_n C dc_A_pair_35 rfl ?_
    refine aw_goto C dc_A_pair_36 (tgt := 40) (by decide) ?_
    refine aw_astore C dc_A_pair_40 (by decide) rfl ?_
    refine aw_aload C dc_A_pair_42 rfl ?_
    refine kc_l (fun _ h => h) (fun _ h => h) (kc_S (n := 1) C hX (xw_k ca_le) (a_lowsOf l D h th cI cL cF I J sh fr en a ha) kw_340 kw_338 kw_339 kw_2 (by unfold kd_; decide) ⟨rfl, rfl, by decide, by decide⟩ rfl rfl (Nat.le_of_ble_eq_true rfl) ⟨Nat.zero_le _, Nat.zero_le _⟩ dc_A_pair_44) ?_
    refine aw_lstore C dc_A_pair_47 (by decide) rfl ?_
    refine aw_aload_n C dc_A_pair_49 rfl ?_
    refine aw_lconst C dc_A_pair_50 (v := 0) rfl ?_
    refine kc_v (fun _ h => h) (fun _ h => h) (kc_V (n := 1) C hX (xw_k ca_le) rfl o (sy_fam ho) rfl (f_fill l D h th cI cL cF I J sh fr en o ho 0) kw_288 kw_341 kw_286 kw_287 kw_3 rfl (by unfold kd_; decide) ⟨rfl, rfl, by decide, by decide⟩ rfl rfl (Nat.le_of_ble_eq_true rfl) ⟨Nat.zero_le _, Nat.zero_le _⟩ dc_A_pair_51) ?_
    refine aw_iconst C dc_A_pair_54 (v := nI 0) rfl ?_
    refine aw_istore C dc_A_pair_55 (by decide) rfl ?_
    refine aw_P (P' := kp_ D h cI cL cF I (pj_ J o (J (b + 1)) (J (a + 1)) jn 0) sh fr en) (fun H h => by rw [pj_0 (fun h9 => ho7 h9.symm)]; exact h) ?_
    refine aw_loop (fun n => kp_ D h cI cL cF I (pj_ J o (J (b + 1)) (J (a + 1)) jn n) sh fr en) (fun n => [some (.ref (h + 2)), some (.ref (h + o)), some (.ref (h + a)), some (.ref (h + b)), some (.int (z1_ jn)), some (.int (nI 1)), some (.ref (h + b)), some (.ref (h + a)), some (.long (orr_ (J (a + 1)) 64)), none, some (.int (nI n))]) 64 ?_ (fun n hn ih => ?_)
    · refine aw_iload C dc_A_pair_57 rfl ?_
      refine aw_bipush C dc_A_pair_59 (v := nI 64) rfl ?_
      refine aw_icmp_ge C dc_A_pair_61 (tgt := 103) (by decide) (fun _ => ?_) (fun h9 => absurd (nI_le (Nat.le_refl _) (by decide)) h9)
      exact kc_vret C hr (fun _ h => h) dc_A_pair_103
    · refine aw_iload C dc_A_pair_57 rfl ?_
      refine aw_bipush C dc_A_pair_59 (v := nI 64) rfl ?_
      refine aw_icmp_ge C dc_A_pair_61 (tgt := 103) (by decide) (fun h9 => absurd h9 (nI_ge hn (by decide))) (fun _ => ?_)
      refine aw_lload C dc_A_pair_64 rfl ?_
      refine aw_iload C dc_A_pair_66 rfl ?_
      refine aw_lushr C dc_A_pair_68 ?_
      refine aw_lconst C dc_A_pair_69 (v := 1) rfl ?_
      refine aw_land C dc_A_pair_70 ?_
      refine aw_lconst C dc_A_pair_71 (v := 0) rfl ?_
      refine aw_lcmp C dc_A_pair_72 ?_
      refine aw_if_eq C dc_A_pair_73 (tgt := 97) (by decide) (fun hB73 => ?_) (fun hB73 => ?_)
      · have hb9 : lb_ (orr_ (J (a + 1)) 64) n = false := (lb_test _ hn).mp ((lg_cmp_eq _ _).mp hB73)
        have cutp := ih
        rw [pj_keep hb9] at cutp
        refine aw_iinc C dc_A_pair_97 rfl (ni_inc _) (by decide) rfl ?_
        refine aw_goto C dc_A_pair_100 (tgt := 57) (by decide) ?_
        exact cutp
      · have hb9 : lb_ (orr_ (J (a + 1)) 64) n = true := by
          cases h9 : lb_ (orr_ (J (a + 1)) 64) n
          · exact absurd ((lg_cmp_eq _ _).mpr ((lb_test _ hn).mpr h9)) hB73
          · rfl
        have cutp := aw_P (P := kp_ D h cI cL cF I (va_up (va_up (pj_ J o (J (b + 1)) (J (a + 1)) jn n) 7 (wl_ ((pj_ J o (J (b + 1)) (J (a + 1)) jn n) 7) (sw_ ((pj_ J o (J (b + 1)) (J (a + 1)) jn n) (b + 1)) n jn) 64)) (o + 1) (ph_ ((va_up (pj_ J o (J (b + 1)) (J (a + 1)) jn n) 7 (wl_ ((pj_ J o (J (b + 1)) (J (a + 1)) jn n) 7) (sw_ ((pj_ J o (J (b + 1)) (J (a + 1)) jn n) (b + 1)) n jn) 64)) (o + 1)) ((va_up (pj_ J o (J (b + 1)) (J (a + 1)) jn n) 7 (wl_ ((pj_ J o (J (b + 1)) (J (a + 1)) jn n) 7) (sw_ ((pj_ J o (J (b + 1)) (J (a + 1)) jn n) (b + 1)) n jn) 64)) 7) ((va_up (pj_ J o (J (b + 1)) (J (a + 1)) jn n) 7 (wl_ ((pj_ J o (J (b + 1)) (J (a + 1)) jn n) 7) (sw_ ((pj_ J o (J (b + 1)) (J (a + 1)) jn n) (b + 1)) n jn) 64)) (a + 1)) n jn 64)) sh fr en) (fun H h => by rw [pj_step (fun h9 => ho7 h9.symm) hb7 ha7 hbo hao hb9 rfl rfl] at h; exact h) ih
        refine aw_aload_n C dc_A_pair_76 rfl ?_
        refine aw_aload C dc_A_pair_77 rfl ?_
        refine aw_iload C dc_A_pair_79 rfl ?_
        refine aw_iload C dc_A_pair_81 rfl ?_
        refine kc_v (fun _ h => h) (fun _ h => h) (kc_V (n := 3) C hX (xw_k ca_le) rfl 2 sy_p2 rfl (a_shiftAll l D h th cI cL cF I (pj_ J o (J (b + 1)) (J (a + 1)) jn n) sh fr en b hb n hn jn) kw_345 kw_342 kw_344 (tw_sel (q := (my_A_shiftAll, 4)) (by decide +kernel)) kw_2 rfl (by unfold kd_; decide) ⟨rfl, rfl, by decide, by decide⟩ rfl rfl (Nat.le_of_ble_eq_true rfl) ⟨Nat.zero_le _, Nat.zero_le _⟩ dc_A_pair_83) ?_
        refine aw_aload_n C dc_A_pair_86 rfl ?_
        refine aw_aload_n C dc_A_pair_87 rfl ?_
        refine aw_aload C dc_A_pair_88 rfl ?_
        refine aw_iload C dc_A_pair_90 rfl ?_
        refine aw_iload C dc_A_pair_92 rfl ?_
        refine kc_v (fun _ h => h) (fun _ h => h) (kc_V (n := 4) C hX (xw_k ca_le) rfl 2 sy_p2 rfl (a_pairHighs l D h th cI cL cF I (va_up (pj_ J o (J (b + 1)) (J (a + 1)) jn n) 7 (wl_ ((pj_ J o (J (b + 1)) (J (a + 1)) jn n) 7) (sw_ ((pj_ J o (J (b + 1)) (J (a + 1)) jn n) (b + 1)) n jn) 64)) sh fr en o ho a ha hao n hn jn) kw_357 kw_354 kw_356 (tw_sel (q := (my_A_pairHighs, 4)) (by decide +kernel)) kw_2 rfl (by unfold kd_; decide) ⟨rfl, rfl, by decide, by decide⟩ rfl rfl (Nat.le_of_ble_eq_true rfl) ⟨Nat.zero_le _, Nat.zero_le _⟩ dc_A_pair_94) ?_
        refine aw_iinc C dc_A_pair_97 rfl (ni_inc _) (by decide) rfl ?_
        refine aw_goto C dc_A_pair_100 (tgt := 57) (by decide) ?_
        exact cutp
  · have em : many_ (J (a + 1)) (J (b + 1)) = (J (a + 1)) := if_neg hlt
    have ef : few_ (J (a + 1)) (J (b + 1)) = (J (b + 1)) := if_neg hlt
    unfold pairJ_
    rw [em, ef]
    refine aw_aload_n C dc_A_pair_0 rfl ?_
    refine kc_i (fun _ h => h) (fun _ h => h) (kc_V (n := 0) C hX (xw_k ca_le) rfl a (sy_fam ha) rfl (f_total l D h th cI cL cF I J sh fr en a ha) kw_274 kw_337 kw_272 kw_273 kw_3 rfl (by unfold kd_; decide) ⟨rfl, rfl, by decide, by decide⟩ rfl rfl (Nat.le_of_ble_eq_true rfl) ⟨Nat.zero_le _, Nat.zero_le _⟩ dc_A_pair_1) ?_
    refine aw_aload_n C dc_A_pair_4 rfl ?_
    refine kc_i (fun _ h => h) (fun _ h => h) (kc_V (n := 0) C hX (xw_k ca_le) rfl b (sy_fam hb) rfl (f_total l D h th cI cL cF I J sh fr en b hb) kw_274 kw_337 kw_272 kw_273 kw_3 rfl (by unfold kd_; decide) ⟨rfl, rfl, by decide, by decide⟩ rfl rfl (Nat.le_of_ble_eq_true rfl) ⟨Nat.zero_le _, Nat.zero_le _⟩ dc_A_pair_5) ?_
    refine aw_icmp_ge C dc_A_pair_8 (tgt := 15) (by decide) (fun _ => ?_) (fun h9 => absurd (nI_le (by omega) (by omega)) h9)
    refine aw_iconst C dc_A_pair_15 (v := nI 0) rfl ?_
    refine aw_istore C dc_A_pair_16 (by decide) rfl ?_
    refine aw_iload C dc_A_pair_18 rfl ?_
    refine aw_if_eq C dc_A_pair_20 (tgt := 27) (by decide) (fun _ => ?_) (fun h9 => absurd (rfl) h9)
    refine aw_aload_n C dc_A_pair_27 rfl ?_
    refine aw_astore C dc_A_pair_28 (by decide) rfl ?_
    refine aw_iload C dc_A_pair_30 rfl ?_
    refine aw_if_eq C dc_A_pair_32 (tgt := 39) (by decide) (fun _ => ?_) (fun h9 => absurd (rfl) h9)
    refine aw_aload_n C dc_A_pair_39 rfl ?_
    refine aw_astore C dc_A_pair_40 (by decide) rfl ?_
    refine aw_aload C dc_A_pair_42 rfl ?_
    refine kc_l (fun _ h => h) (fun _ h => h) (kc_S (n := 1) C hX (xw_k ca_le) (a_lowsOf l D h th cI cL cF I J sh fr en b hb) kw_340 kw_338 kw_339 kw_2 (by unfold kd_; decide) ⟨rfl, rfl, by decide, by decide⟩ rfl rfl (Nat.le_of_ble_eq_true rfl) ⟨Nat.zero_le _, Nat.zero_le _⟩ dc_A_pair_44) ?_
    refine aw_lstore C dc_A_pair_47 (by decide) rfl ?_
    refine aw_aload_n C dc_A_pair_49 rfl ?_
    refine aw_lconst C dc_A_pair_50 (v := 0) rfl ?_
    refine kc_v (fun _ h => h) (fun _ h => h) (kc_V (n := 1) C hX (xw_k ca_le) rfl o (sy_fam ho) rfl (f_fill l D h th cI cL cF I J sh fr en o ho 0) kw_288 kw_341 kw_286 kw_287 kw_3 rfl (by unfold kd_; decide) ⟨rfl, rfl, by decide, by decide⟩ rfl rfl (Nat.le_of_ble_eq_true rfl) ⟨Nat.zero_le _, Nat.zero_le _⟩ dc_A_pair_51) ?_
    refine aw_iconst C dc_A_pair_54 (v := nI 0) rfl ?_
    refine aw_istore C dc_A_pair_55 (by decide) rfl ?_
    refine aw_P (P' := kp_ D h cI cL cF I (pj_ J o (J (a + 1)) (J (b + 1)) jn 0) sh fr en) (fun H h => by rw [pj_0 (fun h9 => ho7 h9.symm)]; exact h) ?_
    refine aw_loop (fun n => kp_ D h cI cL cF I (pj_ J o (J (a + 1)) (J (b + 1)) jn n) sh fr en) (fun n => [some (.ref (h + 2)), some (.ref (h + o)), some (.ref (h + a)), some (.ref (h + b)), some (.int (z1_ jn)), some (.int (nI 0)), some (.ref (h + a)), some (.ref (h + b)), some (.long (orr_ (J (b + 1)) 64)), none, some (.int (nI n))]) 64 ?_ (fun n hn ih => ?_)
    · refine aw_iload C dc_A_pair_57 rfl ?_
      refine aw_bipush C dc_A_pair_59 (v := nI 64) rfl ?_
      refine aw_icmp_ge C dc_A_pair_61 (tgt := 103) (by decide) (fun _ => ?_) (fun h9 => absurd (nI_le (Nat.le_refl _) (by decide)) h9)
      exact kc_vret C hr (fun _ h => h) dc_A_pair_103
    · refine aw_iload C dc_A_pair_57 rfl ?_
      refine aw_bipush C dc_A_pair_59 (v := nI 64) rfl ?_
      refine aw_icmp_ge C dc_A_pair_61 (tgt := 103) (by decide) (fun h9 => absurd h9 (nI_ge hn (by decide))) (fun _ => ?_)
      refine aw_lload C dc_A_pair_64 rfl ?_
      refine aw_iload C dc_A_pair_66 rfl ?_
      refine aw_lushr C dc_A_pair_68 ?_
      refine aw_lconst C dc_A_pair_69 (v := 1) rfl ?_
      refine aw_land C dc_A_pair_70 ?_
      refine aw_lconst C dc_A_pair_71 (v := 0) rfl ?_
      refine aw_lcmp C dc_A_pair_72 ?_
      refine aw_if_eq C dc_A_pair_73 (tgt := 97) (by decide) (fun hB73 => ?_) (fun hB73 => ?_)
      · have hb9 : lb_ (orr_ (J (b + 1)) 64) n = false := (lb_test _ hn).mp ((lg_cmp_eq _ _).mp hB73)
        have cutp := ih
        rw [pj_keep hb9] at cutp
        refine aw_iinc C dc_A_pair_97 rfl (ni_inc _) (by decide) rfl ?_
        refine aw_goto C dc_A_pair_100 (tgt := 57) (by decide) ?_
        exact cutp
      · have hb9 : lb_ (orr_ (J (b + 1)) 64) n = true := by
          cases h9 : lb_ (orr_ (J (b + 1)) 64) n
          · exact absurd ((lg_cmp_eq _ _).mpr ((lb_test _ hn).mpr h9)) hB73
          · rfl
        have cutp := aw_P (P := kp_ D h cI cL cF I (va_up (va_up (pj_ J o (J (a + 1)) (J (b + 1)) jn n) 7 (wl_ ((pj_ J o (J (a + 1)) (J (b + 1)) jn n) 7) (sw_ ((pj_ J o (J (a + 1)) (J (b + 1)) jn n) (a + 1)) n jn) 64)) (o + 1) (ph_ ((va_up (pj_ J o (J (a + 1)) (J (b + 1)) jn n) 7 (wl_ ((pj_ J o (J (a + 1)) (J (b + 1)) jn n) 7) (sw_ ((pj_ J o (J (a + 1)) (J (b + 1)) jn n) (a + 1)) n jn) 64)) (o + 1)) ((va_up (pj_ J o (J (a + 1)) (J (b + 1)) jn n) 7 (wl_ ((pj_ J o (J (a + 1)) (J (b + 1)) jn n) 7) (sw_ ((pj_ J o (J (a + 1)) (J (b + 1)) jn n) (a + 1)) n jn) 64)) 7) ((va_up (pj_ J o (J (a + 1)) (J (b + 1)) jn n) 7 (wl_ ((pj_ J o (J (a + 1)) (J (b + 1)) jn n) 7) (sw_ ((pj_ J o (J (a + 1)) (J (b + 1)) jn n) (a + 1)) n jn) 64)) (b + 1)) n jn 64)) sh fr en) (fun H h => by rw [pj_step (fun h9 => ho7 h9.symm) ha7 hb7 hao hbo hb9 rfl rfl] at h; exact h) ih
        refine aw_aload_n C dc_A_pair_76 rfl ?_
        refine aw_aload C dc_A_pair_77 rfl ?_
        refine aw_iload C dc_A_pair_79 rfl ?_
        refine aw_iload C dc_A_pair_81 rfl ?_
        refine kc_v (fun _ h => h) (fun _ h => h) (kc_V (n := 3) C hX (xw_k ca_le) rfl 2 sy_p2 rfl (a_shiftAll l D h th cI cL cF I (pj_ J o (J (a + 1)) (J (b + 1)) jn n) sh fr en a ha n hn jn) kw_345 kw_342 kw_344 (tw_sel (q := (my_A_shiftAll, 4)) (by decide +kernel)) kw_2 rfl (by unfold kd_; decide) ⟨rfl, rfl, by decide, by decide⟩ rfl rfl (Nat.le_of_ble_eq_true rfl) ⟨Nat.zero_le _, Nat.zero_le _⟩ dc_A_pair_83) ?_
        refine aw_aload_n C dc_A_pair_86 rfl ?_
        refine aw_aload_n C dc_A_pair_87 rfl ?_
        refine aw_aload C dc_A_pair_88 rfl ?_
        refine aw_iload C dc_A_pair_90 rfl ?_
        refine aw_iload C dc_A_pair_92 rfl ?_
        refine kc_v (fun _ h => h) (fun _ h => h) (kc_V (n := 4) C hX (xw_k ca_le) rfl 2 sy_p2 rfl (a_pairHighs l D h th cI cL cF I (va_up (pj_ J o (J (a + 1)) (J (b + 1)) jn n) 7 (wl_ ((pj_ J o (J (a + 1)) (J (b + 1)) jn n) 7) (sw_ ((pj_ J o (J (a + 1)) (J (b + 1)) jn n) (a + 1)) n jn) 64)) sh fr en o ho b hb hbo n hn jn) kw_357 kw_354 kw_356 (tw_sel (q := (my_A_pairHighs, 4)) (by decide +kernel)) kw_2 rfl (by unfold kd_; decide) ⟨rfl, rfl, by decide, by decide⟩ rfl rfl (Nat.le_of_ble_eq_true rfl) ⟨Nat.zero_le _, Nat.zero_le _⟩ dc_A_pair_94) ?_
        refine aw_iinc C dc_A_pair_97 rfl (ni_inc _) (by decide) rfl ?_
        refine aw_goto C dc_A_pair_100 (tgt := 57) (by decide) ?_
        exact cutp
set_option maxHeartbeats 4000000 in
set_option maxRecDepth 100000 in
theorem a_usedBits (l : Launch) (D : va_G) (h th : Nat) (cI cL cF : ClassId) (I : Nat → Nat → Int32) (J : Nat → Nat → Int64) (sh : Nat → Nat) (fr : Nat) (en : Int32) (o : Nat) (ho : fo_ o = true) : ki_ l my_A_usedBits (Cond.code my_A_usedBits bc_A_usedBits 3 (some .int) :: tw_) ({ frames := 1, cells := 0, slots := 0, locals := 21 }) D (ty_s cI cL cF) (xw_ h th) (ca_ h) [.ref (h + o)] (kp_ D h cI cL cF I J sh fr en) (kp_ D h cI cL cF I J sh fr en) (nI (ub_ (J (o + 1)) 4096)) := by
  refine aw_met (A := ca_ h) (own := "FamilyShelf$Algebra") (by decide) rfl rfl (Nat.le_of_ble_eq_true rfl) ?_
  intro p9 e s m args below meth c C hr hX hP0
  refine aw_lw (lw' := [some (.ref (h + o)), none, none]) rfl ?_
  refine aw_iconst C dc_A_usedBits_0 (v := nI 0) rfl ?_
  refine aw_istore_n C dc_A_usedBits_1 (by decide) rfl ?_
  refine aw_iconst C dc_A_usedBits_2 (v := nI 0) rfl ?_
  refine aw_istore_n C dc_A_usedBits_3 (by decide) rfl ?_
  refine aw_loop (fun _ => kp_ D h cI cL cF I J sh fr en) (fun n => [some (.ref (h + o)), some (.int (nI (ub_ (J (o + 1)) n))), some (.int (nI n))]) 4096 ?_ (fun n hn ih => ?_)
  · refine aw_iload_n C dc_A_usedBits_4 rfl ?_
    refine aw_sipush C dc_A_usedBits_5 (v := nI 4096) rfl ?_
    refine aw_icmp_ge C dc_A_usedBits_8 (tgt := 29) (by decide) (fun _ => ?_) (fun h9 => absurd (nI_le (Nat.le_refl _) (by decide)) h9)
    refine aw_iload_n C dc_A_usedBits_29 rfl ?_
    exact kc_iret C hr rfl (fun _ h => h) dc_A_usedBits_30
  · refine aw_iload_n C dc_A_usedBits_4 rfl ?_
    refine aw_sipush C dc_A_usedBits_5 (v := nI 4096) rfl ?_
    refine aw_icmp_ge C dc_A_usedBits_8 (tgt := 29) (by decide) (fun h9 => absurd h9 (nI_ge hn (by decide))) (fun _ => ?_)
    refine aw_aload_n C dc_A_usedBits_11 rfl ?_
    refine aw_iload_n C dc_A_usedBits_12 rfl ?_
    refine kc_i (fun _ h => h) (fun _ h => h) (kc_V (n := 1) C hX (xw_k ca_le) rfl o (sy_fam ho) rfl (f_holds l D h th cI cL cF I J sh fr en o ho n hn) kw_247 kw_358 kw_245 kw_246 kw_3 rfl (by unfold kd_; decide) ⟨rfl, rfl, by decide, by decide⟩ rfl rfl (Nat.le_of_ble_eq_true rfl) ⟨Nat.zero_le _, Nat.zero_le _⟩ dc_A_usedBits_13) ?_
    refine aw_if_eq C dc_A_usedBits_16 (tgt := 23) (by decide) (fun hB16 => ?_) (fun hB16 => ?_)
    · have hf : fb_ (J (o + 1)) n = false := by
        cases h9 : fb_ (J (o + 1)) n
        · rfl
        · rw [h9] at hB16; exact absurd hB16 (by decide)
      have cutp := ih
      rw [show ub_ (J (o + 1)) (n + 1) = ub_ (J (o + 1)) n by rw [ub_, hf]; rfl] at cutp
      refine aw_iinc C dc_A_usedBits_23 rfl (ni_inc _) (by decide) rfl ?_
      refine aw_goto C dc_A_usedBits_26 (tgt := 4) (by decide) ?_
      exact cutp
    · have hf : fb_ (J (o + 1)) n = true := by
        cases h9 : fb_ (J (o + 1)) n
        · rw [h9] at hB16; exact absurd rfl hB16
        · rfl
      have cutp := ih
      rw [show ub_ (J (o + 1)) (n + 1) = ub_ (J (o + 1)) n ||| n by rw [ub_, hf]; rfl] at cutp
      refine aw_iload_n C dc_A_usedBits_19 rfl ?_
      refine aw_iload_n C dc_A_usedBits_20 rfl ?_
      refine aw_ior C dc_A_usedBits_21 ?_
      refine aw_eqi (ni_or _ _) ?_
      refine aw_istore_n C dc_A_usedBits_22 (by decide) rfl ?_
      refine aw_iinc C dc_A_usedBits_23 rfl (ni_inc _) (by decide) rfl ?_
      refine aw_goto C dc_A_usedBits_26 (tgt := 4) (by decide) ?_
      exact cutp
set_option maxHeartbeats 4000000 in
set_option maxRecDepth 100000 in
theorem a_fillDisjoint (l : Launch) (D : va_G) (h th : Nat) (cI cL cF : ClassId) (I : Nat → Nat → Int32) (J : Nat → Nat → Int64) (sh : Nat → Nat) (fr : Nat) (en : Int32) (o : Nat) (ho : fo_ o = true) (bits : Nat) (hbits : bits < 4096) : kv_ l my_A_fillDisjoint (Cond.code my_A_fillDisjoint bc_A_fillDisjoint 6 none :: tw_) rm0 D (ty_s cI cL cF) (xw_ h th) (ca_ h) [.ref (h + o), .int (nI bits)] (kp_ D h cI cL cF I J sh fr en) (kp_ D h cI cL cF I (va_up J (o + 1) (wl_ (J (o + 1)) (fdj_ bits) 64)) sh fr en) := by
  refine aw_met (A := ca_ h) (own := "FamilyShelf$Algebra") (by decide) rfl rfl (Nat.le_of_ble_eq_true rfl) ?_
  intro p9 e s m args below meth c C hr hX hP0
  refine aw_lw (lw' := [some (.ref (h + o)), some (.int (nI bits)), none, none, none, none]) rfl ?_
  refine aw_lconst C dc_A_fillDisjoint_0 (v := 1) rfl ?_
  refine aw_lstore_n C dc_A_fillDisjoint_1 (by decide) rfl ?_
  refine aw_iconst C dc_A_fillDisjoint_2 (v := nI 0) rfl ?_
  refine aw_istore C dc_A_fillDisjoint_3 (by decide) rfl ?_
  refine aw_loop (fun _ => kp_ D h cI cL cF I J sh fr en) (fun n => [some (.ref (h + o)), some (.int (nI bits)), some (.long (ld_ bits n)), none, some (.int (nI n)), none]) 6 ?_ (fun n hn ih => ?_)
  · refine aw_iload C dc_A_fillDisjoint_5 rfl ?_
    refine aw_bipush C dc_A_fillDisjoint_7 (v := nI 6) rfl ?_
    refine aw_icmp_ge C dc_A_fillDisjoint_9 (tgt := 36) (by decide) (fun _ => ?_) (fun h9 => absurd (nI_le (Nat.le_refl _) (by decide)) h9)
    refine aw_iload_n C dc_A_fillDisjoint_36 rfl ?_
    refine aw_bipush C dc_A_fillDisjoint_37 (v := nI 6) rfl ?_
    refine aw_ishr C dc_A_fillDisjoint_39 ?_
    refine aw_eqi (np_hi hbits) ?_
    refine aw_istore C dc_A_fillDisjoint_40 (by decide) rfl ?_
    refine aw_iconst C dc_A_fillDisjoint_42 (v := nI 0) rfl ?_
    refine aw_istore C dc_A_fillDisjoint_43 (by decide) rfl ?_
    refine aw_P (P' := kp_ D h cI cL cF I (va_up J (o + 1) (wl_ (J (o + 1)) (fdj_ bits) 0)) sh fr en) (fun H h => by rw [wl_0, va_upid]; exact h) ?_
    refine aw_loop (fun n => kp_ D h cI cL cF I (va_up J (o + 1) (wl_ (J (o + 1)) (fdj_ bits) n)) sh fr en) (fun n => [some (.ref (h + o)), some (.int (nI bits)), some (.long (ld_ bits 6)), none, some (.int (nI (bits / 64))), some (.int (nI n))]) 64 ?_ (fun n hn ih => ?_)
    · refine aw_iload C dc_A_fillDisjoint_45 rfl ?_
      refine aw_bipush C dc_A_fillDisjoint_47 (v := nI 64) rfl ?_
      refine aw_icmp_ge C dc_A_fillDisjoint_49 (tgt := 78) (by decide) (fun _ => ?_) (fun h9 => absurd (nI_le (Nat.le_refl _) (by decide)) h9)
      exact kc_vret C hr (fun _ h => h) dc_A_fillDisjoint_78
    · refine aw_iload C dc_A_fillDisjoint_45 rfl ?_
      refine aw_bipush C dc_A_fillDisjoint_47 (v := nI 64) rfl ?_
      refine aw_icmp_ge C dc_A_fillDisjoint_49 (tgt := 78) (by decide) (fun h9 => absurd h9 (nI_ge hn (by decide))) (fun _ => ?_)
      refine aw_aload_n C dc_A_fillDisjoint_52 rfl ?_
      refine aw_get C (fun w h => List.mem_cons_of_mem _ (ly_F w h)) o (sy_fam ho) rfl 0 (by decide) (C.1.2.2.2.2 _ (List.mem_cons_of_mem _ kw_42)) (fun _ h => h) rfl dc_A_fillDisjoint_53 ?_
      refine aw_iload C dc_A_fillDisjoint_56 rfl ?_
      refine aw_iload C dc_A_fillDisjoint_58 rfl ?_
      refine aw_iload C dc_A_fillDisjoint_60 rfl ?_
      refine aw_iand C dc_A_fillDisjoint_62 ?_
      refine aw_eqi (ni_and _ _) ?_
      refine aw_if_ne C dc_A_fillDisjoint_63 (tgt := 70) (by decide) (fun hB63 => ?_) (fun hB63 => ?_)
      · have e9 : (0 : Int64) = fdj_ bits n := by unfold fdj_; rw [if_neg (fun h9 => hB63 ((ni_z (Nat.lt_of_le_of_lt Nat.and_le_left (by omega))).mpr h9))]
        refine aw_lconst C dc_A_fillDisjoint_70 (v := 0) rfl ?_
        refine aw_eql e9 ?_
        refine aw_last C sy_D (o + 1) 1 (sy_words ho) rfl n rfl hn (by decide) (ws' := sy_ h cI cL cF I (va_up J (o + 1) (wl_ (J (o + 1)) (fdj_ bits) (n + 1))) sh fr en) (by rw [sy_setW ho, bx_uu, va_up_self]; exact congrArg (fun z => sy_ h cI cL cF I (va_up J (o + 1) z) sh fr en) (wl_s _ (fdj_ bits) n)) dc_A_fillDisjoint_71 ?_
        refine aw_iinc C dc_A_fillDisjoint_72 rfl (ni_inc _) (by decide) rfl ?_
        refine aw_goto C dc_A_fillDisjoint_75 (tgt := 45) (by decide) ?_
        exact ih
      · have e9 : ld_ bits 6 = fdj_ bits n := by unfold fdj_; rw [if_pos ((ni_z (Nat.lt_of_le_of_lt Nat.and_le_left (by omega))).mp hB63)]
        refine aw_lload_n C dc_A_fillDisjoint_66 rfl ?_
        refine aw_goto C dc_A_fillDisjoint_67 (tgt := 71) (by decide) ?_
        refine aw_eql e9 ?_
        refine aw_last C sy_D (o + 1) 1 (sy_words ho) rfl n rfl hn (by decide) (ws' := sy_ h cI cL cF I (va_up J (o + 1) (wl_ (J (o + 1)) (fdj_ bits) (n + 1))) sh fr en) (by rw [sy_setW ho, bx_uu, va_up_self]; exact congrArg (fun z => sy_ h cI cL cF I (va_up J (o + 1) z) sh fr en) (wl_s _ (fdj_ bits) n)) dc_A_fillDisjoint_71 ?_
        refine aw_iinc C dc_A_fillDisjoint_72 rfl (ni_inc _) (by decide) rfl ?_
        refine aw_goto C dc_A_fillDisjoint_75 (tgt := 45) (by decide) ?_
        exact ih
  · refine aw_iload C dc_A_fillDisjoint_5 rfl ?_
    refine aw_bipush C dc_A_fillDisjoint_7 (v := nI 6) rfl ?_
    refine aw_icmp_ge C dc_A_fillDisjoint_9 (tgt := 36) (by decide) (fun h9 => absurd h9 (nI_ge hn (by decide))) (fun _ => ?_)
    refine aw_iload_n C dc_A_fillDisjoint_12 rfl ?_
    refine aw_iload C dc_A_fillDisjoint_13 rfl ?_
    refine aw_ishr C dc_A_fillDisjoint_15 ?_
    refine aw_iconst C dc_A_fillDisjoint_16 (v := nI 1) rfl ?_
    refine aw_iand C dc_A_fillDisjoint_17 ?_
    refine aw_eqi (ni_tb (by omega) (by omega)) ?_
    refine aw_if_ne C dc_A_fillDisjoint_18 (tgt := 30) (by decide) (fun hB18 => ?_) (fun hB18 => ?_)
    · have hb9 : bits.testBit n = true := by
        cases h9 : bits.testBit n
        · rw [h9] at hB18; exact absurd rfl hB18
        · rfl
      have cutp := ih
      rw [show ld_ bits (n + 1) = ld_ bits n by rw [ld_, hb9]; rfl] at cutp
      refine aw_iinc C dc_A_fillDisjoint_30 rfl (ni_inc _) (by decide) rfl ?_
      refine aw_goto C dc_A_fillDisjoint_33 (tgt := 5) (by decide) ?_
      exact cutp
    · have hb9 : bits.testBit n = false := by
        cases h9 : bits.testBit n
        · rfl
        · rw [h9] at hB18; exact absurd hB18 (by decide)
      have cutp := ih
      rw [show ld_ bits (n + 1) = _ by rw [ld_, hb9]] at cutp
      refine aw_lload_n C dc_A_fillDisjoint_21 rfl ?_
      refine aw_lload_n C dc_A_fillDisjoint_22 rfl ?_
      refine aw_iconst C dc_A_fillDisjoint_23 (v := nI 1) rfl ?_
      refine aw_iload C dc_A_fillDisjoint_24 rfl ?_
      refine aw_ishl C dc_A_fillDisjoint_26 ?_
      refine aw_eqi (ni_bit (by omega)) ?_
      refine aw_lshl C dc_A_fillDisjoint_27 ?_
      refine aw_lor C dc_A_fillDisjoint_28 ?_
      refine aw_lstore_n C dc_A_fillDisjoint_29 (by decide) rfl ?_
      refine aw_iinc C dc_A_fillDisjoint_30 rfl (ni_inc _) (by decide) rfl ?_
      refine aw_goto C dc_A_fillDisjoint_33 (tgt := 5) (by decide) ?_
      exact cutp
set_option maxHeartbeats 4000000 in
set_option maxRecDepth 100000 in
theorem a_keepUnionsIn (l : Launch) (D : va_G) (h th : Nat) (cI cL cF : ClassId) (I : Nat → Nat → Int32) (J : Nat → Nat → Int64) (sh : Nat → Nat) (fr : Nat) (en : Int32) (o : Nat) (ho : fo_ o = true) (a : Nat) (ha : fo_ a = true) (hao : a ≠ o) (p : Nat) (hp : p < 4096) : kv_ l my_A_keepUnionsIn (Cond.code my_A_keepUnionsIn bc_A_keepUnionsIn 6 none :: tw_) rm0 D (ty_s cI cL cF) (xw_ h th) (ca_ h) [.ref (h + o), .ref (h + a), .int (nI p)] (kp_ D h cI cL cF I J sh fr en) (kp_ D h cI cL cF I (va_up J (o + 1) (wl_ (J (o + 1)) (ku_ (J (o + 1)) (J (a + 1)) p) 64)) sh fr en) := by
  refine aw_met (A := ca_ h) (own := "FamilyShelf$Algebra") (by decide) rfl rfl (Nat.le_of_ble_eq_true rfl) ?_
  intro p9 e s m args below meth c C hr hX hP0
  refine aw_lw (lw' := [some (.ref (h + o)), some (.ref (h + a)), some (.int (nI p)), none, none, none]) rfl ?_
  refine aw_iload_n C dc_A_keepUnionsIn_0 rfl ?_
  refine aw_bipush C dc_A_keepUnionsIn_1 (v := nI 6) rfl ?_
  refine aw_ishr C dc_A_keepUnionsIn_3 ?_
  refine aw_eqi (np_hi hp) ?_
  refine aw_istore_n C dc_A_keepUnionsIn_4 (by decide) rfl ?_
  refine aw_iload_n C dc_A_keepUnionsIn_5 rfl ?_
  refine aw_bipush C dc_A_keepUnionsIn_6 (v := nI 63) rfl ?_
  refine aw_iand C dc_A_keepUnionsIn_8 ?_
  refine aw_eqi (np_lo hp) ?_
  refine aw_istore C dc_A_keepUnionsIn_9 (by decide) rfl ?_
  refine aw_iconst C dc_A_keepUnionsIn_11 (v := nI 0) rfl ?_
  refine aw_istore C dc_A_keepUnionsIn_12 (by decide) rfl ?_
  refine aw_P (P' := kp_ D h cI cL cF I (va_up J (o + 1) (wl_ (J (o + 1)) (ku_ (J (o + 1)) (J (a + 1)) p) 0)) sh fr en) (fun H h => by rw [wl_0, va_upid]; exact h) ?_
  refine aw_loop (fun n => kp_ D h cI cL cF I (va_up J (o + 1) (wl_ (J (o + 1)) (ku_ (J (o + 1)) (J (a + 1)) p) n)) sh fr en) (fun n => [some (.ref (h + o)), some (.ref (h + a)), some (.int (nI p)), some (.int (nI (p / 64))), some (.int (nI (p % 64))), some (.int (nI n))]) 64 ?_ (fun n hn ih => ?_)
  · refine aw_iload C dc_A_keepUnionsIn_14 rfl ?_
    refine aw_bipush C dc_A_keepUnionsIn_16 (v := nI 64) rfl ?_
    refine aw_icmp_ge C dc_A_keepUnionsIn_18 (tgt := 61) (by decide) (fun _ => ?_) (fun h9 => absurd (nI_le (Nat.le_refl _) (by decide)) h9)
    exact kc_vret C hr (fun _ h => h) dc_A_keepUnionsIn_61
  · refine aw_iload C dc_A_keepUnionsIn_14 rfl ?_
    refine aw_bipush C dc_A_keepUnionsIn_16 (v := nI 64) rfl ?_
    refine aw_icmp_ge C dc_A_keepUnionsIn_18 (tgt := 61) (by decide) (fun h9 => absurd h9 (nI_ge hn (by decide))) (fun _ => ?_)
    refine aw_aload_n C dc_A_keepUnionsIn_21 rfl ?_
    refine aw_get C (fun w h => List.mem_cons_of_mem _ (ly_F w h)) o (sy_fam ho) rfl 0 (by decide) (C.1.2.2.2.2 _ (List.mem_cons_of_mem _ kw_42)) (fun _ h => h) rfl dc_A_keepUnionsIn_22 ?_
    refine aw_iload C dc_A_keepUnionsIn_25 rfl ?_
    refine aw_lald C (o + 1) 1 (sy_words ho) rfl n rfl hn (by decide) dc_A_keepUnionsIn_27 ?_
    refine aw_eql (show _ = J (o + 1) n by rw [va_up_self, wl_at]) ?_
    refine aw_lconst C dc_A_keepUnionsIn_28 (v := 0) rfl ?_
    refine aw_lcmp C dc_A_keepUnionsIn_29 ?_
    refine aw_if_eq C dc_A_keepUnionsIn_30 (tgt := 55) (by decide) (fun hB30 => ?_) (fun hB30 => ?_)
    · have hz : J (o + 1) n = 0 := (lg_cmp_eq _ _).mp hB30
      have cutp := ih
      rw [← wl_skip (J (o + 1)) (ku_ (J (o + 1)) (J (a + 1)) p) n (by unfold ku_; rw [hz, Int64.zero_and])] at cutp
      refine aw_iinc C dc_A_keepUnionsIn_55 rfl (ni_inc _) (by decide) rfl ?_
      refine aw_goto C dc_A_keepUnionsIn_58 (tgt := 14) (by decide) ?_
      exact cutp
    · have cutp := ih
      refine aw_aload_n C dc_A_keepUnionsIn_33 rfl ?_
      refine aw_get C (fun w h => List.mem_cons_of_mem _ (ly_F w h)) o (sy_fam ho) rfl 0 (by decide) (C.1.2.2.2.2 _ (List.mem_cons_of_mem _ kw_42)) (fun _ h => h) rfl dc_A_keepUnionsIn_34 ?_
      refine aw_iload C dc_A_keepUnionsIn_37 rfl ?_
      refine aw_dup2_11 C dc_A_keepUnionsIn_39 rfl rfl ?_
      refine aw_lald C (o + 1) 1 (sy_words ho) rfl n rfl hn (by decide) dc_A_keepUnionsIn_40 ?_
      refine aw_eql (show _ = J (o + 1) n by rw [va_up_self, wl_at]) ?_
      refine aw_aload_n C dc_A_keepUnionsIn_41 rfl ?_
      refine aw_get C (fun w h => List.mem_cons_of_mem _ (ly_F w h)) a (sy_fam ha) rfl 0 (by decide) (C.1.2.2.2.2 _ (List.mem_cons_of_mem _ kw_42)) (fun _ h => h) rfl dc_A_keepUnionsIn_42 ?_
      refine aw_iload C dc_A_keepUnionsIn_45 rfl ?_
      refine aw_iload_n C dc_A_keepUnionsIn_47 rfl ?_
      refine aw_ior C dc_A_keepUnionsIn_48 ?_
      refine aw_eqi (ni_or _ _) ?_
      refine aw_lald C (a + 1) 1 (sy_words ha) rfl (n ||| p / 64) rfl (Nat.or_lt_two_pow (n := 6) hn (by omega)) (by decide) dc_A_keepUnionsIn_49 ?_
      refine aw_eql (show _ = J (a + 1) (n ||| p / 64) from congrFun (va_up_ne _ _ (by omega)) _) ?_
      refine aw_iload C dc_A_keepUnionsIn_50 rfl ?_
      refine aw_lushr C dc_A_keepUnionsIn_52 ?_
      refine aw_land C dc_A_keepUnionsIn_53 ?_
      refine aw_last C sy_D (o + 1) 1 (sy_words ho) rfl n rfl hn (by decide) (ws' := sy_ h cI cL cF I (va_up J (o + 1) (wl_ (J (o + 1)) (ku_ (J (o + 1)) (J (a + 1)) p) (n + 1))) sh fr en) (by rw [sy_setW ho, bx_uu, va_up_self]; exact congrArg (fun z => sy_ h cI cL cF I (va_up J (o + 1) z) sh fr en) (wl_s _ (ku_ (J (o + 1)) (J (a + 1)) p) n)) dc_A_keepUnionsIn_54 ?_
      refine aw_iinc C dc_A_keepUnionsIn_55 rfl (ni_inc _) (by decide) rfl ?_
      refine aw_goto C dc_A_keepUnionsIn_58 (tgt := 14) (by decide) ?_
      exact cutp
set_option maxHeartbeats 4000000 in
set_option maxRecDepth 100000 in
theorem a_divide (l : Launch) (D : va_G) (h th : Nat) (cI cL cF : ClassId) (I : Nat → Nat → Int32) (J : Nat → Nat → Int64) (sh : Nat → Nat) (fr : Nat) (en : Int32) (o : Nat) (ho : fo_ o = true) (a : Nat) (ha : fo_ a = true) (hao : a ≠ o) (b : Nat) (hb : fo_ b = true) (hbo : b ≠ o) : kv_ l my_A_divide (Cond.code my_A_divide bc_A_divide 4 none :: tw_) ({ frames := 2, cells := 0, slots := 0, locals := 43 }) D (ty_s cI cL cF) (xw_ h th) (ca_ h) [.ref (h + o), .ref (h + a), .ref (h + b)] (kp_ D h cI cL cF I J sh fr en) (kp_ D h cI cL cF I (divJ_ J o a b) sh fr en) := by
  refine aw_met (A := ca_ h) (own := "FamilyShelf$Algebra") (by decide) rfl rfl (Nat.le_of_ble_eq_true rfl) ?_
  intro p9 e s m args below meth c C hr hX hP0
  refine aw_lw (lw' := [some (.ref (h + o)), some (.ref (h + a)), some (.ref (h + b)), none]) rfl ?_
  refine aw_aload_n C dc_A_divide_0 rfl ?_
  refine aw_aload_n C dc_A_divide_1 rfl ?_
  refine kc_i (fun _ h => h) (fun _ h => h) (kc_S (n := 1) C hX (xw_k ca_le) (a_usedBits l D h th cI cL cF I J sh fr en b hb) kw_396 kw_394 kw_395 kw_2 (by unfold kd_; decide) ⟨rfl, rfl, by decide, by decide⟩ rfl rfl (Nat.le_of_ble_eq_true rfl) ⟨Nat.zero_le _, Nat.zero_le _⟩ dc_A_divide_2) ?_
  refine kc_v (fun _ h => h) (fun _ h => h) (kc_S (n := 2) C hX (xw_k ca_le) (a_fillDisjoint l D h th cI cL cF I J sh fr en o ho (ub_ (J (b + 1)) 4096) (ub_lt _ (Nat.le_refl _))) kw_399 kw_397 kw_398 kw_2 (by unfold kd_; decide) ⟨rfl, rfl, by decide, by decide⟩ rfl rfl (Nat.le_of_ble_eq_true rfl) ⟨Nat.zero_le _, Nat.zero_le _⟩ dc_A_divide_5) ?_
  refine aw_iconst C dc_A_divide_8 (v := nI 0) rfl ?_
  refine aw_istore_n C dc_A_divide_9 (by decide) rfl ?_
  refine aw_loop (fun n => kp_ D h cI cL cF I (va_up J (o + 1) (dv_ (J (o + 1)) (J (a + 1)) (J (b + 1)) n)) sh fr en) (fun n => [some (.ref (h + o)), some (.ref (h + a)), some (.ref (h + b)), some (.int (nI n))]) 4096 ?_ (fun n hn ih => ?_)
  · refine aw_iload_n C dc_A_divide_10 rfl ?_
    refine aw_sipush C dc_A_divide_11 (v := nI 4096) rfl ?_
    refine aw_icmp_ge C dc_A_divide_14 (tgt := 37) (by decide) (fun _ => ?_) (fun h9 => absurd (nI_le (Nat.le_refl _) (by decide)) h9)
    exact kc_vret C hr (fun _ h => h) dc_A_divide_37
  · refine aw_iload_n C dc_A_divide_10 rfl ?_
    refine aw_sipush C dc_A_divide_11 (v := nI 4096) rfl ?_
    refine aw_icmp_ge C dc_A_divide_14 (tgt := 37) (by decide) (fun h9 => absurd h9 (nI_ge hn (by decide))) (fun _ => ?_)
    refine aw_aload_n C dc_A_divide_17 rfl ?_
    refine aw_iload_n C dc_A_divide_18 rfl ?_
    refine kc_i (fun _ h => h) (fun _ h => h) (kc_V (n := 1) C hX (xw_k ca_le) rfl b (sy_fam hb) rfl (f_holds l D h th cI cL cF I (va_up J (o + 1) (dv_ (J (o + 1)) (J (a + 1)) (J (b + 1)) n)) sh fr en b hb n hn) kw_247 kw_358 kw_245 kw_246 kw_3 rfl (by unfold kd_; decide) ⟨rfl, rfl, by decide, by decide⟩ rfl rfl (Nat.le_of_ble_eq_true rfl) ⟨Nat.zero_le _, Nat.zero_le _⟩ dc_A_divide_19) ?_
    refine aw_eqi (show _ = z1_ (fb_ (J (b + 1)) n) by rw [va_up_ne _ _ (by omega)]) ?_
    refine aw_if_eq C dc_A_divide_22 (tgt := 31) (by decide) (fun hB22 => ?_) (fun hB22 => ?_)
    · have hf : fb_ (J (b + 1)) n = false := by
        cases h9 : fb_ (J (b + 1)) n
        · rfl
        · rw [h9] at hB22; exact absurd hB22 (by decide)
      have cutp := ih
      rw [show dv_ (J (o + 1)) (J (a + 1)) (J (b + 1)) (n + 1) = (dv_ (J (o + 1)) (J (a + 1)) (J (b + 1)) n) by rw [dv_, hf]; rfl] at cutp
      refine aw_iinc C dc_A_divide_31 rfl (ni_inc _) (by decide) rfl ?_
      refine aw_goto C dc_A_divide_34 (tgt := 10) (by decide) ?_
      exact cutp
    · have hf : fb_ (J (b + 1)) n = true := by
        cases h9 : fb_ (J (b + 1)) n
        · rw [h9] at hB22; exact absurd rfl hB22
        · rfl
      have cutp := aw_P (P := kp_ D h cI cL cF I (va_up (va_up J (o + 1) (dv_ (J (o + 1)) (J (a + 1)) (J (b + 1)) n)) (o + 1) (wl_ ((va_up J (o + 1) (dv_ (J (o + 1)) (J (a + 1)) (J (b + 1)) n)) (o + 1)) (ku_ ((va_up J (o + 1) (dv_ (J (o + 1)) (J (a + 1)) (J (b + 1)) n)) (o + 1)) ((va_up J (o + 1) (dv_ (J (o + 1)) (J (a + 1)) (J (b + 1)) n)) (a + 1)) n) 64)) sh fr en) (fun H h => by
        rw [bx_uu, va_up_self, va_up_ne _ _ (show a + 1 ≠ o + 1 by omega)] at h
        rw [show dv_ (J (o + 1)) (J (a + 1)) (J (b + 1)) (n + 1) = wl_ (dv_ (J (o + 1)) (J (a + 1)) (J (b + 1)) n) (ku_ (dv_ (J (o + 1)) (J (a + 1)) (J (b + 1)) n) (J (a + 1)) n) 64 by rw [dv_, hf]; rfl]
        exact h) ih
      refine aw_aload_n C dc_A_divide_25 rfl ?_
      refine aw_aload_n C dc_A_divide_26 rfl ?_
      refine aw_iload_n C dc_A_divide_27 rfl ?_
      refine kc_v (fun _ h => h) (fun _ h => h) (kc_S (n := 3) C hX (xw_k ca_le) (a_keepUnionsIn l D h th cI cL cF I (va_up J (o + 1) (dv_ (J (o + 1)) (J (a + 1)) (J (b + 1)) n)) sh fr en o ho a ha hao n hn) kw_402 kw_400 kw_401 kw_2 (by unfold kd_; decide) ⟨rfl, rfl, by decide, by decide⟩ rfl rfl (Nat.le_of_ble_eq_true rfl) ⟨Nat.zero_le _, Nat.zero_le _⟩ dc_A_divide_28) ?_
      refine aw_iinc C dc_A_divide_31 rfl (ni_inc _) (by decide) rfl ?_
      refine aw_goto C dc_A_divide_34 (tgt := 10) (by decide) ?_
      exact cutp
set_option maxHeartbeats 4000000 in
set_option maxRecDepth 100000 in
theorem a_change0 (l : Launch) (D : va_G) (h th : Nat) (cI cL cF : ClassId) (I : Nat → Nat → Int32) (J : Nat → Nat → Int64) (sh : Nat → Nat) (fr : Nat) (en : Int32) (o : Nat) (ho : fo_ o = true) (a : Nat) (ha : fo_ a = true) (hao : a ≠ o) (b : Nat) (hb : b < 12) : kv_ l my_A_changeInto (Cond.code my_A_changeInto bc_A_changeInto 6 none :: tw_) ({ frames := 3, cells := 0, slots := 0, locals := 67 }) D (ty_s cI cL cF) (xw_ h th) (ca_ h) [.ref (h + 2), .ref (h + o), .int (nI 0), .ref (h + a), .int (nI b)] (kp_ D h cI cL cF I J sh fr en) (kp_ D h cI cL cF I (va_up J (o + 1) (wl_ (J (o + 1)) (chg_ 0 (J (a + 1)) b) 64)) sh fr en) := by
  refine aw_met (A := ca_ h) (own := "FamilyShelf$Algebra") (by decide) rfl rfl (Nat.le_of_ble_eq_true rfl) ?_
  intro p9 e s m args below meth c C hr hX hP0
  refine aw_lw (lw' := [some (.ref (h + 2)), some (.ref (h + o)), some (.int (nI 0)), some (.ref (h + a)), some (.int (nI b)), none]) rfl ?_
  refine aw_iconst C dc_A_changeInto_0 (v := nI 0) rfl ?_
  refine aw_istore C dc_A_changeInto_1 (by decide) rfl ?_
  refine aw_P (P' := kp_ D h cI cL cF I (va_up J (o + 1) (wl_ (J (o + 1)) (chg_ 0 (J (a + 1)) b) 0)) sh fr en) (fun H h => by rw [wl_0, va_upid]; exact h) ?_
  refine aw_loop (fun n => kp_ D h cI cL cF I (va_up J (o + 1) (wl_ (J (o + 1)) (chg_ 0 (J (a + 1)) b) n)) sh fr en) (fun n => [some (.ref (h + 2)), some (.ref (h + o)), some (.int (nI 0)), some (.ref (h + a)), some (.int (nI b)), some (.int (nI n))]) 64 ?_ (fun n hn ih => ?_)
  · refine aw_iload C dc_A_changeInto_3 rfl ?_
    refine aw_bipush C dc_A_changeInto_5 (v := nI 64) rfl ?_
    refine aw_icmp_ge C dc_A_changeInto_7 (tgt := 102) (by decide) (fun _ => ?_) (fun h9 => absurd (nI_le (Nat.le_refl _) (by decide)) h9)
    exact kc_vret C hr (fun _ h => h) dc_A_changeInto_102
  · refine aw_iload C dc_A_changeInto_3 rfl ?_
    refine aw_bipush C dc_A_changeInto_5 (v := nI 64) rfl ?_
    refine aw_icmp_ge C dc_A_changeInto_7 (tgt := 102) (by decide) (fun h9 => absurd h9 (nI_ge hn (by decide))) (fun _ => ?_)
    refine aw_iload_n C dc_A_changeInto_10 rfl ?_
    refine aw_lookup C dc_A_changeInto_11 (by decide) (off := 25) (by decide) (tgt := 36) (by decide) ?_
    refine aw_aload_n C dc_A_changeInto_36 rfl ?_
    refine aw_get C (fun w h => List.mem_cons_of_mem _ (ly_F w h)) o (sy_fam ho) rfl 0 (by decide) (C.1.2.2.2.2 _ (List.mem_cons_of_mem _ kw_42)) (fun _ h => h) rfl dc_A_changeInto_37 ?_
    refine aw_iload C dc_A_changeInto_40 rfl ?_
    refine aw_aload_n C dc_A_changeInto_42 rfl ?_
    refine aw_iload C dc_A_changeInto_43 rfl ?_
    refine aw_iload C dc_A_changeInto_45 rfl ?_
    refine kc_l (fun _ h => h) (fun _ h => h) (kc_V (n := 2) C hX (xw_k ca_le) rfl a (sy_fam ha) rfl (f_lowered l D h th cI cL cF I (va_up J (o + 1) (wl_ (J (o + 1)) (chg_ 0 (J (a + 1)) b) n)) sh fr en a ha n hn b hb) kw_377 kw_422 kw_375 kw_376 kw_3 rfl (by unfold kd_; decide) ⟨rfl, rfl, by decide, by decide⟩ rfl rfl (Nat.le_of_ble_eq_true rfl) ⟨Nat.zero_le _, Nat.zero_le _⟩ dc_A_changeInto_47) ?_
    refine aw_eql (show _ = lo_ (J (a + 1)) n b by rw [va_up_ne _ _ (by omega)]) ?_
    refine aw_last C sy_D (o + 1) 1 (sy_words ho) rfl n rfl hn (by decide) (ws' := sy_ h cI cL cF I (va_up J (o + 1) (wl_ (J (o + 1)) (chg_ 0 (J (a + 1)) b) (n + 1))) sh fr en) (by rw [sy_setW ho, bx_uu, va_up_self]; exact congrArg (fun z => sy_ h cI cL cF I (va_up J (o + 1) z) sh fr en) (wl_s _ (chg_ 0 (J (a + 1)) b) n)) dc_A_changeInto_50 ?_
    refine aw_goto C dc_A_changeInto_51 (tgt := 96) (by decide) ?_
    refine aw_iinc C dc_A_changeInto_96 rfl (ni_inc _) (by decide) rfl ?_
    refine aw_goto C dc_A_changeInto_99 (tgt := 3) (by decide) ?_
    exact ih
set_option maxHeartbeats 4000000 in
set_option maxRecDepth 100000 in
theorem a_change1 (l : Launch) (D : va_G) (h th : Nat) (cI cL cF : ClassId) (I : Nat → Nat → Int32) (J : Nat → Nat → Int64) (sh : Nat → Nat) (fr : Nat) (en : Int32) (o : Nat) (ho : fo_ o = true) (a : Nat) (ha : fo_ a = true) (hao : a ≠ o) (b : Nat) (hb : b < 12) : kv_ l my_A_changeInto (Cond.code my_A_changeInto bc_A_changeInto 6 none :: tw_) ({ frames := 3, cells := 0, slots := 0, locals := 67 }) D (ty_s cI cL cF) (xw_ h th) (ca_ h) [.ref (h + 2), .ref (h + o), .int (nI 1), .ref (h + a), .int (nI b)] (kp_ D h cI cL cF I J sh fr en) (kp_ D h cI cL cF I (va_up J (o + 1) (wl_ (J (o + 1)) (chg_ 1 (J (a + 1)) b) 64)) sh fr en) := by
  refine aw_met (A := ca_ h) (own := "FamilyShelf$Algebra") (by decide) rfl rfl (Nat.le_of_ble_eq_true rfl) ?_
  intro p9 e s m args below meth c C hr hX hP0
  refine aw_lw (lw' := [some (.ref (h + 2)), some (.ref (h + o)), some (.int (nI 1)), some (.ref (h + a)), some (.int (nI b)), none]) rfl ?_
  refine aw_iconst C dc_A_changeInto_0 (v := nI 0) rfl ?_
  refine aw_istore C dc_A_changeInto_1 (by decide) rfl ?_
  refine aw_P (P' := kp_ D h cI cL cF I (va_up J (o + 1) (wl_ (J (o + 1)) (chg_ 1 (J (a + 1)) b) 0)) sh fr en) (fun H h => by rw [wl_0, va_upid]; exact h) ?_
  refine aw_loop (fun n => kp_ D h cI cL cF I (va_up J (o + 1) (wl_ (J (o + 1)) (chg_ 1 (J (a + 1)) b) n)) sh fr en) (fun n => [some (.ref (h + 2)), some (.ref (h + o)), some (.int (nI 1)), some (.ref (h + a)), some (.int (nI b)), some (.int (nI n))]) 64 ?_ (fun n hn ih => ?_)
  · refine aw_iload C dc_A_changeInto_3 rfl ?_
    refine aw_bipush C dc_A_changeInto_5 (v := nI 64) rfl ?_
    refine aw_icmp_ge C dc_A_changeInto_7 (tgt := 102) (by decide) (fun _ => ?_) (fun h9 => absurd (nI_le (Nat.le_refl _) (by decide)) h9)
    exact kc_vret C hr (fun _ h => h) dc_A_changeInto_102
  · refine aw_iload C dc_A_changeInto_3 rfl ?_
    refine aw_bipush C dc_A_changeInto_5 (v := nI 64) rfl ?_
    refine aw_icmp_ge C dc_A_changeInto_7 (tgt := 102) (by decide) (fun h9 => absurd h9 (nI_ge hn (by decide))) (fun _ => ?_)
    refine aw_iload_n C dc_A_changeInto_10 rfl ?_
    refine aw_lookup C dc_A_changeInto_11 (by decide) (off := 43) (by decide) (tgt := 54) (by decide) ?_
    refine aw_aload_n C dc_A_changeInto_54 rfl ?_
    refine aw_get C (fun w h => List.mem_cons_of_mem _ (ly_F w h)) o (sy_fam ho) rfl 0 (by decide) (C.1.2.2.2.2 _ (List.mem_cons_of_mem _ kw_42)) (fun _ h => h) rfl dc_A_changeInto_55 ?_
    refine aw_iload C dc_A_changeInto_58 rfl ?_
    refine aw_aload_n C dc_A_changeInto_60 rfl ?_
    refine aw_iload C dc_A_changeInto_61 rfl ?_
    refine aw_iload C dc_A_changeInto_63 rfl ?_
    refine kc_l (fun _ h => h) (fun _ h => h) (kc_V (n := 2) C hX (xw_k ca_le) rfl a (sy_fam ha) rfl (f_lacking l D h th cI cL cF I (va_up J (o + 1) (wl_ (J (o + 1)) (chg_ 1 (J (a + 1)) b) n)) sh fr en a ha n hn b hb) kw_390 kw_423 kw_388 kw_389 kw_3 rfl (by unfold kd_; decide) ⟨rfl, rfl, by decide, by decide⟩ rfl rfl (Nat.le_of_ble_eq_true rfl) ⟨Nat.zero_le _, Nat.zero_le _⟩ dc_A_changeInto_65) ?_
    refine aw_eql (show _ = lk_ (J (a + 1)) n b by rw [va_up_ne _ _ (by omega)]) ?_
    refine aw_last C sy_D (o + 1) 1 (sy_words ho) rfl n rfl hn (by decide) (ws' := sy_ h cI cL cF I (va_up J (o + 1) (wl_ (J (o + 1)) (chg_ 1 (J (a + 1)) b) (n + 1))) sh fr en) (by rw [sy_setW ho, bx_uu, va_up_self]; exact congrArg (fun z => sy_ h cI cL cF I (va_up J (o + 1) z) sh fr en) (wl_s _ (chg_ 1 (J (a + 1)) b) n)) dc_A_changeInto_68 ?_
    refine aw_goto C dc_A_changeInto_69 (tgt := 96) (by decide) ?_
    refine aw_iinc C dc_A_changeInto_96 rfl (ni_inc _) (by decide) rfl ?_
    refine aw_goto C dc_A_changeInto_99 (tgt := 3) (by decide) ?_
    exact ih
set_option maxHeartbeats 4000000 in
set_option maxRecDepth 100000 in
theorem a_change2 (l : Launch) (D : va_G) (h th : Nat) (cI cL cF : ClassId) (I : Nat → Nat → Int32) (J : Nat → Nat → Int64) (sh : Nat → Nat) (fr : Nat) (en : Int32) (o : Nat) (ho : fo_ o = true) (a : Nat) (ha : fo_ a = true) (hao : a ≠ o) (b : Nat) (hb : b < 12) : kv_ l my_A_changeInto (Cond.code my_A_changeInto bc_A_changeInto 6 none :: tw_) ({ frames := 3, cells := 0, slots := 0, locals := 67 }) D (ty_s cI cL cF) (xw_ h th) (ca_ h) [.ref (h + 2), .ref (h + o), .int (nI 2), .ref (h + a), .int (nI b)] (kp_ D h cI cL cF I J sh fr en) (kp_ D h cI cL cF I (va_up J (o + 1) (wl_ (J (o + 1)) (chg_ 2 (J (a + 1)) b) 64)) sh fr en) := by
  refine aw_met (A := ca_ h) (own := "FamilyShelf$Algebra") (by decide) rfl rfl (Nat.le_of_ble_eq_true rfl) ?_
  intro p9 e s m args below meth c C hr hX hP0
  refine aw_lw (lw' := [some (.ref (h + 2)), some (.ref (h + o)), some (.int (nI 2)), some (.ref (h + a)), some (.int (nI b)), none]) rfl ?_
  refine aw_iconst C dc_A_changeInto_0 (v := nI 0) rfl ?_
  refine aw_istore C dc_A_changeInto_1 (by decide) rfl ?_
  refine aw_P (P' := kp_ D h cI cL cF I (va_up J (o + 1) (wl_ (J (o + 1)) (chg_ 2 (J (a + 1)) b) 0)) sh fr en) (fun H h => by rw [wl_0, va_upid]; exact h) ?_
  refine aw_loop (fun n => kp_ D h cI cL cF I (va_up J (o + 1) (wl_ (J (o + 1)) (chg_ 2 (J (a + 1)) b) n)) sh fr en) (fun n => [some (.ref (h + 2)), some (.ref (h + o)), some (.int (nI 2)), some (.ref (h + a)), some (.int (nI b)), some (.int (nI n))]) 64 ?_ (fun n hn ih => ?_)
  · refine aw_iload C dc_A_changeInto_3 rfl ?_
    refine aw_bipush C dc_A_changeInto_5 (v := nI 64) rfl ?_
    refine aw_icmp_ge C dc_A_changeInto_7 (tgt := 102) (by decide) (fun _ => ?_) (fun h9 => absurd (nI_le (Nat.le_refl _) (by decide)) h9)
    exact kc_vret C hr (fun _ h => h) dc_A_changeInto_102
  · refine aw_iload C dc_A_changeInto_3 rfl ?_
    refine aw_bipush C dc_A_changeInto_5 (v := nI 64) rfl ?_
    refine aw_icmp_ge C dc_A_changeInto_7 (tgt := 102) (by decide) (fun h9 => absurd h9 (nI_ge hn (by decide))) (fun _ => ?_)
    refine aw_iload_n C dc_A_changeInto_10 rfl ?_
    refine aw_lookup C dc_A_changeInto_11 (by decide) (off := 61) (by decide) (tgt := 72) (by decide) ?_
    refine aw_aload_n C dc_A_changeInto_72 rfl ?_
    refine aw_get C (fun w h => List.mem_cons_of_mem _ (ly_F w h)) o (sy_fam ho) rfl 0 (by decide) (C.1.2.2.2.2 _ (List.mem_cons_of_mem _ kw_42)) (fun _ h => h) rfl dc_A_changeInto_73 ?_
    refine aw_iload C dc_A_changeInto_76 rfl ?_
    refine aw_aload_n C dc_A_changeInto_78 rfl ?_
    refine aw_iload C dc_A_changeInto_79 rfl ?_
    refine aw_iload C dc_A_changeInto_81 rfl ?_
    refine kc_l (fun _ h => h) (fun _ h => h) (kc_V (n := 2) C hX (xw_k ca_le) rfl a (sy_fam ha) rfl (f_lowered l D h th cI cL cF I (va_up J (o + 1) (wl_ (J (o + 1)) (chg_ 2 (J (a + 1)) b) n)) sh fr en a ha n hn b hb) kw_377 kw_422 kw_375 kw_376 kw_3 rfl (by unfold kd_; decide) ⟨rfl, rfl, by decide, by decide⟩ rfl rfl (Nat.le_of_ble_eq_true rfl) ⟨Nat.zero_le _, Nat.zero_le _⟩ dc_A_changeInto_83) ?_
    refine aw_eql (show _ = lo_ (J (a + 1)) n b by rw [va_up_ne _ _ (by omega)]) ?_
    refine aw_aload_n C dc_A_changeInto_86 rfl ?_
    refine aw_iload C dc_A_changeInto_87 rfl ?_
    refine aw_iload C dc_A_changeInto_89 rfl ?_
    refine kc_l (fun _ h => h) (fun _ h => h) (kc_V (n := 2) C hX (xw_k ca_le) rfl a (sy_fam ha) rfl (f_raised l D h th cI cL cF I (va_up J (o + 1) (wl_ (J (o + 1)) (chg_ 2 (J (a + 1)) b) n)) sh fr en a ha n hn b hb) kw_386 kw_424 kw_384 kw_385 kw_3 rfl (by unfold kd_; decide) ⟨rfl, rfl, by decide, by decide⟩ rfl rfl (Nat.le_of_ble_eq_true rfl) ⟨Nat.zero_le _, Nat.zero_le _⟩ dc_A_changeInto_91) ?_
    refine aw_eql (show _ = ra_ (J (a + 1)) n b by rw [va_up_ne _ _ (by omega)]) ?_
    refine aw_lor C dc_A_changeInto_94 ?_
    refine aw_last C sy_D (o + 1) 1 (sy_words ho) rfl n rfl hn (by decide) (ws' := sy_ h cI cL cF I (va_up J (o + 1) (wl_ (J (o + 1)) (chg_ 2 (J (a + 1)) b) (n + 1))) sh fr en) (by rw [sy_setW ho, bx_uu, va_up_self]; exact congrArg (fun z => sy_ h cI cL cF I (va_up J (o + 1) z) sh fr en) (wl_s _ (chg_ 2 (J (a + 1)) b) n)) dc_A_changeInto_95 ?_
    refine aw_iinc C dc_A_changeInto_96 rfl (ni_inc _) (by decide) rfl ?_
    refine aw_goto C dc_A_changeInto_99 (tgt := 3) (by decide) ?_
    exact ih
set_option maxHeartbeats 4000000 in
set_option maxRecDepth 100000 in
theorem a_stepped (l : Launch) (D : va_G) (h th : Nat) (cI cL cF : ClassId) (I : Nat → Nat → Int32) (J : Nat → Nat → Int64) (sh : Nat → Nat) (fr : Nat) (en : Int32) (w : Nat) (hw : w < 64) (dn : Bool) : kl_ l my_A_stepped (Cond.code my_A_stepped bc_A_stepped 6 (some .long) :: tw_) ({ frames := 4, cells := 0, slots := 0, locals := 90 }) D (ty_s cI cL cF) (xw_ h th) (ca_ h) [.ref (h + 2), .int (nI w), .int (z1_ dn)] (kp_ D h cI cL cF I J sh fr en) (kp_ D h cI cL cF I J sh fr en) (orr_ (fun b => mv_ (J 4) w b dn) 12) := by
  refine aw_met (A := ca_ h) (own := "FamilyShelf$Algebra") (by decide) rfl rfl (Nat.le_of_ble_eq_true rfl) ?_
  intro p9 e s m args below meth c C hr hX hP0
  refine aw_lw (lw' := [some (.ref (h + 2)), some (.int (nI w)), some (.int (z1_ dn)), none, none, none]) rfl ?_
  refine aw_lconst C dc_A_stepped_0 (v := 0) rfl ?_
  refine aw_lstore_n C dc_A_stepped_1 (by decide) rfl ?_
  refine aw_iconst C dc_A_stepped_2 (v := nI 0) rfl ?_
  refine aw_istore C dc_A_stepped_3 (by decide) rfl ?_
  refine aw_loop (fun _ => kp_ D h cI cL cF I J sh fr en) (fun n => [some (.ref (h + 2)), some (.int (nI w)), some (.int (z1_ dn)), some (.long (orr_ (fun b => mv_ (J 4) w b dn) n)), none, some (.int (nI n))]) 12 ?_ (fun n hn ih => ?_)
  · refine aw_iload C dc_A_stepped_5 rfl ?_
    refine aw_bipush C dc_A_stepped_7 (v := nI 12) rfl ?_
    refine aw_icmp_ge C dc_A_stepped_9 (tgt := 32) (by decide) (fun _ => ?_) (fun h9 => absurd (nI_le (Nat.le_refl _) (by decide)) h9)
    refine aw_lload_n C dc_A_stepped_32 rfl ?_
    exact kc_lret C hr rfl (fun _ h => h) dc_A_stepped_33
  · refine aw_iload C dc_A_stepped_5 rfl ?_
    refine aw_bipush C dc_A_stepped_7 (v := nI 12) rfl ?_
    refine aw_icmp_ge C dc_A_stepped_9 (tgt := 32) (by decide) (fun h9 => absurd h9 (nI_ge hn (by decide))) (fun _ => ?_)
    refine aw_lload_n C dc_A_stepped_12 rfl ?_
    refine aw_aload_n C dc_A_stepped_13 rfl ?_
    refine aw_get C (fun w h => List.mem_cons_of_mem _ (ly_A w h)) 2 sy_p2 rfl 0 (by decide) (C.1.2.2.2.2 _ (List.mem_cons_of_mem _ kw_53)) (fun _ h => h) rfl dc_A_stepped_14 ?_
    refine aw_iload_n C dc_A_stepped_17 rfl ?_
    refine aw_iload C dc_A_stepped_18 rfl ?_
    refine aw_iload_n C dc_A_stepped_20 rfl ?_
    refine kc_l (fun _ h => h) (fun _ h => h) (kc_V (n := 3) C hX (xw_k ca_le) rfl 3 (sy_fam (by decide)) rfl (f_moved l D h th cI cL cF I J sh fr en 3 (by decide) w hw n hn dn) kw_373 kw_440 kw_371 kw_372 kw_3 rfl (by unfold kd_; decide) ⟨rfl, rfl, by decide, by decide⟩ rfl rfl (Nat.le_of_ble_eq_true rfl) ⟨Nat.zero_le _, Nat.zero_le _⟩ dc_A_stepped_21) ?_
    refine aw_lor C dc_A_stepped_24 ?_
    refine aw_lstore_n C dc_A_stepped_25 (by decide) rfl ?_
    refine aw_iinc C dc_A_stepped_26 rfl (ni_inc _) (by decide) rfl ?_
    refine aw_goto C dc_A_stepped_29 (tgt := 5) (by decide) ?_
    exact ih
set_option maxHeartbeats 4000000 in
set_option maxRecDepth 100000 in
theorem a_extremeInto (l : Launch) (D : va_G) (h th : Nat) (cI cL cF : ClassId) (I : Nat → Nat → Int32) (J : Nat → Nat → Int64) (sh : Nat → Nat) (fr : Nat) (en : Int32) (o : Nat) (ho : fo_ o = true) (a : Nat) (ha : fo_ a = true) (hao : a ≠ o) (ho3 : o ≠ 3) (ha3 : a ≠ 3) (dn : Bool) : kv_ l my_A_extremeInto (Cond.code my_A_extremeInto bc_A_extremeInto 5 none :: tw_) ({ frames := 5, cells := 0, slots := 0, locals := 115 }) D (ty_s cI cL cF) (xw_ h th) (ca_ h) [.ref (h + 2), .ref (h + o), .ref (h + a), .int (z1_ dn)] (kp_ D h cI cL cF I J sh fr en) (kp_ D h cI cL cF I (va_up (closeJ_ (copyJ_ J 3 a) 3 dn) (o + 1) (wl_ ((closeJ_ (copyJ_ J 3 a) 3 dn) (o + 1)) (exg_ (J (a + 1)) ((closeJ_ (copyJ_ J 3 a) 3 dn) 4) dn) 64)) sh fr en) := by
  refine aw_met (A := ca_ h) (own := "FamilyShelf$Algebra") (by decide) rfl rfl (Nat.le_of_ble_eq_true rfl) ?_
  intro p9 e s m args below meth c C hr hX hP0
  refine aw_lw (lw' := [some (.ref (h + 2)), some (.ref (h + o)), some (.ref (h + a)), some (.int (z1_ dn)), none]) rfl ?_
  refine aw_aload_n C dc_A_extremeInto_0 rfl ?_
  refine aw_get C (fun w h => List.mem_cons_of_mem _ (ly_A w h)) 2 sy_p2 rfl 0 (by decide) (C.1.2.2.2.2 _ (List.mem_cons_of_mem _ kw_53)) (fun _ h => h) rfl dc_A_extremeInto_1 ?_
  refine aw_aload_n C dc_A_extremeInto_4 rfl ?_
  refine kc_v (fun _ h => h) (fun _ h => h) (kc_V (n := 1) C hX (xw_k ca_le) rfl 3 (sy_fam (by decide)) rfl (f_copyFrom l D h th cI cL cF I J sh fr en 3 (by decide) a ha) kw_362 kw_359 kw_360 kw_361 kw_3 rfl (by unfold kd_; decide) ⟨rfl, rfl, by decide, by decide⟩ rfl rfl (Nat.le_of_ble_eq_true rfl) ⟨Nat.zero_le _, Nat.zero_le _⟩ dc_A_extremeInto_5) ?_
  refine aw_aload_n C dc_A_extremeInto_8 rfl ?_
  refine aw_get C (fun w h => List.mem_cons_of_mem _ (ly_A w h)) 2 sy_p2 rfl 0 (by decide) (C.1.2.2.2.2 _ (List.mem_cons_of_mem _ kw_53)) (fun _ h => h) rfl dc_A_extremeInto_9 ?_
  refine aw_iload_n C dc_A_extremeInto_12 rfl ?_
  refine kc_v (fun _ h => h) (fun _ h => h) (kc_V (n := 1) C hX (xw_k ca_le) rfl 3 (sy_fam (by decide)) rfl (f_close l D h th cI cL cF I (copyJ_ J 3 a) sh fr en 3 (by decide) dn) kw_369 kw_366 kw_367 kw_368 kw_3 rfl (by unfold kd_; decide) ⟨rfl, rfl, by decide, by decide⟩ rfl rfl (Nat.le_of_ble_eq_true rfl) ⟨Nat.zero_le _, Nat.zero_le _⟩ dc_A_extremeInto_13) ?_
  refine aw_iconst C dc_A_extremeInto_16 (v := nI 0) rfl ?_
  refine aw_istore C dc_A_extremeInto_17 (by decide) rfl ?_
  have ea : (closeJ_ (copyJ_ J 3 a) 3 dn) (a + 1) = J (a + 1) := by
    show va_up (va_up J (3 + 1) _) (3 + 1) _ (a + 1) = _
    rw [va_up_ne _ _ (show a + 1 ≠ 3 + 1 by omega), va_up_ne _ _ (show a + 1 ≠ 3 + 1 by omega)]
  obtain ⟨K, hK⟩ : ∃ K, K = (closeJ_ (copyJ_ J 3 a) 3 dn) := ⟨_, rfl⟩
  refine aw_P (P' := kp_ D h cI cL cF I K sh fr en) (fun H h => by rw [hK]; exact h) ?_
  rw [← hK] at ea
  refine aw_P (P' := kp_ D h cI cL cF I (va_up K (o + 1) (wl_ (K (o + 1)) (exg_ (J (a + 1)) (K 4) dn) 0)) sh fr en) (fun H h => by rw [wl_0, va_upid]; exact h) ?_
  refine aw_loop (fun n => kp_ D h cI cL cF I (va_up K (o + 1) (wl_ (K (o + 1)) (exg_ (J (a + 1)) (K 4) dn) n)) sh fr en) (fun n => [some (.ref (h + 2)), some (.ref (h + o)), some (.ref (h + a)), some (.int (z1_ dn)), some (.int (nI n))]) 64 ?_ (fun n hn ih => ?_)
  · refine aw_iload C dc_A_extremeInto_19 rfl ?_
    refine aw_bipush C dc_A_extremeInto_21 (v := nI 64) rfl ?_
    refine aw_icmp_ge C dc_A_extremeInto_23 (tgt := 58) (by decide) (fun _ => ?_) (fun h9 => absurd (nI_le (Nat.le_refl _) (by decide)) h9)
    exact kc_vret C hr (fun _ h => by rw [hK] at h; exact h) dc_A_extremeInto_58
  · refine aw_iload C dc_A_extremeInto_19 rfl ?_
    refine aw_bipush C dc_A_extremeInto_21 (v := nI 64) rfl ?_
    refine aw_icmp_ge C dc_A_extremeInto_23 (tgt := 58) (by decide) (fun h9 => absurd h9 (nI_ge hn (by decide))) (fun _ => ?_)
    refine aw_aload_n C dc_A_extremeInto_26 rfl ?_
    refine aw_get C (fun w h => List.mem_cons_of_mem _ (ly_F w h)) o (sy_fam ho) rfl 0 (by decide) (C.1.2.2.2.2 _ (List.mem_cons_of_mem _ kw_42)) (fun _ h => h) rfl dc_A_extremeInto_27 ?_
    refine aw_iload C dc_A_extremeInto_30 rfl ?_
    refine aw_aload_n C dc_A_extremeInto_32 rfl ?_
    refine aw_get C (fun w h => List.mem_cons_of_mem _ (ly_F w h)) a (sy_fam ha) rfl 0 (by decide) (C.1.2.2.2.2 _ (List.mem_cons_of_mem _ kw_42)) (fun _ h => h) rfl dc_A_extremeInto_33 ?_
    refine aw_iload C dc_A_extremeInto_36 rfl ?_
    refine aw_lald C (a + 1) 1 (sy_words ha) rfl n rfl hn (by decide) dc_A_extremeInto_38 ?_
    refine aw_eql (show _ = J (a + 1) n by rw [va_up_ne _ _ (by omega), ea]) ?_
    refine aw_aload_n C dc_A_extremeInto_39 rfl ?_
    refine aw_iload C dc_A_extremeInto_40 rfl ?_
    refine aw_iload_n C dc_A_extremeInto_42 rfl ?_
    refine kc_l (fun _ h => h) (fun _ h => h) (kc_V (n := 2) C hX (xw_k ca_le) rfl 2 sy_p2 rfl (a_stepped l D h th cI cL cF I (va_up K (o + 1) (wl_ (K (o + 1)) (exg_ (J (a + 1)) (K 4) dn) n)) sh fr en n hn dn) kw_439 kw_436 kw_438 (tw_sel (q := (my_A_stepped, 4)) (by decide +kernel)) kw_2 rfl (by unfold kd_; decide) ⟨rfl, rfl, by decide, by decide⟩ rfl rfl (Nat.le_of_ble_eq_true rfl) ⟨Nat.zero_le _, Nat.zero_le _⟩ dc_A_extremeInto_43) ?_
    refine aw_eql (show _ = orr_ (fun b => mv_ (K 4) n b dn) 12 by rw [va_up_ne _ _ (show 4 ≠ o + 1 by omega)]) ?_
    refine aw_ldc2 C (C.1.2.2.2.2 _ (List.mem_cons_of_mem _ kw_332)) dc_A_extremeInto_46 ?_
    refine aw_lxor C dc_A_extremeInto_49 ?_
    refine aw_land C dc_A_extremeInto_50 ?_
    refine aw_last C sy_D (o + 1) 1 (sy_words ho) rfl n rfl hn (by decide) (ws' := sy_ h cI cL cF I (va_up K (o + 1) (wl_ (K (o + 1)) (exg_ (J (a + 1)) (K 4) dn) (n + 1))) sh fr en) (by rw [sy_setW ho, bx_uu, va_up_self]; exact congrArg (fun z => sy_ h cI cL cF I (va_up K (o + 1) z) sh fr en) (wl_s _ (exg_ (J (a + 1)) (K 4) dn) n)) dc_A_extremeInto_51 ?_
    refine aw_iinc C dc_A_extremeInto_52 rfl (ni_inc _) (by decide) rfl ?_
    refine aw_goto C dc_A_extremeInto_55 (tgt := 19) (by decide) ?_
    exact ih
set_option maxHeartbeats 4000000 in
set_option maxRecDepth 100000 in
theorem a_sizedInto (l : Launch) (D : va_G) (h th : Nat) (cI cL cF : ClassId) (I : Nat → Nat → Int32) (J : Nat → Nat → Int64) (sh : Nat → Nat) (fr : Nat) (en : Int32) (o : Nat) (ho : fo_ o = true) (a : Nat) (ha : fo_ a = true) (hao : a ≠ o) (k : Nat) (hk : k ≤ 12) : kv_ l my_A_sizedInto (Cond.code my_A_sizedInto bc_A_sizedInto 7 none :: tw_) ({ frames := 1, cells := 0, slots := 0, locals := 20 }) D (ty_s cI cL cF) (xw_ h th) (ca_ h) [.ref (h + 2), .ref (h + o), .ref (h + a), .int (nI k)] (kp_ D h cI cL cF I J sh fr en) (kp_ D h cI cL cF I (va_up J (o + 1) (wl_ (J (o + 1)) (szg_ (J (a + 1)) (J 8) k) 64)) sh fr en) := by
  refine aw_met (A := ca_ h) (own := "FamilyShelf$Algebra") (by decide) rfl rfl (Nat.le_of_ble_eq_true rfl) ?_
  intro p9 e s m args below meth c C hr hX hP0
  refine aw_lw (lw' := [some (.ref (h + 2)), some (.ref (h + o)), some (.ref (h + a)), some (.int (nI k)), none, none, none]) rfl ?_
  refine aw_iconst C dc_A_sizedInto_0 (v := nI 0) rfl ?_
  refine aw_istore C dc_A_sizedInto_1 (by decide) rfl ?_
  refine aw_P (P' := kp_ D h cI cL cF I (va_up J (o + 1) (wl_ (J (o + 1)) (szg_ (J (a + 1)) (J 8) k) 0)) sh fr en) (fun H h => by rw [wl_0, va_upid]; exact h) ?_
  refine aw_loop (fun n => kp_ D h cI cL cF I (va_up J (o + 1) (wl_ (J (o + 1)) (szg_ (J (a + 1)) (J 8) k) n)) sh fr en) (fun n => [some (.ref (h + 2)), some (.ref (h + o)), some (.ref (h + a)), some (.int (nI k)), some (.int (nI n)), none, none]) 64 ?_ (fun n hn ih => ?_)
  · refine aw_iload C dc_A_sizedInto_3 rfl ?_
    refine aw_bipush C dc_A_sizedInto_5 (v := nI 64) rfl ?_
    refine aw_icmp_ge C dc_A_sizedInto_7 (tgt := 75) (by decide) (fun _ => ?_) (fun h9 => absurd (nI_le (Nat.le_refl _) (by decide)) h9)
    exact kc_vret C hr (fun _ h => h) dc_A_sizedInto_75
  · refine aw_iload C dc_A_sizedInto_3 rfl ?_
    refine aw_bipush C dc_A_sizedInto_5 (v := nI 64) rfl ?_
    refine aw_icmp_ge C dc_A_sizedInto_7 (tgt := 75) (by decide) (fun h9 => absurd h9 (nI_ge hn (by decide))) (fun _ => ?_)
    refine aw_iload_n C dc_A_sizedInto_10 rfl ?_
    refine aw_iload C dc_A_sizedInto_11 rfl ?_
    refine kc_i (fun _ h => h) (fun _ h => h) (kc_S (n := 1) C hX (xw_k ca_le) (j_ibc l D _ _ _ _ n hn) kw_49 kw_47 kw_48 kw_4 (by unfold kd_; decide) ⟨rfl, rfl, by decide, by decide⟩ rfl rfl (Nat.le_of_ble_eq_true rfl) ⟨Nat.zero_le _, Nat.zero_le _⟩ dc_A_sizedInto_13) ?_
    refine aw_isub C dc_A_sizedInto_16 ?_
    refine aw_istore C dc_A_sizedInto_17 (by decide) rfl ?_
    refine aw_iload C dc_A_sizedInto_19 rfl ?_
    refine aw_if_lt C dc_A_sizedInto_21 (tgt := 35) (by decide) (fun hB21 => ?_) (fun hB21 => ?_)
    · have hc9 : ¬ (nb_ n ≤ k ∧ k - nb_ n ≤ 6) := fun h9 => by rw [ni_sub h9.1] at hB21; exact nI_pos (by omega) hB21
      have e9 : (0 : Int64) = szg_ (J (a + 1)) (J 8) k n := by unfold szg_; rw [if_neg hc9]
      refine aw_iconst C dc_A_sizedInto_35 (v := nI 0) rfl ?_
      refine aw_istore C dc_A_sizedInto_36 (by decide) rfl ?_
      refine aw_aload_n C dc_A_sizedInto_38 rfl ?_
      refine aw_get C (fun w h => List.mem_cons_of_mem _ (ly_F w h)) o (sy_fam ho) rfl 0 (by decide) (C.1.2.2.2.2 _ (List.mem_cons_of_mem _ kw_42)) (fun _ h => h) rfl dc_A_sizedInto_39 ?_
      refine aw_iload C dc_A_sizedInto_42 rfl ?_
      refine aw_iload C dc_A_sizedInto_44 rfl ?_
      refine aw_if_eq C dc_A_sizedInto_46 (tgt := 67) (by decide) (fun _ => ?_) (fun h9 => absurd rfl h9)
      refine aw_lconst C dc_A_sizedInto_67 (v := 0) rfl ?_
      refine aw_eql e9 ?_
      refine aw_last C sy_D (o + 1) 1 (sy_words ho) rfl n rfl hn (by decide) (ws' := sy_ h cI cL cF I (va_up J (o + 1) (wl_ (J (o + 1)) (szg_ (J (a + 1)) (J 8) k) (n + 1))) sh fr en) (by rw [sy_setW ho, bx_uu, va_up_self]; exact congrArg (fun z => sy_ h cI cL cF I (va_up J (o + 1) z) sh fr en) (wl_s _ (szg_ (J (a + 1)) (J 8) k) n)) dc_A_sizedInto_68 ?_
      refine aw_iinc C dc_A_sizedInto_69 rfl (ni_inc _) (by decide) rfl ?_
      refine aw_goto C dc_A_sizedInto_72 (tgt := 3) (by decide) ?_
      refine (fun hs => aw_sub hs ih) (by
        intro k v h
        match k, h with
        | 0, h => exact h
        | 1, h => exact h
        | 2, h => exact h
        | 3, h => exact h
        | 4, h => exact h
        | 5, h => exact nomatch (show (some none : Option (Option Value)) = some (some v) from h)
        | 6, h => exact nomatch (show (some none : Option (Option Value)) = some (some v) from h)
        | n + 7, h => exact nomatch (show (none : Option (Option Value)) = some (some v) from h))
    · have h9 : nb_ n ≤ k := Nat.le_of_not_lt (fun h8 => hB21 (pk_sneg (by have := nb_le n; omega) h8))
      refine aw_iload C dc_A_sizedInto_24 rfl ?_
      refine aw_bipush C dc_A_sizedInto_26 (v := nI 6) rfl ?_
      refine aw_icmp_gt C dc_A_sizedInto_28 (tgt := 35) (by decide) (fun hB28 => ?_) (fun hB28 => ?_)
      · have hc9 : ¬ (nb_ n ≤ k ∧ k - nb_ n ≤ 6) := fun h8 => by rw [ni_sub h9] at hB28; exact nI_nlt h8.2 (by omega) hB28
        have e9 : (0 : Int64) = szg_ (J (a + 1)) (J 8) k n := by unfold szg_; rw [if_neg hc9]
        refine aw_iconst C dc_A_sizedInto_35 (v := nI 0) rfl ?_
        refine aw_istore C dc_A_sizedInto_36 (by decide) rfl ?_
        refine aw_aload_n C dc_A_sizedInto_38 rfl ?_
        refine aw_get C (fun w h => List.mem_cons_of_mem _ (ly_F w h)) o (sy_fam ho) rfl 0 (by decide) (C.1.2.2.2.2 _ (List.mem_cons_of_mem _ kw_42)) (fun _ h => h) rfl dc_A_sizedInto_39 ?_
        refine aw_iload C dc_A_sizedInto_42 rfl ?_
        refine aw_iload C dc_A_sizedInto_44 rfl ?_
        refine aw_if_eq C dc_A_sizedInto_46 (tgt := 67) (by decide) (fun _ => ?_) (fun h9 => absurd rfl h9)
        refine aw_lconst C dc_A_sizedInto_67 (v := 0) rfl ?_
        refine aw_eql e9 ?_
        refine aw_last C sy_D (o + 1) 1 (sy_words ho) rfl n rfl hn (by decide) (ws' := sy_ h cI cL cF I (va_up J (o + 1) (wl_ (J (o + 1)) (szg_ (J (a + 1)) (J 8) k) (n + 1))) sh fr en) (by rw [sy_setW ho, bx_uu, va_up_self]; exact congrArg (fun z => sy_ h cI cL cF I (va_up J (o + 1) z) sh fr en) (wl_s _ (szg_ (J (a + 1)) (J 8) k) n)) dc_A_sizedInto_68 ?_
        refine aw_iinc C dc_A_sizedInto_69 rfl (ni_inc _) (by decide) rfl ?_
        refine aw_goto C dc_A_sizedInto_72 (tgt := 3) (by decide) ?_
        refine (fun hs => aw_sub hs ih) (by
          intro k v h
          match k, h with
          | 0, h => exact h
          | 1, h => exact h
          | 2, h => exact h
          | 3, h => exact h
          | 4, h => exact h
          | 5, h => exact nomatch (show (some none : Option (Option Value)) = some (some v) from h)
          | 6, h => exact nomatch (show (some none : Option (Option Value)) = some (some v) from h)
          | n + 7, h => exact nomatch (show (none : Option (Option Value)) = some (some v) from h))
      · have h6 : k - nb_ n ≤ 6 := Nat.le_of_not_lt (fun h8 => hB28 (by rw [ni_sub h9]; exact nI_lt h8 (by omega)))
        have e9 : J (a + 1) n &&& J 8 (k - nb_ n) = szg_ (J (a + 1)) (J 8) k n := by unfold szg_; rw [if_pos ⟨h9, h6⟩]
        refine aw_iconst C dc_A_sizedInto_31 (v := nI 1) rfl ?_
        refine aw_goto C dc_A_sizedInto_32 (tgt := 36) (by decide) ?_
        refine aw_istore C dc_A_sizedInto_36 (by decide) rfl ?_
        refine aw_aload_n C dc_A_sizedInto_38 rfl ?_
        refine aw_get C (fun w h => List.mem_cons_of_mem _ (ly_F w h)) o (sy_fam ho) rfl 0 (by decide) (C.1.2.2.2.2 _ (List.mem_cons_of_mem _ kw_42)) (fun _ h => h) rfl dc_A_sizedInto_39 ?_
        refine aw_iload C dc_A_sizedInto_42 rfl ?_
        refine aw_iload C dc_A_sizedInto_44 rfl ?_
        refine aw_if_eq C dc_A_sizedInto_46 (tgt := 67) (by decide) (fun h9 => absurd h9 (by decide)) (fun _ => ?_)
        refine aw_aload_n C dc_A_sizedInto_49 rfl ?_
        refine aw_get C (fun w h => List.mem_cons_of_mem _ (ly_F w h)) a (sy_fam ha) rfl 0 (by decide) (C.1.2.2.2.2 _ (List.mem_cons_of_mem _ kw_42)) (fun _ h => h) rfl dc_A_sizedInto_50 ?_
        refine aw_iload C dc_A_sizedInto_53 rfl ?_
        refine aw_lald C (a + 1) 1 (sy_words ha) rfl n rfl hn (by decide) dc_A_sizedInto_55 ?_
        refine aw_eql (show _ = J (a + 1) n from congrFun (va_up_ne _ _ (by omega)) _) ?_
        refine aw_aload_n C dc_A_sizedInto_56 rfl ?_
        refine aw_get C (fun w h => List.mem_cons_of_mem _ (ly_A w h)) 2 sy_p2 rfl 3 (by decide) (C.1.2.2.2.2 _ (List.mem_cons_of_mem _ kw_56)) (fun _ h => h) rfl dc_A_sizedInto_57 ?_
        refine aw_iload C dc_A_sizedInto_60 rfl ?_
        refine aw_lald C 8 1 sy_p8 rfl (k - nb_ n) (ni_sub h9) (by omega) (by decide) dc_A_sizedInto_62 ?_
        refine aw_eql (show _ = J 8 (k - nb_ n) from congrFun (va_up_ne _ _ (show 8 ≠ o + 1 from fun h9 => by rw [show o = 7 by omega] at ho; exact absurd ho (by decide))) _) ?_
        refine aw_land C dc_A_sizedInto_63 ?_
        refine aw_goto C dc_A_sizedInto_64 (tgt := 68) (by decide) ?_
        refine aw_eql e9 ?_
        refine aw_last C sy_D (o + 1) 1 (sy_words ho) rfl n rfl hn (by decide) (ws' := sy_ h cI cL cF I (va_up J (o + 1) (wl_ (J (o + 1)) (szg_ (J (a + 1)) (J 8) k) (n + 1))) sh fr en) (by rw [sy_setW ho, bx_uu, va_up_self]; exact congrArg (fun z => sy_ h cI cL cF I (va_up J (o + 1) z) sh fr en) (wl_s _ (szg_ (J (a + 1)) (J 8) k) n)) dc_A_sizedInto_68 ?_
        refine aw_iinc C dc_A_sizedInto_69 rfl (ni_inc _) (by decide) rfl ?_
        refine aw_goto C dc_A_sizedInto_72 (tgt := 3) (by decide) ?_
        refine (fun hs => aw_sub hs ih) (by
          intro k v h
          match k, h with
          | 0, h => exact h
          | 1, h => exact h
          | 2, h => exact h
          | 3, h => exact h
          | 4, h => exact h
          | 5, h => exact nomatch (show (some none : Option (Option Value)) = some (some v) from h)
          | 6, h => exact nomatch (show (some none : Option (Option Value)) = some (some v) from h)
          | n + 7, h => exact nomatch (show (none : Option (Option Value)) = some (some v) from h))
