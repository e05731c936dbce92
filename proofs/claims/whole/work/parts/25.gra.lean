set_option maxHeartbeats 4000000 in
set_option maxRecDepth 100000 in
theorem g_walk (l : Launch) (D : va_G) (h th : Nat) (cI cL cF : ClassId) (I : Nat → Nat → Int32) (sh : Nat → Nat) (fr : Nat) (en : Int32) (o : Nat) (ho : fo_ o = true) (ed : Nat → Nat) (hed : ∀ j, j < 12 → I 10 j = nI (ed j)) (hok : ∀ j, j < 12 → eok_ (ed j)) (goal : Nat) (hgoal : goal < 128) : ∀ d : Nat, ∀ (J : Nat → Nat → Int64) (v sn pl : Nat) (hv : v < 7) (hsn : sn < 128) (hb : sn.testBit v = true) (huc : uc_ sn < d) (hpl : pl < 4096), kv_ l my_G_walk (Cond.code my_G_walk bc_G_walk 7 none :: tw_) { frames := d, cells := 0, slots := 0, locals := 26 * d + 21 } D (ty_s cI cL cF) (xw_ h th) (ca_ h) [.ref (h + o), .ref (h + 10), .int (nI (2 ^ v)), .int (nI goal), .int (nI sn), .int (nI pl)] (kp_ D h cI cL cF I J sh fr en) (kp_ D h cI cL cF I (va_up J (o + 1) (wk_ ed goal d (2 ^ v) sn pl (J (o + 1)))) sh fr en) := by
  intro d
  induction d with
  | zero => intro J v sn pl hv hsn hb huc; exact absurd huc (by omega)
  | succ d ihd =>
    intro J v sn pl hv hsn hb huc hpl
    have hv2 : 2 ^ v < 128 := Nat.pow_lt_pow_right (a := 2) (by decide) (show v < 7 from hv)
    refine aw_met (A := ca_ h) (own := "FamilyShelf$Graph") (by decide) rfl rfl (Nat.le_of_ble_eq_true rfl) ?_
    intro p9 e s m args below meth c C hr hX hP0
    refine aw_lw (lw' := [some (.ref (h + o)), some (.ref (h + 10)), some (.int (nI (2 ^ v))), some (.int (nI goal)), some (.int (nI sn)), some (.int (nI pl)), none]) rfl ?_
    refine aw_iload_n C dc_G_walk_0 rfl ?_
    refine aw_iload_n C dc_G_walk_1 rfl ?_
    refine aw_icmp_ne C dc_G_walk_2 (tgt := 12) (by decide) (fun hB2 => ?_) (fun hB2 => ?_)
    · have hne : ¬ 2 ^ v = goal := fun h9 => hB2 (by rw [h9])
      have e9 : wk_ ed goal (d + 1) (2 ^ v) sn pl (J (o + 1)) = fold_ (fun e g => if ed e &&& sn = 2 ^ v then wk_ ed goal d (ed e ^^^ 2 ^ v) (sn ||| ed e) (pl ||| 2 ^ (11 - e)) g else g) 12 (J (o + 1)) := by rw [wk_, if_neg hne]
      rw [e9]
      refine aw_iconst C dc_G_walk_12 (v := nI 0) rfl ?_
      refine aw_istore C dc_G_walk_13 (by decide) rfl ?_
      refine aw_P (P' := kp_ D h cI cL cF I (va_up J (o + 1) (fold_ (fun e g => if ed e &&& sn = 2 ^ v then wk_ ed goal d (ed e ^^^ 2 ^ v) (sn ||| ed e) (pl ||| 2 ^ (11 - e)) g else g) 0 (J (o + 1)))) sh fr en) (fun H h => by rw [show (va_up J (o + 1) (fold_ (fun e g => if ed e &&& sn = 2 ^ v then wk_ ed goal d (ed e ^^^ 2 ^ v) (sn ||| ed e) (pl ||| 2 ^ (11 - e)) g else g) 0 (J (o + 1)))) = J from va_upid]; exact h) ?_
      refine aw_loop (fun n => kp_ D h cI cL cF I (va_up J (o + 1) (fold_ (fun e g => if ed e &&& sn = 2 ^ v then wk_ ed goal d (ed e ^^^ 2 ^ v) (sn ||| ed e) (pl ||| 2 ^ (11 - e)) g else g) n (J (o + 1)))) sh fr en) (fun n => [some (.ref (h + o)), some (.ref (h + 10)), some (.int (nI (2 ^ v))), some (.int (nI goal)), some (.int (nI sn)), some (.int (nI pl)), some (.int (nI n))]) 12 ?_ (fun n hn ih => ?_)
      · refine aw_iload C dc_G_walk_15 rfl ?_
        refine aw_bipush C dc_G_walk_17 (v := nI 12) rfl ?_
        refine aw_icmp_ge C dc_G_walk_19 (tgt := 68) (by decide) (fun _ => ?_) (fun h9 => absurd (nI_le (Nat.le_refl _) (by decide)) h9)
        exact kc_vret C hr (fun _ h => h) dc_G_walk_68
      · refine aw_iload C dc_G_walk_15 rfl ?_
        refine aw_bipush C dc_G_walk_17 (v := nI 12) rfl ?_
        refine aw_icmp_ge C dc_G_walk_19 (tgt := 68) (by decide) (fun h9 => absurd h9 (nI_ge hn (by decide))) (fun _ => ?_)
        refine aw_aload_n C dc_G_walk_22 rfl ?_
        refine aw_iload C dc_G_walk_23 rfl ?_
        refine aw_iald C 10 0 sy_p10 rfl n rfl hn (by decide) dc_G_walk_25 ?_
        refine aw_eqi (hed n hn) ?_
        refine aw_iload C dc_G_walk_26 rfl ?_
        refine aw_iand C dc_G_walk_28 ?_
        refine aw_eqi (ni_and _ _) ?_
        refine aw_iload_n C dc_G_walk_29 rfl ?_
        refine aw_icmp_ne C dc_G_walk_30 (tgt := 62) (by decide) (fun hB30 => ?_) (fun hB30 => ?_)
        · have hc : ¬ ed n &&& sn = 2 ^ v := fun h9 => hB30 (by rw [h9])
          have cutp := ih
          rw [show (fold_ (fun e g => if ed e &&& sn = 2 ^ v then wk_ ed goal d (ed e ^^^ 2 ^ v) (sn ||| ed e) (pl ||| 2 ^ (11 - e)) g else g) (n + 1) (J (o + 1))) = (fold_ (fun e g => if ed e &&& sn = 2 ^ v then wk_ ed goal d (ed e ^^^ 2 ^ v) (sn ||| ed e) (pl ||| 2 ^ (11 - e)) g else g) n (J (o + 1))) by rw [fold_, if_neg hc]] at cutp
          refine aw_iinc C dc_G_walk_62 rfl (ni_inc _) (by decide) rfl ?_
          refine aw_goto C dc_G_walk_65 (tgt := 15) (by decide) ?_
          exact cutp
        · have hc : ed n &&& sn = 2 ^ v := (nI_eq (Nat.lt_of_le_of_lt Nat.and_le_right (by omega)) (by omega)).mp hB30
          obtain ⟨w9, hw9, ex, hlt9, hb9, hu9⟩ := wk_one (hok n hn) hsn hv hb hc
          have hxlt := eok_lt (hok n hn)
          have cutp := aw_P (P := kp_ D h cI cL cF I (va_up (va_up J (o + 1) (fold_ (fun e g => if ed e &&& sn = 2 ^ v then wk_ ed goal d (ed e ^^^ 2 ^ v) (sn ||| ed e) (pl ||| 2 ^ (11 - e)) g else g) n (J (o + 1)))) (o + 1) (wk_ ed goal d (2 ^ w9) (sn ||| ed n) (pl ||| 2 ^ (11 - n)) ((va_up J (o + 1) (fold_ (fun e g => if ed e &&& sn = 2 ^ v then wk_ ed goal d (ed e ^^^ 2 ^ v) (sn ||| ed e) (pl ||| 2 ^ (11 - e)) g else g) n (J (o + 1)))) (o + 1)))) sh fr en) (fun H h => by
            rw [bx_uu, va_up_self] at h
            rw [show (fold_ (fun e g => if ed e &&& sn = 2 ^ v then wk_ ed goal d (ed e ^^^ 2 ^ v) (sn ||| ed e) (pl ||| 2 ^ (11 - e)) g else g) (n + 1) (J (o + 1))) = wk_ ed goal d (2 ^ w9) (sn ||| ed n) (pl ||| 2 ^ (11 - n)) (fold_ (fun e g => if ed e &&& sn = 2 ^ v then wk_ ed goal d (ed e ^^^ 2 ^ v) (sn ||| ed e) (pl ||| 2 ^ (11 - e)) g else g) n (J (o + 1))) by rw [fold_, if_pos hc, ex]]
            exact h) ih
          refine aw_aload_n C dc_G_walk_33 rfl ?_
          refine aw_aload_n C dc_G_walk_34 rfl ?_
          refine aw_aload_n C dc_G_walk_35 rfl ?_
          refine aw_iload C dc_G_walk_36 rfl ?_
          refine aw_iald C 10 0 sy_p10 rfl n rfl hn (by decide) dc_G_walk_38 ?_
          refine aw_eqi (hed n hn) ?_
          refine aw_iload_n C dc_G_walk_39 rfl ?_
          refine aw_ixor C dc_G_walk_40 ?_
          refine aw_eqi (ni_xor _ _) ?_
          refine aw_eqi (congrArg nI ex) ?_
          refine aw_iload_n C dc_G_walk_41 rfl ?_
          refine aw_iload C dc_G_walk_42 rfl ?_
          refine aw_aload_n C dc_G_walk_44 rfl ?_
          refine aw_iload C dc_G_walk_45 rfl ?_
          refine aw_iald C 10 0 sy_p10 rfl n rfl hn (by decide) dc_G_walk_47 ?_
          refine aw_eqi (hed n hn) ?_
          refine aw_ior C dc_G_walk_48 ?_
          refine aw_eqi (ni_or _ _) ?_
          refine aw_iload C dc_G_walk_49 rfl ?_
          refine aw_iconst C dc_G_walk_51 (v := nI 1) rfl ?_
          refine aw_iload C dc_G_walk_52 rfl ?_
          refine kc_i (fun _ h => h) (fun _ h => h) (kc_SN (host := "FamilyShelf") (n := 1) C hX (xw_k ca_le) (s_bitOf l D _ _ _ _ n hn) kw_243 (hX.1 _ (by decide +kernel)) kw_242 kw_1 (by unfold kd_; decide) ⟨rfl, rfl, by show 0 + 1 ≤ d + 1; omega, by show 8 + (1 + 11) + 0 ≤ 26 * (d + 1) + 21; omega⟩ rfl rfl (Nat.le_of_ble_eq_true rfl) ⟨Nat.zero_le _, Nat.zero_le _⟩ dc_G_walk_54) ?_
          refine aw_ishl C dc_G_walk_57 ?_
          refine aw_eqi (ni_bit (by omega)) ?_
          refine aw_ior C dc_G_walk_58 ?_
          refine aw_eqi (ni_or _ _) ?_
          refine kc_v (fun _ h => h) (fun _ h => h) (kc_S (n := 6) C hX (xw_k ca_le) (ihd (va_up J (o + 1) (fold_ (fun e g => if ed e &&& sn = 2 ^ v then wk_ ed goal d (ed e ^^^ 2 ^ v) (sn ||| ed e) (pl ||| 2 ^ (11 - e)) g else g) n (J (o + 1)))) w9 (sn ||| ed n) (pl ||| 2 ^ (11 - n)) hw9 hlt9 hb9 (by omega) (pl_bit hpl (by omega))) kw_492 kw_490 kw_491 kw_5 (by unfold kd_; decide) ⟨rfl, rfl, by show d + 1 ≤ d + 1; omega, by show 8 + (7 + 11) + (26 * d + 21) ≤ 26 * (d + 1) + 21; omega⟩ rfl rfl (Nat.le_of_ble_eq_true rfl) ⟨Nat.zero_le _, Nat.zero_le _⟩ dc_G_walk_59) ?_
          refine aw_iinc C dc_G_walk_62 rfl (ni_inc _) (by decide) rfl ?_
          refine aw_goto C dc_G_walk_65 (tgt := 15) (by decide) ?_
          exact cutp
    · have heq : 2 ^ v = goal := (nI_eq (by omega) (by omega)).mp hB2
      have e9 : wk_ ed goal (d + 1) (2 ^ v) sn pl (J (o + 1)) = inc_ (J (o + 1)) pl := by rw [wk_, if_pos heq]
      rw [e9]
      refine aw_aload_n C dc_G_walk_5 rfl ?_
      refine aw_iload C dc_G_walk_6 rfl ?_
      refine kc_v (fun _ h => h) (fun _ h => h) (kc_V (n := 1) C hX (xw_k ca_le) rfl o (sy_fam ho) rfl (f_include l D h th cI cL cF I J sh fr en o ho pl hpl) kw_251 kw_493 kw_249 kw_250 kw_3 rfl (by unfold kd_; decide) ⟨rfl, rfl, by show 0 + 1 ≤ d + 1; omega, by show 8 + (2 + 11) + 0 ≤ 26 * (d + 1) + 21; omega⟩ rfl rfl (Nat.le_of_ble_eq_true rfl) ⟨Nat.zero_le _, Nat.zero_le _⟩ dc_G_walk_8) ?_
      exact kc_vret C hr (fun _ h => h) dc_G_walk_11
set_option maxHeartbeats 4000000 in
set_option maxRecDepth 100000 in
theorem g_match (l : Launch) (D : va_G) (h th : Nat) (cI cL cF : ClassId) (I : Nat → Nat → Int32) (sh : Nat → Nat) (fr : Nat) (en : Int32) (o : Nat) (ho : fo_ o = true) (ed : Nat → Nat) (hed : ∀ j, j < 12 → I 10 j = nI (ed j)) (hok : ∀ j, j < 12 → eok_ (ed j)) : ∀ d : Nat, ∀ (J : Nat → Nat → Int64) (e9 bs pl : Nat) (he9 : e9 + d = 12) (hbs : bs < 128) (hpl : pl < 4096), kv_ l my_G_match (Cond.code my_G_match bc_G_match 5 none :: tw_) { frames := d + 1, cells := 0, slots := 0, locals := 24 * d + 21 } D (ty_s cI cL cF) (xw_ h th) (ca_ h) [.ref (h + o), .ref (h + 10), .int (nI e9), .int (nI bs), .int (nI pl)] (kp_ D h cI cL cF I J sh fr en) (kp_ D h cI cL cF I (va_up J (o + 1) (mt_ ed d bs pl (J (o + 1)))) sh fr en) := by
  intro d
  induction d with
  | zero =>
    intro J e9 bs pl he9 hbs hpl
    refine aw_met (A := ca_ h) (own := "FamilyShelf$Graph") (by decide) rfl rfl (Nat.le_of_ble_eq_true rfl) ?_
    intro p9 e s m args below meth c C hr hX hP0
    refine aw_lw (lw' := [some (.ref (h + o)), some (.ref (h + 10)), some (.int (nI e9)), some (.int (nI bs)), some (.int (nI pl))]) rfl ?_
    refine aw_iload_n C dc_G_match_0 rfl ?_
    refine aw_bipush C dc_G_match_1 (v := nI 12) rfl ?_
    refine aw_icmp_lt C dc_G_match_3 (tgt := 13) (by decide) (fun h9 => absurd h9 (nI_nlt (by omega) (by omega))) (fun _ => ?_)
    refine aw_aload_n C dc_G_match_6 rfl ?_
    refine aw_iload C dc_G_match_7 rfl ?_
    refine kc_v (fun _ h => h) (fun _ h => h) (kc_V (n := 1) C hX (xw_k ca_le) rfl o (sy_fam ho) rfl (f_include l D h th cI cL cF I J sh fr en o ho pl hpl) kw_251 kw_493 kw_249 kw_250 kw_3 rfl (by unfold kd_; decide) ⟨rfl, rfl, by decide, by decide⟩ rfl rfl (Nat.le_of_ble_eq_true rfl) ⟨Nat.zero_le _, Nat.zero_le _⟩ dc_G_match_9) ?_
    exact kc_vret C hr (fun _ h => h) dc_G_match_12
  | succ d ihd =>
    intro J e9 bs pl he9 hbs hpl
    refine aw_met (A := ca_ h) (own := "FamilyShelf$Graph") (by decide) rfl rfl (Nat.le_of_ble_eq_true rfl) ?_
    intro p9 e s m args below meth c C hr hX hP0
    refine aw_lw (lw' := [some (.ref (h + o)), some (.ref (h + 10)), some (.int (nI e9)), some (.int (nI bs)), some (.int (nI pl))]) rfl ?_
    have e11 : 11 - d = e9 := by omega
    have hlt9 := eok_lt (hok e9 (by omega))
    refine aw_iload_n C dc_G_match_0 rfl ?_
    refine aw_bipush C dc_G_match_1 (v := nI 12) rfl ?_
    refine aw_icmp_lt C dc_G_match_3 (tgt := 13) (by decide) (fun _ => ?_) (fun h9 => absurd (nI_lt (by omega) (by decide)) h9)
    refine aw_aload_n C dc_G_match_13 rfl ?_
    refine aw_aload_n C dc_G_match_14 rfl ?_
    refine aw_iload_n C dc_G_match_15 rfl ?_
    refine aw_iconst C dc_G_match_16 (v := nI 1) rfl ?_
    refine aw_iadd C dc_G_match_17 ?_
    refine aw_eqi (nI_add _ _) ?_
    refine aw_iload_n C dc_G_match_18 rfl ?_
    refine aw_iload C dc_G_match_19 rfl ?_
    refine kc_v (fun _ h => h) (fun _ h => h) (kc_S (n := 5) C hX (xw_k ca_le) (ihd J (e9 + 1) bs pl (by omega) hbs hpl) kw_508 kw_506 kw_507 kw_5 (by unfold kd_; decide) ⟨rfl, rfl, by show d + 1 + 1 ≤ d + 1 + 1; omega, by show 8 + (5 + 11) + (24 * d + 21) ≤ 24 * (d + 1) + 21; omega⟩ rfl rfl (Nat.le_of_ble_eq_true rfl) ⟨Nat.zero_le _, Nat.zero_le _⟩ dc_G_match_21) ?_
    refine aw_aload_n C dc_G_match_24 rfl ?_
    refine aw_iload_n C dc_G_match_25 rfl ?_
    refine aw_iald C 10 0 sy_p10 rfl e9 rfl (by omega) (by decide) dc_G_match_26 ?_
    refine aw_eqi (hed e9 (by omega)) ?_
    refine aw_if_eq C dc_G_match_27 (tgt := 60) (by decide) (fun hB27 => ?_) (fun hB27 => ?_)
    · have e8 : mt_ ed (d + 1) bs pl (J (o + 1)) = mt_ ed d bs pl (J (o + 1)) := by rw [mt_, e11, if_neg (fun h9 => h9.1 ((ni_z (by omega)).mp hB27))]
      rw [e8]
      first
        | exact kc_vret C hr (fun _ h => h) dc_G_match_60
        | exact kc_vret C hr (fun _ h => by rw [bx_uu, va_up_self] at h; exact h) dc_G_match_60
    · have hnz : ed e9 ≠ 0 := fun h9 => hB27 ((ni_z (by omega)).mpr h9)
      refine aw_aload_n C dc_G_match_30 rfl ?_
      refine aw_iload_n C dc_G_match_31 rfl ?_
      refine aw_iald C 10 0 sy_p10 rfl e9 rfl (by omega) (by decide) dc_G_match_32 ?_
      refine aw_eqi (hed e9 (by omega)) ?_
      refine aw_iload_n C dc_G_match_33 rfl ?_
      refine aw_iand C dc_G_match_34 ?_
      refine aw_eqi (ni_and _ _) ?_
      refine aw_if_ne C dc_G_match_35 (tgt := 60) (by decide) (fun hB35 => ?_) (fun hB35 => ?_)
      · have e8 : mt_ ed (d + 1) bs pl (J (o + 1)) = mt_ ed d bs pl (J (o + 1)) := by rw [mt_, e11, if_neg (fun h9 => hB35 ((ni_z (Nat.lt_of_le_of_lt Nat.and_le_right (by omega))).mpr h9.2))]
        rw [e8]
        first
          | exact kc_vret C hr (fun _ h => h) dc_G_match_60
          | exact kc_vret C hr (fun _ h => by rw [bx_uu, va_up_self] at h; exact h) dc_G_match_60
      · have hz := (ni_z (Nat.lt_of_le_of_lt Nat.and_le_right (by omega))).mp hB35
        have e8 : mt_ ed (d + 1) bs pl (J (o + 1)) = mt_ ed d (bs ||| ed e9) (pl ||| 2 ^ (11 - e9)) (mt_ ed d bs pl (J (o + 1))) := by rw [mt_, e11, if_pos ⟨hnz, hz⟩, show 11 - e9 = d by omega]
        rw [e8]
        refine aw_aload_n C dc_G_match_38 rfl ?_
        refine aw_aload_n C dc_G_match_39 rfl ?_
        refine aw_iload_n C dc_G_match_40 rfl ?_
        refine aw_iconst C dc_G_match_41 (v := nI 1) rfl ?_
        refine aw_iadd C dc_G_match_42 ?_
        refine aw_eqi (nI_add _ _) ?_
        refine aw_iload_n C dc_G_match_43 rfl ?_
        refine aw_aload_n C dc_G_match_44 rfl ?_
        refine aw_iload_n C dc_G_match_45 rfl ?_
        refine aw_iald C 10 0 sy_p10 rfl e9 rfl (by omega) (by decide) dc_G_match_46 ?_
        refine aw_eqi (hed e9 (by omega)) ?_
        refine aw_ior C dc_G_match_47 ?_
        refine aw_eqi (ni_or _ _) ?_
        refine aw_iload C dc_G_match_48 rfl ?_
        refine aw_iconst C dc_G_match_50 (v := nI 1) rfl ?_
        refine aw_iload_n C dc_G_match_51 rfl ?_
        refine kc_i (fun _ h => h) (fun _ h => h) (kc_SN (host := "FamilyShelf") (n := 1) C hX (xw_k ca_le) (s_bitOf l D _ _ _ _ e9 (by omega)) kw_243 (hX.1 _ (by decide +kernel)) kw_242 kw_1 (by unfold kd_; decide) ⟨rfl, rfl, by show 0 + 1 ≤ d + 1 + 1; omega, by show 8 + (1 + 11) + 0 ≤ 24 * (d + 1) + 21; omega⟩ rfl rfl (Nat.le_of_ble_eq_true rfl) ⟨Nat.zero_le _, Nat.zero_le _⟩ dc_G_match_52) ?_
        refine aw_ishl C dc_G_match_55 ?_
        refine aw_eqi (ni_bit (by omega)) ?_
        refine aw_ior C dc_G_match_56 ?_
        refine aw_eqi (ni_or _ _) ?_
        refine kc_v (fun _ h => h) (fun _ h => h) (kc_S (n := 5) C hX (xw_k ca_le) (ihd (va_up J (o + 1) (mt_ ed d bs pl (J (o + 1)))) (e9 + 1) (bs ||| ed e9) (pl ||| 2 ^ (11 - e9)) (by omega) (Nat.or_lt_two_pow (n := 7) hbs (by omega)) (pl_bit hpl (by omega))) kw_508 kw_506 kw_507 kw_5 (by unfold kd_; decide) ⟨rfl, rfl, by show d + 1 + 1 ≤ d + 1 + 1; omega, by show 8 + (5 + 11) + (24 * d + 21) ≤ 24 * (d + 1) + 21; omega⟩ rfl rfl (Nat.le_of_ble_eq_true rfl) ⟨Nat.zero_le _, Nat.zero_le _⟩ dc_G_match_57) ?_
        first
          | exact kc_vret C hr (fun _ h => h) dc_G_match_60
          | exact kc_vret C hr (fun _ h => by rw [bx_uu, va_up_self] at h; exact h) dc_G_match_60
set_option maxHeartbeats 4000000 in
set_option maxRecDepth 100000 in
theorem g_pathsInto (l : Launch) (D : va_G) (h th : Nat) (cI cL cF : ClassId) (I : Nat → Nat → Int32) (J : Nat → Nat → Int64) (sh : Nat → Nat) (fr : Nat) (en : Int32) (o : Nat) (ho : fo_ o = true) (ed : Nat → Nat) (hed : ∀ j, j < 12 → I 10 j = nI (ed j)) (hok : ∀ j, j < 12 → eok_ (ed j)) (sv tv : Nat) (hs : sv < 7) (ht : tv < 7) : kv_ l my_G_pathsInto (Cond.code my_G_pathsInto bc_G_pathsInto 4 none :: tw_) ({ frames := 9, cells := 0, slots := 0, locals := 255 }) D (ty_s cI cL cF) (xw_ h th) (ca_ h) [.ref (h + 9), .ref (h + o), .int (nI sv), .int (nI tv)] (kp_ D h cI cL cF I J sh fr en) (kp_ D h cI cL cF I (va_up (fillJ_ J o 0) (o + 1) (wk_ ed (2 ^ tv) 8 (2 ^ sv) (2 ^ sv) 0 ((fillJ_ J o 0) (o + 1)))) sh fr en) := by
  refine aw_met (A := ca_ h) (own := "FamilyShelf$Graph") (by decide) rfl rfl (Nat.le_of_ble_eq_true rfl) ?_
  intro p9 e s m args below meth c C hr hX hP0
  refine aw_lw (lw' := [some (.ref (h + 9)), some (.ref (h + o)), some (.int (nI sv)), some (.int (nI tv))]) rfl ?_
  have hs2 : 2 ^ sv < 128 := Nat.pow_lt_pow_right (a := 2) (by decide) (show sv < 7 from hs)
  have ht2 : 2 ^ tv < 128 := Nat.pow_lt_pow_right (a := 2) (by decide) (show tv < 7 from ht)
  refine aw_aload_n C dc_G_pathsInto_0 rfl ?_
  refine aw_lconst C dc_G_pathsInto_1 (v := 0) rfl ?_
  refine kc_v (fun _ h => h) (fun _ h => h) (kc_V (n := 1) C hX (xw_k ca_le) rfl o (sy_fam ho) rfl (f_fill l D h th cI cL cF I J sh fr en o ho 0) kw_288 kw_489 kw_286 kw_287 kw_3 rfl (by unfold kd_; decide) ⟨rfl, rfl, by decide, by decide⟩ rfl rfl (Nat.le_of_ble_eq_true rfl) ⟨Nat.zero_le _, Nat.zero_le _⟩ dc_G_pathsInto_2) ?_
  refine aw_aload_n C dc_G_pathsInto_5 rfl ?_
  refine aw_aload_n C dc_G_pathsInto_6 rfl ?_
  refine aw_get C (fun w h => List.mem_cons_of_mem _ (ly_G w h)) 9 sy_p9 rfl 0 (by decide) (C.1.2.2.2.2 _ (List.mem_cons_of_mem _ kw_72)) (fun _ h => h) rfl dc_G_pathsInto_7 ?_
  refine aw_iconst C dc_G_pathsInto_10 (v := nI 1) rfl ?_
  refine aw_iload_n C dc_G_pathsInto_11 rfl ?_
  refine aw_ishl C dc_G_pathsInto_12 ?_
  refine aw_eqi (ni_bit (by omega)) ?_
  refine aw_iconst C dc_G_pathsInto_13 (v := nI 1) rfl ?_
  refine aw_iload_n C dc_G_pathsInto_14 rfl ?_
  refine aw_ishl C dc_G_pathsInto_15 ?_
  refine aw_eqi (ni_bit (by omega)) ?_
  refine aw_iconst C dc_G_pathsInto_16 (v := nI 1) rfl ?_
  refine aw_iload_n C dc_G_pathsInto_17 rfl ?_
  refine aw_ishl C dc_G_pathsInto_18 ?_
  refine aw_eqi (ni_bit (by omega)) ?_
  refine aw_iconst C dc_G_pathsInto_19 (v := nI 0) rfl ?_
  refine kc_v (fun _ h => h) (fun _ h => h) (kc_S (n := 6) C hX (xw_k ca_le) (g_walk l D h th cI cL cF I sh fr en o ho ed hed hok (2 ^ tv) ht2 8 (fillJ_ J o 0) sv (2 ^ sv) 0 hs hs2 Nat.testBit_two_pow_self (Nat.lt_of_le_of_lt (uc_le _) (by decide)) (by decide)) kw_492 kw_490 kw_491 kw_5 (by unfold kd_; decide) ⟨rfl, rfl, by decide, by decide⟩ rfl rfl (Nat.le_of_ble_eq_true rfl) ⟨Nat.zero_le _, Nat.zero_le _⟩ dc_G_pathsInto_20) ?_
  exact kc_vret C hr (fun _ h => h) dc_G_pathsInto_23
set_option maxHeartbeats 4000000 in
set_option maxRecDepth 100000 in
theorem g_matchingsInto (l : Launch) (D : va_G) (h th : Nat) (cI cL cF : ClassId) (I : Nat → Nat → Int32) (J : Nat → Nat → Int64) (sh : Nat → Nat) (fr : Nat) (en : Int32) (o : Nat) (ho : fo_ o = true) (ed : Nat → Nat) (hed : ∀ j, j < 12 → I 10 j = nI (ed j)) (hok : ∀ j, j < 12 → eok_ (ed j)) : kv_ l my_G_matchingsInto (Cond.code my_G_matchingsInto bc_G_matchingsInto 2 none :: tw_) ({ frames := 14, cells := 0, slots := 0, locals := 333 }) D (ty_s cI cL cF) (xw_ h th) (ca_ h) [.ref (h + 9), .ref (h + o)] (kp_ D h cI cL cF I J sh fr en) (kp_ D h cI cL cF I (va_up (fillJ_ J o 0) (o + 1) (mt_ ed 12 0 0 ((fillJ_ J o 0) (o + 1)))) sh fr en) := by
  refine aw_met (A := ca_ h) (own := "FamilyShelf$Graph") (by decide) rfl rfl (Nat.le_of_ble_eq_true rfl) ?_
  intro p9 e s m args below meth c C hr hX hP0
  refine aw_lw (lw' := [some (.ref (h + 9)), some (.ref (h + o))]) rfl ?_
  refine aw_aload_n C dc_G_matchingsInto_0 rfl ?_
  refine aw_lconst C dc_G_matchingsInto_1 (v := 0) rfl ?_
  refine kc_v (fun _ h => h) (fun _ h => h) (kc_V (n := 1) C hX (xw_k ca_le) rfl o (sy_fam ho) rfl (f_fill l D h th cI cL cF I J sh fr en o ho 0) kw_288 kw_489 kw_286 kw_287 kw_3 rfl (by unfold kd_; decide) ⟨rfl, rfl, by decide, by decide⟩ rfl rfl (Nat.le_of_ble_eq_true rfl) ⟨Nat.zero_le _, Nat.zero_le _⟩ dc_G_matchingsInto_2) ?_
  refine aw_aload_n C dc_G_matchingsInto_5 rfl ?_
  refine aw_aload_n C dc_G_matchingsInto_6 rfl ?_
  refine aw_get C (fun w h => List.mem_cons_of_mem _ (ly_G w h)) 9 sy_p9 rfl 0 (by decide) (C.1.2.2.2.2 _ (List.mem_cons_of_mem _ kw_72)) (fun _ h => h) rfl dc_G_matchingsInto_7 ?_
  refine aw_iconst C dc_G_matchingsInto_10 (v := nI 0) rfl ?_
  refine aw_iconst C dc_G_matchingsInto_11 (v := nI 0) rfl ?_
  refine aw_iconst C dc_G_matchingsInto_12 (v := nI 0) rfl ?_
  refine kc_v (fun _ h => h) (fun _ h => h) (kc_S (n := 5) C hX (xw_k ca_le) (g_match l D h th cI cL cF I sh fr en o ho ed hed hok 12 (fillJ_ J o 0) 0 0 0 rfl (by decide) (by decide)) kw_508 kw_506 kw_507 kw_5 (by unfold kd_; decide) ⟨rfl, rfl, by decide, by decide⟩ rfl rfl (Nat.le_of_ble_eq_true rfl) ⟨Nat.zero_le _, Nat.zero_le _⟩ dc_G_matchingsInto_13) ?_
  exact kc_vret C hr (fun _ h => h) dc_G_matchingsInto_16
