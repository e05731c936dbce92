theorem sy_p0 {h : Nat} {cI cL cF : ClassId} {I : Nat → Nat → Int32} {J : Nat → Nat → Int64} {sh : Nat → Nat} {fr : Nat} {en : Int32} : (sy_ h cI cL cF I J sh fr en)[0]? = some (h + 0, .inr (5, [.ref (h + 1), .ref (h + 2), .ref (h + 9), .ref (h + 11), .ref (h + 15), .ref (h + fr)])) := sy_at (by decide)
theorem sy_p1 {h : Nat} {cI cL cF : ClassId} {I : Nat → Nat → Int32} {J : Nat → Nat → Int64} {sh : Nat → Nat} {fr : Nat} {en : Int32} : (sy_ h cI cL cF I J sh fr en)[1]? = some (h + 1, .inl (cF, 10, .inr (.inr (.inr (.inr (fun i => some (h + sh i))))))) := sy_at (by decide)
theorem sy_p2 {h : Nat} {cI cL cF : ClassId} {I : Nat → Nat → Int32} {J : Nat → Nat → Int64} {sh : Nat → Nat} {fr : Nat} {en : Int32} : (sy_ h cI cL cF I J sh fr en)[2]? = some (h + 2, .inr (0, [.ref (h + 3), .ref (h + 5), .ref (h + 7), .ref (h + 8)])) := sy_at (by decide)
theorem sy_p7 {h : Nat} {cI cL cF : ClassId} {I : Nat → Nat → Int32} {J : Nat → Nat → Int64} {sh : Nat → Nat} {fr : Nat} {en : Int32} : (sy_ h cI cL cF I J sh fr en)[7]? = some (h + 7, .inl (cL, 64, .inr (.inl (J 7)))) := sy_at (by decide)
theorem sy_p8 {h : Nat} {cI cL cF : ClassId} {I : Nat → Nat → Int32} {J : Nat → Nat → Int64} {sh : Nat → Nat} {fr : Nat} {en : Int32} : (sy_ h cI cL cF I J sh fr en)[8]? = some (h + 8, .inl (cL, 7, .inr (.inl (J 8)))) := sy_at (by decide)
theorem sy_p9 {h : Nat} {cI cL cF : ClassId} {I : Nat → Nat → Int32} {J : Nat → Nat → Int64} {sh : Nat → Nat} {fr : Nat} {en : Int32} : (sy_ h cI cL cF I J sh fr en)[9]? = some (h + 9, .inr (3, [.ref (h + 10)])) := sy_at (by decide)
theorem sy_p10 {h : Nat} {cI cL cF : ClassId} {I : Nat → Nat → Int32} {J : Nat → Nat → Int64} {sh : Nat → Nat} {fr : Nat} {en : Int32} : (sy_ h cI cL cF I J sh fr en)[10]? = some (h + 10, .inl (cI, 12, .inl (I 10))) := sy_at (by decide)
theorem sy_p11 {h : Nat} {cI cL cF : ClassId} {I : Nat → Nat → Int32} {J : Nat → Nat → Int64} {sh : Nat → Nat} {fr : Nat} {en : Int32} : (sy_ h cI cL cF I J sh fr en)[11]? = some (h + 11, .inr (4, [.ref (h + 12), .ref (h + 13), .ref (h + 14)])) := sy_at (by decide)
theorem sy_p12 {h : Nat} {cI cL cF : ClassId} {I : Nat → Nat → Int32} {J : Nat → Nat → Int64} {sh : Nat → Nat} {fr : Nat} {en : Int32} : (sy_ h cI cL cF I J sh fr en)[12]? = some (h + 12, .inl (cI, 12, .inl (I 12))) := sy_at (by decide)
theorem sy_p13 {h : Nat} {cI cL cF : ClassId} {I : Nat → Nat → Int32} {J : Nat → Nat → Int64} {sh : Nat → Nat} {fr : Nat} {en : Int32} : (sy_ h cI cL cF I J sh fr en)[13]? = some (h + 13, .inl (cI, 64, .inl (I 13))) := sy_at (by decide)
theorem sy_p14 {h : Nat} {cI cL cF : ClassId} {I : Nat → Nat → Int32} {J : Nat → Nat → Int64} {sh : Nat → Nat} {fr : Nat} {en : Int32} : (sy_ h cI cL cF I J sh fr en)[14]? = some (h + 14, .inl (cI, 64, .inl (I 14))) := sy_at (by decide)
theorem sy_p15 {h : Nat} {cI cL cF : ClassId} {I : Nat → Nat → Int32} {J : Nat → Nat → Int64} {sh : Nat → Nat} {fr : Nat} {en : Int32} : (sy_ h cI cL cF I J sh fr en)[15]? = some (h + 15, .inr (1, [.ref (h + 16), .ref (h + 17), .ref (h + 18), .ref (h + 19), .int en])) := sy_at (by decide)
theorem sy_p16 {h : Nat} {cI cL cF : ClassId} {I : Nat → Nat → Int32} {J : Nat → Nat → Int64} {sh : Nat → Nat} {fr : Nat} {en : Int32} : (sy_ h cI cL cF I J sh fr en)[16]? = some (h + 16, .inl (cI, 4096, .inl (I 16))) := sy_at (by decide)
theorem sy_p17 {h : Nat} {cI cL cF : ClassId} {I : Nat → Nat → Int32} {J : Nat → Nat → Int64} {sh : Nat → Nat} {fr : Nat} {en : Int32} : (sy_ h cI cL cF I J sh fr en)[17]? = some (h + 17, .inl (cI, 767, .inl (I 17))) := sy_at (by decide)
theorem sy_p18 {h : Nat} {cI cL cF : ClassId} {I : Nat → Nat → Int32} {J : Nat → Nat → Int64} {sh : Nat → Nat} {fr : Nat} {en : Int32} : (sy_ h cI cL cF I J sh fr en)[18]? = some (h + 18, .inl (cI, 767, .inl (I 18))) := sy_at (by decide)
theorem sy_p19 {h : Nat} {cI cL cF : ClassId} {I : Nat → Nat → Int32} {J : Nat → Nat → Int64} {sh : Nat → Nat} {fr : Nat} {en : Int32} : (sy_ h cI cL cF I J sh fr en)[19]? = some (h + 19, .inl (cI, 767, .inl (I 19))) := sy_at (by decide)
theorem sy_sum {h : Nat} {cI cL cF : ClassId} {I : Nat → Nat → Int32} {J : Nat → Nat → Int64} {sh : Nat → Nat} {fr : Nat} {en : Int32} {k : Nat} (hk : k = 13 ∨ k = 14) : (sy_ h cI cL cF I J sh fr en)[k]? = some (h + k, .inl (cI, 64, .inl (I k))) := by
  rcases hk with rfl | rfl
  · exact sy_p13
  · exact sy_p14
theorem sy_setS {h : Nat} {cI cL cF : ClassId} {I : Nat → Nat → Int32} {J : Nat → Nat → Int64} {sh : Nat → Nat} {fr : Nat} {en : Int32} {k : Nat} (hk : k = 13 ∨ k = 14) {f : Nat → Int32} : (sy_ h cI cL cF I J sh fr en).set k (h + k, .inl (cI, 64, .inl f)) = sy_ h cI cL cF (va_up I k f) J sh fr en := by
  rcases hk with rfl | rfl
  · exact sy_setI (by decide) f (fun _ => rfl)
  · exact sy_setI (by decide) f (fun _ => rfl)
/-- the sums behind a call of heaviestPlace -/
def hI1_ (I : Nat → Nat → Int32) : Nat → Nat → Int32 := va_up I 14 (so_ (I 14) (I 12) 0 6)
def hI_ (I : Nat → Nat → Int32) : Nat → Nat → Int32 := va_up (hI1_ I) 13 (so_ (hI1_ I 13) (hI1_ I 12) 6 6)
def hs_ (I : Nat → Nat → Int32) (p : Nat) : Int32 := hI_ I 13 (p / 64) + hI_ I 14 (p % 64)
set_option maxHeartbeats 4000000 in
set_option maxRecDepth 100000 in
theorem f_lowPlaceAt (l : Launch) (D : va_G) (tys : List (ClassId × FieldType)) (X : State → Prop) (A : Nat → Prop) (P : Heap → Prop) (x : Int64) (i : Nat) (hi : i < lc_ x) : ki_ l my_F_lowPlaceAt (Cond.code my_F_lowPlaceAt bc_F_lowPlaceAt 5 (some .int) :: tw_) rm0 D tys X A [.long x, .int (nI i)] P P (nI (sel_ (lb_ x) 64 i)) := by
  refine aw_met (A := A) (own := "FamilyShelf$Family") (by decide) rfl rfl (Nat.le_of_ble_eq_true rfl) ?_
  intro p9 e s m args below meth c C hr hX hP0
  have hi64 : i < 64 := Nat.lt_of_lt_of_le hi (lc_le x)
  refine aw_lw (lw' := [some (.long x), none, some (.int (nI i)), none, none]) rfl ?_
  refine aw_iload_n C dc_F_lowPlaceAt_0 rfl ?_
  refine aw_istore_n C dc_F_lowPlaceAt_1 (by decide) rfl ?_
  refine aw_iconst C dc_F_lowPlaceAt_2 (v := nI 0) rfl ?_
  refine aw_istore C dc_F_lowPlaceAt_3 (by decide) rfl ?_
  refine aw_loopK (fun n => cn_ (lb_ x) n ≤ i) (fun _ => P) (fun n => [some (.long x), none, some (.int (nI i)), some (.int (nI (i - cn_ (lb_ x) n))), some (.int (nI n))]) 63 (Nat.zero_le _) (fun hk => ?_) (fun n hn hk ih => ?_)
  · refine aw_iload C dc_F_lowPlaceAt_5 rfl ?_
    refine aw_bipush C dc_F_lowPlaceAt_7 (v := nI 63) rfl ?_
    refine aw_icmp_ge C dc_F_lowPlaceAt_9 (tgt := 39) (by decide) (fun _ => ?_) (fun h9 => absurd (nI_le (Nat.le_refl _) (by decide)) h9)
    refine aw_bipush C dc_F_lowPlaceAt_39 (v := nI 63) rfl ?_
    have hc : cn_ (lb_ x) 64 = cn_ (lb_ x) 63 + (if lb_ x 63 then 1 else 0) := rfl
    have h1 : lb_ x 63 = true := by
      cases h9 : lb_ x 63
      · have : lc_ x = cn_ (lb_ x) 63 := by unfold lc_; rw [show (fun i => lb_ x i) = lb_ x from rfl, hc, h9]; rfl
        omega
      · rfl
    have h2 : lc_ x = cn_ (lb_ x) 63 + 1 := by unfold lc_; rw [show (fun i => lb_ x i) = lb_ x from rfl, hc, h1]; rfl
    exact kc_iret C hr (by rw [sel_eq (by decide) h1 (by omega)]) (fun _ h => h) dc_F_lowPlaceAt_41
  · refine aw_iload C dc_F_lowPlaceAt_5 rfl ?_
    refine aw_bipush C dc_F_lowPlaceAt_7 (v := nI 63) rfl ?_
    refine aw_icmp_ge C dc_F_lowPlaceAt_9 (tgt := 39) (by decide) (fun h9 => absurd h9 (nI_ge hn (by decide))) (fun _ => ?_)
    refine aw_lload_n C dc_F_lowPlaceAt_12 rfl ?_
    refine aw_iload C dc_F_lowPlaceAt_13 rfl ?_
    refine aw_lushr C dc_F_lowPlaceAt_15 ?_
    refine aw_lconst C dc_F_lowPlaceAt_16 (v := 1) rfl ?_
    refine aw_land C dc_F_lowPlaceAt_17 ?_
    refine aw_lconst C dc_F_lowPlaceAt_18 (v := 0) rfl ?_
    refine aw_lcmp C dc_F_lowPlaceAt_19 ?_
    refine aw_if_eq C dc_F_lowPlaceAt_20 (tgt := 33) (by decide) (fun hB20 => ?_) (fun hB20 => ?_)
    · have hb : lb_ x n = false := (lb_test _ (by omega)).mp ((lg_cmp_eq _ _).mp hB20)
      have cutp := ih (by rw [cn_false hb]; exact hk)
      try dsimp only at cutp
      rw [cn_false hb] at cutp
      refine aw_iinc C dc_F_lowPlaceAt_33 rfl (ni_inc _) (by decide) rfl ?_
      refine aw_goto C dc_F_lowPlaceAt_36 (tgt := 5) (by decide) ?_
      exact cutp
    · have hb : lb_ x n = true := by
        cases h9 : lb_ x n
        · exact absurd ((lg_cmp_eq _ _).mpr ((lb_test _ (by omega)).mpr h9)) hB20
        · rfl
      refine aw_iload_n C dc_F_lowPlaceAt_23 rfl ?_
      refine aw_if_ne C dc_F_lowPlaceAt_24 (tgt := 30) (by decide) (fun hB24 => ?_) (fun hB24 => ?_)
      · have hne : i - cn_ (lb_ x) n ≠ 0 := fun h9 => hB24 ((ni_z (by omega)).mpr h9)
        have cutp := ih (by rw [cn_true hb]; omega)
        try dsimp only at cutp
        refine aw_iinc C dc_F_lowPlaceAt_30 rfl (v := nI (i - cn_ (lb_ x) (n + 1))) (by rw [cn_true hb, show i - cn_ (lb_ x) n = (i - (cn_ (lb_ x) n + 1)) + 1 by omega]; exact ni_dec _) (by decide) rfl ?_
        refine aw_iinc C dc_F_lowPlaceAt_33 rfl (ni_inc _) (by decide) rfl ?_
        refine aw_goto C dc_F_lowPlaceAt_36 (tgt := 5) (by decide) ?_
        exact cutp
      · have hz : i - cn_ (lb_ x) n = 0 := (ni_z (by omega)).mp hB24
        refine aw_iload C dc_F_lowPlaceAt_27 rfl ?_
        exact kc_iret C hr (by rw [sel_eq (by omega) hb (by omega)]) (fun _ h => h) dc_F_lowPlaceAt_29
set_option maxHeartbeats 4000000 in
set_option maxRecDepth 100000 in
theorem f_placeAtNeg (l : Launch) (D : va_G) (h th : Nat) (cI cL cF : ClassId) (I : Nat → Nat → Int32) (J : Nat → Nat → Int64) (sh : Nat → Nat) (fr : Nat) (en : Int32) (o : Nat) (ho : fo_ o = true) (x : Int32) (hx : x < 0) : ki_ l my_F_placeAt (Cond.code my_F_placeAt bc_F_placeAt 5 (some .int) :: tw_) ({ frames := 1, cells := 0, slots := 0, locals := 24 }) D (ty_s cI cL cF) (xw_ h th) (ca_ h) [.ref (h + o), .int x] (kp_ D h cI cL cF I J sh fr en) (kp_ D h cI cL cF I J sh fr en) (-1) := by
  refine aw_met (A := ca_ h) (own := "FamilyShelf$Family") (by decide) rfl rfl (Nat.le_of_ble_eq_true rfl) ?_
  intro p9 e s m args below meth c C hr hX hP0
  refine aw_lw (lw' := [some (.ref (h + o)), some (.int x), none, none, none]) rfl ?_
  refine aw_iload_n C dc_F_placeAt_0 rfl ?_
  refine aw_if_ge C dc_F_placeAt_1 (tgt := 6) (by decide) (fun h9 => absurd h9 (fun h9 => absurd hx (Int32.not_lt.mpr h9))) (fun _ => ?_)
  refine aw_iconst C dc_F_placeAt_4 (v := (-1)) rfl ?_
  exact kc_iret C hr rfl (fun _ h => h) dc_F_placeAt_5
set_option maxHeartbeats 4000000 in
set_option maxRecDepth 100000 in
theorem f_placeAt (l : Launch) (D : va_G) (h th : Nat) (cI cL cF : ClassId) (I : Nat → Nat → Int32) (J : Nat → Nat → Int64) (sh : Nat → Nat) (fr : Nat) (en : Int32) (o : Nat) (ho : fo_ o = true) (j : Nat) (hj : j < 2 ^ 31) : ki_ l my_F_placeAt (Cond.code my_F_placeAt bc_F_placeAt 5 (some .int) :: tw_) ({ frames := 1, cells := 0, slots := 0, locals := 24 }) D (ty_s cI cL cF) (xw_ h th) (ca_ h) [.ref (h + o), .int (nI j)] (kp_ D h cI cL cF I J sh fr en) (kp_ D h cI cL cF I J sh fr en) (if j < cn_ (fb_ (J (o + 1))) 4096 then nI (sel_ (fb_ (J (o + 1))) 4096 j) else -1) := by
  refine aw_met (A := ca_ h) (own := "FamilyShelf$Family") (by decide) rfl rfl (Nat.le_of_ble_eq_true rfl) ?_
  intro p9 e s m args below meth c C hr hX hP0
  refine aw_lw (lw' := [some (.ref (h + o)), some (.int (nI j)), none, none, none]) rfl ?_
  refine aw_iload_n C dc_F_placeAt_0 rfl ?_
  refine aw_if_ge C dc_F_placeAt_1 (tgt := 6) (by decide) (fun _ => ?_) (fun h9 => absurd (nI_pos' hj) h9)
  refine aw_iload_n C dc_F_placeAt_6 rfl ?_
  refine aw_istore_n C dc_F_placeAt_7 (by decide) rfl ?_
  refine aw_iconst C dc_F_placeAt_8 (v := nI 0) rfl ?_
  refine aw_istore_n C dc_F_placeAt_9 (by decide) rfl ?_
  refine aw_loopK (fun n => tw64_ (J (o + 1)) n ≤ j) (fun _ => kp_ D h cI cL cF I J sh fr en) (fun n => [some (.ref (h + o)), some (.int (nI j)), some (.int (nI (j - tw64_ (J (o + 1)) n))), some (.int (nI n)), none]) 64 (Nat.zero_le _) (fun hk => ?_) (fun n hn hk ih => ?_)
  · refine aw_iload_n C dc_F_placeAt_10 rfl ?_
    refine aw_bipush C dc_F_placeAt_11 (v := nI 64) rfl ?_
    refine aw_icmp_ge C dc_F_placeAt_13 (tgt := 60) (by decide) (fun _ => ?_) (fun h9 => absurd (nI_le (Nat.le_refl _) (by decide)) h9)
    refine aw_iconst C dc_F_placeAt_60 (v := (-1)) rfl ?_
    exact kc_iret C hr (by rw [if_neg (by rw [← tw64_cn _ 64]; omega)]) (fun _ h => h) dc_F_placeAt_61
  · refine aw_iload_n C dc_F_placeAt_10 rfl ?_
    refine aw_bipush C dc_F_placeAt_11 (v := nI 64) rfl ?_
    refine aw_icmp_ge C dc_F_placeAt_13 (tgt := 60) (by decide) (fun h9 => absurd h9 (nI_ge hn (by decide))) (fun _ => ?_)
    refine aw_aload_n C dc_F_placeAt_16 rfl ?_
    refine aw_get C (fun w h => List.mem_cons_of_mem _ (ly_F w h)) o (sy_fam ho) rfl 0 (by decide) (C.1.2.2.2.2 _ (List.mem_cons_of_mem _ kw_41)) (fun _ h => h) rfl dc_F_placeAt_17 ?_
    refine aw_iload_n C dc_F_placeAt_20 rfl ?_
    refine aw_lald C (o + 1) 1 (sy_words ho) rfl n rfl hn (by decide) dc_F_placeAt_21 ?_
    refine kc_i (fun _ h => h) (fun _ h => h) (kc_S (n := 1) C hX (xw_k ca_le) (j_lbc l D _ _ _ _ ((J (o + 1)) n)) kw_281 kw_279 kw_280 kw_14 (by unfold kd_; decide) ⟨rfl, rfl, by decide, by decide⟩ rfl rfl (Nat.le_of_ble_eq_true rfl) ⟨Nat.zero_le _, Nat.zero_le _⟩ dc_F_placeAt_22) ?_
    refine aw_istore C dc_F_placeAt_25 (by decide) rfl ?_
    refine aw_iload_n C dc_F_placeAt_27 rfl ?_
    refine aw_iload C dc_F_placeAt_28 rfl ?_
    refine aw_icmp_ge C dc_F_placeAt_30 (tgt := 49) (by decide) (fun hB30 => ?_) (fun hB30 => ?_)
    · have hle : lc_ ((J (o + 1)) n) ≤ j - tw64_ (J (o + 1)) n := (nI_leI (by have := lc_le ((J (o + 1)) n); omega) (by omega)).mp hB30
      have e9 : tw64_ (J (o + 1)) (n + 1) = tw64_ (J (o + 1)) n + lc_ ((J (o + 1)) n) := rfl
      have cutp := ih (by omega)
      try dsimp only at cutp
      rw [e9, Nat.sub_add_eq] at cutp
      refine aw_iload_n C dc_F_placeAt_49 rfl ?_
      refine aw_iload C dc_F_placeAt_50 rfl ?_
      refine aw_isub C dc_F_placeAt_52 ?_
      refine aw_eqi (ni_sub hle) ?_
      refine aw_istore_n C dc_F_placeAt_53 (by decide) rfl ?_
      refine aw_iinc C dc_F_placeAt_54 rfl (ni_inc _) (by decide) rfl ?_
      refine aw_goto C dc_F_placeAt_57 (tgt := 10) (by decide) ?_
      refine aw_sub (lw' := [some (.ref (h + o)), some (.int (nI j)), some (.int (nI (j - tw64_ (J (o + 1)) n - lc_ ((J (o + 1)) n)))), some (.int (nI (n + 1))), none]) (by
        intro k v h
        match k, h with
        | 0, h => exact h
        | 1, h => exact h
        | 2, h => exact h
        | 3, h => exact h
        | 4, h => exact nomatch (show (some none : Option (Option Value)) = some (some v) from h)
        | n + 5, h => exact nomatch (show (none : Option (Option Value)) = some (some v) from h)) ?_
      exact cutp
    · have hlt : j - tw64_ (J (o + 1)) n < lc_ ((J (o + 1)) n) := Nat.lt_of_not_le (fun h9 => hB30 ((nI_leI (by have := lc_le ((J (o + 1)) n); omega) (by omega)).mpr h9))
      obtain ⟨g1, g2⟩ := sel_word hn hk (by omega)
      refine aw_iload_n C dc_F_placeAt_33 rfl ?_
      refine aw_bipush C dc_F_placeAt_34 (v := nI 6) rfl ?_
      refine aw_ishl C dc_F_placeAt_36 ?_
      refine aw_eqi (ni_shl (by decide) (by omega)) ?_
      refine aw_aload_n C dc_F_placeAt_37 rfl ?_
      refine aw_get C (fun w h => List.mem_cons_of_mem _ (ly_F w h)) o (sy_fam ho) rfl 0 (by decide) (C.1.2.2.2.2 _ (List.mem_cons_of_mem _ kw_41)) (fun _ h => h) rfl dc_F_placeAt_38 ?_
      refine aw_iload_n C dc_F_placeAt_41 rfl ?_
      refine aw_lald C (o + 1) 1 (sy_words ho) rfl n rfl hn (by decide) dc_F_placeAt_42 ?_
      refine aw_iload_n C dc_F_placeAt_43 rfl ?_
      refine kc_i (fun _ h => h) (fun _ h => h) (kc_S (n := 2) C hX (xw_k ca_le) (f_lowPlaceAt l D _ _ _ _ ((J (o + 1)) n) (j - tw64_ (J (o + 1)) n) hlt) kw_547 kw_545 kw_546 kw_3 (by unfold kd_; decide) ⟨rfl, rfl, by decide, by decide⟩ rfl rfl (Nat.le_of_ble_eq_true rfl) ⟨Nat.zero_le _, Nat.zero_le _⟩ dc_F_placeAt_44) ?_
      refine aw_ior C dc_F_placeAt_47 ?_
      refine aw_eqi (ni_or _ _) ?_
      exact kc_iret C hr (by rw [if_pos g1, g2, wp_or (sel_ok _ hlt).1]) (fun _ h => h) dc_F_placeAt_48
set_option maxHeartbeats 4000000 in
set_option maxRecDepth 100000 in
theorem f_isParted (l : Launch) (D : va_G) (h th : Nat) (cI cL cF : ClassId) (I : Nat → Nat → Int32) (J : Nat → Nat → Int64) (sh : Nat → Nat) (fr : Nat) (en : Int32) (o : Nat) (ho : fo_ o = true) (b : Nat) (hb : b < 12) : ki_ l my_F_isParted (Cond.code my_F_isParted bc_F_isParted 7 (some .boolean) :: tw_) ({ frames := 2, cells := 0, slots := 0, locals := 44 }) D (ty_s cI cL cF) (xw_ h th) (ca_ h) [.ref (h + o), .int (nI b)] (kp_ D h cI cL cF I J sh fr en) (kp_ D h cI cL cF I J sh fr en) (z1_ (decide (¬ orr_ (fun w => hv_ (J (o + 1)) w b) 64 = 0) && decide (¬ orr_ (fun w => lk_ (J (o + 1)) w b) 64 = 0))) := by
  refine aw_met (A := ca_ h) (own := "FamilyShelf$Family") (by decide) rfl rfl (Nat.le_of_ble_eq_true rfl) ?_
  intro p9 e s m args below meth c C hr hX hP0
  refine aw_lw (lw' := [some (.ref (h + o)), some (.int (nI b)), none, none, none, none, none]) rfl ?_
  refine aw_lconst C dc_F_isParted_0 (v := 0) rfl ?_
  refine aw_lstore_n C dc_F_isParted_1 (by decide) rfl ?_
  refine aw_lconst C dc_F_isParted_2 (v := 0) rfl ?_
  refine aw_lstore C dc_F_isParted_3 (by decide) rfl ?_
  refine aw_iconst C dc_F_isParted_5 (v := nI 0) rfl ?_
  refine aw_istore C dc_F_isParted_6 (by decide) rfl ?_
  refine aw_loop (fun _ => kp_ D h cI cL cF I J sh fr en) (fun n => [some (.ref (h + o)), some (.int (nI b)), some (.long (orr_ (fun w => hv_ (J (o + 1)) w b) n)), none, some (.long (orr_ (fun w => lk_ (J (o + 1)) w b) n)), none, some (.int (nI n))]) 64 ?_ (fun n hn ih => ?_)
  · refine aw_iload C dc_F_isParted_8 rfl ?_
    refine aw_bipush C dc_F_isParted_10 (v := nI 64) rfl ?_
    refine aw_icmp_ge C dc_F_isParted_12 (tgt := 43) (by decide) (fun _ => ?_) (fun h9 => absurd (nI_le (Nat.le_refl _) (by decide)) h9)
    refine aw_lload_n C dc_F_isParted_43 rfl ?_
    refine aw_lconst C dc_F_isParted_44 (v := 0) rfl ?_
    refine aw_lcmp C dc_F_isParted_45 ?_
    refine aw_if_eq C dc_F_isParted_46 (tgt := 60) (by decide) (fun hB46 => ?_) (fun hB46 => ?_)
    · have ha := (lg_cmp_eq _ _).mp hB46
      have e9 : nI 0 = z1_ (decide (¬ orr_ (fun w => hv_ (J (o + 1)) w b) 64 = 0) && decide (¬ orr_ (fun w => lk_ (J (o + 1)) w b) 64 = 0)) := by simp [z1_, ha]; rfl
      refine aw_iconst C dc_F_isParted_60 (v := nI 0) rfl ?_
      exact kc_zret C hr (by decide) e9 (fun _ h => h) dc_F_isParted_61
    · have ha : ¬ orr_ (fun w => hv_ (J (o + 1)) w b) 64 = 0 := fun h9 => hB46 ((lg_cmp_eq _ _).mpr h9)
      refine aw_lload C dc_F_isParted_49 rfl ?_
      refine aw_lconst C dc_F_isParted_51 (v := 0) rfl ?_
      refine aw_lcmp C dc_F_isParted_52 ?_
      refine aw_if_eq C dc_F_isParted_53 (tgt := 60) (by decide) (fun hB53 => ?_) (fun hB53 => ?_)
      · have hb2 := (lg_cmp_eq _ _).mp hB53
        have e9 : nI 0 = z1_ (decide (¬ orr_ (fun w => hv_ (J (o + 1)) w b) 64 = 0) && decide (¬ orr_ (fun w => lk_ (J (o + 1)) w b) 64 = 0)) := by simp [z1_, ha, hb2]; rfl
        refine aw_iconst C dc_F_isParted_60 (v := nI 0) rfl ?_
        exact kc_zret C hr (by decide) e9 (fun _ h => h) dc_F_isParted_61
      · have hb2 : ¬ orr_ (fun w => lk_ (J (o + 1)) w b) 64 = 0 := fun h9 => hB53 ((lg_cmp_eq _ _).mpr h9)
        have e9 : nI 1 = z1_ (decide (¬ orr_ (fun w => hv_ (J (o + 1)) w b) 64 = 0) && decide (¬ orr_ (fun w => lk_ (J (o + 1)) w b) 64 = 0)) := by simp [z1_, ha, hb2]; rfl
        refine aw_iconst C dc_F_isParted_56 (v := nI 1) rfl ?_
        refine aw_goto C dc_F_isParted_57 (tgt := 61) (by decide) ?_
        exact kc_zret C hr (by decide) e9 (fun _ h => h) dc_F_isParted_61
  · refine aw_iload C dc_F_isParted_8 rfl ?_
    refine aw_bipush C dc_F_isParted_10 (v := nI 64) rfl ?_
    refine aw_icmp_ge C dc_F_isParted_12 (tgt := 43) (by decide) (fun h9 => absurd h9 (nI_ge hn (by decide))) (fun _ => ?_)
    refine aw_lload_n C dc_F_isParted_15 rfl ?_
    refine aw_aload_n C dc_F_isParted_16 rfl ?_
    refine aw_iload C dc_F_isParted_17 rfl ?_
    refine aw_iload_n C dc_F_isParted_19 rfl ?_
    refine kc_l (fun _ h => h) (fun _ h => h) (kc_V (n := 2) C hX (xw_k ca_le) rfl o (sy_fam ho) rfl (f_having l D h th cI cL cF I J sh fr en o ho n hn b hb) kw_381 kw_378 kw_379 kw_380 kw_3 rfl (by unfold kd_; decide) ⟨rfl, rfl, by decide, by decide⟩ rfl rfl (Nat.le_of_ble_eq_true rfl) ⟨Nat.zero_le _, Nat.zero_le _⟩ dc_F_isParted_20) ?_
    refine aw_lor C dc_F_isParted_23 ?_
    refine aw_lstore_n C dc_F_isParted_24 (by decide) rfl ?_
    refine aw_lload C dc_F_isParted_25 rfl ?_
    refine aw_aload_n C dc_F_isParted_27 rfl ?_
    refine aw_iload C dc_F_isParted_28 rfl ?_
    refine aw_iload_n C dc_F_isParted_30 rfl ?_
    refine kc_l (fun _ h => h) (fun _ h => h) (kc_V (n := 2) C hX (xw_k ca_le) rfl o (sy_fam ho) rfl (f_lacking l D h th cI cL cF I J sh fr en o ho n hn b hb) kw_390 kw_387 kw_388 kw_389 kw_3 rfl (by unfold kd_; decide) ⟨rfl, rfl, by decide, by decide⟩ rfl rfl (Nat.le_of_ble_eq_true rfl) ⟨Nat.zero_le _, Nat.zero_le _⟩ dc_F_isParted_31) ?_
    refine aw_lor C dc_F_isParted_34 ?_
    refine aw_lstore C dc_F_isParted_35 (by decide) rfl ?_
    refine aw_iinc C dc_F_isParted_37 rfl (ni_inc _) (by decide) rfl ?_
    refine aw_goto C dc_F_isParted_40 (tgt := 8) (by decide) ?_
    exact ih
set_option maxHeartbeats 4000000 in
set_option maxRecDepth 100000 in
theorem s_bitOf (l : Launch) (D : va_G) (tys : List (ClassId × FieldType)) (X : State → Prop) (A : Nat → Prop) (P : Heap → Prop) (k : Nat) (hk : k < 12) : ki_ l my_S_bitOf (Cond.code my_S_bitOf bc_S_bitOf 1 (some .int) :: tw_) rm0 D tys X A [.int (nI k)] P P (nI (11 - k)) := by
  refine aw_met (A := A) (own := "FamilyShelf") (by decide) rfl rfl (Nat.le_of_ble_eq_true rfl) ?_
  intro p9 e s m args below meth c C hr hX hP0
  refine aw_lw (lw' := [some (.int (nI k))]) rfl ?_
  refine aw_bipush C dc_S_bitOf_0 (v := nI 11) rfl ?_
  refine aw_iload_n C dc_S_bitOf_2 rfl ?_
  refine aw_isub C dc_S_bitOf_3 ?_
  refine aw_eqi (ni_sub (by omega)) ?_
  exact kc_iret C hr rfl (fun _ h => h) dc_S_bitOf_4
set_option maxHeartbeats 4000000 in
set_option maxRecDepth 100000 in
theorem w_exchange (l : Launch) (D : va_G) (h th : Nat) (cI cL cF : ClassId) (I : Nat → Nat → Int32) (J : Nat → Nat → Int64) (sh : Nat → Nat) (fr : Nat) (en : Int32) (k : Nat) (hk : k < 12) (x : Int32) : ki_ l my_W_exchange (Cond.code my_W_exchange bc_W_exchange 4 (some .int) :: tw_) rm0 D (ty_s cI cL cF) (xw_ h th) (ca_ h) [.ref (h + 11), .int (nI k), .int x] (kp_ D h cI cL cF I J sh fr en) (kp_ D h cI cL cF (va_up I 12 (upd (I 12) k x)) J sh fr en) (I 12 k) := by
  refine aw_met (A := ca_ h) (own := "FamilyShelf$Weights") (by decide) rfl rfl (Nat.le_of_ble_eq_true rfl) ?_
  intro p9 e s m args below meth c C hr hX hP0
  refine aw_lw (lw' := [some (.ref (h + 11)), some (.int (nI k)), some (.int x), none]) rfl ?_
  refine aw_aload_n C dc_W_exchange_0 rfl ?_
  refine aw_get C (fun w h => List.mem_cons_of_mem _ (ly_W w h)) 11 sy_p11 rfl 0 (by decide) (C.1.2.2.2.2 _ (List.mem_cons_of_mem _ kw_83)) (fun _ h => h) rfl dc_W_exchange_1 ?_
  refine aw_iload_n C dc_W_exchange_4 rfl ?_
  refine aw_iald C 12 0 sy_p12 rfl k rfl hk (by decide) dc_W_exchange_5 ?_
  refine aw_istore_n C dc_W_exchange_6 (by decide) rfl ?_
  refine aw_aload_n C dc_W_exchange_7 rfl ?_
  refine aw_get C (fun w h => List.mem_cons_of_mem _ (ly_W w h)) 11 sy_p11 rfl 0 (by decide) (C.1.2.2.2.2 _ (List.mem_cons_of_mem _ kw_83)) (fun _ h => h) rfl dc_W_exchange_8 ?_
  refine aw_iload_n C dc_W_exchange_11 rfl ?_
  refine aw_iload_n C dc_W_exchange_12 rfl ?_
  refine aw_iast C sy_D 12 0 sy_p12 rfl k rfl hk (by decide) (sy_setI (k := 12) (by decide) _ (fun _ => rfl)) dc_W_exchange_13 ?_
  refine aw_iload_n C dc_W_exchange_14 rfl ?_
  exact kc_iret C hr rfl (fun _ h => h) dc_W_exchange_15
set_option maxHeartbeats 4000000 in
set_option maxRecDepth 100000 in
theorem g_exchange (l : Launch) (D : va_G) (h th : Nat) (cI cL cF : ClassId) (I : Nat → Nat → Int32) (J : Nat → Nat → Int64) (sh : Nat → Nat) (fr : Nat) (en : Int32) (k : Nat) (hk : k < 12) (x : Int32) : ki_ l my_G_exchange (Cond.code my_G_exchange bc_G_exchange 4 (some .int) :: tw_) rm0 D (ty_s cI cL cF) (xw_ h th) (ca_ h) [.ref (h + 9), .int (nI k), .int x] (kp_ D h cI cL cF I J sh fr en) (kp_ D h cI cL cF (va_up I 10 (upd (I 10) k x)) J sh fr en) (I 10 k) := by
  refine aw_met (A := ca_ h) (own := "FamilyShelf$Graph") (by decide) rfl rfl (Nat.le_of_ble_eq_true rfl) ?_
  intro p9 e s m args below meth c C hr hX hP0
  refine aw_lw (lw' := [some (.ref (h + 9)), some (.int (nI k)), some (.int x), none]) rfl ?_
  refine aw_aload_n C dc_G_exchange_0 rfl ?_
  refine aw_get C (fun w h => List.mem_cons_of_mem _ (ly_G w h)) 9 sy_p9 rfl 0 (by decide) (C.1.2.2.2.2 _ (List.mem_cons_of_mem _ kw_72)) (fun _ h => h) rfl dc_G_exchange_1 ?_
  refine aw_iload_n C dc_G_exchange_4 rfl ?_
  refine aw_iald C 10 0 sy_p10 rfl k rfl hk (by decide) dc_G_exchange_5 ?_
  refine aw_istore_n C dc_G_exchange_6 (by decide) rfl ?_
  refine aw_aload_n C dc_G_exchange_7 rfl ?_
  refine aw_get C (fun w h => List.mem_cons_of_mem _ (ly_G w h)) 9 sy_p9 rfl 0 (by decide) (C.1.2.2.2.2 _ (List.mem_cons_of_mem _ kw_72)) (fun _ h => h) rfl dc_G_exchange_8 ?_
  refine aw_iload_n C dc_G_exchange_11 rfl ?_
  refine aw_iload_n C dc_G_exchange_12 rfl ?_
  refine aw_iast C sy_D 10 0 sy_p10 rfl k rfl hk (by decide) (sy_setI (k := 10) (by decide) _ (fun _ => rfl)) dc_G_exchange_13 ?_
  refine aw_iload_n C dc_G_exchange_14 rfl ?_
  exact kc_iret C hr rfl (fun _ h => h) dc_G_exchange_15
set_option maxHeartbeats 4000000 in
set_option maxRecDepth 100000 in
theorem w_sumUp (l : Launch) (D : va_G) (h th : Nat) (cI cL cF : ClassId) (I : Nat → Nat → Int32) (J : Nat → Nat → Int64) (sh : Nat → Nat) (fr : Nat) (en : Int32) (k fb : Nat) (hk : (k = 14 ∧ fb = 0) ∨ (k = 13 ∧ fb = 6)) : kv_ l my_W_sumUp (Cond.code my_W_sumUp bc_W_sumUp 7 none :: tw_) ({ frames := 1, cells := 0, slots := 0, locals := 20 }) D (ty_s cI cL cF) (xw_ h th) (ca_ h) [.ref (h + 11), .ref (h + k), .int (nI fb)] (kp_ D h cI cL cF I J sh fr en) (kp_ D h cI cL cF (va_up I k (so_ (I k) (I 12) fb 6)) J sh fr en) := by
  refine aw_met (A := ca_ h) (own := "FamilyShelf$Weights") (by decide) rfl rfl (Nat.le_of_ble_eq_true rfl) ?_
  intro p9 e s m args below meth c C hr hX hP0
  refine aw_lw (lw' := [some (.ref (h + 11)), some (.ref (h + k)), some (.int (nI fb)), none, none, none, none]) rfl ?_
  refine aw_iconst C dc_W_sumUp_0 (v := nI 0) rfl ?_
  refine aw_istore_n C dc_W_sumUp_1 (by decide) rfl ?_
  refine aw_P (P' := kp_ D h cI cL cF (va_up I k (so_ (I k) (I 12) fb 0)) J sh fr en) (fun H h => by rw [show va_up I k (so_ (I k) (I 12) fb 0) = I from va_upid]; exact h) ?_
  refine aw_loop (fun i => kp_ D h cI cL cF (va_up I k (so_ (I k) (I 12) fb i)) J sh fr en) (fun i => [some (.ref (h + 11)), some (.ref (h + k)), some (.int (nI fb)), some (.int (nI i)), none, none, none]) 6 ?_ (fun i hi ih => ?_)
  · refine aw_iload_n C dc_W_sumUp_2 rfl ?_
    refine aw_bipush C dc_W_sumUp_3 (v := nI 6) rfl ?_
    refine aw_icmp_ge C dc_W_sumUp_5 (tgt := 62) (by decide) (fun _ => ?_) (fun h9 => absurd (nI_le (Nat.le_refl _) (by decide)) h9)
    exact kc_vret C hr (fun _ h => h) dc_W_sumUp_62
  · refine aw_iload_n C dc_W_sumUp_2 rfl ?_
    refine aw_bipush C dc_W_sumUp_3 (v := nI 6) rfl ?_
    refine aw_icmp_ge C dc_W_sumUp_5 (tgt := 62) (by decide) (fun h9 => absurd h9 (nI_ge hi (by decide))) (fun _ => ?_)
    refine aw_iconst C dc_W_sumUp_8 (v := nI 1) rfl ?_
    refine aw_iload_n C dc_W_sumUp_9 rfl ?_
    refine aw_ishl C dc_W_sumUp_10 ?_
    refine aw_eqi (ni_bit (by omega)) ?_
    refine aw_istore C dc_W_sumUp_11 (by decide) rfl ?_
    refine aw_aload_n C dc_W_sumUp_13 rfl ?_
    refine aw_get C (fun w h => List.mem_cons_of_mem _ (ly_W w h)) 11 sy_p11 rfl 0 (by decide) (C.1.2.2.2.2 _ (List.mem_cons_of_mem _ kw_83)) (fun _ h => h) rfl dc_W_sumUp_14 ?_
    refine aw_iload_n C dc_W_sumUp_17 rfl ?_
    refine aw_iload_n C dc_W_sumUp_18 rfl ?_
    refine aw_iadd C dc_W_sumUp_19 ?_
    refine aw_eqi (nI_add _ _) ?_
    refine kc_i (fun _ h => h) (fun _ h => h) (kc_SN (host := "FamilyShelf") (n := 1) C hX (xw_k ca_le) (s_bitOf l D _ _ _ _ (fb + i) (by omega)) kw_243 (hX.1 _ (by decide +kernel)) kw_242 kw_1 (by unfold kd_; decide) ⟨rfl, rfl, by decide, by decide⟩ rfl rfl (Nat.le_of_ble_eq_true rfl) ⟨Nat.zero_le _, Nat.zero_le _⟩ dc_W_sumUp_20) ?_
    refine aw_iald C 12 0 sy_p12 rfl (11 - (fb + i)) rfl (by omega) (by decide) dc_W_sumUp_23 ?_
    refine aw_eqi (show va_up I k (so_ (I k) (I 12) fb i) 12 (11 - (fb + i)) = I 12 (11 - (fb + i)) by rw [va_up_ne _ _ (by omega)]) ?_
    refine aw_istore C dc_W_sumUp_24 (by decide) rfl ?_
    refine aw_iconst C dc_W_sumUp_26 (v := nI 0) rfl ?_
    refine aw_istore C dc_W_sumUp_27 (by decide) rfl ?_
    have hp2 : 2 ^ i ≤ 32 := Nat.pow_le_pow_right (by decide) (show i ≤ 5 by omega)
    refine aw_loop (fun n => kp_ D h cI cL cF (va_up I k (si_ (so_ (I k) (I 12) fb i) (2 ^ i) (I 12 (11 - (fb + i))) n)) J sh fr en) (fun n => [some (.ref (h + 11)), some (.ref (h + k)), some (.int (nI fb)), some (.int (nI i)), some (.int (nI (2 ^ i))), some (.int (I 12 (11 - (fb + i)))), some (.int (nI n))]) (2 ^ i) ?_ (fun n hn ih2 => ?_)
    · refine aw_iload C dc_W_sumUp_29 rfl ?_
      refine aw_iload C dc_W_sumUp_31 rfl ?_
      refine aw_icmp_ge C dc_W_sumUp_33 (tgt := 56) (by decide) (fun _ => ?_) (fun h9 => absurd (nI_le (Nat.le_refl _) (by omega)) h9)
      refine aw_iinc C dc_W_sumUp_56 rfl (ni_inc _) (by decide) rfl ?_
      refine aw_goto C dc_W_sumUp_59 (tgt := 2) (by decide) ?_
      refine aw_sub (lw' := [some (.ref (h + 11)), some (.ref (h + k)), some (.int (nI fb)), some (.int (nI (i + 1))), none, none, none]) (by
        intro k v h
        match k, h with
        | 0, h => exact h
        | 1, h => exact h
        | 2, h => exact h
        | 3, h => exact h
        | 4, h => exact nomatch (show (some none : Option (Option Value)) = some (some v) from h)
        | 5, h => exact nomatch (show (some none : Option (Option Value)) = some (some v) from h)
        | 6, h => exact nomatch (show (some none : Option (Option Value)) = some (some v) from h)
        | n + 7, h => exact nomatch (show (none : Option (Option Value)) = some (some v) from h)) ?_
      exact ih
    · refine aw_iload C dc_W_sumUp_29 rfl ?_
      refine aw_iload C dc_W_sumUp_31 rfl ?_
      refine aw_icmp_ge C dc_W_sumUp_33 (tgt := 56) (by decide) (fun h9 => absurd h9 (nI_ge hn (by omega))) (fun _ => ?_)
      refine aw_aload_n C dc_W_sumUp_36 rfl ?_
      refine aw_iload C dc_W_sumUp_37 rfl ?_
      refine aw_iload C dc_W_sumUp_39 rfl ?_
      refine aw_iadd C dc_W_sumUp_41 ?_
      refine aw_eqi (nI_add _ _) ?_
      refine aw_aload_n C dc_W_sumUp_42 rfl ?_
      refine aw_iload C dc_W_sumUp_43 rfl ?_
      refine aw_iald C k 0 (sy_sum (by omega)) rfl n rfl (by omega) (by decide) dc_W_sumUp_45 ?_
      refine aw_iload C dc_W_sumUp_46 rfl ?_
      refine aw_iadd C dc_W_sumUp_48 ?_
      refine aw_iast C sy_D k 0 (sy_sum (by omega)) rfl (2 ^ i + n) rfl (by omega) (by decide) (ws' := sy_ h cI cL cF (va_up I k (si_ (so_ (I k) (I 12) fb i) (2 ^ i) (I 12 (11 - (fb + i))) (n + 1))) J sh fr en) (by rw [sy_setS (by omega), bx_uu, va_up_self]; rfl) dc_W_sumUp_49 ?_
      refine aw_iinc C dc_W_sumUp_50 rfl (ni_inc _) (by decide) rfl ?_
      refine aw_goto C dc_W_sumUp_53 (tgt := 29) (by decide) ?_
      exact ih2
set_option maxHeartbeats 4000000 in
set_option maxRecDepth 100000 in
theorem w_heaviestPlace (l : Launch) (D : va_G) (h th : Nat) (cI cL cF : ClassId) (I : Nat → Nat → Int32) (J : Nat → Nat → Int64) (sh : Nat → Nat) (fr : Nat) (en : Int32) (o : Nat) (ho : fo_ o = true) : ki_ l my_W_heaviestPlace (Cond.code my_W_heaviestPlace bc_W_heaviestPlace 6 (some .int) :: tw_) ({ frames := 2, cells := 0, slots := 0, locals := 46 }) D (ty_s cI cL cF) (xw_ h th) (ca_ h) [.ref (h + 11), .ref (h + o)] (kp_ D h cI cL cF I J sh fr en) (kp_ D h cI cL cF (hI_ I) J sh fr en) (hp_ (J (o + 1)) (hs_ I) 4096).1 := by
  refine aw_met (A := ca_ h) (own := "FamilyShelf$Weights") (by decide) rfl rfl (Nat.le_of_ble_eq_true rfl) ?_
  intro p9 e s m args below meth c C hr hX hP0
  refine aw_lw (lw' := [some (.ref (h + 11)), some (.ref (h + o)), none, none, none, none]) rfl ?_
  refine aw_aload_n C dc_W_heaviestPlace_0 rfl ?_
  refine aw_aload_n C dc_W_heaviestPlace_1 rfl ?_
  refine aw_get C (fun w h => List.mem_cons_of_mem _ (ly_W w h)) 11 sy_p11 rfl 2 (by decide) (C.1.2.2.2.2 _ (List.mem_cons_of_mem _ kw_85)) (fun _ h => h) rfl dc_W_heaviestPlace_2 ?_
  refine aw_iconst C dc_W_heaviestPlace_5 (v := nI 0) rfl ?_
  refine kc_v (fun _ h => h) (fun _ h => h) (kc_V (n := 2) C hX (xw_k ca_le) rfl 11 sy_p11 rfl (w_sumUp l D h th cI cL cF I J sh fr en 14 0 (Or.inl ⟨rfl, rfl⟩)) kw_574 kw_571 kw_573 (tw_sel (q := (my_W_sumUp, 3)) (by decide +kernel)) kw_6 rfl (by unfold kd_; decide) ⟨rfl, rfl, by decide, by decide⟩ rfl rfl (Nat.le_of_ble_eq_true rfl) ⟨Nat.zero_le _, Nat.zero_le _⟩ dc_W_heaviestPlace_6) ?_
  refine aw_aload_n C dc_W_heaviestPlace_9 rfl ?_
  refine aw_aload_n C dc_W_heaviestPlace_10 rfl ?_
  refine aw_get C (fun w h => List.mem_cons_of_mem _ (ly_W w h)) 11 sy_p11 rfl 1 (by decide) (C.1.2.2.2.2 _ (List.mem_cons_of_mem _ kw_84)) (fun _ h => h) rfl dc_W_heaviestPlace_11 ?_
  refine aw_bipush C dc_W_heaviestPlace_14 (v := nI 6) rfl ?_
  refine kc_v (fun _ h => h) (fun _ h => h) (kc_V (n := 2) C hX (xw_k ca_le) rfl 11 sy_p11 rfl (w_sumUp l D h th cI cL cF (hI1_ I) J sh fr en 13 6 (Or.inr ⟨rfl, rfl⟩)) kw_574 kw_571 kw_573 (tw_sel (q := (my_W_sumUp, 3)) (by decide +kernel)) kw_6 rfl (by unfold kd_; decide) ⟨rfl, rfl, by decide, by decide⟩ rfl rfl (Nat.le_of_ble_eq_true rfl) ⟨Nat.zero_le _, Nat.zero_le _⟩ dc_W_heaviestPlace_16) ?_
  refine aw_iconst C dc_W_heaviestPlace_19 (v := (-1)) rfl ?_
  refine aw_istore_n C dc_W_heaviestPlace_20 (by decide) rfl ?_
  refine aw_iconst C dc_W_heaviestPlace_21 (v := nI 0) rfl ?_
  refine aw_istore_n C dc_W_heaviestPlace_22 (by decide) rfl ?_
  refine aw_iconst C dc_W_heaviestPlace_23 (v := nI 0) rfl ?_
  refine aw_istore C dc_W_heaviestPlace_24 (by decide) rfl ?_
  refine aw_loop (fun _ => kp_ D h cI cL cF (hI_ I) J sh fr en) (fun n => [some (.ref (h + 11)), some (.ref (h + o)), some (.int (hp_ (J (o + 1)) (hs_ I) n).1), some (.int (hp_ (J (o + 1)) (hs_ I) n).2), some (.int (nI n)), none]) 4096 ?_ (fun n hn ih => ?_)
  · refine aw_iload C dc_W_heaviestPlace_26 rfl ?_
    refine aw_sipush C dc_W_heaviestPlace_28 (v := nI 4096) rfl ?_
    refine aw_icmp_ge C dc_W_heaviestPlace_31 (tgt := 89) (by decide) (fun _ => ?_) (fun h9 => absurd (nI_le (Nat.le_refl _) (by decide)) h9)
    refine aw_iload_n C dc_W_heaviestPlace_89 rfl ?_
    exact kc_iret C hr rfl (fun _ h => h) dc_W_heaviestPlace_90
  · refine aw_iload C dc_W_heaviestPlace_26 rfl ?_
    refine aw_sipush C dc_W_heaviestPlace_28 (v := nI 4096) rfl ?_
    refine aw_icmp_ge C dc_W_heaviestPlace_31 (tgt := 89) (by decide) (fun h9 => absurd h9 (nI_ge hn (by decide))) (fun _ => ?_)
    refine aw_aload_n C dc_W_heaviestPlace_34 rfl ?_
    refine aw_iload C dc_W_heaviestPlace_35 rfl ?_
    refine kc_i (fun _ h => h) (fun _ h => h) (kc_V (n := 1) C hX (xw_k ca_le) rfl o (sy_fam ho) rfl (f_holds l D h th cI cL cF (hI_ I) J sh fr en o ho n hn) kw_247 kw_576 kw_245 kw_246 kw_3 rfl (by unfold kd_; decide) ⟨rfl, rfl, by decide, by decide⟩ rfl rfl (Nat.le_of_ble_eq_true rfl) ⟨Nat.zero_le _, Nat.zero_le _⟩ dc_W_heaviestPlace_37) ?_
    refine aw_if_eq C dc_W_heaviestPlace_40 (tgt := 83) (by decide) (fun hB40 => ?_) (fun hB40 => ?_)
    · have hf : fb_ (J (o + 1)) n = false := by
        cases h9 : fb_ (J (o + 1)) n
        · rfl
        · rw [h9] at hB40; exact absurd hB40 (by decide)
      have hh : hp_ (J (o + 1)) (hs_ I) (n + 1) = hp_ (J (o + 1)) (hs_ I) n := by rw [hp_, hf, if_neg (by decide)]
      have cutp := ih
      try dsimp only at cutp
      rw [hh] at cutp
      refine aw_iinc C dc_W_heaviestPlace_83 rfl (ni_inc _) (by decide) rfl ?_
      refine aw_goto C dc_W_heaviestPlace_86 (tgt := 26) (by decide) ?_
      refine (fun hs => aw_sub hs cutp) (by
        intro k v h
        match k, h with
        | 0, h => exact h
        | 1, h => exact h
        | 2, h => exact h
        | 3, h => exact h
        | 4, h => exact h
        | 5, h => exact nomatch (show (some none : Option (Option Value)) = some (some v) from h)
        | n + 6, h => exact nomatch (show (none : Option (Option Value)) = some (some v) from h))
    · have hf : fb_ (J (o + 1)) n = true := by
        cases h9 : fb_ (J (o + 1)) n
        · rw [h9] at hB40; exact absurd rfl hB40
        · rfl
      refine aw_aload_n C dc_W_heaviestPlace_43 rfl ?_
      refine aw_get C (fun w h => List.mem_cons_of_mem _ (ly_W w h)) 11 sy_p11 rfl 1 (by decide) (C.1.2.2.2.2 _ (List.mem_cons_of_mem _ kw_84)) (fun _ h => h) rfl dc_W_heaviestPlace_44 ?_
      refine aw_iload C dc_W_heaviestPlace_47 rfl ?_
      refine aw_bipush C dc_W_heaviestPlace_49 (v := nI 6) rfl ?_
      refine aw_ishr C dc_W_heaviestPlace_51 ?_
      refine aw_eqi (np_hi hn) ?_
      refine aw_iald C 13 0 sy_p13 rfl (n / 64) rfl (by omega) (by decide) dc_W_heaviestPlace_52 ?_
      refine aw_aload_n C dc_W_heaviestPlace_53 rfl ?_
      refine aw_get C (fun w h => List.mem_cons_of_mem _ (ly_W w h)) 11 sy_p11 rfl 2 (by decide) (C.1.2.2.2.2 _ (List.mem_cons_of_mem _ kw_85)) (fun _ h => h) rfl dc_W_heaviestPlace_54 ?_
      refine aw_iload C dc_W_heaviestPlace_57 rfl ?_
      refine aw_bipush C dc_W_heaviestPlace_59 (v := nI 63) rfl ?_
      refine aw_iand C dc_W_heaviestPlace_61 ?_
      refine aw_eqi (np_lo hn) ?_
      refine aw_iald C 14 0 sy_p14 rfl (n % 64) rfl (by omega) (by decide) dc_W_heaviestPlace_62 ?_
      refine aw_iadd C dc_W_heaviestPlace_63 ?_
      refine aw_eqi (show _ = hs_ I n from rfl) ?_
      refine aw_istore C dc_W_heaviestPlace_64 (by decide) rfl ?_
      refine aw_iload_n C dc_W_heaviestPlace_66 rfl ?_
      refine aw_iconst C dc_W_heaviestPlace_67 (v := (-1)) rfl ?_
      refine aw_icmp_eq C dc_W_heaviestPlace_68 (tgt := 77) (by decide) (fun hB68 => ?_) (fun hB68 => ?_)
      · have hh : hp_ (J (o + 1)) (hs_ I) (n + 1) = (nI n, hs_ I n) := by rw [hp_, hf, if_pos rfl, if_pos (Or.inl hB68)]
        have cutp := ih
        try dsimp only at cutp
        rw [hh] at cutp
        refine aw_iload C dc_W_heaviestPlace_77 rfl ?_
        refine aw_istore_n C dc_W_heaviestPlace_79 (by decide) rfl ?_
        refine aw_iload C dc_W_heaviestPlace_80 rfl ?_
        refine aw_istore_n C dc_W_heaviestPlace_82 (by decide) rfl ?_
        refine aw_iinc C dc_W_heaviestPlace_83 rfl (ni_inc _) (by decide) rfl ?_
        refine aw_goto C dc_W_heaviestPlace_86 (tgt := 26) (by decide) ?_
        refine (fun hs => aw_sub hs cutp) (by
          intro k v h
          match k, h with
          | 0, h => exact h
          | 1, h => exact h
          | 2, h => exact h
          | 3, h => exact h
          | 4, h => exact h
          | 5, h => exact nomatch (show (some none : Option (Option Value)) = some (some v) from h)
          | n + 6, h => exact nomatch (show (none : Option (Option Value)) = some (some v) from h))
      · refine aw_iload C dc_W_heaviestPlace_71 rfl ?_
        refine aw_iload_n C dc_W_heaviestPlace_73 rfl ?_
        refine aw_icmp_le C dc_W_heaviestPlace_74 (tgt := 83) (by decide) (fun hB74 => ?_) (fun hB74 => ?_)
        · have hh : hp_ (J (o + 1)) (hs_ I) (n + 1) = hp_ (J (o + 1)) (hs_ I) n := by rw [hp_, hf, if_pos rfl, if_neg (fun h9 => h9.elim hB68 (fun h8 => absurd h8 (Int32.not_lt.mpr hB74)))]
          have cutp := ih
          try dsimp only at cutp
          rw [hh] at cutp
          refine aw_iinc C dc_W_heaviestPlace_83 rfl (ni_inc _) (by decide) rfl ?_
          refine aw_goto C dc_W_heaviestPlace_86 (tgt := 26) (by decide) ?_
          refine (fun hs => aw_sub hs cutp) (by
            intro k v h
            match k, h with
            | 0, h => exact h
            | 1, h => exact h
            | 2, h => exact h
            | 3, h => exact h
            | 4, h => exact h
            | 5, h => exact nomatch (show (some none : Option (Option Value)) = some (some v) from h)
            | n + 6, h => exact nomatch (show (none : Option (Option Value)) = some (some v) from h))
        · have hh : hp_ (J (o + 1)) (hs_ I) (n + 1) = (nI n, hs_ I n) := by rw [hp_, hf, if_pos rfl, if_pos (Or.inr (Int32.not_le.mp hB74))]
          have cutp := ih
          try dsimp only at cutp
          rw [hh] at cutp
          refine aw_iload C dc_W_heaviestPlace_77 rfl ?_
          refine aw_istore_n C dc_W_heaviestPlace_79 (by decide) rfl ?_
          refine aw_iload C dc_W_heaviestPlace_80 rfl ?_
          refine aw_istore_n C dc_W_heaviestPlace_82 (by decide) rfl ?_
          refine aw_iinc C dc_W_heaviestPlace_83 rfl (ni_inc _) (by decide) rfl ?_
          refine aw_goto C dc_W_heaviestPlace_86 (tgt := 26) (by decide) ?_
          refine (fun hs => aw_sub hs cutp) (by
            intro k v h
            match k, h with
            | 0, h => exact h
            | 1, h => exact h
            | 2, h => exact h
            | 3, h => exact h
            | 4, h => exact h
            | 5, h => exact nomatch (show (some none : Option (Option Value)) = some (some v) from h)
            | n + 6, h => exact nomatch (show (none : Option (Option Value)) = some (some v) from h))
