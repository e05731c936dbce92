/-! Rows that the walks of Family lean on. -/
theorem va_upid {α : Type} {f : Nat → α} {k : Nat} : va_up f k (f k) = f := by
  funext j
  unfold va_up
  by_cases h : j = k
  · rw [if_pos h, h]
  · rw [if_neg h]
theorem wd_or {w k : Nat} (hw : w < 64) (hk : k < 6) : w ||| 2 ^ k < 64 := Nat.or_lt_two_pow (n := 6) hw (Nat.pow_lt_pow_right (by decide) hk)
theorem wd_xor {w k : Nat} (hw : w < 64) (hk : k < 6) : w ^^^ 2 ^ k < 64 := Nat.xor_lt_two_pow (n := 6) hw (Nat.pow_lt_pow_right (by decide) hk)
/-- the low part of a word -/
theorem lb_low {k i : Nat} (hk : k < 64) (hi : i < 64) : lb_ ((1 : Int64) <<< ((nI k).toInt64 &&& 63) - 1) i = decide (i < k) := by
  have h9 : ∀ a b : Fin 64, lb_ ((1 : Int64) <<< ((nI a.val).toInt64 &&& 63) - 1) b.val = decide (b.val < a.val) := by decide +kernel
  exact h9 ⟨k, hk⟩ ⟨i, hi⟩
theorem tb_eq {f : Nat → Int64} {p : Nat} (hp : p < 4096) : tw64_ f (p / 64) + lc_ (f (p / 64) &&& ((1 : Int64) <<< ((nI (p % 64)).toInt64 &&& 63) - 1)) = cn_ (fb_ f) p := by
  have h1 : p = 64 * (p / 64) + p % 64 := by omega
  have h2 : cn_ (fb_ f) p = cn_ (fb_ f) (64 * (p / 64)) + cn_ (fun i => fb_ f (64 * (p / 64) + i)) (p % 64) := by
    conv => lhs; rw [h1]
    rw [cn_add]
  rw [h2, tw64_cn]
  congr 1
  unfold lc_
  have h3 := cn_add (fun i => lb_ (f (p / 64) &&& ((1 : Int64) <<< ((nI (p % 64)).toInt64 &&& 63) - 1)) i) (p % 64) (64 - p % 64)
  rw [show p % 64 + (64 - p % 64) = 64 by omega] at h3
  rw [h3, cn_zero (n := 64 - p % 64) (fun i hi => by rw [lb_and, lb_low (by omega) (by omega), decide_eq_false (by omega), Bool.and_false]), Nat.add_zero]
  refine cn_congr (fun i hi => ?_)
  rw [lb_and, lb_low (by omega) (by omega), decide_eq_true hi, Bool.and_true]
  unfold fb_
  rw [show (64 * (p / 64) + i) / 64 = p / 64 by omega, show (64 * (p / 64) + i) % 64 = i by omega]
set_option maxHeartbeats 4000000 in
set_option maxRecDepth 100000 in
theorem f_totalOfWords (l : Launch) (D : va_G) (h th : Nat) (cI cL cF : ClassId) (I : Nat → Nat → Int32) (J : Nat → Nat → Int64) (sh : Nat → Nat) (fr : Nat) (en : Int32) (o : Nat) (ho : fo_ o = true) (E : Nat) (hE : E ≤ 64) : ki_ l my_F_totalOfWords (Cond.code my_F_totalOfWords bc_F_totalOfWords 4 (some .int) :: tw_) ({ frames := 1, cells := 0, slots := 0, locals := 21 }) D (ty_s cI cL cF) (xw_ h th) (ca_ h) [.ref (h + o), .int (nI E)] (kp_ D h cI cL cF I J sh fr en) (kp_ D h cI cL cF I J sh fr en) (nI (tw64_ (J (o + 1)) E)) := by
  refine aw_met (A := ca_ h) (own := "FamilyShelf$Family") (by decide) rfl rfl (Nat.le_of_ble_eq_true rfl) ?_
  intro p9 e s m args below meth c C hr hX hP0
  refine aw_lw (lw' := [some (.ref (h + o)), some (.int (nI E)), none, none]) rfl ?_
  refine aw_iconst C dc_F_totalOfWords_0 (v := nI 0) rfl ?_
  refine aw_istore_n C dc_F_totalOfWords_1 (by decide) rfl ?_
  refine aw_iconst C dc_F_totalOfWords_2 (v := nI 0) rfl ?_
  refine aw_istore_n C dc_F_totalOfWords_3 (by decide) rfl ?_
  refine aw_loop (fun _ => kp_ D h cI cL cF I J sh fr en) (fun n => [some (.ref (h + o)), some (.int (nI E)), some (.int (nI (tw64_ (J (o + 1)) n))), some (.int (nI n))]) E ?_ (fun n hn ih => ?_)
  · refine aw_iload_n C dc_F_totalOfWords_4 rfl ?_
    refine aw_iload_n C dc_F_totalOfWords_5 rfl ?_
    refine aw_icmp_ge C dc_F_totalOfWords_6 (tgt := 27) (by decide) (fun _ => ?_) (fun h9 => absurd (nI_le (Nat.le_refl _) (by omega)) h9)
    refine aw_iload_n C dc_F_totalOfWords_27 rfl ?_
    exact kc_iret C hr rfl (fun _ h => h) dc_F_totalOfWords_28
  · refine aw_iload_n C dc_F_totalOfWords_4 rfl ?_
    refine aw_iload_n C dc_F_totalOfWords_5 rfl ?_
    refine aw_icmp_ge C dc_F_totalOfWords_6 (tgt := 27) (by decide) (fun h9 => absurd h9 (nI_ge hn (by omega))) (fun _ => ?_)
    refine aw_iload_n C dc_F_totalOfWords_9 rfl ?_
    refine aw_aload_n C dc_F_totalOfWords_10 rfl ?_
    refine aw_get C (fun w h => List.mem_cons_of_mem _ (ly_F w h)) o (sy_fam ho) rfl 0 (by decide) (C.1.2.2.2.2 _ (List.mem_cons_of_mem _ kw_41)) (fun _ h => h) rfl dc_F_totalOfWords_11 ?_
    refine aw_iload_n C dc_F_totalOfWords_14 rfl ?_
    refine aw_lald C (o + 1) 1 (sy_words ho) rfl n rfl (by omega) (by decide) dc_F_totalOfWords_15 ?_
    refine kc_i (fun _ h => h) (fun _ h => h) (kc_S (n := 1) C hX (xw_k ca_le) (j_lbc l D _ _ _ _ (J (o + 1) n)) kw_281 kw_279 kw_280 kw_14 (by unfold kd_; decide) ⟨rfl, rfl, by decide, by decide⟩ rfl rfl (Nat.le_of_ble_eq_true rfl) ⟨Nat.zero_le _, Nat.zero_le _⟩ dc_F_totalOfWords_16) ?_
    refine aw_iadd C dc_F_totalOfWords_19 ?_
    refine aw_eqi (nI_add _ _) ?_
    refine aw_istore_n C dc_F_totalOfWords_20 (by decide) rfl ?_
    refine aw_iinc C dc_F_totalOfWords_21 rfl (ni_inc _) (by decide) rfl ?_
    refine aw_goto C dc_F_totalOfWords_24 (tgt := 4) (by decide) ?_
    exact ih
set_option maxHeartbeats 4000000 in
set_option maxRecDepth 100000 in
theorem f_total (l : Launch) (D : va_G) (h th : Nat) (cI cL cF : ClassId) (I : Nat → Nat → Int32) (J : Nat → Nat → Int64) (sh : Nat → Nat) (fr : Nat) (en : Int32) (o : Nat) (ho : fo_ o = true) : ki_ l my_F_total (Cond.code my_F_total bc_F_total 1 (some .int) :: tw_) ({ frames := 2, cells := 0, slots := 0, locals := 44 }) D (ty_s cI cL cF) (xw_ h th) (ca_ h) [.ref (h + o)] (kp_ D h cI cL cF I J sh fr en) (kp_ D h cI cL cF I J sh fr en) (nI (tw64_ (J (o + 1)) 64)) := by
  refine aw_met (A := ca_ h) (own := "FamilyShelf$Family") (by decide) rfl rfl (Nat.le_of_ble_eq_true rfl) ?_
  intro p9 e s m args below meth c C hr hX hP0
  refine aw_lw (lw' := [some (.ref (h + o))]) rfl ?_
  refine aw_aload_n C dc_F_total_0 rfl ?_
  refine aw_bipush C dc_F_total_1 (v := nI 64) rfl ?_
  refine kc_i (fun _ h => h) (fun _ h => h) (kc_V (n := 1) C hX (xw_k ca_le) rfl o (sy_fam ho) rfl (f_totalOfWords l D h th cI cL cF I J sh fr en o ho 64 (by decide)) kw_278 kw_275 kw_277 (tw_sel (q := (my_F_totalOfWords, 1)) (by decide +kernel)) kw_3 rfl (by unfold kd_; decide) ⟨rfl, rfl, by decide, by decide⟩ rfl rfl (Nat.le_of_ble_eq_true rfl) ⟨Nat.zero_le _, Nat.zero_le _⟩ dc_F_total_3) ?_
  exact kc_iret C hr rfl (fun _ h => h) dc_F_total_6
set_option maxHeartbeats 4000000 in
set_option maxRecDepth 100000 in
theorem f_totalBefore (l : Launch) (D : va_G) (h th : Nat) (cI cL cF : ClassId) (I : Nat → Nat → Int32) (J : Nat → Nat → Int64) (sh : Nat → Nat) (fr : Nat) (en : Int32) (o : Nat) (ho : fo_ o = true) (p : Nat) (hp : p < 4096) : ki_ l my_F_totalBefore (Cond.code my_F_totalBefore bc_F_totalBefore 5 (some .int) :: tw_) ({ frames := 2, cells := 0, slots := 0, locals := 44 }) D (ty_s cI cL cF) (xw_ h th) (ca_ h) [.ref (h + o), .int (nI p)] (kp_ D h cI cL cF I J sh fr en) (kp_ D h cI cL cF I J sh fr en) (nI (cn_ (fb_ (J (o + 1))) p)) := by
  refine aw_met (A := ca_ h) (own := "FamilyShelf$Family") (by decide) rfl rfl (Nat.le_of_ble_eq_true rfl) ?_
  intro p9 e s m args below meth c C hr hX hP0
  refine aw_lw (lw' := [some (.ref (h + o)), some (.int (nI p)), none, none, none]) rfl ?_
  refine aw_lconst C dc_F_totalBefore_0 (v := 1) rfl ?_
  refine aw_iload_n C dc_F_totalBefore_1 rfl ?_
  refine aw_bipush C dc_F_totalBefore_2 (v := nI 63) rfl ?_
  refine aw_iand C dc_F_totalBefore_4 ?_
  refine aw_eqi (np_lo hp) ?_
  refine aw_lshl C dc_F_totalBefore_5 ?_
  refine aw_lconst C dc_F_totalBefore_6 (v := 1) rfl ?_
  refine aw_lsub C dc_F_totalBefore_7 ?_
  refine aw_lstore_n C dc_F_totalBefore_8 (by decide) rfl ?_
  refine aw_iload_n C dc_F_totalBefore_9 rfl ?_
  refine aw_bipush C dc_F_totalBefore_10 (v := nI 6) rfl ?_
  refine aw_ishr C dc_F_totalBefore_12 ?_
  refine aw_eqi (np_hi hp) ?_
  refine aw_istore C dc_F_totalBefore_13 (by decide) rfl ?_
  refine aw_aload_n C dc_F_totalBefore_15 rfl ?_
  refine aw_iload C dc_F_totalBefore_16 rfl ?_
  refine kc_i (fun _ h => h) (fun _ h => h) (kc_V (n := 1) C hX (xw_k ca_le) rfl o (sy_fam ho) rfl (f_totalOfWords l D h th cI cL cF I J sh fr en o ho (p / 64) (by omega)) kw_278 kw_275 kw_277 (tw_sel (q := (my_F_totalOfWords, 1)) (by decide +kernel)) kw_3 rfl (by unfold kd_; decide) ⟨rfl, rfl, by decide, by decide⟩ rfl rfl (Nat.le_of_ble_eq_true rfl) ⟨Nat.zero_le _, Nat.zero_le _⟩ dc_F_totalBefore_18) ?_
  refine aw_aload_n C dc_F_totalBefore_21 rfl ?_
  refine aw_get C (fun w h => List.mem_cons_of_mem _ (ly_F w h)) o (sy_fam ho) rfl 0 (by decide) (C.1.2.2.2.2 _ (List.mem_cons_of_mem _ kw_41)) (fun _ h => h) rfl dc_F_totalBefore_22 ?_
  refine aw_iload C dc_F_totalBefore_25 rfl ?_
  refine aw_lald C (o + 1) 1 (sy_words ho) rfl (p / 64) rfl (by omega) (by decide) dc_F_totalBefore_27 ?_
  refine aw_lload_n C dc_F_totalBefore_28 rfl ?_
  refine aw_land C dc_F_totalBefore_29 ?_
  refine kc_i (fun _ h => h) (fun _ h => h) (kc_S (n := 1) C hX (xw_k ca_le) (j_lbc l D _ _ _ _ _) kw_281 kw_279 kw_280 kw_14 (by unfold kd_; decide) ⟨rfl, rfl, by decide, by decide⟩ rfl rfl (Nat.le_of_ble_eq_true rfl) ⟨Nat.zero_le _, Nat.zero_le _⟩ dc_F_totalBefore_30) ?_
  refine aw_iadd C dc_F_totalBefore_33 ?_
  refine aw_eqi (nI_add _ _) ?_
  exact kc_iret C hr (by rw [tb_eq hp]) (fun _ h => h) dc_F_totalBefore_34
set_option maxHeartbeats 4000000 in
set_option maxRecDepth 100000 in
theorem f_having (l : Launch) (D : va_G) (h th : Nat) (cI cL cF : ClassId) (I : Nat → Nat → Int32) (J : Nat → Nat → Int64) (sh : Nat → Nat) (fr : Nat) (en : Int32) (o : Nat) (ho : fo_ o = true) (w : Nat) (hw : w < 64) (b : Nat) (hb : b < 12) : kl_ l my_F_having (Cond.code my_F_having bc_F_having 3 (some .long) :: tw_) rm0 D (ty_s cI cL cF) (xw_ h th) (ca_ h) [.ref (h + o), .int (nI w), .int (nI b)] (kp_ D h cI cL cF I J sh fr en) (kp_ D h cI cL cF I J sh fr en) (hv_ (J (o + 1)) w b) := by
  refine aw_met (A := ca_ h) (own := "FamilyShelf$Family") (by decide) rfl rfl (Nat.le_of_ble_eq_true rfl) ?_
  intro p9 e s m args below meth c C hr hX hP0
  refine aw_lw (lw' := [some (.ref (h + o)), some (.int (nI w)), some (.int (nI b))]) rfl ?_
  refine aw_iload_n C dc_F_having_0 rfl ?_
  refine aw_bipush C dc_F_having_1 (v := nI 6) rfl ?_
  refine aw_icmp_ge C dc_F_having_3 (tgt := 19) (by decide) (fun hB3 => ?_) (fun hB3 => ?_)
  · have h6 : 6 ≤ b := (nI_leI (by decide) (by omega)).mp hB3
    refine aw_iload_n C dc_F_having_19 rfl ?_
    refine aw_iload_n C dc_F_having_20 rfl ?_
    refine aw_bipush C dc_F_having_21 (v := nI 6) rfl ?_
    refine aw_isub C dc_F_having_23 ?_
    refine aw_eqi (pk_sub h6) ?_
    refine aw_ishr C dc_F_having_24 ?_
    refine aw_iconst C dc_F_having_25 (v := nI 1) rfl ?_
    refine aw_iand C dc_F_having_26 ?_
    refine aw_eqi (ni_tb (by omega) (by omega)) ?_
    refine aw_if_eq C dc_F_having_27 (tgt := 39) (by decide) (fun hB27 => ?_) (fun hB27 => ?_)
    · have hb9 : w.testBit (b - 6) = false := by
        cases h9 : w.testBit (b - 6)
        · rfl
        · rw [h9] at hB27; exact absurd hB27 (by decide)
      refine aw_lconst C dc_F_having_39 (v := 0) rfl ?_
      exact kc_lret C hr (by unfold hv_; rw [if_neg (by omega), hb9]; rfl) (fun _ h => h) dc_F_having_40
    · have hb9 : w.testBit (b - 6) = true := by
        cases h9 : w.testBit (b - 6)
        · rw [h9] at hB27; exact absurd rfl hB27
        · rfl
      refine aw_aload_n C dc_F_having_30 rfl ?_
      refine aw_get C (fun w h => List.mem_cons_of_mem _ (ly_F w h)) o (sy_fam ho) rfl 0 (by decide) (C.1.2.2.2.2 _ (List.mem_cons_of_mem _ kw_41)) (fun _ h => h) rfl dc_F_having_31 ?_
      refine aw_iload_n C dc_F_having_34 rfl ?_
      refine aw_lald C (o + 1) 1 (sy_words ho) rfl w rfl hw (by decide) dc_F_having_35 ?_
      refine aw_goto C dc_F_having_36 (tgt := 40) (by decide) ?_
      exact kc_lret C hr (by unfold hv_; rw [if_neg (by omega), hb9]; rfl) (fun _ h => h) dc_F_having_40
  · have h6 : b < 6 := Nat.lt_of_not_le (fun h9 => hB3 ((nI_leI (by decide) (by omega)).mpr h9))
    refine aw_aload_n C dc_F_having_6 rfl ?_
    refine aw_get C (fun w h => List.mem_cons_of_mem _ (ly_F w h)) o (sy_fam ho) rfl 0 (by decide) (C.1.2.2.2.2 _ (List.mem_cons_of_mem _ kw_41)) (fun _ h => h) rfl dc_F_having_7 ?_
    refine aw_iload_n C dc_F_having_10 rfl ?_
    refine aw_lald C (o + 1) 1 (sy_words ho) rfl w rfl hw (by decide) dc_F_having_11 ?_
    refine aw_getsN C (va_Z.narrow hX.2.1 ca_le) (va_Nw.use rfl (hX.1 (Cond.fieldLinkNest "FamilyShelf$Family" 50 "FamilyShelf" "HAVING" "[J" "FamilyShelf") (by decide +kernel))) (fun _ h => h) dc_F_having_12 ?_
    refine aw_iload_n C dc_F_having_15 rfl ?_
    refine aw_tl C (va_T.narrow hX.2.2 ca_le) b rfl h6 (by decide) rfl dc_F_having_16 ?_
    refine aw_land C dc_F_having_17 ?_
    exact kc_lret C hr (by unfold hv_; rw [if_pos h6]) (fun _ h => h) dc_F_having_18
set_option maxHeartbeats 4000000 in
set_option maxRecDepth 100000 in
theorem f_lacking (l : Launch) (D : va_G) (h th : Nat) (cI cL cF : ClassId) (I : Nat → Nat → Int32) (J : Nat → Nat → Int64) (sh : Nat → Nat) (fr : Nat) (en : Int32) (o : Nat) (ho : fo_ o = true) (w : Nat) (hw : w < 64) (b : Nat) (hb : b < 12) : kl_ l my_F_lacking (Cond.code my_F_lacking bc_F_lacking 3 (some .long) :: tw_) ({ frames := 1, cells := 0, slots := 0, locals := 22 }) D (ty_s cI cL cF) (xw_ h th) (ca_ h) [.ref (h + o), .int (nI w), .int (nI b)] (kp_ D h cI cL cF I J sh fr en) (kp_ D h cI cL cF I J sh fr en) (lk_ (J (o + 1)) w b) := by
  refine aw_met (A := ca_ h) (own := "FamilyShelf$Family") (by decide) rfl rfl (Nat.le_of_ble_eq_true rfl) ?_
  intro p9 e s m args below meth c C hr hX hP0
  refine aw_lw (lw' := [some (.ref (h + o)), some (.int (nI w)), some (.int (nI b))]) rfl ?_
  refine aw_aload_n C dc_F_lacking_0 rfl ?_
  refine aw_get C (fun w h => List.mem_cons_of_mem _ (ly_F w h)) o (sy_fam ho) rfl 0 (by decide) (C.1.2.2.2.2 _ (List.mem_cons_of_mem _ kw_41)) (fun _ h => h) rfl dc_F_lacking_1 ?_
  refine aw_iload_n C dc_F_lacking_4 rfl ?_
  refine aw_lald C (o + 1) 1 (sy_words ho) rfl w rfl hw (by decide) dc_F_lacking_5 ?_
  refine aw_aload_n C dc_F_lacking_6 rfl ?_
  refine aw_iload_n C dc_F_lacking_7 rfl ?_
  refine aw_iload_n C dc_F_lacking_8 rfl ?_
  refine kc_l (fun _ h => h) (fun _ h => h) (kc_V (n := 2) C hX (xw_k ca_le) rfl o (sy_fam ho) rfl (f_having l D h th cI cL cF I J sh fr en o ho w hw b hb) kw_381 kw_378 kw_379 kw_380 kw_3 rfl (by unfold kd_; decide) ⟨rfl, rfl, by decide, by decide⟩ rfl rfl (Nat.le_of_ble_eq_true rfl) ⟨Nat.zero_le _, Nat.zero_le _⟩ dc_F_lacking_9) ?_
  refine aw_ldc2 C (C.1.2.2.2.2 _ (List.mem_cons_of_mem _ kw_263)) dc_F_lacking_12 ?_
  refine aw_lxor C dc_F_lacking_15 ?_
  refine aw_land C dc_F_lacking_16 ?_
  exact kc_lret C hr rfl (fun _ h => h) dc_F_lacking_17
set_option maxHeartbeats 4000000 in
set_option maxRecDepth 100000 in
theorem f_lowered (l : Launch) (D : va_G) (h th : Nat) (cI cL cF : ClassId) (I : Nat → Nat → Int32) (J : Nat → Nat → Int64) (sh : Nat → Nat) (fr : Nat) (en : Int32) (o : Nat) (ho : fo_ o = true) (w : Nat) (hw : w < 64) (b : Nat) (hb : b < 12) : kl_ l my_F_lowered (Cond.code my_F_lowered bc_F_lowered 4 (some .long) :: tw_) ({ frames := 1, cells := 0, slots := 0, locals := 22 }) D (ty_s cI cL cF) (xw_ h th) (ca_ h) [.ref (h + o), .int (nI w), .int (nI b)] (kp_ D h cI cL cF I J sh fr en) (kp_ D h cI cL cF I J sh fr en) (lo_ (J (o + 1)) w b) := by
  refine aw_met (A := ca_ h) (own := "FamilyShelf$Family") (by decide) rfl rfl (Nat.le_of_ble_eq_true rfl) ?_
  intro p9 e s m args below meth c C hr hX hP0
  refine aw_lw (lw' := [some (.ref (h + o)), some (.int (nI w)), some (.int (nI b)), none]) rfl ?_
  refine aw_iload_n C dc_F_lowered_0 rfl ?_
  refine aw_bipush C dc_F_lowered_1 (v := nI 6) rfl ?_
  refine aw_icmp_ge C dc_F_lowered_3 (tgt := 17) (by decide) (fun hB3 => ?_) (fun hB3 => ?_)
  · have h6 : 6 ≤ b := (nI_leI (by decide) (by omega)).mp hB3
    refine aw_iconst C dc_F_lowered_17 (v := nI 1) rfl ?_
    refine aw_iload_n C dc_F_lowered_18 rfl ?_
    refine aw_bipush C dc_F_lowered_19 (v := nI 6) rfl ?_
    refine aw_isub C dc_F_lowered_21 ?_
    refine aw_eqi (pk_sub h6) ?_
    refine aw_ishl C dc_F_lowered_22 ?_
    refine aw_eqi (ni_bit (by omega)) ?_
    refine aw_istore_n C dc_F_lowered_23 (by decide) rfl ?_
    refine aw_iload_n C dc_F_lowered_24 rfl ?_
    refine aw_iload_n C dc_F_lowered_25 rfl ?_
    refine aw_iand C dc_F_lowered_26 ?_
    refine aw_eqi (ni_and _ _) ?_
    refine aw_if_ne C dc_F_lowered_27 (tgt := 41) (by decide) (fun hB27 => ?_) (fun hB27 => ?_)
    · have hb9 : w.testBit (b - 6) = true := by
        cases h9 : w.testBit (b - 6)
        · exact absurd ((ni_z (Nat.lt_of_le_of_lt Nat.and_le_left (by omega))).mpr (np_pow.mpr h9)) hB27
        · rfl
      refine aw_lconst C dc_F_lowered_41 (v := 0) rfl ?_
      exact kc_lret C hr (by unfold lo_; rw [if_neg (by omega), hb9]; rfl) (fun _ h => h) dc_F_lowered_42
    · have hb9 : w.testBit (b - 6) = false := np_pow.mp ((ni_z (Nat.lt_of_le_of_lt Nat.and_le_left (by omega))).mp hB27)
      refine aw_aload_n C dc_F_lowered_30 rfl ?_
      refine aw_get C (fun w h => List.mem_cons_of_mem _ (ly_F w h)) o (sy_fam ho) rfl 0 (by decide) (C.1.2.2.2.2 _ (List.mem_cons_of_mem _ kw_41)) (fun _ h => h) rfl dc_F_lowered_31 ?_
      refine aw_iload_n C dc_F_lowered_34 rfl ?_
      refine aw_iload_n C dc_F_lowered_35 rfl ?_
      refine aw_ior C dc_F_lowered_36 ?_
      refine aw_eqi (ni_or _ _) ?_
      refine aw_lald C (o + 1) 1 (sy_words ho) rfl (w ||| 2 ^ (b - 6)) rfl (wd_or hw (by omega)) (by decide) dc_F_lowered_37 ?_
      refine aw_goto C dc_F_lowered_38 (tgt := 42) (by decide) ?_
      exact kc_lret C hr (by unfold lo_; rw [if_neg (by omega), hb9]; rfl) (fun _ h => h) dc_F_lowered_42
  · have h6 : b < 6 := Nat.lt_of_not_le (fun h9 => hB3 ((nI_leI (by decide) (by omega)).mpr h9))
    refine aw_aload_n C dc_F_lowered_6 rfl ?_
    refine aw_iload_n C dc_F_lowered_7 rfl ?_
    refine aw_iload_n C dc_F_lowered_8 rfl ?_
    refine kc_l (fun _ h => h) (fun _ h => h) (kc_V (n := 2) C hX (xw_k ca_le) rfl o (sy_fam ho) rfl (f_having l D h th cI cL cF I J sh fr en o ho w hw b hb) kw_381 kw_378 kw_379 kw_380 kw_3 rfl (by unfold kd_; decide) ⟨rfl, rfl, by decide, by decide⟩ rfl rfl (Nat.le_of_ble_eq_true rfl) ⟨Nat.zero_le _, Nat.zero_le _⟩ dc_F_lowered_9) ?_
    refine aw_iconst C dc_F_lowered_12 (v := nI 1) rfl ?_
    refine aw_iload_n C dc_F_lowered_13 rfl ?_
    refine aw_ishl C dc_F_lowered_14 ?_
    refine aw_eqi (ni_bit (by omega)) ?_
    refine aw_lushr C dc_F_lowered_15 ?_
    exact kc_lret C hr (by unfold lo_; rw [if_pos h6]) (fun _ h => h) dc_F_lowered_16
set_option maxHeartbeats 4000000 in
set_option maxRecDepth 100000 in
theorem f_raised (l : Launch) (D : va_G) (h th : Nat) (cI cL cF : ClassId) (I : Nat → Nat → Int32) (J : Nat → Nat → Int64) (sh : Nat → Nat) (fr : Nat) (en : Int32) (o : Nat) (ho : fo_ o = true) (w : Nat) (hw : w < 64) (b : Nat) (hb : b < 12) : kl_ l my_F_raised (Cond.code my_F_raised bc_F_raised 4 (some .long) :: tw_) ({ frames := 2, cells := 0, slots := 0, locals := 44 }) D (ty_s cI cL cF) (xw_ h th) (ca_ h) [.ref (h + o), .int (nI w), .int (nI b)] (kp_ D h cI cL cF I J sh fr en) (kp_ D h cI cL cF I J sh fr en) (ra_ (J (o + 1)) w b) := by
  refine aw_met (A := ca_ h) (own := "FamilyShelf$Family") (by decide) rfl rfl (Nat.le_of_ble_eq_true rfl) ?_
  intro p9 e s m args below meth c C hr hX hP0
  refine aw_lw (lw' := [some (.ref (h + o)), some (.int (nI w)), some (.int (nI b)), none]) rfl ?_
  refine aw_iload_n C dc_F_raised_0 rfl ?_
  refine aw_bipush C dc_F_raised_1 (v := nI 6) rfl ?_
  refine aw_icmp_ge C dc_F_raised_3 (tgt := 17) (by decide) (fun hB3 => ?_) (fun hB3 => ?_)
  · have h6 : 6 ≤ b := (nI_leI (by decide) (by omega)).mp hB3
    refine aw_iconst C dc_F_raised_17 (v := nI 1) rfl ?_
    refine aw_iload_n C dc_F_raised_18 rfl ?_
    refine aw_bipush C dc_F_raised_19 (v := nI 6) rfl ?_
    refine aw_isub C dc_F_raised_21 ?_
    refine aw_eqi (pk_sub h6) ?_
    refine aw_ishl C dc_F_raised_22 ?_
    refine aw_eqi (ni_bit (by omega)) ?_
    refine aw_istore_n C dc_F_raised_23 (by decide) rfl ?_
    refine aw_iload_n C dc_F_raised_24 rfl ?_
    refine aw_iload_n C dc_F_raised_25 rfl ?_
    refine aw_iand C dc_F_raised_26 ?_
    refine aw_eqi (ni_and _ _) ?_
    refine aw_if_eq C dc_F_raised_27 (tgt := 41) (by decide) (fun hB27 => ?_) (fun hB27 => ?_)
    · have hb9 : w.testBit (b - 6) = false := np_pow.mp ((ni_z (Nat.lt_of_le_of_lt Nat.and_le_left (by omega))).mp hB27)
      refine aw_lconst C dc_F_raised_41 (v := 0) rfl ?_
      exact kc_lret C hr (by unfold ra_; rw [if_neg (by omega), hb9]; rfl) (fun _ h => h) dc_F_raised_42
    · have hb9 : w.testBit (b - 6) = true := by
        cases h9 : w.testBit (b - 6)
        · exact absurd ((ni_z (Nat.lt_of_le_of_lt Nat.and_le_left (by omega))).mpr (np_pow.mpr h9)) hB27
        · rfl
      refine aw_aload_n C dc_F_raised_30 rfl ?_
      refine aw_get C (fun w h => List.mem_cons_of_mem _ (ly_F w h)) o (sy_fam ho) rfl 0 (by decide) (C.1.2.2.2.2 _ (List.mem_cons_of_mem _ kw_41)) (fun _ h => h) rfl dc_F_raised_31 ?_
      refine aw_iload_n C dc_F_raised_34 rfl ?_
      refine aw_iload_n C dc_F_raised_35 rfl ?_
      refine aw_ixor C dc_F_raised_36 ?_
      refine aw_eqi (ni_xor _ _) ?_
      refine aw_lald C (o + 1) 1 (sy_words ho) rfl (w ^^^ 2 ^ (b - 6)) rfl (wd_xor hw (by omega)) (by decide) dc_F_raised_37 ?_
      refine aw_goto C dc_F_raised_38 (tgt := 42) (by decide) ?_
      exact kc_lret C hr (by unfold ra_; rw [if_neg (by omega), hb9]; rfl) (fun _ h => h) dc_F_raised_42
  · have h6 : b < 6 := Nat.lt_of_not_le (fun h9 => hB3 ((nI_leI (by decide) (by omega)).mpr h9))
    refine aw_aload_n C dc_F_raised_6 rfl ?_
    refine aw_iload_n C dc_F_raised_7 rfl ?_
    refine aw_iload_n C dc_F_raised_8 rfl ?_
    refine kc_l (fun _ h => h) (fun _ h => h) (kc_V (n := 2) C hX (xw_k ca_le) rfl o (sy_fam ho) rfl (f_lacking l D h th cI cL cF I J sh fr en o ho w hw b hb) kw_390 kw_387 kw_388 kw_389 kw_3 rfl (by unfold kd_; decide) ⟨rfl, rfl, by decide, by decide⟩ rfl rfl (Nat.le_of_ble_eq_true rfl) ⟨Nat.zero_le _, Nat.zero_le _⟩ dc_F_raised_9) ?_
    refine aw_iconst C dc_F_raised_12 (v := nI 1) rfl ?_
    refine aw_iload_n C dc_F_raised_13 rfl ?_
    refine aw_ishl C dc_F_raised_14 ?_
    refine aw_eqi (ni_bit (by omega)) ?_
    refine aw_lshl C dc_F_raised_15 ?_
    exact kc_lret C hr (by unfold ra_; rw [if_pos h6]) (fun _ h => h) dc_F_raised_16
set_option maxHeartbeats 4000000 in
set_option maxRecDepth 100000 in
theorem f_moved (l : Launch) (D : va_G) (h th : Nat) (cI cL cF : ClassId) (I : Nat → Nat → Int32) (J : Nat → Nat → Int64) (sh : Nat → Nat) (fr : Nat) (en : Int32) (o : Nat) (ho : fo_ o = true) (w : Nat) (hw : w < 64) (b : Nat) (hb : b < 12) (dn : Bool) : kl_ l my_F_moved (Cond.code my_F_moved bc_F_moved 4 (some .long) :: tw_) ({ frames := 3, cells := 0, slots := 0, locals := 67 }) D (ty_s cI cL cF) (xw_ h th) (ca_ h) [.ref (h + o), .int (nI w), .int (nI b), .int (z1_ dn)] (kp_ D h cI cL cF I J sh fr en) (kp_ D h cI cL cF I J sh fr en) (mv_ (J (o + 1)) w b dn) := by
  refine aw_met (A := ca_ h) (own := "FamilyShelf$Family") (by decide) rfl rfl (Nat.le_of_ble_eq_true rfl) ?_
  intro p9 e s m args below meth c C hr hX hP0
  refine aw_lw (lw' := [some (.ref (h + o)), some (.int (nI w)), some (.int (nI b)), some (.int (z1_ dn))]) rfl ?_
  cases dn
  · refine aw_iload_n C dc_F_moved_0 rfl ?_
    refine aw_if_eq C dc_F_moved_1 (tgt := 13) (by decide) (fun _ => ?_) (fun h9 => absurd (rfl) h9)
    refine aw_aload_n C dc_F_moved_13 rfl ?_
    refine aw_iload_n C dc_F_moved_14 rfl ?_
    refine aw_iload_n C dc_F_moved_15 rfl ?_
    refine kc_l (fun _ h => h) (fun _ h => h) (kc_V (n := 2) C hX (xw_k ca_le) rfl o (sy_fam ho) rfl (f_raised l D h th cI cL cF I J sh fr en o ho w hw b hb) kw_386 kw_383 kw_384 kw_385 kw_3 rfl (by unfold kd_; decide) ⟨rfl, rfl, by decide, by decide⟩ rfl rfl (Nat.le_of_ble_eq_true rfl) ⟨Nat.zero_le _, Nat.zero_le _⟩ dc_F_moved_16) ?_
    exact kc_lret C hr rfl (fun _ h => h) dc_F_moved_19
  · refine aw_iload_n C dc_F_moved_0 rfl ?_
    refine aw_if_eq C dc_F_moved_1 (tgt := 13) (by decide) (fun h9 => absurd h9 (by decide)) (fun _ => ?_)
    refine aw_aload_n C dc_F_moved_4 rfl ?_
    refine aw_iload_n C dc_F_moved_5 rfl ?_
    refine aw_iload_n C dc_F_moved_6 rfl ?_
    refine kc_l (fun _ h => h) (fun _ h => h) (kc_V (n := 2) C hX (xw_k ca_le) rfl o (sy_fam ho) rfl (f_lowered l D h th cI cL cF I J sh fr en o ho w hw b hb) kw_377 kw_374 kw_375 kw_376 kw_3 rfl (by unfold kd_; decide) ⟨rfl, rfl, by decide, by decide⟩ rfl rfl (Nat.le_of_ble_eq_true rfl) ⟨Nat.zero_le _, Nat.zero_le _⟩ dc_F_moved_7) ?_
    refine aw_goto C dc_F_moved_10 (tgt := 19) (by decide) ?_
    exact kc_lret C hr rfl (fun _ h => h) dc_F_moved_19
set_option maxHeartbeats 4000000 in
set_option maxRecDepth 100000 in
theorem f_close (l : Launch) (D : va_G) (h th : Nat) (cI cL cF : ClassId) (I : Nat → Nat → Int32) (J : Nat → Nat → Int64) (sh : Nat → Nat) (fr : Nat) (en : Int32) (o : Nat) (ho : fo_ o = true) (dn : Bool) : kv_ l my_F_close (Cond.code my_F_close bc_F_close 4 none :: tw_) ({ frames := 4, cells := 0, slots := 0, locals := 90 }) D (ty_s cI cL cF) (xw_ h th) (ca_ h) [.ref (h + o), .int (z1_ dn)] (kp_ D h cI cL cF I J sh fr en) (kp_ D h cI cL cF I (va_up J (o + 1) (co_ (J (o + 1)) dn 12)) sh fr en) := by
  refine aw_met (A := ca_ h) (own := "FamilyShelf$Family") (by decide) rfl rfl (Nat.le_of_ble_eq_true rfl) ?_
  intro p9 e s m args below meth c C hr hX hP0
  refine aw_lw (lw' := [some (.ref (h + o)), some (.int (z1_ dn)), none, none]) rfl ?_
  refine aw_iconst C dc_F_close_0 (v := nI 0) rfl ?_
  refine aw_istore_n C dc_F_close_1 (by decide) rfl ?_
  refine aw_P (P' := kp_ D h cI cL cF I (va_up J (o + 1) (co_ (J (o + 1)) dn 0)) sh fr en) (fun H h => by rw [show va_up J (o + 1) (co_ (J (o + 1)) dn 0) = J from va_upid]; exact h) ?_
  refine aw_loop (fun b => kp_ D h cI cL cF I (va_up J (o + 1) (co_ (J (o + 1)) dn b)) sh fr en) (fun b => [some (.ref (h + o)), some (.int (z1_ dn)), some (.int (nI b)), none]) 12 ?_ (fun b hb ih => ?_)
  · refine aw_iload_n C dc_F_close_2 rfl ?_
    refine aw_bipush C dc_F_close_3 (v := nI 12) rfl ?_
    refine aw_icmp_ge C dc_F_close_5 (tgt := 44) (by decide) (fun _ => ?_) (fun h9 => absurd (nI_le (Nat.le_refl _) (by decide)) h9)
    exact kc_vret C hr (fun _ h => h) dc_F_close_44
  · refine aw_iload_n C dc_F_close_2 rfl ?_
    refine aw_bipush C dc_F_close_3 (v := nI 12) rfl ?_
    refine aw_icmp_ge C dc_F_close_5 (tgt := 44) (by decide) (fun h9 => absurd h9 (nI_ge hb (by decide))) (fun _ => ?_)
    refine aw_iconst C dc_F_close_8 (v := nI 0) rfl ?_
    refine aw_istore_n C dc_F_close_9 (by decide) rfl ?_
    refine aw_loop (fun n => kp_ D h cI cL cF I (va_up J (o + 1) (ci_ (co_ (J (o + 1)) dn b) b dn n)) sh fr en) (fun n => [some (.ref (h + o)), some (.int (z1_ dn)), some (.int (nI b)), some (.int (nI n))]) 64 ?_ (fun n hn ih2 => ?_)
    · refine aw_iload_n C dc_F_close_10 rfl ?_
      refine aw_bipush C dc_F_close_11 (v := nI 64) rfl ?_
      refine aw_icmp_ge C dc_F_close_13 (tgt := 38) (by decide) (fun _ => ?_) (fun h9 => absurd (nI_le (Nat.le_refl _) (by decide)) h9)
      refine aw_iinc C dc_F_close_38 rfl (ni_inc _) (by decide) rfl ?_
      refine aw_goto C dc_F_close_41 (tgt := 2) (by decide) ?_
      refine aw_sub (lw' := [some (.ref (h + o)), some (.int (z1_ dn)), some (.int (nI (b + 1))), none]) (by
        intro k v h
        match k, h with
        | 0, h => exact h
        | 1, h => exact h
        | 2, h => exact h
        | 3, h => exact nomatch (show (some none : Option (Option Value)) = some (some v) from h)
        | n + 4, h => exact nomatch (show (none : Option (Option Value)) = some (some v) from h)) ?_
      exact ih
    · refine aw_iload_n C dc_F_close_10 rfl ?_
      refine aw_bipush C dc_F_close_11 (v := nI 64) rfl ?_
      refine aw_icmp_ge C dc_F_close_13 (tgt := 38) (by decide) (fun h9 => absurd h9 (nI_ge hn (by decide))) (fun _ => ?_)
      refine aw_aload_n C dc_F_close_16 rfl ?_
      refine aw_get C (fun w h => List.mem_cons_of_mem _ (ly_F w h)) o (sy_fam ho) rfl 0 (by decide) (C.1.2.2.2.2 _ (List.mem_cons_of_mem _ kw_41)) (fun _ h => h) rfl dc_F_close_17 ?_
      refine aw_iload_n C dc_F_close_20 rfl ?_
      refine aw_dup2_11 C dc_F_close_21 rfl rfl ?_
      refine aw_lald C (o + 1) 1 (sy_words ho) rfl n rfl hn (by decide) dc_F_close_22 ?_
      refine aw_aload_n C dc_F_close_23 rfl ?_
      refine aw_iload_n C dc_F_close_24 rfl ?_
      refine aw_iload_n C dc_F_close_25 rfl ?_
      refine aw_iload_n C dc_F_close_26 rfl ?_
      refine kc_l (fun _ h => h) (fun _ h => h) (kc_V (n := 3) C hX (xw_k ca_le) rfl o (sy_fam ho) rfl (f_moved l D h th cI cL cF I (va_up J (o + 1) (ci_ (co_ (J (o + 1)) dn b) b dn n)) sh fr en o ho n hn b hb dn) kw_373 kw_370 kw_371 kw_372 kw_3 rfl (by unfold kd_; decide) ⟨rfl, rfl, by decide, by decide⟩ rfl rfl (Nat.le_of_ble_eq_true rfl) ⟨Nat.zero_le _, Nat.zero_le _⟩ dc_F_close_27) ?_
      refine aw_lor C dc_F_close_30 ?_
      refine aw_last C sy_D (o + 1) 1 (sy_words ho) rfl n rfl hn (by decide) (ws' := sy_ h cI cL cF I (va_up J (o + 1) (ci_ (co_ (J (o + 1)) dn b) b dn (n + 1))) sh fr en) (by rw [sy_setW ho, bx_uu, va_up_self]; rfl) dc_F_close_31 ?_
      refine aw_iinc C dc_F_close_32 rfl (ni_inc _) (by decide) rfl ?_
      refine aw_goto C dc_F_close_35 (tgt := 10) (by decide) ?_
      exact ih2
set_option maxHeartbeats 4000000 in
set_option maxRecDepth 100000 in
theorem f_fill (l : Launch) (D : va_G) (h th : Nat) (cI cL cF : ClassId) (I : Nat → Nat → Int32) (J : Nat → Nat → Int64) (sh : Nat → Nat) (fr : Nat) (en : Int32) (o : Nat) (ho : fo_ o = true) (x : Int64) : kv_ l my_F_fill (Cond.code my_F_fill bc_F_fill 3 none :: tw_) ({ frames := 1, cells := 0, slots := 0, locals := 24 }) D (ty_s cI cL cF) (xw_ h th) (ca_ h) [.ref (h + o), .long x] (kp_ D h cI cL cF I J sh fr en) (kp_ D h cI cL cF I (va_up J (o + 1) (fl_ (J (o + 1)) 64 x)) sh fr en) := by
  refine aw_met (A := ca_ h) (own := "FamilyShelf$Family") (by decide) rfl rfl (Nat.le_of_ble_eq_true rfl) ?_
  intro p9 e s m args below meth c C hr hX hP0
  refine aw_lw (lw' := [some (.ref (h + o)), some (.long x), none]) rfl ?_
  refine aw_aload_n C dc_F_fill_0 rfl ?_
  refine aw_get C (fun w h => List.mem_cons_of_mem _ (ly_F w h)) o (sy_fam ho) rfl 0 (by decide) (C.1.2.2.2.2 _ (List.mem_cons_of_mem _ kw_41)) (fun _ h => h) rfl dc_F_fill_1 ?_
  refine aw_lload_n C dc_F_fill_4 rfl ?_
  refine kc_v (fun _ h => h) (fun _ h => h) (kc_S (n := 2) C hX (xw_k ca_le) (j_fillL l D _ _ _ _ sy_D (o + 1) 1 _ 64 cL _ (sy_words ho) rfl (by decide) x) kw_291 kw_289 kw_290 kw_15 (by unfold kd_; decide) ⟨rfl, rfl, by decide, by decide⟩ rfl rfl (Nat.le_of_ble_eq_true rfl) ⟨Nat.zero_le _, Nat.zero_le _⟩ dc_F_fill_5) ?_
  exact kc_vret C hr (fun H h => by rw [sy_setW ho] at h; exact h) dc_F_fill_8
set_option maxHeartbeats 4000000 in
set_option maxRecDepth 100000 in
theorem f_copyFrom (l : Launch) (D : va_G) (h th : Nat) (cI cL cF : ClassId) (I : Nat → Nat → Int32) (J : Nat → Nat → Int64) (sh : Nat → Nat) (fr : Nat) (en : Int32) (o : Nat) (ho : fo_ o = true) (o2 : Nat) (ho2 : fo_ o2 = true) : kv_ l my_F_copyFrom (Cond.code my_F_copyFrom bc_F_copyFrom 2 none :: tw_) ({ frames := 1, cells := 0, slots := 0, locals := 60 }) D (ty_s cI cL cF) (xw_ h th) (ca_ h) [.ref (h + o), .ref (h + o2)] (kp_ D h cI cL cF I J sh fr en) (kp_ D h cI cL cF I (va_up J (o + 1) (va_cpy (J (o2 + 1)) (J (o + 1)) 0 0 64)) sh fr en) := by
  refine aw_met (A := ca_ h) (own := "FamilyShelf$Family") (by decide) rfl rfl (Nat.le_of_ble_eq_true rfl) ?_
  intro p9 e s m args below meth c C hr hX hP0
  refine aw_lw (lw' := [some (.ref (h + o)), some (.ref (h + o2))]) rfl ?_
  refine aw_aload_n C dc_F_copyFrom_0 rfl ?_
  refine aw_get C (fun w h => List.mem_cons_of_mem _ (ly_F w h)) o2 (sy_fam ho2) rfl 0 (by decide) (C.1.2.2.2.2 _ (List.mem_cons_of_mem _ kw_41)) (fun _ h => h) rfl dc_F_copyFrom_1 ?_
  refine aw_iconst C dc_F_copyFrom_4 (v := nI 0) rfl ?_
  refine aw_aload_n C dc_F_copyFrom_5 rfl ?_
  refine aw_get C (fun w h => List.mem_cons_of_mem _ (ly_F w h)) o (sy_fam ho) rfl 0 (by decide) (C.1.2.2.2.2 _ (List.mem_cons_of_mem _ kw_41)) (fun _ h => h) rfl dc_F_copyFrom_6 ?_
  refine aw_iconst C dc_F_copyFrom_9 (v := nI 0) rfl ?_
  refine aw_bipush C dc_F_copyFrom_10 (v := nI 64) rfl ?_
  refine aw_copyl C (C.1.2.2.2.2 _ (List.mem_cons_of_mem _ kw_363)) (C.1.2.2.2.2 _ (List.mem_cons_of_mem _ kw_365)) (C.1.2.2.2.2 _ (List.mem_cons_of_mem _ kw_364)) (C.1.2.2.2.2 _ (List.mem_cons_of_mem _ kw_17)) sy_D (o2 + 1) (o + 1) 1 1 (sy_words ho2) (sy_words ho) rfl rfl (Nat.le_refl _) (Nat.le_refl _) (by decide) (by decide) (by decide) (sy_setW ho _) dc_F_copyFrom_12 ?_
  exact kc_vret C hr (fun _ h => h) dc_F_copyFrom_15
