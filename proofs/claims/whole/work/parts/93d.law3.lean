/-! The law's loop. -/
theorem ni_sub5 {L : Nat} (hL : L < 2 ^ 31) : (nI L - nI 5).toInt = (L : Int) - 5 := by
  rw [Int32.toInt_sub, nI_toInt hL, show (nI 5).toInt = 5 by decide]
  have h1 : ((L : Int) - 5).bmod (2 ^ 32) = (L : Int) - 5 := Int.bmod_eq_of_le (by omega) (by omega)
  exact h1
theorem and31 (x : Int32) : ∃ j : Nat, j < 32 ∧ x &&& nI 31 = nI j := ⟨x.toBitVec.toNat % 2 ^ 5, Nat.mod_lt _ (by decide), pk_and x 5 (by decide)⟩
section LAWL
variable {p : Program} {l : Launch} {e : Env} {R : Room} {s : State} {m : MethodId} {args : Array Value} {below : List Frame} {meth : Method} {c : Code} {c0 : Cond} {D : va_G} {h th a o sc L : Nat} {cI cL cF : ClassId} {cells slots : Nat} {Q : State → Prop} {xs : Nat → Int32}
set_option maxHeartbeats 4000000 in
set_option maxRecDepth 100000 in
theorem law_loop (hl : l.stackTraces = false) (C : cx p s m args meth c code 7 (c0 :: tw_) "FamilyShelfLaw" D cl_ (ty_s cI cL cF)) (hX : xq_ h th s) (hS : va_X sc L xs s s.heap) (hp : wp_ h a o) (hh : h = s.heap.size) (hsc : sc < h) (hL : L < 2 ^ 31) (hfr : 42 ≤ R.frames) (hlo : 2100 ≤ R.locals) (hce : cells + L / 5 ≤ R.cells) (hsl : slots + 6 * (L / 5) ≤ R.slots) (kend : aw p l e R s m args below meth c 7 (fun q => h ≤ q) (cells + L / 5) (slots + 6 * (L / 5)) Q (lx_ D h a o cI cL cF) (G_ sc h a o (L / 5)) 1462 []) : aw p l e R s m args below meth c 7 (fun q => h ≤ q) cells slots Q (lx_ D h a o cI cL cF) (G_ sc h a o 0) 23 [] := by
  have hbl : sc < s.heap.size := by rw [← hh]; exact hsc
  have hbA : ¬ h ≤ sc := Nat.not_le.mpr hsc
  have hsub : (nI L - nI 5).toInt = (L : Int) - 5 := ni_sub5 hL
  refine aw_loopC (fun _ => lx_ D h a o cI cL cF) (fun n => G_ sc h a o n) (fun n => cells + n) (fun n => slots + 6 * n) (L / 5) ?_ (fun n hn ih => ?_)
  · refine aw_iload C dc_law_23 rfl ?_
    refine aw_aload_n C dc_law_25 rfl ?_
    refine aw_slen C hS hbl hbA dc_law_26 ?_
    refine aw_iconst C dc_law_27 (v := nI 5) rfl ?_
    refine aw_isub C dc_law_28 ?_
    exact aw_icmp_gt C dc_law_29 (tgt := 1462) (by decide) (fun _ => kend) (fun h9 => absurd (Int32.lt_iff_toInt_lt.mpr (by rw [hsub, nI_toInt (by omega)]; omega)) h9)
  · refine aw_iload C dc_law_23 rfl ?_
    refine aw_aload_n C dc_law_25 rfl ?_
    refine aw_slen C hS hbl hbA dc_law_26 ?_
    refine aw_iconst C dc_law_27 (v := nI 5) rfl ?_
    refine aw_isub C dc_law_28 ?_
    refine aw_icmp_gt C dc_law_29 (tgt := 1462) (by decide) (fun h9 => absurd (Int32.lt_iff_toInt_lt.mp h9) (by rw [hsub, nI_toInt (by omega)]; omega)) (fun _ => ?_)
    refine aw_aload_n C dc_law_32 rfl ?_
    refine aw_iload C dc_law_33 rfl ?_
    refine aw_sld C hS hbl hbA (5 * n) rfl (by omega) hL dc_law_35 ?_
    refine aw_bipush C dc_law_36 (v := nI 31) rfl ?_
    refine aw_iand C dc_law_38 ?_
    have kk : aw p l e R s m args below meth c 7 (fun q => h ≤ q) (cells + n + 1) (slots + 6 * n + 6) Q (lx_ D h a o cI cL cF) (G_ sc h a o n) 1456 [] := by
      refine aw_iinc C dc_law_1456 rfl (show nI (5 * n) + Int32.ofInt 5 = nI (5 * (n + 1)) from nI_add (5 * n) 5) (by decide) rfl ?_
      refine aw_goto C dc_law_1459 (tgt := 23) (by decide) ?_
      exact ih
    obtain ⟨j, hj, hv⟩ := and31 (xs (5 * n))
    refine aw_eqi hv ?_
    by_cases hj2 : 18 < j
    · refine aw_tabOut C dc_law_39 (tgt := 1456) (Or.inr (by rw [nI_toInt (by omega)]; omega)) (by decide) ?_
      exact aw_widen (by omega) (by omega) kk
    · have hc : j = 0 ∨ j = 1 ∨ j = 2 ∨ j = 3 ∨ j = 4 ∨ j = 5 ∨ j = 6 ∨ j = 7 ∨ j = 8 ∨ j = 9 ∨ j = 10 ∨ j = 11 ∨ j = 12 ∨ j = 13 ∨ j = 14 ∨ j = 15 ∨ j = 16 ∨ j = 17 ∨ j = 18 := by omega
      rcases hc with rfl | rfl | rfl | rfl | rfl | rfl | rfl | rfl | rfl | rfl | rfl | rfl | rfl | rfl | rfl | rfl | rfl | rfl | rfl
      · refine aw_tabIn C dc_law_39 (off := 89) (tgt := 128) (by decide) (by decide) rfl (by decide) ?_
        exact aw_exs (fun x => aw_fact (fun hr => law_put hl C hX hS hp hh hsc hL hfr hlo (by omega) (by omega) n (by omega) x hr kk))
      · refine aw_tabIn C dc_law_39 (off := 164) (tgt := 203) (by decide) (by decide) rfl (by decide) ?_
        exact aw_exs (fun x => aw_fact (fun hr => law_take hl C hX hS hp hh hsc hL hfr hlo (by omega) (by omega) n (by omega) x hr kk))
      · refine aw_tabIn C dc_law_39 (off := 239) (tgt := 278) (by decide) (by decide) rfl (by decide) ?_
        exact aw_exs (fun x => aw_fact (fun hr => law_clear hl C hX hS hp hh hsc hL hfr hlo (by omega) (by omega) n (by omega) x hr kk))
      · refine aw_tabIn C dc_law_39 (off := 295) (tgt := 334) (by decide) (by decide) rfl (by decide) ?_
        exact aw_exs (fun x => aw_fact (fun hr => law_combine hl C hX hS hp hh hsc hL hfr hlo (by omega) (by omega) n (by omega) x hr kk))
      · refine aw_tabIn C dc_law_39 (off := 387) (tgt := 426) (by decide) (by decide) rfl (by decide) ?_
        exact aw_exs (fun x => aw_fact (fun hr => law_change hl C hX hS hp hh hsc hL hfr hlo (by omega) (by omega) n (by omega) x hr kk))
      · refine aw_tabIn C dc_law_39 (off := 479) (tgt := 518) (by decide) (by decide) rfl (by decide) ?_
        by_cases hd : xs (5 * n + 3) = 0
        · exact aw_exs (fun x => aw_fact (fun hr => law_extreme0 hl C hX hS hp hh hsc hL hfr hlo (by omega) (by omega) n (by omega) hd x hr kk))
        · exact aw_exs (fun x => aw_fact (fun hr => law_extreme1 hl C hX hS hp hh hsc hL hfr hlo (by omega) (by omega) n (by omega) hd x hr kk))
      · refine aw_tabIn C dc_law_39 (off := 575) (tgt := 614) (by decide) (by decide) rfl (by decide) ?_
        exact aw_exs (fun x => aw_fact (fun hr => law_sized hl C hX hS hp hh hsc hL hfr hlo (by omega) (by omega) n (by omega) x hr kk))
      · refine aw_tabIn C dc_law_39 (off := 655) (tgt := 694) (by decide) (by decide) rfl (by decide) ?_
        exact aw_exs (fun x => aw_fact (fun hr => law_edge hl C hX hS hp hh hsc hL hfr hlo (by omega) (by omega) n (by omega) x hr kk))
      · refine aw_tabIn C dc_law_39 (off := 715) (tgt := 754) (by decide) (by decide) rfl (by decide) ?_
        exact aw_exs (fun x => aw_fact (fun hr => law_cut hl C hX hS hp hh hsc hL hfr hlo (by omega) (by omega) n (by omega) x hr kk))
      · refine aw_tabIn C dc_law_39 (off := 778) (tgt := 817) (by decide) (by decide) rfl (by decide) ?_
        exact aw_exs (fun x => aw_fact (fun hr => law_paths hl C hX hS hp hh hsc hL hfr hlo (by omega) (by omega) n (by omega) x hr kk))
      · refine aw_tabIn C dc_law_39 (off := 858) (tgt := 897) (by decide) (by decide) rfl (by decide) ?_
        exact aw_exs (fun x => aw_fact (fun hr => law_matchings hl C hX hS hp hh hsc hL hfr hlo (by omega) (by omega) n (by omega) x hr kk))
      · refine aw_tabIn C dc_law_39 (off := 914) (tgt := 953) (by decide) (by decide) rfl (by decide) ?_
        exact aw_exs (fun x => aw_fact (fun hr => law_weight hl C hX hS hp hh hsc hL hfr hlo (by omega) (by omega) n (by omega) x hr kk))
      · refine aw_tabIn C dc_law_39 (off := 982) (tgt := 1021) (by decide) (by decide) rfl (by decide) ?_
        exact aw_exs (fun x => aw_fact (fun hr => law_count hl C hX hS hp hh hsc hL hfr hlo (by omega) (by omega) n (by omega) x hr kk))
      · refine aw_tabIn C dc_law_39 (off := 1038) (tgt := 1077) (by decide) (by decide) rfl (by decide) ?_
        exact aw_exs (fun x => aw_fact (fun hr => law_has hl C hX hS hp hh hsc hL hfr hlo (by omega) (by omega) n (by omega) x hr kk))
      · refine aw_tabIn C dc_law_39 (off := 1113) (tgt := 1152) (by decide) (by decide) rfl (by decide) ?_
        exact aw_exs (fun x => aw_fact (fun hr => law_nth hl C hX hS hp hh hsc hL hfr hlo (by omega) (by omega) n (by omega) x hr kk))
      · refine aw_tabIn C dc_law_39 (off := 1181) (tgt := 1220) (by decide) (by decide) rfl (by decide) ?_
        exact aw_exs (fun x => aw_fact (fun hr => law_rank hl C hX hS hp hh hsc hL hfr hlo (by omega) (by omega) n (by omega) x hr kk))
      · refine aw_tabIn C dc_law_39 (off := 1249) (tgt := 1288) (by decide) (by decide) rfl (by decide) ?_
        exact aw_exs (fun x => aw_fact (fun hr => law_heaviest hl C hX hS hp hh hsc hL hfr hlo (by omega) (by omega) n (by omega) x hr kk))
      · refine aw_tabIn C dc_law_39 (off := 1305) (tgt := 1344) (by decide) (by decide) rfl (by decide) ?_
        exact aw_exs (fun x => aw_fact (fun hr => law_size hl C hX hS hp hh hsc hL hfr hlo (by omega) (by omega) n (by omega) x hr kk))
      · refine aw_tabIn C dc_law_39 (off := 1361) (tgt := 1400) (by decide) (by decide) rfl (by decide) ?_
        exact aw_exs (fun x => aw_fact (fun hr => law_parts hl C hX hS hp hh hsc hL hfr hlo (by omega) (by omega) n (by omega) x hr kk))
end LAWL
