set_option maxHeartbeats 4000000 in
set_option maxRecDepth 100000 in
theorem m_makeRemainder (l : Launch) (D : va_G) (a : Nat) (cI cL cF : ClassId) (t : Int32) (S K Qt : Nat → Int64) (O1 O2 En Ot Wt : Nat → Int32) (f9 : Nat) (hf : f9 < 10) (g9 : Nat) (hg : g9 < 10) : kv_ l my_M_makeRemainder (Cond.code my_M_makeRemainder bc_M_makeRemainder 8 none :: tw_) ({ frames := 2, cells := 0, slots := 0, locals := 48 }) D (ty_s cI cL cF) (fun _ => True) (cm_ a) [.ref a, .int (nI f9), .int (nI g9)] (rp_ D a cI cL t S K Qt O1 O2 En Ot Wt) (rp_ D a cI cL t S (ro_ (fb_ (fw_ (mkl_ K (qo_ (fb_ (rw_ S f9)) (fb_ (rw_ S g9)) (al_ (fb_ (rw_ S g9)) 4096)) (fun p => p) 4096) Qt 64)) (fb_ (rw_ S g9)) (al_ (fb_ (rw_ S g9)) 4096) (fw_ (rw_ S f9) (mkl_ K (qo_ (fb_ (rw_ S f9)) (fb_ (rw_ S g9)) (al_ (fb_ (rw_ S g9)) 4096)) (fun p => p) 4096) 64) 4096) (fw_ (mkl_ K (qo_ (fb_ (rw_ S f9)) (fb_ (rw_ S g9)) (al_ (fb_ (rw_ S g9)) 4096)) (fun p => p) 4096) Qt 64) O1 O2 En Ot Wt) := by
  refine aw_met (A := cm_ a) (own := "FamilyShelfModel") (by decide) rfl rfl (Nat.le_of_ble_eq_true rfl) ?_
  intro p9 e s m args below meth c C hr hX hP0
  refine aw_lw (lw' := [some (.ref a), some (.int (nI f9)), some (.int (nI g9)), none, none, none, none, none]) rfl ?_
  refine aw_aload_n C dc_M_makeRemainder_0 rfl ?_
  refine aw_iload_n C dc_M_makeRemainder_1 rfl ?_
  refine aw_iload_n C dc_M_makeRemainder_2 rfl ?_
  refine kc_v (fun _ h => h) (fun _ h => h) (kc_V (n := 2) C hX xk_true rfl 0 rf_p0 rfl (m_makeQuotient l D a cI cL cF t S K Qt O1 O2 En Ot Wt f9 hf g9 hg) kw_734 kw_731 kw_733 (tw_sel (q := (my_M_makeQuotient, 9)) (by decide +kernel)) kw_8 rfl (by unfold kd_; decide) ⟨rfl, rfl, by decide, by decide⟩ rfl rfl (Nat.le_of_ble_eq_true rfl) ⟨Nat.zero_le _, Nat.zero_le _⟩ dc_M_makeRemainder_3) ?_
  refine aw_iconst C dc_M_makeRemainder_6 (v := nI 0) rfl ?_
  refine aw_istore_n C dc_M_makeRemainder_7 (by decide) rfl ?_
  have hal : (al_ (fb_ (rw_ S g9)) 4096) < 4096 := al_lt _ (Nat.le_refl _)
  refine aw_P (P' := rp_ D a cI cL t S (fw_ (rw_ S f9) (mkl_ K (qo_ (fb_ (rw_ S f9)) (fb_ (rw_ S g9)) (al_ (fb_ (rw_ S g9)) 4096)) (fun p => p) 4096) 0) (fw_ (mkl_ K (qo_ (fb_ (rw_ S f9)) (fb_ (rw_ S g9)) (al_ (fb_ (rw_ S g9)) 4096)) (fun p => p) 4096) Qt 0) O1 O2 En Ot Wt) (fun H h => by rw [fw_0, fw_0]; exact h) ?_
  refine aw_loop (fun k => rp_ D a cI cL t S (fw_ (rw_ S f9) (mkl_ K (qo_ (fb_ (rw_ S f9)) (fb_ (rw_ S g9)) (al_ (fb_ (rw_ S g9)) 4096)) (fun p => p) 4096) k) (fw_ (mkl_ K (qo_ (fb_ (rw_ S f9)) (fb_ (rw_ S g9)) (al_ (fb_ (rw_ S g9)) 4096)) (fun p => p) 4096) Qt k) O1 O2 En Ot Wt) (fun k => [some (.ref a), some (.int (nI f9)), some (.int (nI g9)), some (.int (nI k)), none, none, none, none]) 64 ?_ (fun k hk ih => ?_)
  · refine aw_iload_n C dc_M_makeRemainder_8 rfl ?_
    refine aw_bipush C dc_M_makeRemainder_9 (v := nI 64) rfl ?_
    refine aw_icmp_ge C dc_M_makeRemainder_11 (tgt := 49) (by decide) (fun _ => ?_) (fun h9 => absurd (nI_le (Nat.le_refl _) (by decide)) h9)
    refine aw_iconst C dc_M_makeRemainder_49 (v := nI 0) rfl ?_
    refine aw_istore_n C dc_M_makeRemainder_50 (by decide) rfl ?_
    refine aw_iconst C dc_M_makeRemainder_51 (v := nI 0) rfl ?_
    refine aw_istore C dc_M_makeRemainder_52 (by decide) rfl ?_
    refine aw_loop (fun k => rp_ D a cI cL t S (fw_ (rw_ S f9) (mkl_ K (qo_ (fb_ (rw_ S f9)) (fb_ (rw_ S g9)) (al_ (fb_ (rw_ S g9)) 4096)) (fun p => p) 4096) 64) (fw_ (mkl_ K (qo_ (fb_ (rw_ S f9)) (fb_ (rw_ S g9)) (al_ (fb_ (rw_ S g9)) 4096)) (fun p => p) 4096) Qt 64) O1 O2 En Ot Wt) (fun k => [some (.ref a), some (.int (nI f9)), some (.int (nI g9)), some (.int (nI (al_ (fb_ (rw_ S g9)) k))), some (.int (nI k)), none, none, none]) 4096 ?_ (fun k hk ih => ?_)
    · refine aw_iload C dc_M_makeRemainder_54 rfl ?_
      refine aw_sipush C dc_M_makeRemainder_56 (v := nI 4096) rfl ?_
      refine aw_icmp_ge C dc_M_makeRemainder_59 (tgt := 87) (by decide) (fun _ => ?_) (fun h9 => absurd (nI_le (Nat.le_refl _) (by decide)) h9)
      refine aw_iconst C dc_M_makeRemainder_87 (v := nI 0) rfl ?_
      refine aw_istore C dc_M_makeRemainder_88 (by decide) rfl ?_
      refine aw_loop (fun k => rp_ D a cI cL t S (ro_ (fb_ (fw_ (mkl_ K (qo_ (fb_ (rw_ S f9)) (fb_ (rw_ S g9)) (al_ (fb_ (rw_ S g9)) 4096)) (fun p => p) 4096) Qt 64)) (fb_ (rw_ S g9)) (al_ (fb_ (rw_ S g9)) 4096) (fw_ (rw_ S f9) (mkl_ K (qo_ (fb_ (rw_ S f9)) (fb_ (rw_ S g9)) (al_ (fb_ (rw_ S g9)) 4096)) (fun p => p) 4096) 64) k) (fw_ (mkl_ K (qo_ (fb_ (rw_ S f9)) (fb_ (rw_ S g9)) (al_ (fb_ (rw_ S g9)) 4096)) (fun p => p) 4096) Qt 64) O1 O2 En Ot Wt) (fun k => [some (.ref a), some (.int (nI f9)), some (.int (nI g9)), some (.int (nI (al_ (fb_ (rw_ S g9)) 4096))), some (.int (nI k)), none, none, none]) 4096 ?_ (fun k hk ih => ?_)
      · refine aw_iload C dc_M_makeRemainder_90 rfl ?_
        refine aw_sipush C dc_M_makeRemainder_92 (v := nI 4096) rfl ?_
        refine aw_icmp_ge C dc_M_makeRemainder_95 (tgt := 216) (by decide) (fun _ => ?_) (fun h9 => absurd (nI_le (Nat.le_refl _) (by decide)) h9)
        exact kc_vret C hr (fun _ h => h) dc_M_makeRemainder_216
      · refine aw_iload C dc_M_makeRemainder_90 rfl ?_
        refine aw_sipush C dc_M_makeRemainder_92 (v := nI 4096) rfl ?_
        refine aw_icmp_ge C dc_M_makeRemainder_95 (tgt := 216) (by decide) (fun h9 => absurd h9 (nI_ge hk (by decide))) (fun _ => ?_)
        refine aw_aload_n C dc_M_makeRemainder_98 rfl ?_
        refine aw_get C (fun w h => List.mem_cons_of_mem _ (ly_M w h)) 0 rf_p0 rfl 3 (by decide) (C.1.2.2.2.2 _ (List.mem_cons_of_mem _ kw_639)) (fun _ h => h) rfl dc_M_makeRemainder_99 ?_
        refine aw_iload C dc_M_makeRemainder_102 rfl ?_
        refine aw_bipush C dc_M_makeRemainder_104 (v := nI 64) rfl ?_
        refine aw_idiv C dc_M_makeRemainder_106 (by decide) ?_
        refine aw_lald C 3 1 rf_p3 rfl (k / 64) (ms_dv hk) (by omega) (by decide) dc_M_makeRemainder_107 ?_
        refine aw_iload C dc_M_makeRemainder_108 rfl ?_
        refine aw_bipush C dc_M_makeRemainder_110 (v := nI 64) rfl ?_
        refine aw_irem C dc_M_makeRemainder_112 (by decide) ?_
        refine aw_eqi (ms_rm hk) ?_
        refine aw_lshr C dc_M_makeRemainder_113 ?_
        refine aw_lconst C dc_M_makeRemainder_114 (v := 1) rfl ?_
        refine aw_land C dc_M_makeRemainder_115 ?_
        refine aw_lconst C dc_M_makeRemainder_116 (v := 1) rfl ?_
        refine aw_lcmp C dc_M_makeRemainder_117 ?_
        refine aw_if_ne C dc_M_makeRemainder_118 (tgt := 125) (by decide) (fun hB118 => ?_) (fun hB118 => ?_)
        · have hq : fb_ (fw_ (mkl_ K (qo_ (fb_ (rw_ S f9)) (fb_ (rw_ S g9)) (al_ (fb_ (rw_ S g9)) 4096)) (fun p => p) 4096) Qt 64) k = false := by
            cases h9 : fb_ (fw_ (mkl_ K (qo_ (fb_ (rw_ S f9)) (fb_ (rw_ S g9)) (al_ (fb_ (rw_ S g9)) 4096)) (fun p => p) 4096) Qt 64) k
            · rfl
            · exact absurd ((lb_sarT _ (by omega)).mpr h9) hB118
          rw [ro_f (n := k) hq] at ih
          refine aw_iconst C dc_M_makeRemainder_125 (v := nI 0) rfl ?_
          refine aw_istore C dc_M_makeRemainder_126 (by decide) rfl ?_
          refine aw_iload_n C dc_M_makeRemainder_128 rfl ?_
          refine aw_istore C dc_M_makeRemainder_129 (by decide) rfl ?_
          refine aw_iload C dc_M_makeRemainder_131 rfl ?_
          refine aw_if_eq C dc_M_makeRemainder_133 (tgt := 210) (by decide) (fun _ => ?_) (fun h9 => absurd (by decide) h9)
          refine aw_iinc C dc_M_makeRemainder_210 rfl (ni_inc _) (by decide) rfl ?_
          refine aw_goto C dc_M_makeRemainder_213 (tgt := 90) (by decide) ?_
          refine aw_sub (lw' := [some (.ref a), some (.int (nI f9)), some (.int (nI g9)), some (.int (nI (al_ (fb_ (rw_ S g9)) 4096))), some (.int (nI (k + 1))), none, none, none]) (by
            intro k v h
            match k, h with
            | 0, h => exact h
            | 1, h => exact h
            | 2, h => exact h
            | 3, h => exact h
            | 4, h => exact h
            | 5, h => exact nomatch (show (some none : Option (Option Value)) = some (some v) from h)
            | 6, h => exact nomatch (show (some none : Option (Option Value)) = some (some v) from h)
            | 7, h => exact nomatch (show (some none : Option (Option Value)) = some (some v) from h)
            | n + 8, h => exact nomatch (show (none : Option (Option Value)) = some (some v) from h)) ?_
          exact ih
        · have hq : fb_ (fw_ (mkl_ K (qo_ (fb_ (rw_ S f9)) (fb_ (rw_ S g9)) (al_ (fb_ (rw_ S g9)) 4096)) (fun p => p) 4096) Qt 64) k = true := (lb_sarT _ (by omega)).mp hB118
          rw [ro_t (n := k) hq] at ih
          refine aw_iconst C dc_M_makeRemainder_121 (v := nI 1) rfl ?_
          refine aw_goto C dc_M_makeRemainder_122 (tgt := 126) (by decide) ?_
          refine aw_istore C dc_M_makeRemainder_126 (by decide) rfl ?_
          refine aw_iload_n C dc_M_makeRemainder_128 rfl ?_
          refine aw_istore C dc_M_makeRemainder_129 (by decide) rfl ?_
          refine aw_fuel (pc2 := 210) (fun x : Nat × (Nat → Int64) => x.1 < 4096) (fun x => x.1) (fun x => rp_ D a cI cL t S x.2 (fw_ (mkl_ K (qo_ (fb_ (rw_ S f9)) (fb_ (rw_ S g9)) (al_ (fb_ (rw_ S g9)) 4096)) (fun p => p) 4096) Qt 64) O1 O2 En Ot Wt) (fun x => [some (.ref a), some (.int (nI f9)), some (.int (nI g9)), some (.int (nI (al_ (fb_ (rw_ S g9)) 4096))), some (.int (nI k)), some (.int (nI 1)), some (.int (nI x.1)), none]) (fun n x => rp_ D a cI cL t S (sr_ (fb_ (rw_ S g9)) k (al_ (fb_ (rw_ S g9)) 4096) n x.1 x.2) (fw_ (mkl_ K (qo_ (fb_ (rw_ S f9)) (fb_ (rw_ S g9)) (al_ (fb_ (rw_ S g9)) 4096)) (fun p => p) 4096) Qt 64) O1 O2 En Ot Wt) (fun n x => [some (.ref a), some (.int (nI f9)), some (.int (nI g9)), some (.int (nI (al_ (fb_ (rw_ S g9)) 4096))), some (.int (nI k)), none, none, none]) 4096 ((al_ (fb_ (rw_ S g9)) 4096), (ro_ (fb_ (fw_ (mkl_ K (qo_ (fb_ (rw_ S f9)) (fb_ (rw_ S g9)) (al_ (fb_ (rw_ S g9)) 4096)) (fun p => p) 4096) Qt 64)) (fb_ (rw_ S g9)) (al_ (fb_ (rw_ S g9)) 4096) (fw_ (rw_ S f9) (mkl_ K (qo_ (fb_ (rw_ S f9)) (fb_ (rw_ S g9)) (al_ (fb_ (rw_ S g9)) 4096)) (fun p => p) 4096) 64) k)) hal hal ?_ (fun n x hV hx hk2 hE => ?_)
          · refine aw_iinc C dc_M_makeRemainder_210 rfl (ni_inc _) (by decide) rfl ?_
            refine aw_goto C dc_M_makeRemainder_213 (tgt := 90) (by decide) ?_
            exact ih
          · obtain ⟨b, K9⟩ := x
            have hb4 : b < 4096 := hV
            have hb : b < n + 1 := hx
            have hp9 : k ||| b < 4096 := or12 hk hb4
            refine aw_iload C dc_M_makeRemainder_131 rfl ?_
            refine aw_if_eq C dc_M_makeRemainder_133 (tgt := 210) (by decide) (fun h9 => absurd h9 (by decide)) (fun _ => ?_)
            refine aw_iload C dc_M_makeRemainder_136 rfl ?_
            refine aw_if_lt C dc_M_makeRemainder_138 (tgt := 210) (by decide) (fun h9 => absurd h9 (nI_pos (by omega))) (fun _ => ?_)
            refine aw_iload C dc_M_makeRemainder_141 rfl ?_
            refine aw_iload C dc_M_makeRemainder_143 rfl ?_
            refine aw_ior C dc_M_makeRemainder_145 ?_
            refine aw_eqi (ni_or _ _) ?_
            refine aw_istore C dc_M_makeRemainder_146 (by decide) rfl ?_
            refine aw_aload_n C dc_M_makeRemainder_148 rfl ?_
            refine aw_iload_n C dc_M_makeRemainder_149 rfl ?_
            refine aw_iload C dc_M_makeRemainder_150 rfl ?_
            refine kc_i (fun _ h => h) (fun _ h => h) (kc_V (n := 2) C hX xk_true rfl 0 rf_p0 rfl (m_isIn l D a cI cL cF t S K9 (fw_ (mkl_ K (qo_ (fb_ (rw_ S f9)) (fb_ (rw_ S g9)) (al_ (fb_ (rw_ S g9)) 4096)) (fun p => p) 4096) Qt 64) O1 O2 En Ot Wt g9 hg b hb4) kw_684 kw_681 kw_683 (tw_sel (q := (my_M_isIn, 9)) (by decide +kernel)) kw_8 rfl (by unfold kd_; decide) ⟨rfl, rfl, by decide, by decide⟩ rfl rfl (Nat.le_of_ble_eq_true rfl) ⟨Nat.zero_le _, Nat.zero_le _⟩ dc_M_makeRemainder_152) ?_
            refine aw_if_eq C dc_M_makeRemainder_155 (tgt := 190) (by decide) (fun hB155 => ?_) (fun hB155 => ?_)
            · have hgb : (fb_ (rw_ S g9)) b = false := z1_0.mp hB155
              refine aw_iload C dc_M_makeRemainder_190 rfl ?_
              refine aw_if_ne C dc_M_makeRemainder_192 (tgt := 199) (by decide) (fun hB192 => ?_) (fun hB192 => ?_)
              · have hb0 : ¬ b = 0 := fun h9 => hB192 (by rw [h9]; rfl)
                have e9 : sr_ (fb_ (rw_ S g9)) k (al_ (fb_ (rw_ S g9)) 4096) (n + 1) b K9 = sr_ (fb_ (rw_ S g9)) k (al_ (fb_ (rw_ S g9)) 4096) n ((b - 1) &&& (al_ (fb_ (rw_ S g9)) 4096)) K9 := sr_nf hgb hb0
                rw [e9] at hE
                refine aw_iload C dc_M_makeRemainder_199 rfl ?_
                refine aw_iconst C dc_M_makeRemainder_201 (v := nI 1) rfl ?_
                refine aw_isub C dc_M_makeRemainder_202 ?_
                refine aw_eqi (ni_sub (b := 1) (by omega)) ?_
                refine aw_iload_n C dc_M_makeRemainder_203 rfl ?_
                refine aw_iand C dc_M_makeRemainder_204 ?_
                refine aw_eqi (ni_and _ _) ?_
                refine aw_istore C dc_M_makeRemainder_205 (by decide) rfl ?_
                refine aw_goto C dc_M_makeRemainder_207 (tgt := 131) (by decide) ?_
                refine aw_sub (lw' := [some (.ref a), some (.int (nI f9)), some (.int (nI g9)), some (.int (nI (al_ (fb_ (rw_ S g9)) 4096))), some (.int (nI k)), some (.int (nI 1)), some (.int (nI ((b - 1) &&& (al_ (fb_ (rw_ S g9)) 4096)))), none]) (by
                  intro k v h
                  match k, h with
                  | 0, h => exact h
                  | 1, h => exact h
                  | 2, h => exact h
                  | 3, h => exact h
                  | 4, h => exact h
                  | 5, h => exact h
                  | 6, h => exact h
                  | 7, h => exact nomatch (show (some none : Option (Option Value)) = some (some v) from h)
                  | n + 8, h => exact nomatch (show (none : Option (Option Value)) = some (some v) from h)) ?_
                exact hk2 ((b - 1) &&& (al_ (fb_ (rw_ S g9)) 4096), K9) (by have := sm_lt (all := (al_ (fb_ (rw_ S g9)) 4096)) hb0; show (b - 1) &&& (al_ (fb_ (rw_ S g9)) 4096) < 4096; omega) (by have := sm_lt (all := (al_ (fb_ (rw_ S g9)) 4096)) hb0; show (b - 1) &&& (al_ (fb_ (rw_ S g9)) 4096) < n; omega) hE
              · have hb0 : b = 0 := (ni_z (by omega)).mp hB192
                have e9 : sr_ (fb_ (rw_ S g9)) k (al_ (fb_ (rw_ S g9)) 4096) (n + 1) b K9 = K9 := sr_0f hgb hb0
                rw [e9] at hE
                refine aw_iconst C dc_M_makeRemainder_195 (v := (-1)) rfl ?_
                refine aw_goto C dc_M_makeRemainder_196 (tgt := 205) (by decide) ?_
                refine aw_istore C dc_M_makeRemainder_205 (by decide) rfl ?_
                refine aw_goto C dc_M_makeRemainder_207 (tgt := 131) (by decide) ?_
                refine aw_iload C dc_M_makeRemainder_131 rfl ?_
                refine aw_if_eq C dc_M_makeRemainder_133 (tgt := 210) (by decide) (fun h9 => absurd h9 (by decide)) (fun _ => ?_)
                refine aw_iload C dc_M_makeRemainder_136 rfl ?_
                refine aw_if_lt C dc_M_makeRemainder_138 (tgt := 210) (by decide) (fun _ => ?_) (fun h9 => absurd (by decide) h9)
                refine aw_sub (lw' := [some (.ref a), some (.int (nI f9)), some (.int (nI g9)), some (.int (nI (al_ (fb_ (rw_ S g9)) 4096))), some (.int (nI k)), none, none, none]) (by
                  intro k v h
                  match k, h with
                  | 0, h => exact h
                  | 1, h => exact h
                  | 2, h => exact h
                  | 3, h => exact h
                  | 4, h => exact h
                  | 5, h => exact nomatch (show (some none : Option (Option Value)) = some (some v) from h)
                  | 6, h => exact nomatch (show (some none : Option (Option Value)) = some (some v) from h)
                  | 7, h => exact nomatch (show (some none : Option (Option Value)) = some (some v) from h)
                  | n + 8, h => exact nomatch (show (none : Option (Option Value)) = some (some v) from h)) ?_
                exact hE
            · have hgb : (fb_ (rw_ S g9)) b = true := z1_n.mp hB155
              refine aw_aload_n C dc_M_makeRemainder_158 rfl ?_
              refine aw_get C (fun w h => List.mem_cons_of_mem _ (ly_M w h)) 0 rf_p0 rfl 2 (by decide) (C.1.2.2.2.2 _ (List.mem_cons_of_mem _ kw_638)) (fun _ h => h) rfl dc_M_makeRemainder_159 ?_
              refine aw_iload C dc_M_makeRemainder_162 rfl ?_
              refine aw_bipush C dc_M_makeRemainder_164 (v := nI 64) rfl ?_
              refine aw_idiv C dc_M_makeRemainder_166 (by decide) ?_
              refine aw_aload_n C dc_M_makeRemainder_167 rfl ?_
              refine aw_get C (fun w h => List.mem_cons_of_mem _ (ly_M w h)) 0 rf_p0 rfl 2 (by decide) (C.1.2.2.2.2 _ (List.mem_cons_of_mem _ kw_638)) (fun _ h => h) rfl dc_M_makeRemainder_168 ?_
              refine aw_iload C dc_M_makeRemainder_171 rfl ?_
              refine aw_bipush C dc_M_makeRemainder_173 (v := nI 64) rfl ?_
              refine aw_idiv C dc_M_makeRemainder_175 (by decide) ?_
              refine aw_lald C 2 1 rf_p2 rfl ((k ||| b) / 64) (ms_dv hp9) (by omega) (by decide) dc_M_makeRemainder_176 ?_
              refine aw_lconst C dc_M_makeRemainder_177 (v := 1) rfl ?_
              refine aw_iload C dc_M_makeRemainder_178 rfl ?_
              refine aw_bipush C dc_M_makeRemainder_180 (v := nI 64) rfl ?_
              refine aw_irem C dc_M_makeRemainder_182 (by decide) ?_
              refine aw_eqi (ms_rm hp9) ?_
              refine aw_lshl C dc_M_makeRemainder_183 ?_
              refine aw_ldc2 C (C.1.2.2.2.2 _ (List.mem_cons_of_mem _ kw_689)) dc_M_makeRemainder_184 ?_
              refine aw_lxor C dc_M_makeRemainder_187 ?_
              refine aw_land C dc_M_makeRemainder_188 ?_
              refine aw_last C rf_D 2 1 rf_p2 rfl ((k ||| b) / 64) (ms_dv hp9) (by omega) (by decide) (ws' := rf_ a cI cL t S (un_ K9 (k ||| b)) (fw_ (mkl_ K (qo_ (fb_ (rw_ S f9)) (fb_ (rw_ S g9)) (al_ (fb_ (rw_ S g9)) 4096)) (fun p => p) 4096) Qt 64) O1 O2 En Ot Wt) (rfl) dc_M_makeRemainder_189 ?_
              refine aw_iload C dc_M_makeRemainder_190 rfl ?_
              refine aw_if_ne C dc_M_makeRemainder_192 (tgt := 199) (by decide) (fun hB192 => ?_) (fun hB192 => ?_)
              · have hb0 : ¬ b = 0 := fun h9 => hB192 (by rw [h9]; rfl)
                have e9 : sr_ (fb_ (rw_ S g9)) k (al_ (fb_ (rw_ S g9)) 4096) (n + 1) b K9 = sr_ (fb_ (rw_ S g9)) k (al_ (fb_ (rw_ S g9)) 4096) n ((b - 1) &&& (al_ (fb_ (rw_ S g9)) 4096)) (un_ K9 (k ||| b)) := sr_nt hgb hb0
                rw [e9] at hE
                refine aw_iload C dc_M_makeRemainder_199 rfl ?_
                refine aw_iconst C dc_M_makeRemainder_201 (v := nI 1) rfl ?_
                refine aw_isub C dc_M_makeRemainder_202 ?_
                refine aw_eqi (ni_sub (b := 1) (by omega)) ?_
                refine aw_iload_n C dc_M_makeRemainder_203 rfl ?_
                refine aw_iand C dc_M_makeRemainder_204 ?_
                refine aw_eqi (ni_and _ _) ?_
                refine aw_istore C dc_M_makeRemainder_205 (by decide) rfl ?_
                refine aw_goto C dc_M_makeRemainder_207 (tgt := 131) (by decide) ?_
                refine aw_sub (lw' := [some (.ref a), some (.int (nI f9)), some (.int (nI g9)), some (.int (nI (al_ (fb_ (rw_ S g9)) 4096))), some (.int (nI k)), some (.int (nI 1)), some (.int (nI ((b - 1) &&& (al_ (fb_ (rw_ S g9)) 4096)))), none]) (by
                  intro k v h
                  match k, h with
                  | 0, h => exact h
                  | 1, h => exact h
                  | 2, h => exact h
                  | 3, h => exact h
                  | 4, h => exact h
                  | 5, h => exact h
                  | 6, h => exact h
                  | 7, h => exact nomatch (show (some none : Option (Option Value)) = some (some v) from h)
                  | n + 8, h => exact nomatch (show (none : Option (Option Value)) = some (some v) from h)) ?_
                exact hk2 ((b - 1) &&& (al_ (fb_ (rw_ S g9)) 4096), (un_ K9 (k ||| b))) (by have := sm_lt (all := (al_ (fb_ (rw_ S g9)) 4096)) hb0; show (b - 1) &&& (al_ (fb_ (rw_ S g9)) 4096) < 4096; omega) (by have := sm_lt (all := (al_ (fb_ (rw_ S g9)) 4096)) hb0; show (b - 1) &&& (al_ (fb_ (rw_ S g9)) 4096) < n; omega) hE
              · have hb0 : b = 0 := (ni_z (by omega)).mp hB192
                have e9 : sr_ (fb_ (rw_ S g9)) k (al_ (fb_ (rw_ S g9)) 4096) (n + 1) b K9 = (un_ K9 (k ||| b)) := sr_0t hgb hb0
                rw [e9] at hE
                refine aw_iconst C dc_M_makeRemainder_195 (v := (-1)) rfl ?_
                refine aw_goto C dc_M_makeRemainder_196 (tgt := 205) (by decide) ?_
                refine aw_istore C dc_M_makeRemainder_205 (by decide) rfl ?_
                refine aw_goto C dc_M_makeRemainder_207 (tgt := 131) (by decide) ?_
                refine aw_iload C dc_M_makeRemainder_131 rfl ?_
                refine aw_if_eq C dc_M_makeRemainder_133 (tgt := 210) (by decide) (fun h9 => absurd h9 (by decide)) (fun _ => ?_)
                refine aw_iload C dc_M_makeRemainder_136 rfl ?_
                refine aw_if_lt C dc_M_makeRemainder_138 (tgt := 210) (by decide) (fun _ => ?_) (fun h9 => absurd (by decide) h9)
                refine aw_sub (lw' := [some (.ref a), some (.int (nI f9)), some (.int (nI g9)), some (.int (nI (al_ (fb_ (rw_ S g9)) 4096))), some (.int (nI k)), none, none, none]) (by
                  intro k v h
                  match k, h with
                  | 0, h => exact h
                  | 1, h => exact h
                  | 2, h => exact h
                  | 3, h => exact h
                  | 4, h => exact h
                  | 5, h => exact nomatch (show (some none : Option (Option Value)) = some (some v) from h)
                  | 6, h => exact nomatch (show (some none : Option (Option Value)) = some (some v) from h)
                  | 7, h => exact nomatch (show (some none : Option (Option Value)) = some (some v) from h)
                  | n + 8, h => exact nomatch (show (none : Option (Option Value)) = some (some v) from h)) ?_
                exact hE
    · refine aw_iload C dc_M_makeRemainder_54 rfl ?_
      refine aw_sipush C dc_M_makeRemainder_56 (v := nI 4096) rfl ?_
      refine aw_icmp_ge C dc_M_makeRemainder_59 (tgt := 87) (by decide) (fun h9 => absurd h9 (nI_ge hk (by decide))) (fun _ => ?_)
      refine aw_aload_n C dc_M_makeRemainder_62 rfl ?_
      refine aw_iload_n C dc_M_makeRemainder_63 rfl ?_
      refine aw_iload C dc_M_makeRemainder_64 rfl ?_
      refine kc_i (fun _ h => h) (fun _ h => h) (kc_V (n := 2) C hX xk_true rfl 0 rf_p0 rfl (m_isIn l D a cI cL cF t S (fw_ (rw_ S f9) (mkl_ K (qo_ (fb_ (rw_ S f9)) (fb_ (rw_ S g9)) (al_ (fb_ (rw_ S g9)) 4096)) (fun p => p) 4096) 64) (fw_ (mkl_ K (qo_ (fb_ (rw_ S f9)) (fb_ (rw_ S g9)) (al_ (fb_ (rw_ S g9)) 4096)) (fun p => p) 4096) Qt 64) O1 O2 En Ot Wt g9 hg k hk) kw_684 kw_681 kw_683 (tw_sel (q := (my_M_isIn, 9)) (by decide +kernel)) kw_8 rfl (by unfold kd_; decide) ⟨rfl, rfl, by decide, by decide⟩ rfl rfl (Nat.le_of_ble_eq_true rfl) ⟨Nat.zero_le _, Nat.zero_le _⟩ dc_M_makeRemainder_66) ?_
      refine aw_if_eq C dc_M_makeRemainder_69 (tgt := 79) (by decide) (fun hB69 => ?_) (fun hB69 => ?_)
      · have e9 : al_ (fb_ (rw_ S g9)) (k + 1) = al_ (fb_ (rw_ S g9)) k := by rw [al_, if_neg (by rw [z1_0.mp hB69]; decide)]
        rw [e9] at ih
        refine aw_iload_n C dc_M_makeRemainder_79 rfl ?_
        refine aw_istore_n C dc_M_makeRemainder_80 (by decide) rfl ?_
        refine aw_iinc C dc_M_makeRemainder_81 rfl (ni_inc _) (by decide) rfl ?_
        refine aw_goto C dc_M_makeRemainder_84 (tgt := 54) (by decide) ?_
        exact ih
      · have e9 : al_ (fb_ (rw_ S g9)) (k + 1) = al_ (fb_ (rw_ S g9)) k ||| k := by rw [al_, if_pos (z1_n.mp hB69)]
        rw [e9] at ih
        refine aw_iload_n C dc_M_makeRemainder_72 rfl ?_
        refine aw_iload C dc_M_makeRemainder_73 rfl ?_
        refine aw_ior C dc_M_makeRemainder_75 ?_
        refine aw_eqi (ni_or _ _) ?_
        refine aw_goto C dc_M_makeRemainder_76 (tgt := 80) (by decide) ?_
        refine aw_istore_n C dc_M_makeRemainder_80 (by decide) rfl ?_
        refine aw_iinc C dc_M_makeRemainder_81 rfl (ni_inc _) (by decide) rfl ?_
        refine aw_goto C dc_M_makeRemainder_84 (tgt := 54) (by decide) ?_
        exact ih
  · refine aw_iload_n C dc_M_makeRemainder_8 rfl ?_
    refine aw_bipush C dc_M_makeRemainder_9 (v := nI 64) rfl ?_
    refine aw_icmp_ge C dc_M_makeRemainder_11 (tgt := 49) (by decide) (fun h9 => absurd h9 (nI_ge hk (by decide))) (fun _ => ?_)
    refine aw_aload_n C dc_M_makeRemainder_14 rfl ?_
    refine aw_get C (fun w h => List.mem_cons_of_mem _ (ly_M w h)) 0 rf_p0 rfl 3 (by decide) (C.1.2.2.2.2 _ (List.mem_cons_of_mem _ kw_639)) (fun _ h => h) rfl dc_M_makeRemainder_15 ?_
    refine aw_iload_n C dc_M_makeRemainder_18 rfl ?_
    refine aw_aload_n C dc_M_makeRemainder_19 rfl ?_
    refine aw_get C (fun w h => List.mem_cons_of_mem _ (ly_M w h)) 0 rf_p0 rfl 2 (by decide) (C.1.2.2.2.2 _ (List.mem_cons_of_mem _ kw_638)) (fun _ h => h) rfl dc_M_makeRemainder_20 ?_
    refine aw_iload_n C dc_M_makeRemainder_23 rfl ?_
    refine aw_lald C 2 1 rf_p2 rfl k rfl (by omega) (by decide) dc_M_makeRemainder_24 ?_
    refine aw_eql (fw_at _ _ (Nat.le_refl _)) ?_
    refine aw_last C rf_D 3 1 rf_p3 rfl k rfl (by omega) (by decide) (ws' := rf_ a cI cL t S (fw_ (rw_ S f9) (mkl_ K (qo_ (fb_ (rw_ S f9)) (fb_ (rw_ S g9)) (al_ (fb_ (rw_ S g9)) 4096)) (fun p => p) 4096) k) (fw_ (mkl_ K (qo_ (fb_ (rw_ S f9)) (fb_ (rw_ S g9)) (al_ (fb_ (rw_ S g9)) 4096)) (fun p => p) 4096) Qt (k + 1)) O1 O2 En Ot Wt) (by rw [← fw_s]; rfl) dc_M_makeRemainder_25 ?_
    refine aw_aload_n C dc_M_makeRemainder_26 rfl ?_
    refine aw_get C (fun w h => List.mem_cons_of_mem _ (ly_M w h)) 0 rf_p0 rfl 2 (by decide) (C.1.2.2.2.2 _ (List.mem_cons_of_mem _ kw_638)) (fun _ h => h) rfl dc_M_makeRemainder_27 ?_
    refine aw_iload_n C dc_M_makeRemainder_30 rfl ?_
    refine aw_aload_n C dc_M_makeRemainder_31 rfl ?_
    refine aw_get C (fun w h => List.mem_cons_of_mem _ (ly_M w h)) 0 rf_p0 rfl 1 (by decide) (C.1.2.2.2.2 _ (List.mem_cons_of_mem _ kw_637)) (fun _ h => h) rfl dc_M_makeRemainder_32 ?_
    refine aw_bipush C dc_M_makeRemainder_35 (v := nI 64) rfl ?_
    refine aw_iload_n C dc_M_makeRemainder_37 rfl ?_
    refine aw_imul C dc_M_makeRemainder_38 ?_
    refine aw_iload_n C dc_M_makeRemainder_39 rfl ?_
    refine aw_iadd C dc_M_makeRemainder_40 ?_
    refine aw_lald C 1 1 rf_p1 rfl (64 * f9 + k) (ms_i2 f9 k) (by omega) (by decide) dc_M_makeRemainder_41 ?_
    refine aw_last C rf_D 2 1 rf_p2 rfl k rfl (by omega) (by decide) (ws' := rf_ a cI cL t S (fw_ (rw_ S f9) (mkl_ K (qo_ (fb_ (rw_ S f9)) (fb_ (rw_ S g9)) (al_ (fb_ (rw_ S g9)) 4096)) (fun p => p) 4096) (k + 1)) (fw_ (mkl_ K (qo_ (fb_ (rw_ S f9)) (fb_ (rw_ S g9)) (al_ (fb_ (rw_ S g9)) 4096)) (fun p => p) 4096) Qt (k + 1)) O1 O2 En Ot Wt) (by rw [← fw_s (rw_ S f9)]; rfl) dc_M_makeRemainder_42 ?_
    refine aw_iinc C dc_M_makeRemainder_43 rfl (ni_inc _) (by decide) rfl ?_
    refine aw_goto C dc_M_makeRemainder_46 (tgt := 8) (by decide) ?_
    exact ih
