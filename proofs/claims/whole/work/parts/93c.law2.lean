/-! The law, case by case. -/
abbrev G_ (sc h a o n : Nat) : List (Option Value) := [some (.ref sc), some (.ref h), some (.ref a), some (.ref o), some (.int (nI (5 * n))), none, none]
abbrev lx_ (D : va_G) (h a o : Nat) (cI cL cF : ClassId) : Heap → Prop := fun H => ∃ y : wx_, rr_ y.1 y.2.2.2 ∧ va_P D cl_ (ww_ h a o cI cL cF y) H
theorem lg_self (x : Int64) : lg_cmp x x = 0 := by unfold lg_cmp; simp
section LAW
variable {p : Program} {l : Launch} {e : Env} {R : Room} {s : State} {m : MethodId} {args : Array Value} {below : List Frame} {meth : Method} {c : Code} {c0 : Cond} {D : va_G} {h th a o sc L : Nat} {cI cL cF : ClassId} {cells slots : Nat} {Q : State → Prop} {xs : Nat → Int32}
set_option maxHeartbeats 4000000 in
set_option maxRecDepth 100000 in
theorem law_put (hl : l.stackTraces = false) (C : cx p s m args meth c code 7 (c0 :: tw_) "FamilyShelfLaw" D cl_ (ty_s cI cL cF)) (hX : xq_ h th s) (hS : va_X sc L xs s s.heap) (hp : wp_ h a o) (hh : h = s.heap.size) (hsc : sc < h) (hL : L < 2 ^ 31) (hfr : 42 ≤ R.frames) (hlo : 2100 ≤ R.locals) (hce : cells + 1 ≤ R.cells) (hsl : slots + 6 ≤ R.slots) (n : Nat) (hn : 5 * n + 5 ≤ L) (x : wx_) (hr : rr_ x.1 x.2.2.2) (kk : aw p l e R s m args below meth c 7 (fun q => h ≤ q) (cells + 1) (slots + 6) Q (lx_ D h a o cI cL cF) (G_ sc h a o n) 1456 []) : aw p l e R s m args below meth c 7 (fun q => h ≤ q) cells slots Q (va_P D cl_ (ww_ h a o cI cL cF x)) (G_ sc h a o n) 128 [] := by
  have hho : h ≤ o := by rw [hp.2]; exact Nat.le_add_right _ _
  have ho : ¬ ca_ h o := fun h9 => by have h8 : h ≤ o ∧ o < h + 42 := h9; have h7 := hp.2; omega
  have hbl : sc < s.heap.size := by rw [← hh]; exact hsc
  have hbA : ¬ h ≤ sc := Nat.not_le.mpr hsc
  have hAc : ∀ q, sA_ h o q → h ≤ q := sA_le hho
  have hAm : ∀ q, cm_ a q → h ≤ q := fun q h9 => by have h8 : a ≤ q ∧ q < a + 9 := h9; have h7 := hp.1; omega
  obtain ⟨k, c', O', m', r, hk4, hr', hO, hB, hLm, hMm⟩ := b_put l hl D h th a o cI cL cF ho hho x.1 x.2.1 x.2.2.1 x.2.2.2 hr (xs (5 * n + 1)) (xs (5 * n + 2))
  refine aw_aload_n C dc_law_128 rfl ?_
  refine aw_aload_n C dc_law_129 rfl ?_
  refine aw_iload C dc_law_130 rfl ?_
  refine aw_iconst C dc_law_132 (v := nI 1) rfl ?_
  refine aw_iadd C dc_law_133 ?_
  refine aw_sld C hS hbl hbA (5 * n + 1) (nI_add _ _) (by omega) hL dc_law_134 ?_
  refine aw_aload_n C dc_law_135 rfl ?_
  refine aw_iload C dc_law_136 rfl ?_
  refine aw_iconst C dc_law_138 (v := nI 2) rfl ?_
  refine aw_iadd C dc_law_139 ?_
  refine aw_sld C hS hbl hbA (5 * n + 2) (nI_add _ _) (by omega) hL dc_law_140 ?_
  refine aw_aload_n C dc_law_141 rfl ?_
  refine kq_Si (X1 := xq_ h th) (As := [.ref h, .int (xs (5 * n + 1)), .int (xs (5 * n + 2)), .ref o]) (n := 4) (P' := va_P D cl_ (ww_ h a o cI cL cF (c', O', x.2.2))) C (fun U hW hz hq => xq_k (A := fun q => h ≤ q) (fun q h9 => h9) s U hW hz hq hX) (sp_blind (A := sA_ h o) (xq_k (sA_le hho))) hLm kw_137 kw_135 kw_136 kw_0 (by unfold kd_; decide) ⟨rfl, rfl, Nat.le_trans (by decide) hfr, Nat.le_trans (by decide) hlo⟩ rfl rfl (Nat.le_of_ble_eq_true rfl) ⟨hce, hsl⟩ dc_law_142 hAc (fun H h9 => ww_c h9) (fun H H1 h9 hk h1 => ww_cpost hp h9 hk h1) ?_
  refine aw_istore C dc_law_145 (by decide) rfl ?_
  refine aw_aload_n C dc_law_147 rfl ?_
  refine aw_aload_n C dc_law_148 rfl ?_
  refine aw_iload C dc_law_149 rfl ?_
  refine aw_iconst C dc_law_151 (v := nI 1) rfl ?_
  refine aw_iadd C dc_law_152 ?_
  refine aw_sld C hS hbl hbA (5 * n + 1) (nI_add _ _) (by omega) hL dc_law_153 ?_
  refine aw_aload_n C dc_law_154 rfl ?_
  refine aw_iload C dc_law_155 rfl ?_
  refine aw_iconst C dc_law_157 (v := nI 2) rfl ?_
  refine aw_iadd C dc_law_158 ?_
  refine aw_sld C hS hbl hbA (5 * n + 2) (nI_add _ _) (by omega) hL dc_law_159 ?_
  refine kq_Vi (X1 := fun _ => True) (As := [.int (xs (5 * n + 1)), .int (xs (5 * n + 2))]) (n := 2) (P' := va_P D cl_ (ww_ h a o cI cL cF (c', O', nI k, m'))) C (fun _ _ _ _ => trivial) (sp_blind (A := cm_ a) xk_true) (fun H h9 => ww_m (h := h) (o := o) (cF := cF) (x := (c', O', x.2.2)) h9) 0 rf_p0 rfl hMm kw_671 kw_668 kw_669 kw_670 kw_8 rfl (by unfold kd_; decide) ⟨rfl, rfl, Nat.le_trans (by decide) hfr, Nat.le_trans (by decide) hlo⟩ rfl rfl (Nat.le_of_ble_eq_true rfl) ⟨hce, hsl⟩ dc_law_160 hAm (fun H h9 => ww_m (h := h) (o := o) (cF := cF) (x := (c', O', x.2.2)) h9) (fun H H1 h9 hk h1 => ww_mpost (x := (c', O', x.2.2)) hp h9 hk h1) ?_
  refine aw_istore C dc_law_163 (by decide) rfl ?_
  refine aw_aload_n C dc_law_165 rfl ?_
  refine kq_Vi (X1 := fun _ => True) (As := []) (n := 0) (P' := va_P D cl_ (ww_ h a o cI cL cF (c', O', nI k, m'))) C (fun _ _ _ _ => trivial) (sp_blind (A := cm_ a) xk_true) (fun H h9 => ww_m (h := h) (o := o) (cF := cF) (x := (c', O', nI k, m')) h9) 0 rf_p0 rfl (m_thrown l D a cI cL cF (nI k) m'.1 m'.2.1 m'.2.2.1 m'.2.2.2.1 m'.2.2.2.2.1 m'.2.2.2.2.2.1 m'.2.2.2.2.2.2.1 m'.2.2.2.2.2.2.2) kw_667 kw_664 kw_665 kw_666 kw_8 rfl (by unfold kd_; decide) ⟨rfl, rfl, Nat.le_trans (by decide) hfr, Nat.le_trans (by decide) hlo⟩ rfl rfl (Nat.le_of_ble_eq_true rfl) ⟨hce, hsl⟩ dc_law_166 hAm (fun H h9 => ww_m (h := h) (o := o) (cF := cF) (x := (c', O', nI k, m')) h9) (fun H H1 h9 hk h1 => ww_mpost (x := (c', O', nI k, m')) hp h9 hk h1) ?_
  refine aw_iload C dc_law_169 rfl ?_
  refine aw_icmp_eq C dc_law_171 (tgt := 176) (by decide) (fun _ => ?_) (fun h9 => absurd (rfl) h9)
  refine aw_iload C dc_law_176 rfl ?_
  refine aw_if_ne C dc_law_178 (tgt := 200) (by decide) (fun hB178 => ?_) (fun hB178 => ?_)
  · refine aw_goto C dc_law_200 (tgt := 1456) (by decide) ?_
    refine aw_sub (lw' := G_ sc h a o n) (fun j v hj => by
      match j, hj with
      | 0, hj => exact hj
      | 1, hj => exact hj
      | 2, hj => exact hj
      | 3, hj => exact hj
      | 4, hj => exact hj
      | 5, hj => cases hj
      | 6, hj => cases hj) ?_
    exact aw_P (fun H h9 => ⟨(c', O', nI k, m'), hr', h9⟩) kk
  · have hk0 : k = 0 := (ni_z (by omega)).mp hB178
    have hO := hO hk0
    obtain ⟨bb, rfl⟩ := hB
    cases bb
    · refine aw_aload_n C dc_law_181 rfl ?_
      refine aw_iconst C dc_law_182 (v := nI 0) rfl ?_
      refine aw_lald C 42 1 ww_o rfl 0 rfl (by decide) (by decide) dc_law_183 ?_
      refine aw_iload C dc_law_184 rfl ?_
      refine aw_if_eq C dc_law_186 (tgt := 193) (by decide) (fun _ => ?_) (fun h9 => absurd (rfl) h9)
      refine aw_lconst C dc_law_193 (v := 0) rfl ?_
      refine aw_lcmp C dc_law_194 ?_
      refine aw_eqi (y := 0) (by show lg_cmp (O' 0) _ = 0; rw [hO]; decide) ?_
      refine aw_if_eq C dc_law_195 (tgt := 200) (by decide) (fun _ => ?_) (fun h9 => absurd (rfl) h9)
      refine aw_goto C dc_law_200 (tgt := 1456) (by decide) ?_
      refine aw_sub (lw' := G_ sc h a o n) (fun j v hj => by
        match j, hj with
        | 0, hj => exact hj
        | 1, hj => exact hj
        | 2, hj => exact hj
        | 3, hj => exact hj
        | 4, hj => exact hj
        | 5, hj => cases hj
        | 6, hj => cases hj) ?_
      exact aw_P (fun H h9 => ⟨(c', O', nI k, m'), hr', h9⟩) kk
    · refine aw_aload_n C dc_law_181 rfl ?_
      refine aw_iconst C dc_law_182 (v := nI 0) rfl ?_
      refine aw_lald C 42 1 ww_o rfl 0 rfl (by decide) (by decide) dc_law_183 ?_
      refine aw_iload C dc_law_184 rfl ?_
      refine aw_if_eq C dc_law_186 (tgt := 193) (by decide) (fun h9 => absurd h9 (by decide)) (fun _ => ?_)
      refine aw_lconst C dc_law_189 (v := 1) rfl ?_
      refine aw_goto C dc_law_190 (tgt := 194) (by decide) ?_
      refine aw_lcmp C dc_law_194 ?_
      refine aw_eqi (y := 0) (by show lg_cmp (O' 0) _ = 0; rw [hO]; decide) ?_
      refine aw_if_eq C dc_law_195 (tgt := 200) (by decide) (fun _ => ?_) (fun h9 => absurd (rfl) h9)
      refine aw_goto C dc_law_200 (tgt := 1456) (by decide) ?_
      refine aw_sub (lw' := G_ sc h a o n) (fun j v hj => by
        match j, hj with
        | 0, hj => exact hj
        | 1, hj => exact hj
        | 2, hj => exact hj
        | 3, hj => exact hj
        | 4, hj => exact hj
        | 5, hj => cases hj
        | 6, hj => cases hj) ?_
      exact aw_P (fun H h9 => ⟨(c', O', nI k, m'), hr', h9⟩) kk
set_option maxHeartbeats 4000000 in
set_option maxRecDepth 100000 in
theorem law_take (hl : l.stackTraces = false) (C : cx p s m args meth c code 7 (c0 :: tw_) "FamilyShelfLaw" D cl_ (ty_s cI cL cF)) (hX : xq_ h th s) (hS : va_X sc L xs s s.heap) (hp : wp_ h a o) (hh : h = s.heap.size) (hsc : sc < h) (hL : L < 2 ^ 31) (hfr : 42 ≤ R.frames) (hlo : 2100 ≤ R.locals) (hce : cells + 1 ≤ R.cells) (hsl : slots + 6 ≤ R.slots) (n : Nat) (hn : 5 * n + 5 ≤ L) (x : wx_) (hr : rr_ x.1 x.2.2.2) (kk : aw p l e R s m args below meth c 7 (fun q => h ≤ q) (cells + 1) (slots + 6) Q (lx_ D h a o cI cL cF) (G_ sc h a o n) 1456 []) : aw p l e R s m args below meth c 7 (fun q => h ≤ q) cells slots Q (va_P D cl_ (ww_ h a o cI cL cF x)) (G_ sc h a o n) 203 [] := by
  have hho : h ≤ o := by rw [hp.2]; exact Nat.le_add_right _ _
  have ho : ¬ ca_ h o := fun h9 => by have h8 : h ≤ o ∧ o < h + 42 := h9; have h7 := hp.2; omega
  have hbl : sc < s.heap.size := by rw [← hh]; exact hsc
  have hbA : ¬ h ≤ sc := Nat.not_le.mpr hsc
  have hAc : ∀ q, sA_ h o q → h ≤ q := sA_le hho
  have hAm : ∀ q, cm_ a q → h ≤ q := fun q h9 => by have h8 : a ≤ q ∧ q < a + 9 := h9; have h7 := hp.1; omega
  obtain ⟨k, c', O', m', r, hk4, hr', hO, hB, hLm, hMm⟩ := b_take l hl D h th a o cI cL cF ho hho x.1 x.2.1 x.2.2.1 x.2.2.2 hr (xs (5 * n + 1)) (xs (5 * n + 2))
  refine aw_aload_n C dc_law_203 rfl ?_
  refine aw_aload_n C dc_law_204 rfl ?_
  refine aw_iload C dc_law_205 rfl ?_
  refine aw_iconst C dc_law_207 (v := nI 1) rfl ?_
  refine aw_iadd C dc_law_208 ?_
  refine aw_sld C hS hbl hbA (5 * n + 1) (nI_add _ _) (by omega) hL dc_law_209 ?_
  refine aw_aload_n C dc_law_210 rfl ?_
  refine aw_iload C dc_law_211 rfl ?_
  refine aw_iconst C dc_law_213 (v := nI 2) rfl ?_
  refine aw_iadd C dc_law_214 ?_
  refine aw_sld C hS hbl hbA (5 * n + 2) (nI_add _ _) (by omega) hL dc_law_215 ?_
  refine aw_aload_n C dc_law_216 rfl ?_
  refine kq_Si (X1 := xq_ h th) (As := [.ref h, .int (xs (5 * n + 1)), .int (xs (5 * n + 2)), .ref o]) (n := 4) (P' := va_P D cl_ (ww_ h a o cI cL cF (c', O', x.2.2))) C (fun U hW hz hq => xq_k (A := fun q => h ≤ q) (fun q h9 => h9) s U hW hz hq hX) (sp_blind (A := sA_ h o) (xq_k (sA_le hho))) hLm kw_254 kw_252 kw_253 kw_0 (by unfold kd_; decide) ⟨rfl, rfl, Nat.le_trans (by decide) hfr, Nat.le_trans (by decide) hlo⟩ rfl rfl (Nat.le_of_ble_eq_true rfl) ⟨hce, hsl⟩ dc_law_217 hAc (fun H h9 => ww_c h9) (fun H H1 h9 hk h1 => ww_cpost hp h9 hk h1) ?_
  refine aw_istore C dc_law_220 (by decide) rfl ?_
  refine aw_aload_n C dc_law_222 rfl ?_
  refine aw_aload_n C dc_law_223 rfl ?_
  refine aw_iload C dc_law_224 rfl ?_
  refine aw_iconst C dc_law_226 (v := nI 1) rfl ?_
  refine aw_iadd C dc_law_227 ?_
  refine aw_sld C hS hbl hbA (5 * n + 1) (nI_add _ _) (by omega) hL dc_law_228 ?_
  refine aw_aload_n C dc_law_229 rfl ?_
  refine aw_iload C dc_law_230 rfl ?_
  refine aw_iconst C dc_law_232 (v := nI 2) rfl ?_
  refine aw_iadd C dc_law_233 ?_
  refine aw_sld C hS hbl hbA (5 * n + 2) (nI_add _ _) (by omega) hL dc_law_234 ?_
  refine kq_Vi (X1 := fun _ => True) (As := [.int (xs (5 * n + 1)), .int (xs (5 * n + 2))]) (n := 2) (P' := va_P D cl_ (ww_ h a o cI cL cF (c', O', nI k, m'))) C (fun _ _ _ _ => trivial) (sp_blind (A := cm_ a) xk_true) (fun H h9 => ww_m (h := h) (o := o) (cF := cF) (x := (c', O', x.2.2)) h9) 0 rf_p0 rfl hMm kw_688 kw_685 kw_686 kw_687 kw_8 rfl (by unfold kd_; decide) ⟨rfl, rfl, Nat.le_trans (by decide) hfr, Nat.le_trans (by decide) hlo⟩ rfl rfl (Nat.le_of_ble_eq_true rfl) ⟨hce, hsl⟩ dc_law_235 hAm (fun H h9 => ww_m (h := h) (o := o) (cF := cF) (x := (c', O', x.2.2)) h9) (fun H H1 h9 hk h1 => ww_mpost (x := (c', O', x.2.2)) hp h9 hk h1) ?_
  refine aw_istore C dc_law_238 (by decide) rfl ?_
  refine aw_aload_n C dc_law_240 rfl ?_
  refine kq_Vi (X1 := fun _ => True) (As := []) (n := 0) (P' := va_P D cl_ (ww_ h a o cI cL cF (c', O', nI k, m'))) C (fun _ _ _ _ => trivial) (sp_blind (A := cm_ a) xk_true) (fun H h9 => ww_m (h := h) (o := o) (cF := cF) (x := (c', O', nI k, m')) h9) 0 rf_p0 rfl (m_thrown l D a cI cL cF (nI k) m'.1 m'.2.1 m'.2.2.1 m'.2.2.2.1 m'.2.2.2.2.1 m'.2.2.2.2.2.1 m'.2.2.2.2.2.2.1 m'.2.2.2.2.2.2.2) kw_667 kw_664 kw_665 kw_666 kw_8 rfl (by unfold kd_; decide) ⟨rfl, rfl, Nat.le_trans (by decide) hfr, Nat.le_trans (by decide) hlo⟩ rfl rfl (Nat.le_of_ble_eq_true rfl) ⟨hce, hsl⟩ dc_law_241 hAm (fun H h9 => ww_m (h := h) (o := o) (cF := cF) (x := (c', O', nI k, m')) h9) (fun H H1 h9 hk h1 => ww_mpost (x := (c', O', nI k, m')) hp h9 hk h1) ?_
  refine aw_iload C dc_law_244 rfl ?_
  refine aw_icmp_eq C dc_law_246 (tgt := 251) (by decide) (fun _ => ?_) (fun h9 => absurd (rfl) h9)
  refine aw_iload C dc_law_251 rfl ?_
  refine aw_if_ne C dc_law_253 (tgt := 275) (by decide) (fun hB253 => ?_) (fun hB253 => ?_)
  · refine aw_goto C dc_law_275 (tgt := 1456) (by decide) ?_
    refine aw_sub (lw' := G_ sc h a o n) (fun j v hj => by
      match j, hj with
      | 0, hj => exact hj
      | 1, hj => exact hj
      | 2, hj => exact hj
      | 3, hj => exact hj
      | 4, hj => exact hj
      | 5, hj => cases hj
      | 6, hj => cases hj) ?_
    exact aw_P (fun H h9 => ⟨(c', O', nI k, m'), hr', h9⟩) kk
  · have hk0 : k = 0 := (ni_z (by omega)).mp hB253
    have hO := hO hk0
    obtain ⟨bb, rfl⟩ := hB
    cases bb
    · refine aw_aload_n C dc_law_256 rfl ?_
      refine aw_iconst C dc_law_257 (v := nI 0) rfl ?_
      refine aw_lald C 42 1 ww_o rfl 0 rfl (by decide) (by decide) dc_law_258 ?_
      refine aw_iload C dc_law_259 rfl ?_
      refine aw_if_eq C dc_law_261 (tgt := 268) (by decide) (fun _ => ?_) (fun h9 => absurd (rfl) h9)
      refine aw_lconst C dc_law_268 (v := 0) rfl ?_
      refine aw_lcmp C dc_law_269 ?_
      refine aw_eqi (y := 0) (by show lg_cmp (O' 0) _ = 0; rw [hO]; decide) ?_
      refine aw_if_eq C dc_law_270 (tgt := 275) (by decide) (fun _ => ?_) (fun h9 => absurd (rfl) h9)
      refine aw_goto C dc_law_275 (tgt := 1456) (by decide) ?_
      refine aw_sub (lw' := G_ sc h a o n) (fun j v hj => by
        match j, hj with
        | 0, hj => exact hj
        | 1, hj => exact hj
        | 2, hj => exact hj
        | 3, hj => exact hj
        | 4, hj => exact hj
        | 5, hj => cases hj
        | 6, hj => cases hj) ?_
      exact aw_P (fun H h9 => ⟨(c', O', nI k, m'), hr', h9⟩) kk
    · refine aw_aload_n C dc_law_256 rfl ?_
      refine aw_iconst C dc_law_257 (v := nI 0) rfl ?_
      refine aw_lald C 42 1 ww_o rfl 0 rfl (by decide) (by decide) dc_law_258 ?_
      refine aw_iload C dc_law_259 rfl ?_
      refine aw_if_eq C dc_law_261 (tgt := 268) (by decide) (fun h9 => absurd h9 (by decide)) (fun _ => ?_)
      refine aw_lconst C dc_law_264 (v := 1) rfl ?_
      refine aw_goto C dc_law_265 (tgt := 269) (by decide) ?_
      refine aw_lcmp C dc_law_269 ?_
      refine aw_eqi (y := 0) (by show lg_cmp (O' 0) _ = 0; rw [hO]; decide) ?_
      refine aw_if_eq C dc_law_270 (tgt := 275) (by decide) (fun _ => ?_) (fun h9 => absurd (rfl) h9)
      refine aw_goto C dc_law_275 (tgt := 1456) (by decide) ?_
      refine aw_sub (lw' := G_ sc h a o n) (fun j v hj => by
        match j, hj with
        | 0, hj => exact hj
        | 1, hj => exact hj
        | 2, hj => exact hj
        | 3, hj => exact hj
        | 4, hj => exact hj
        | 5, hj => cases hj
        | 6, hj => cases hj) ?_
      exact aw_P (fun H h9 => ⟨(c', O', nI k, m'), hr', h9⟩) kk
set_option maxHeartbeats 4000000 in
set_option maxRecDepth 100000 in
theorem law_clear (hl : l.stackTraces = false) (C : cx p s m args meth c code 7 (c0 :: tw_) "FamilyShelfLaw" D cl_ (ty_s cI cL cF)) (hX : xq_ h th s) (hS : va_X sc L xs s s.heap) (hp : wp_ h a o) (hh : h = s.heap.size) (hsc : sc < h) (hL : L < 2 ^ 31) (hfr : 42 ≤ R.frames) (hlo : 2100 ≤ R.locals) (hce : cells + 1 ≤ R.cells) (hsl : slots + 6 ≤ R.slots) (n : Nat) (hn : 5 * n + 5 ≤ L) (x : wx_) (hr : rr_ x.1 x.2.2.2) (kk : aw p l e R s m args below meth c 7 (fun q => h ≤ q) (cells + 1) (slots + 6) Q (lx_ D h a o cI cL cF) (G_ sc h a o n) 1456 []) : aw p l e R s m args below meth c 7 (fun q => h ≤ q) cells slots Q (va_P D cl_ (ww_ h a o cI cL cF x)) (G_ sc h a o n) 278 [] := by
  have hho : h ≤ o := by rw [hp.2]; exact Nat.le_add_right _ _
  have ho : ¬ ca_ h o := fun h9 => by have h8 : h ≤ o ∧ o < h + 42 := h9; have h7 := hp.2; omega
  have hbl : sc < s.heap.size := by rw [← hh]; exact hsc
  have hbA : ¬ h ≤ sc := Nat.not_le.mpr hsc
  have hAc : ∀ q, sA_ h o q → h ≤ q := sA_le hho
  have hAm : ∀ q, cm_ a q → h ≤ q := fun q h9 => by have h8 : a ≤ q ∧ q < a + 9 := h9; have h7 := hp.1; omega
  obtain ⟨k, c', O', m', r, hk4, hr', hO, hB, hLm, hMm⟩ := b_clear l hl D h th a o cI cL cF ho hho x.1 x.2.1 x.2.2.1 x.2.2.2 hr (xs (5 * n + 1))
  refine aw_aload_n C dc_law_278 rfl ?_
  refine aw_aload_n C dc_law_279 rfl ?_
  refine aw_iload C dc_law_280 rfl ?_
  refine aw_iconst C dc_law_282 (v := nI 1) rfl ?_
  refine aw_iadd C dc_law_283 ?_
  refine aw_sld C hS hbl hbA (5 * n + 1) (nI_add _ _) (by omega) hL dc_law_284 ?_
  refine aw_aload_n C dc_law_285 rfl ?_
  refine kq_Si (X1 := xq_ h th) (As := [.ref h, .int (xs (5 * n + 1)), .ref o]) (n := 3) (P' := va_P D cl_ (ww_ h a o cI cL cF (c', O', x.2.2))) C (fun U hW hz hq => xq_k (A := fun q => h ≤ q) (fun q h9 => h9) s U hW hz hq hX) (sp_blind (A := sA_ h o) (xq_k (sA_le hho))) hLm kw_266 kw_264 kw_265 kw_0 (by unfold kd_; decide) ⟨rfl, rfl, Nat.le_trans (by decide) hfr, Nat.le_trans (by decide) hlo⟩ rfl rfl (Nat.le_of_ble_eq_true rfl) ⟨hce, hsl⟩ dc_law_286 hAc (fun H h9 => ww_c h9) (fun H H1 h9 hk h1 => ww_cpost hp h9 hk h1) ?_
  refine aw_istore C dc_law_289 (by decide) rfl ?_
  refine aw_aload_n C dc_law_291 rfl ?_
  refine aw_aload_n C dc_law_292 rfl ?_
  refine aw_iload C dc_law_293 rfl ?_
  refine aw_iconst C dc_law_295 (v := nI 1) rfl ?_
  refine aw_iadd C dc_law_296 ?_
  refine aw_sld C hS hbl hbA (5 * n + 1) (nI_add _ _) (by omega) hL dc_law_297 ?_
  refine kq_Vi (X1 := fun _ => True) (As := [.int (xs (5 * n + 1))]) (n := 1) (P' := va_P D cl_ (ww_ h a o cI cL cF (c', O', nI k, m'))) C (fun _ _ _ _ => trivial) (sp_blind (A := cm_ a) xk_true) (fun H h9 => ww_m (h := h) (o := o) (cF := cF) (x := (c', O', x.2.2)) h9) 0 rf_p0 rfl hMm kw_693 kw_690 kw_691 kw_692 kw_8 rfl (by unfold kd_; decide) ⟨rfl, rfl, Nat.le_trans (by decide) hfr, Nat.le_trans (by decide) hlo⟩ rfl rfl (Nat.le_of_ble_eq_true rfl) ⟨hce, hsl⟩ dc_law_298 hAm (fun H h9 => ww_m (h := h) (o := o) (cF := cF) (x := (c', O', x.2.2)) h9) (fun H H1 h9 hk h1 => ww_mpost (x := (c', O', x.2.2)) hp h9 hk h1) ?_
  refine aw_istore C dc_law_301 (by decide) rfl ?_
  refine aw_aload_n C dc_law_303 rfl ?_
  refine kq_Vi (X1 := fun _ => True) (As := []) (n := 0) (P' := va_P D cl_ (ww_ h a o cI cL cF (c', O', nI k, m'))) C (fun _ _ _ _ => trivial) (sp_blind (A := cm_ a) xk_true) (fun H h9 => ww_m (h := h) (o := o) (cF := cF) (x := (c', O', nI k, m')) h9) 0 rf_p0 rfl (m_thrown l D a cI cL cF (nI k) m'.1 m'.2.1 m'.2.2.1 m'.2.2.2.1 m'.2.2.2.2.1 m'.2.2.2.2.2.1 m'.2.2.2.2.2.2.1 m'.2.2.2.2.2.2.2) kw_667 kw_664 kw_665 kw_666 kw_8 rfl (by unfold kd_; decide) ⟨rfl, rfl, Nat.le_trans (by decide) hfr, Nat.le_trans (by decide) hlo⟩ rfl rfl (Nat.le_of_ble_eq_true rfl) ⟨hce, hsl⟩ dc_law_304 hAm (fun H h9 => ww_m (h := h) (o := o) (cF := cF) (x := (c', O', nI k, m')) h9) (fun H H1 h9 hk h1 => ww_mpost (x := (c', O', nI k, m')) hp h9 hk h1) ?_
  refine aw_iload C dc_law_307 rfl ?_
  refine aw_icmp_eq C dc_law_309 (tgt := 314) (by decide) (fun _ => ?_) (fun h9 => absurd (rfl) h9)
  refine aw_iload C dc_law_314 rfl ?_
  refine aw_if_ne C dc_law_316 (tgt := 331) (by decide) (fun hB316 => ?_) (fun hB316 => ?_)
  · refine aw_goto C dc_law_331 (tgt := 1456) (by decide) ?_
    refine aw_sub (lw' := G_ sc h a o n) (fun j v hj => by
      match j, hj with
      | 0, hj => exact hj
      | 1, hj => exact hj
      | 2, hj => exact hj
      | 3, hj => exact hj
      | 4, hj => exact hj
      | 5, hj => cases hj
      | 6, hj => cases hj) ?_
    exact aw_P (fun H h9 => ⟨(c', O', nI k, m'), hr', h9⟩) kk
  · have hk0 : k = 0 := (ni_z (by omega)).mp hB316
    have hO := hO hk0
    refine aw_aload_n C dc_law_319 rfl ?_
    refine aw_iconst C dc_law_320 (v := nI 0) rfl ?_
    refine aw_lald C 42 1 ww_o rfl 0 rfl (by decide) (by decide) dc_law_321 ?_
    refine aw_iload C dc_law_322 rfl ?_
    refine aw_i2l C dc_law_324 ?_
    refine aw_lcmp C dc_law_325 ?_
    refine aw_eqi (y := 0) (by show lg_cmp (O' 0) _ = 0; rw [hO]; exact lg_self _) ?_
    refine aw_if_eq C dc_law_326 (tgt := 331) (by decide) (fun _ => ?_) (fun h9 => absurd (rfl) h9)
    refine aw_goto C dc_law_331 (tgt := 1456) (by decide) ?_
    refine aw_sub (lw' := G_ sc h a o n) (fun j v hj => by
      match j, hj with
      | 0, hj => exact hj
      | 1, hj => exact hj
      | 2, hj => exact hj
      | 3, hj => exact hj
      | 4, hj => exact hj
      | 5, hj => cases hj
      | 6, hj => cases hj) ?_
    exact aw_P (fun H h9 => ⟨(c', O', nI k, m'), hr', h9⟩) kk
set_option maxHeartbeats 4000000 in
set_option maxRecDepth 100000 in
theorem law_combine (hl : l.stackTraces = false) (C : cx p s m args meth c code 7 (c0 :: tw_) "FamilyShelfLaw" D cl_ (ty_s cI cL cF)) (hX : xq_ h th s) (hS : va_X sc L xs s s.heap) (hp : wp_ h a o) (hh : h = s.heap.size) (hsc : sc < h) (hL : L < 2 ^ 31) (hfr : 42 ≤ R.frames) (hlo : 2100 ≤ R.locals) (hce : cells + 1 ≤ R.cells) (hsl : slots + 6 ≤ R.slots) (n : Nat) (hn : 5 * n + 5 ≤ L) (x : wx_) (hr : rr_ x.1 x.2.2.2) (kk : aw p l e R s m args below meth c 7 (fun q => h ≤ q) (cells + 1) (slots + 6) Q (lx_ D h a o cI cL cF) (G_ sc h a o n) 1456 []) : aw p l e R s m args below meth c 7 (fun q => h ≤ q) cells slots Q (va_P D cl_ (ww_ h a o cI cL cF x)) (G_ sc h a o n) 334 [] := by
  have hho : h ≤ o := by rw [hp.2]; exact Nat.le_add_right _ _
  have ho : ¬ ca_ h o := fun h9 => by have h8 : h ≤ o ∧ o < h + 42 := h9; have h7 := hp.2; omega
  have hbl : sc < s.heap.size := by rw [← hh]; exact hsc
  have hbA : ¬ h ≤ sc := Nat.not_le.mpr hsc
  have hAc : ∀ q, sA_ h o q → h ≤ q := sA_le hho
  have hAm : ∀ q, cm_ a q → h ≤ q := fun q h9 => by have h8 : a ≤ q ∧ q < a + 9 := h9; have h7 := hp.1; omega
  obtain ⟨k, c', O', m', r, hk4, hr', hO, hB, hLm, hMm⟩ := b_combine l hl D h th a o cI cL cF ho hho x.1 x.2.1 x.2.2.1 x.2.2.2 hr (xs (5 * n + 1)) (xs (5 * n + 2)) (xs (5 * n + 3)) (xs (5 * n + 4))
  refine aw_aload_n C dc_law_334 rfl ?_
  refine aw_aload_n C dc_law_335 rfl ?_
  refine aw_iload C dc_law_336 rfl ?_
  refine aw_iconst C dc_law_338 (v := nI 1) rfl ?_
  refine aw_iadd C dc_law_339 ?_
  refine aw_sld C hS hbl hbA (5 * n + 1) (nI_add _ _) (by omega) hL dc_law_340 ?_
  refine aw_aload_n C dc_law_341 rfl ?_
  refine aw_iload C dc_law_342 rfl ?_
  refine aw_iconst C dc_law_344 (v := nI 2) rfl ?_
  refine aw_iadd C dc_law_345 ?_
  refine aw_sld C hS hbl hbA (5 * n + 2) (nI_add _ _) (by omega) hL dc_law_346 ?_
  refine aw_aload_n C dc_law_347 rfl ?_
  refine aw_iload C dc_law_348 rfl ?_
  refine aw_iconst C dc_law_350 (v := nI 3) rfl ?_
  refine aw_iadd C dc_law_351 ?_
  refine aw_sld C hS hbl hbA (5 * n + 3) (nI_add _ _) (by omega) hL dc_law_352 ?_
  refine aw_aload_n C dc_law_353 rfl ?_
  refine aw_iload C dc_law_354 rfl ?_
  refine aw_iconst C dc_law_356 (v := nI 4) rfl ?_
  refine aw_iadd C dc_law_357 ?_
  refine aw_sld C hS hbl hbA (5 * n + 4) (nI_add _ _) (by omega) hL dc_law_358 ?_
  refine aw_aload_n C dc_law_359 rfl ?_
  refine kq_Si (X1 := xq_ h th) (As := [.ref h, .int (xs (5 * n + 1)), .int (xs (5 * n + 2)), .int (xs (5 * n + 3)), .int (xs (5 * n + 4)), .ref o]) (n := 6) (P' := va_P D cl_ (ww_ h a o cI cL cF (c', O', x.2.2))) C (fun U hW hz hq => xq_k (A := fun q => h ≤ q) (fun q h9 => h9) s U hW hz hq hX) (sp_blind (A := sA_ h o) (xq_k (sA_le hho))) hLm kw_294 kw_292 kw_293 kw_0 (by unfold kd_; decide) ⟨rfl, rfl, Nat.le_trans (by decide) hfr, Nat.le_trans (by decide) hlo⟩ rfl rfl (Nat.le_of_ble_eq_true rfl) ⟨hce, hsl⟩ dc_law_360 hAc (fun H h9 => ww_c h9) (fun H H1 h9 hk h1 => ww_cpost hp h9 hk h1) ?_
  refine aw_istore C dc_law_363 (by decide) rfl ?_
  refine aw_aload_n C dc_law_365 rfl ?_
  refine aw_aload_n C dc_law_366 rfl ?_
  refine aw_iload C dc_law_367 rfl ?_
  refine aw_iconst C dc_law_369 (v := nI 1) rfl ?_
  refine aw_iadd C dc_law_370 ?_
  refine aw_sld C hS hbl hbA (5 * n + 1) (nI_add _ _) (by omega) hL dc_law_371 ?_
  refine aw_aload_n C dc_law_372 rfl ?_
  refine aw_iload C dc_law_373 rfl ?_
  refine aw_iconst C dc_law_375 (v := nI 2) rfl ?_
  refine aw_iadd C dc_law_376 ?_
  refine aw_sld C hS hbl hbA (5 * n + 2) (nI_add _ _) (by omega) hL dc_law_377 ?_
  refine aw_aload_n C dc_law_378 rfl ?_
  refine aw_iload C dc_law_379 rfl ?_
  refine aw_iconst C dc_law_381 (v := nI 3) rfl ?_
  refine aw_iadd C dc_law_382 ?_
  refine aw_sld C hS hbl hbA (5 * n + 3) (nI_add _ _) (by omega) hL dc_law_383 ?_
  refine aw_aload_n C dc_law_384 rfl ?_
  refine aw_iload C dc_law_385 rfl ?_
  refine aw_iconst C dc_law_387 (v := nI 4) rfl ?_
  refine aw_iadd C dc_law_388 ?_
  refine aw_sld C hS hbl hbA (5 * n + 4) (nI_add _ _) (by omega) hL dc_law_389 ?_
  refine kq_Vi (X1 := fun _ => True) (As := [.int (xs (5 * n + 1)), .int (xs (5 * n + 2)), .int (xs (5 * n + 3)), .int (xs (5 * n + 4))]) (n := 4) (P' := va_P D cl_ (ww_ h a o cI cL cF (c', O', nI k, m'))) C (fun _ _ _ _ => trivial) (sp_blind (A := cm_ a) xk_true) (fun H h9 => ww_m (h := h) (o := o) (cF := cF) (x := (c', O', x.2.2)) h9) 0 rf_p0 rfl hMm kw_704 kw_701 kw_702 kw_703 kw_8 rfl (by unfold kd_; decide) ⟨rfl, rfl, Nat.le_trans (by decide) hfr, Nat.le_trans (by decide) hlo⟩ rfl rfl (Nat.le_of_ble_eq_true rfl) ⟨hce, hsl⟩ dc_law_390 hAm (fun H h9 => ww_m (h := h) (o := o) (cF := cF) (x := (c', O', x.2.2)) h9) (fun H H1 h9 hk h1 => ww_mpost (x := (c', O', x.2.2)) hp h9 hk h1) ?_
  refine aw_istore C dc_law_393 (by decide) rfl ?_
  refine aw_aload_n C dc_law_395 rfl ?_
  refine kq_Vi (X1 := fun _ => True) (As := []) (n := 0) (P' := va_P D cl_ (ww_ h a o cI cL cF (c', O', nI k, m'))) C (fun _ _ _ _ => trivial) (sp_blind (A := cm_ a) xk_true) (fun H h9 => ww_m (h := h) (o := o) (cF := cF) (x := (c', O', nI k, m')) h9) 0 rf_p0 rfl (m_thrown l D a cI cL cF (nI k) m'.1 m'.2.1 m'.2.2.1 m'.2.2.2.1 m'.2.2.2.2.1 m'.2.2.2.2.2.1 m'.2.2.2.2.2.2.1 m'.2.2.2.2.2.2.2) kw_667 kw_664 kw_665 kw_666 kw_8 rfl (by unfold kd_; decide) ⟨rfl, rfl, Nat.le_trans (by decide) hfr, Nat.le_trans (by decide) hlo⟩ rfl rfl (Nat.le_of_ble_eq_true rfl) ⟨hce, hsl⟩ dc_law_396 hAm (fun H h9 => ww_m (h := h) (o := o) (cF := cF) (x := (c', O', nI k, m')) h9) (fun H H1 h9 hk h1 => ww_mpost (x := (c', O', nI k, m')) hp h9 hk h1) ?_
  refine aw_iload C dc_law_399 rfl ?_
  refine aw_icmp_eq C dc_law_401 (tgt := 406) (by decide) (fun _ => ?_) (fun h9 => absurd (rfl) h9)
  refine aw_iload C dc_law_406 rfl ?_
  refine aw_if_ne C dc_law_408 (tgt := 423) (by decide) (fun hB408 => ?_) (fun hB408 => ?_)
  · refine aw_goto C dc_law_423 (tgt := 1456) (by decide) ?_
    refine aw_sub (lw' := G_ sc h a o n) (fun j v hj => by
      match j, hj with
      | 0, hj => exact hj
      | 1, hj => exact hj
      | 2, hj => exact hj
      | 3, hj => exact hj
      | 4, hj => exact hj
      | 5, hj => cases hj
      | 6, hj => cases hj) ?_
    exact aw_P (fun H h9 => ⟨(c', O', nI k, m'), hr', h9⟩) kk
  · have hk0 : k = 0 := (ni_z (by omega)).mp hB408
    have hO := hO hk0
    refine aw_aload_n C dc_law_411 rfl ?_
    refine aw_iconst C dc_law_412 (v := nI 0) rfl ?_
    refine aw_lald C 42 1 ww_o rfl 0 rfl (by decide) (by decide) dc_law_413 ?_
    refine aw_iload C dc_law_414 rfl ?_
    refine aw_i2l C dc_law_416 ?_
    refine aw_lcmp C dc_law_417 ?_
    refine aw_eqi (y := 0) (by show lg_cmp (O' 0) _ = 0; rw [hO]; exact lg_self _) ?_
    refine aw_if_eq C dc_law_418 (tgt := 423) (by decide) (fun _ => ?_) (fun h9 => absurd (rfl) h9)
    refine aw_goto C dc_law_423 (tgt := 1456) (by decide) ?_
    refine aw_sub (lw' := G_ sc h a o n) (fun j v hj => by
      match j, hj with
      | 0, hj => exact hj
      | 1, hj => exact hj
      | 2, hj => exact hj
      | 3, hj => exact hj
      | 4, hj => exact hj
      | 5, hj => cases hj
      | 6, hj => cases hj) ?_
    exact aw_P (fun H h9 => ⟨(c', O', nI k, m'), hr', h9⟩) kk
set_option maxHeartbeats 4000000 in
set_option maxRecDepth 100000 in
theorem law_change (hl : l.stackTraces = false) (C : cx p s m args meth c code 7 (c0 :: tw_) "FamilyShelfLaw" D cl_ (ty_s cI cL cF)) (hX : xq_ h th s) (hS : va_X sc L xs s s.heap) (hp : wp_ h a o) (hh : h = s.heap.size) (hsc : sc < h) (hL : L < 2 ^ 31) (hfr : 42 ≤ R.frames) (hlo : 2100 ≤ R.locals) (hce : cells + 1 ≤ R.cells) (hsl : slots + 6 ≤ R.slots) (n : Nat) (hn : 5 * n + 5 ≤ L) (x : wx_) (hr : rr_ x.1 x.2.2.2) (kk : aw p l e R s m args below meth c 7 (fun q => h ≤ q) (cells + 1) (slots + 6) Q (lx_ D h a o cI cL cF) (G_ sc h a o n) 1456 []) : aw p l e R s m args below meth c 7 (fun q => h ≤ q) cells slots Q (va_P D cl_ (ww_ h a o cI cL cF x)) (G_ sc h a o n) 426 [] := by
  have hho : h ≤ o := by rw [hp.2]; exact Nat.le_add_right _ _
  have ho : ¬ ca_ h o := fun h9 => by have h8 : h ≤ o ∧ o < h + 42 := h9; have h7 := hp.2; omega
  have hbl : sc < s.heap.size := by rw [← hh]; exact hsc
  have hbA : ¬ h ≤ sc := Nat.not_le.mpr hsc
  have hAc : ∀ q, sA_ h o q → h ≤ q := sA_le hho
  have hAm : ∀ q, cm_ a q → h ≤ q := fun q h9 => by have h8 : a ≤ q ∧ q < a + 9 := h9; have h7 := hp.1; omega
  obtain ⟨k, c', O', m', r, hk4, hr', hO, hB, hLm, hMm⟩ := b_change l hl D h th a o cI cL cF ho hho x.1 x.2.1 x.2.2.1 x.2.2.2 hr (xs (5 * n + 1)) (xs (5 * n + 2)) (xs (5 * n + 3)) (xs (5 * n + 4))
  refine aw_aload_n C dc_law_426 rfl ?_
  refine aw_aload_n C dc_law_427 rfl ?_
  refine aw_iload C dc_law_428 rfl ?_
  refine aw_iconst C dc_law_430 (v := nI 1) rfl ?_
  refine aw_iadd C dc_law_431 ?_
  refine aw_sld C hS hbl hbA (5 * n + 1) (nI_add _ _) (by omega) hL dc_law_432 ?_
  refine aw_aload_n C dc_law_433 rfl ?_
  refine aw_iload C dc_law_434 rfl ?_
  refine aw_iconst C dc_law_436 (v := nI 2) rfl ?_
  refine aw_iadd C dc_law_437 ?_
  refine aw_sld C hS hbl hbA (5 * n + 2) (nI_add _ _) (by omega) hL dc_law_438 ?_
  refine aw_aload_n C dc_law_439 rfl ?_
  refine aw_iload C dc_law_440 rfl ?_
  refine aw_iconst C dc_law_442 (v := nI 3) rfl ?_
  refine aw_iadd C dc_law_443 ?_
  refine aw_sld C hS hbl hbA (5 * n + 3) (nI_add _ _) (by omega) hL dc_law_444 ?_
  refine aw_aload_n C dc_law_445 rfl ?_
  refine aw_iload C dc_law_446 rfl ?_
  refine aw_iconst C dc_law_448 (v := nI 4) rfl ?_
  refine aw_iadd C dc_law_449 ?_
  refine aw_sld C hS hbl hbA (5 * n + 4) (nI_add _ _) (by omega) hL dc_law_450 ?_
  refine aw_aload_n C dc_law_451 rfl ?_
  refine kq_Si (X1 := xq_ h th) (As := [.ref h, .int (xs (5 * n + 1)), .int (xs (5 * n + 2)), .int (xs (5 * n + 3)), .int (xs (5 * n + 4)), .ref o]) (n := 6) (P' := va_P D cl_ (ww_ h a o cI cL cF (c', O', x.2.2))) C (fun U hW hz hq => xq_k (A := fun q => h ≤ q) (fun q h9 => h9) s U hW hz hq hX) (sp_blind (A := sA_ h o) (xq_k (sA_le hho))) hLm kw_409 kw_407 kw_408 kw_0 (by unfold kd_; decide) ⟨rfl, rfl, Nat.le_trans (by decide) hfr, Nat.le_trans (by decide) hlo⟩ rfl rfl (Nat.le_of_ble_eq_true rfl) ⟨hce, hsl⟩ dc_law_452 hAc (fun H h9 => ww_c h9) (fun H H1 h9 hk h1 => ww_cpost hp h9 hk h1) ?_
  refine aw_istore C dc_law_455 (by decide) rfl ?_
  refine aw_aload_n C dc_law_457 rfl ?_
  refine aw_aload_n C dc_law_458 rfl ?_
  refine aw_iload C dc_law_459 rfl ?_
  refine aw_iconst C dc_law_461 (v := nI 1) rfl ?_
  refine aw_iadd C dc_law_462 ?_
  refine aw_sld C hS hbl hbA (5 * n + 1) (nI_add _ _) (by omega) hL dc_law_463 ?_
  refine aw_aload_n C dc_law_464 rfl ?_
  refine aw_iload C dc_law_465 rfl ?_
  refine aw_iconst C dc_law_467 (v := nI 2) rfl ?_
  refine aw_iadd C dc_law_468 ?_
  refine aw_sld C hS hbl hbA (5 * n + 2) (nI_add _ _) (by omega) hL dc_law_469 ?_
  refine aw_aload_n C dc_law_470 rfl ?_
  refine aw_iload C dc_law_471 rfl ?_
  refine aw_iconst C dc_law_473 (v := nI 3) rfl ?_
  refine aw_iadd C dc_law_474 ?_
  refine aw_sld C hS hbl hbA (5 * n + 3) (nI_add _ _) (by omega) hL dc_law_475 ?_
  refine aw_aload_n C dc_law_476 rfl ?_
  refine aw_iload C dc_law_477 rfl ?_
  refine aw_iconst C dc_law_479 (v := nI 4) rfl ?_
  refine aw_iadd C dc_law_480 ?_
  refine aw_sld C hS hbl hbA (5 * n + 4) (nI_add _ _) (by omega) hL dc_law_481 ?_
  refine kq_Vi (X1 := fun _ => True) (As := [.int (xs (5 * n + 1)), .int (xs (5 * n + 2)), .int (xs (5 * n + 3)), .int (xs (5 * n + 4))]) (n := 4) (P' := va_P D cl_ (ww_ h a o cI cL cF (c', O', nI k, m'))) C (fun _ _ _ _ => trivial) (sp_blind (A := cm_ a) xk_true) (fun H h9 => ww_m (h := h) (o := o) (cF := cF) (x := (c', O', x.2.2)) h9) 0 rf_p0 rfl hMm kw_746 kw_743 kw_744 kw_745 kw_8 rfl (by unfold kd_; decide) ⟨rfl, rfl, Nat.le_trans (by decide) hfr, Nat.le_trans (by decide) hlo⟩ rfl rfl (Nat.le_of_ble_eq_true rfl) ⟨hce, hsl⟩ dc_law_482 hAm (fun H h9 => ww_m (h := h) (o := o) (cF := cF) (x := (c', O', x.2.2)) h9) (fun H H1 h9 hk h1 => ww_mpost (x := (c', O', x.2.2)) hp h9 hk h1) ?_
  refine aw_istore C dc_law_485 (by decide) rfl ?_
  refine aw_aload_n C dc_law_487 rfl ?_
  refine kq_Vi (X1 := fun _ => True) (As := []) (n := 0) (P' := va_P D cl_ (ww_ h a o cI cL cF (c', O', nI k, m'))) C (fun _ _ _ _ => trivial) (sp_blind (A := cm_ a) xk_true) (fun H h9 => ww_m (h := h) (o := o) (cF := cF) (x := (c', O', nI k, m')) h9) 0 rf_p0 rfl (m_thrown l D a cI cL cF (nI k) m'.1 m'.2.1 m'.2.2.1 m'.2.2.2.1 m'.2.2.2.2.1 m'.2.2.2.2.2.1 m'.2.2.2.2.2.2.1 m'.2.2.2.2.2.2.2) kw_667 kw_664 kw_665 kw_666 kw_8 rfl (by unfold kd_; decide) ⟨rfl, rfl, Nat.le_trans (by decide) hfr, Nat.le_trans (by decide) hlo⟩ rfl rfl (Nat.le_of_ble_eq_true rfl) ⟨hce, hsl⟩ dc_law_488 hAm (fun H h9 => ww_m (h := h) (o := o) (cF := cF) (x := (c', O', nI k, m')) h9) (fun H H1 h9 hk h1 => ww_mpost (x := (c', O', nI k, m')) hp h9 hk h1) ?_
  refine aw_iload C dc_law_491 rfl ?_
  refine aw_icmp_eq C dc_law_493 (tgt := 498) (by decide) (fun _ => ?_) (fun h9 => absurd (rfl) h9)
  refine aw_iload C dc_law_498 rfl ?_
  refine aw_if_ne C dc_law_500 (tgt := 515) (by decide) (fun hB500 => ?_) (fun hB500 => ?_)
  · refine aw_goto C dc_law_515 (tgt := 1456) (by decide) ?_
    refine aw_sub (lw' := G_ sc h a o n) (fun j v hj => by
      match j, hj with
      | 0, hj => exact hj
      | 1, hj => exact hj
      | 2, hj => exact hj
      | 3, hj => exact hj
      | 4, hj => exact hj
      | 5, hj => cases hj
      | 6, hj => cases hj) ?_
    exact aw_P (fun H h9 => ⟨(c', O', nI k, m'), hr', h9⟩) kk
  · have hk0 : k = 0 := (ni_z (by omega)).mp hB500
    have hO := hO hk0
    refine aw_aload_n C dc_law_503 rfl ?_
    refine aw_iconst C dc_law_504 (v := nI 0) rfl ?_
    refine aw_lald C 42 1 ww_o rfl 0 rfl (by decide) (by decide) dc_law_505 ?_
    refine aw_iload C dc_law_506 rfl ?_
    refine aw_i2l C dc_law_508 ?_
    refine aw_lcmp C dc_law_509 ?_
    refine aw_eqi (y := 0) (by show lg_cmp (O' 0) _ = 0; rw [hO]; exact lg_self _) ?_
    refine aw_if_eq C dc_law_510 (tgt := 515) (by decide) (fun _ => ?_) (fun h9 => absurd (rfl) h9)
    refine aw_goto C dc_law_515 (tgt := 1456) (by decide) ?_
    refine aw_sub (lw' := G_ sc h a o n) (fun j v hj => by
      match j, hj with
      | 0, hj => exact hj
      | 1, hj => exact hj
      | 2, hj => exact hj
      | 3, hj => exact hj
      | 4, hj => exact hj
      | 5, hj => cases hj
      | 6, hj => cases hj) ?_
    exact aw_P (fun H h9 => ⟨(c', O', nI k, m'), hr', h9⟩) kk
set_option maxHeartbeats 4000000 in
set_option maxRecDepth 100000 in
theorem law_extreme0 (hl : l.stackTraces = false) (C : cx p s m args meth c code 7 (c0 :: tw_) "FamilyShelfLaw" D cl_ (ty_s cI cL cF)) (hX : xq_ h th s) (hS : va_X sc L xs s s.heap) (hp : wp_ h a o) (hh : h = s.heap.size) (hsc : sc < h) (hL : L < 2 ^ 31) (hfr : 42 ≤ R.frames) (hlo : 2100 ≤ R.locals) (hce : cells + 1 ≤ R.cells) (hsl : slots + 6 ≤ R.slots) (n : Nat) (hn : 5 * n + 5 ≤ L) (hd : xs (5 * n + 3) = 0) (x : wx_) (hr : rr_ x.1 x.2.2.2) (kk : aw p l e R s m args below meth c 7 (fun q => h ≤ q) (cells + 1) (slots + 6) Q (lx_ D h a o cI cL cF) (G_ sc h a o n) 1456 []) : aw p l e R s m args below meth c 7 (fun q => h ≤ q) cells slots Q (va_P D cl_ (ww_ h a o cI cL cF x)) (G_ sc h a o n) 518 [] := by
  have hho : h ≤ o := by rw [hp.2]; exact Nat.le_add_right _ _
  have ho : ¬ ca_ h o := fun h9 => by have h8 : h ≤ o ∧ o < h + 42 := h9; have h7 := hp.2; omega
  have hbl : sc < s.heap.size := by rw [← hh]; exact hsc
  have hbA : ¬ h ≤ sc := Nat.not_le.mpr hsc
  have hAc : ∀ q, sA_ h o q → h ≤ q := sA_le hho
  have hAm : ∀ q, cm_ a q → h ≤ q := fun q h9 => by have h8 : a ≤ q ∧ q < a + 9 := h9; have h7 := hp.1; omega
  obtain ⟨k, c', O', m', r, hk4, hr', hO, hB, hLm, hMm⟩ := b_extreme l hl D h th a o cI cL cF ho hho x.1 x.2.1 x.2.2.1 x.2.2.2 hr (xs (5 * n + 1)) (xs (5 * n + 2)) false
  refine aw_aload_n C dc_law_518 rfl ?_
  refine aw_aload_n C dc_law_519 rfl ?_
  refine aw_iload C dc_law_520 rfl ?_
  refine aw_iconst C dc_law_522 (v := nI 1) rfl ?_
  refine aw_iadd C dc_law_523 ?_
  refine aw_sld C hS hbl hbA (5 * n + 1) (nI_add _ _) (by omega) hL dc_law_524 ?_
  refine aw_aload_n C dc_law_525 rfl ?_
  refine aw_iload C dc_law_526 rfl ?_
  refine aw_iconst C dc_law_528 (v := nI 2) rfl ?_
  refine aw_iadd C dc_law_529 ?_
  refine aw_sld C hS hbl hbA (5 * n + 2) (nI_add _ _) (by omega) hL dc_law_530 ?_
  refine aw_aload_n C dc_law_531 rfl ?_
  refine aw_iload C dc_law_532 rfl ?_
  refine aw_iconst C dc_law_534 (v := nI 3) rfl ?_
  refine aw_iadd C dc_law_535 ?_
  refine aw_sld C hS hbl hbA (5 * n + 3) (nI_add _ _) (by omega) hL dc_law_536 ?_
  refine aw_if_eq C dc_law_537 (tgt := 544) (by decide) (fun _ => ?_) (fun h9 => absurd (hd) h9)
  refine aw_iconst C dc_law_544 (v := nI 0) rfl ?_
  refine aw_aload_n C dc_law_545 rfl ?_
  refine kq_Si (X1 := xq_ h th) (As := [.ref h, .int (xs (5 * n + 1)), .int (xs (5 * n + 2)), .int (z1_ false), .ref o]) (n := 5) (P' := va_P D cl_ (ww_ h a o cI cL cF (c', O', x.2.2))) C (fun U hW hz hq => xq_k (A := fun q => h ≤ q) (fun q h9 => h9) s U hW hz hq hX) (sp_blind (A := sA_ h o) (xq_k (sA_le hho))) hLm kw_427 kw_425 kw_426 kw_0 (by unfold kd_; decide) ⟨rfl, rfl, Nat.le_trans (by decide) hfr, Nat.le_trans (by decide) hlo⟩ rfl rfl (Nat.le_of_ble_eq_true rfl) ⟨hce, hsl⟩ dc_law_546 hAc (fun H h9 => ww_c h9) (fun H H1 h9 hk h1 => ww_cpost hp h9 hk h1) ?_
  refine aw_istore C dc_law_549 (by decide) rfl ?_
  refine aw_aload_n C dc_law_551 rfl ?_
  refine aw_aload_n C dc_law_552 rfl ?_
  refine aw_iload C dc_law_553 rfl ?_
  refine aw_iconst C dc_law_555 (v := nI 1) rfl ?_
  refine aw_iadd C dc_law_556 ?_
  refine aw_sld C hS hbl hbA (5 * n + 1) (nI_add _ _) (by omega) hL dc_law_557 ?_
  refine aw_aload_n C dc_law_558 rfl ?_
  refine aw_iload C dc_law_559 rfl ?_
  refine aw_iconst C dc_law_561 (v := nI 2) rfl ?_
  refine aw_iadd C dc_law_562 ?_
  refine aw_sld C hS hbl hbA (5 * n + 2) (nI_add _ _) (by omega) hL dc_law_563 ?_
  refine aw_aload_n C dc_law_564 rfl ?_
  refine aw_iload C dc_law_565 rfl ?_
  refine aw_iconst C dc_law_567 (v := nI 3) rfl ?_
  refine aw_iadd C dc_law_568 ?_
  refine aw_sld C hS hbl hbA (5 * n + 3) (nI_add _ _) (by omega) hL dc_law_569 ?_
  refine aw_if_eq C dc_law_570 (tgt := 577) (by decide) (fun _ => ?_) (fun h9 => absurd (hd) h9)
  refine aw_iconst C dc_law_577 (v := nI 0) rfl ?_
  refine kq_Vi (X1 := fun _ => True) (As := [.int (xs (5 * n + 1)), .int (xs (5 * n + 2)), .int (z1_ false)]) (n := 3) (P' := va_P D cl_ (ww_ h a o cI cL cF (c', O', nI k, m'))) C (fun _ _ _ _ => trivial) (sp_blind (A := cm_ a) xk_true) (fun H h9 => ww_m (h := h) (o := o) (cF := cF) (x := (c', O', x.2.2)) h9) 0 rf_p0 rfl hMm kw_756 kw_753 kw_754 kw_755 kw_8 rfl (by unfold kd_; decide) ⟨rfl, rfl, Nat.le_trans (by decide) hfr, Nat.le_trans (by decide) hlo⟩ rfl rfl (Nat.le_of_ble_eq_true rfl) ⟨hce, hsl⟩ dc_law_578 hAm (fun H h9 => ww_m (h := h) (o := o) (cF := cF) (x := (c', O', x.2.2)) h9) (fun H H1 h9 hk h1 => ww_mpost (x := (c', O', x.2.2)) hp h9 hk h1) ?_
  refine aw_istore C dc_law_581 (by decide) rfl ?_
  refine aw_aload_n C dc_law_583 rfl ?_
  refine kq_Vi (X1 := fun _ => True) (As := []) (n := 0) (P' := va_P D cl_ (ww_ h a o cI cL cF (c', O', nI k, m'))) C (fun _ _ _ _ => trivial) (sp_blind (A := cm_ a) xk_true) (fun H h9 => ww_m (h := h) (o := o) (cF := cF) (x := (c', O', nI k, m')) h9) 0 rf_p0 rfl (m_thrown l D a cI cL cF (nI k) m'.1 m'.2.1 m'.2.2.1 m'.2.2.2.1 m'.2.2.2.2.1 m'.2.2.2.2.2.1 m'.2.2.2.2.2.2.1 m'.2.2.2.2.2.2.2) kw_667 kw_664 kw_665 kw_666 kw_8 rfl (by unfold kd_; decide) ⟨rfl, rfl, Nat.le_trans (by decide) hfr, Nat.le_trans (by decide) hlo⟩ rfl rfl (Nat.le_of_ble_eq_true rfl) ⟨hce, hsl⟩ dc_law_584 hAm (fun H h9 => ww_m (h := h) (o := o) (cF := cF) (x := (c', O', nI k, m')) h9) (fun H H1 h9 hk h1 => ww_mpost (x := (c', O', nI k, m')) hp h9 hk h1) ?_
  refine aw_iload C dc_law_587 rfl ?_
  refine aw_icmp_eq C dc_law_589 (tgt := 594) (by decide) (fun _ => ?_) (fun h9 => absurd (rfl) h9)
  refine aw_iload C dc_law_594 rfl ?_
  refine aw_if_ne C dc_law_596 (tgt := 611) (by decide) (fun hB596 => ?_) (fun hB596 => ?_)
  · refine aw_goto C dc_law_611 (tgt := 1456) (by decide) ?_
    refine aw_sub (lw' := G_ sc h a o n) (fun j v hj => by
      match j, hj with
      | 0, hj => exact hj
      | 1, hj => exact hj
      | 2, hj => exact hj
      | 3, hj => exact hj
      | 4, hj => exact hj
      | 5, hj => cases hj
      | 6, hj => cases hj) ?_
    exact aw_P (fun H h9 => ⟨(c', O', nI k, m'), hr', h9⟩) kk
  · have hk0 : k = 0 := (ni_z (by omega)).mp hB596
    have hO := hO hk0
    refine aw_aload_n C dc_law_599 rfl ?_
    refine aw_iconst C dc_law_600 (v := nI 0) rfl ?_
    refine aw_lald C 42 1 ww_o rfl 0 rfl (by decide) (by decide) dc_law_601 ?_
    refine aw_iload C dc_law_602 rfl ?_
    refine aw_i2l C dc_law_604 ?_
    refine aw_lcmp C dc_law_605 ?_
    refine aw_eqi (y := 0) (by show lg_cmp (O' 0) _ = 0; rw [hO]; exact lg_self _) ?_
    refine aw_if_eq C dc_law_606 (tgt := 611) (by decide) (fun _ => ?_) (fun h9 => absurd (rfl) h9)
    refine aw_goto C dc_law_611 (tgt := 1456) (by decide) ?_
    refine aw_sub (lw' := G_ sc h a o n) (fun j v hj => by
      match j, hj with
      | 0, hj => exact hj
      | 1, hj => exact hj
      | 2, hj => exact hj
      | 3, hj => exact hj
      | 4, hj => exact hj
      | 5, hj => cases hj
      | 6, hj => cases hj) ?_
    exact aw_P (fun H h9 => ⟨(c', O', nI k, m'), hr', h9⟩) kk
set_option maxHeartbeats 4000000 in
set_option maxRecDepth 100000 in
theorem law_extreme1 (hl : l.stackTraces = false) (C : cx p s m args meth c code 7 (c0 :: tw_) "FamilyShelfLaw" D cl_ (ty_s cI cL cF)) (hX : xq_ h th s) (hS : va_X sc L xs s s.heap) (hp : wp_ h a o) (hh : h = s.heap.size) (hsc : sc < h) (hL : L < 2 ^ 31) (hfr : 42 ≤ R.frames) (hlo : 2100 ≤ R.locals) (hce : cells + 1 ≤ R.cells) (hsl : slots + 6 ≤ R.slots) (n : Nat) (hn : 5 * n + 5 ≤ L) (hd : ¬ xs (5 * n + 3) = 0) (x : wx_) (hr : rr_ x.1 x.2.2.2) (kk : aw p l e R s m args below meth c 7 (fun q => h ≤ q) (cells + 1) (slots + 6) Q (lx_ D h a o cI cL cF) (G_ sc h a o n) 1456 []) : aw p l e R s m args below meth c 7 (fun q => h ≤ q) cells slots Q (va_P D cl_ (ww_ h a o cI cL cF x)) (G_ sc h a o n) 518 [] := by
  have hho : h ≤ o := by rw [hp.2]; exact Nat.le_add_right _ _
  have ho : ¬ ca_ h o := fun h9 => by have h8 : h ≤ o ∧ o < h + 42 := h9; have h7 := hp.2; omega
  have hbl : sc < s.heap.size := by rw [← hh]; exact hsc
  have hbA : ¬ h ≤ sc := Nat.not_le.mpr hsc
  have hAc : ∀ q, sA_ h o q → h ≤ q := sA_le hho
  have hAm : ∀ q, cm_ a q → h ≤ q := fun q h9 => by have h8 : a ≤ q ∧ q < a + 9 := h9; have h7 := hp.1; omega
  obtain ⟨k, c', O', m', r, hk4, hr', hO, hB, hLm, hMm⟩ := b_extreme l hl D h th a o cI cL cF ho hho x.1 x.2.1 x.2.2.1 x.2.2.2 hr (xs (5 * n + 1)) (xs (5 * n + 2)) true
  refine aw_aload_n C dc_law_518 rfl ?_
  refine aw_aload_n C dc_law_519 rfl ?_
  refine aw_iload C dc_law_520 rfl ?_
  refine aw_iconst C dc_law_522 (v := nI 1) rfl ?_
  refine aw_iadd C dc_law_523 ?_
  refine aw_sld C hS hbl hbA (5 * n + 1) (nI_add _ _) (by omega) hL dc_law_524 ?_
  refine aw_aload_n C dc_law_525 rfl ?_
  refine aw_iload C dc_law_526 rfl ?_
  refine aw_iconst C dc_law_528 (v := nI 2) rfl ?_
  refine aw_iadd C dc_law_529 ?_
  refine aw_sld C hS hbl hbA (5 * n + 2) (nI_add _ _) (by omega) hL dc_law_530 ?_
  refine aw_aload_n C dc_law_531 rfl ?_
  refine aw_iload C dc_law_532 rfl ?_
  refine aw_iconst C dc_law_534 (v := nI 3) rfl ?_
  refine aw_iadd C dc_law_535 ?_
  refine aw_sld C hS hbl hbA (5 * n + 3) (nI_add _ _) (by omega) hL dc_law_536 ?_
  refine aw_if_eq C dc_law_537 (tgt := 544) (by decide) (fun h9 => absurd h9 (hd)) (fun _ => ?_)
  refine aw_iconst C dc_law_540 (v := nI 1) rfl ?_
  refine aw_goto C dc_law_541 (tgt := 545) (by decide) ?_
  refine aw_aload_n C dc_law_545 rfl ?_
  refine kq_Si (X1 := xq_ h th) (As := [.ref h, .int (xs (5 * n + 1)), .int (xs (5 * n + 2)), .int (z1_ true), .ref o]) (n := 5) (P' := va_P D cl_ (ww_ h a o cI cL cF (c', O', x.2.2))) C (fun U hW hz hq => xq_k (A := fun q => h ≤ q) (fun q h9 => h9) s U hW hz hq hX) (sp_blind (A := sA_ h o) (xq_k (sA_le hho))) hLm kw_427 kw_425 kw_426 kw_0 (by unfold kd_; decide) ⟨rfl, rfl, Nat.le_trans (by decide) hfr, Nat.le_trans (by decide) hlo⟩ rfl rfl (Nat.le_of_ble_eq_true rfl) ⟨hce, hsl⟩ dc_law_546 hAc (fun H h9 => ww_c h9) (fun H H1 h9 hk h1 => ww_cpost hp h9 hk h1) ?_
  refine aw_istore C dc_law_549 (by decide) rfl ?_
  refine aw_aload_n C dc_law_551 rfl ?_
  refine aw_aload_n C dc_law_552 rfl ?_
  refine aw_iload C dc_law_553 rfl ?_
  refine aw_iconst C dc_law_555 (v := nI 1) rfl ?_
  refine aw_iadd C dc_law_556 ?_
  refine aw_sld C hS hbl hbA (5 * n + 1) (nI_add _ _) (by omega) hL dc_law_557 ?_
  refine aw_aload_n C dc_law_558 rfl ?_
  refine aw_iload C dc_law_559 rfl ?_
  refine aw_iconst C dc_law_561 (v := nI 2) rfl ?_
  refine aw_iadd C dc_law_562 ?_
  refine aw_sld C hS hbl hbA (5 * n + 2) (nI_add _ _) (by omega) hL dc_law_563 ?_
  refine aw_aload_n C dc_law_564 rfl ?_
  refine aw_iload C dc_law_565 rfl ?_
  refine aw_iconst C dc_law_567 (v := nI 3) rfl ?_
  refine aw_iadd C dc_law_568 ?_
  refine aw_sld C hS hbl hbA (5 * n + 3) (nI_add _ _) (by omega) hL dc_law_569 ?_
  refine aw_if_eq C dc_law_570 (tgt := 577) (by decide) (fun h9 => absurd h9 (hd)) (fun _ => ?_)
  refine aw_iconst C dc_law_573 (v := nI 1) rfl ?_
  refine aw_goto C dc_law_574 (tgt := 578) (by decide) ?_
  refine kq_Vi (X1 := fun _ => True) (As := [.int (xs (5 * n + 1)), .int (xs (5 * n + 2)), .int (z1_ true)]) (n := 3) (P' := va_P D cl_ (ww_ h a o cI cL cF (c', O', nI k, m'))) C (fun _ _ _ _ => trivial) (sp_blind (A := cm_ a) xk_true) (fun H h9 => ww_m (h := h) (o := o) (cF := cF) (x := (c', O', x.2.2)) h9) 0 rf_p0 rfl hMm kw_756 kw_753 kw_754 kw_755 kw_8 rfl (by unfold kd_; decide) ⟨rfl, rfl, Nat.le_trans (by decide) hfr, Nat.le_trans (by decide) hlo⟩ rfl rfl (Nat.le_of_ble_eq_true rfl) ⟨hce, hsl⟩ dc_law_578 hAm (fun H h9 => ww_m (h := h) (o := o) (cF := cF) (x := (c', O', x.2.2)) h9) (fun H H1 h9 hk h1 => ww_mpost (x := (c', O', x.2.2)) hp h9 hk h1) ?_
  refine aw_istore C dc_law_581 (by decide) rfl ?_
  refine aw_aload_n C dc_law_583 rfl ?_
  refine kq_Vi (X1 := fun _ => True) (As := []) (n := 0) (P' := va_P D cl_ (ww_ h a o cI cL cF (c', O', nI k, m'))) C (fun _ _ _ _ => trivial) (sp_blind (A := cm_ a) xk_true) (fun H h9 => ww_m (h := h) (o := o) (cF := cF) (x := (c', O', nI k, m')) h9) 0 rf_p0 rfl (m_thrown l D a cI cL cF (nI k) m'.1 m'.2.1 m'.2.2.1 m'.2.2.2.1 m'.2.2.2.2.1 m'.2.2.2.2.2.1 m'.2.2.2.2.2.2.1 m'.2.2.2.2.2.2.2) kw_667 kw_664 kw_665 kw_666 kw_8 rfl (by unfold kd_; decide) ⟨rfl, rfl, Nat.le_trans (by decide) hfr, Nat.le_trans (by decide) hlo⟩ rfl rfl (Nat.le_of_ble_eq_true rfl) ⟨hce, hsl⟩ dc_law_584 hAm (fun H h9 => ww_m (h := h) (o := o) (cF := cF) (x := (c', O', nI k, m')) h9) (fun H H1 h9 hk h1 => ww_mpost (x := (c', O', nI k, m')) hp h9 hk h1) ?_
  refine aw_iload C dc_law_587 rfl ?_
  refine aw_icmp_eq C dc_law_589 (tgt := 594) (by decide) (fun _ => ?_) (fun h9 => absurd (rfl) h9)
  refine aw_iload C dc_law_594 rfl ?_
  refine aw_if_ne C dc_law_596 (tgt := 611) (by decide) (fun hB596 => ?_) (fun hB596 => ?_)
  · refine aw_goto C dc_law_611 (tgt := 1456) (by decide) ?_
    refine aw_sub (lw' := G_ sc h a o n) (fun j v hj => by
      match j, hj with
      | 0, hj => exact hj
      | 1, hj => exact hj
      | 2, hj => exact hj
      | 3, hj => exact hj
      | 4, hj => exact hj
      | 5, hj => cases hj
      | 6, hj => cases hj) ?_
    exact aw_P (fun H h9 => ⟨(c', O', nI k, m'), hr', h9⟩) kk
  · have hk0 : k = 0 := (ni_z (by omega)).mp hB596
    have hO := hO hk0
    refine aw_aload_n C dc_law_599 rfl ?_
    refine aw_iconst C dc_law_600 (v := nI 0) rfl ?_
    refine aw_lald C 42 1 ww_o rfl 0 rfl (by decide) (by decide) dc_law_601 ?_
    refine aw_iload C dc_law_602 rfl ?_
    refine aw_i2l C dc_law_604 ?_
    refine aw_lcmp C dc_law_605 ?_
    refine aw_eqi (y := 0) (by show lg_cmp (O' 0) _ = 0; rw [hO]; exact lg_self _) ?_
    refine aw_if_eq C dc_law_606 (tgt := 611) (by decide) (fun _ => ?_) (fun h9 => absurd (rfl) h9)
    refine aw_goto C dc_law_611 (tgt := 1456) (by decide) ?_
    refine aw_sub (lw' := G_ sc h a o n) (fun j v hj => by
      match j, hj with
      | 0, hj => exact hj
      | 1, hj => exact hj
      | 2, hj => exact hj
      | 3, hj => exact hj
      | 4, hj => exact hj
      | 5, hj => cases hj
      | 6, hj => cases hj) ?_
    exact aw_P (fun H h9 => ⟨(c', O', nI k, m'), hr', h9⟩) kk
set_option maxHeartbeats 4000000 in
set_option maxRecDepth 100000 in
theorem law_sized (hl : l.stackTraces = false) (C : cx p s m args meth c code 7 (c0 :: tw_) "FamilyShelfLaw" D cl_ (ty_s cI cL cF)) (hX : xq_ h th s) (hS : va_X sc L xs s s.heap) (hp : wp_ h a o) (hh : h = s.heap.size) (hsc : sc < h) (hL : L < 2 ^ 31) (hfr : 42 ≤ R.frames) (hlo : 2100 ≤ R.locals) (hce : cells + 1 ≤ R.cells) (hsl : slots + 6 ≤ R.slots) (n : Nat) (hn : 5 * n + 5 ≤ L) (x : wx_) (hr : rr_ x.1 x.2.2.2) (kk : aw p l e R s m args below meth c 7 (fun q => h ≤ q) (cells + 1) (slots + 6) Q (lx_ D h a o cI cL cF) (G_ sc h a o n) 1456 []) : aw p l e R s m args below meth c 7 (fun q => h ≤ q) cells slots Q (va_P D cl_ (ww_ h a o cI cL cF x)) (G_ sc h a o n) 614 [] := by
  have hho : h ≤ o := by rw [hp.2]; exact Nat.le_add_right _ _
  have ho : ¬ ca_ h o := fun h9 => by have h8 : h ≤ o ∧ o < h + 42 := h9; have h7 := hp.2; omega
  have hbl : sc < s.heap.size := by rw [← hh]; exact hsc
  have hbA : ¬ h ≤ sc := Nat.not_le.mpr hsc
  have hAc : ∀ q, sA_ h o q → h ≤ q := sA_le hho
  have hAm : ∀ q, cm_ a q → h ≤ q := fun q h9 => by have h8 : a ≤ q ∧ q < a + 9 := h9; have h7 := hp.1; omega
  obtain ⟨k, c', O', m', r, hk4, hr', hO, hB, hLm, hMm⟩ := b_sized l hl D h th a o cI cL cF ho hho x.1 x.2.1 x.2.2.1 x.2.2.2 hr (xs (5 * n + 1)) (xs (5 * n + 2)) (xs (5 * n + 3))
  refine aw_aload_n C dc_law_614 rfl ?_
  refine aw_aload_n C dc_law_615 rfl ?_
  refine aw_iload C dc_law_616 rfl ?_
  refine aw_iconst C dc_law_618 (v := nI 1) rfl ?_
  refine aw_iadd C dc_law_619 ?_
  refine aw_sld C hS hbl hbA (5 * n + 1) (nI_add _ _) (by omega) hL dc_law_620 ?_
  refine aw_aload_n C dc_law_621 rfl ?_
  refine aw_iload C dc_law_622 rfl ?_
  refine aw_iconst C dc_law_624 (v := nI 2) rfl ?_
  refine aw_iadd C dc_law_625 ?_
  refine aw_sld C hS hbl hbA (5 * n + 2) (nI_add _ _) (by omega) hL dc_law_626 ?_
  refine aw_aload_n C dc_law_627 rfl ?_
  refine aw_iload C dc_law_628 rfl ?_
  refine aw_iconst C dc_law_630 (v := nI 3) rfl ?_
  refine aw_iadd C dc_law_631 ?_
  refine aw_sld C hS hbl hbA (5 * n + 3) (nI_add _ _) (by omega) hL dc_law_632 ?_
  refine aw_aload_n C dc_law_633 rfl ?_
  refine kq_Si (X1 := xq_ h th) (As := [.ref h, .int (xs (5 * n + 1)), .int (xs (5 * n + 2)), .int (xs (5 * n + 3)), .ref o]) (n := 5) (P' := va_P D cl_ (ww_ h a o cI cL cF (c', O', x.2.2))) C (fun U hW hz hq => xq_k (A := fun q => h ≤ q) (fun q h9 => h9) s U hW hz hq hX) (sp_blind (A := sA_ h o) (xq_k (sA_le hho))) hLm kw_443 kw_441 kw_442 kw_0 (by unfold kd_; decide) ⟨rfl, rfl, Nat.le_trans (by decide) hfr, Nat.le_trans (by decide) hlo⟩ rfl rfl (Nat.le_of_ble_eq_true rfl) ⟨hce, hsl⟩ dc_law_634 hAc (fun H h9 => ww_c h9) (fun H H1 h9 hk h1 => ww_cpost hp h9 hk h1) ?_
  refine aw_istore C dc_law_637 (by decide) rfl ?_
  refine aw_aload_n C dc_law_639 rfl ?_
  refine aw_aload_n C dc_law_640 rfl ?_
  refine aw_iload C dc_law_641 rfl ?_
  refine aw_iconst C dc_law_643 (v := nI 1) rfl ?_
  refine aw_iadd C dc_law_644 ?_
  refine aw_sld C hS hbl hbA (5 * n + 1) (nI_add _ _) (by omega) hL dc_law_645 ?_
  refine aw_aload_n C dc_law_646 rfl ?_
  refine aw_iload C dc_law_647 rfl ?_
  refine aw_iconst C dc_law_649 (v := nI 2) rfl ?_
  refine aw_iadd C dc_law_650 ?_
  refine aw_sld C hS hbl hbA (5 * n + 2) (nI_add _ _) (by omega) hL dc_law_651 ?_
  refine aw_aload_n C dc_law_652 rfl ?_
  refine aw_iload C dc_law_653 rfl ?_
  refine aw_iconst C dc_law_655 (v := nI 3) rfl ?_
  refine aw_iadd C dc_law_656 ?_
  refine aw_sld C hS hbl hbA (5 * n + 3) (nI_add _ _) (by omega) hL dc_law_657 ?_
  refine kq_Vi (X1 := fun _ => True) (As := [.int (xs (5 * n + 1)), .int (xs (5 * n + 2)), .int (xs (5 * n + 3))]) (n := 3) (P' := va_P D cl_ (ww_ h a o cI cL cF (c', O', nI k, m'))) C (fun _ _ _ _ => trivial) (sp_blind (A := cm_ a) xk_true) (fun H h9 => ww_m (h := h) (o := o) (cF := cF) (x := (c', O', x.2.2)) h9) 0 rf_p0 rfl hMm kw_760 kw_757 kw_758 kw_759 kw_8 rfl (by unfold kd_; decide) ⟨rfl, rfl, Nat.le_trans (by decide) hfr, Nat.le_trans (by decide) hlo⟩ rfl rfl (Nat.le_of_ble_eq_true rfl) ⟨hce, hsl⟩ dc_law_658 hAm (fun H h9 => ww_m (h := h) (o := o) (cF := cF) (x := (c', O', x.2.2)) h9) (fun H H1 h9 hk h1 => ww_mpost (x := (c', O', x.2.2)) hp h9 hk h1) ?_
  refine aw_istore C dc_law_661 (by decide) rfl ?_
  refine aw_aload_n C dc_law_663 rfl ?_
  refine kq_Vi (X1 := fun _ => True) (As := []) (n := 0) (P' := va_P D cl_ (ww_ h a o cI cL cF (c', O', nI k, m'))) C (fun _ _ _ _ => trivial) (sp_blind (A := cm_ a) xk_true) (fun H h9 => ww_m (h := h) (o := o) (cF := cF) (x := (c', O', nI k, m')) h9) 0 rf_p0 rfl (m_thrown l D a cI cL cF (nI k) m'.1 m'.2.1 m'.2.2.1 m'.2.2.2.1 m'.2.2.2.2.1 m'.2.2.2.2.2.1 m'.2.2.2.2.2.2.1 m'.2.2.2.2.2.2.2) kw_667 kw_664 kw_665 kw_666 kw_8 rfl (by unfold kd_; decide) ⟨rfl, rfl, Nat.le_trans (by decide) hfr, Nat.le_trans (by decide) hlo⟩ rfl rfl (Nat.le_of_ble_eq_true rfl) ⟨hce, hsl⟩ dc_law_664 hAm (fun H h9 => ww_m (h := h) (o := o) (cF := cF) (x := (c', O', nI k, m')) h9) (fun H H1 h9 hk h1 => ww_mpost (x := (c', O', nI k, m')) hp h9 hk h1) ?_
  refine aw_iload C dc_law_667 rfl ?_
  refine aw_icmp_eq C dc_law_669 (tgt := 674) (by decide) (fun _ => ?_) (fun h9 => absurd (rfl) h9)
  refine aw_iload C dc_law_674 rfl ?_
  refine aw_if_ne C dc_law_676 (tgt := 691) (by decide) (fun hB676 => ?_) (fun hB676 => ?_)
  · refine aw_goto C dc_law_691 (tgt := 1456) (by decide) ?_
    refine aw_sub (lw' := G_ sc h a o n) (fun j v hj => by
      match j, hj with
      | 0, hj => exact hj
      | 1, hj => exact hj
      | 2, hj => exact hj
      | 3, hj => exact hj
      | 4, hj => exact hj
      | 5, hj => cases hj
      | 6, hj => cases hj) ?_
    exact aw_P (fun H h9 => ⟨(c', O', nI k, m'), hr', h9⟩) kk
  · have hk0 : k = 0 := (ni_z (by omega)).mp hB676
    have hO := hO hk0
    refine aw_aload_n C dc_law_679 rfl ?_
    refine aw_iconst C dc_law_680 (v := nI 0) rfl ?_
    refine aw_lald C 42 1 ww_o rfl 0 rfl (by decide) (by decide) dc_law_681 ?_
    refine aw_iload C dc_law_682 rfl ?_
    refine aw_i2l C dc_law_684 ?_
    refine aw_lcmp C dc_law_685 ?_
    refine aw_eqi (y := 0) (by show lg_cmp (O' 0) _ = 0; rw [hO]; exact lg_self _) ?_
    refine aw_if_eq C dc_law_686 (tgt := 691) (by decide) (fun _ => ?_) (fun h9 => absurd (rfl) h9)
    refine aw_goto C dc_law_691 (tgt := 1456) (by decide) ?_
    refine aw_sub (lw' := G_ sc h a o n) (fun j v hj => by
      match j, hj with
      | 0, hj => exact hj
      | 1, hj => exact hj
      | 2, hj => exact hj
      | 3, hj => exact hj
      | 4, hj => exact hj
      | 5, hj => cases hj
      | 6, hj => cases hj) ?_
    exact aw_P (fun H h9 => ⟨(c', O', nI k, m'), hr', h9⟩) kk
set_option maxHeartbeats 4000000 in
set_option maxRecDepth 100000 in
theorem law_edge (hl : l.stackTraces = false) (C : cx p s m args meth c code 7 (c0 :: tw_) "FamilyShelfLaw" D cl_ (ty_s cI cL cF)) (hX : xq_ h th s) (hS : va_X sc L xs s s.heap) (hp : wp_ h a o) (hh : h = s.heap.size) (hsc : sc < h) (hL : L < 2 ^ 31) (hfr : 42 ≤ R.frames) (hlo : 2100 ≤ R.locals) (hce : cells + 1 ≤ R.cells) (hsl : slots + 6 ≤ R.slots) (n : Nat) (hn : 5 * n + 5 ≤ L) (x : wx_) (hr : rr_ x.1 x.2.2.2) (kk : aw p l e R s m args below meth c 7 (fun q => h ≤ q) (cells + 1) (slots + 6) Q (lx_ D h a o cI cL cF) (G_ sc h a o n) 1456 []) : aw p l e R s m args below meth c 7 (fun q => h ≤ q) cells slots Q (va_P D cl_ (ww_ h a o cI cL cF x)) (G_ sc h a o n) 694 [] := by
  have hho : h ≤ o := by rw [hp.2]; exact Nat.le_add_right _ _
  have ho : ¬ ca_ h o := fun h9 => by have h8 : h ≤ o ∧ o < h + 42 := h9; have h7 := hp.2; omega
  have hbl : sc < s.heap.size := by rw [← hh]; exact hsc
  have hbA : ¬ h ≤ sc := Nat.not_le.mpr hsc
  have hAc : ∀ q, sA_ h o q → h ≤ q := sA_le hho
  have hAm : ∀ q, cm_ a q → h ≤ q := fun q h9 => by have h8 : a ≤ q ∧ q < a + 9 := h9; have h7 := hp.1; omega
  obtain ⟨k, c', O', m', hk4, hr', hLm, hMm⟩ := b_edge l hl D h th a o cI cL cF ho hho x.1 x.2.1 x.2.2.1 x.2.2.2 hr (xs (5 * n + 1)) (xs (5 * n + 2)) (xs (5 * n + 3))
  refine aw_aload_n C dc_law_694 rfl ?_
  refine aw_aload_n C dc_law_695 rfl ?_
  refine aw_iload C dc_law_696 rfl ?_
  refine aw_iconst C dc_law_698 (v := nI 1) rfl ?_
  refine aw_iadd C dc_law_699 ?_
  refine aw_sld C hS hbl hbA (5 * n + 1) (nI_add _ _) (by omega) hL dc_law_700 ?_
  refine aw_aload_n C dc_law_701 rfl ?_
  refine aw_iload C dc_law_702 rfl ?_
  refine aw_iconst C dc_law_704 (v := nI 2) rfl ?_
  refine aw_iadd C dc_law_705 ?_
  refine aw_sld C hS hbl hbA (5 * n + 2) (nI_add _ _) (by omega) hL dc_law_706 ?_
  refine aw_aload_n C dc_law_707 rfl ?_
  refine aw_iload C dc_law_708 rfl ?_
  refine aw_iconst C dc_law_710 (v := nI 3) rfl ?_
  refine aw_iadd C dc_law_711 ?_
  refine aw_sld C hS hbl hbA (5 * n + 3) (nI_add _ _) (by omega) hL dc_law_712 ?_
  refine kq_Si (X1 := xq_ h th) (As := [.ref h, .int (xs (5 * n + 1)), .int (xs (5 * n + 2)), .int (xs (5 * n + 3))]) (n := 4) (P' := va_P D cl_ (ww_ h a o cI cL cF (c', O', x.2.2))) C (fun U hW hz hq => xq_k (A := fun q => h ≤ q) (fun q h9 => h9) s U hW hz hq hX) (sp_blind (A := sA_ h o) (xq_k (sA_le hho))) hLm kw_454 kw_452 kw_453 kw_0 (by unfold kd_; decide) ⟨rfl, rfl, Nat.le_trans (by decide) hfr, Nat.le_trans (by decide) hlo⟩ rfl rfl (Nat.le_of_ble_eq_true rfl) ⟨hce, hsl⟩ dc_law_713 hAc (fun H h9 => ww_c h9) (fun H H1 h9 hk h1 => ww_cpost hp h9 hk h1) ?_
  refine aw_istore C dc_law_716 (by decide) rfl ?_
  refine aw_aload_n C dc_law_718 rfl ?_
  refine aw_aload_n C dc_law_719 rfl ?_
  refine aw_iload C dc_law_720 rfl ?_
  refine aw_iconst C dc_law_722 (v := nI 1) rfl ?_
  refine aw_iadd C dc_law_723 ?_
  refine aw_sld C hS hbl hbA (5 * n + 1) (nI_add _ _) (by omega) hL dc_law_724 ?_
  refine aw_aload_n C dc_law_725 rfl ?_
  refine aw_iload C dc_law_726 rfl ?_
  refine aw_iconst C dc_law_728 (v := nI 2) rfl ?_
  refine aw_iadd C dc_law_729 ?_
  refine aw_sld C hS hbl hbA (5 * n + 2) (nI_add _ _) (by omega) hL dc_law_730 ?_
  refine aw_aload_n C dc_law_731 rfl ?_
  refine aw_iload C dc_law_732 rfl ?_
  refine aw_iconst C dc_law_734 (v := nI 3) rfl ?_
  refine aw_iadd C dc_law_735 ?_
  refine aw_sld C hS hbl hbA (5 * n + 3) (nI_add _ _) (by omega) hL dc_law_736 ?_
  refine kq_Vv (X1 := fun _ => True) (As := [.int (xs (5 * n + 1)), .int (xs (5 * n + 2)), .int (xs (5 * n + 3))]) (n := 3) (P' := va_P D cl_ (ww_ h a o cI cL cF (c', O', nI k, m'))) C (fun _ _ _ _ => trivial) (sp_blind (A := cm_ a) xk_true) (fun H h9 => ww_m (h := h) (o := o) (cF := cF) (x := (c', O', x.2.2)) h9) 0 rf_p0 rfl hMm kw_764 kw_761 kw_762 kw_763 kw_8 rfl (by unfold kd_; decide) ⟨rfl, rfl, Nat.le_trans (by decide) hfr, Nat.le_trans (by decide) hlo⟩ rfl rfl (Nat.le_of_ble_eq_true rfl) ⟨hce, hsl⟩ dc_law_737 hAm (fun H h9 => ww_m (h := h) (o := o) (cF := cF) (x := (c', O', x.2.2)) h9) (fun H H1 h9 hk h1 => ww_mpost (x := (c', O', x.2.2)) hp h9 hk h1) ?_
  refine aw_aload_n C dc_law_740 rfl ?_
  refine kq_Vi (X1 := fun _ => True) (As := []) (n := 0) (P' := va_P D cl_ (ww_ h a o cI cL cF (c', O', nI k, m'))) C (fun _ _ _ _ => trivial) (sp_blind (A := cm_ a) xk_true) (fun H h9 => ww_m (h := h) (o := o) (cF := cF) (x := (c', O', nI k, m')) h9) 0 rf_p0 rfl (m_thrown l D a cI cL cF (nI k) m'.1 m'.2.1 m'.2.2.1 m'.2.2.2.1 m'.2.2.2.2.1 m'.2.2.2.2.2.1 m'.2.2.2.2.2.2.1 m'.2.2.2.2.2.2.2) kw_667 kw_664 kw_665 kw_666 kw_8 rfl (by unfold kd_; decide) ⟨rfl, rfl, Nat.le_trans (by decide) hfr, Nat.le_trans (by decide) hlo⟩ rfl rfl (Nat.le_of_ble_eq_true rfl) ⟨hce, hsl⟩ dc_law_741 hAm (fun H h9 => ww_m (h := h) (o := o) (cF := cF) (x := (c', O', nI k, m')) h9) (fun H H1 h9 hk h1 => ww_mpost (x := (c', O', nI k, m')) hp h9 hk h1) ?_
  refine aw_iload C dc_law_744 rfl ?_
  refine aw_icmp_eq C dc_law_746 (tgt := 751) (by decide) (fun _ => ?_) (fun h9 => absurd (rfl) h9)
  refine aw_goto C dc_law_751 (tgt := 1456) (by decide) ?_
  refine aw_sub (lw' := G_ sc h a o n) (fun j v hj => by
    match j, hj with
    | 0, hj => exact hj
    | 1, hj => exact hj
    | 2, hj => exact hj
    | 3, hj => exact hj
    | 4, hj => exact hj
    | 5, hj => cases hj
    | 6, hj => cases hj) ?_
  exact aw_P (fun H h9 => ⟨(c', O', nI k, m'), hr', h9⟩) kk
set_option maxHeartbeats 4000000 in
set_option maxRecDepth 100000 in
theorem law_cut (hl : l.stackTraces = false) (C : cx p s m args meth c code 7 (c0 :: tw_) "FamilyShelfLaw" D cl_ (ty_s cI cL cF)) (hX : xq_ h th s) (hS : va_X sc L xs s s.heap) (hp : wp_ h a o) (hh : h = s.heap.size) (hsc : sc < h) (hL : L < 2 ^ 31) (hfr : 42 ≤ R.frames) (hlo : 2100 ≤ R.locals) (hce : cells + 1 ≤ R.cells) (hsl : slots + 6 ≤ R.slots) (n : Nat) (hn : 5 * n + 5 ≤ L) (x : wx_) (hr : rr_ x.1 x.2.2.2) (kk : aw p l e R s m args below meth c 7 (fun q => h ≤ q) (cells + 1) (slots + 6) Q (lx_ D h a o cI cL cF) (G_ sc h a o n) 1456 []) : aw p l e R s m args below meth c 7 (fun q => h ≤ q) cells slots Q (va_P D cl_ (ww_ h a o cI cL cF x)) (G_ sc h a o n) 754 [] := by
  have hho : h ≤ o := by rw [hp.2]; exact Nat.le_add_right _ _
  have ho : ¬ ca_ h o := fun h9 => by have h8 : h ≤ o ∧ o < h + 42 := h9; have h7 := hp.2; omega
  have hbl : sc < s.heap.size := by rw [← hh]; exact hsc
  have hbA : ¬ h ≤ sc := Nat.not_le.mpr hsc
  have hAc : ∀ q, sA_ h o q → h ≤ q := sA_le hho
  have hAm : ∀ q, cm_ a q → h ≤ q := fun q h9 => by have h8 : a ≤ q ∧ q < a + 9 := h9; have h7 := hp.1; omega
  obtain ⟨k, c', O', m', r, hk4, hr', hO, hB, hLm, hMm⟩ := b_cut l hl D h th a o cI cL cF ho hho x.1 x.2.1 x.2.2.1 x.2.2.2 hr (xs (5 * n + 1))
  refine aw_aload_n C dc_law_754 rfl ?_
  refine aw_aload_n C dc_law_755 rfl ?_
  refine aw_iload C dc_law_756 rfl ?_
  refine aw_iconst C dc_law_758 (v := nI 1) rfl ?_
  refine aw_iadd C dc_law_759 ?_
  refine aw_sld C hS hbl hbA (5 * n + 1) (nI_add _ _) (by omega) hL dc_law_760 ?_
  refine aw_aload_n C dc_law_761 rfl ?_
  refine kq_Si (X1 := xq_ h th) (As := [.ref h, .int (xs (5 * n + 1)), .ref o]) (n := 3) (P' := va_P D cl_ (ww_ h a o cI cL cF (c', O', x.2.2))) C (fun U hW hz hq => xq_k (A := fun q => h ≤ q) (fun q h9 => h9) s U hW hz hq hX) (sp_blind (A := sA_ h o) (xq_k (sA_le hho))) hLm kw_473 kw_471 kw_472 kw_0 (by unfold kd_; decide) ⟨rfl, rfl, Nat.le_trans (by decide) hfr, Nat.le_trans (by decide) hlo⟩ rfl rfl (Nat.le_of_ble_eq_true rfl) ⟨hce, hsl⟩ dc_law_762 hAc (fun H h9 => ww_c h9) (fun H H1 h9 hk h1 => ww_cpost hp h9 hk h1) ?_
  refine aw_istore C dc_law_765 (by decide) rfl ?_
  refine aw_aload_n C dc_law_767 rfl ?_
  refine aw_aload_n C dc_law_768 rfl ?_
  refine aw_iload C dc_law_769 rfl ?_
  refine aw_iconst C dc_law_771 (v := nI 1) rfl ?_
  refine aw_iadd C dc_law_772 ?_
  refine aw_sld C hS hbl hbA (5 * n + 1) (nI_add _ _) (by omega) hL dc_law_773 ?_
  refine kq_Vi (X1 := fun _ => True) (As := [.int (xs (5 * n + 1))]) (n := 1) (P' := va_P D cl_ (ww_ h a o cI cL cF (c', O', nI k, m'))) C (fun _ _ _ _ => trivial) (sp_blind (A := cm_ a) xk_true) (fun H h9 => ww_m (h := h) (o := o) (cF := cF) (x := (c', O', x.2.2)) h9) 0 rf_p0 rfl hMm kw_771 kw_768 kw_769 kw_770 kw_8 rfl (by unfold kd_; decide) ⟨rfl, rfl, Nat.le_trans (by decide) hfr, Nat.le_trans (by decide) hlo⟩ rfl rfl (Nat.le_of_ble_eq_true rfl) ⟨hce, hsl⟩ dc_law_774 hAm (fun H h9 => ww_m (h := h) (o := o) (cF := cF) (x := (c', O', x.2.2)) h9) (fun H H1 h9 hk h1 => ww_mpost (x := (c', O', x.2.2)) hp h9 hk h1) ?_
  refine aw_istore C dc_law_777 (by decide) rfl ?_
  refine aw_aload_n C dc_law_779 rfl ?_
  refine kq_Vi (X1 := fun _ => True) (As := []) (n := 0) (P' := va_P D cl_ (ww_ h a o cI cL cF (c', O', nI k, m'))) C (fun _ _ _ _ => trivial) (sp_blind (A := cm_ a) xk_true) (fun H h9 => ww_m (h := h) (o := o) (cF := cF) (x := (c', O', nI k, m')) h9) 0 rf_p0 rfl (m_thrown l D a cI cL cF (nI k) m'.1 m'.2.1 m'.2.2.1 m'.2.2.2.1 m'.2.2.2.2.1 m'.2.2.2.2.2.1 m'.2.2.2.2.2.2.1 m'.2.2.2.2.2.2.2) kw_667 kw_664 kw_665 kw_666 kw_8 rfl (by unfold kd_; decide) ⟨rfl, rfl, Nat.le_trans (by decide) hfr, Nat.le_trans (by decide) hlo⟩ rfl rfl (Nat.le_of_ble_eq_true rfl) ⟨hce, hsl⟩ dc_law_780 hAm (fun H h9 => ww_m (h := h) (o := o) (cF := cF) (x := (c', O', nI k, m')) h9) (fun H H1 h9 hk h1 => ww_mpost (x := (c', O', nI k, m')) hp h9 hk h1) ?_
  refine aw_iload C dc_law_783 rfl ?_
  refine aw_icmp_eq C dc_law_785 (tgt := 790) (by decide) (fun _ => ?_) (fun h9 => absurd (rfl) h9)
  refine aw_iload C dc_law_790 rfl ?_
  refine aw_if_ne C dc_law_792 (tgt := 814) (by decide) (fun hB792 => ?_) (fun hB792 => ?_)
  · refine aw_goto C dc_law_814 (tgt := 1456) (by decide) ?_
    refine aw_sub (lw' := G_ sc h a o n) (fun j v hj => by
      match j, hj with
      | 0, hj => exact hj
      | 1, hj => exact hj
      | 2, hj => exact hj
      | 3, hj => exact hj
      | 4, hj => exact hj
      | 5, hj => cases hj
      | 6, hj => cases hj) ?_
    exact aw_P (fun H h9 => ⟨(c', O', nI k, m'), hr', h9⟩) kk
  · have hk0 : k = 0 := (ni_z (by omega)).mp hB792
    have hO := hO hk0
    obtain ⟨bb, rfl⟩ := hB
    cases bb
    · refine aw_aload_n C dc_law_795 rfl ?_
      refine aw_iconst C dc_law_796 (v := nI 0) rfl ?_
      refine aw_lald C 42 1 ww_o rfl 0 rfl (by decide) (by decide) dc_law_797 ?_
      refine aw_iload C dc_law_798 rfl ?_
      refine aw_if_eq C dc_law_800 (tgt := 807) (by decide) (fun _ => ?_) (fun h9 => absurd (rfl) h9)
      refine aw_lconst C dc_law_807 (v := 0) rfl ?_
      refine aw_lcmp C dc_law_808 ?_
      refine aw_eqi (y := 0) (by show lg_cmp (O' 0) _ = 0; rw [hO]; decide) ?_
      refine aw_if_eq C dc_law_809 (tgt := 814) (by decide) (fun _ => ?_) (fun h9 => absurd (rfl) h9)
      refine aw_goto C dc_law_814 (tgt := 1456) (by decide) ?_
      refine aw_sub (lw' := G_ sc h a o n) (fun j v hj => by
        match j, hj with
        | 0, hj => exact hj
        | 1, hj => exact hj
        | 2, hj => exact hj
        | 3, hj => exact hj
        | 4, hj => exact hj
        | 5, hj => cases hj
        | 6, hj => cases hj) ?_
      exact aw_P (fun H h9 => ⟨(c', O', nI k, m'), hr', h9⟩) kk
    · refine aw_aload_n C dc_law_795 rfl ?_
      refine aw_iconst C dc_law_796 (v := nI 0) rfl ?_
      refine aw_lald C 42 1 ww_o rfl 0 rfl (by decide) (by decide) dc_law_797 ?_
      refine aw_iload C dc_law_798 rfl ?_
      refine aw_if_eq C dc_law_800 (tgt := 807) (by decide) (fun h9 => absurd h9 (by decide)) (fun _ => ?_)
      refine aw_lconst C dc_law_803 (v := 1) rfl ?_
      refine aw_goto C dc_law_804 (tgt := 808) (by decide) ?_
      refine aw_lcmp C dc_law_808 ?_
      refine aw_eqi (y := 0) (by show lg_cmp (O' 0) _ = 0; rw [hO]; decide) ?_
      refine aw_if_eq C dc_law_809 (tgt := 814) (by decide) (fun _ => ?_) (fun h9 => absurd (rfl) h9)
      refine aw_goto C dc_law_814 (tgt := 1456) (by decide) ?_
      refine aw_sub (lw' := G_ sc h a o n) (fun j v hj => by
        match j, hj with
        | 0, hj => exact hj
        | 1, hj => exact hj
        | 2, hj => exact hj
        | 3, hj => exact hj
        | 4, hj => exact hj
        | 5, hj => cases hj
        | 6, hj => cases hj) ?_
      exact aw_P (fun H h9 => ⟨(c', O', nI k, m'), hr', h9⟩) kk
set_option maxHeartbeats 4000000 in
set_option maxRecDepth 100000 in
theorem law_paths (hl : l.stackTraces = false) (C : cx p s m args meth c code 7 (c0 :: tw_) "FamilyShelfLaw" D cl_ (ty_s cI cL cF)) (hX : xq_ h th s) (hS : va_X sc L xs s s.heap) (hp : wp_ h a o) (hh : h = s.heap.size) (hsc : sc < h) (hL : L < 2 ^ 31) (hfr : 42 ≤ R.frames) (hlo : 2100 ≤ R.locals) (hce : cells + 1 ≤ R.cells) (hsl : slots + 6 ≤ R.slots) (n : Nat) (hn : 5 * n + 5 ≤ L) (x : wx_) (hr : rr_ x.1 x.2.2.2) (kk : aw p l e R s m args below meth c 7 (fun q => h ≤ q) (cells + 1) (slots + 6) Q (lx_ D h a o cI cL cF) (G_ sc h a o n) 1456 []) : aw p l e R s m args below meth c 7 (fun q => h ≤ q) cells slots Q (va_P D cl_ (ww_ h a o cI cL cF x)) (G_ sc h a o n) 817 [] := by
  have hho : h ≤ o := by rw [hp.2]; exact Nat.le_add_right _ _
  have ho : ¬ ca_ h o := fun h9 => by have h8 : h ≤ o ∧ o < h + 42 := h9; have h7 := hp.2; omega
  have hbl : sc < s.heap.size := by rw [← hh]; exact hsc
  have hbA : ¬ h ≤ sc := Nat.not_le.mpr hsc
  have hAc : ∀ q, sA_ h o q → h ≤ q := sA_le hho
  have hAm : ∀ q, cm_ a q → h ≤ q := fun q h9 => by have h8 : a ≤ q ∧ q < a + 9 := h9; have h7 := hp.1; omega
  obtain ⟨k, c', O', m', r, hk4, hr', hO, hB, hLm, hMm⟩ := b_paths l hl D h th a o cI cL cF ho hho x.1 x.2.1 x.2.2.1 x.2.2.2 hr (xs (5 * n + 1)) (xs (5 * n + 2)) (xs (5 * n + 3))
  refine aw_aload_n C dc_law_817 rfl ?_
  refine aw_aload_n C dc_law_818 rfl ?_
  refine aw_iload C dc_law_819 rfl ?_
  refine aw_iconst C dc_law_821 (v := nI 1) rfl ?_
  refine aw_iadd C dc_law_822 ?_
  refine aw_sld C hS hbl hbA (5 * n + 1) (nI_add _ _) (by omega) hL dc_law_823 ?_
  refine aw_aload_n C dc_law_824 rfl ?_
  refine aw_iload C dc_law_825 rfl ?_
  refine aw_iconst C dc_law_827 (v := nI 2) rfl ?_
  refine aw_iadd C dc_law_828 ?_
  refine aw_sld C hS hbl hbA (5 * n + 2) (nI_add _ _) (by omega) hL dc_law_829 ?_
  refine aw_aload_n C dc_law_830 rfl ?_
  refine aw_iload C dc_law_831 rfl ?_
  refine aw_iconst C dc_law_833 (v := nI 3) rfl ?_
  refine aw_iadd C dc_law_834 ?_
  refine aw_sld C hS hbl hbA (5 * n + 3) (nI_add _ _) (by omega) hL dc_law_835 ?_
  refine aw_aload_n C dc_law_836 rfl ?_
  refine kq_Si (X1 := xq_ h th) (As := [.ref h, .int (xs (5 * n + 1)), .int (xs (5 * n + 2)), .int (xs (5 * n + 3)), .ref o]) (n := 5) (P' := va_P D cl_ (ww_ h a o cI cL cF (c', O', x.2.2))) C (fun U hW hz hq => xq_k (A := fun q => h ≤ q) (fun q h9 => h9) s U hW hz hq hX) (sp_blind (A := sA_ h o) (xq_k (sA_le hho))) hLm kw_480 kw_478 kw_479 kw_0 (by unfold kd_; decide) ⟨rfl, rfl, Nat.le_trans (by decide) hfr, Nat.le_trans (by decide) hlo⟩ rfl rfl (Nat.le_of_ble_eq_true rfl) ⟨hce, hsl⟩ dc_law_837 hAc (fun H h9 => ww_c h9) (fun H H1 h9 hk h1 => ww_cpost hp h9 hk h1) ?_
  refine aw_istore C dc_law_840 (by decide) rfl ?_
  refine aw_aload_n C dc_law_842 rfl ?_
  refine aw_aload_n C dc_law_843 rfl ?_
  refine aw_iload C dc_law_844 rfl ?_
  refine aw_iconst C dc_law_846 (v := nI 1) rfl ?_
  refine aw_iadd C dc_law_847 ?_
  refine aw_sld C hS hbl hbA (5 * n + 1) (nI_add _ _) (by omega) hL dc_law_848 ?_
  refine aw_aload_n C dc_law_849 rfl ?_
  refine aw_iload C dc_law_850 rfl ?_
  refine aw_iconst C dc_law_852 (v := nI 2) rfl ?_
  refine aw_iadd C dc_law_853 ?_
  refine aw_sld C hS hbl hbA (5 * n + 2) (nI_add _ _) (by omega) hL dc_law_854 ?_
  refine aw_aload_n C dc_law_855 rfl ?_
  refine aw_iload C dc_law_856 rfl ?_
  refine aw_iconst C dc_law_858 (v := nI 3) rfl ?_
  refine aw_iadd C dc_law_859 ?_
  refine aw_sld C hS hbl hbA (5 * n + 3) (nI_add _ _) (by omega) hL dc_law_860 ?_
  refine kq_Vi (X1 := fun _ => True) (As := [.int (xs (5 * n + 1)), .int (xs (5 * n + 2)), .int (xs (5 * n + 3))]) (n := 3) (P' := va_P D cl_ (ww_ h a o cI cL cF (c', O', nI k, m'))) C (fun _ _ _ _ => trivial) (sp_blind (A := cm_ a) xk_true) (fun H h9 => ww_m (h := h) (o := o) (cF := cF) (x := (c', O', x.2.2)) h9) 0 rf_p0 rfl hMm kw_775 kw_772 kw_773 kw_774 kw_8 rfl (by unfold kd_; decide) ⟨rfl, rfl, Nat.le_trans (by decide) hfr, Nat.le_trans (by decide) hlo⟩ rfl rfl (Nat.le_of_ble_eq_true rfl) ⟨hce, hsl⟩ dc_law_861 hAm (fun H h9 => ww_m (h := h) (o := o) (cF := cF) (x := (c', O', x.2.2)) h9) (fun H H1 h9 hk h1 => ww_mpost (x := (c', O', x.2.2)) hp h9 hk h1) ?_
  refine aw_istore C dc_law_864 (by decide) rfl ?_
  refine aw_aload_n C dc_law_866 rfl ?_
  refine kq_Vi (X1 := fun _ => True) (As := []) (n := 0) (P' := va_P D cl_ (ww_ h a o cI cL cF (c', O', nI k, m'))) C (fun _ _ _ _ => trivial) (sp_blind (A := cm_ a) xk_true) (fun H h9 => ww_m (h := h) (o := o) (cF := cF) (x := (c', O', nI k, m')) h9) 0 rf_p0 rfl (m_thrown l D a cI cL cF (nI k) m'.1 m'.2.1 m'.2.2.1 m'.2.2.2.1 m'.2.2.2.2.1 m'.2.2.2.2.2.1 m'.2.2.2.2.2.2.1 m'.2.2.2.2.2.2.2) kw_667 kw_664 kw_665 kw_666 kw_8 rfl (by unfold kd_; decide) ⟨rfl, rfl, Nat.le_trans (by decide) hfr, Nat.le_trans (by decide) hlo⟩ rfl rfl (Nat.le_of_ble_eq_true rfl) ⟨hce, hsl⟩ dc_law_867 hAm (fun H h9 => ww_m (h := h) (o := o) (cF := cF) (x := (c', O', nI k, m')) h9) (fun H H1 h9 hk h1 => ww_mpost (x := (c', O', nI k, m')) hp h9 hk h1) ?_
  refine aw_iload C dc_law_870 rfl ?_
  refine aw_icmp_eq C dc_law_872 (tgt := 877) (by decide) (fun _ => ?_) (fun h9 => absurd (rfl) h9)
  refine aw_iload C dc_law_877 rfl ?_
  refine aw_if_ne C dc_law_879 (tgt := 894) (by decide) (fun hB879 => ?_) (fun hB879 => ?_)
  · refine aw_goto C dc_law_894 (tgt := 1456) (by decide) ?_
    refine aw_sub (lw' := G_ sc h a o n) (fun j v hj => by
      match j, hj with
      | 0, hj => exact hj
      | 1, hj => exact hj
      | 2, hj => exact hj
      | 3, hj => exact hj
      | 4, hj => exact hj
      | 5, hj => cases hj
      | 6, hj => cases hj) ?_
    exact aw_P (fun H h9 => ⟨(c', O', nI k, m'), hr', h9⟩) kk
  · have hk0 : k = 0 := (ni_z (by omega)).mp hB879
    have hO := hO hk0
    refine aw_aload_n C dc_law_882 rfl ?_
    refine aw_iconst C dc_law_883 (v := nI 0) rfl ?_
    refine aw_lald C 42 1 ww_o rfl 0 rfl (by decide) (by decide) dc_law_884 ?_
    refine aw_iload C dc_law_885 rfl ?_
    refine aw_i2l C dc_law_887 ?_
    refine aw_lcmp C dc_law_888 ?_
    refine aw_eqi (y := 0) (by show lg_cmp (O' 0) _ = 0; rw [hO]; exact lg_self _) ?_
    refine aw_if_eq C dc_law_889 (tgt := 894) (by decide) (fun _ => ?_) (fun h9 => absurd (rfl) h9)
    refine aw_goto C dc_law_894 (tgt := 1456) (by decide) ?_
    refine aw_sub (lw' := G_ sc h a o n) (fun j v hj => by
      match j, hj with
      | 0, hj => exact hj
      | 1, hj => exact hj
      | 2, hj => exact hj
      | 3, hj => exact hj
      | 4, hj => exact hj
      | 5, hj => cases hj
      | 6, hj => cases hj) ?_
    exact aw_P (fun H h9 => ⟨(c', O', nI k, m'), hr', h9⟩) kk
set_option maxHeartbeats 4000000 in
set_option maxRecDepth 100000 in
theorem law_matchings (hl : l.stackTraces = false) (C : cx p s m args meth c code 7 (c0 :: tw_) "FamilyShelfLaw" D cl_ (ty_s cI cL cF)) (hX : xq_ h th s) (hS : va_X sc L xs s s.heap) (hp : wp_ h a o) (hh : h = s.heap.size) (hsc : sc < h) (hL : L < 2 ^ 31) (hfr : 42 ≤ R.frames) (hlo : 2100 ≤ R.locals) (hce : cells + 1 ≤ R.cells) (hsl : slots + 6 ≤ R.slots) (n : Nat) (hn : 5 * n + 5 ≤ L) (x : wx_) (hr : rr_ x.1 x.2.2.2) (kk : aw p l e R s m args below meth c 7 (fun q => h ≤ q) (cells + 1) (slots + 6) Q (lx_ D h a o cI cL cF) (G_ sc h a o n) 1456 []) : aw p l e R s m args below meth c 7 (fun q => h ≤ q) cells slots Q (va_P D cl_ (ww_ h a o cI cL cF x)) (G_ sc h a o n) 897 [] := by
  have hho : h ≤ o := by rw [hp.2]; exact Nat.le_add_right _ _
  have ho : ¬ ca_ h o := fun h9 => by have h8 : h ≤ o ∧ o < h + 42 := h9; have h7 := hp.2; omega
  have hbl : sc < s.heap.size := by rw [← hh]; exact hsc
  have hbA : ¬ h ≤ sc := Nat.not_le.mpr hsc
  have hAc : ∀ q, sA_ h o q → h ≤ q := sA_le hho
  have hAm : ∀ q, cm_ a q → h ≤ q := fun q h9 => by have h8 : a ≤ q ∧ q < a + 9 := h9; have h7 := hp.1; omega
  obtain ⟨k, c', O', m', r, hk4, hr', hO, hB, hLm, hMm⟩ := b_matchings l hl D h th a o cI cL cF ho hho x.1 x.2.1 x.2.2.1 x.2.2.2 hr (xs (5 * n + 1))
  refine aw_aload_n C dc_law_897 rfl ?_
  refine aw_aload_n C dc_law_898 rfl ?_
  refine aw_iload C dc_law_899 rfl ?_
  refine aw_iconst C dc_law_901 (v := nI 1) rfl ?_
  refine aw_iadd C dc_law_902 ?_
  refine aw_sld C hS hbl hbA (5 * n + 1) (nI_add _ _) (by omega) hL dc_law_903 ?_
  refine aw_aload_n C dc_law_904 rfl ?_
  refine kq_Si (X1 := xq_ h th) (As := [.ref h, .int (xs (5 * n + 1)), .ref o]) (n := 3) (P' := va_P D cl_ (ww_ h a o cI cL cF (c', O', x.2.2))) C (fun U hW hz hq => xq_k (A := fun q => h ≤ q) (fun q h9 => h9) s U hW hz hq hX) (sp_blind (A := sA_ h o) (xq_k (sA_le hho))) hLm kw_497 kw_495 kw_496 kw_0 (by unfold kd_; decide) ⟨rfl, rfl, Nat.le_trans (by decide) hfr, Nat.le_trans (by decide) hlo⟩ rfl rfl (Nat.le_of_ble_eq_true rfl) ⟨hce, hsl⟩ dc_law_905 hAc (fun H h9 => ww_c h9) (fun H H1 h9 hk h1 => ww_cpost hp h9 hk h1) ?_
  refine aw_istore C dc_law_908 (by decide) rfl ?_
  refine aw_aload_n C dc_law_910 rfl ?_
  refine aw_aload_n C dc_law_911 rfl ?_
  refine aw_iload C dc_law_912 rfl ?_
  refine aw_iconst C dc_law_914 (v := nI 1) rfl ?_
  refine aw_iadd C dc_law_915 ?_
  refine aw_sld C hS hbl hbA (5 * n + 1) (nI_add _ _) (by omega) hL dc_law_916 ?_
  refine kq_Vi (X1 := fun _ => True) (As := [.int (xs (5 * n + 1))]) (n := 1) (P' := va_P D cl_ (ww_ h a o cI cL cF (c', O', nI k, m'))) C (fun _ _ _ _ => trivial) (sp_blind (A := cm_ a) xk_true) (fun H h9 => ww_m (h := h) (o := o) (cF := cF) (x := (c', O', x.2.2)) h9) 0 rf_p0 rfl hMm kw_791 kw_788 kw_789 kw_790 kw_8 rfl (by unfold kd_; decide) ⟨rfl, rfl, Nat.le_trans (by decide) hfr, Nat.le_trans (by decide) hlo⟩ rfl rfl (Nat.le_of_ble_eq_true rfl) ⟨hce, hsl⟩ dc_law_917 hAm (fun H h9 => ww_m (h := h) (o := o) (cF := cF) (x := (c', O', x.2.2)) h9) (fun H H1 h9 hk h1 => ww_mpost (x := (c', O', x.2.2)) hp h9 hk h1) ?_
  refine aw_istore C dc_law_920 (by decide) rfl ?_
  refine aw_aload_n C dc_law_922 rfl ?_
  refine kq_Vi (X1 := fun _ => True) (As := []) (n := 0) (P' := va_P D cl_ (ww_ h a o cI cL cF (c', O', nI k, m'))) C (fun _ _ _ _ => trivial) (sp_blind (A := cm_ a) xk_true) (fun H h9 => ww_m (h := h) (o := o) (cF := cF) (x := (c', O', nI k, m')) h9) 0 rf_p0 rfl (m_thrown l D a cI cL cF (nI k) m'.1 m'.2.1 m'.2.2.1 m'.2.2.2.1 m'.2.2.2.2.1 m'.2.2.2.2.2.1 m'.2.2.2.2.2.2.1 m'.2.2.2.2.2.2.2) kw_667 kw_664 kw_665 kw_666 kw_8 rfl (by unfold kd_; decide) ⟨rfl, rfl, Nat.le_trans (by decide) hfr, Nat.le_trans (by decide) hlo⟩ rfl rfl (Nat.le_of_ble_eq_true rfl) ⟨hce, hsl⟩ dc_law_923 hAm (fun H h9 => ww_m (h := h) (o := o) (cF := cF) (x := (c', O', nI k, m')) h9) (fun H H1 h9 hk h1 => ww_mpost (x := (c', O', nI k, m')) hp h9 hk h1) ?_
  refine aw_iload C dc_law_926 rfl ?_
  refine aw_icmp_eq C dc_law_928 (tgt := 933) (by decide) (fun _ => ?_) (fun h9 => absurd (rfl) h9)
  refine aw_iload C dc_law_933 rfl ?_
  refine aw_if_ne C dc_law_935 (tgt := 950) (by decide) (fun hB935 => ?_) (fun hB935 => ?_)
  · refine aw_goto C dc_law_950 (tgt := 1456) (by decide) ?_
    refine aw_sub (lw' := G_ sc h a o n) (fun j v hj => by
      match j, hj with
      | 0, hj => exact hj
      | 1, hj => exact hj
      | 2, hj => exact hj
      | 3, hj => exact hj
      | 4, hj => exact hj
      | 5, hj => cases hj
      | 6, hj => cases hj) ?_
    exact aw_P (fun H h9 => ⟨(c', O', nI k, m'), hr', h9⟩) kk
  · have hk0 : k = 0 := (ni_z (by omega)).mp hB935
    have hO := hO hk0
    refine aw_aload_n C dc_law_938 rfl ?_
    refine aw_iconst C dc_law_939 (v := nI 0) rfl ?_
    refine aw_lald C 42 1 ww_o rfl 0 rfl (by decide) (by decide) dc_law_940 ?_
    refine aw_iload C dc_law_941 rfl ?_
    refine aw_i2l C dc_law_943 ?_
    refine aw_lcmp C dc_law_944 ?_
    refine aw_eqi (y := 0) (by show lg_cmp (O' 0) _ = 0; rw [hO]; exact lg_self _) ?_
    refine aw_if_eq C dc_law_945 (tgt := 950) (by decide) (fun _ => ?_) (fun h9 => absurd (rfl) h9)
    refine aw_goto C dc_law_950 (tgt := 1456) (by decide) ?_
    refine aw_sub (lw' := G_ sc h a o n) (fun j v hj => by
      match j, hj with
      | 0, hj => exact hj
      | 1, hj => exact hj
      | 2, hj => exact hj
      | 3, hj => exact hj
      | 4, hj => exact hj
      | 5, hj => cases hj
      | 6, hj => cases hj) ?_
    exact aw_P (fun H h9 => ⟨(c', O', nI k, m'), hr', h9⟩) kk
set_option maxHeartbeats 4000000 in
set_option maxRecDepth 100000 in
theorem law_weight (hl : l.stackTraces = false) (C : cx p s m args meth c code 7 (c0 :: tw_) "FamilyShelfLaw" D cl_ (ty_s cI cL cF)) (hX : xq_ h th s) (hS : va_X sc L xs s s.heap) (hp : wp_ h a o) (hh : h = s.heap.size) (hsc : sc < h) (hL : L < 2 ^ 31) (hfr : 42 ≤ R.frames) (hlo : 2100 ≤ R.locals) (hce : cells + 1 ≤ R.cells) (hsl : slots + 6 ≤ R.slots) (n : Nat) (hn : 5 * n + 5 ≤ L) (x : wx_) (hr : rr_ x.1 x.2.2.2) (kk : aw p l e R s m args below meth c 7 (fun q => h ≤ q) (cells + 1) (slots + 6) Q (lx_ D h a o cI cL cF) (G_ sc h a o n) 1456 []) : aw p l e R s m args below meth c 7 (fun q => h ≤ q) cells slots Q (va_P D cl_ (ww_ h a o cI cL cF x)) (G_ sc h a o n) 953 [] := by
  have hho : h ≤ o := by rw [hp.2]; exact Nat.le_add_right _ _
  have ho : ¬ ca_ h o := fun h9 => by have h8 : h ≤ o ∧ o < h + 42 := h9; have h7 := hp.2; omega
  have hbl : sc < s.heap.size := by rw [← hh]; exact hsc
  have hbA : ¬ h ≤ sc := Nat.not_le.mpr hsc
  have hAc : ∀ q, sA_ h o q → h ≤ q := sA_le hho
  have hAm : ∀ q, cm_ a q → h ≤ q := fun q h9 => by have h8 : a ≤ q ∧ q < a + 9 := h9; have h7 := hp.1; omega
  obtain ⟨k, c', O', m', r, hk4, hr', hO, hB, hLm, hMm⟩ := b_weight l hl D h th a o cI cL cF ho hho x.1 x.2.1 x.2.2.1 x.2.2.2 hr (xs (5 * n + 1)) (xs (5 * n + 2))
  refine aw_aload_n C dc_law_953 rfl ?_
  refine aw_aload_n C dc_law_954 rfl ?_
  refine aw_iload C dc_law_955 rfl ?_
  refine aw_iconst C dc_law_957 (v := nI 1) rfl ?_
  refine aw_iadd C dc_law_958 ?_
  refine aw_sld C hS hbl hbA (5 * n + 1) (nI_add _ _) (by omega) hL dc_law_959 ?_
  refine aw_aload_n C dc_law_960 rfl ?_
  refine aw_iload C dc_law_961 rfl ?_
  refine aw_iconst C dc_law_963 (v := nI 2) rfl ?_
  refine aw_iadd C dc_law_964 ?_
  refine aw_sld C hS hbl hbA (5 * n + 2) (nI_add _ _) (by omega) hL dc_law_965 ?_
  refine aw_aload_n C dc_law_966 rfl ?_
  refine kq_Si (X1 := xq_ h th) (As := [.ref h, .int (xs (5 * n + 1)), .int (xs (5 * n + 2)), .ref o]) (n := 4) (P' := va_P D cl_ (ww_ h a o cI cL cF (c', O', x.2.2))) C (fun U hW hz hq => xq_k (A := fun q => h ≤ q) (fun q h9 => h9) s U hW hz hq hX) (sp_blind (A := sA_ h o) (xq_k (sA_le hho))) hLm kw_511 kw_509 kw_510 kw_0 (by unfold kd_; decide) ⟨rfl, rfl, Nat.le_trans (by decide) hfr, Nat.le_trans (by decide) hlo⟩ rfl rfl (Nat.le_of_ble_eq_true rfl) ⟨hce, hsl⟩ dc_law_967 hAc (fun H h9 => ww_c h9) (fun H H1 h9 hk h1 => ww_cpost hp h9 hk h1) ?_
  refine aw_istore C dc_law_970 (by decide) rfl ?_
  refine aw_aload_n C dc_law_972 rfl ?_
  refine aw_aload_n C dc_law_973 rfl ?_
  refine aw_iload C dc_law_974 rfl ?_
  refine aw_iconst C dc_law_976 (v := nI 1) rfl ?_
  refine aw_iadd C dc_law_977 ?_
  refine aw_sld C hS hbl hbA (5 * n + 1) (nI_add _ _) (by omega) hL dc_law_978 ?_
  refine aw_aload_n C dc_law_979 rfl ?_
  refine aw_iload C dc_law_980 rfl ?_
  refine aw_iconst C dc_law_982 (v := nI 2) rfl ?_
  refine aw_iadd C dc_law_983 ?_
  refine aw_sld C hS hbl hbA (5 * n + 2) (nI_add _ _) (by omega) hL dc_law_984 ?_
  refine kq_Vi (X1 := fun _ => True) (As := [.int (xs (5 * n + 1)), .int (xs (5 * n + 2))]) (n := 2) (P' := va_P D cl_ (ww_ h a o cI cL cF (c', O', nI k, m'))) C (fun _ _ _ _ => trivial) (sp_blind (A := cm_ a) xk_true) (fun H h9 => ww_m (h := h) (o := o) (cF := cF) (x := (c', O', x.2.2)) h9) 0 rf_p0 rfl hMm kw_799 kw_796 kw_797 kw_798 kw_8 rfl (by unfold kd_; decide) ⟨rfl, rfl, Nat.le_trans (by decide) hfr, Nat.le_trans (by decide) hlo⟩ rfl rfl (Nat.le_of_ble_eq_true rfl) ⟨hce, hsl⟩ dc_law_985 hAm (fun H h9 => ww_m (h := h) (o := o) (cF := cF) (x := (c', O', x.2.2)) h9) (fun H H1 h9 hk h1 => ww_mpost (x := (c', O', x.2.2)) hp h9 hk h1) ?_
  refine aw_istore C dc_law_988 (by decide) rfl ?_
  refine aw_aload_n C dc_law_990 rfl ?_
  refine kq_Vi (X1 := fun _ => True) (As := []) (n := 0) (P' := va_P D cl_ (ww_ h a o cI cL cF (c', O', nI k, m'))) C (fun _ _ _ _ => trivial) (sp_blind (A := cm_ a) xk_true) (fun H h9 => ww_m (h := h) (o := o) (cF := cF) (x := (c', O', nI k, m')) h9) 0 rf_p0 rfl (m_thrown l D a cI cL cF (nI k) m'.1 m'.2.1 m'.2.2.1 m'.2.2.2.1 m'.2.2.2.2.1 m'.2.2.2.2.2.1 m'.2.2.2.2.2.2.1 m'.2.2.2.2.2.2.2) kw_667 kw_664 kw_665 kw_666 kw_8 rfl (by unfold kd_; decide) ⟨rfl, rfl, Nat.le_trans (by decide) hfr, Nat.le_trans (by decide) hlo⟩ rfl rfl (Nat.le_of_ble_eq_true rfl) ⟨hce, hsl⟩ dc_law_991 hAm (fun H h9 => ww_m (h := h) (o := o) (cF := cF) (x := (c', O', nI k, m')) h9) (fun H H1 h9 hk h1 => ww_mpost (x := (c', O', nI k, m')) hp h9 hk h1) ?_
  refine aw_iload C dc_law_994 rfl ?_
  refine aw_icmp_eq C dc_law_996 (tgt := 1001) (by decide) (fun _ => ?_) (fun h9 => absurd (rfl) h9)
  refine aw_iload C dc_law_1001 rfl ?_
  refine aw_if_ne C dc_law_1003 (tgt := 1018) (by decide) (fun hB1003 => ?_) (fun hB1003 => ?_)
  · refine aw_goto C dc_law_1018 (tgt := 1456) (by decide) ?_
    refine aw_sub (lw' := G_ sc h a o n) (fun j v hj => by
      match j, hj with
      | 0, hj => exact hj
      | 1, hj => exact hj
      | 2, hj => exact hj
      | 3, hj => exact hj
      | 4, hj => exact hj
      | 5, hj => cases hj
      | 6, hj => cases hj) ?_
    exact aw_P (fun H h9 => ⟨(c', O', nI k, m'), hr', h9⟩) kk
  · have hk0 : k = 0 := (ni_z (by omega)).mp hB1003
    have hO := hO hk0
    refine aw_aload_n C dc_law_1006 rfl ?_
    refine aw_iconst C dc_law_1007 (v := nI 0) rfl ?_
    refine aw_lald C 42 1 ww_o rfl 0 rfl (by decide) (by decide) dc_law_1008 ?_
    refine aw_iload C dc_law_1009 rfl ?_
    refine aw_i2l C dc_law_1011 ?_
    refine aw_lcmp C dc_law_1012 ?_
    refine aw_eqi (y := 0) (by show lg_cmp (O' 0) _ = 0; rw [hO]; exact lg_self _) ?_
    refine aw_if_eq C dc_law_1013 (tgt := 1018) (by decide) (fun _ => ?_) (fun h9 => absurd (rfl) h9)
    refine aw_goto C dc_law_1018 (tgt := 1456) (by decide) ?_
    refine aw_sub (lw' := G_ sc h a o n) (fun j v hj => by
      match j, hj with
      | 0, hj => exact hj
      | 1, hj => exact hj
      | 2, hj => exact hj
      | 3, hj => exact hj
      | 4, hj => exact hj
      | 5, hj => cases hj
      | 6, hj => cases hj) ?_
    exact aw_P (fun H h9 => ⟨(c', O', nI k, m'), hr', h9⟩) kk
set_option maxHeartbeats 4000000 in
set_option maxRecDepth 100000 in
theorem law_count (hl : l.stackTraces = false) (C : cx p s m args meth c code 7 (c0 :: tw_) "FamilyShelfLaw" D cl_ (ty_s cI cL cF)) (hX : xq_ h th s) (hS : va_X sc L xs s s.heap) (hp : wp_ h a o) (hh : h = s.heap.size) (hsc : sc < h) (hL : L < 2 ^ 31) (hfr : 42 ≤ R.frames) (hlo : 2100 ≤ R.locals) (hce : cells + 1 ≤ R.cells) (hsl : slots + 6 ≤ R.slots) (n : Nat) (hn : 5 * n + 5 ≤ L) (x : wx_) (hr : rr_ x.1 x.2.2.2) (kk : aw p l e R s m args below meth c 7 (fun q => h ≤ q) (cells + 1) (slots + 6) Q (lx_ D h a o cI cL cF) (G_ sc h a o n) 1456 []) : aw p l e R s m args below meth c 7 (fun q => h ≤ q) cells slots Q (va_P D cl_ (ww_ h a o cI cL cF x)) (G_ sc h a o n) 1021 [] := by
  have hho : h ≤ o := by rw [hp.2]; exact Nat.le_add_right _ _
  have ho : ¬ ca_ h o := fun h9 => by have h8 : h ≤ o ∧ o < h + 42 := h9; have h7 := hp.2; omega
  have hbl : sc < s.heap.size := by rw [← hh]; exact hsc
  have hbA : ¬ h ≤ sc := Nat.not_le.mpr hsc
  have hAc : ∀ q, sA_ h o q → h ≤ q := sA_le hho
  have hAm : ∀ q, cm_ a q → h ≤ q := fun q h9 => by have h8 : a ≤ q ∧ q < a + 9 := h9; have h7 := hp.1; omega
  obtain ⟨k, c', O', m', r, hk4, hr', hO, hB, hLm, hMm⟩ := b_count l hl D h th a o cI cL cF ho hho x.1 x.2.1 x.2.2.1 x.2.2.2 hr (xs (5 * n + 1))
  refine aw_aload_n C dc_law_1021 rfl ?_
  refine aw_aload_n C dc_law_1022 rfl ?_
  refine aw_iload C dc_law_1023 rfl ?_
  refine aw_iconst C dc_law_1025 (v := nI 1) rfl ?_
  refine aw_iadd C dc_law_1026 ?_
  refine aw_sld C hS hbl hbA (5 * n + 1) (nI_add _ _) (by omega) hL dc_law_1027 ?_
  refine aw_aload_n C dc_law_1028 rfl ?_
  refine kq_Si (X1 := xq_ h th) (As := [.ref h, .int (xs (5 * n + 1)), .ref o]) (n := 3) (P' := va_P D cl_ (ww_ h a o cI cL cF (c', O', x.2.2))) C (fun U hW hz hq => xq_k (A := fun q => h ≤ q) (fun q h9 => h9) s U hW hz hq hX) (sp_blind (A := sA_ h o) (xq_k (sA_le hho))) hLm kw_522 kw_520 kw_521 kw_0 (by unfold kd_; decide) ⟨rfl, rfl, Nat.le_trans (by decide) hfr, Nat.le_trans (by decide) hlo⟩ rfl rfl (Nat.le_of_ble_eq_true rfl) ⟨hce, hsl⟩ dc_law_1029 hAc (fun H h9 => ww_c h9) (fun H H1 h9 hk h1 => ww_cpost hp h9 hk h1) ?_
  refine aw_istore C dc_law_1032 (by decide) rfl ?_
  refine aw_aload_n C dc_law_1034 rfl ?_
  refine aw_aload_n C dc_law_1035 rfl ?_
  refine aw_iload C dc_law_1036 rfl ?_
  refine aw_iconst C dc_law_1038 (v := nI 1) rfl ?_
  refine aw_iadd C dc_law_1039 ?_
  refine aw_sld C hS hbl hbA (5 * n + 1) (nI_add _ _) (by omega) hL dc_law_1040 ?_
  refine kq_Vi (X1 := fun _ => True) (As := [.int (xs (5 * n + 1))]) (n := 1) (P' := va_P D cl_ (ww_ h a o cI cL cF (c', O', nI k, m'))) C (fun _ _ _ _ => trivial) (sp_blind (A := cm_ a) xk_true) (fun H h9 => ww_m (h := h) (o := o) (cF := cF) (x := (c', O', x.2.2)) h9) 0 rf_p0 rfl hMm kw_803 kw_800 kw_801 kw_802 kw_8 rfl (by unfold kd_; decide) ⟨rfl, rfl, Nat.le_trans (by decide) hfr, Nat.le_trans (by decide) hlo⟩ rfl rfl (Nat.le_of_ble_eq_true rfl) ⟨hce, hsl⟩ dc_law_1041 hAm (fun H h9 => ww_m (h := h) (o := o) (cF := cF) (x := (c', O', x.2.2)) h9) (fun H H1 h9 hk h1 => ww_mpost (x := (c', O', x.2.2)) hp h9 hk h1) ?_
  refine aw_istore C dc_law_1044 (by decide) rfl ?_
  refine aw_aload_n C dc_law_1046 rfl ?_
  refine kq_Vi (X1 := fun _ => True) (As := []) (n := 0) (P' := va_P D cl_ (ww_ h a o cI cL cF (c', O', nI k, m'))) C (fun _ _ _ _ => trivial) (sp_blind (A := cm_ a) xk_true) (fun H h9 => ww_m (h := h) (o := o) (cF := cF) (x := (c', O', nI k, m')) h9) 0 rf_p0 rfl (m_thrown l D a cI cL cF (nI k) m'.1 m'.2.1 m'.2.2.1 m'.2.2.2.1 m'.2.2.2.2.1 m'.2.2.2.2.2.1 m'.2.2.2.2.2.2.1 m'.2.2.2.2.2.2.2) kw_667 kw_664 kw_665 kw_666 kw_8 rfl (by unfold kd_; decide) ⟨rfl, rfl, Nat.le_trans (by decide) hfr, Nat.le_trans (by decide) hlo⟩ rfl rfl (Nat.le_of_ble_eq_true rfl) ⟨hce, hsl⟩ dc_law_1047 hAm (fun H h9 => ww_m (h := h) (o := o) (cF := cF) (x := (c', O', nI k, m')) h9) (fun H H1 h9 hk h1 => ww_mpost (x := (c', O', nI k, m')) hp h9 hk h1) ?_
  refine aw_iload C dc_law_1050 rfl ?_
  refine aw_icmp_eq C dc_law_1052 (tgt := 1057) (by decide) (fun _ => ?_) (fun h9 => absurd (rfl) h9)
  refine aw_iload C dc_law_1057 rfl ?_
  refine aw_if_ne C dc_law_1059 (tgt := 1074) (by decide) (fun hB1059 => ?_) (fun hB1059 => ?_)
  · refine aw_goto C dc_law_1074 (tgt := 1456) (by decide) ?_
    refine aw_sub (lw' := G_ sc h a o n) (fun j v hj => by
      match j, hj with
      | 0, hj => exact hj
      | 1, hj => exact hj
      | 2, hj => exact hj
      | 3, hj => exact hj
      | 4, hj => exact hj
      | 5, hj => cases hj
      | 6, hj => cases hj) ?_
    exact aw_P (fun H h9 => ⟨(c', O', nI k, m'), hr', h9⟩) kk
  · have hk0 : k = 0 := (ni_z (by omega)).mp hB1059
    have hO := hO hk0
    refine aw_aload_n C dc_law_1062 rfl ?_
    refine aw_iconst C dc_law_1063 (v := nI 0) rfl ?_
    refine aw_lald C 42 1 ww_o rfl 0 rfl (by decide) (by decide) dc_law_1064 ?_
    refine aw_iload C dc_law_1065 rfl ?_
    refine aw_i2l C dc_law_1067 ?_
    refine aw_lcmp C dc_law_1068 ?_
    refine aw_eqi (y := 0) (by show lg_cmp (O' 0) _ = 0; rw [hO]; exact lg_self _) ?_
    refine aw_if_eq C dc_law_1069 (tgt := 1074) (by decide) (fun _ => ?_) (fun h9 => absurd (rfl) h9)
    refine aw_goto C dc_law_1074 (tgt := 1456) (by decide) ?_
    refine aw_sub (lw' := G_ sc h a o n) (fun j v hj => by
      match j, hj with
      | 0, hj => exact hj
      | 1, hj => exact hj
      | 2, hj => exact hj
      | 3, hj => exact hj
      | 4, hj => exact hj
      | 5, hj => cases hj
      | 6, hj => cases hj) ?_
    exact aw_P (fun H h9 => ⟨(c', O', nI k, m'), hr', h9⟩) kk
set_option maxHeartbeats 4000000 in
set_option maxRecDepth 100000 in
theorem law_has (hl : l.stackTraces = false) (C : cx p s m args meth c code 7 (c0 :: tw_) "FamilyShelfLaw" D cl_ (ty_s cI cL cF)) (hX : xq_ h th s) (hS : va_X sc L xs s s.heap) (hp : wp_ h a o) (hh : h = s.heap.size) (hsc : sc < h) (hL : L < 2 ^ 31) (hfr : 42 ≤ R.frames) (hlo : 2100 ≤ R.locals) (hce : cells + 1 ≤ R.cells) (hsl : slots + 6 ≤ R.slots) (n : Nat) (hn : 5 * n + 5 ≤ L) (x : wx_) (hr : rr_ x.1 x.2.2.2) (kk : aw p l e R s m args below meth c 7 (fun q => h ≤ q) (cells + 1) (slots + 6) Q (lx_ D h a o cI cL cF) (G_ sc h a o n) 1456 []) : aw p l e R s m args below meth c 7 (fun q => h ≤ q) cells slots Q (va_P D cl_ (ww_ h a o cI cL cF x)) (G_ sc h a o n) 1077 [] := by
  have hho : h ≤ o := by rw [hp.2]; exact Nat.le_add_right _ _
  have ho : ¬ ca_ h o := fun h9 => by have h8 : h ≤ o ∧ o < h + 42 := h9; have h7 := hp.2; omega
  have hbl : sc < s.heap.size := by rw [← hh]; exact hsc
  have hbA : ¬ h ≤ sc := Nat.not_le.mpr hsc
  have hAc : ∀ q, sA_ h o q → h ≤ q := sA_le hho
  have hAm : ∀ q, cm_ a q → h ≤ q := fun q h9 => by have h8 : a ≤ q ∧ q < a + 9 := h9; have h7 := hp.1; omega
  obtain ⟨k, c', O', m', r, hk4, hr', hO, hB, hLm, hMm⟩ := b_has l hl D h th a o cI cL cF ho hho x.1 x.2.1 x.2.2.1 x.2.2.2 hr (xs (5 * n + 1)) (xs (5 * n + 2))
  refine aw_aload_n C dc_law_1077 rfl ?_
  refine aw_aload_n C dc_law_1078 rfl ?_
  refine aw_iload C dc_law_1079 rfl ?_
  refine aw_iconst C dc_law_1081 (v := nI 1) rfl ?_
  refine aw_iadd C dc_law_1082 ?_
  refine aw_sld C hS hbl hbA (5 * n + 1) (nI_add _ _) (by omega) hL dc_law_1083 ?_
  refine aw_aload_n C dc_law_1084 rfl ?_
  refine aw_iload C dc_law_1085 rfl ?_
  refine aw_iconst C dc_law_1087 (v := nI 2) rfl ?_
  refine aw_iadd C dc_law_1088 ?_
  refine aw_sld C hS hbl hbA (5 * n + 2) (nI_add _ _) (by omega) hL dc_law_1089 ?_
  refine aw_aload_n C dc_law_1090 rfl ?_
  refine kq_Si (X1 := xq_ h th) (As := [.ref h, .int (xs (5 * n + 1)), .int (xs (5 * n + 2)), .ref o]) (n := 4) (P' := va_P D cl_ (ww_ h a o cI cL cF (c', O', x.2.2))) C (fun U hW hz hq => xq_k (A := fun q => h ≤ q) (fun q h9 => h9) s U hW hz hq hX) (sp_blind (A := sA_ h o) (xq_k (sA_le hho))) hLm kw_529 kw_527 kw_528 kw_0 (by unfold kd_; decide) ⟨rfl, rfl, Nat.le_trans (by decide) hfr, Nat.le_trans (by decide) hlo⟩ rfl rfl (Nat.le_of_ble_eq_true rfl) ⟨hce, hsl⟩ dc_law_1091 hAc (fun H h9 => ww_c h9) (fun H H1 h9 hk h1 => ww_cpost hp h9 hk h1) ?_
  refine aw_istore C dc_law_1094 (by decide) rfl ?_
  refine aw_aload_n C dc_law_1096 rfl ?_
  refine aw_aload_n C dc_law_1097 rfl ?_
  refine aw_iload C dc_law_1098 rfl ?_
  refine aw_iconst C dc_law_1100 (v := nI 1) rfl ?_
  refine aw_iadd C dc_law_1101 ?_
  refine aw_sld C hS hbl hbA (5 * n + 1) (nI_add _ _) (by omega) hL dc_law_1102 ?_
  refine aw_aload_n C dc_law_1103 rfl ?_
  refine aw_iload C dc_law_1104 rfl ?_
  refine aw_iconst C dc_law_1106 (v := nI 2) rfl ?_
  refine aw_iadd C dc_law_1107 ?_
  refine aw_sld C hS hbl hbA (5 * n + 2) (nI_add _ _) (by omega) hL dc_law_1108 ?_
  refine kq_Vi (X1 := fun _ => True) (As := [.int (xs (5 * n + 1)), .int (xs (5 * n + 2))]) (n := 2) (P' := va_P D cl_ (ww_ h a o cI cL cF (c', O', nI k, m'))) C (fun _ _ _ _ => trivial) (sp_blind (A := cm_ a) xk_true) (fun H h9 => ww_m (h := h) (o := o) (cF := cF) (x := (c', O', x.2.2)) h9) 0 rf_p0 rfl hMm kw_807 kw_804 kw_805 kw_806 kw_8 rfl (by unfold kd_; decide) ⟨rfl, rfl, Nat.le_trans (by decide) hfr, Nat.le_trans (by decide) hlo⟩ rfl rfl (Nat.le_of_ble_eq_true rfl) ⟨hce, hsl⟩ dc_law_1109 hAm (fun H h9 => ww_m (h := h) (o := o) (cF := cF) (x := (c', O', x.2.2)) h9) (fun H H1 h9 hk h1 => ww_mpost (x := (c', O', x.2.2)) hp h9 hk h1) ?_
  refine aw_istore C dc_law_1112 (by decide) rfl ?_
  refine aw_aload_n C dc_law_1114 rfl ?_
  refine kq_Vi (X1 := fun _ => True) (As := []) (n := 0) (P' := va_P D cl_ (ww_ h a o cI cL cF (c', O', nI k, m'))) C (fun _ _ _ _ => trivial) (sp_blind (A := cm_ a) xk_true) (fun H h9 => ww_m (h := h) (o := o) (cF := cF) (x := (c', O', nI k, m')) h9) 0 rf_p0 rfl (m_thrown l D a cI cL cF (nI k) m'.1 m'.2.1 m'.2.2.1 m'.2.2.2.1 m'.2.2.2.2.1 m'.2.2.2.2.2.1 m'.2.2.2.2.2.2.1 m'.2.2.2.2.2.2.2) kw_667 kw_664 kw_665 kw_666 kw_8 rfl (by unfold kd_; decide) ⟨rfl, rfl, Nat.le_trans (by decide) hfr, Nat.le_trans (by decide) hlo⟩ rfl rfl (Nat.le_of_ble_eq_true rfl) ⟨hce, hsl⟩ dc_law_1115 hAm (fun H h9 => ww_m (h := h) (o := o) (cF := cF) (x := (c', O', nI k, m')) h9) (fun H H1 h9 hk h1 => ww_mpost (x := (c', O', nI k, m')) hp h9 hk h1) ?_
  refine aw_iload C dc_law_1118 rfl ?_
  refine aw_icmp_eq C dc_law_1120 (tgt := 1125) (by decide) (fun _ => ?_) (fun h9 => absurd (rfl) h9)
  refine aw_iload C dc_law_1125 rfl ?_
  refine aw_if_ne C dc_law_1127 (tgt := 1149) (by decide) (fun hB1127 => ?_) (fun hB1127 => ?_)
  · refine aw_goto C dc_law_1149 (tgt := 1456) (by decide) ?_
    refine aw_sub (lw' := G_ sc h a o n) (fun j v hj => by
      match j, hj with
      | 0, hj => exact hj
      | 1, hj => exact hj
      | 2, hj => exact hj
      | 3, hj => exact hj
      | 4, hj => exact hj
      | 5, hj => cases hj
      | 6, hj => cases hj) ?_
    exact aw_P (fun H h9 => ⟨(c', O', nI k, m'), hr', h9⟩) kk
  · have hk0 : k = 0 := (ni_z (by omega)).mp hB1127
    have hO := hO hk0
    obtain ⟨bb, rfl⟩ := hB
    cases bb
    · refine aw_aload_n C dc_law_1130 rfl ?_
      refine aw_iconst C dc_law_1131 (v := nI 0) rfl ?_
      refine aw_lald C 42 1 ww_o rfl 0 rfl (by decide) (by decide) dc_law_1132 ?_
      refine aw_iload C dc_law_1133 rfl ?_
      refine aw_if_eq C dc_law_1135 (tgt := 1142) (by decide) (fun _ => ?_) (fun h9 => absurd (rfl) h9)
      refine aw_lconst C dc_law_1142 (v := 0) rfl ?_
      refine aw_lcmp C dc_law_1143 ?_
      refine aw_eqi (y := 0) (by show lg_cmp (O' 0) _ = 0; rw [hO]; decide) ?_
      refine aw_if_eq C dc_law_1144 (tgt := 1149) (by decide) (fun _ => ?_) (fun h9 => absurd (rfl) h9)
      refine aw_goto C dc_law_1149 (tgt := 1456) (by decide) ?_
      refine aw_sub (lw' := G_ sc h a o n) (fun j v hj => by
        match j, hj with
        | 0, hj => exact hj
        | 1, hj => exact hj
        | 2, hj => exact hj
        | 3, hj => exact hj
        | 4, hj => exact hj
        | 5, hj => cases hj
        | 6, hj => cases hj) ?_
      exact aw_P (fun H h9 => ⟨(c', O', nI k, m'), hr', h9⟩) kk
    · refine aw_aload_n C dc_law_1130 rfl ?_
      refine aw_iconst C dc_law_1131 (v := nI 0) rfl ?_
      refine aw_lald C 42 1 ww_o rfl 0 rfl (by decide) (by decide) dc_law_1132 ?_
      refine aw_iload C dc_law_1133 rfl ?_
      refine aw_if_eq C dc_law_1135 (tgt := 1142) (by decide) (fun h9 => absurd h9 (by decide)) (fun _ => ?_)
      refine aw_lconst C dc_law_1138 (v := 1) rfl ?_
      refine aw_goto C dc_law_1139 (tgt := 1143) (by decide) ?_
      refine aw_lcmp C dc_law_1143 ?_
      refine aw_eqi (y := 0) (by show lg_cmp (O' 0) _ = 0; rw [hO]; decide) ?_
      refine aw_if_eq C dc_law_1144 (tgt := 1149) (by decide) (fun _ => ?_) (fun h9 => absurd (rfl) h9)
      refine aw_goto C dc_law_1149 (tgt := 1456) (by decide) ?_
      refine aw_sub (lw' := G_ sc h a o n) (fun j v hj => by
        match j, hj with
        | 0, hj => exact hj
        | 1, hj => exact hj
        | 2, hj => exact hj
        | 3, hj => exact hj
        | 4, hj => exact hj
        | 5, hj => cases hj
        | 6, hj => cases hj) ?_
      exact aw_P (fun H h9 => ⟨(c', O', nI k, m'), hr', h9⟩) kk
set_option maxHeartbeats 4000000 in
set_option maxRecDepth 100000 in
theorem law_nth (hl : l.stackTraces = false) (C : cx p s m args meth c code 7 (c0 :: tw_) "FamilyShelfLaw" D cl_ (ty_s cI cL cF)) (hX : xq_ h th s) (hS : va_X sc L xs s s.heap) (hp : wp_ h a o) (hh : h = s.heap.size) (hsc : sc < h) (hL : L < 2 ^ 31) (hfr : 42 ≤ R.frames) (hlo : 2100 ≤ R.locals) (hce : cells + 1 ≤ R.cells) (hsl : slots + 6 ≤ R.slots) (n : Nat) (hn : 5 * n + 5 ≤ L) (x : wx_) (hr : rr_ x.1 x.2.2.2) (kk : aw p l e R s m args below meth c 7 (fun q => h ≤ q) (cells + 1) (slots + 6) Q (lx_ D h a o cI cL cF) (G_ sc h a o n) 1456 []) : aw p l e R s m args below meth c 7 (fun q => h ≤ q) cells slots Q (va_P D cl_ (ww_ h a o cI cL cF x)) (G_ sc h a o n) 1152 [] := by
  have hho : h ≤ o := by rw [hp.2]; exact Nat.le_add_right _ _
  have ho : ¬ ca_ h o := fun h9 => by have h8 : h ≤ o ∧ o < h + 42 := h9; have h7 := hp.2; omega
  have hbl : sc < s.heap.size := by rw [← hh]; exact hsc
  have hbA : ¬ h ≤ sc := Nat.not_le.mpr hsc
  have hAc : ∀ q, sA_ h o q → h ≤ q := sA_le hho
  have hAm : ∀ q, cm_ a q → h ≤ q := fun q h9 => by have h8 : a ≤ q ∧ q < a + 9 := h9; have h7 := hp.1; omega
  obtain ⟨k, c', O', m', r, hk4, hr', hO, hB, hLm, hMm⟩ := b_nth l hl D h th a o cI cL cF ho hho x.1 x.2.1 x.2.2.1 x.2.2.2 hr (xs (5 * n + 1)) (xs (5 * n + 2))
  refine aw_aload_n C dc_law_1152 rfl ?_
  refine aw_aload_n C dc_law_1153 rfl ?_
  refine aw_iload C dc_law_1154 rfl ?_
  refine aw_iconst C dc_law_1156 (v := nI 1) rfl ?_
  refine aw_iadd C dc_law_1157 ?_
  refine aw_sld C hS hbl hbA (5 * n + 1) (nI_add _ _) (by omega) hL dc_law_1158 ?_
  refine aw_aload_n C dc_law_1159 rfl ?_
  refine aw_iload C dc_law_1160 rfl ?_
  refine aw_iconst C dc_law_1162 (v := nI 2) rfl ?_
  refine aw_iadd C dc_law_1163 ?_
  refine aw_sld C hS hbl hbA (5 * n + 2) (nI_add _ _) (by omega) hL dc_law_1164 ?_
  refine aw_aload_n C dc_law_1165 rfl ?_
  refine kq_Si (X1 := xq_ h th) (As := [.ref h, .int (xs (5 * n + 1)), .int (xs (5 * n + 2)), .ref o]) (n := 4) (P' := va_P D cl_ (ww_ h a o cI cL cF (c', O', x.2.2))) C (fun U hW hz hq => xq_k (A := fun q => h ≤ q) (fun q h9 => h9) s U hW hz hq hX) (sp_blind (A := sA_ h o) (xq_k (sA_le hho))) hLm kw_536 kw_534 kw_535 kw_0 (by unfold kd_; decide) ⟨rfl, rfl, Nat.le_trans (by decide) hfr, Nat.le_trans (by decide) hlo⟩ rfl rfl (Nat.le_of_ble_eq_true rfl) ⟨hce, hsl⟩ dc_law_1166 hAc (fun H h9 => ww_c h9) (fun H H1 h9 hk h1 => ww_cpost hp h9 hk h1) ?_
  refine aw_istore C dc_law_1169 (by decide) rfl ?_
  refine aw_aload_n C dc_law_1171 rfl ?_
  refine aw_aload_n C dc_law_1172 rfl ?_
  refine aw_iload C dc_law_1173 rfl ?_
  refine aw_iconst C dc_law_1175 (v := nI 1) rfl ?_
  refine aw_iadd C dc_law_1176 ?_
  refine aw_sld C hS hbl hbA (5 * n + 1) (nI_add _ _) (by omega) hL dc_law_1177 ?_
  refine aw_aload_n C dc_law_1178 rfl ?_
  refine aw_iload C dc_law_1179 rfl ?_
  refine aw_iconst C dc_law_1181 (v := nI 2) rfl ?_
  refine aw_iadd C dc_law_1182 ?_
  refine aw_sld C hS hbl hbA (5 * n + 2) (nI_add _ _) (by omega) hL dc_law_1183 ?_
  refine kq_Vi (X1 := fun _ => True) (As := [.int (xs (5 * n + 1)), .int (xs (5 * n + 2))]) (n := 2) (P' := va_P D cl_ (ww_ h a o cI cL cF (c', O', nI k, m'))) C (fun _ _ _ _ => trivial) (sp_blind (A := cm_ a) xk_true) (fun H h9 => ww_m (h := h) (o := o) (cF := cF) (x := (c', O', x.2.2)) h9) 0 rf_p0 rfl hMm kw_811 kw_808 kw_809 kw_810 kw_8 rfl (by unfold kd_; decide) ⟨rfl, rfl, Nat.le_trans (by decide) hfr, Nat.le_trans (by decide) hlo⟩ rfl rfl (Nat.le_of_ble_eq_true rfl) ⟨hce, hsl⟩ dc_law_1184 hAm (fun H h9 => ww_m (h := h) (o := o) (cF := cF) (x := (c', O', x.2.2)) h9) (fun H H1 h9 hk h1 => ww_mpost (x := (c', O', x.2.2)) hp h9 hk h1) ?_
  refine aw_istore C dc_law_1187 (by decide) rfl ?_
  refine aw_aload_n C dc_law_1189 rfl ?_
  refine kq_Vi (X1 := fun _ => True) (As := []) (n := 0) (P' := va_P D cl_ (ww_ h a o cI cL cF (c', O', nI k, m'))) C (fun _ _ _ _ => trivial) (sp_blind (A := cm_ a) xk_true) (fun H h9 => ww_m (h := h) (o := o) (cF := cF) (x := (c', O', nI k, m')) h9) 0 rf_p0 rfl (m_thrown l D a cI cL cF (nI k) m'.1 m'.2.1 m'.2.2.1 m'.2.2.2.1 m'.2.2.2.2.1 m'.2.2.2.2.2.1 m'.2.2.2.2.2.2.1 m'.2.2.2.2.2.2.2) kw_667 kw_664 kw_665 kw_666 kw_8 rfl (by unfold kd_; decide) ⟨rfl, rfl, Nat.le_trans (by decide) hfr, Nat.le_trans (by decide) hlo⟩ rfl rfl (Nat.le_of_ble_eq_true rfl) ⟨hce, hsl⟩ dc_law_1190 hAm (fun H h9 => ww_m (h := h) (o := o) (cF := cF) (x := (c', O', nI k, m')) h9) (fun H H1 h9 hk h1 => ww_mpost (x := (c', O', nI k, m')) hp h9 hk h1) ?_
  refine aw_iload C dc_law_1193 rfl ?_
  refine aw_icmp_eq C dc_law_1195 (tgt := 1200) (by decide) (fun _ => ?_) (fun h9 => absurd (rfl) h9)
  refine aw_iload C dc_law_1200 rfl ?_
  refine aw_if_ne C dc_law_1202 (tgt := 1217) (by decide) (fun hB1202 => ?_) (fun hB1202 => ?_)
  · refine aw_goto C dc_law_1217 (tgt := 1456) (by decide) ?_
    refine aw_sub (lw' := G_ sc h a o n) (fun j v hj => by
      match j, hj with
      | 0, hj => exact hj
      | 1, hj => exact hj
      | 2, hj => exact hj
      | 3, hj => exact hj
      | 4, hj => exact hj
      | 5, hj => cases hj
      | 6, hj => cases hj) ?_
    exact aw_P (fun H h9 => ⟨(c', O', nI k, m'), hr', h9⟩) kk
  · have hk0 : k = 0 := (ni_z (by omega)).mp hB1202
    have hO := hO hk0
    refine aw_aload_n C dc_law_1205 rfl ?_
    refine aw_iconst C dc_law_1206 (v := nI 0) rfl ?_
    refine aw_lald C 42 1 ww_o rfl 0 rfl (by decide) (by decide) dc_law_1207 ?_
    refine aw_iload C dc_law_1208 rfl ?_
    refine aw_i2l C dc_law_1210 ?_
    refine aw_lcmp C dc_law_1211 ?_
    refine aw_eqi (y := 0) (by show lg_cmp (O' 0) _ = 0; rw [hO]; exact lg_self _) ?_
    refine aw_if_eq C dc_law_1212 (tgt := 1217) (by decide) (fun _ => ?_) (fun h9 => absurd (rfl) h9)
    refine aw_goto C dc_law_1217 (tgt := 1456) (by decide) ?_
    refine aw_sub (lw' := G_ sc h a o n) (fun j v hj => by
      match j, hj with
      | 0, hj => exact hj
      | 1, hj => exact hj
      | 2, hj => exact hj
      | 3, hj => exact hj
      | 4, hj => exact hj
      | 5, hj => cases hj
      | 6, hj => cases hj) ?_
    exact aw_P (fun H h9 => ⟨(c', O', nI k, m'), hr', h9⟩) kk
set_option maxHeartbeats 4000000 in
set_option maxRecDepth 100000 in
theorem law_rank (hl : l.stackTraces = false) (C : cx p s m args meth c code 7 (c0 :: tw_) "FamilyShelfLaw" D cl_ (ty_s cI cL cF)) (hX : xq_ h th s) (hS : va_X sc L xs s s.heap) (hp : wp_ h a o) (hh : h = s.heap.size) (hsc : sc < h) (hL : L < 2 ^ 31) (hfr : 42 ≤ R.frames) (hlo : 2100 ≤ R.locals) (hce : cells + 1 ≤ R.cells) (hsl : slots + 6 ≤ R.slots) (n : Nat) (hn : 5 * n + 5 ≤ L) (x : wx_) (hr : rr_ x.1 x.2.2.2) (kk : aw p l e R s m args below meth c 7 (fun q => h ≤ q) (cells + 1) (slots + 6) Q (lx_ D h a o cI cL cF) (G_ sc h a o n) 1456 []) : aw p l e R s m args below meth c 7 (fun q => h ≤ q) cells slots Q (va_P D cl_ (ww_ h a o cI cL cF x)) (G_ sc h a o n) 1220 [] := by
  have hho : h ≤ o := by rw [hp.2]; exact Nat.le_add_right _ _
  have ho : ¬ ca_ h o := fun h9 => by have h8 : h ≤ o ∧ o < h + 42 := h9; have h7 := hp.2; omega
  have hbl : sc < s.heap.size := by rw [← hh]; exact hsc
  have hbA : ¬ h ≤ sc := Nat.not_le.mpr hsc
  have hAc : ∀ q, sA_ h o q → h ≤ q := sA_le hho
  have hAm : ∀ q, cm_ a q → h ≤ q := fun q h9 => by have h8 : a ≤ q ∧ q < a + 9 := h9; have h7 := hp.1; omega
  obtain ⟨k, c', O', m', r, hk4, hr', hO, hB, hLm, hMm⟩ := b_rank l hl D h th a o cI cL cF ho hho x.1 x.2.1 x.2.2.1 x.2.2.2 hr (xs (5 * n + 1)) (xs (5 * n + 2))
  refine aw_aload_n C dc_law_1220 rfl ?_
  refine aw_aload_n C dc_law_1221 rfl ?_
  refine aw_iload C dc_law_1222 rfl ?_
  refine aw_iconst C dc_law_1224 (v := nI 1) rfl ?_
  refine aw_iadd C dc_law_1225 ?_
  refine aw_sld C hS hbl hbA (5 * n + 1) (nI_add _ _) (by omega) hL dc_law_1226 ?_
  refine aw_aload_n C dc_law_1227 rfl ?_
  refine aw_iload C dc_law_1228 rfl ?_
  refine aw_iconst C dc_law_1230 (v := nI 2) rfl ?_
  refine aw_iadd C dc_law_1231 ?_
  refine aw_sld C hS hbl hbA (5 * n + 2) (nI_add _ _) (by omega) hL dc_law_1232 ?_
  refine aw_aload_n C dc_law_1233 rfl ?_
  refine kq_Si (X1 := xq_ h th) (As := [.ref h, .int (xs (5 * n + 1)), .int (xs (5 * n + 2)), .ref o]) (n := 4) (P' := va_P D cl_ (ww_ h a o cI cL cF (c', O', x.2.2))) C (fun U hW hz hq => xq_k (A := fun q => h ≤ q) (fun q h9 => h9) s U hW hz hq hX) (sp_blind (A := sA_ h o) (xq_k (sA_le hho))) hLm kw_550 kw_548 kw_549 kw_0 (by unfold kd_; decide) ⟨rfl, rfl, Nat.le_trans (by decide) hfr, Nat.le_trans (by decide) hlo⟩ rfl rfl (Nat.le_of_ble_eq_true rfl) ⟨hce, hsl⟩ dc_law_1234 hAc (fun H h9 => ww_c h9) (fun H H1 h9 hk h1 => ww_cpost hp h9 hk h1) ?_
  refine aw_istore C dc_law_1237 (by decide) rfl ?_
  refine aw_aload_n C dc_law_1239 rfl ?_
  refine aw_aload_n C dc_law_1240 rfl ?_
  refine aw_iload C dc_law_1241 rfl ?_
  refine aw_iconst C dc_law_1243 (v := nI 1) rfl ?_
  refine aw_iadd C dc_law_1244 ?_
  refine aw_sld C hS hbl hbA (5 * n + 1) (nI_add _ _) (by omega) hL dc_law_1245 ?_
  refine aw_aload_n C dc_law_1246 rfl ?_
  refine aw_iload C dc_law_1247 rfl ?_
  refine aw_iconst C dc_law_1249 (v := nI 2) rfl ?_
  refine aw_iadd C dc_law_1250 ?_
  refine aw_sld C hS hbl hbA (5 * n + 2) (nI_add _ _) (by omega) hL dc_law_1251 ?_
  refine kq_Vi (X1 := fun _ => True) (As := [.int (xs (5 * n + 1)), .int (xs (5 * n + 2))]) (n := 2) (P' := va_P D cl_ (ww_ h a o cI cL cF (c', O', nI k, m'))) C (fun _ _ _ _ => trivial) (sp_blind (A := cm_ a) xk_true) (fun H h9 => ww_m (h := h) (o := o) (cF := cF) (x := (c', O', x.2.2)) h9) 0 rf_p0 rfl hMm kw_815 kw_812 kw_813 kw_814 kw_8 rfl (by unfold kd_; decide) ⟨rfl, rfl, Nat.le_trans (by decide) hfr, Nat.le_trans (by decide) hlo⟩ rfl rfl (Nat.le_of_ble_eq_true rfl) ⟨hce, hsl⟩ dc_law_1252 hAm (fun H h9 => ww_m (h := h) (o := o) (cF := cF) (x := (c', O', x.2.2)) h9) (fun H H1 h9 hk h1 => ww_mpost (x := (c', O', x.2.2)) hp h9 hk h1) ?_
  refine aw_istore C dc_law_1255 (by decide) rfl ?_
  refine aw_aload_n C dc_law_1257 rfl ?_
  refine kq_Vi (X1 := fun _ => True) (As := []) (n := 0) (P' := va_P D cl_ (ww_ h a o cI cL cF (c', O', nI k, m'))) C (fun _ _ _ _ => trivial) (sp_blind (A := cm_ a) xk_true) (fun H h9 => ww_m (h := h) (o := o) (cF := cF) (x := (c', O', nI k, m')) h9) 0 rf_p0 rfl (m_thrown l D a cI cL cF (nI k) m'.1 m'.2.1 m'.2.2.1 m'.2.2.2.1 m'.2.2.2.2.1 m'.2.2.2.2.2.1 m'.2.2.2.2.2.2.1 m'.2.2.2.2.2.2.2) kw_667 kw_664 kw_665 kw_666 kw_8 rfl (by unfold kd_; decide) ⟨rfl, rfl, Nat.le_trans (by decide) hfr, Nat.le_trans (by decide) hlo⟩ rfl rfl (Nat.le_of_ble_eq_true rfl) ⟨hce, hsl⟩ dc_law_1258 hAm (fun H h9 => ww_m (h := h) (o := o) (cF := cF) (x := (c', O', nI k, m')) h9) (fun H H1 h9 hk h1 => ww_mpost (x := (c', O', nI k, m')) hp h9 hk h1) ?_
  refine aw_iload C dc_law_1261 rfl ?_
  refine aw_icmp_eq C dc_law_1263 (tgt := 1268) (by decide) (fun _ => ?_) (fun h9 => absurd (rfl) h9)
  refine aw_iload C dc_law_1268 rfl ?_
  refine aw_if_ne C dc_law_1270 (tgt := 1285) (by decide) (fun hB1270 => ?_) (fun hB1270 => ?_)
  · refine aw_goto C dc_law_1285 (tgt := 1456) (by decide) ?_
    refine aw_sub (lw' := G_ sc h a o n) (fun j v hj => by
      match j, hj with
      | 0, hj => exact hj
      | 1, hj => exact hj
      | 2, hj => exact hj
      | 3, hj => exact hj
      | 4, hj => exact hj
      | 5, hj => cases hj
      | 6, hj => cases hj) ?_
    exact aw_P (fun H h9 => ⟨(c', O', nI k, m'), hr', h9⟩) kk
  · have hk0 : k = 0 := (ni_z (by omega)).mp hB1270
    have hO := hO hk0
    refine aw_aload_n C dc_law_1273 rfl ?_
    refine aw_iconst C dc_law_1274 (v := nI 0) rfl ?_
    refine aw_lald C 42 1 ww_o rfl 0 rfl (by decide) (by decide) dc_law_1275 ?_
    refine aw_iload C dc_law_1276 rfl ?_
    refine aw_i2l C dc_law_1278 ?_
    refine aw_lcmp C dc_law_1279 ?_
    refine aw_eqi (y := 0) (by show lg_cmp (O' 0) _ = 0; rw [hO]; exact lg_self _) ?_
    refine aw_if_eq C dc_law_1280 (tgt := 1285) (by decide) (fun _ => ?_) (fun h9 => absurd (rfl) h9)
    refine aw_goto C dc_law_1285 (tgt := 1456) (by decide) ?_
    refine aw_sub (lw' := G_ sc h a o n) (fun j v hj => by
      match j, hj with
      | 0, hj => exact hj
      | 1, hj => exact hj
      | 2, hj => exact hj
      | 3, hj => exact hj
      | 4, hj => exact hj
      | 5, hj => cases hj
      | 6, hj => cases hj) ?_
    exact aw_P (fun H h9 => ⟨(c', O', nI k, m'), hr', h9⟩) kk
set_option maxHeartbeats 4000000 in
set_option maxRecDepth 100000 in
theorem law_heaviest (hl : l.stackTraces = false) (C : cx p s m args meth c code 7 (c0 :: tw_) "FamilyShelfLaw" D cl_ (ty_s cI cL cF)) (hX : xq_ h th s) (hS : va_X sc L xs s s.heap) (hp : wp_ h a o) (hh : h = s.heap.size) (hsc : sc < h) (hL : L < 2 ^ 31) (hfr : 42 ≤ R.frames) (hlo : 2100 ≤ R.locals) (hce : cells + 1 ≤ R.cells) (hsl : slots + 6 ≤ R.slots) (n : Nat) (hn : 5 * n + 5 ≤ L) (x : wx_) (hr : rr_ x.1 x.2.2.2) (kk : aw p l e R s m args below meth c 7 (fun q => h ≤ q) (cells + 1) (slots + 6) Q (lx_ D h a o cI cL cF) (G_ sc h a o n) 1456 []) : aw p l e R s m args below meth c 7 (fun q => h ≤ q) cells slots Q (va_P D cl_ (ww_ h a o cI cL cF x)) (G_ sc h a o n) 1288 [] := by
  have hho : h ≤ o := by rw [hp.2]; exact Nat.le_add_right _ _
  have ho : ¬ ca_ h o := fun h9 => by have h8 : h ≤ o ∧ o < h + 42 := h9; have h7 := hp.2; omega
  have hbl : sc < s.heap.size := by rw [← hh]; exact hsc
  have hbA : ¬ h ≤ sc := Nat.not_le.mpr hsc
  have hAc : ∀ q, sA_ h o q → h ≤ q := sA_le hho
  have hAm : ∀ q, cm_ a q → h ≤ q := fun q h9 => by have h8 : a ≤ q ∧ q < a + 9 := h9; have h7 := hp.1; omega
  obtain ⟨k, c', O', m', r, hk4, hr', hO, hB, hLm, hMm⟩ := b_heaviest l hl D h th a o cI cL cF ho hho x.1 x.2.1 x.2.2.1 x.2.2.2 hr (xs (5 * n + 1))
  refine aw_aload_n C dc_law_1288 rfl ?_
  refine aw_aload_n C dc_law_1289 rfl ?_
  refine aw_iload C dc_law_1290 rfl ?_
  refine aw_iconst C dc_law_1292 (v := nI 1) rfl ?_
  refine aw_iadd C dc_law_1293 ?_
  refine aw_sld C hS hbl hbA (5 * n + 1) (nI_add _ _) (by omega) hL dc_law_1294 ?_
  refine aw_aload_n C dc_law_1295 rfl ?_
  refine kq_Si (X1 := xq_ h th) (As := [.ref h, .int (xs (5 * n + 1)), .ref o]) (n := 3) (P' := va_P D cl_ (ww_ h a o cI cL cF (c', O', x.2.2))) C (fun U hW hz hq => xq_k (A := fun q => h ≤ q) (fun q h9 => h9) s U hW hz hq hX) (sp_blind (A := sA_ h o) (xq_k (sA_le hho))) hLm kw_561 kw_559 kw_560 kw_0 (by unfold kd_; decide) ⟨rfl, rfl, Nat.le_trans (by decide) hfr, Nat.le_trans (by decide) hlo⟩ rfl rfl (Nat.le_of_ble_eq_true rfl) ⟨hce, hsl⟩ dc_law_1296 hAc (fun H h9 => ww_c h9) (fun H H1 h9 hk h1 => ww_cpost hp h9 hk h1) ?_
  refine aw_istore C dc_law_1299 (by decide) rfl ?_
  refine aw_aload_n C dc_law_1301 rfl ?_
  refine aw_aload_n C dc_law_1302 rfl ?_
  refine aw_iload C dc_law_1303 rfl ?_
  refine aw_iconst C dc_law_1305 (v := nI 1) rfl ?_
  refine aw_iadd C dc_law_1306 ?_
  refine aw_sld C hS hbl hbA (5 * n + 1) (nI_add _ _) (by omega) hL dc_law_1307 ?_
  refine kq_Vi (X1 := fun _ => True) (As := [.int (xs (5 * n + 1))]) (n := 1) (P' := va_P D cl_ (ww_ h a o cI cL cF (c', O', nI k, m'))) C (fun _ _ _ _ => trivial) (sp_blind (A := cm_ a) xk_true) (fun H h9 => ww_m (h := h) (o := o) (cF := cF) (x := (c', O', x.2.2)) h9) 0 rf_p0 rfl hMm kw_819 kw_816 kw_817 kw_818 kw_8 rfl (by unfold kd_; decide) ⟨rfl, rfl, Nat.le_trans (by decide) hfr, Nat.le_trans (by decide) hlo⟩ rfl rfl (Nat.le_of_ble_eq_true rfl) ⟨hce, hsl⟩ dc_law_1308 hAm (fun H h9 => ww_m (h := h) (o := o) (cF := cF) (x := (c', O', x.2.2)) h9) (fun H H1 h9 hk h1 => ww_mpost (x := (c', O', x.2.2)) hp h9 hk h1) ?_
  refine aw_istore C dc_law_1311 (by decide) rfl ?_
  refine aw_aload_n C dc_law_1313 rfl ?_
  refine kq_Vi (X1 := fun _ => True) (As := []) (n := 0) (P' := va_P D cl_ (ww_ h a o cI cL cF (c', O', nI k, m'))) C (fun _ _ _ _ => trivial) (sp_blind (A := cm_ a) xk_true) (fun H h9 => ww_m (h := h) (o := o) (cF := cF) (x := (c', O', nI k, m')) h9) 0 rf_p0 rfl (m_thrown l D a cI cL cF (nI k) m'.1 m'.2.1 m'.2.2.1 m'.2.2.2.1 m'.2.2.2.2.1 m'.2.2.2.2.2.1 m'.2.2.2.2.2.2.1 m'.2.2.2.2.2.2.2) kw_667 kw_664 kw_665 kw_666 kw_8 rfl (by unfold kd_; decide) ⟨rfl, rfl, Nat.le_trans (by decide) hfr, Nat.le_trans (by decide) hlo⟩ rfl rfl (Nat.le_of_ble_eq_true rfl) ⟨hce, hsl⟩ dc_law_1314 hAm (fun H h9 => ww_m (h := h) (o := o) (cF := cF) (x := (c', O', nI k, m')) h9) (fun H H1 h9 hk h1 => ww_mpost (x := (c', O', nI k, m')) hp h9 hk h1) ?_
  refine aw_iload C dc_law_1317 rfl ?_
  refine aw_icmp_eq C dc_law_1319 (tgt := 1324) (by decide) (fun _ => ?_) (fun h9 => absurd (rfl) h9)
  refine aw_iload C dc_law_1324 rfl ?_
  refine aw_if_ne C dc_law_1326 (tgt := 1341) (by decide) (fun hB1326 => ?_) (fun hB1326 => ?_)
  · refine aw_goto C dc_law_1341 (tgt := 1456) (by decide) ?_
    refine aw_sub (lw' := G_ sc h a o n) (fun j v hj => by
      match j, hj with
      | 0, hj => exact hj
      | 1, hj => exact hj
      | 2, hj => exact hj
      | 3, hj => exact hj
      | 4, hj => exact hj
      | 5, hj => cases hj
      | 6, hj => cases hj) ?_
    exact aw_P (fun H h9 => ⟨(c', O', nI k, m'), hr', h9⟩) kk
  · have hk0 : k = 0 := (ni_z (by omega)).mp hB1326
    have hO := hO hk0
    refine aw_aload_n C dc_law_1329 rfl ?_
    refine aw_iconst C dc_law_1330 (v := nI 0) rfl ?_
    refine aw_lald C 42 1 ww_o rfl 0 rfl (by decide) (by decide) dc_law_1331 ?_
    refine aw_iload C dc_law_1332 rfl ?_
    refine aw_i2l C dc_law_1334 ?_
    refine aw_lcmp C dc_law_1335 ?_
    refine aw_eqi (y := 0) (by show lg_cmp (O' 0) _ = 0; rw [hO]; exact lg_self _) ?_
    refine aw_if_eq C dc_law_1336 (tgt := 1341) (by decide) (fun _ => ?_) (fun h9 => absurd (rfl) h9)
    refine aw_goto C dc_law_1341 (tgt := 1456) (by decide) ?_
    refine aw_sub (lw' := G_ sc h a o n) (fun j v hj => by
      match j, hj with
      | 0, hj => exact hj
      | 1, hj => exact hj
      | 2, hj => exact hj
      | 3, hj => exact hj
      | 4, hj => exact hj
      | 5, hj => cases hj
      | 6, hj => cases hj) ?_
    exact aw_P (fun H h9 => ⟨(c', O', nI k, m'), hr', h9⟩) kk
set_option maxHeartbeats 4000000 in
set_option maxRecDepth 100000 in
theorem law_size (hl : l.stackTraces = false) (C : cx p s m args meth c code 7 (c0 :: tw_) "FamilyShelfLaw" D cl_ (ty_s cI cL cF)) (hX : xq_ h th s) (hS : va_X sc L xs s s.heap) (hp : wp_ h a o) (hh : h = s.heap.size) (hsc : sc < h) (hL : L < 2 ^ 31) (hfr : 42 ≤ R.frames) (hlo : 2100 ≤ R.locals) (hce : cells + 1 ≤ R.cells) (hsl : slots + 6 ≤ R.slots) (n : Nat) (hn : 5 * n + 5 ≤ L) (x : wx_) (hr : rr_ x.1 x.2.2.2) (kk : aw p l e R s m args below meth c 7 (fun q => h ≤ q) (cells + 1) (slots + 6) Q (lx_ D h a o cI cL cF) (G_ sc h a o n) 1456 []) : aw p l e R s m args below meth c 7 (fun q => h ≤ q) cells slots Q (va_P D cl_ (ww_ h a o cI cL cF x)) (G_ sc h a o n) 1344 [] := by
  have hho : h ≤ o := by rw [hp.2]; exact Nat.le_add_right _ _
  have ho : ¬ ca_ h o := fun h9 => by have h8 : h ≤ o ∧ o < h + 42 := h9; have h7 := hp.2; omega
  have hbl : sc < s.heap.size := by rw [← hh]; exact hsc
  have hbA : ¬ h ≤ sc := Nat.not_le.mpr hsc
  have hAc : ∀ q, sA_ h o q → h ≤ q := sA_le hho
  have hAm : ∀ q, cm_ a q → h ≤ q := fun q h9 => by have h8 : a ≤ q ∧ q < a + 9 := h9; have h7 := hp.1; omega
  obtain ⟨k, c', O', m', r, hk4, hr', hO, hB, hLm, hMm⟩ := b_size l hl D h th a o cI cL cF ho hho x.1 x.2.1 x.2.2.1 x.2.2.2 hr (xs (5 * n + 1))
  refine aw_aload_n C dc_law_1344 rfl ?_
  refine aw_aload_n C dc_law_1345 rfl ?_
  refine aw_iload C dc_law_1346 rfl ?_
  refine aw_iconst C dc_law_1348 (v := nI 1) rfl ?_
  refine aw_iadd C dc_law_1349 ?_
  refine aw_sld C hS hbl hbA (5 * n + 1) (nI_add _ _) (by omega) hL dc_law_1350 ?_
  refine aw_aload_n C dc_law_1351 rfl ?_
  refine kq_Si (X1 := xq_ h th) (As := [.ref h, .int (xs (5 * n + 1)), .ref o]) (n := 3) (P' := va_P D cl_ (ww_ h a o cI cL cF (c', O', x.2.2))) C (fun U hW hz hq => xq_k (A := fun q => h ≤ q) (fun q h9 => h9) s U hW hz hq hX) (sp_blind (A := sA_ h o) (xq_k (sA_le hho))) hLm kw_598 kw_596 kw_597 kw_0 (by unfold kd_; decide) ⟨rfl, rfl, Nat.le_trans (by decide) hfr, Nat.le_trans (by decide) hlo⟩ rfl rfl (Nat.le_of_ble_eq_true rfl) ⟨hce, hsl⟩ dc_law_1352 hAc (fun H h9 => ww_c h9) (fun H H1 h9 hk h1 => ww_cpost hp h9 hk h1) ?_
  refine aw_istore C dc_law_1355 (by decide) rfl ?_
  refine aw_aload_n C dc_law_1357 rfl ?_
  refine aw_aload_n C dc_law_1358 rfl ?_
  refine aw_iload C dc_law_1359 rfl ?_
  refine aw_iconst C dc_law_1361 (v := nI 1) rfl ?_
  refine aw_iadd C dc_law_1362 ?_
  refine aw_sld C hS hbl hbA (5 * n + 1) (nI_add _ _) (by omega) hL dc_law_1363 ?_
  refine kq_Vi (X1 := fun _ => True) (As := [.int (xs (5 * n + 1))]) (n := 1) (P' := va_P D cl_ (ww_ h a o cI cL cF (c', O', nI k, m'))) C (fun _ _ _ _ => trivial) (sp_blind (A := cm_ a) xk_true) (fun H h9 => ww_m (h := h) (o := o) (cF := cF) (x := (c', O', x.2.2)) h9) 0 rf_p0 rfl hMm kw_827 kw_824 kw_825 kw_826 kw_8 rfl (by unfold kd_; decide) ⟨rfl, rfl, Nat.le_trans (by decide) hfr, Nat.le_trans (by decide) hlo⟩ rfl rfl (Nat.le_of_ble_eq_true rfl) ⟨hce, hsl⟩ dc_law_1364 hAm (fun H h9 => ww_m (h := h) (o := o) (cF := cF) (x := (c', O', x.2.2)) h9) (fun H H1 h9 hk h1 => ww_mpost (x := (c', O', x.2.2)) hp h9 hk h1) ?_
  refine aw_istore C dc_law_1367 (by decide) rfl ?_
  refine aw_aload_n C dc_law_1369 rfl ?_
  refine kq_Vi (X1 := fun _ => True) (As := []) (n := 0) (P' := va_P D cl_ (ww_ h a o cI cL cF (c', O', nI k, m'))) C (fun _ _ _ _ => trivial) (sp_blind (A := cm_ a) xk_true) (fun H h9 => ww_m (h := h) (o := o) (cF := cF) (x := (c', O', nI k, m')) h9) 0 rf_p0 rfl (m_thrown l D a cI cL cF (nI k) m'.1 m'.2.1 m'.2.2.1 m'.2.2.2.1 m'.2.2.2.2.1 m'.2.2.2.2.2.1 m'.2.2.2.2.2.2.1 m'.2.2.2.2.2.2.2) kw_667 kw_664 kw_665 kw_666 kw_8 rfl (by unfold kd_; decide) ⟨rfl, rfl, Nat.le_trans (by decide) hfr, Nat.le_trans (by decide) hlo⟩ rfl rfl (Nat.le_of_ble_eq_true rfl) ⟨hce, hsl⟩ dc_law_1370 hAm (fun H h9 => ww_m (h := h) (o := o) (cF := cF) (x := (c', O', nI k, m')) h9) (fun H H1 h9 hk h1 => ww_mpost (x := (c', O', nI k, m')) hp h9 hk h1) ?_
  refine aw_iload C dc_law_1373 rfl ?_
  refine aw_icmp_eq C dc_law_1375 (tgt := 1380) (by decide) (fun _ => ?_) (fun h9 => absurd (rfl) h9)
  refine aw_iload C dc_law_1380 rfl ?_
  refine aw_if_ne C dc_law_1382 (tgt := 1397) (by decide) (fun hB1382 => ?_) (fun hB1382 => ?_)
  · refine aw_goto C dc_law_1397 (tgt := 1456) (by decide) ?_
    refine aw_sub (lw' := G_ sc h a o n) (fun j v hj => by
      match j, hj with
      | 0, hj => exact hj
      | 1, hj => exact hj
      | 2, hj => exact hj
      | 3, hj => exact hj
      | 4, hj => exact hj
      | 5, hj => cases hj
      | 6, hj => cases hj) ?_
    exact aw_P (fun H h9 => ⟨(c', O', nI k, m'), hr', h9⟩) kk
  · have hk0 : k = 0 := (ni_z (by omega)).mp hB1382
    have hO := hO hk0
    refine aw_aload_n C dc_law_1385 rfl ?_
    refine aw_iconst C dc_law_1386 (v := nI 0) rfl ?_
    refine aw_lald C 42 1 ww_o rfl 0 rfl (by decide) (by decide) dc_law_1387 ?_
    refine aw_iload C dc_law_1388 rfl ?_
    refine aw_i2l C dc_law_1390 ?_
    refine aw_lcmp C dc_law_1391 ?_
    refine aw_eqi (y := 0) (by show lg_cmp (O' 0) _ = 0; rw [hO]; exact lg_self _) ?_
    refine aw_if_eq C dc_law_1392 (tgt := 1397) (by decide) (fun _ => ?_) (fun h9 => absurd (rfl) h9)
    refine aw_goto C dc_law_1397 (tgt := 1456) (by decide) ?_
    refine aw_sub (lw' := G_ sc h a o n) (fun j v hj => by
      match j, hj with
      | 0, hj => exact hj
      | 1, hj => exact hj
      | 2, hj => exact hj
      | 3, hj => exact hj
      | 4, hj => exact hj
      | 5, hj => cases hj
      | 6, hj => cases hj) ?_
    exact aw_P (fun H h9 => ⟨(c', O', nI k, m'), hr', h9⟩) kk
set_option maxHeartbeats 4000000 in
set_option maxRecDepth 100000 in
theorem law_parts (hl : l.stackTraces = false) (C : cx p s m args meth c code 7 (c0 :: tw_) "FamilyShelfLaw" D cl_ (ty_s cI cL cF)) (hX : xq_ h th s) (hS : va_X sc L xs s s.heap) (hp : wp_ h a o) (hh : h = s.heap.size) (hsc : sc < h) (hL : L < 2 ^ 31) (hfr : 42 ≤ R.frames) (hlo : 2100 ≤ R.locals) (hce : cells + 1 ≤ R.cells) (hsl : slots + 6 ≤ R.slots) (n : Nat) (hn : 5 * n + 5 ≤ L) (x : wx_) (hr : rr_ x.1 x.2.2.2) (kk : aw p l e R s m args below meth c 7 (fun q => h ≤ q) (cells + 1) (slots + 6) Q (lx_ D h a o cI cL cF) (G_ sc h a o n) 1456 []) : aw p l e R s m args below meth c 7 (fun q => h ≤ q) cells slots Q (va_P D cl_ (ww_ h a o cI cL cF x)) (G_ sc h a o n) 1400 [] := by
  have hho : h ≤ o := by rw [hp.2]; exact Nat.le_add_right _ _
  have ho : ¬ ca_ h o := fun h9 => by have h8 : h ≤ o ∧ o < h + 42 := h9; have h7 := hp.2; omega
  have hbl : sc < s.heap.size := by rw [← hh]; exact hsc
  have hbA : ¬ h ≤ sc := Nat.not_le.mpr hsc
  have hAc : ∀ q, sA_ h o q → h ≤ q := sA_le hho
  have hAm : ∀ q, cm_ a q → h ≤ q := fun q h9 => by have h8 : a ≤ q ∧ q < a + 9 := h9; have h7 := hp.1; omega
  obtain ⟨k, c', O', m', r, hk4, hr', hO, hB, hLm, hMm⟩ := b_parts l hl D h th a o cI cL cF ho hho x.1 x.2.1 x.2.2.1 x.2.2.2 hr (xs (5 * n + 1))
  refine aw_aload_n C dc_law_1400 rfl ?_
  refine aw_aload_n C dc_law_1401 rfl ?_
  refine aw_iload C dc_law_1402 rfl ?_
  refine aw_iconst C dc_law_1404 (v := nI 1) rfl ?_
  refine aw_iadd C dc_law_1405 ?_
  refine aw_sld C hS hbl hbA (5 * n + 1) (nI_add _ _) (by omega) hL dc_law_1406 ?_
  refine aw_aload_n C dc_law_1407 rfl ?_
  refine kq_Si (X1 := xq_ h th) (As := [.ref h, .int (xs (5 * n + 1)), .ref o]) (n := 3) (P' := va_P D cl_ (ww_ h a o cI cL cF (c', O', x.2.2))) C (fun U hW hz hq => xq_k (A := fun q => h ≤ q) (fun q h9 => h9) s U hW hz hq hX) (sp_blind (A := sA_ h o) (xq_k (sA_le hho))) hLm kw_621 kw_619 kw_620 kw_0 (by unfold kd_; decide) ⟨rfl, rfl, Nat.le_trans (by decide) hfr, Nat.le_trans (by decide) hlo⟩ rfl rfl (Nat.le_of_ble_eq_true rfl) ⟨hce, hsl⟩ dc_law_1408 hAc (fun H h9 => ww_c h9) (fun H H1 h9 hk h1 => ww_cpost hp h9 hk h1) ?_
  refine aw_istore C dc_law_1411 (by decide) rfl ?_
  refine aw_aload_n C dc_law_1413 rfl ?_
  refine aw_aload_n C dc_law_1414 rfl ?_
  refine aw_iload C dc_law_1415 rfl ?_
  refine aw_iconst C dc_law_1417 (v := nI 1) rfl ?_
  refine aw_iadd C dc_law_1418 ?_
  refine aw_sld C hS hbl hbA (5 * n + 1) (nI_add _ _) (by omega) hL dc_law_1419 ?_
  refine kq_Vi (X1 := fun _ => True) (As := [.int (xs (5 * n + 1))]) (n := 1) (P' := va_P D cl_ (ww_ h a o cI cL cF (c', O', nI k, m'))) C (fun _ _ _ _ => trivial) (sp_blind (A := cm_ a) xk_true) (fun H h9 => ww_m (h := h) (o := o) (cF := cF) (x := (c', O', x.2.2)) h9) 0 rf_p0 rfl hMm kw_843 kw_840 kw_841 kw_842 kw_8 rfl (by unfold kd_; decide) ⟨rfl, rfl, Nat.le_trans (by decide) hfr, Nat.le_trans (by decide) hlo⟩ rfl rfl (Nat.le_of_ble_eq_true rfl) ⟨hce, hsl⟩ dc_law_1420 hAm (fun H h9 => ww_m (h := h) (o := o) (cF := cF) (x := (c', O', x.2.2)) h9) (fun H H1 h9 hk h1 => ww_mpost (x := (c', O', x.2.2)) hp h9 hk h1) ?_
  refine aw_istore C dc_law_1423 (by decide) rfl ?_
  refine aw_aload_n C dc_law_1425 rfl ?_
  refine kq_Vi (X1 := fun _ => True) (As := []) (n := 0) (P' := va_P D cl_ (ww_ h a o cI cL cF (c', O', nI k, m'))) C (fun _ _ _ _ => trivial) (sp_blind (A := cm_ a) xk_true) (fun H h9 => ww_m (h := h) (o := o) (cF := cF) (x := (c', O', nI k, m')) h9) 0 rf_p0 rfl (m_thrown l D a cI cL cF (nI k) m'.1 m'.2.1 m'.2.2.1 m'.2.2.2.1 m'.2.2.2.2.1 m'.2.2.2.2.2.1 m'.2.2.2.2.2.2.1 m'.2.2.2.2.2.2.2) kw_667 kw_664 kw_665 kw_666 kw_8 rfl (by unfold kd_; decide) ⟨rfl, rfl, Nat.le_trans (by decide) hfr, Nat.le_trans (by decide) hlo⟩ rfl rfl (Nat.le_of_ble_eq_true rfl) ⟨hce, hsl⟩ dc_law_1426 hAm (fun H h9 => ww_m (h := h) (o := o) (cF := cF) (x := (c', O', nI k, m')) h9) (fun H H1 h9 hk h1 => ww_mpost (x := (c', O', nI k, m')) hp h9 hk h1) ?_
  refine aw_iload C dc_law_1429 rfl ?_
  refine aw_icmp_eq C dc_law_1431 (tgt := 1436) (by decide) (fun _ => ?_) (fun h9 => absurd (rfl) h9)
  refine aw_iload C dc_law_1436 rfl ?_
  refine aw_if_ne C dc_law_1438 (tgt := 1453) (by decide) (fun hB1438 => ?_) (fun hB1438 => ?_)
  · refine aw_goto C dc_law_1453 (tgt := 1456) (by decide) ?_
    refine aw_sub (lw' := G_ sc h a o n) (fun j v hj => by
      match j, hj with
      | 0, hj => exact hj
      | 1, hj => exact hj
      | 2, hj => exact hj
      | 3, hj => exact hj
      | 4, hj => exact hj
      | 5, hj => cases hj
      | 6, hj => cases hj) ?_
    exact aw_P (fun H h9 => ⟨(c', O', nI k, m'), hr', h9⟩) kk
  · have hk0 : k = 0 := (ni_z (by omega)).mp hB1438
    have hO := hO hk0
    refine aw_aload_n C dc_law_1441 rfl ?_
    refine aw_iconst C dc_law_1442 (v := nI 0) rfl ?_
    refine aw_lald C 42 1 ww_o rfl 0 rfl (by decide) (by decide) dc_law_1443 ?_
    refine aw_iload C dc_law_1444 rfl ?_
    refine aw_i2l C dc_law_1446 ?_
    refine aw_lcmp C dc_law_1447 ?_
    refine aw_eqi (y := 0) (by show lg_cmp (O' 0) _ = 0; rw [hO]; exact lg_self _) ?_
    refine aw_if_eq C dc_law_1448 (tgt := 1453) (by decide) (fun _ => ?_) (fun h9 => absurd (rfl) h9)
    refine aw_goto C dc_law_1453 (tgt := 1456) (by decide) ?_
    refine aw_sub (lw' := G_ sc h a o n) (fun j v hj => by
      match j, hj with
      | 0, hj => exact hj
      | 1, hj => exact hj
      | 2, hj => exact hj
      | 3, hj => exact hj
      | 4, hj => exact hj
      | 5, hj => cases hj
      | 6, hj => cases hj) ?_
    exact aw_P (fun H h9 => ⟨(c', O', nI k, m'), hr', h9⟩) kk
end LAW
