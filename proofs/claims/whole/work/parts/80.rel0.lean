/-! The class's state beside the reference's. -/
def gr_ (G En Ot : Nat → Int32) : Prop := ∀ e, e < 12 → (En e = -1 ∧ G e = 0) ∨ ∃ u v : Nat, u < 7 ∧ v < 7 ∧ u ≠ v ∧ En e = nI u ∧ Ot e = nI v ∧ G e = nI (2 ^ u ||| 2 ^ v)
def rl_ (I : Nat → Nat → Int32) (J : Nat → Nat → Int64) (sh : Nat → Nat) (fr : Nat) (en : Int32) (S : Nat → Int64) (En Ot Wt : Nat → Int32) : Prop :=
  shok_ sh fr ∧ (∀ i j, i < 10 → j < 10 → sh i = sh j → i = j) ∧ (∀ i p, i < 10 → p < 4096 → fb_ (J (sh i + 1)) p = fb_ (rw_ S i) p) ∧ J 8 = lz_ 64 ∧ gr_ (I 10) En Ot ∧ (∀ e, e < 12 → I 12 e = Wt e) ∧ I 13 0 = 0 ∧ I 14 0 = 0 ∧ ∃ (I0 : Nat → Nat → Int32) (T : Nat → Nat → Nat) (E : Nat), I = it_ I0 T ∧ en = nI E ∧ tb_ T
theorem tu_mrK (n : Nat) : ∀ {k : Nat}, k ≤ 12 → mr_ n k = tu_ n k * 2 ^ (12 - k)
  | 0, _ => by rw [mr_, tu_, Nat.zero_mul]
  | k + 1, h => by
    rw [mr_, tu_mrK n (show k ≤ 12 by omega), tu_, show 12 - k = (12 - (k + 1)) + 1 by omega, show 11 - k = 12 - (k + 1) by omega]
    generalize 12 - (k + 1) = m
    rw [← Nat.shiftLeft_eq _ m, ← Nat.shiftLeft_eq _ m, Nat.shiftLeft_or_distrib, Nat.shiftLeft_eq, Nat.shiftLeft_eq, Nat.mul_assoc (tu_ n k), Nat.pow_succ 2 m, Nat.pow_one, Nat.mul_comm (2 ^ m) 2]
theorem tu_mr (n : Nat) : tu_ n 12 = mr_ n 12 := by rw [tu_mrK n (Nat.le_refl _), Nat.sub_self, Nat.pow_zero, Nat.mul_one]
theorem fb_cg {f g : Nat → Int64} (h : ∀ k, k < 64 → f k = g k) {p : Nat} (hp : p < 4096) : fb_ f p = fb_ g p := by
  unfold fb_
  rw [h (p / 64) (by omega)]
theorem tw_cg {f g : Nat → Int64} (h : ∀ p, p < 4096 → fb_ f p = fb_ g p) : tw64_ f 64 = tw64_ g 64 := by
  rw [tw64_cn, tw64_cn]
  exact cn_congr (fun i hi => h i (by omega))
theorem rw_up {S : Nat → Int64} {i a : Nat} {v : Int64} (ha : a < 64) {j k : Nat} (hk : k < 64) : rw_ (vp_updL S (64 * i + a) v) j k = if j = i ∧ k = a then v else rw_ S j k := by
  unfold rw_
  by_cases h : j = i ∧ k = a
  · rw [if_pos h, h.1, h.2, pk_uLs]
  · rw [if_neg h, pk_uLn (by omega)]
theorem fb_mk {K : Nat → Int64} {p q : Nat} : fb_ (mk_ K p) q = (decide (q = p) || fb_ K q) := fb_include
theorem fb_un {K : Nat → Int64} {p q : Nat} : fb_ (un_ K p) q = (!decide (q = p) && fb_ K q) := fb_exclude
theorem fb_ps {S : Nat → Int64} {i p : Nat} (hp : p < 4096) {j q : Nat} (hq : q < 4096) : fb_ (rw_ (ps_ S i p) j) q = if j = i then (decide (q = p) || fb_ (rw_ S i) q) else fb_ (rw_ S j) q := by
  by_cases h : j = i
  · subst h
    rw [if_pos rfl, ← fb_mk]
    refine fb_cg (fun k hk => ?_) hq
    show rw_ (ps_ S j p) j k = mk_ (rw_ S j) p k
    unfold ps_ mk_
    rw [rw_up (by omega) hk]
    by_cases hk2 : k = p / 64
    · rw [if_pos ⟨rfl, hk2⟩, hk2, pk_uLs]; rfl
    · rw [if_neg (fun h9 => hk2 h9.2), pk_uLn hk2]
  · rw [if_neg h]
    refine fb_cg (fun k hk => ?_) hq
    unfold ps_
    rw [rw_up (by omega) hk, if_neg (fun h9 => h h9.1)]
theorem fb_ts {S : Nat → Int64} {i p : Nat} (hp : p < 4096) {j q : Nat} (hq : q < 4096) : fb_ (rw_ (ts_ S i p) j) q = if j = i then (!decide (q = p) && fb_ (rw_ S i) q) else fb_ (rw_ S j) q := by
  by_cases h : j = i
  · subst h
    rw [if_pos rfl, ← fb_un]
    refine fb_cg (fun k hk => ?_) hq
    show rw_ (ts_ S j p) j k = un_ (rw_ S j) p k
    unfold ts_ un_
    rw [rw_up (by omega) hk]
    by_cases hk2 : k = p / 64
    · rw [if_pos ⟨rfl, hk2⟩, hk2, pk_uLs]; rfl
    · rw [if_neg (fun h9 => hk2 h9.2), pk_uLn hk2]
  · rw [if_neg h]
    refine fb_cg (fun k hk => ?_) hq
    unfold ts_
    rw [rw_up (by omega) hk, if_neg (fun h9 => h h9.1)]
theorem rw_sl {S K : Nat → Int64} {i j k : Nat} (hk : k < 64) : rw_ (sl_ S i K 64) j k = if j = i then K k else rw_ S j k := by
  unfold rw_ sl_
  by_cases h : j = i
  · subst h
    rw [if_pos (by omega), if_pos rfl, Nat.add_sub_cancel_left]
  · rw [if_neg (by omega), if_neg h]
theorem fb_sl {S K : Nat → Int64} {i j q : Nat} (hq : q < 4096) : fb_ (rw_ (sl_ S i K 64) j) q = if j = i then fb_ K q else fb_ (rw_ S j) q := by
  by_cases h : j = i
  · rw [if_pos h]; exact fb_cg (fun k hk => by rw [rw_sl hk, if_pos h]) hq
  · rw [if_neg h]; exact fb_cg (fun k hk => by rw [rw_sl hk, if_neg h]) hq
theorem fb_mkl {K : Nat → Int64} {f : Nat → Bool} {g : Nat → Nat} {q : Nat} : ∀ n, fb_ (mkl_ K f g n) q = (fb_ K q || ex_ (fun m => f m && decide (g m = q)) n)
  | 0 => by rw [mkl_, ex_, Bool.or_false]
  | n + 1 => by
    rw [ex_]
    cases hf : f n
    · rw [mkl_f hf, fb_mkl n, Bool.false_and, Bool.or_false]
    · rw [mkl_t hf, fb_mk, fb_mkl n, Bool.true_and]
      by_cases h : g n = q
      · rw [decide_eq_true h, decide_eq_true h.symm]; simp
      · rw [decide_eq_false h, decide_eq_false (fun h9 => h h9.symm)]; simp
theorem fb_fl0 {K : Nat → Int64} {q : Nat} (hq : q < 4096) : fb_ (fl_ K 64 0) q = false := by
  unfold fb_ fl_
  rw [if_pos (by omega), lb_0]
/-- made one after another out of nothing, each at its own place -/
theorem fb_make {K : Nat → Int64} {f : Nat → Bool} {q : Nat} (hq : q < 4096) : fb_ (mkl_ (fl_ K 64 0) f (fun p => p) 4096) q = f q := by
  rw [fb_mkl, fb_fl0 hq, Bool.false_or]
  cases hf : f q
  · cases h : ex_ (fun m => f m && decide (m = q)) 4096
    · rfl
    · obtain ⟨k, _, hk⟩ := ex_iff.mp h
      rw [Bool.and_eq_true, decide_eq_true_eq] at hk
      rw [hk.2, hf] at hk
      exact Bool.noConfusion hk.1
  · exact ex_in (g := fun m => f m && decide (m = q)) (k := q) (by rw [hf, decide_eq_true rfl]; rfl) hq
section RL
variable {I : Nat → Nat → Int32} {J J' : Nat → Nat → Int64} {sh : Nat → Nat} {fr : Nat} {en : Int32} {S K : Nat → Int64} {En Ot Wt : Nat → Int32}
theorem fo_8 {o : Nat} (h : fo_ o = true) : ¬ 8 = o + 1 := by
  intro h9
  have : o = 7 := by omega
  rw [this] at h
  exact absurd h (by decide)
theorem rl_put (h : rl_ I J sh fr en S En Ot Wt) {i p : Nat} (hi : i < 10) (hp : p < 4096) : rl_ I (va_up J (sh i + 1) (inc_ (J (sh i + 1)) p)) sh fr en (ps_ S i p) En Ot Wt := by
  refine ⟨h.1, h.2.1, fun j q hj hq => ?_, ?_, h.2.2.2.2⟩
  · rw [fb_ps hp hq]
    by_cases hji : j = i
    · subst hji
      rw [if_pos rfl, va_up_self]
      unfold inc_
      rw [fb_include, h.2.2.1 j q hj hq]
    · rw [if_neg hji, va_up_ne _ _ (fun h9 => hji (h.2.1 j i hj hi (by omega))), h.2.2.1 j q hj hq]
  · rw [va_up_ne _ _ (fo_8 (h.1.2.2.2 i hi).1)]; exact h.2.2.2.1
theorem rl_take (h : rl_ I J sh fr en S En Ot Wt) {i p : Nat} (hi : i < 10) (hp : p < 4096) : rl_ I (va_up J (sh i + 1) (exc_ (J (sh i + 1)) p)) sh fr en (ts_ S i p) En Ot Wt := by
  refine ⟨h.1, h.2.1, fun j q hj hq => ?_, ?_, h.2.2.2.2⟩
  · rw [fb_ts hp hq]
    by_cases hji : j = i
    · subst hji
      rw [if_pos rfl, va_up_self]
      unfold exc_
      rw [fb_exclude, h.2.2.1 j q hj hq]
    · rw [if_neg hji, va_up_ne _ _ (fun h9 => hji (h.2.1 j i hj hi (by omega))), h.2.2.1 j q hj hq]
  · rw [va_up_ne _ _ (fo_8 (h.1.2.2.2 i hi).1)]; exact h.2.2.2.1
/-- a new family is shelved -/
theorem rl_lay (h : rl_ I J sh fr en S En Ot Wt) {i : Nat} (hi : i < 10) (hK : ∀ p, p < 4096 → fb_ (J' (fr + 1)) p = fb_ K p) (hJ : ∀ j, j < 10 → J' (sh j + 1) = J (sh j + 1)) (h8 : J' 8 = J 8) : rl_ I J' (va_up sh i fr) (sh i) en (sl_ S i K 64) En Ot Wt ∧ tw64_ (J' (fr + 1)) 64 = tw64_ (rw_ (sl_ S i K 64) i) 64 := by
  obtain ⟨⟨h1, h2, h3, h4⟩, hinj, hfb, hz, hrest⟩ := h
  refine ⟨⟨⟨(h4 i hi).1, (h4 i hi).2.1, (h4 i hi).2.2.1, fun j hj => ?_⟩, fun a b ha hb hab => ?_, fun j q hj hq => ?_, by rw [h8]; exact hz, hrest⟩, ?_⟩
  · by_cases hji : j = i
    · subst hji
      rw [va_up_self]
      exact ⟨h1, h2, h3, fun h9 => (h4 j hj).2.2.2 h9.symm⟩
    · rw [va_up_ne _ _ hji]
      exact ⟨(h4 j hj).1, (h4 j hj).2.1, (h4 j hj).2.2.1, fun h9 => hji (hinj j i hj hi h9)⟩
  · by_cases ha2 : a = i <;> by_cases hb2 : b = i
    · rw [ha2, hb2]
    · rw [ha2, va_up_self, va_up_ne _ _ hb2] at hab
      exact absurd hab.symm (h4 b hb).2.2.2
    · rw [hb2, va_up_self, va_up_ne _ _ ha2] at hab
      exact absurd hab (h4 a ha).2.2.2
    · rw [va_up_ne _ _ ha2, va_up_ne _ _ hb2] at hab
      exact hinj a b ha hb hab
  · rw [fb_sl hq]
    by_cases hji : j = i
    · rw [if_pos hji, hji, va_up_self, hK q hq]
    · rw [if_neg hji, va_up_ne _ _ hji, hJ j hj, hfb j q hj hq]
  · exact tw_cg (fun p hp => by rw [fb_sl hp, if_pos rfl, hK p hp])
theorem rl_cnt (h : rl_ I J sh fr en S En Ot Wt) {i : Nat} (hi : i < 10) : tw64_ (J (sh i + 1)) 64 = tw64_ (rw_ S i) 64 := tw_cg (fun p hp => h.2.2.1 i p hi hp)
end RL
