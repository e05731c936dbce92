/-! Method by method: the class's function beside the reference's. -/
theorem fb_wl {f G : Nat → Int64} {p : Nat} (hp : p < 4096) : fb_ (wl_ f G 64) p = fb_ G p := fb_cg (fun k hk => by unfold wl_; rw [if_pos hk]) hp
theorem fb_fw {g f : Nat → Int64} {p : Nat} (hp : p < 4096) : fb_ (fw_ g f 64) p = fb_ g p := fb_cg (fun k hk => by unfold fw_; rw [if_pos hk]) hp
theorem fb_or (f g : Nat → Int64) (p : Nat) : fb_ (fun j => f j ||| g j) p = (fb_ f p || fb_ g p) := lb_or _ _ _
theorem fb_and (f g : Nat → Int64) (p : Nat) : fb_ (fun j => f j &&& g j) p = (fb_ f p && fb_ g p) := lb_and _ _ _
theorem fb_lack (f g : Nat → Int64) (p : Nat) : fb_ (fun j => f j &&& (g j ^^^ (-1))) p = (fb_ f p && !fb_ g p) := by
  unfold fb_
  rw [lb_and, lb_not _ (Nat.mod_lt _ (by decide))]
section RL1
variable {I : Nat → Nat → Int32} {J J' : Nat → Nat → Int64} {sh : Nat → Nat} {fr : Nat} {en : Int32} {S K : Nat → Int64} {En Ot Wt : Nat → Int32}
theorem rl_up (h : rl_ I J sh fr en S En Ot Wt) {i : Nat} (hi : i < 10) {G : Nat → Int64} (hK : ∀ p, p < 4096 → fb_ G p = fb_ K p) : rl_ I (va_up J (fr + 1) G) (va_up sh i fr) (sh i) en (sl_ S i K 64) En Ot Wt ∧ tw64_ (va_up J (fr + 1) G (fr + 1)) 64 = tw64_ (rw_ (sl_ S i K 64) i) 64 := by
  refine rl_lay h hi (fun p hp => by rw [va_up_self]; exact hK p hp) (fun j hj => va_up_ne _ _ (fun h9 => (h.1.2.2.2 j hj).2.2.2 (by omega))) (va_up_ne _ _ (fo_8 h.1.1))
theorem rl_set (h : rl_ I J sh fr en S En Ot Wt) {i : Nat} (hi : i < 10) {G : Nat → Int64} (hK : ∀ p, p < 4096 → fb_ G p = fb_ K p) : rl_ I (setJ_ J fr G) (va_up sh i fr) (sh i) en (sl_ S i K 64) En Ot Wt ∧ tw64_ (setJ_ J fr G (fr + 1)) 64 = tw64_ (rw_ (sl_ S i K 64) i) 64 :=
  rl_up h hi (fun p hp => by rw [fb_wl hp]; exact hK p hp)
theorem rl_clear (h : rl_ I J sh fr en S En Ot Wt) {i : Nat} (hi : i < 10) : rl_ I (fillJ_ J (sh i) 0) sh fr en (sl_ S i (fun _ => 0) 64) En Ot Wt := by
  show rl_ I (va_up J (sh i + 1) (fl_ (J (sh i + 1)) 64 0)) sh fr en (sl_ S i (fun _ => 0) 64) En Ot Wt
  refine ⟨h.1, h.2.1, fun j q hj hq => ?_, ?_, h.2.2.2.2⟩
  · rw [fb_sl hq]
    by_cases hji : j = i
    · subst hji
      rw [if_pos rfl, va_up_self, fb_fl0 hq]
      unfold fb_
      rw [lb_0]
    · rw [if_neg hji, va_up_ne _ _ (fun h9 => hji (h.2.1 j i hj hi (by omega))), h.2.2.1 j q hj hq]
  · rw [va_up_ne _ _ (fo_8 (h.1.2.2.2 i hi).1)]; exact h.2.2.2.1
theorem rl_c0 (h : rl_ I J sh fr en S En Ot Wt) {i f g : Nat} (hi : i < 10) (hf : f < 10) (hg : g < 10) (K0 : Nat → Int64) : rl_ I (uniJ_ J fr (sh f) (sh g)) (va_up sh i fr) (sh i) en (sl_ S i (fw_ (fun j => S (64 * f + j) ||| S (64 * g + j)) K0 64) 64) En Ot Wt ∧ tw64_ (uniJ_ J fr (sh f) (sh g) (fr + 1)) 64 = tw64_ (rw_ (sl_ S i (fw_ (fun j => S (64 * f + j) ||| S (64 * g + j)) K0 64) 64) i) 64 :=
  rl_set h hi (fun p hp => by rw [fb_fw hp, fb_or (J (sh f + 1)) (J (sh g + 1)), h.2.2.1 f p hf hp, h.2.2.1 g p hg hp]; exact (fb_or (rw_ S f) (rw_ S g) p).symm)
theorem rl_c1 (h : rl_ I J sh fr en S En Ot Wt) {i f g : Nat} (hi : i < 10) (hf : f < 10) (hg : g < 10) (K0 : Nat → Int64) : rl_ I (intJ_ J fr (sh f) (sh g)) (va_up sh i fr) (sh i) en (sl_ S i (fw_ (fun j => S (64 * f + j) &&& S (64 * g + j)) K0 64) 64) En Ot Wt ∧ tw64_ (intJ_ J fr (sh f) (sh g) (fr + 1)) 64 = tw64_ (rw_ (sl_ S i (fw_ (fun j => S (64 * f + j) &&& S (64 * g + j)) K0 64) 64) i) 64 :=
  rl_set h hi (fun p hp => by rw [fb_fw hp, fb_and (J (sh f + 1)) (J (sh g + 1)), h.2.2.1 f p hf hp, h.2.2.1 g p hg hp]; exact (fb_and (rw_ S f) (rw_ S g) p).symm)
theorem rl_c2 (h : rl_ I J sh fr en S En Ot Wt) {i f g : Nat} (hi : i < 10) (hf : f < 10) (hg : g < 10) (K0 : Nat → Int64) : rl_ I (subJ_ J fr (sh f) (sh g)) (va_up sh i fr) (sh i) en (sl_ S i (fw_ (fun j => S (64 * f + j) &&& (S (64 * g + j) ^^^ (-1))) K0 64) 64) En Ot Wt ∧ tw64_ (subJ_ J fr (sh f) (sh g) (fr + 1)) 64 = tw64_ (rw_ (sl_ S i (fw_ (fun j => S (64 * f + j) &&& (S (64 * g + j) ^^^ (-1))) K0 64) 64) i) 64 :=
  rl_set h hi (fun p hp => by rw [fb_fw hp, fb_lack (J (sh f + 1)) (J (sh g + 1)), h.2.2.1 f p hf hp, h.2.2.1 g p hg hp]; exact (fb_lack (rw_ S f) (rw_ S g) p).symm)
/-- edges and weights -/
theorem rl_I (h : rl_ I J sh fr en S En Ot Wt) {k : Nat} (hk : k < 13) {f En' Ot' Wt' : Nat → Int32} (hg : gr_ (va_up I k f 10) En' Ot') (hw : ∀ e, e < 12 → va_up I k f 12 e = Wt' e) : rl_ (va_up I k f) J sh fr en S En' Ot' Wt' := by
  obtain ⟨h1, h2, h3, h4, -, -, h7, h8, I0, T, E, hI, hE, hT⟩ := h
  refine ⟨h1, h2, h3, h4, hg, hw, by rw [va_up_ne _ _ (by omega)]; exact h7, by rw [va_up_ne _ _ (by omega)]; exact h8, va_up I0 k f, T, E, ?_, hE, hT⟩
  subst hI
  funext a b
  unfold it_ va_up
  by_cases ha : a = k
  · subst ha
    rw [if_pos rfl, if_neg (by omega), if_pos rfl]
  · rw [if_neg ha]
    by_cases hb : 16 ≤ a ∧ a ≤ 19
    · show (if 16 ≤ a ∧ a ≤ 19 then fun j => nI (T a j) else I0 a) b = _
      rw [if_pos hb, if_pos hb]
    · show (if 16 ≤ a ∧ a ≤ 19 then fun j => nI (T a j) else I0 a) b = _
      rw [if_neg hb, if_neg hb, if_neg ha]
theorem rl_edge (h : rl_ I J sh fr en S En Ot Wt) {e u v : Nat} (he : e < 12) (hu : u < 7) (hv : v < 7) (huv : u ≠ v) : rl_ (va_up I 10 (upd (I 10) e (nI (2 ^ u ||| 2 ^ v)))) J sh fr en S (upd En e (nI u)) (upd Ot e (nI v)) Wt := by
  refine rl_I h (by decide) (fun k hk => ?_) (fun k hk => by rw [va_up_ne _ _ (by decide)]; exact h.2.2.2.2.2.1 k hk)
  rw [va_up_self]
  by_cases hke : k = e
  · subst hke
    rw [pk_us, pk_us, pk_us]
    exact Or.inr ⟨u, v, hu, hv, huv, rfl, rfl, rfl⟩
  · rw [pk_un hke, pk_un hke, pk_un hke]
    exact h.2.2.2.2.1 k hk
theorem rl_cut (h : rl_ I J sh fr en S En Ot Wt) {e : Nat} (he : e < 12) : rl_ (va_up I 10 (upd (I 10) e (nI 0))) J sh fr en S (upd En e (-1)) Ot Wt ∧ decide (¬ I 10 e = 0) = !decide (En e < 0) := by
  refine ⟨rl_I h (by decide) (fun k hk => ?_) (fun k hk => by rw [va_up_ne _ _ (by decide)]; exact h.2.2.2.2.2.1 k hk), ?_⟩
  · rw [va_up_self]
    by_cases hke : k = e
    · subst hke
      rw [pk_us, pk_us]
      exact Or.inl ⟨rfl, rfl⟩
    · rw [pk_un hke, pk_un hke]
      exact h.2.2.2.2.1 k hk
  · rcases h.2.2.2.2.1 e he with ⟨h1, h2⟩ | ⟨u, v, hu, hv, -, h1, -, h3⟩
    · rw [h1, h2]; decide
    · have hb : 2 ^ u ||| 2 ^ v < 2 ^ 7 := Nat.or_lt_two_pow (Nat.pow_lt_pow_right (by decide) hu) (Nat.pow_lt_pow_right (by decide) hv)
      have hn : ¬ 2 ^ u ||| 2 ^ v = 0 := fun h9 => by
        have := Nat.left_le_or (n := 2 ^ u) (m := 2 ^ v)
        have := Nat.two_pow_pos u
        omega
      rw [h1, h3, decide_eq_true (show ¬ nI (2 ^ u ||| 2 ^ v) = 0 from fun h9 => hn ((ni_z (by omega)).mp h9)), decide_eq_false (nI_pos (by omega))]
      rfl
theorem rl_weight (h : rl_ I J sh fr en S En Ot Wt) {e : Nat} (he : e < 12) (x : Int32) : rl_ (va_up I 12 (upd (I 12) e x)) J sh fr en S En Ot (upd Wt e x) ∧ I 12 e = Wt e := by
  refine ⟨rl_I h (by decide) (by rw [va_up_ne _ _ (by decide)]; exact h.2.2.2.2.1) (fun k hk => ?_), h.2.2.2.2.2.1 e he⟩
  rw [va_up_self]
  by_cases hke : k = e
  · subst hke; rw [pk_us, pk_us]
  · rw [pk_un hke, pk_un hke]; exact h.2.2.2.2.2.1 k hk
/-- the answers that look at a family alone -/
theorem rl_rank (h : rl_ I J sh fr en S En Ot Wt) {i p : Nat} (hi : i < 10) (hp : p ≤ 4096) : cn_ (fb_ (J (sh i + 1))) p = cn_ (fb_ (rw_ S i)) p := cn_congr (fun q hq => h.2.2.1 i q hi (by omega))
end RL1
theorem sel_cg {f g : Nat → Bool} {n j : Nat} (h : ∀ q, q < n → f q = g q) (hj : j < cn_ f n) : sel_ f n j = sel_ g n j := by
  obtain ⟨h1, h2, h3⟩ := sel_ok f hj
  exact (sel_eq h1 (by rw [← h _ h1]; exact h2) ((cn_congr (fun q hq => (h q (by omega)).symm)).trans h3)).symm
