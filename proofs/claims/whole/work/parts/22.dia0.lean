/-! The diagram's rows as numbers: kinds at 16, newest at 17, older at 18, lacking at 19. -/
def it_ (I0 : Nat → Nat → Int32) (T : Nat → Nat → Nat) : Nat → Nat → Int32 := fun k => if 16 ≤ k ∧ k ≤ 19 then (fun j => nI (T k j)) else I0 k
theorem it_at {I0 : Nat → Nat → Int32} {T : Nat → Nat → Nat} {k : Nat} (h1 : 16 ≤ k) (h2 : k ≤ 19) : it_ I0 T k = fun j => nI (T k j) := if_pos ⟨h1, h2⟩
theorem it_up {I0 : Nat → Nat → Int32} {T : Nat → Nat → Nat} {k j v : Nat} (h1 : 16 ≤ k) (h2 : k ≤ 19) : va_up (it_ I0 T) k (upd (it_ I0 T k) j (nI v)) = it_ I0 (va_up T k (va_up (T k) j v)) := by
  funext a b
  unfold it_ va_up upd
  by_cases ha : a = k
  · subst ha
    by_cases hb : b = j
    · simp [h1, h2, hb]
    · simp [h1, h2, hb]
  · simp only [if_neg ha]
theorem it_fill {I0 : Nat → Nat → Int32} {T : Nat → Nat → Nat} {k n : Nat} (h1 : 16 ≤ k) (h2 : k ≤ 19) : va_up (it_ I0 T) k (fl_ (it_ I0 T k) n (nI 0)) = it_ I0 (va_up T k (fl_ (T k) n 0)) := by
  funext a b
  unfold it_ va_up fl_
  by_cases ha : a = k
  · subst ha
    by_cases hb : b < n
    · simp [h1, h2, hb]
    · simp [h1, h2, hb]
  · simp only [if_neg ha]
/-- all numbers in the rows are below 767 -/
def tb_ (T : Nat → Nat → Nat) : Prop := ∀ k j, T k j < 767
theorem tb_up {T : Nat → Nat → Nat} (h : tb_ T) {k j v : Nat} (hv : v < 767) : tb_ (va_up T k (va_up (T k) j v)) := by
  intro a b
  unfold va_up
  by_cases ha : a = k
  · rw [if_pos ha]
    by_cases hb : b = j
    · simp only [if_pos hb]; exact hv
    · simp only [if_neg hb]; exact h k b
  · rw [if_neg ha]; exact h a b
theorem tb_fill {T : Nat → Nat → Nat} (h : tb_ T) {k n : Nat} : tb_ (va_up T k (fl_ (T k) n 0)) := by
  intro a b
  unfold va_up fl_
  by_cases ha : a = k
  · rw [if_pos ha]
    by_cases hb : b < n
    · simp only [if_pos hb]; decide
    · simp only [if_neg hb]; exact h k b
  · rw [if_neg ha]; exact h a b
/-- a new node: the rows, the end, the node -/
def nn_ (T : Nat → Nat → Nat) (E wo wi : Nat) : (Nat → Nat → Nat) × Nat × Nat :=
  if 767 ≤ E then (T, E, 0) else (va_up (va_up (va_up T 19 (va_up (T 19) E wo)) 18 (va_up (T 18) E (T 17 wi))) 17 (va_up (T 17) wi E), E + 1, E)
/-- the node in a row of nodes that lacks the kind wo -/
def klk_ (T : Nat → Nat → Nat) (wo : Nat) : Nat → Nat → Option Nat
  | 0, _ => none
  | d + 1, c => if c = 0 then none else if T 19 c = wo then some c else klk_ T wo d (T 18 c)
def ko_ (T : Nat → Nat → Nat) (E wo wi : Nat) : (Nat → Nat → Nat) × Nat × Nat :=
  if wi = 0 then (T, E, wo) else match klk_ T wo 767 (T 17 wi) with
    | some c => (T, E, c)
    | none => nn_ T E wo wi
def di_ (s : (Nat → Nat → Nat) × Nat) : Nat → (Nat → Nat → Nat) × Nat
  | 0 => s
  | n + 1 => (va_up (ko_ (di_ s n).1 (di_ s n).2 ((di_ s n).1 16 (2 * n)) ((di_ s n).1 16 (2 * n + 1))).1 16 (va_up ((ko_ (di_ s n).1 (di_ s n).2 ((di_ s n).1 16 (2 * n)) ((di_ s n).1 16 (2 * n + 1))).1 16) n (ko_ (di_ s n).1 (di_ s n).2 ((di_ s n).1 16 (2 * n)) ((di_ s n).1 16 (2 * n + 1))).2.2), (ko_ (di_ s n).1 (di_ s n).2 ((di_ s n).1 16 (2 * n)) ((di_ s n).1 16 (2 * n + 1))).2.1)
def dl_ (s : (Nat → Nat → Nat) × Nat) : Nat → (Nat → Nat → Nat) × Nat
  | 0 => s
  | k + 1 => di_ (va_up (dl_ s k).1 17 (fl_ ((dl_ s k).1 17) 767 0), (dl_ s k).2) (2 ^ (11 - k))
def dk_ (f : Nat → Int64) (p : Nat) : Nat := if fb_ f p then 1 else 0
def d0_ (T : Nat → Nat → Nat) (f : Nat → Int64) (n : Nat) : Nat → Nat → Nat := va_up T 16 (wl_ (T 16) (dk_ f) n)
theorem nn_tb {T : Nat → Nat → Nat} {E wo wi : Nat} (h : tb_ T) (hE : E ≤ 767) (hwo : wo < 767) : tb_ (nn_ T E wo wi).1 ∧ (nn_ T E wo wi).2.1 ≤ 767 ∧ (nn_ T E wo wi).2.2 < 767 := by
  unfold nn_
  by_cases h1 : 767 ≤ E
  · rw [if_pos h1]; exact ⟨h, hE, show 0 < 767 by decide⟩
  · rw [if_neg h1]
    refine ⟨?_, by simp only; omega, by simp only; omega⟩
    have a1 : tb_ (va_up T 19 (va_up (T 19) E wo)) := tb_up h hwo
    have a2 : tb_ (va_up (va_up T 19 (va_up (T 19) E wo)) 18 (va_up (T 18) E (T 17 wi))) := by
      have := tb_up a1 (k := 18) (j := E) (v := T 17 wi) (h 17 wi)
      rw [va_up_ne _ _ (show 18 ≠ 19 by decide)] at this
      exact this
    have := tb_up a2 (k := 17) (j := wi) (v := E) (by omega)
    rw [va_up_ne _ _ (show 17 ≠ 18 by decide), va_up_ne _ _ (show 17 ≠ 19 by decide)] at this
    exact this
theorem kl_lt {T : Nat → Nat → Nat} {wo : Nat} (h : tb_ T) : ∀ {d c r : Nat}, c < 767 → klk_ T wo d c = some r → r < 767
  | 0, c, r, _, hr => by cases hr
  | d + 1, c, r, hc, hr => by
    rw [klk_] at hr
    split at hr
    · cases hr
    · split at hr
      · cases hr; exact hc
      · exact kl_lt h (h 18 c) hr
theorem ko_tb {T : Nat → Nat → Nat} {E wo wi : Nat} (h : tb_ T) (hE : E ≤ 767) (hwo : wo < 767) : tb_ (ko_ T E wo wi).1 ∧ (ko_ T E wo wi).2.1 ≤ 767 ∧ (ko_ T E wo wi).2.2 < 767 := by
  unfold ko_
  split
  · exact ⟨h, hE, hwo⟩
  · split
    · rename_i c hc
      exact ⟨h, hE, kl_lt h (h 17 wi) hc⟩
    · exact nn_tb h hE hwo
theorem di_tb {s : (Nat → Nat → Nat) × Nat} (h : tb_ s.1) (hE : s.2 ≤ 767) : ∀ n, tb_ (di_ s n).1 ∧ (di_ s n).2 ≤ 767
  | 0 => ⟨h, hE⟩
  | n + 1 => by
    have ih := di_tb h hE n
    have k := ko_tb (wi := (di_ s n).1 16 (2 * n + 1)) ih.1 ih.2 (ih.1 16 (2 * n))
    rw [di_]
    exact ⟨tb_up k.1 k.2.2, k.2.1⟩
theorem dl_tb {s : (Nat → Nat → Nat) × Nat} (h : tb_ s.1) (hE : s.2 ≤ 767) : ∀ n, tb_ (dl_ s n).1 ∧ (dl_ s n).2 ≤ 767
  | 0 => ⟨h, hE⟩
  | n + 1 => by
    have ih := dl_tb h hE n
    rw [dl_]
    exact di_tb (s := (va_up (dl_ s n).1 17 (fl_ ((dl_ s n).1 17) 767 0), (dl_ s n).2)) (tb_fill ih.1) ih.2 _
theorem d0_tb {T : Nat → Nat → Nat} (h : tb_ T) (f : Nat → Int64) (n : Nat) : tb_ (d0_ T f n) := by
  intro a b
  unfold d0_ va_up wl_ dk_
  by_cases ha : a = 16
  · rw [if_pos ha]
    by_cases hb : b < n
    · simp only [if_pos hb]; split <;> decide
    · simp only [if_neg hb]; exact h 16 b
  · rw [if_neg ha]; exact h a b
theorem d0_s {T : Nat → Nat → Nat} {f : Nat → Int64} {n : Nat} : va_up (d0_ T f n) 16 (va_up (d0_ T f n 16) n (dk_ f n)) = d0_ T f (n + 1) := by
  unfold d0_
  rw [bx_uu, va_up_self]
  congr 1
  funext j
  unfold va_up wl_
  by_cases h : j = n
  · simp [h]
  · rw [if_neg h]
    by_cases h2 : j < n
    · rw [if_pos h2, if_pos (by omega)]
    · rw [if_neg h2, if_neg (by omega)]
theorem d0_0 {T : Nat → Nat → Nat} {f : Nat → Int64} : d0_ T f 0 = T := by
  unfold d0_
  rw [wl_0, va_upid]
/-- a loop over a state -/
theorem aw_loopS {p : Program} {l : Launch} {e : Env} {R : Room} {s : State} {m : MethodId} {args : Array Value} {below : List Frame} {meth : Method} {c : Code} {nL : Nat} {A : Nat → Prop} {cells slots : Nat} {Q : State → Prop} {pc : Nat} {st : List Value} {S : Type}
    (K : Nat → S → Prop) (F : Nat → S → Heap → Prop) (G : Nat → S → List (Option Value)) (N : Nat) (s0 : S) (h0 : K 0 s0) (hend : ∀ x, K N x → aw p l e R s m args below meth c nL A cells slots Q (F N x) (G N x) pc st)
    (hstep : ∀ n x, n < N → K n x → (∀ y, K (n + 1) y → aw p l e R s m args below meth c nL A cells slots Q (F (n + 1) y) (G (n + 1) y) pc st) → aw p l e R s m args below meth c nL A cells slots Q (F n x) (G n x) pc st) : aw p l e R s m args below meth c nL A cells slots Q (F 0 s0) (G 0 s0) pc st := by
  have key : ∀ d n : Nat, n + d = N → ∀ x, K n x → aw p l e R s m args below meth c nL A cells slots Q (F n x) (G n x) pc st := by
    intro d
    induction d with
    | zero =>
      intro n hn x hk
      have hn' : n = N := by omega
      subst hn'
      exact hend x hk
    | succ d ih => intro n hn x hk; exact hstep n x (by omega) hk (fun y hy => ih (n + 1) (by omega) y hy)
  exact key N 0 (by omega) s0 h0
/-- an int row read where it stands for numbers -/
theorem it_rd {I0 : Nat → Nat → Int32} {T : Nat → Nat → Nat} {k j : Nat} (h1 : 16 ≤ k) (h2 : k ≤ 19) : it_ I0 T k j = nI (T k j) := by rw [it_at h1 h2]
