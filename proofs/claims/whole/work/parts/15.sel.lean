/-! The i-th of those that have a property. -/
def sel_ (f : Nat → Bool) : Nat → Nat → Nat
  | 0, _ => 0
  | n + 1, i => if i < cn_ f n then sel_ f n i else n
theorem sel_ok (f : Nat → Bool) : ∀ {n i : Nat}, i < cn_ f n → sel_ f n i < n ∧ f (sel_ f n i) = true ∧ cn_ f (sel_ f n i) = i
  | 0, i, h => absurd h (by rw [cn_]; omega)
  | n + 1, i, h => by
    rw [sel_]
    by_cases h1 : i < cn_ f n
    · rw [if_pos h1]
      obtain ⟨a, b, d⟩ := sel_ok f h1
      exact ⟨by omega, b, d⟩
    · rw [if_neg h1]
      rw [cn_] at h
      by_cases h2 : f n = true
      · rw [h2] at h
        simp only [if_true] at h
        exact ⟨by omega, h2, by omega⟩
      · rw [Bool.not_eq_true] at h2
        rw [h2] at h
        simp only [Bool.false_eq_true, if_false] at h
        omega
theorem cn_step {f : Nat → Bool} {a b : Nat} (h : f a = true) (hab : a < b) : cn_ f a < cn_ f b := by
  have h1 := cn_mono f (show a + 1 ≤ b from hab)
  rw [cn_, h] at h1
  simp only [if_true] at h1
  omega
theorem sel_eq {f : Nat → Bool} {n i q : Nat} (hq : q < n) (hf : f q = true) (hc : cn_ f q = i) : sel_ f n i = q := by
  have hi : i < cn_ f n := by rw [← hc]; exact cn_step hf hq
  obtain ⟨a, b, d⟩ := sel_ok f hi
  rcases Nat.lt_trichotomy (sel_ f n i) q with h1 | h1 | h1
  · have := cn_step b h1
    omega
  · exact h1
  · have := cn_step hf h1
    omega
theorem cn_true {f : Nat → Bool} {n : Nat} (h : f n = true) : cn_ f (n + 1) = cn_ f n + 1 := by rw [cn_, h]; rfl
theorem cn_false {f : Nat → Bool} {n : Nat} (h : f n = false) : cn_ f (n + 1) = cn_ f n := by rw [cn_, h]; rfl
/-- the i-th set of a family lies in the word w -/
theorem sel_word {f : Nat → Int64} {w j : Nat} (hw : w < 64) (h1 : tw64_ f w ≤ j) (h2 : j < tw64_ f w + lc_ (f w)) : j < cn_ (fb_ f) 4096 ∧ sel_ (fb_ f) 4096 j = 64 * w + sel_ (lb_ (f w)) 64 (j - tw64_ f w) := by
  have hj : j - tw64_ f w < cn_ (lb_ (f w)) 64 := by
    have : lc_ (f w) = cn_ (lb_ (f w)) 64 := rfl
    omega
  obtain ⟨a, b, d⟩ := sel_ok (lb_ (f w)) hj
  have hfb : ∀ i, i < 64 → fb_ f (64 * w + i) = lb_ (f w) i := fun i hi => by
    unfold fb_
    rw [show (64 * w + i) / 64 = w by omega, show (64 * w + i) % 64 = i by omega]
  have hc : cn_ (fb_ f) (64 * w + sel_ (lb_ (f w)) 64 (j - tw64_ f w)) = j := by
    rw [cn_add, ← tw64_cn, cn_congr (fun i hi => hfb i (by omega)), d]
    omega
  have hb : fb_ f (64 * w + sel_ (lb_ (f w)) 64 (j - tw64_ f w)) = true := by rw [hfb _ a]; exact b
  refine ⟨?_, sel_eq (by omega) hb hc⟩
  have h9 := cn_step hb (show 64 * w + sel_ (lb_ (f w)) 64 (j - tw64_ f w) < 4096 by omega)
  omega
theorem wp_or {w q : Nat} (hq : q < 64) : w * 2 ^ 6 ||| q = 64 * w + q := by
  rw [Nat.mul_comm, ← Nat.two_pow_add_eq_or_of_lt (i := 6) (by simpa using hq)]
theorem ni_sub {a b : Nat} (h : b ≤ a) : nI a - nI b = nI (a - b) := pk_sub h
/-- the union of words -/
def orr_ (g : Nat → Int64) : Nat → Int64
  | 0 => 0
  | n + 1 => orr_ g n ||| g n
/-- a counted loop with what holds at its head -/
theorem aw_loopK {p : Program} {l : Launch} {e : Env} {R : Room} {s : State} {m : MethodId} {args : Array Value} {below : List Frame} {meth : Method} {c : Code} {nL : Nat} {A : Nat → Prop} {cells slots : Nat} {Q : State → Prop} {pc : Nat} {st : List Value}
    (K : Nat → Prop) (F : Nat → Heap → Prop) (G : Nat → List (Option Value)) (N : Nat) (h0 : K 0) (hend : K N → aw p l e R s m args below meth c nL A cells slots Q (F N) (G N) pc st)
    (hstep : ∀ n, n < N → K n → (K (n + 1) → aw p l e R s m args below meth c nL A cells slots Q (F (n + 1)) (G (n + 1)) pc st) → aw p l e R s m args below meth c nL A cells slots Q (F n) (G n) pc st) : aw p l e R s m args below meth c nL A cells slots Q (F 0) (G 0) pc st := by
  have key : ∀ d n : Nat, n + d = N → K n → aw p l e R s m args below meth c nL A cells slots Q (F n) (G n) pc st := by
    intro d
    induction d with
    | zero =>
      intro n hn hk
      have hn' : n = N := by omega
      subst hn'
      exact hend hk
    | succ d ih => intro n hn hk; exact hstep n (by omega) hk (fun hk1 => ih (n + 1) (by omega) hk1)
  exact key N 0 (by omega) h0
/-- weights: sums of six elements; a family's heaviest place -/
def si_ (g : Nat → Int32) (hf : Nat) (wt : Int32) : Nat → Nat → Int32
  | 0 => g
  | n + 1 => upd (si_ g hf wt n) (hf + n) (si_ g hf wt n n + wt)
def so_ (g B : Nat → Int32) (fb : Nat) : Nat → Nat → Int32
  | 0 => g
  | i + 1 => si_ (so_ g B fb i) (2 ^ i) (B (11 - (fb + i))) (2 ^ i)
def hp_ (f : Nat → Int64) (S : Nat → Int32) : Nat → Int32 × Int32
  | 0 => (-1, 0)
  | n + 1 => if fb_ f n then (if (hp_ f S n).1 = -1 ∨ (hp_ f S n).2 < S n then (nI n, S n) else hp_ f S n) else hp_ f S n
