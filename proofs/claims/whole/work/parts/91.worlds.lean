/-! What the makers leave is the worlds that the methods speak of. -/
theorem cq_cg {cF : ClassId} {n : Nat} {f g : Nat → Option Nat} (h : ∀ j, j < n → f j = g j) : vp_cell cF (n, .inr (.inr (.inr (.inr f)))) = vp_cell cF (n, .inr (.inr (.inr (.inr g)))) := by
  rw [vp_cell_q, vp_cell_q]
  unfold arrV
  have e : (fun j : Fin n => va_rf (f j.val)) = fun j : Fin n => va_rf (g j.val) := funext (fun j => by rw [h j.val j.isLt])
  rw [e]
def J0_ : Nat → Nat → Int64 := fun k => if k = 8 then lz_ 64 else fun _ => 0
set_option maxRecDepth 100000 in
theorem s_world {D : va_G} {b : Nat} {cI cL cF : ClassId} {H : Heap} (h : va_P D cl_ (en_ b (bs_ b cI cL cF (sf_ b 10) ++ fz_ b cL 10)) H) : va_P D cl_ (sy_ b cI cL cF (fun _ _ => 0) J0_ (fun i => 22 + 2 * i) 20 0) H := by
  have e1 : sy_ b cI cL cF (fun _ _ => 0) J0_ (fun i => 22 + 2 * i) 20 0 = en_ b ((bs_ b cI cL cF (sf_ b 10) ++ fz_ b cL 10).set 1 (.inl (cF, 10, .inr (.inr (.inr (.inr (fun i => some (b + (22 + 2 * i))))))))) := rfl
  rw [e1, ← en_set]
  intro k q hq
  by_cases hk : k = 1
  · subst hk
    rw [List.getElem?_set, if_pos rfl, en_len, bf_len, if_pos (by decide)] at hq
    cases hq
    have h1 : H[b + 1]? = some (vp_cell cF (10, .inr (.inr (.inr (.inr (sf_ b 10)))))) := h 1 _ (en_of rfl)
    show H[b + 1]? = some (vp_cell cF (10, _))
    rw [h1]
    exact congrArg some (cq_cg (fun j hj => by unfold sf_; rw [if_pos hj]))
  · rw [List.getElem?_set_ne (fun h9 => hk h9.symm)] at hq
    exact h k q hq
theorem m_world {a : Nat} {cI cL : ClassId} : en_ a [.inr (6, [.int 0, .ref (a + 1), .ref (a + 2), .ref (a + 3), .ref (a + 4), .ref (a + 5), .ref (a + 6), .ref (a + 7), .ref (a + 8)]), .inl (cL, 640, .inr (.inl (fun _ => 0))), .inl (cL, 64, .inr (.inl (fun _ => 0))), .inl (cL, 64, .inr (.inl (fun _ => 0))), .inl (cI, 4096, .inl (fun _ => 0)), .inl (cI, 4096, .inl (fun _ => 0)), .inl (cI, 12, .inl (fl_ (fun _ => 0) 12 (-1))), .inl (cI, 12, .inl (fun _ => 0)), .inl (cI, 12, .inl (fun _ => 0))] = rf_ a cI cL 0 (fun _ => 0) (fun _ => 0) (fun _ => 0) (fun _ => 0) (fun _ => 0) (fl_ (fun _ => 0) 12 (-1)) (fun _ => 0) (fun _ => 0) := rfl
/-- at the start they agree -/
theorem rl_start : rl_ (fun _ _ => 0) J0_ (fun i => 22 + 2 * i) 20 0 (fun _ => 0) (fl_ (fun _ => 0) 12 (-1)) (fun _ => 0) (fun _ => 0) := by
  refine ⟨⟨by decide, by decide, by decide, fun i hi => ⟨?_, by show ¬ 22 + 2 * i = 3; omega, by show ¬ 22 + 2 * i = 5; omega, by show ¬ 22 + 2 * i = 20; omega⟩⟩, fun i j _ _ h => by have h9 : 22 + 2 * i = 22 + 2 * j := h; omega, fun i p hi hp => ?_, rfl, fun e he => Or.inl ⟨by unfold fl_; rw [if_pos he], rfl⟩, fun _ _ => rfl, rfl, rfl, fun _ _ => 0, fun _ _ => 0, 0, ?_, rfl, fun _ _ => (show 0 < 767 by decide)⟩
  · show fo_ (22 + 2 * i) = true
    unfold fo_
    simp only [Bool.or_eq_true, Bool.and_eq_true, beq_iff_eq, decide_eq_true_eq]
    omega
  · unfold fb_ rw_ J0_
    rw [if_neg (show ¬ 22 + 2 * i + 1 = 8 by omega)]
  · funext a b
    unfold it_
    by_cases h : 16 ≤ a ∧ a ≤ 19
    · rw [if_pos h]; rfl
    · rw [if_neg h]
