/-- a deed that is not closed has no number, no paper, no grade -/
def WF (u : MU) : Prop := ∀ d, d < 60 → u.1 22 d = 0 → u.1 29 d = 0 ∧ u.1 23 d = 0 ∧ ∀ j, j < 4 → u.1 28 (4 * d + j) = 0
theorem WF.start : WF u00 := fun _ _ _ => ⟨rfl, rfl, fun _ _ => rfl⟩
theorem WF.fr {u w : MU} (h : WF u) (e22 : w.1 22 = u.1 22) (e23 : w.1 23 = u.1 23) (e28 : w.1 28 = u.1 28) (e29 : w.1 29 = u.1 29) : WF w := by
  unfold WF at *
  rw [e22, e23, e28, e29]
  exact h
theorem WF.close {N : Nat} {u : MU} (h : Inv N u) (hF : WF u) {v : Int32} : WF (opClose u v).2.2 := by
  unfold opClose
  split
  · exact hF
  · next h1 =>
    split
    · exact hF
    · obtain ⟨d, hd, rfl⟩ := isDd_of h.W (nf_ h1)
      have h60 := h.W.2.1
      rw [clampI (n := d) (by omega)]
      have hs : ¬ stateBy u d = 0 := by
        rcases state_of (u := u) (d := d) with q | q | q <;> rw [q] <;> decide
      intro e he h0
      have e22 : (uI u 22 d (stateBy u d)).1 22 e = 0 := h0
      rw [uI_I, if_pos rfl] at e22
      have hed : e ≠ d := fun z => by
        rw [if_pos z] at e22
        exact hs e22
      rw [if_neg hed] at e22
      obtain ⟨q1, q2, q3⟩ := hF e he e22
      refine ⟨?_, ?_, fun j hj => ?_⟩
      · show (uI _ 29 d 1).1 29 e = 0
        rw [uI_I, if_pos rfl, if_neg hed]
        exact q1
      · show (uI (uN (uI u 22 d (stateBy u d)) 30 (u.2.2.1 30 + 1)) 23 d (nI (u.2.2.1 30 + 1))).1 23 e = 0
        rw [uI_I, if_pos rfl, if_neg hed]
        exact q2
      · exact q3 j hj
theorem WF.copy {N : Nat} {u : MU} (h : Inv N u) (hF : WF u) {v : Int32} : WF (opCopy u v).2.2 := by
  unfold opCopy
  split
  · exact hF
  · next h1 =>
    split
    · exact hF
    · next h2 =>
      obtain ⟨d, hd, rfl⟩ := isDd_of h.W (nf_ h1)
      have h60 := h.W.2.1
      rw [clampI (n := d) (by omega)] at h2 ⊢
      obtain ⟨m, g, hm, em, -⟩ := h.G d (by omega)
      have hm4 : m ≠ 4 := fun z => h2 (Or.inr (by rw [em, z]; rfl))
      have hmc : (u.1 29 d).toNatClampNeg = m := by rw [em]; exact clampI (by omega)
      rw [hmc]
      intro e he h0
      have e22 : u.1 22 e = 0 := h0
      obtain ⟨q1, q2, q3⟩ := hF e he e22
      have hed : e ≠ d := fun z => h2 (Or.inl (z ▸ q1))
      refine ⟨?_, q2, fun j hj => ?_⟩
      · show (uI _ 29 d _).1 29 e = 0
        rw [uI_I, if_pos rfl, if_neg hed]
        exact q1
      · show (uI u 28 (4 * d + m) _).1 28 (4 * e + j) = 0
        rw [uI_I, if_pos rfl, if_neg (by omega)]
        exact q3 j hj
theorem WF.lose {N : Nat} {u : MU} (h : Inv N u) (hF : WF u) {v : Int32} : WF (opLose u v).2.2 := by
  unfold opLose
  split
  · exact hF
  · next h1 =>
    split
    · exact hF
    · next h2 =>
      obtain ⟨d, hd, rfl⟩ := isDd_of h.W (nf_ h1)
      have h60 := h.W.2.1
      rw [clampI (n := d) (by omega)] at h2 ⊢
      obtain ⟨m, g, hm, em, -⟩ := h.G d (by omega)
      have hmc : (u.1 29 d).toNatClampNeg = m := by rw [em]; exact clampI (by omega)
      rw [hmc]
      intro e he h0
      have e22 : u.1 22 e = 0 := by
        have z : (loseN (uI u 29 d (u.1 29 d - 1)) d (m - 1)).1 22 e = 0 := h0
        rw [loseN_k (by decide), uI_k (by decide)] at z
        exact z
      obtain ⟨q1, q2, q3⟩ := hF e he e22
      have hed : e ≠ d := fun z => h2 (z ▸ q1)
      refine ⟨?_, ?_, fun j hj => ?_⟩
      · show (loseN (uI u 29 d (u.1 29 d - 1)) d (m - 1)).1 29 e = 0
        rw [loseN_k (by decide), uI_I, if_pos rfl, if_neg hed]
        exact q1
      · show (loseN (uI u 29 d (u.1 29 d - 1)) d (m - 1)).1 23 e = 0
        rw [loseN_k (by decide), uI_k (by decide)]
        exact q2
      · show (loseN (uI u 29 d (u.1 29 d - 1)) d (m - 1)).1 28 (4 * e + j) = 0
        rw [loseN_28, if_neg (by omega), uI_k (by decide)]
        exact q3 j hj
