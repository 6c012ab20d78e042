theorem state_of {u : MU} {d : Nat} : stateBy u d = 1 ∨ stateBy u d = 2 ∨ stateBy u d = 3 := by
  unfold stateBy
  split
  · exact Or.inl rfl
  · split
    · exact Or.inr (Or.inl rfl)
    · exact Or.inr (Or.inr rfl)
theorem Inv.close {N : Nat} {u : MU} (h : Inv N u) {v : Int32} : Inv N (opClose u v).2.2 := by
  unfold opClose
  split
  · exact h
  · next h1 =>
    split
    · exact h
    · next h2 =>
      obtain ⟨d, hd, rfl⟩ := isDd_of h.W (nf_ h1)
      have h60 := h.W.2.1
      have hdc := clampI (n := d) (by omega)
      rw [hdc] at h2 ⊢
      have h0 : u.1 22 d = 0 := Classical.byContradiction fun z => h2 (Or.inl z)
      have h30 := h.h30 (show d < 60 by omega) h0
      have hs : ¬ stateBy u d = 0 := by
        rcases state_of (u := u) (d := d) with q | q | q <;> rw [q] <;> decide
      obtain ⟨s, es⟩ : ∃ s, s = stateBy u d := ⟨_, rfl⟩
      show Inv N (uI (uI (uI (uN (uI u 22 d (stateBy u d)) 30 (u.2.2.1 30 + 1)) 23 d (nI (u.2.2.1 30 + 1))) 24 d u.2.2.2.1) 29 d 1)
      rw [← es] at hs ⊢
      obtain ⟨w, hw⟩ : ∃ w, w = uI (uI (uI (uN (uI u 22 d s) 30 (u.2.2.1 30 + 1)) 23 d (nI (u.2.2.1 30 + 1))) 24 d u.2.2.2.1) 29 d 1 := ⟨_, rfl⟩
      rw [← hw]
      have f : ∀ k, k ≠ 22 → k ≠ 23 → k ≠ 24 → k ≠ 29 → w.1 k = u.1 k := fun k a1 a2 a3 a4 => by
        rw [hw, uI_k a4, uI_k a3, uI_k a2, uN_I, uI_k a1]
      have e22 : w.1 22 = (uI u 22 d s).1 22 := by
        rw [hw, uI_k (by decide), uI_k (by decide), uI_k (by decide), uN_I]
      have e22d : w.1 22 d = s := by rw [e22, uI_I, if_pos rfl, if_pos rfl]
      have e22n : ∀ e, e ≠ d → w.1 22 e = u.1 22 e := fun e he => by rw [e22, uI_I, if_pos rfl, if_neg he]
      have e23d : w.1 23 d = nI (u.2.2.1 30 + 1) := by
        rw [hw, uI_k (by decide), uI_k (by decide), uI_I, if_pos rfl, if_pos rfl]
      have e23n : ∀ e, e ≠ d → w.1 23 e = u.1 23 e := fun e he => by
        rw [hw, uI_k (by decide), uI_k (by decide), uI_I, if_pos rfl, if_neg he, uN_I, uI_k (by decide)]
      have e29d : w.1 29 d = 1 := by rw [hw, uI_I, if_pos rfl, if_pos rfl]
      have e29n : ∀ e, e ≠ d → w.1 29 e = u.1 29 e := fun e he => by
        rw [hw, uI_I, if_pos rfl, if_neg he, uI_k (by decide), uI_k (by decide), uN_I, uI_k (by decide)]
      have eJ : w.2.1 = u.2.1 := by rw [hw]; rfl
      have n30 : w.2.2.1 30 = u.2.2.1 30 + 1 := by
        rw [hw]
        show (if (30 : Nat) = 30 then u.2.2.1 30 + 1 else u.2.2.1 30) = u.2.2.1 30 + 1
        rw [if_pos rfl]
      have nN : ∀ k, k ≠ 30 → w.2.2.1 k = u.2.2.1 k := fun k hk => by
        rw [hw]
        show (if k = 30 then u.2.2.1 30 + 1 else u.2.2.1 k) = u.2.2.1 k
        rw [if_neg hk]
      have mn : ∀ e, e ≠ d → nm w e = nm u e := fun e he => by rw [nm, nm, e23n e he]
      have md : nm w d = u.2.2.1 30 + 1 := by rw [nm, e23d]; exact clampI (by omega)
      refine ⟨?_, ?_, ?_, ?_, ?_, ?_, ?_, ?_, ?_, ?_, ?_, ?_⟩
      · have q := h.W
        unfold WN at *
        rw [n30, nN 2 (by decide), nN 10 (by decide), nN 31 (by decide), nN 35 (by decide)]
        exact ⟨q.1, q.2.1, by omega, q.2.2.2⟩
      · have q := h.P
        unfold WP at *
        rw [f 8 (by decide) (by decide) (by decide) (by decide)]
        exact q
      · have q := h.D
        unfold WD at *
        rw [f 12 (by decide) (by decide) (by decide) (by decide), f 13 (by decide) (by decide) (by decide) (by decide)]
        exact q
      · intro e he
        rw [f 19 (by decide) (by decide) (by decide) (by decide)]
        by_cases z : e = d
        · rw [z, md]
          refine ⟨by omega, ?_⟩
          rcases (h.B d (by omega)).2 with q | ⟨b, hb, eb, -⟩
          · exact Or.inl q
          · refine Or.inr ⟨b, hb, eb, fun _ => ?_⟩
            have hb0 := (h.C d (by omega)).2.2 hd b hb eb
            have hbd : b ≠ d := fun y => hb0 (y ▸ h0)
            rw [mn b hbd]
            have := (h.C b hb).1
            omega
        · rw [mn e z, e22n e z]
          refine ⟨(h.B e he).1, ?_⟩
          rcases (h.B e he).2 with q | ⟨b, hb, eb, hq⟩
          · exact Or.inl q
          · refine Or.inr ⟨b, hb, eb, fun hse => ?_⟩
            have hel : e < u.2.2.1 10 := Classical.byContradiction fun y => hse ((h.C e he).2.1 (by omega))
            have hb0 := (h.C e he).2.2 hel b hb eb
            have hbd : b ≠ d := fun y => hb0 (y ▸ h0)
            rw [mn b hbd]
            exact hq hse
      · intro e he
        rw [f 19 (by decide) (by decide) (by decide) (by decide), n30, nN 10 (by decide)]
        have hc := h.C e he
        refine ⟨?_, fun q => ?_, fun q b hb eb => ?_⟩
        · by_cases z : e = d
          · rw [z, md]
            exact Nat.le_refl _
          · rw [mn e z]
            omega
        · rw [e22n e (by omega)]
          exact hc.2.1 q
        · by_cases z : b = d
          · rw [z, e22d]
            exact hs
          · rw [e22n b z]
            exact hc.2.2 q b hb eb
      · intro e he
        rw [f 28 (by decide) (by decide) (by decide) (by decide)]
        obtain ⟨m, g, hm, em, g0, e0, hg⟩ := h.G e he
        by_cases z : e = d
        · refine ⟨1, g, by decide, by rw [z, e29d]; rfl, g0, e0, fun j hj => ?_⟩
          obtain rfl : j = 0 := by omega
          exact ⟨e0, by omega, fun i hi => absurd hi (Nat.not_lt_zero i)⟩
        · rw [e29n e z]
          exact ⟨m, g, hm, em, g0, e0, hg⟩
      · have q := h.S
        unfold WS1 at *
        rw [nN 31 (by decide), eJ]
        exact q
      · have q := h.K
        unfold WK isOfT at *
        rw [nN 10 (by decide), nN 31 (by decide), f 11 (by decide) (by decide) (by decide) (by decide), f 12 (by decide) (by decide) (by decide) (by decide), f 13 (by decide) (by decide) (by decide) (by decide), f 14 (by decide) (by decide) (by decide) (by decide), f 15 (by decide) (by decide) (by decide) (by decide), f 16 (by decide) (by decide) (by decide) (by decide)]
        exact q
      · have q := h.V
        unfold WV at *
        rw [nN 31 (by decide), f 32 (by decide) (by decide) (by decide) (by decide)]
        exact q
      · have q := h.L
        unfold WL at *
        rw [nN 10 (by decide), f 11 (by decide) (by decide) (by decide) (by decide), f 12 (by decide) (by decide) (by decide) (by decide), f 13 (by decide) (by decide) (by decide) (by decide), f 15 (by decide) (by decide) (by decide) (by decide), f 16 (by decide) (by decide) (by decide) (by decide)]
        exact q
      · rw [f 26 (by decide) (by decide) (by decide) (by decide)]
        exact h.Z
      · rw [n30, cntC_fr e22, cntC_up (by omega) h0 hs, h.M]
/-- only papers change -/
theorem Inv.papers {N N' : Nat} {u w : MU} (h : Inv N u) (hI : ∀ a, a ≠ 28 → a ≠ 29 → w.1 a = u.1 a) (hr : w.2 = u.2) (hG : WH N' w) : Inv N' w := by
  have e22 := hI 22 (by decide) (by decide)
  have eN : w.2.2.1 = u.2.2.1 := by rw [hr]
  refine ⟨?_, ?_, ?_, ?_, ?_, hG, ?_, ?_, ?_, ?_, ?_, ?_⟩
  · have := h.W; unfold WN at *; rw [eN]; exact this
  · have := h.P; unfold WP at *; rw [hI 8 (by decide) (by decide)]; exact this
  · have := h.D; unfold WD at *; rw [hI 12 (by decide) (by decide), hI 13 (by decide) (by decide)]; exact this
  · have := h.B; unfold WB nm at *; rw [hI 19 (by decide) (by decide), e22, hI 23 (by decide) (by decide)]; exact this
  · have := h.C; unfold WC nm at *; rw [hI 19 (by decide) (by decide), e22, hI 23 (by decide) (by decide), eN]; exact this
  · have := h.S; unfold WS1 at *; rw [hr]; exact this
  · have := h.K; unfold WK isOfT at *; rw [hI 11 (by decide) (by decide), hI 12 (by decide) (by decide), hI 13 (by decide) (by decide), hI 14 (by decide) (by decide), hI 15 (by decide) (by decide), hI 16 (by decide) (by decide), eN]; exact this
  · have := h.V; unfold WV at *; rw [hI 32 (by decide) (by decide), eN]; exact this
  · have := h.L; unfold WL at *; rw [hI 11 (by decide) (by decide), hI 12 (by decide) (by decide), hI 13 (by decide) (by decide), hI 15 (by decide) (by decide), hI 16 (by decide) (by decide), eN]; exact this
  · rw [hI 26 (by decide) (by decide)]; exact h.Z
  · rw [eN, cntC_fr e22]; exact h.M
theorem Inv.copy {N : Nat} {u : MU} (hN : N < 2 ^ 29) (h : Inv N u) {v : Int32} : Inv N (opCopy u v).2.2 := by
  unfold opCopy
  split
  · exact h
  · next h1 =>
    split
    · exact h
    · next h2 =>
      obtain ⟨d, hd, rfl⟩ := isDd_of h.W (nf_ h1)
      have h60 := h.W.2.1
      have hdc := clampI (n := d) (by omega)
      rw [hdc] at h2 ⊢
      obtain ⟨m, g, hm, em, g0, e0, hg⟩ := h.G d (by omega)
      have hm0 : m ≠ 0 := fun z => h2 (Or.inl (by rw [em, z]; rfl))
      have hm4 : m ≠ 4 := fun z => h2 (Or.inr (by rw [em, z]; rfl))
      have hmc := clampI (n := m) (by omega)
      show Inv N (uI (uI u 28 (4 * d + (u.1 29 d).toNatClampNeg) (u.1 28 (4 * d) + 1)) 29 d (u.1 29 d + 1))
      rw [em, hmc, e0, nI_1, nI_1]
      refine h.papers (fun a a1 a2 => by rw [uI_k a2, uI_k a1]) rfl (fun e he => ?_)
      have r28 : ∀ i, (uI (uI u 28 (4 * d + m) (nI (g 0 + 1))) 29 d (nI (m + 1))).1 28 i = if i = 4 * d + m then nI (g 0 + 1) else u.1 28 i := fun i => by
        rw [uI_k (by decide), uI_I, if_pos rfl]
      have r29 : (uI (uI u 28 (4 * d + m) (nI (g 0 + 1))) 29 d (nI (m + 1))).1 29 e = if e = d then nI (m + 1) else u.1 29 e := by
        rw [uI_I, if_pos rfl, uI_k (by decide)]
      rw [r29]
      simp only [r28]
      by_cases z : e = d
      · subst z
        refine ⟨m + 1, fun j => if j = m then g 0 + 1 else g j, by omega, by rw [if_pos rfl], ?_, ?_, fun j hj => ?_⟩
        · show (if 0 = m then g 0 + 1 else g 0) ≤ N
          rw [if_neg (fun y => hm0 y.symm)]
          exact g0
        · show (if 4 * e = 4 * e + m then nI (g 0 + 1) else u.1 28 (4 * e)) = nI (if 0 = m then g 0 + 1 else g 0)
          rw [if_neg (by omega), if_neg (fun y => hm0 y.symm)]
          exact e0
        · show (if 4 * e + j = 4 * e + m then nI (g 0 + 1) else u.1 28 (4 * e + j)) = nI (if j = m then g 0 + 1 else g j) ∧ (if j = m then g 0 + 1 else g j) ≤ (if 0 = m then g 0 + 1 else g 0) + 1 ∧ ∀ i, i < j → (if i = m then g 0 + 1 else g i) ≤ (if j = m then g 0 + 1 else g j)
          rw [if_neg (show ¬ 0 = m from fun y => hm0 y.symm)]
          by_cases y : j = m
          · rw [if_pos (by omega), if_pos y]
            refine ⟨rfl, Nat.le_refl _, fun i hi => ?_⟩
            rw [if_neg (by omega)]
            exact (hg i (by omega)).2.1
          · rw [if_neg (by omega), if_neg y]
            obtain ⟨q1, q2, q3⟩ := hg j (by omega)
            refine ⟨q1, q2, fun i hi => ?_⟩
            rw [if_neg (by omega)]
            exact q3 i hi
      · rw [if_neg z]
        obtain ⟨m2, g2, hm2, em2, g02, e02, hg2⟩ := h.G e he
        refine ⟨m2, g2, hm2, em2, g02, ?_, fun j hj => ?_⟩
        · rw [if_neg (by omega)]
          exact e02
        · rw [if_neg (by omega)]
          exact hg2 j hj
