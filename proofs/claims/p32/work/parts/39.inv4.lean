/-- a row's two terms are those of the number q -/
def HQ (u : MU) (a b i : Nat) (q : Rat) : Prop := 0 ≤ q ∧ u.2.1 a i = lN q.num.toNat ∧ u.2.1 b i = lN q.den
/-- the shares of a thing make one -/
def WQ (u : MU) : Prop := ∀ t, t < u.2.2.1 31 → ∃ f : Nat → Rat, (∀ k, k < 13 → HQ u 33 34 (13 * t + k) (f k) ∧ (f k).den ≤ 1000000) ∧ sumQ f 13 = 1
theorem q_le1 {q : Rat} (h0 : 0 ≤ q) (h : q ≤ 1) : q.num.toNat ≤ q.den := by
  have h1 := Rat.num_nonneg.mpr h0
  rw [Rat.le_iff, Rat.one_num, Rat.one_den] at h
  omega
theorem WQ.s {u : MU} (h : WQ u) : WS1 u := fun t ht k hk => by
  obtain ⟨f, hf, hs⟩ := h t ht
  obtain ⟨⟨h0, e1, e2⟩, h6⟩ := hf k hk
  have hle := sumQ_le (f := f) (m := 13) (i := k) (fun j hj => (hf j hj).1.1) hk
  rw [hs] at hle
  exact ⟨(f k).num.toNat, (f k).den, e1, e2, (f k).den_pos, h6, q_le1 h0 hle⟩
theorem WQ.fr {u w : MU} (h : WQ u) (h3 : w.2.1 33 = u.2.1 33) (h4 : w.2.1 34 = u.2.1 34) (hN : w.2.2.1 31 = u.2.2.1 31) : WQ w := by
  unfold WQ HQ at *
  rw [h3, h4, hN]
  exact h
theorem WQ.start : WQ u00 := fun t ht => absurd ht (Nat.not_lt_zero t)
theorem sumQ_one {p m : Nat} (h : p < m) : sumQ (fun k => if k = p then 1 else 0) m = 1 := by
  induction m with
  | zero => omega
  | succ m ih =>
    rw [sumQ]
    by_cases e : p = m
    · subst e
      rw [if_pos rfl]
      have z : ∀ j, j ≤ p → sumQ (fun k => if k = p then (1 : Rat) else 0) j = 0 := by
        intro j
        induction j with
        | zero => exact fun _ => rfl
        | succ j ihj =>
          intro hj
          rw [sumQ, ihj (by omega), if_neg (by omega), Rat.zero_add]
      rw [z p (Nat.le_refl _), Rat.zero_add]
    · rw [ih (by omega), if_neg (fun q => e q.symm), Rat.add_zero]
theorem WQ.thing {N : Nat} {u : MU} (h : Inv N u) (hQ : WQ u) {v w : Int32} : WQ (opThing u v w).2.2 := by
  unfold opThing
  split
  · exact hQ
  · next h1 =>
    split
    · exact hQ
    · split
      · exact hQ
      · obtain ⟨p, hp, rfl⟩ := isP_of h.W (nf_ h1)
        have h12 := h.W.1
        obtain ⟨n, hn⟩ : ∃ n, n = u.2.2.1 31 := ⟨_, rfl⟩
        show WQ (uN (upRow (uI u 32 (u.2.2.1 31) w) (u.2.2.1 31) (nI p).toNatClampNeg 13) 31 (u.2.2.1 31 + 1))
        rw [← hn, clampI (n := p) (by omega)]
        intro t ht
        have n31 : (uN (upRow (uI u 32 n w) n p 13) 31 (n + 1)).2.2.1 31 = n + 1 := by
          show (if (31 : Nat) = 31 then n + 1 else (upRow (uI u 32 n w) n p 13).2.2.1 31) = n + 1
          rw [if_pos rfl]
        rw [n31] at ht
        show ∃ f : Nat → Rat, (∀ k, k < 13 → (0 ≤ f k ∧ (upRow (uI u 32 n w) n p 13).2.1 33 (13 * t + k) = lN (f k).num.toNat ∧ (upRow (uI u 32 n w) n p 13).2.1 34 (13 * t + k) = lN (f k).den) ∧ (f k).den ≤ 1000000) ∧ sumQ f 13 = 1
        by_cases e : t = n
        · rw [e]
          refine ⟨fun k => if k = p then 1 else 0, fun k hk => ?_, sumQ_one (by omega)⟩
          rw [(upRow_in hk).1, (upRow_in hk).2]
          by_cases z : k = p
          · simp only [if_pos z]
            exact ⟨⟨by decide, rfl, rfl⟩, by decide⟩
          · simp only [if_neg z]
            exact ⟨⟨by decide, rfl, rfl⟩, by decide⟩
        · obtain ⟨f, hf, hs⟩ := hQ t (by omega)
          refine ⟨f, fun k hk => ?_, hs⟩
          rw [upRow_out (fun j hj => by omega), upRow_out (fun j hj => by omega)]
          exact hf k hk
/-- a change of shares, of the register, of what lies beside -/
theorem Inv.reg {N : Nat} {u w : MU} (h : Inv N u) (hI : ∀ a, (a = 8 ∨ a = 11 ∨ a = 12 ∨ a = 13 ∨ a = 14 ∨ a = 15 ∨ a = 16 ∨ a = 19 ∨ a = 22 ∨ a = 23 ∨ a = 26 ∨ a = 28 ∨ a = 29 ∨ a = 32) → w.1 a = u.1 a) (hN : ∀ k, k ≠ 35 → w.2.2.1 k = u.2.2.1 k) (h35 : w.2.2.1 35 ≤ 100) (hS : WS1 w) : Inv N w := by
  have e8 := hI 8 (by decide)
  have e11 := hI 11 (by decide)
  have e12 := hI 12 (by decide)
  have e13 := hI 13 (by decide)
  have e14 := hI 14 (by decide)
  have e15 := hI 15 (by decide)
  have e16 := hI 16 (by decide)
  have e19 := hI 19 (by decide)
  have e22 := hI 22 (by decide)
  have e23 := hI 23 (by decide)
  have e26 := hI 26 (by decide)
  have e28 := hI 28 (by decide)
  have e29 := hI 29 (by decide)
  have e32 := hI 32 (by decide)
  have n2 := hN 2 (by decide)
  have n10 := hN 10 (by decide)
  have n30 := hN 30 (by decide)
  have n31 := hN 31 (by decide)
  refine ⟨?_, ?_, ?_, ?_, ?_, ?_, hS, ?_, ?_, ?_, ?_, ?_⟩
  · have := h.W; unfold WN at *; rw [n2, n10, n30, n31]; exact ⟨this.1, this.2.1, this.2.2.1, this.2.2.2.1, h35⟩
  · have := h.P; unfold WP at *; rw [e8]; exact this
  · have := h.D; unfold WD at *; rw [e12, e13]; exact this
  · have := h.B; unfold WB nm at *; rw [e19, e22, e23]; exact this
  · have := h.C; unfold WC nm at *; rw [e19, e22, e23, n30, n10]; exact this
  · have := h.G; unfold WH at *; rw [e28, e29]; exact this
  · have := h.K; unfold WK isOfT at *; rw [e11, e12, e13, e14, e15, e16, n10, n31]; exact this
  · have := h.V; unfold WV at *; rw [e32, n31]; exact this
  · have := h.L; unfold WL at *; rw [e11, e12, e13, e15, e16, n10]; exact this
  · rw [e26]; exact h.Z
  · rw [n30, cntC_fr e22]; exact h.M
