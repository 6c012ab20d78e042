/-! what holds of every state that calls reach -/
/-- chains of powers lead to closed deeds; numbers are at most the protocol's -/
def WC (u : MU) : Prop := ∀ d, d < 60 → nm u d ≤ u.2.2.1 30 ∧ (u.2.2.1 10 ≤ d → u.1 22 d = 0) ∧ (d < u.2.2.1 10 → ∀ b, b < 60 → u.1 19 d = nI b → ¬ u.1 22 b = 0)
/-- papers: at most four, their grades rise, at most one above the first -/
def WH (N : Nat) (u : MU) : Prop := ∀ d, d < 60 → ∃ (m : Nat) (f : Nat → Nat), m ≤ 4 ∧ u.1 29 d = nI m ∧ f 0 ≤ N ∧ u.1 28 (4 * d) = nI (f 0) ∧ ∀ j, j < m → u.1 28 (4 * d + j) = nI (f j) ∧ f j ≤ f 0 + 1 ∧ ∀ i, i < j → f i ≤ f j
theorem WH.g {N : Nat} {u : MU} (h : WH N u) : WG N u := fun d hd => by
  obtain ⟨m, f, hm, e, h0, e0, hf⟩ := h d hd
  exact ⟨m, hm, e, f 0, h0, e0, fun j hj => ⟨f j, (hf j hj).2.1, (hf j hj).1⟩⟩
def cntC (u : MU) : Nat → Nat
  | 0 => 0
  | m + 1 => cntC u m + (if u.1 22 m = 0 then 0 else 1)
def Inv (N : Nat) (u : MU) : Prop := (WN u) ∧ (WP u) ∧ (WD u) ∧ (WB u) ∧ (WC u) ∧ (WH N u) ∧ (WS1 u) ∧ (WK u) ∧ (WV u) ∧ (WL u) ∧ (∀ d, d < 60 → u.1 26 d = 0 ∨ u.1 26 d = 1) ∧ (u.2.2.1 30 = cntC u 60)
theorem Inv.W {N : Nat} {u : MU} (h : Inv N u) : WN u := h.1
theorem Inv.P {N : Nat} {u : MU} (h : Inv N u) : WP u := h.2.1
theorem Inv.D {N : Nat} {u : MU} (h : Inv N u) : WD u := h.2.2.1
theorem Inv.B {N : Nat} {u : MU} (h : Inv N u) : WB u := h.2.2.2.1
theorem Inv.C {N : Nat} {u : MU} (h : Inv N u) : WC u := h.2.2.2.2.1
theorem Inv.G {N : Nat} {u : MU} (h : Inv N u) : WH N u := h.2.2.2.2.2.1
theorem Inv.S {N : Nat} {u : MU} (h : Inv N u) : WS1 u := h.2.2.2.2.2.2.1
theorem Inv.K {N : Nat} {u : MU} (h : Inv N u) : WK u := h.2.2.2.2.2.2.2.1
theorem Inv.V {N : Nat} {u : MU} (h : Inv N u) : WV u := h.2.2.2.2.2.2.2.2.1
theorem Inv.L {N : Nat} {u : MU} (h : Inv N u) : WL u := h.2.2.2.2.2.2.2.2.2.1
theorem Inv.Z {N : Nat} {u : MU} (h : Inv N u) : ∀ d, d < 60 → u.1 26 d = 0 ∨ u.1 26 d = 1 := h.2.2.2.2.2.2.2.2.2.2.1
theorem Inv.M {N : Nat} {u : MU} (h : Inv N u) : u.2.2.1 30 = cntC u 60 := h.2.2.2.2.2.2.2.2.2.2.2
theorem cntC_le {u : MU} {m : Nat} : cntC u m ≤ m := by
  induction m with
  | zero => exact Nat.le_refl _
  | succ m ih => rw [cntC]; split <;> omega
theorem cntC_fr {u w : MU} {m : Nat} (h : w.1 22 = u.1 22) : cntC w m = cntC u m := by
  induction m with
  | zero => rfl
  | succ m ih => rw [cntC, cntC, ih, h]
theorem cntC_out {u : MU} {d : Nat} {v : Int32} {m : Nat} (h : m ≤ d) : cntC (uI u 22 d v) m = cntC u m := by
  induction m with
  | zero => rfl
  | succ m ih =>
    rw [cntC, cntC, ih (by omega), uI_I, if_pos rfl, if_neg (show ¬ m = d by omega)]
theorem cntC_up {u : MU} {d : Nat} {v : Int32} {m : Nat} (h : d < m) (h0 : u.1 22 d = 0) (hv : ¬ v = 0) : cntC (uI u 22 d v) m = cntC u m + 1 := by
  induction m with
  | zero => omega
  | succ m ih =>
    rw [cntC, cntC, uI_I, if_pos rfl]
    by_cases e : m = d
    · subst e
      rw [if_pos rfl, if_neg hv, if_pos h0, cntC_out (Nat.le_refl _)]
    · rw [if_neg e, ih (by omega)]
      omega
theorem cntC_lt {u : MU} {d m : Nat} (h : d < m) (h0 : u.1 22 d = 0) : cntC u m < m := by
  induction m with
  | zero => omega
  | succ m ih =>
    rw [cntC]
    by_cases e : m = d
    · subst e
      rw [if_pos h0]
      have := cntC_le (u := u) (m := m)
      omega
    · have := ih (by omega)
      split <;> omega
theorem Inv.h30 {N : Nat} {u : MU} (h : Inv N u) {d : Nat} (hd : d < 60) (h0 : u.1 22 d = 0) : u.2.2.1 30 < 60 := by
  rw [h.M]
  exact cntC_lt hd h0
theorem Inv.next {N : Nat} {u : MU} (h : Inv N u) : Inv (N + 1) u :=
  ⟨h.W, h.P, h.D, h.B, h.C, fun d hd => by
    obtain ⟨m, f, hm, e, h0, h2⟩ := h.G d hd
    exact ⟨m, f, hm, e, by omega, h2⟩, h.S, h.K, h.V, h.L, h.Z, h.M⟩
/-- a change beside the rows that these facts speak of -/
theorem Inv.fr {N : Nat} {u w : MU} (h : Inv N u) (hI : ∀ a, (a = 8 ∨ a = 11 ∨ a = 12 ∨ a = 13 ∨ a = 14 ∨ a = 15 ∨ a = 16 ∨ a = 19 ∨ a = 22 ∨ a = 23 ∨ a = 26 ∨ a = 28 ∨ a = 29 ∨ a = 32) → w.1 a = u.1 a) (h3 : w.2.1 33 = u.2.1 33) (h4 : w.2.1 34 = u.2.1 34) (hN : w.2.2.1 = u.2.2.1) : Inv N w := by
  have e8 := hI 8 (by decide)
  have e11 := hI 11 (by decide)
  have e12 := hI 12 (by decide)
  have e13 := hI 13 (by decide)
  have e14 := hI 14 (by decide)
  have e15 := hI 15 (by decide)
  have e16 := hI 16 (by decide)
  have e19 := hI 19 (by decide)
  have e22 := hI 22 (by decide)
  have e23 := hI 23 (by decide)
  have e26 := hI 26 (by decide)
  have e28 := hI 28 (by decide)
  have e29 := hI 29 (by decide)
  have e32 := hI 32 (by decide)
  refine ⟨?_, ?_, ?_, ?_, ?_, ?_, ?_, ?_, ?_, ?_, ?_, ?_⟩
  · have := h.W; unfold WN at *; rw [hN]; exact this
  · have := h.P; unfold WP at *; rw [e8]; exact this
  · have := h.D; unfold WD at *; rw [e12, e13]; exact this
  · have := h.B; unfold WB nm at *; rw [e19, e22, e23]; exact this
  · have := h.C; unfold WC nm at *; rw [e19, e22, e23, hN]; exact this
  · have := h.G; unfold WH at *; rw [e28, e29]; exact this
  · have := h.S; unfold WS1 at *; rw [h3, h4, hN]; exact this
  · have := h.K; unfold WK isOfT at *; rw [e11, e12, e13, e14, e15, e16, hN]; exact this
  · have := h.V; unfold WV at *; rw [e32, hN]; exact this
  · have := h.L; unfold WL at *; rw [e11, e12, e13, e15, e16, hN]; exact this
  · rw [e26]; exact h.Z
  · rw [hN, cntC_fr e22]; exact h.M
theorem Inv.start : Inv 0 u00 := by
  refine ⟨⟨by decide, by decide, by decide, by decide, by decide⟩, fun p _ => ⟨0, by decide, rfl⟩, fun d _ => ⟨⟨0, by decide, rfl⟩, 0, by decide, rfl⟩, fun d _ => ⟨?_, Or.inr ⟨0, by decide, rfl, fun h => absurd rfl h⟩⟩, fun d _ => ⟨?_, fun _ => rfl, fun h => absurd h (Nat.not_lt_zero d)⟩, fun d _ => ⟨0, fun _ => 0, by decide, rfl, Nat.le_refl _, rfl, fun j hj => absurd hj (Nat.not_lt_zero j)⟩, fun t ht => absurd ht (Nat.not_lt_zero t), fun t ht => absurd ht (Nat.not_lt_zero t), fun t ht => absurd ht (Nat.not_lt_zero t), fun t ht => absurd ht (Nat.not_lt_zero t), fun d _ => Or.inl rfl, by decide⟩
  · show (0 : Int32).toNatClampNeg ≤ 60
    decide
  · show (0 : Int32).toNatClampNeg ≤ 0
    decide
theorem uI_k {u : MU} {k i a : Nat} {v : Int32} (h : a ≠ k) : (uI u k i v).1 a = u.1 a := if_neg h
/-- a person's row, a guardian, the day: nothing of these facts -/
theorem Inv.pass {N : Nat} {u : MU} (h : Inv N u) {d : Int32} : Inv N (opPass u d).2.2 := by
  unfold opPass
  split
  · exact h
  · exact h.fr (fun _ _ => rfl) rfl rfl rfl
theorem Inv.guard {N : Nat} {u : MU} (h : Inv N u) {v w : Int32} : Inv N (opGuard u v w).2.2 := by
  unfold opGuard
  split
  · exact h
  · split
    · exact h
    · split
      · exact h
      · exact h.fr (fun a ha => uI_k (by omega)) rfl rfl rfl
theorem Inv.add {N : Nat} {u : MU} (h : Inv N u) {v w : Int32} : Inv N (opAdd u v w).2.2 := by
  unfold opAdd
  split
  · exact h
  · split
    · exact h
    · split
      · exact h
      · exact h.fr (fun a ha => uI_k (by omega)) rfl rfl rfl
theorem Inv.witness {N : Nat} {u : MU} (h : Inv N u) {v w : Int32} : Inv N (opWitness u v w).2.2 := by
  unfold opWitness
  split
  · exact h
  · split
    · exact h
    · exact h.fr (fun a ha => by rw [uI_k (by omega), uI_k (by omega)]) rfl rfl rfl
theorem Inv.person {N : Nat} {u : MU} (h : Inv N u) {y : Int32} {f : Bool} : Inv N (opPerson u y f).2.2 := by
  unfold opPerson
  split
  · exact h
  · split
    · exact h
    · next hn =>
      have h12 := n12_of h.W hn
      have h1 : Inv N (uI (uI (uI (uI u 3 (u.2.2.1 2) y) 4 (u.2.2.1 2) u.2.2.2.1) 5 (u.2.2.1 2) (b2i f)) 9 (u.2.2.1 2) (-1)) :=
        h.fr (fun a ha => by rw [uI_k (by omega), uI_k (by omega), uI_k (by omega), uI_k (by omega)]) rfl rfl rfl
      obtain ⟨w, hw⟩ : ∃ w, w = uI (uI (uI (uI u 3 (u.2.2.1 2) y) 4 (u.2.2.1 2) u.2.2.2.1) 5 (u.2.2.1 2) (b2i f)) 9 (u.2.2.1 2) (-1) := ⟨_, rfl⟩
      show Inv N (uN _ 2 (u.2.2.1 2 + 1))
      rw [← hw] at h1 ⊢
      refine ⟨⟨?_, h1.W.2⟩, h1.P, h1.D, h1.B, h1.C, h1.G, h1.S, h1.K, h1.V, h1.L, h1.Z, h1.M⟩
      show u.2.2.1 2 + 1 ≤ 12
      omega
theorem Inv.child {N : Nat} {u : MU} (h : Inv N u) {v w : Int32} : Inv N (opChild u v w).2.2 := by
  unfold opChild
  split
  · exact h
  · next hpp =>
    split
    · exact h
    · split
      · exact h
      · next hno =>
        have hw : isP u w = true := by
          cases e : isP u w with
          | true => rfl
          | false => exact absurd (Or.inr e) hpp
        obtain ⟨p, hp, rfl⟩ := isP_of h.W hw
        have h12 := h.W.1
        have hpc := clampI (n := p) (by omega)
        obtain ⟨m, hm, em⟩ := h.P p (by omega)
        rw [hpc] at hno ⊢
        have hm2 : m ≠ 2 := fun z => hno (Or.inl (by rw [em, z]; rfl))
        have h1 : Inv N (uI u 7 (2 * p + (u.1 8 p).toNatClampNeg) v) := h.fr (fun a ha => uI_k (by omega)) rfl rfl rfl
        obtain ⟨w, hw⟩ : ∃ w, w = uI u 7 (2 * p + (u.1 8 p).toNatClampNeg) v := ⟨_, rfl⟩
        rw [← hw] at h1 ⊢
        have e8 : w.1 8 = u.1 8 := by rw [hw]; exact uI_k (by decide)
        refine ⟨h1.W, fun q hq => ?_, h1.D, h1.B, h1.C, h1.G, h1.S, h1.K, h1.V, h1.L, h1.Z, h1.M.trans (cntC_fr (uI_k (by decide))).symm⟩
        rw [uI_I, if_pos rfl, e8]
        by_cases e : q = p
        · exact ⟨m + 1, by omega, by rw [if_pos e, em, nI_1]⟩
        · rw [if_neg e]
          exact h.P q hq
theorem Inv.revoke {N : Nat} {u : MU} (h : Inv N u) {v : Int32} {t : Bool} : Inv N (opRevoke u v t).2.2 := by
  unfold opRevoke
  split
  · exact h
  · split
    · exact h
    · have h1 : Inv N (uI u 26 v.toNatClampNeg 1) := by
        refine ⟨h.W, h.P, h.D, h.B, h.C, h.G, h.S, h.K, h.V, h.L, fun d hd => ?_, h.M.trans (cntC_fr (uI_k (by decide))).symm⟩
        rw [uI_I, if_pos rfl]
        by_cases e : d = v.toNatClampNeg
        · exact Or.inr (if_pos e)
        · rw [if_neg e]
          exact h.Z d hd
      exact h1.fr (fun a ha => uI_k (by omega)) rfl rfl rfl
theorem Inv.row {N : Nat} {u : MU} (h : Inv N u) {k i : Nat} {v : Int32} (hk : k = 14 ∨ k = 15 ∨ k = 16) (hi : u.2.2.1 10 ≤ i) : Inv N (uI u k i v) := by
  have e : ∀ a d, d < u.2.2.1 10 → (uI u k i v).1 a d = u.1 a d := by
    intro a d hd
    rw [uI_I]
    split
    · next z => rw [if_neg (by omega), z]
    · rfl
  have f : ∀ a, a ≠ 14 → a ≠ 15 → a ≠ 16 → (uI u k i v).1 a = u.1 a := fun a h1 h2 h3 => uI_k (by omega)
  refine ⟨h.W, ?_, ?_, ?_, ?_, ?_, h.S, ?_, ?_, ?_, ?_, ?_⟩
  · have := h.P; unfold WP at *; rw [f 8 (by decide) (by decide) (by decide)]; exact this
  · have := h.D; unfold WD at *; rw [f 12 (by decide) (by decide) (by decide), f 13 (by decide) (by decide) (by decide)]; exact this
  · have := h.B; unfold WB nm at *; rw [f 19 (by decide) (by decide) (by decide), f 22 (by decide) (by decide) (by decide), f 23 (by decide) (by decide) (by decide)]; exact this
  · have := h.C; unfold WC nm at *; rw [f 19 (by decide) (by decide) (by decide), f 22 (by decide) (by decide) (by decide), f 23 (by decide) (by decide) (by decide)]; exact this
  · have := h.G; unfold WH at *; rw [f 28 (by decide) (by decide) (by decide), f 29 (by decide) (by decide) (by decide)]; exact this
  · intro d hd ho
    have hd' : d < u.2.2.1 10 := hd
    have ho' : isOfT u d = true := by rw [isOfT, ← e 11 d hd']; exact ho
    rw [e 12 d hd', e 13 d hd', e 14 d hd', e 15 d hd', e 16 d hd']
    exact h.K d hd' ho'
  · have := h.V; unfold WV at *; rw [f 32 (by decide) (by decide) (by decide)]; exact this
  · intro d hd ho
    have hd' : d < u.2.2.1 10 := hd
    rw [e 11 d hd'] at ho
    rw [e 12 d hd', e 13 d hd', e 15 d hd', e 16 d hd']
    exact h.L d hd' ho
  · rw [f 26 (by decide) (by decide) (by decide)]
    exact h.Z
  · exact h.M.trans (cntC_fr (f 22 (by decide) (by decide) (by decide))).symm
theorem Inv.drafts {N : Nat} {u : MU} (h : Inv N u) {s : Int32} {a b : Nat} (hn : u.2.2.1 10 < 60) (ha : a < 12) (hb : b < 12) (hab : ¬ nI a = nI b)
    (hK : ¬ 2 < s → ∃ t x y, t < u.2.2.1 31 ∧ u.1 14 (u.2.2.1 10) = nI t ∧ u.1 15 (u.2.2.1 10) = nI x ∧ u.1 16 (u.2.2.1 10) = nI y ∧ 1 ≤ x ∧ x ≤ y ∧ y ≤ 100)
    (hL : s = 4 → ∃ x y, u.1 15 (u.2.2.1 10) = nI x ∧ u.1 16 (u.2.2.1 10) = nI y ∧ 1 ≤ x ∧ x ≤ y ∧ y ≤ 100) : Inv N (upDrafts u s (nI a) (nI b)) := by
  obtain ⟨n, hnn⟩ : ∃ n, n = u.2.2.1 10 := ⟨_, rfl⟩
  unfold upDrafts
  rw [← hnn] at hn hK hL ⊢
  obtain ⟨w, hw⟩ : ∃ w, w = uI (uI (uI (uI (uI (uI u 11 n s) 12 n (nI a)) 13 n (nI b)) 19 n (-1)) 24 n (-1)) 25 n (-1) := ⟨_, rfl⟩
  rw [← hw]
  have f : ∀ k, k ≠ 11 → k ≠ 12 → k ≠ 13 → k ≠ 19 → k ≠ 24 → k ≠ 25 → w.1 k = u.1 k := fun k h1 h2 h3 h4 h5 h6 => by
    rw [hw, uI_k h6, uI_k h5, uI_k h4, uI_k h3, uI_k h2, uI_k h1]
  have o : ∀ k d, d ≠ n → w.1 k d = u.1 k d := fun k d hd => by
    rw [hw]
    have g : ∀ (z : MU) (j : Nat) (v : Int32), (uI z j n v).1 k d = z.1 k d := fun z j v => by
      rw [uI_I]
      split
      · next q => rw [q]
      · rfl
    rw [g, g, g, g, g, g]
  have e11 : w.1 11 n = s := by rw [hw]; simp [uI_I]
  have e12 : w.1 12 n = nI a := by rw [hw]; simp [uI_I]
  have e13 : w.1 13 n = nI b := by rw [hw]; simp [uI_I]
  have e19 : w.1 19 n = -1 := by rw [hw]; simp [uI_I]
  have eJ : w.2.1 = u.2.1 := by rw [hw]; rfl
  have eN : w.2.2.1 = u.2.2.1 := by rw [hw]; rfl
  have f22 := f 22 (by decide) (by decide) (by decide) (by decide) (by decide) (by decide)
  have f23 := f 23 (by decide) (by decide) (by decide) (by decide) (by decide) (by decide)
  have nN : ∀ k, k ≠ 10 → (uN w 10 (n + 1)).2.2.1 k = u.2.2.1 k := fun k hk => by
    show (if k = 10 then n + 1 else w.2.2.1 k) = _
    rw [if_neg hk, eN]
  have n10 : (uN w 10 (n + 1)).2.2.1 10 = n + 1 := by
    show (if (10 : Nat) = 10 then n + 1 else w.2.2.1 10) = n + 1
    rw [if_pos rfl]
  refine ⟨?_, ?_, ?_, ?_, ?_, ?_, ?_, ?_, ?_, ?_, ?_, ?_⟩
  · have h0 := h.W
    unfold WN at *
    rw [n10, nN 2 (by decide), nN 30 (by decide), nN 31 (by decide), nN 35 (by decide)]
    exact ⟨h0.1, by omega, h0.2.2⟩
  · intro p hp
    show ∃ m, m ≤ 2 ∧ w.1 8 p = nI m
    rw [f 8 (by decide) (by decide) (by decide) (by decide) (by decide) (by decide)]
    exact h.P p hp
  · intro d hd
    show (∃ a, a < 12 ∧ w.1 12 d = nI a) ∧ ∃ b, b < 12 ∧ w.1 13 d = nI b
    by_cases e : d = n
    · subst e
      exact ⟨⟨a, ha, e12⟩, b, hb, e13⟩
    · rw [o 12 d e, o 13 d e]
      exact h.D d hd
  · intro d hd
    have h0 := h.B d hd
    unfold nm at *
    show (w.1 23 d).toNatClampNeg ≤ 60 ∧ (w.1 19 d = -1 ∨ ∃ b, b < 60 ∧ w.1 19 d = nI b ∧ (¬ w.1 22 d = 0 → (w.1 23 b).toNatClampNeg < (w.1 23 d).toNatClampNeg))
    rw [f22, f23]
    refine ⟨h0.1, ?_⟩
    by_cases e : d = n
    · subst e
      exact Or.inl e19
    · rw [o 19 d e]
      exact h0.2
  · intro d hd
    have h0 := h.C d hd
    unfold nm at *
    show (w.1 23 d).toNatClampNeg ≤ (uN w 10 (n + 1)).2.2.1 30 ∧ ((uN w 10 (n + 1)).2.2.1 10 ≤ d → w.1 22 d = 0) ∧ (d < (uN w 10 (n + 1)).2.2.1 10 → ∀ b, b < 60 → w.1 19 d = nI b → ¬ w.1 22 b = 0)
    rw [f22, f23, n10, nN 30 (by decide)]
    refine ⟨h0.1, fun hq => h0.2.1 (by omega), fun hq c hc hcc => ?_⟩
    by_cases e : d = n
    · subst e
      rw [e19] at hcc
      exact absurd hcc.symm (nI_nm1 (by omega))
    · rw [o 19 d e] at hcc
      exact h0.2.2 (by omega) c hc hcc
  · intro d hd
    show ∃ (m : Nat) (f : Nat → Nat), m ≤ 4 ∧ w.1 29 d = nI m ∧ f 0 ≤ N ∧ w.1 28 (4 * d) = nI (f 0) ∧ ∀ j, j < m → w.1 28 (4 * d + j) = nI (f j) ∧ f j ≤ f 0 + 1 ∧ ∀ i, i < j → f i ≤ f j
    rw [f 29 (by decide) (by decide) (by decide) (by decide) (by decide) (by decide), f 28 (by decide) (by decide) (by decide) (by decide) (by decide) (by decide)]
    exact h.G d hd
  · intro t ht k hk
    rw [nN 31 (by decide)] at ht
    show ∃ a b, w.2.1 33 (13 * t + k) = lN a ∧ w.2.1 34 (13 * t + k) = lN b ∧ 0 < b ∧ b ≤ 1000000 ∧ a ≤ b
    rw [eJ]
    exact h.S t ht k hk
  · intro d hd hof
    rw [n10] at hd
    rw [nN 31 (by decide)]
    show ¬ w.1 12 d = w.1 13 d ∧ ∃ t x y, t < u.2.2.1 31 ∧ w.1 14 d = nI t ∧ w.1 15 d = nI x ∧ w.1 16 d = nI y ∧ 1 ≤ x ∧ x ≤ y ∧ y ≤ 100
    have hof' : (!decide (2 < w.1 11 d)) = true := hof
    rw [f 14 (by decide) (by decide) (by decide) (by decide) (by decide) (by decide), f 15 (by decide) (by decide) (by decide) (by decide) (by decide) (by decide), f 16 (by decide) (by decide) (by decide) (by decide) (by decide) (by decide)]
    by_cases e : d = n
    · subst e
      rw [e11] at hof'
      rw [e12, e13]
      exact ⟨hab, hK (by simpa using hof')⟩
    · rw [o 11 d e] at hof'
      rw [o 12 d e, o 13 d e]
      exact h.K d (by omega) hof'
  · intro t ht
    rw [nN 31 (by decide)] at ht
    show ∃ v, v ≤ 1000000 ∧ w.1 32 t = nI v
    rw [f 32 (by decide) (by decide) (by decide) (by decide) (by decide) (by decide)]
    exact h.V t ht
  · intro d hd hof
    rw [n10] at hd
    have hof' : w.1 11 d = 4 := hof
    show ¬ w.1 12 d = w.1 13 d ∧ ∃ x y, w.1 15 d = nI x ∧ w.1 16 d = nI y ∧ 1 ≤ x ∧ x ≤ y ∧ y ≤ 100
    rw [f 15 (by decide) (by decide) (by decide) (by decide) (by decide) (by decide), f 16 (by decide) (by decide) (by decide) (by decide) (by decide) (by decide)]
    by_cases e : d = n
    · subst e
      rw [e11] at hof'
      rw [e12, e13]
      exact ⟨hab, hL hof'⟩
    · rw [o 11 d e] at hof'
      rw [o 12 d e, o 13 d e]
      exact h.L d (by omega) hof'
  · intro d hd
    show w.1 26 d = 0 ∨ w.1 26 d = 1
    rw [f 26 (by decide) (by decide) (by decide) (by decide) (by decide) (by decide)]
    exact h.Z d hd
  · rw [nN 30 (by decide), h.M]
    exact (cntC_fr (w := uN w 10 (n + 1)) f22).symm
theorem nf_ {b : Bool} (h : ¬ b = false) : b = true := by cases b with | true => rfl | false => exact absurd rfl h
theorem inB_n {v : Int32} {lo hi : Nat} (hl : lo < 2 ^ 30) (hh : hi < 2 ^ 30) (h : inB v (nI lo) (nI hi) = true) : ∃ m, lo ≤ m ∧ m ≤ hi ∧ v = nI m := by
  rw [inB_t, Int32.lt_iff_toInt_lt, Int32.lt_iff_toInt_lt, nI_toInt (by omega), nI_toInt (by omega)] at h
  obtain ⟨h1, h2⟩ := h
  obtain ⟨j, hj, e⟩ := nI_of (x := v) (by rw [Int32.lt_iff_toInt_lt, Int32.toInt_zero]; omega)
  subst e
  rw [nI_toInt hj] at h1 h2
  exact ⟨j, by omega, by omega, rfl⟩
theorem frac_of {x y : Int32} (hy : inB y 1 100 = true) (hx : inB x 1 y = true) : ∃ p q, x = nI p ∧ y = nI q ∧ 1 ≤ p ∧ p ≤ q ∧ q ≤ 100 := by
  obtain ⟨q, q1, q2, rfl⟩ := inB_n (lo := 1) (hi := 100) (by decide) (by decide) hy
  obtain ⟨p, p1, p2, rfl⟩ := inB_n (lo := 1) (hi := q) (by decide) (by omega) hx
  exact ⟨p, q, rfl, rfl, p1, p2, q2⟩
theorem b2i_ne {b : Bool} (h : b = true) : ¬ b2i b = 0 := by rw [h]; decide
theorem Inv.draft {N : Nat} {u : MU} (h : Inv N u) {s a b t x y : Int32} : Inv N (opDraft u s a b t x y).2.2 := by
  unfold opDraft
  split
  · exact h
  · next h1 =>
    split
    · exact h
    · next h2 =>
      split
      · exact h
      · next h3 =>
        obtain ⟨p, hp, rfl⟩ := isP_of h.W (nf_ fun q => h1 (Or.inl q))
        obtain ⟨q, hq, rfl⟩ := isP_of h.W (nf_ fun z => h1 (Or.inr (Or.inl z)))
        obtain ⟨k, hk, rfl⟩ := isTh_of h.W (nf_ fun z => h1 (Or.inr (Or.inr z)))
        obtain ⟨c, d, rfl, rfl, c1, cd, d1⟩ := frac_of (nf_ fun z => h2 (Or.inr (Or.inl z))) (nf_ fun z => h2 (Or.inr (Or.inr (Or.inl z))))
        have h12 := h.W.1
        have hn := room_of h.W (b2i_ne (nf_ h3))
        have hab : ¬ nI p = nI q := fun z => h2 (Or.inr (Or.inr (Or.inr z)))
        have g := ((h.row (k := 14) (v := nI k) (Or.inl rfl) (Nat.le_refl _)).row (k := 15) (i := u.2.2.1 10) (v := nI c) (Or.inr (Or.inl rfl)) (Nat.le_refl _)).row (k := 16) (i := u.2.2.1 10) (v := nI d) (Or.inr (Or.inr rfl)) (Nat.le_refl _)
        refine g.drafts (s := s) hn (by omega) (by omega) hab (fun _ => ⟨k, c, d, hk, ?_, ?_, ?_, c1, cd, d1⟩) (fun _ => ⟨c, d, ?_, ?_, c1, cd, d1⟩)
        · simp [uI_I, uI_N]
        · simp [uI_I, uI_N]
        · simp [uI_I, uI_N]
        · simp [uI_I, uI_N]
        · simp [uI_I, uI_N]
theorem Inv.will {N : Nat} {u : MU} (h : Inv N u) {a b x y : Int32} : Inv N (opWill u a b x y).2.2 := by
  unfold opWill
  split
  · exact h
  · next h1 =>
    split
    · exact h
    · next h2 =>
      split
      · exact h
      · next h3 =>
        obtain ⟨p, hp, rfl⟩ := isP_of h.W (nf_ fun q => h1 (Or.inl q))
        obtain ⟨q, hq, rfl⟩ := isP_of h.W (nf_ fun z => h1 (Or.inr z))
        obtain ⟨c, d, rfl, rfl, c1, cd, d1⟩ := frac_of (nf_ fun z => h2 (Or.inl z)) (nf_ fun z => h2 (Or.inr (Or.inl z)))
        have h12 := h.W.1
        have hn := room_of h.W (b2i_ne (nf_ h3))
        have hab : ¬ nI p = nI q := fun z => h2 (Or.inr (Or.inr z))
        have g := ((h.row (k := 14) (v := -1) (Or.inl rfl) (Nat.le_refl _)).row (k := 15) (i := u.2.2.1 10) (v := nI c) (Or.inr (Or.inl rfl)) (Nat.le_refl _)).row (k := 16) (i := u.2.2.1 10) (v := nI d) (Or.inr (Or.inr rfl)) (Nat.le_refl _)
        refine g.drafts (s := 4) hn (by omega) (by omega) hab (fun z => absurd (by decide) z) (fun _ => ⟨c, d, ?_, ?_, c1, cd, d1⟩)
        · simp [uI_I, uI_N]
        · simp [uI_I, uI_N]
theorem Inv.power {N : Nat} {u : MU} (h : Inv N u) {a b t d : Int32} {on : Bool} : Inv N (opPower u a b t d on).2.2 := by
  unfold opPower
  split
  · exact h
  · next h1 =>
    split
    · exact h
    · next h2 =>
      split
      · exact h
      · next h3 =>
        obtain ⟨p, hp, rfl⟩ := isP_of h.W (nf_ fun q => h1 (Or.inl q))
        obtain ⟨q, hq, rfl⟩ := isP_of h.W (nf_ fun z => h1 (Or.inr (Or.inl z)))
        have h12 := h.W.1
        have hn := room_of h.W (b2i_ne (nf_ h3))
        have hab : ¬ nI p = nI q := fun z => h2 (Or.inr z)
        have g := ((h.row (k := 14) (v := t) (Or.inl rfl) (Nat.le_refl _)).fr (w := uI (uI u 14 (u.2.2.1 10) t) 17 (u.2.2.1 10) (u.2.2.2.1 + d)) (fun a ha => uI_k (by omega)) rfl rfl rfl).fr (w := uI (uI (uI u 14 (u.2.2.1 10) t) 17 (u.2.2.1 10) (u.2.2.2.1 + d)) 18 (u.2.2.1 10) (b2i on)) (fun a ha => uI_k (by omega)) rfl rfl rfl
        exact g.drafts (s := 3) hn (by omega) (by omega) hab (fun z => absurd (by decide) z) (fun z => absurd z (by decide))
theorem good_A {u : MU} {d : Nat} (h : good u d = true) : goodA u d = true := by
  cases e : goodA u d with
  | true => rfl
  | false =>
    rw [good, e, goodC, if_pos rfl] at h
    exact absurd h (by decide)
theorem Inv.sign {N : Nat} {u : MU} (h : Inv N u) {v w k : Int32} {ig : Bool} : Inv N (opSign u v w ig k).2.2 := by
  unfold opSign
  split
  · exact h
  · next h1 =>
    split
    · exact h
    · next h2 =>
      have g : Inv N (uI u 20 v.toNatClampNeg (u.1 20 v.toNatClampNeg ||| prt ig)) := h.fr (fun a ha => uI_k (by omega)) rfl rfl rfl
      show Inv N (if _ then _ else _)
      split
      · next hf =>
        obtain ⟨d, hd, rfl⟩ := isDd_of h.W (nf_ fun z => h1 (Or.inl z))
        have h60 := h.W.2.1
        have hdc := clampI (n := d) (by omega)
        rw [hdc] at h2 hf g ⊢
        simp only [Bool.and_eq_true, Bool.not_eq_true'] at hf
        have hc : sgCan u d w.toNatClampNeg ig k = true := nf_ fun z => h2 (Or.inr (Or.inr z))
        rw [sgCan, hf.2.1, hf.2.2, Bool.false_or, Bool.false_or, Bool.and_eq_true] at hc
        have hs := hc.1
        simp only [sgSigns, signsBy, Bool.and_eq_true, Bool.not_eq_true', decide_eq_false_iff_not] at hs
        have hk1 : ¬ k = -1 := hs.2.1.1
        have hgd : good u k.toNatClampNeg = true := hs.2.1.2.2.2.1
        obtain ⟨j, hj, rfl⟩ := isDd_of h.W (nf_ fun z => h1 (Or.inr (Or.inr ⟨hk1, z⟩)))
        rw [clampI (by omega)] at hgd
        have hst := goodA_state (good_A hgd)
        have h0 : u.1 22 d = 0 := Classical.byContradiction fun z => h2 (Or.inl z)
        obtain ⟨y, hy⟩ : ∃ y, y = uI u 20 d (u.1 20 d ||| prt ig) := ⟨_, rfl⟩
        rw [← hy] at g ⊢
        have y22 : y.1 22 = u.1 22 := by rw [hy]; exact uI_k (by decide)
        have y10 : y.2.2.1 = u.2.2.1 := by rw [hy]; rfl
        refine ⟨g.W, g.P, g.D, fun e he => ?_, fun e he => ?_, g.G, g.S, g.K, g.V, g.L, g.Z, g.M.trans (cntC_fr (uI_k (by decide))).symm⟩
        · refine ⟨(g.B e he).1, ?_⟩
          rw [uI_I, if_pos rfl]
          by_cases z : e = d
          · rw [if_pos z]
            refine Or.inr ⟨j, by omega, rfl, fun q => absurd ?_ q⟩
            show y.1 22 e = 0
            rw [y22, z]
            exact h0
          · rw [if_neg z]
            exact (g.B e he).2
        · refine ⟨(g.C e he).1, (g.C e he).2.1, fun hq b hb hbb => ?_⟩
          rw [uI_I, if_pos rfl] at hbb
          show ¬ y.1 22 b = 0
          by_cases z : e = d
          · rw [if_pos z, nI_eq (by omega) (by omega)] at hbb
            rw [y22, ← hbb]
            exact hst
          · rw [if_neg z] at hbb
            exact (g.C e he).2.2 hq b hb hbb
      · exact g
