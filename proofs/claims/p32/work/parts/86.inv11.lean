/-! the class's invariants, kept by the calls -/
/-- nobody is its own parent -/
def NSf (u : MU) : Prop := ∀ p, p < 12 → isCh u p (nI p) = false
def CZ (N : Nat) (u : MU) : Prop := CI N u ∧ NSf u
theorem NSf.fr {u w : MU} (h : NSf u) (e7 : w.1 7 = u.1 7) (e8 : w.1 8 = u.1 8) : NSf w := fun p hp => by rw [isCh_78 e7 e8]; exact h p hp
theorem WX.r20 {u : MU} (h : WX u) {i : Nat} {v : Int32} (hi : i < u.2.2.1 10) : WX (uI u 20 i v) := by
  obtain ⟨h1, h2, h3, h4, h5, h6, h7, h8, h9, h10⟩ := h
  refine ⟨h1, h2, h3, h4, h5, fun d hd hd2 => ?_, h7, h8, h9, h10⟩
  obtain ⟨a, b⟩ := h6 d hd hd2
  refine ⟨?_, b⟩
  have hd3 : u.2.2.1 10 ≤ d := hd
  rw [uI_ne (fun z => by omega)]
  exact a
theorem WX.r21 {u : MU} (h : WX u) {i : Nat} {v : Int32} (hi : i < u.2.2.1 10) (hv : ∃ w, w < 4096 ∧ v = nI w) : WX (uI u 21 i v) := by
  obtain ⟨h1, h2, h3, h4, h5, h6, h7, h8, h9, h10⟩ := h
  refine ⟨h1, h2, h3, h4, h5, fun d hd hd2 => ?_, h7, h8, fun d => ?_, h10⟩
  · obtain ⟨a, b, c⟩ := h6 d hd hd2
    have hd3 : u.2.2.1 10 ≤ d := hd
    refine ⟨a, ?_, c⟩
    rw [uI_ne (fun z => by omega)]
    exact b
  · by_cases e : i = d
    · subst e
      rw [uI_at]
      exact hv
    · rw [uI_ne (fun z => e z.2)]
      exact h9 d
theorem WX.r2627 {u : MU} (h : WX u) {i : Nat} {v : Int32} (hi : i < u.2.2.1 10) : WX (uI (uI u 26 i 1) 27 i v) := by
  obtain ⟨h1, h2, h3, h4, h5, h6, h7, h8, h9, h10⟩ := h
  refine ⟨h1, h2, h3, h4, h5, fun d hd hd2 => ?_, h7, fun d => ?_, h9, h10⟩
  · obtain ⟨a, b, c, e⟩ := h6 d hd hd2
    have hd3 : u.2.2.1 10 ≤ d := hd
    refine ⟨a, b, ?_, ?_⟩
    · rw [uI_ne (fun z => by omega), uI_ne (fun z => by omega)]
      exact c
    · rw [uI_ne (fun z => by omega), uI_ne (fun z => by omega)]
      exact e
  · by_cases e : i = d
    · subst e
      right
      rw [uI_ne (fun z => by omega), uI_at]
      decide
    · rw [uI_ne (fun z => e z.2), uI_ne (fun z => e z.2), uI_ne (fun z => e z.2), uI_ne (fun z => e z.2)]
      exact h8 d
theorem WX.r19 {u : MU} (h : WX u) {i : Nat} {v : Int32} (hv : v = -1 ∨ ∃ b, b < u.2.2.1 10 ∧ v = nI b) : WX (uI u 19 i v) := by
  obtain ⟨h1, h2, h3, h4, h5, h6, h7, h8, h9, h10⟩ := h
  refine ⟨h1, h2, h3, fun d hd => ?_, h5, h6, h7, h8, h9, h10⟩
  by_cases e : i = d
  · subst e
    rw [uI_at]
    exact hv
  · rw [uI_ne (fun z => e z.2)]
    exact h4 d hd
theorem WX.r9 {u : MU} (h : WX u) {i : Nat} {v : Int32} (hv : v = -1 ∨ ∃ b, b < u.2.2.1 2 ∧ v = nI b) : WX (uI u 9 i v) := by
  obtain ⟨h1, h2, h3, h4, h5, h6, h7, h8, h9, h10⟩ := h
  refine ⟨fun d hd => ?_, h2, h3, h4, h5, h6, h7, h8, h9, h10⟩
  by_cases e : i = d
  · subst e
    rw [uI_at]
    exact hv
  · rw [uI_ne (fun z => e z.2)]
    exact h1 d hd
theorem CZ.pass {N : Nat} {u : MU} (h : CZ N u) {d : Int32} : CZ N (opPass u d).2.2 := by
  have a := h.1.1.pass (d := d)
  unfold opPass at a ⊢
  split at a
  · next c => rw [if_pos c]; exact h
  · next c => rw [if_neg c]; exact ⟨⟨a, h.1.F.fr rfl rfl rfl rfl, h.1.Pa, h.1.X⟩, h.2.fr rfl rfl⟩
theorem CZ.guard {N : Nat} {u : MU} (h : CZ N u) {v w : Int32} : CZ N (opGuard u v w).2.2 := by
  have a := h.1.1.guard (v := v) (w := w)
  unfold opGuard at a ⊢
  by_cases c1 : isP u v = false ∨ (¬ w = -1 ∧ isP u w = false)
  · rw [if_pos c1]; exact h
  · rw [if_neg c1] at a ⊢
    by_cases c2 : v = w
    · rw [if_pos c2]; exact h
    · rw [if_neg c2] at a ⊢
      by_cases c3 : ¬ u.1 6 v.toNatClampNeg = 0 ∨ (¬ w = -1 ∧ ¬ u.1 6 w.toNatClampNeg = 0)
      · rw [if_pos c3]; exact h
      · rw [if_neg c3] at a ⊢
        refine ⟨⟨a, h.1.F.fr rfl rfl rfl rfl, h.1.Pa, h.1.X.r9 ?_⟩, h.2.fr rfl rfl⟩
        by_cases e : w = -1
        · exact Or.inl e
        · right
          exact isP_of h.1.W (by
            cases q : isP u w with
            | true => rfl
            | false => exact absurd (Or.inr ⟨e, q⟩) c1)
theorem isD_of {N : Nat} {u : MU} (h : CI N u) {v : Int32} (c : ¬ isDd u v = false) : v.toNatClampNeg < u.2.2.1 10 := by
  obtain ⟨d, hd, e⟩ := isDd_of h.W (v := v) (by
    cases q : isDd u v with
    | true => rfl
    | false => exact absurd q c)
  rw [e, nI_clamp (by have := h.n10; omega)]
  exact hd
theorem CZ.add {N : Nat} {u : MU} (h : CZ N u) {v w : Int32} : CZ N (opAdd u v w).2.2 := by
  have a := h.1.1.add (v := v) (w := w)
  unfold opAdd at a ⊢
  by_cases c1 : isDd u v = false
  · rw [if_pos c1]; exact h
  · rw [if_neg c1] at a ⊢
    by_cases c2 : ¬ w = 4 ∧ ¬ w = 16
    · rw [if_pos c2]; exact h
    · rw [if_neg c2] at a ⊢
      by_cases c3 : ¬ u.1 22 v.toNatClampNeg = 0 ∨ ¬ u.1 20 v.toNatClampNeg &&& w ≤ 0
      · rw [if_pos c3]; exact h
      · rw [if_neg c3] at a ⊢
        exact ⟨⟨a, h.1.F.fr rfl rfl rfl rfl, h.1.Pa, h.1.X.r20 (isD_of h.1 c1)⟩, h.2.fr rfl rfl⟩
theorem CZ.revoke {N : Nat} {u : MU} (h : CZ N u) {v : Int32} {t : Bool} : CZ N (opRevoke u v t).2.2 := by
  have a := h.1.1.revoke (v := v) (t := t)
  unfold opRevoke at a ⊢
  by_cases c1 : isDd u v = false
  · rw [if_pos c1]; exact h
  · rw [if_neg c1] at a ⊢
    by_cases c2 : ¬ u.1 11 v.toNatClampNeg = 3 ∨ u.1 22 v.toNatClampNeg = 0
    · rw [if_pos c2]; exact h
    · rw [if_neg c2] at a ⊢
      exact ⟨⟨a, h.1.F.fr rfl rfl rfl rfl, h.1.Pa, h.1.X.r2627 (isD_of h.1 c1)⟩, h.2.fr rfl rfl⟩
theorem CZ.sign {N : Nat} {u : MU} (h : CZ N u) {v w k : Int32} {ig : Bool} : CZ N (opSign u v w ig k).2.2 := by
  have a := h.1.1.sign (v := v) (w := w) (k := k) (ig := ig)
  unfold opSign at a ⊢
  by_cases c1 : isDd u v = false ∨ isP u w = false ∨ (¬ k = -1 ∧ isDd u k = false)
  · rw [if_pos c1]; exact h
  · rw [if_neg c1] at a ⊢
    have hd := isD_of h.1 (fun z => c1 (Or.inl z))
    by_cases c2 : ¬ u.1 22 v.toNatClampNeg = 0 ∨ 0 < u.1 20 v.toNatClampNeg &&& prt ig ∨ sgCan u v.toNatClampNeg w.toNatClampNeg ig k = false
    · rw [if_pos c2]; exact h
    · rw [if_neg c2] at a ⊢
      dsimp only at a ⊢
      by_cases c3 : (ig && (!sgAlone u v.toNatClampNeg w.toNatClampNeg ig && !sgGuards u v.toNatClampNeg w.toNatClampNeg ig)) = true
      · rw [if_pos c3] at a ⊢
        refine ⟨⟨a, h.1.F.fr rfl rfl rfl rfl, h.1.Pa, (h.1.X.r20 hd).r19 ?_⟩, h.2.fr rfl rfl⟩
        by_cases e : k = -1
        · exact Or.inl e
        · right
          exact isDd_of (u := u) (v := k) h.1.W (by
            cases q : isDd u k with
            | true => rfl
            | false => exact absurd (Or.inr (Or.inr ⟨e, q⟩)) c1)
      · rw [if_neg c3] at a ⊢
        exact ⟨⟨a, h.1.F.fr rfl rfl rfl rfl, h.1.Pa, h.1.X.r20 hd⟩, h.2.fr rfl rfl⟩
theorem CZ.person {N : Nat} {u : MU} (h : CZ N u) {y : Int32} {f : Bool} : CZ N (opPerson u y f).2.2 := by
  have a := h.1.1.person (y := y) (f := f)
  unfold opPerson at a ⊢
  by_cases c1 : inB y 0 99 = false
  · rw [if_pos c1]; exact h
  · rw [if_neg c1] at a ⊢
    by_cases c2 : nI (u.2.2.1 2) = 12
    · rw [if_pos c2]; exact h
    · rw [if_neg c2] at a ⊢
      refine ⟨⟨a, h.1.F.fr rfl rfl rfl rfl, h.1.Pa, ?_⟩, h.2.fr rfl rfl⟩
      obtain ⟨h1, h2, h3, h4, h5, h6, h7, h8, h9, h10⟩ := h.1.X
      show WX (uN (upPer u y f) 2 (u.2.2.1 2 + 1))
      have e2 : (uN (upPer u y f) 2 (u.2.2.1 2 + 1)).2.2.1 2 = u.2.2.1 2 + 1 := uN_at
      have e9 : ∀ p, (uN (upPer u y f) 2 (u.2.2.1 2 + 1)).1 9 p = if p = u.2.2.1 2 then -1 else u.1 9 p := fun p => by unfold upPer; simp [uN, uI, upd]
      refine ⟨fun p hp => ?_, fun d hd => ?_, h3, h4, fun p hp hp2 => ?_, h6, h7, h8, h9, h10⟩
      · rw [e2] at hp ⊢
        rw [e9]
        by_cases e : p = u.2.2.1 2
        · rw [if_pos e]; exact Or.inl rfl
        · rw [if_neg e]
          rcases h1 p (by omega) with q | ⟨q, hq, eq⟩
          · exact Or.inl q
          · exact Or.inr ⟨q, by omega, eq⟩
      · rw [e2]
        obtain ⟨⟨x, hx, ex⟩, z, hz, ez⟩ := h2 d hd
        exact ⟨⟨x, by omega, ex⟩, z, by omega, ez⟩
      · rw [e2] at hp
        exact h5 p (by omega) hp2
theorem CZ.close {N : Nat} {u : MU} (h : CZ N u) {v : Int32} : CZ N (opClose u v).2.2 := by
  have a := h.1.1.close (v := v)
  have b := WF.close h.1.I h.1.F (v := v)
  unfold opClose at a b ⊢
  by_cases c1 : isDd u v = false
  · rw [if_pos c1]; exact h
  · rw [if_neg c1] at a b ⊢
    by_cases c2 : ¬ u.1 22 v.toNatClampNeg = 0 ∨ ¬ u.1 6 (u.1 12 v.toNatClampNeg).toNatClampNeg = 0 ∨ ¬ u.1 6 (u.1 13 v.toNatClampNeg).toNatClampNeg = 0
    · rw [if_pos c2]; exact h
    · rw [if_neg c2] at a b ⊢
      refine ⟨⟨a, b, h.1.Pa, ?_⟩, h.2.fr rfl rfl⟩
      obtain ⟨h1, h2, h3, h4, h5, h6, h7, h8, h9, h10⟩ := h.1.X
      have n30 := h.1.W.2.2.1
      refine ⟨h1, h2, h3, h4, h5, h6, h7, h8, h9, fun d hd hc => ?_⟩
      by_cases e : v.toNatClampNeg = d
      · subst e
        have q : (uI (uI (uI (uN (uI u 22 v.toNatClampNeg (stateBy u v.toNatClampNeg)) 30 (u.2.2.1 30 + 1)) 23 v.toNatClampNeg (nI (u.2.2.1 30 + 1))) 24 v.toNatClampNeg u.2.2.2.1) 29 v.toNatClampNeg 1).1 23 v.toNatClampNeg = nI (u.2.2.1 30 + 1) := by simp [uI, uN, upd]
        unfold nm
        rw [q, nI_clamp (by omega)]
        omega
      · have e' : ¬ d = v.toNatClampNeg := fun z => e z.symm
        have q23 : (uI (uI (uI (uN (uI u 22 v.toNatClampNeg (stateBy u v.toNatClampNeg)) 30 (u.2.2.1 30 + 1)) 23 v.toNatClampNeg (nI (u.2.2.1 30 + 1))) 24 v.toNatClampNeg u.2.2.2.1) 29 v.toNatClampNeg 1).1 23 d = u.1 23 d := by simp [uI, uN, upd, e']
        have q22 : (uI (uI (uI (uN (uI u 22 v.toNatClampNeg (stateBy u v.toNatClampNeg)) 30 (u.2.2.1 30 + 1)) 23 v.toNatClampNeg (nI (u.2.2.1 30 + 1))) 24 v.toNatClampNeg u.2.2.2.1) 29 v.toNatClampNeg 1).1 22 d = u.1 22 d := by simp [uI, uN, upd, e']
        rw [q22] at hc
        unfold nm
        rw [q23]
        exact h10 d hd hc
theorem CZ.copy {N : Nat} {u : MU} (hN : N < 2 ^ 29) (h : CZ N u) {v : Int32} : CZ N (opCopy u v).2.2 := by
  have a := Inv2.copy hN h.1.1 (v := v)
  have b := WF.copy h.1.I h.1.F (v := v)
  unfold opCopy at a b ⊢
  by_cases c1 : isDd u v = false
  · rw [if_pos c1]; exact h
  · rw [if_neg c1] at a b ⊢
    by_cases c2 : u.1 29 v.toNatClampNeg = 0 ∨ u.1 29 v.toNatClampNeg = 4
    · rw [if_pos c2]; exact h
    · rw [if_neg c2] at a b ⊢
      exact ⟨⟨a, b, h.1.Pa, h.1.X⟩, h.2.fr rfl rfl⟩
theorem WX.fr {u w : MU} (h : WX u) (e6 : w.1 6 = u.1 6) (e8 : w.1 8 = u.1 8) (e9 : w.1 9 = u.1 9) (e11 : w.1 11 = u.1 11) (e12 : w.1 12 = u.1 12) (e13 : w.1 13 = u.1 13) (e14 : w.1 14 = u.1 14) (e19 : w.1 19 = u.1 19) (e20 : w.1 20 = u.1 20) (e21 : w.1 21 = u.1 21) (e22 : w.1 22 = u.1 22) (e23 : w.1 23 = u.1 23) (e26 : w.1 26 = u.1 26) (e27 : w.1 27 = u.1 27) (e38 : w.1 38 = u.1 38) (n2 : w.2.2.1 2 = u.2.2.1 2) (n10 : w.2.2.1 10 = u.2.2.1 10) (n31 : w.2.2.1 31 = u.2.2.1 31) (n35 : w.2.2.1 35 = u.2.2.1 35) : WX w := by
  unfold WX nm at *
  rw [e6, e8, e9, e11, e12, e13, e14, e19, e20, e21, e22, e23, e26, e27, e38, n2, n10, n31, n35]
  exact h
theorem CZ.next {N : Nat} {u : MU} (h : CZ N u) : CZ (N + 1) u := ⟨⟨h.1.1.next, h.1.F, h.1.Pa, h.1.X⟩, h.2⟩
theorem CZ.lose {N : Nat} {u : MU} (h : CZ N u) {v : Int32} : CZ (N + 1) (opLose u v).2.2 := by
  have a := h.1.1.lose (v := v)
  have b := WF.lose h.1.I h.1.F (v := v)
  unfold opLose at a b ⊢
  by_cases c1 : isDd u v = false
  · rw [if_pos c1]; exact h.next
  · rw [if_neg c1] at a b ⊢
    by_cases c2 : u.1 29 v.toNatClampNeg = 0
    · rw [if_pos c2]; exact h.next
    · rw [if_neg c2] at a b ⊢
      have r : ∀ k, k ≠ 28 → k ≠ 29 → (loseN (uI u 29 v.toNatClampNeg (u.1 29 v.toNatClampNeg - 1)) v.toNatClampNeg ((u.1 29 v.toNatClampNeg).toNatClampNeg - 1)).1 k = u.1 k := fun k h1 h2 => by
        exact (funext fun j => loseN_r h1).trans (uI_k h2)
      have n : (loseN (uI u 29 v.toNatClampNeg (u.1 29 v.toNatClampNeg - 1)) v.toNatClampNeg ((u.1 29 v.toNatClampNeg).toNatClampNeg - 1)).2.2 = u.2.2 := by rw [loseN_N]; rfl
      dsimp only at a b ⊢
      have pa : WPa (loseN (uI u 29 v.toNatClampNeg (u.1 29 v.toNatClampNeg - 1)) v.toNatClampNeg ((u.1 29 v.toNatClampNeg).toNatClampNeg - 1)) := by
        unfold WPa
        rw [r 7 (by decide) (by decide), r 8 (by decide) (by decide)]
        exact h.1.Pa
      refine ⟨⟨a, b, pa, h.1.X.fr (r 6 (by decide) (by decide)) (r 8 (by decide) (by decide)) (r 9 (by decide) (by decide)) (r 11 (by decide) (by decide)) (r 12 (by decide) (by decide)) (r 13 (by decide) (by decide)) (r 14 (by decide) (by decide)) (r 19 (by decide) (by decide)) (r 20 (by decide) (by decide)) (r 21 (by decide) (by decide)) (r 22 (by decide) (by decide)) (r 23 (by decide) (by decide)) (r 26 (by decide) (by decide)) (r 27 (by decide) (by decide)) (r 38 (by decide) (by decide)) (by rw [n]) (by rw [n]) (by rw [n]) (by rw [n])⟩, h.2.fr (r 7 (by decide) (by decide)) (r 8 (by decide) (by decide))⟩
