/-! a death: the law's rows and the class's state behind it -/
section DIS
variable {L : ZU} {u : MU} {N : Nat}
theorem pos_row (hZ : CZ N u) (h : ZR L u) {t x0 : Nat} (ht : t < 2) (hx : x0 < 6) : 0 < u.2.1 33 (13 * t + x0) ↔ 0 < L.2 (7 * t + x0) := by
  obtain ⟨hF, hAB, hB6, e33, -⟩ := h.ff hZ ht (k := x0) (by omega)
  rw [kk_6 hx] at hF hAB hB6 e33
  rw [e33, show (0 : Int64) = lN 0 from rfl, pk_lLT (by decide) (by omega)]
  have hp := PARTS_pos
  constructor
  · intro q
    rcases Nat.eq_zero_or_pos (L.2 (7 * t + x0)) with z | z
    · have := hF.1
      rw [z, Nat.zero_mul] at this
      rcases Nat.mul_eq_zero.mp this.symm with y | y <;> omega
    · exact z
  · intro q
    rcases Nat.eq_zero_or_pos (vN (u.2.1 33 (13 * t + x0))) with z | z
    · have := hF.1
      have hB := hF.2.1
      rw [z, Nat.mul_zero] at this
      rcases Nat.mul_eq_zero.mp this with y | y <;> omega
    · exact z
theorem r_dT (hZ : CZ N u) (h : ZR L u) (hK : ZKu u) {x0 : Nat} (hx : x0 < 6) (t : Nat) (ht : t ≤ 2) : DP L u t (dieN u x0 t).2 (n_dT L x0 (n_dc L x0) (n_dCh L x0 6) (n_dies_138_s0 L x0) (n_dM (n_dies_138_s0 L x0) 6) t).1 ∧ (dieN u x0 t).1 = (n_dT L x0 (n_dc L x0) (n_dCh L x0 6) (n_dies_138_s0 L x0) (n_dM (n_dies_138_s0 L x0) 6) t).2.1 ∧ dieC u x0 t = (n_dT L x0 (n_dc L x0) (n_dCh L x0 6) (n_dies_138_s0 L x0) (n_dM (n_dies_138_s0 L x0) 6) t).2.2 := by
  induction t with
  | zero => exact ⟨DP.z, rfl, rfl⟩
  | succ t ih =>
    obtain ⟨i1, i2, i3⟩ := ih (by omega)
    have hpos := pos_row hZ h (t := t) (by omega) hx
    have hM0 := i1.2.2.2.2.2.1 (7 * t + x0) (by omega)
    rw [dieN, dieC, n_dT, n_dT1, hM0]
    by_cases c : 0 < L.2 (7 * t + x0)
    · rw [if_pos (hpos.mpr c), if_pos (hpos.mpr c), if_pos c]
      obtain ⟨s1, s2⟩ := die_step hZ h hK hx (by omega) c i1 (dieN u x0 t).1
      exact ⟨s1, by rw [s2, i2], by rw [i3]⟩
    · rw [if_neg (fun q => c (hpos.mp q)), if_neg (fun q => c (hpos.mp q)), if_neg c]
      exact ⟨i1.skip h (by omega), i2, i3⟩
theorem n_dR_v {M : ZU} (k : Nat) (hk : k ≤ 14) (i : Nat) : (n_dR L M k).2 i = if i < k then L.2 i else M.2 i := by
  induction k with
  | zero => rw [n_dR, if_neg (Nat.not_lt_zero i)]
  | succ k ih =>
    rw [n_dR, zJ_a]
    by_cases z : i = k
    · subst z
      rw [if_pos rfl, if_pos (Nat.lt_succ_self i)]
      exact if_pos (by omega)
    · rw [if_neg z, ih (by omega)]
      by_cases y : i < k
      · rw [if_pos y, if_pos (by omega)]
      · rw [if_neg y, if_neg (by omega)]
theorem n_dR_1 {M : ZU} (k : Nat) : (n_dR L M k).1 = M.1 := by
  induction k with
  | zero => rfl
  | succ k ih => rw [n_dR, zJ_1, ih]
/-- the entries of a death -/
theorem r_dHn (hZ : CZ N u) (h : ZR L u) (hn3 : ¬ 25 < L.1 10 3) {x0 : Nat} (hx : x0 < 6) {v : MU} {M : ZU} (hv33 : v.2.1 33 = u.2.1 33) (hM : M.1 = L.1) (h1 : ZR M (tak v)) (t : Nat) (ht : t ≤ 2) : ZR (n_dHn L x0 M t) (tak (dieE v x0 t)) ∧ (n_dHn L x0 M t).1 10 3 ≤ L.1 10 3 + t ∧ (∀ j, j ≠ 3 → (n_dHn L x0 M t).1 10 j = L.1 10 j) := by
  induction t with
  | zero => exact ⟨h1, by rw [n_dHn, hM]; exact Nat.le_refl _, fun j _ => by rw [n_dHn, hM]⟩
  | succ t ih =>
    obtain ⟨i1, i2, i3⟩ := ih (by omega)
    have hpos := pos_row hZ h (t := t) (by omega) hx
    have eW : n_dW L (7 * t + x0) = L.2 (7 * t + x0) := if_pos (by omega)
    rw [n_dHn, dieE, hv33, eW]
    by_cases c : 0 < L.2 (7 * t + x0)
    · rw [if_pos c, if_pos (hpos.mpr c)]
      refine ⟨?_, by rw [zI_s]; omega, fun j hj => ?_⟩
      · have e : tak (upComes (dieE v x0 t) 5 (nI x0) (nI t)) = upComes (tak (dieE v x0 t)) 5 (nI x0) (nI t) := rfl
        rw [e]
        exact i1.entry (by omega) (by omega) (by rw [show (5 : Int32) = nI 5 from rfl]; exact congrArg nI (by omega)) (congrArg nI (by omega)) (congrArg nI (by omega))
      · rw [zI_n hj, zI_k (by decide)]
        exact i3 j hj
    · rw [if_neg c, if_neg (fun q => c (hpos.mp q))]
      exact ⟨i1, by omega, i3⟩
theorem n_dG_v {x0 : Nat} {M : ZU} (k : Nat) : (∀ a j, ¬ (a = 0 ∧ 32 ≤ j ∧ j < 32 + k) → (n_dG x0 M k).1 a j = M.1 a j) ∧ ∀ j, j < k → (n_dG x0 M k).1 0 (32 + j) = if M.1 0 (32 + j) = x0 + 1 then 0 else M.1 0 (32 + j) := by
  induction k with
  | zero => exact ⟨fun _ _ _ => rfl, fun j hj => absurd hj (Nat.not_lt_zero j)⟩
  | succ k ih =>
    rw [n_dG]
    refine ⟨fun a j q => ?_, fun j hj => ?_⟩
    · rw [zI_a, if_neg (fun z => q ⟨z.1, by omega⟩)]
      exact ih.1 a j (fun z => q ⟨z.1, by omega⟩)
    · by_cases z : j = k
      · subst z
        rw [zI_s, n_dies_658_s0, ih.1 0 (32 + j) (by omega)]
      · rw [zI_n (by omega)]
        exact ih.2 j (by omega)
theorem n_dG_2 {x0 : Nat} {M : ZU} (k : Nat) : (n_dG x0 M k).2 = M.2 := by
  induction k with
  | zero => rfl
  | succ k ih => rw [n_dG]; exact ih
theorem dieG_w {w : MU} {p : Nat} (k : Nat) : (∀ j, k ≤ j → (dieG w p k).1 9 j = w.1 9 j) ∧ ∀ j, j < k → (dieG w p k).1 9 j = if w.1 9 j = nI p then -1 else w.1 9 j := by
  induction k with
  | zero => exact ⟨fun _ _ => rfl, fun j hj => absurd hj (Nat.not_lt_zero j)⟩
  | succ k ih =>
    rw [dieG]
    refine ⟨fun j hj => ?_, fun j hj => ?_⟩
    · rw [uI_ne (by omega)]
      exact ih.1 j (by omega)
    · by_cases z : j = k
      · subst z
        rw [uI_at, ih.1 j (Nat.le_refl _)]
      · rw [uI_ne (by omega)]
        exact ih.2 j (by omega)
/-- the dead one, and whom it guarded -/
theorem r_dG (h : ZR L u) {x0 : Nat} (hx : x0 < 6) : ZR (n_dG x0 (zI L 0 (16 + x0) 1) 6) (dieG (uI u 6 x0 1) x0 6) := by
  have g := n_dG_v (x0 := x0) (M := zI L 0 (16 + x0) 1) 6
  have d := dieG_w (w := uI u 6 x0 1) (p := x0) 6
  have e9 : ∀ j, (uI u 6 x0 1).1 9 j = u.1 9 j := fun j => uI_ne (by omega)
  have gB : ZB (n_dG x0 (zI L 0 (16 + x0) 1) 6) := fun a j => by
    by_cases z : a = 0 ∧ 32 ≤ j ∧ j < 32 + 6
    · obtain ⟨rfl, z1, z2⟩ := z
      have := g.2 (j - 32) (by omega)
      rw [show 32 + (j - 32) = j by omega] at this
      rw [this, zI_n (by omega)]
      have b := h.B 0 j
      split <;> omega
    · rw [g.1 a j z]
      exact h.B.set (by decide) a j
  refine h.pers gB (fun k j hk => by rw [g.1 k j (by omega), zI_k hk]) (by rw [n_dG_2]; rfl) (fun k hk => by rw [dieG_k (by omega), uI_k (by omega)]) (by rw [dieG_2]; rfl) (fun p hp => ?_)
  obtain ⟨⟨a1, a2, a3⟩, ⟨b1, b2⟩, ⟨c1, c2⟩, ⟨d1, d2⟩, f1, f2, f3⟩ := h.p hp
  have gL : ∀ j, ¬ (32 ≤ j ∧ j < 38) → j ≠ 16 + x0 → (n_dG x0 (zI L 0 (16 + x0) 1) 6).1 0 j = L.1 0 j := fun j q1 q2 => by rw [g.1 0 j (by omega), zI_n q2]
  have gu : ∀ k, k ≠ 9 → k ≠ 6 → (dieG (uI u 6 x0 1) x0 6).1 k = u.1 k := fun k q1 q2 => by rw [dieG_k q1, uI_k q2]
  have gp := g.2 p hp
  have dp := d.2 p hp
  rw [zI_n (by omega)] at gp
  rw [e9] at dp
  refine ⟨⟨by rw [gu 3 (by decide) (by decide)]; exact a1, by rw [gu 4 (by decide) (by decide)]; exact a2, by rw [gL p (by omega) (by omega)]; exact a3⟩, ⟨by rw [gL (8 + p) (by omega) (by omega)]; exact b1, by rw [gu 5 (by decide) (by decide), gL (8 + p) (by omega) (by omega)]; exact b2⟩, ?_, ?_, by rw [gL (24 + p) (by omega) (by omega)]; exact f1, by rw [gu 8 (by decide) (by decide), gL (24 + p) (by omega) (by omega)]; exact f2, fun q hq => ?_⟩
  · rw [dieG_k (by decide), g.1 0 (16 + p) (by omega)]
    by_cases z : p = x0
    · subst z
      rw [zI_s, uI_at]
      exact ⟨by decide, rfl⟩
    · rw [zI_n (by omega), uI_ne (by omega)]
      exact ⟨c1, c2⟩
  · rw [gp, dp, d2]
    by_cases z : L.1 0 (32 + p) = x0 + 1
    · rw [if_pos z, if_pos ((nIme (by omega) (by omega)).mpr z)]
      exact ⟨by decide, by decide⟩
    · rw [if_neg z, if_neg (fun y => z ((nIme (by omega) (by omega)).mp y))]
      exact ⟨d1, rfl⟩
  · rw [isCh_78 (gu 7 (by decide) (by decide)) (gu 8 (by decide) (by decide)), gL (24 + p) (by omega) (by omega)]
    exact f3 q hq
theorem ZKu.die (h : ZKu u) {v : Int32} : ZKu (opDie u v).2.2 := by
  unfold opDie
  split
  · exact h
  · split
    · exact h
    · split
      · exact h.eq (by rw [dieN_I]) (by rw [dieN_I])
      · have e : ∀ a, a ≠ 9 → a ≠ 6 → a ≠ 36 → a ≠ 37 → a ≠ 38 → a ≠ 39 → (dieG (uI (tak (dieE (dieN u v.toNatClampNeg (u.2.2.1 31)).2 v.toNatClampNeg (u.2.2.1 31))) 6 v.toNatClampNeg 1) v.toNatClampNeg (u.2.2.1 2)).1 a = u.1 a := fun a h9 h6 h36 h37 h38 h39 => by
          rw [dieG_k h9, uI_k h6]
          show (dieE _ _ _).1 a = _
          rw [dieE_k h36 h37 h38 h39, dieN_I]
        exact h.eq (e 7 (by decide) (by decide) (by decide) (by decide) (by decide) (by decide)) (e 8 (by decide) (by decide) (by decide) (by decide) (by decide) (by decide))
theorem r_die (hZ : CZ N u) (h : ZR L u) (hK : ZKu u) (hn3 : ¬ 25 < L.1 10 3) {x0 : Nat} (hx : x0 < 6) : ((opDie u (nI x0)).1 = 0 ∨ (opDie u (nI x0)).1 = 2) ∧ opr (opDie u (nI x0)) = (n_dies L x0).1 ∧ ZR (n_dies L x0).2 (opDie u (nI x0)).2.2 ∧ (n_dies L x0).2.1 10 0 = L.1 10 0 ∧ (n_dies L x0).2.1 10 4 = L.1 10 4 := by
  have hco : (nI x0).toNatClampNeg = x0 := nI_clamp (by omega)
  have hip : ¬ isP u (nI x0) = false := h.isp hZ hx
  have hdead := q_dead h hx
  have hd1 := (h.p hx).2.2.1.1
  by_cases c1 : L.1 0 (16 + x0) = 1
  · have e : opDie u (nI x0) = (2, 0, u) := by rw [opDie, if_neg hip, hco, if_pos (fun z => by rw [hdead] at z; omega)]
    rw [e, n_dies, if_pos c1]
    exact ⟨Or.inr rfl, rfl, h, rfl, rfl⟩
  · obtain ⟨t1, t2, t3⟩ := r_dT hZ h hK hx 2 (Nat.le_refl _)
    rw [← show n_dS L x0 = n_dT L x0 (n_dc L x0) (n_dCh L x0 6) (n_dies_138_s0 L x0) (n_dM (n_dies_138_s0 L x0) 6) 2 from rfl] at t1 t2 t3
    have hm1 : (n_dS L x0).1.1 = L.1 := n_dT_1 2
    have hc2 := dieC_le (u := u) (p := x0) (m := 2)
    obtain ⟨p1, p2, p3, p4, p5, p6, p7, p8⟩ := t1
    have hlate : ∀ i, 14 ≤ i → (n_dS L x0).1.2 i = 0 := fun i hi => by rw [p6 i (by omega)]; exact h.o hi
    have e0 : opDie u (nI x0) = if (dieN u x0 2).1 = false ∨ 100 < u.2.2.1 35 + dieC u x0 2 then (2, 0, (dieN u x0 2).2) else (0, nI (dieC u x0 2), dieG (uI (tak (dieE (dieN u x0 2).2 x0 2)) 6 x0 1) x0 6) := by
      rw [opDie, if_neg hip, hco, if_neg (fun z => z (hdead.mpr (by omega))), h.nt, h.np]
    rw [e0, n_dies, if_neg c1]
    by_cases c2 : (n_dS L x0).2.1 = true
    · rw [if_neg (by rw [t2, c2, h.ne.1]; rintro (q | q); cases q; omega), if_pos ⟨c2, by rw [hm1, ← t3]; omega⟩]
      have s1 : ZR (n_dS L x0).1 (tak (dieN u x0 2).2) := h.shares p1 p2 hm1 (fun t ht k hk => by
        have k13 := kk_13 hk
        rw [ZRs, tak_34 (by omega), tak_33 (by omega)]
        exact p8 t ht k hk) hlate
      obtain ⟨s2, s3, s4⟩ := r_dHn hZ h hn3 hx p3 hm1 s1 2 (Nat.le_refl _)
      have s5 := r_dG s2 hx
      refine ⟨Or.inl rfl, ?_, s5, ?_, ?_⟩
      · show nI (dieC u x0 2) = _
        rw [t3]
      · show (n_dG x0 (zI (n_dHn L x0 (n_dS L x0).1 2) 0 (16 + x0) 1) 6).1 10 0 = _
        rw [(n_dG_v 6).1 10 0 (by omega), zI_k (by decide)]
        exact s4 0 (by decide)
      · show (n_dG x0 (zI (n_dHn L x0 (n_dS L x0).1 2) 0 (16 + x0) 1) 6).1 10 4 = _
        rw [(n_dG_v 6).1 10 4 (by omega), zI_k (by decide)]
        exact s4 4 (by decide)
    · rw [Bool.not_eq_true] at c2
      rw [if_pos (Or.inl (t2.trans c2)), if_neg (fun q => by rw [c2] at q; cases q.1)]
      have eR : n_dR L (n_dS L x0).1 14 = L := Prod.ext ((n_dR_1 14).trans hm1) (funext fun i => by
        rw [n_dR_v 14 (Nat.le_refl _)]
        by_cases z : i < 14
        · rw [if_pos z]
        · rw [if_neg z, hlate i (by omega), h.o (by omega)])
      show ((2 : Int32) = 0 ∨ (2 : Int32) = 2) ∧ _ ∧ ZR (n_dR L (n_dS L x0).1 14) (dieN u x0 2).2 ∧ _ ∧ _
      rw [eR]
      exact ⟨Or.inr rfl, rfl, h.shares p1 p2 rfl (fun t ht k hk => by rw [ZRs, p3, p4]; exact h.s ht hk) (fun i hi => h.o hi), rfl, rfl⟩
end DIS
