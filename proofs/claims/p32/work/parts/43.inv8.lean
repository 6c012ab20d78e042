theorem dieN_H {N : Nat} {u : MU} {p : Nat} (h : Inv N u) (hQ : WQ u) (hp : p < 12) (m : Nat) (hm : m ≤ u.2.2.1 31) (ok : (dieN u p m).1 = true) :
    ∀ t, t < u.2.2.1 31 → ∃ f : Nat → Rat, (∀ k, k < 13 → HQ (dieN u p m).2 41 42 (13 * t + k) (f k) ∧ (f k).den ≤ 1000000) ∧ sumQ f 13 = 1 := by
  have h8 := h.W.2.2.2.1
  induction m with
  | zero =>
    intro t ht
    obtain ⟨f, hf, hs⟩ := hQ t ht
    exact ⟨f, fun k hk => ⟨lay_HQ (by omega) (hf k hk).1, (hf k hk).2⟩, hs⟩
  | succ m ih =>
    intro t ht
    rw [dieN] at ok ⊢
    by_cases hp0 : 0 < u.2.1 33 (13 * m + p)
    · rw [if_pos hp0] at ok ⊢
      have ok' : ((leaves (dieN u p m).2 p m).1 && (dieN u p m).1) = true := ok
      rw [Bool.and_eq_true] at ok'
      obtain ⟨f, hf, hs⟩ := ih (by omega) ok'.2 t ht
      have wI : (dieN u p m).2.1 = u.1 := dieN_I
      have wN : (dieN u p m).2.2.2 = u.2.2 := dieN_N
      by_cases e : t = m
      · subst e
        have hDw : WD (dieN u p t).2 := fun q hq => by rw [wI]; exact h.D q hq
        have hLw : WL (dieN u p t).2 := fun q hq => by rw [wI]; rw [wN] at hq; exact h.L q hq
        exact leaves_H hp (by rw [wN]; exact h.W.1) (by rw [wN]; exact h.W.2.1) hDw hLw hf hs ok'.1
      · refine ⟨f, fun k hk => ⟨?_, (hf k hk).2⟩, hs⟩
        show HQ (leaves (dieN u p m).2 p m).2 41 42 (13 * t + k) (f k)
        unfold HQ
        rw [leaves_n (by omega) (fun i hi => by omega), leaves_n (by omega) (fun i hi => by omega)]
        exact (hf k hk).1
    · rw [if_neg hp0] at ok ⊢
      exact ih (by omega) ok t ht
theorem dieE_k {u : MU} {p m a : Nat} (h1 : a ≠ 36) (h2 : a ≠ 37) (h3 : a ≠ 38) (h4 : a ≠ 39) : (dieE u p m).1 a = u.1 a := by
  induction m with
  | zero => rfl
  | succ m ih =>
    rw [dieE]
    split
    · unfold upComes
      rw [uN_I, uI_k h4, uI_k h3, uI_k h2, uI_k h1]
      exact ih
    · exact ih
theorem dieG_k {u : MU} {p m a : Nat} (h : a ≠ 9) : (dieG u p m).1 a = u.1 a := by
  induction m with
  | zero => rfl
  | succ m ih =>
    rw [dieG, uI_k h]
    exact ih
theorem dieG_2 {u : MU} {p m : Nat} : (dieG u p m).2 = u.2 := by
  induction m with
  | zero => rfl
  | succ m ih => exact ih
theorem Inv.die {N : Nat} {u : MU} (h : Inv N u) (hQ : WQ u) {v : Int32} : Inv N (opDie u v).2.2 ∧ WQ (opDie u v).2.2 := by
  unfold opDie
  split
  · exact ⟨h, hQ⟩
  · next h1 =>
    split
    · exact ⟨h, hQ⟩
    · obtain ⟨p, hp, rfl⟩ := isP_of h.W (nf_ h1)
      have h12 := h.W.1
      have h8 := h.W.2.2.2.1
      have hpc := clampI (n := p) (by omega)
      rw [hpc]
      have wI : (dieN u p (u.2.2.1 31)).2.1 = u.1 := dieN_I
      have wN : (dieN u p (u.2.2.1 31)).2.2.2 = u.2.2 := dieN_N
      have w33 : (dieN u p (u.2.2.1 31)).2.2.1 33 = u.2.1 33 := dieN_k (by decide) (by decide)
      have w34 : (dieN u p (u.2.2.1 31)).2.2.1 34 = u.2.1 34 := dieN_k (by decide) (by decide)
      split
      · have q : WQ (dieN u p (u.2.2.1 31)).2 := hQ.fr w33 w34 (by rw [wN])
        exact ⟨h.reg (fun a _ => by rw [wI]) (fun k _ => by rw [wN]) (by rw [wN]; exact h.W.2.2.2.2) q.s, q⟩
      · next hno =>
        have ok : (dieN u p (u.2.2.1 31)).1 = true := nf_ fun z => hno (Or.inl z)
        have hbig : ¬ 100 < u.2.2.1 35 + dieC u p (u.2.2.1 31) := fun z => hno (Or.inr z)
        have H := dieN_H h hQ (by omega) (u.2.2.1 31) (Nat.le_refl _) ok
        obtain ⟨E, hE⟩ : ∃ E, E = (dieN u p (u.2.2.1 31)).2 := ⟨_, rfl⟩
        show Inv N (dieG (uI (tak (dieE (dieN u p (u.2.2.1 31)).2 p (u.2.2.1 31))) 6 p 1) p (u.2.2.1 2)) ∧ WQ (dieG (uI (tak (dieE (dieN u p (u.2.2.1 31)).2 p (u.2.2.1 31))) 6 p 1) p (u.2.2.1 2))
        rw [← hE] at wI wN w33 H ⊢
        obtain ⟨F, hF⟩ : ∃ F, F = dieE E p (u.2.2.1 31) := ⟨_, rfl⟩
        have FJ : F.2.1 = E.2.1 := by rw [hF]; exact dieE_J
        have FN : ∀ k, k ≠ 35 → F.2.2.1 k = u.2.2.1 k := fun k hk => by rw [hF, dieE_N hk, wN]
        have F35 : F.2.2.1 35 = u.2.2.1 35 + dieC u p (u.2.2.1 31) := by rw [hF, dieE_35, dieC_I w33, wN]
        have FI : ∀ a, a ≠ 36 → a ≠ 37 → a ≠ 38 → a ≠ 39 → F.1 a = u.1 a := fun a a1 a2 a3 a4 => by rw [hF, dieE_k a1 a2 a3 a4, wI]
        rw [← hF]
        obtain ⟨G, hG⟩ : ∃ G, G = dieG (uI (tak F) 6 p 1) p (u.2.2.1 2) := ⟨_, rfl⟩
        have G2 : G.2 = (tak F).2 := by rw [hG]; exact dieG_2
        have GI : ∀ a, a ≠ 9 → a ≠ 6 → G.1 a = F.1 a := fun a a1 a2 => by
          rw [hG, dieG_k a1, uI_k a2]
          rfl
        have GN : ∀ k, G.2.2.1 k = F.2.2.1 k := fun k => by
          rw [G2]
          rfl
        rw [← hG]
        have q : WQ G := by
          intro t ht
          rw [GN, FN 31 (by decide)] at ht
          obtain ⟨f, hf, hs⟩ := H t ht
          refine ⟨f, fun k hk => ⟨?_, (hf k hk).2⟩, hs⟩
          have a1 : HQ F 41 42 (13 * t + k) (f k) := by
            unfold HQ
            rw [FJ]
            exact (hf k hk).1
          have a2 := tak_HQ (by omega) a1
          unfold HQ at a2 ⊢
          rw [G2]
          exact a2
        refine ⟨h.reg (fun a ha => ?_) (fun k hk => ?_) ?_ q.s, q⟩
        · rw [GI a (by omega) (by omega), FI a (by omega) (by omega) (by omega) (by omega)]
        · rw [GN, FN k hk]
        · rw [GN, F35]
          omega
