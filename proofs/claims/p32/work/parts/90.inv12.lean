/-! the class's invariants, kept by the calls: the others -/
theorem isP_nf {u : MU} {v : Int32} (h : ¬ isP u v = false) : isP u v = true := by
  cases q : isP u v with
  | true => rfl
  | false => exact absurd q h
theorem isTh_nf {u : MU} {v : Int32} (h : ¬ isTh u v = false) : isTh u v = true := by
  cases q : isTh u v with
  | true => rfl
  | false => exact absurd q h
theorem CZ.start : CZ 0 u00 := by
  refine ⟨⟨Inv2.start, WF.start, fun p _ => ⟨0, by decide, rfl, fun k hk => absurd hk (Nat.not_lt_zero k), fun z => absurd z (by decide)⟩, ⟨fun p hp => absurd hp (Nat.not_lt_zero p), fun d hd => absurd hd (Nat.not_lt_zero d), fun d hd => absurd hd (Nat.not_lt_zero d), fun d hd => absurd hd (Nat.not_lt_zero d), fun _ _ _ => ⟨rfl, rfl⟩, fun _ _ _ => ⟨rfl, rfl, rfl, rfl⟩, fun e he => absurd he (Nat.not_lt_zero e), fun _ => Or.inl rfl, fun _ => ⟨0, by decide, rfl⟩, fun d _ hc => absurd rfl hc⟩⟩, fun p _ => rfl⟩
/-- the facts go over to a state with the same rows -/
theorem CZ.of {N M : Nat} {u w : MU} (h : CZ N u) (a : Inv2 M w) (e : ∀ k, k = 7 ∨ k = 8 ∨ k = 11 ∨ k = 12 ∨ k = 13 ∨ k = 14 ∨ k = 19 ∨ k = 20 ∨ k = 21 ∨ k = 22 ∨ k = 23 ∨ k = 26 ∨ k = 27 ∨ k = 28 ∨ k = 29 → w.1 k = u.1 k) (n2 : w.2.2.1 2 = u.2.2.1 2) (n10 : w.2.2.1 10 = u.2.2.1 10) (n31 : w.2.2.1 31 = u.2.2.1 31) (e6 : ∀ p, u.2.2.1 2 ≤ p → p < 12 → w.1 6 p = u.1 6 p) (e9 : ∀ p, p < u.2.2.1 2 → w.1 9 p = -1 ∨ w.1 9 p = u.1 9 p) (et : ∀ e, e < w.2.2.1 35 → ∃ t, t < u.2.2.1 31 ∧ w.1 38 e = nI t) : CZ M w := by
  obtain ⟨⟨-, hF, hPa, h1, h2, h3, h4, h5, h6, h7, h8, h9, h10⟩, hs⟩ := h
  have r7 := e 7 (by decide)
  have r8 := e 8 (by decide)
  have r11 := e 11 (by decide)
  have r12 := e 12 (by decide)
  have r13 := e 13 (by decide)
  have r14 := e 14 (by decide)
  have r19 := e 19 (by decide)
  have r20 := e 20 (by decide)
  have r21 := e 21 (by decide)
  have r22 := e 22 (by decide)
  have r23 := e 23 (by decide)
  have r26 := e 26 (by decide)
  have r27 := e 27 (by decide)
  refine ⟨⟨a, hF.fr r22 r23 (e 28 (by decide)) (e 29 (by decide)), ?_, ?_⟩, hs.fr r7 r8⟩
  · unfold WPa
    rw [r7, r8]
    exact hPa
  · unfold WX nm
    rw [r8, r11, r12, r13, r14, r19, r20, r21, r22, r23, r26, r27, n2, n10, n31]
    refine ⟨fun p hp => ?_, h2, h3, h4, fun p hp hp2 => ?_, h6, et, h8, h9, h10⟩
    · rcases e9 p hp with q | q
      · exact Or.inl q
      · rw [q]
        exact h1 p hp
    · rw [e6 p hp hp2]
      exact h5 p hp hp2
theorem CZ.witness {N : Nat} {u : MU} (h : CZ N u) {v w : Int32} : CZ N (opWitness u v w).2.2 := by
  have a := h.1.1.witness (v := v) (w := w)
  unfold opWitness at a ⊢
  by_cases c1 : isDd u v = false ∨ isP u w = false
  · rw [if_pos c1]; exact h
  · rw [if_neg c1] at a ⊢
    by_cases c2 : ¬ u.1 22 v.toNatClampNeg = 0 ∨ (u.1 21 v.toNatClampNeg >>> (w &&& 31)) &&& 1 = 1 ∨ (able u w.toNatClampNeg && (!decide (w = u.1 12 v.toNatClampNeg) && (!decide (w = u.1 13 v.toNatClampNeg) && (!isKin u w.toNatClampNeg (u.1 12 v.toNatClampNeg).toNatClampNeg && !isKin u w.toNatClampNeg (u.1 13 v.toNatClampNeg).toNatClampNeg)))) = false
    · rw [if_pos c2]; exact h
    · rw [if_neg c2] at a ⊢
      have hd := isD_of h.1 (fun z => c1 (Or.inl z))
      refine ⟨⟨a, h.1.F.fr rfl rfl rfl rfl, h.1.Pa, (h.1.X.r20 hd).r21 hd ?_⟩, h.2.fr rfl rfl⟩
      obtain ⟨p, hp, rfl⟩ := isP_of h.1.W (v := w) (isP_nf fun z => c1 (Or.inr z))
      have h12 := h.1.n2
      obtain ⟨b, hb, eb⟩ := h.1.wi v.toNatClampNeg
      refine ⟨b ||| 2 ^ p, Nat.or_lt_two_pow (n := 12) hb (Nat.pow_lt_pow_right (by decide) (by omega)), ?_⟩
      rw [eb, sh_one (by omega), nI_or]
theorem isChN_c {u w : MU} {p : Nat} {v : Int32} : ∀ m, (∀ k, k < m → w.1 7 (2 * p + k) = u.1 7 (2 * p + k)) → isChN w p v m = isChN u p v m
  | 0, _ => rfl
  | m + 1, h => by rw [isChN, isChN, isChN_c m (fun k hk => h k (by omega)), h m (by omega)]
theorem NSf.up {u : MU} (hP : WP u) (h : NSf u) {p q m : Nat} (hq : q < 12) (hp : p < 12) (hm : m ≤ 1) (e : u.1 8 q = nI m) (hpq : ¬ p = q) : NSf (upPar u q (nI p)) := by
  intro r hr
  have e7 : ∀ j, (upPar u q (nI p)).1 7 j = if j = 2 * q + m then nI p else u.1 7 j := fun j => by
    unfold upPar
    rw [uI_ne (by omega), e, nI_clamp (by omega)]
    by_cases h : j = 2 * q + m
    · rw [if_pos h, h, uI_at]
    · rw [if_neg h, uI_ne (by omega)]
  have h0 := h r hr
  unfold isCh at h0 ⊢
  by_cases hrq : r = q
  · subst hrq
    have e8 : (upPar u r (nI p)).1 8 r = nI (m + 1) := by unfold upPar; rw [uI_at, e, nI_1]
    rw [e, nI_clamp (by omega)] at h0
    rw [e8, nI_clamp (by omega), isChN, isChN_c (u := u) m (fun k hk => by rw [e7, if_neg (by omega)]), h0, e7, if_pos rfl]
    simp only [Bool.false_or, decide_eq_false_iff_not]
    exact fun z => hpq ((nI_eq (by omega) (by omega)).mp z)
  · obtain ⟨m', hm', e'⟩ := hP r hr
    have e8 : (upPar u q (nI p)).1 8 r = u.1 8 r := by unfold upPar; rw [uI_ne (by omega), uI_ne (by omega)]
    rw [e8]
    rw [e', nI_clamp (by omega)] at h0 ⊢
    rw [isChN_c (u := u) m' (fun k hk => by rw [e7, if_neg (by omega)])]
    exact h0
theorem CZ.child {N : Nat} {u : MU} (h : CZ N u) {v w : Int32} : CZ N (opChild u v w).2.2 := by
  have a := h.1.1.child (v := v) (w := w)
  unfold opChild at a ⊢
  by_cases c1 : isP u v = false ∨ isP u w = false
  · rw [if_pos c1]; exact h
  · rw [if_neg c1] at a ⊢
    by_cases c2 : w ≤ v
    · rw [if_pos c2]; exact h
    · rw [if_neg c2] at a ⊢
      by_cases c3 : u.1 8 w.toNatClampNeg = 2 ∨ isCh u w.toNatClampNeg v = true ∨ ¬ u.1 6 w.toNatClampNeg = 0 ∨ ¬ u.1 6 v.toNatClampNeg = 0
      · rw [if_pos c3]; exact h
      · rw [if_neg c3] at a ⊢
        obtain ⟨p, hp, rfl⟩ := isP_of h.1.W (v := v) (isP_nf fun z => c1 (Or.inl z))
        obtain ⟨q, hq, rfl⟩ := isP_of h.1.W (v := w) (isP_nf fun z => c1 (Or.inr z))
        have h12 := h.1.n2
        have kq : (nI q).toNatClampNeg = q := nI_clamp (by omega)
        rw [kq] at c3 a ⊢
        obtain ⟨m, hm, em⟩ := h.1.P q (by omega)
        have hm1 : m ≤ 1 := Nat.le_of_not_lt fun z => c3 (Or.inl (by rw [em, show m = 2 by omega]; rfl))
        have hc : isCh u q (nI p) = false := by
          cases z : isCh u q (nI p) with
          | false => rfl
          | true => exact absurd (Or.inr (Or.inl z)) c3
        have hpq : ¬ p = q := fun z => c2 (by rw [z]; exact Int32.le_refl _)
        refine ⟨⟨a, h.1.F.fr rfl rfl rfl rfl, WPa.up h.1.Pa (by omega) (by omega) hm1 em hc, ?_⟩, NSf.up h.1.P h.2 (by omega) (by omega) hm1 em hpq⟩
        obtain ⟨h1, h2, h3, h4, h5, h6, h7, h8, h9, h10⟩ := h.1.X
        refine ⟨h1, h2, h3, h4, fun r hr hr2 => ?_, h6, h7, h8, h9, h10⟩
        have hr3 : u.2.2.1 2 ≤ r := hr
        obtain ⟨x, y⟩ := h5 r hr3 hr2
        refine ⟨x, ?_⟩
        rw [uI_ne (fun z => by omega), uI_ne (fun z => by omega)]
        exact y
theorem CZ.thing {N : Nat} {u : MU} (h : CZ N u) {v w : Int32} : CZ N (opThing u v w).2.2 := by
  have a := h.1.1.thing (v := v) (w := w)
  unfold opThing at a ⊢
  by_cases c1 : isP u v = false
  · rw [if_pos c1]; exact h
  · rw [if_neg c1] at a ⊢
    by_cases c2 : inB w 1 1000000 = false
    · rw [if_pos c2]; exact h
    · rw [if_neg c2] at a ⊢
      by_cases c3 : nI (u.2.2.1 31) = 8 ∨ ¬ u.1 6 v.toNatClampNeg = 0
      · rw [if_pos c3]; exact h
      · rw [if_neg c3] at a ⊢
        obtain ⟨W, hW⟩ : ∃ W, W = uN (upRow (uI u 32 (u.2.2.1 31) w) (u.2.2.1 31) v.toNatClampNeg 13) 31 (u.2.2.1 31 + 1) := ⟨_, rfl⟩
        have r : ∀ k, k ≠ 32 → W.1 k = u.1 k := fun k hk => by
          rw [hW]
          show (upRow (uI u 32 (u.2.2.1 31) w) (u.2.2.1 31) v.toNatClampNeg 13).1 k = _
          rw [upRow_I, uI_k hk]
        have n : ∀ k, k ≠ 31 → W.2.2.1 k = u.2.2.1 k := fun k hk => by
          rw [hW]
          show (if k = 31 then u.2.2.1 31 + 1 else (upRow (uI u 32 (u.2.2.1 31) w) (u.2.2.1 31) v.toNatClampNeg 13).2.2.1 k) = _
          rw [if_neg hk, upRow_N]
          rfl
        have n31 : W.2.2.1 31 = u.2.2.1 31 + 1 := by rw [hW]; exact uN_at
        dsimp only at a ⊢
        rw [← hW] at a ⊢
        refine ⟨⟨a, h.1.F.fr (r 22 (by decide)) (r 23 (by decide)) (r 28 (by decide)) (r 29 (by decide)), ?_, ?_⟩, h.2.fr (r 7 (by decide)) (r 8 (by decide))⟩
        · unfold WPa
          rw [r 7 (by decide), r 8 (by decide)]
          exact h.1.Pa
        · obtain ⟨h1, h2, h3, h4, h5, h6, h7, h8, h9, h10⟩ := h.1.X
          unfold WX nm
          rw [r 6 (by decide), r 8 (by decide), r 9 (by decide), r 11 (by decide), r 12 (by decide), r 13 (by decide), r 14 (by decide), r 19 (by decide), r 20 (by decide), r 21 (by decide), r 22 (by decide), r 23 (by decide), r 26 (by decide), r 27 (by decide), r 38 (by decide), n 2 (by decide), n 10 (by decide), n 35 (by decide), n31]
          refine ⟨h1, h2, fun d hd => ?_, h4, h5, h6, fun e he => ?_, h8, h9, h10⟩
          · obtain ⟨x, y, z⟩ := h3 d hd
            refine ⟨x, ?_, z⟩
            rcases y with q | ⟨t, ht, q⟩
            · exact Or.inl q
            · exact Or.inr ⟨t, by omega, q⟩
          · obtain ⟨t, ht, q⟩ := h7 e he
            exact ⟨t, by omega, q⟩
/-- a new deed -/
theorem CZ.deed {N : Nat} {u w : MU} (h : CZ N u) (a : Inv2 N w) (n10 : w.2.2.1 10 = u.2.2.1 10 + 1) (n2 : w.2.2.1 2 = u.2.2.1 2) (n31 : w.2.2.1 31 = u.2.2.1 31) (n35 : w.2.2.1 35 = u.2.2.1 35) (e : ∀ k, k = 6 ∨ k = 7 ∨ k = 8 ∨ k = 9 ∨ k = 20 ∨ k = 21 ∨ k = 22 ∨ k = 23 ∨ k = 26 ∨ k = 27 ∨ k = 28 ∨ k = 29 ∨ k = 38 → w.1 k = u.1 k) (e' : ∀ k, k = 11 ∨ k = 12 ∨ k = 13 ∨ k = 14 ∨ k = 19 → ∀ d, ¬ d = u.2.2.1 10 → w.1 k d = u.1 k d)
    (g1 : ∃ a, a < u.2.2.1 2 ∧ w.1 12 (u.2.2.1 10) = nI a) (g2 : ∃ a, a < u.2.2.1 2 ∧ w.1 13 (u.2.2.1 10) = nI a) (k4 : ∃ k, k ≤ 4 ∧ w.1 11 (u.2.2.1 10) = nI k) (t14 : w.1 14 (u.2.2.1 10) = -1 ∨ ∃ t, t < u.2.2.1 31 ∧ w.1 14 (u.2.2.1 10) = nI t) (t4 : w.1 11 (u.2.2.1 10) = 4 → w.1 14 (u.2.2.1 10) = -1) (s19 : w.1 19 (u.2.2.1 10) = -1) : CZ N w := by
  obtain ⟨⟨-, hF, hPa, h1, h2, h3, h4, h5, h6, h7, h8, h9, h10⟩, hs⟩ := h
  have r7 := e 7 (by decide)
  have r8 := e 8 (by decide)
  have r22 := e 22 (by decide)
  have r23 := e 23 (by decide)
  refine ⟨⟨a, hF.fr r22 r23 (e 28 (by decide)) (e 29 (by decide)), ?_, ?_⟩, hs.fr r7 r8⟩
  · unfold WPa
    rw [r7, r8]
    exact hPa
  · unfold WX nm
    rw [e 6 (by decide), r8, e 9 (by decide), e 20 (by decide), e 21 (by decide), r22, r23, e 26 (by decide), e 27 (by decide), e 38 (by decide), n2, n10, n31, n35]
    refine ⟨h1, fun d hd => ?_, fun d hd => ?_, fun d hd => ?_, h5, fun d hd hd2 => h6 d (by omega) hd2, h7, h8, h9, h10⟩
    · by_cases z : d = u.2.2.1 10
      · rw [z]; exact ⟨g1, g2⟩
      · rw [e' 12 (by decide) d z, e' 13 (by decide) d z]; exact h2 d (by omega)
    · by_cases z : d = u.2.2.1 10
      · rw [z]; exact ⟨k4, t14, t4⟩
      · rw [e' 11 (by decide) d z, e' 14 (by decide) d z]; exact h3 d (by omega)
    · by_cases z : d = u.2.2.1 10
      · rw [z]; exact Or.inl s19
      · rw [e' 19 (by decide) d z]
        rcases h4 d (by omega) with q | ⟨b, hb, q⟩
        · exact Or.inl q
        · exact Or.inr ⟨b, by omega, q⟩
theorem CZ.draft {N : Nat} {u : MU} (h : CZ N u) {s a b t x y : Int32} : CZ N (opDraft u s a b t x y).2.2 := by
  have q := h.1.1.draft (s := s) (a := a) (b := b) (t := t) (x := x) (y := y)
  unfold opDraft at q ⊢
  by_cases c1 : isP u a = false ∨ isP u b = false ∨ isTh u t = false
  · rw [if_pos c1]; exact h
  · rw [if_neg c1] at q ⊢
    by_cases c2 : inB s 0 2 = false ∨ inB y 1 100 = false ∨ inB x 1 y = false ∨ a = b
    · rw [if_pos c2]; exact h
    · rw [if_neg c2] at q ⊢
      by_cases c3 : hasRoom u a.toNatClampNeg b.toNatClampNeg = false
      · rw [if_pos c3]; exact h
      · rw [if_neg c3] at q ⊢
        have pa := isP_of h.1.W (v := a) (isP_nf fun z => c1 (Or.inl z))
        have pb := isP_of h.1.W (v := b) (isP_nf fun z => c1 (Or.inr (Or.inl z)))
        have pt := isTh_of h.1.W (v := t) (isTh_nf fun z => c1 (Or.inr (Or.inr z)))
        have ps : s = 0 ∨ s = 1 ∨ s = 2 := ofT_iff.mp (by
          cases z : inB s 0 2 with
          | true => rfl
          | false => exact absurd (Or.inl z) c2)
        refine h.deed q uN_at rfl rfl rfl (fun k hk => by rcases hk with rfl | rfl | rfl | rfl | rfl | rfl | rfl | rfl | rfl | rfl | rfl | rfl | rfl <;> rfl) (fun k hk d hd => by rcases hk with rfl | rfl | rfl | rfl | rfl <;> simp [upDrafts, uN, uI, upd, hd]) ?_ ?_ ?_ ?_ ?_ ?_
        · simpa [upDrafts, uN, uI, upd] using pa
        · simpa [upDrafts, uN, uI, upd] using pb
        · have e : (upDrafts (uI (uI (uI u 14 (u.2.2.1 10) t) 15 (u.2.2.1 10) x) 16 (u.2.2.1 10) y) s a b).1 11 (u.2.2.1 10) = s := by simp [upDrafts, uN, uI, upd]
          rw [e]
          rcases ps with z | z | z
          · exact ⟨0, by decide, z⟩
          · exact ⟨1, by decide, z⟩
          · exact ⟨2, by decide, z⟩
        · right
          simpa [upDrafts, uN, uI, upd] using pt
        · have e : (upDrafts (uI (uI (uI u 14 (u.2.2.1 10) t) 15 (u.2.2.1 10) x) 16 (u.2.2.1 10) y) s a b).1 11 (u.2.2.1 10) = s := by simp [upDrafts, uN, uI, upd]
          rw [e]
          intro z
          subst z
          rcases ps with z | z | z <;> exact absurd z (by decide)
        · simp [upDrafts, uN, uI, upd]
theorem CZ.power {N : Nat} {u : MU} (h : CZ N u) {a b t d : Int32} {on : Bool} : CZ N (opPower u a b t d on).2.2 := by
  have q := h.1.1.power (a := a) (b := b) (t := t) (d := d) (on := on)
  unfold opPower at q ⊢
  by_cases c1 : isP u a = false ∨ isP u b = false ∨ (¬ t = -1 ∧ isTh u t = false)
  · rw [if_pos c1]; exact h
  · rw [if_neg c1] at q ⊢
    by_cases c2 : inB d 1 1000 = false ∨ a = b
    · rw [if_pos c2]; exact h
    · rw [if_neg c2] at q ⊢
      by_cases c3 : hasRoom u a.toNatClampNeg b.toNatClampNeg = false
      · rw [if_pos c3]; exact h
      · rw [if_neg c3] at q ⊢
        have pa := isP_of h.1.W (v := a) (isP_nf fun z => c1 (Or.inl z))
        have pb := isP_of h.1.W (v := b) (isP_nf fun z => c1 (Or.inr (Or.inl z)))
        have pt : t = -1 ∨ ∃ j, j < u.2.2.1 31 ∧ t = nI j := by
          by_cases z : t = -1
          · exact Or.inl z
          · exact Or.inr (isTh_of h.1.W (v := t) (isTh_nf fun y => c1 (Or.inr (Or.inr ⟨z, y⟩))))
        refine h.deed q uN_at rfl rfl rfl (fun k hk => by rcases hk with rfl | rfl | rfl | rfl | rfl | rfl | rfl | rfl | rfl | rfl | rfl | rfl | rfl <;> rfl) (fun k hk d hd => by rcases hk with rfl | rfl | rfl | rfl | rfl <;> simp [upDrafts, uN, uI, upd, hd]) ?_ ?_ ?_ ?_ ?_ ?_
        · simpa [upDrafts, uN, uI, upd] using pa
        · simpa [upDrafts, uN, uI, upd] using pb
        · refine ⟨3, by decide, ?_⟩
          simp [upDrafts, uN, uI, upd]
          rfl
        · simpa [upDrafts, uN, uI, upd] using pt
        · intro z
          have e : (upDrafts (uI (uI (uI u 14 (u.2.2.1 10) t) 17 (u.2.2.1 10) (u.2.2.2.1 + d)) 18 (u.2.2.1 10) (b2i on)) 3 a b).1 11 (u.2.2.1 10) = 3 := by simp [upDrafts, uN, uI, upd]
          rw [e] at z
          exact absurd z (by decide)
        · simp [upDrafts, uN, uI, upd]
theorem CZ.will {N : Nat} {u : MU} (h : CZ N u) {a b x y : Int32} : CZ N (opWill u a b x y).2.2 := by
  have q := h.1.1.will (a := a) (b := b) (x := x) (y := y)
  unfold opWill at q ⊢
  by_cases c1 : isP u a = false ∨ isP u b = false
  · rw [if_pos c1]; exact h
  · rw [if_neg c1] at q ⊢
    by_cases c2 : inB y 1 100 = false ∨ inB x 1 y = false ∨ a = b
    · rw [if_pos c2]; exact h
    · rw [if_neg c2] at q ⊢
      by_cases c3 : hasRoom u a.toNatClampNeg b.toNatClampNeg = false
      · rw [if_pos c3]; exact h
      · rw [if_neg c3] at q ⊢
        have pa := isP_of h.1.W (v := a) (isP_nf fun z => c1 (Or.inl z))
        have pb := isP_of h.1.W (v := b) (isP_nf fun z => c1 (Or.inr z))
        refine h.deed q uN_at rfl rfl rfl (fun k hk => by rcases hk with rfl | rfl | rfl | rfl | rfl | rfl | rfl | rfl | rfl | rfl | rfl | rfl | rfl <;> rfl) (fun k hk d hd => by rcases hk with rfl | rfl | rfl | rfl | rfl <;> simp [upDrafts, uN, uI, upd, hd]) ?_ ?_ ?_ ?_ ?_ ?_
        · simpa [upDrafts, uN, uI, upd] using pa
        · simpa [upDrafts, uN, uI, upd] using pb
        · refine ⟨4, by decide, ?_⟩
          simp [upDrafts, uN, uI, upd]
          rfl
        · left
          simp [upDrafts, uN, uI, upd]
        · intro _
          simp [upDrafts, uN, uI, upd]
        · simp [upDrafts, uN, uI, upd]
theorem CZ.enter {N : Nat} {u : MU} (h : CZ N u) {v : Int32} : CZ N (opEnter u v).2.2 := by
  have a := h.1.1.enter (v := v)
  unfold opEnter at a ⊢
  by_cases c1 : isDd u v = false
  · rw [if_pos c1]; exact h
  · rw [if_neg c1] at a ⊢
    have hd := isD_of h.1 c1
    by_cases c2 : (ent u v.toNatClampNeg).1 = false
    · rw [if_pos c2] at a ⊢
      have i1 : (ent u v.toNatClampNeg).2.1 = u.1 := ent_I
      have i2 : (ent u v.toNatClampNeg).2.2.2 = u.2.2 := ent_N
      dsimp only at a ⊢
      refine h.of a (fun k _ => by rw [i1]) (by rw [i2]) (by rw [i2]) (by rw [i2]) (fun p _ _ => by rw [i1]) (fun p _ => Or.inr (by rw [i1])) (fun e he => ?_)
      rw [i2] at he
      rw [i1]
      exact h.1.et he
    · rw [if_neg c2] at a ⊢
      dsimp only at a ⊢
      rw [ent_w] at a ⊢
      obtain ⟨X, hX⟩ : ∃ X, X = uJJ (uT (uI u 25 v.toNatClampNeg (nI (u.2.2.1 35))) (u.2.2.2.2 + lN (worth u v.toNatClampNeg / dutyPart u v.toNatClampNeg))) (tak (ent u v.toNatClampNeg).2).2.1 := ⟨_, rfl⟩
      have x1 : ∀ k, k ≠ 25 → X.1 k = u.1 k := fun k hk => by rw [hX]; exact uI_k hk
      have x2 : X.2.2.1 = u.2.2.1 := by rw [hX]; rfl
      rw [← hX] at a ⊢
      have n35 : ∀ {s w t : Int32}, (upComes X s w t).2.2.1 35 = u.2.2.1 35 + 1 := by rw [← x2]; exact uN_at
      have nn : ∀ {s w t : Int32} {k : Nat}, k ≠ 35 → (upComes X s w t).2.2.1 k = u.2.2.1 k := fun hk => by rw [← x2]; exact if_neg hk
      refine h.of a (fun k hk => ?_) (nn (by decide)) (nn (by decide)) (nn (by decide)) (fun p _ _ => by rw [upC_o (by decide), x1 6 (by decide)]) (fun p _ => Or.inr (by rw [upC_o (by decide), x1 9 (by decide)])) (fun e he => ?_)
      · rw [upC_o (by omega), x1 k (by omega)]
      · rw [n35] at he
        obtain ⟨f1, f2⟩ := upC_38 (X := X) (s := u.1 11 v.toNatClampNeg) (w := v) (t := u.1 14 v.toNatClampNeg)
        rw [x2] at f1 f2
        by_cases z : e = u.2.2.1 35
        · rw [z, f2]
          rcases h.1.th hd with q | q
          · exact absurd (ent_null h.1 hd q) c2
          · exact q
        · rw [f1 e (by omega), x1 38 (by decide)]
          exact h.1.et (by omega)
theorem CZ.die {N : Nat} {u : MU} (h : CZ N u) {v : Int32} : CZ N (opDie u v).2.2 := by
  have a := h.1.1.die (v := v)
  unfold opDie at a ⊢
  by_cases c1 : isP u v = false
  · rw [if_pos c1]; exact h
  · rw [if_neg c1] at a ⊢
    by_cases c2 : ¬ u.1 6 v.toNatClampNeg = 0
    · rw [if_pos c2]; exact h
    · rw [if_neg c2] at a ⊢
      by_cases c3 : (dieN u v.toNatClampNeg (u.2.2.1 31)).1 = false ∨ 100 < u.2.2.1 35 + dieC u v.toNatClampNeg (u.2.2.1 31)
      · rw [if_pos c3] at a ⊢
        have i1 : (dieN u v.toNatClampNeg (u.2.2.1 31)).2.1 = u.1 := dieN_I
        have i2 : (dieN u v.toNatClampNeg (u.2.2.1 31)).2.2.2 = u.2.2 := dieN_N
        dsimp only at a ⊢
        refine h.of a (fun k _ => by rw [i1]) (by rw [i2]) (by rw [i2]) (by rw [i2]) (fun p _ _ => by rw [i1]) (fun p _ => Or.inr (by rw [i1])) (fun e he => ?_)
        rw [i2] at he
        rw [i1]
        exact h.1.et he
      · rw [if_neg c3] at a ⊢
        dsimp only at a ⊢
        rw [die_w] at a ⊢
        obtain ⟨p, hp, ep⟩ := isP_of h.1.W (v := v) (isP_nf c1)
        have h12 := h.1.n2
        have kp : v.toNatClampNeg = p := by rw [ep, nI_clamp (by omega)]
        rw [kp] at a ⊢
        refine h.of a (fun k hk => XX_r (by omega)) (XX_n (by decide)) (XX_n (by decide)) (XX_n (by decide)) (fun q hq _ => ?_) (fun q _ => XX_9) (XX_et (fun e he => h.1.et he) (Nat.le_refl _))
        show (dieE (U9 u p) p (u.2.2.1 31)).1 6 q = _
        rw [dieE_k (by decide) (by decide) (by decide) (by decide)]
        show (dieG (uI u 6 p 1) p (u.2.2.1 2)).1 6 q = _
        rw [dieG_k (by decide), uI_ne (by omega)]
