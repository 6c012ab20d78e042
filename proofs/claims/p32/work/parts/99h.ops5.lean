/-! drafts -/
section OPS
variable {L : ZU} {u : MU} {N : Nat}
theorem upD_n {w : MU} {s g t : Int32} {k j : Nat} (h : (k ≠ 11 ∧ k ≠ 12 ∧ k ≠ 13 ∧ k ≠ 19 ∧ k ≠ 24 ∧ k ≠ 25) ∨ j ≠ w.2.2.1 10) : (upDrafts w s g t).1 k j = w.1 k j := by
  show (uI (uI (uI (uI (uI (uI w 11 (w.2.2.1 10) s) 12 (w.2.2.1 10) g) 13 (w.2.2.1 10) t) 19 (w.2.2.1 10) (-1)) 24 (w.2.2.1 10) (-1)) 25 (w.2.2.1 10) (-1)).1 k j = _
  rw [uI_ne (by omega), uI_ne (by omega), uI_ne (by omega), uI_ne (by omega), uI_ne (by omega), uI_ne (by omega)]
theorem upD_a {w : MU} {s g t : Int32} : (upDrafts w s g t).1 11 (w.2.2.1 10) = s ∧ (upDrafts w s g t).1 12 (w.2.2.1 10) = g ∧ (upDrafts w s g t).1 13 (w.2.2.1 10) = t ∧ (upDrafts w s g t).1 19 (w.2.2.1 10) = -1 ∧ (upDrafts w s g t).1 24 (w.2.2.1 10) = -1 ∧ (upDrafts w s g t).1 25 (w.2.2.1 10) = -1 := by
  have e : (upDrafts w s g t).1 = (uI (uI (uI (uI (uI (uI w 11 (w.2.2.1 10) s) 12 (w.2.2.1 10) g) 13 (w.2.2.1 10) t) 19 (w.2.2.1 10) (-1)) 24 (w.2.2.1 10) (-1)) 25 (w.2.2.1 10) (-1)).1 := rfl
  rw [e]
  refine ⟨?_, ?_, ?_, ?_, ?_, ?_⟩
  · rw [uI_ne (by omega), uI_ne (by omega), uI_ne (by omega), uI_ne (by omega), uI_ne (by omega), uI_at]
  · rw [uI_ne (by omega), uI_ne (by omega), uI_ne (by omega), uI_ne (by omega), uI_at]
  · rw [uI_ne (by omega), uI_ne (by omega), uI_ne (by omega), uI_at]
  · rw [uI_ne (by omega), uI_ne (by omega), uI_at]
  · rw [uI_ne (by omega), uI_at]
  · exact uI_at
/-- a new deed -/
theorem ZR.draft (hZ : CZ N u) (h : ZR L u) (hlt : L.1 10 1 < 24) {kd g t A Bv : Nat} {w : MU} (hw : ∀ k j, (k < 14 ∨ 18 < k ∨ j ≠ L.1 10 1) → w.1 k j = u.1 k j) (hw2 : w.2 = u.2) (a1 : A % 8 = kd) (a2 : kd ≤ 4) (a3 : A / 8 % 8 = g) (a4 : A / 64 % 8 = t) (g6 : g < 6) (t6 : t < 6) (gt : g ≠ t) (aT : A / 512 ≤ 2) (h14 : w.1 14 (L.1 10 1) = nI (A / 512) - 1) (hth : kd ≤ 2 → 1 ≤ A / 512) (hsh : kd ≠ 3 → 1 ≤ Bv / 128 ∧ Bv / 128 ≤ Bv % 128 ∧ Bv % 128 ≤ 4 ∧ w.1 15 (L.1 10 1) = nI (Bv / 128) ∧ w.1 16 (L.1 10 1) = nI (Bv % 128)) (hen : kd = 3 → w.1 17 (L.1 10 1) = nI (Bv / 2) ∧ w.1 18 (L.1 10 1) = nI (Bv % 2)) (hB : Bv < 2 ^ 30) : ZR (zI (zI (zI L 1 (L.1 10 1) A) 2 (L.1 10 1) Bv) 10 1 (L.1 10 1 + 1)) (upDrafts w (nI kd) (nI g) (nI t)) := by
  have hnd := h.nd
  have wn : w.2.2.1 10 = L.1 10 1 := by rw [hw2]; exact hnd.1
  have A12 : A < 2048 := by omega
  have t0 : ∀ j, j ≠ 1 → (zI (zI (zI L 1 (L.1 10 1) A) 2 (L.1 10 1) Bv) 10 1 (L.1 10 1 + 1)).1 10 j = L.1 10 j := fun j hj => by rw [zI_n hj, zI_k (by decide), zI_k (by decide)]
  have t1 : (zI (zI (zI L 1 (L.1 10 1) A) 2 (L.1 10 1) Bv) 10 1 (L.1 10 1 + 1)).1 10 1 = L.1 10 1 + 1 := zI_s
  have un : ∀ k j, (k ≤ 9 ∨ 30 ≤ k ∨ j ≠ L.1 10 1) → (upDrafts w (nI kd) (nI g) (nI t)).1 k j = u.1 k j := fun k j q => by
    rw [upD_n (by rw [wn]; omega), hw k j (by omega)]
  refine ⟨((h.B.set (by omega)).set hB).set (by omega), ?_, fun p hp => (h.p hp).eq (fun j => by rw [zI_k (by decide), zI_k (by decide), zI_k (by decide)]) (fun k hk => funext fun j => un k j (Or.inl hk)), fun d hd => ?_, fun d q1 q2 => ?_, fun e he => ?_, ?_, fun q hq k hk => ?_, fun i hi => h.o hi⟩
  · unfold ZRn
    rw [t1, t0 0 (by decide), t0 2 (by decide), t0 3 (by decide), t0 4 (by decide)]
    have hn := h.n
    refine ⟨?_, ?_, ⟨?_, by omega⟩, ?_, ⟨?_, hn.2.2.2.2.1.2⟩, ?_, ?_⟩
    · show w.2.2.1 2 = 6; rw [hw2]; exact hn.1
    · show w.2.2.1 31 = 2; rw [hw2]; exact hn.2.1
    · show w.2.2.1 10 + 1 = _; rw [wn]
    · show w.2.2.1 30 = _; rw [hw2]; exact hn.2.2.2.1
    · show w.2.2.1 35 = _; rw [hw2]; exact hn.2.2.2.2.1.1
    · show w.2.2.2.1 = _; rw [hw2]; exact hn.2.2.2.2.2.1
    · show w.2.2.2.2 = _; rw [hw2]; exact hn.2.2.2.2.2.2
  · rw [t1] at hd
    by_cases z : d = L.1 10 1
    · subst z
      obtain ⟨z3, z4, z5, z6, z7, z8, z9⟩ := h.z (Nat.le_refl _) hlt
      obtain ⟨d1, d2, d3, d4, d5, d6⟩ := upD_a (w := w) (s := nI kd) (g := nI g) (t := nI t)
      rw [wn] at d1 d2 d3 d4 d5 d6
      have hcl : u.1 22 (L.1 10 1) = 0 := (hZ.1.I.C (L.1 10 1) (by omega)).2.1 (by omega)
      have hfd := hZ.1.fd (d := L.1 10 1) (by omega) (by omega)
      have hF := hZ.1.F (L.1 10 1) (by omega) hcl
      have r : ∀ k, (k ≠ 11 ∧ k ≠ 12 ∧ k ≠ 13 ∧ k ≠ 19 ∧ k ≠ 24 ∧ k ≠ 25) → (upDrafts w (nI kd) (nI g) (nI t)).1 k (L.1 10 1) = w.1 k (L.1 10 1) := fun k q => upD_n (Or.inl q)
      have r2 : ∀ k, (k = 20 ∨ k = 21 ∨ k = 22 ∨ k = 23 ∨ k = 26 ∨ k = 27 ∨ k = 29) → (upDrafts w (nI kd) (nI g) (nI t)).1 k (L.1 10 1) = u.1 k (L.1 10 1) := fun k q => by rw [r k (by omega), hw k _ (by omega)]
      have eA : (zI (zI (zI L 1 (L.1 10 1) A) 2 (L.1 10 1) Bv) 10 1 (L.1 10 1 + 1)).1 1 (L.1 10 1) = A := by rw [zI_k (by decide), zI_k (by decide), zI_s]
      have eB : (zI (zI (zI L 1 (L.1 10 1) A) 2 (L.1 10 1) Bv) 10 1 (L.1 10 1 + 1)).1 2 (L.1 10 1) = Bv := by rw [zI_k (by decide), zI_s]
      have eK : ∀ k, k ≠ 1 → k ≠ 2 → k ≠ 10 → (zI (zI (zI L 1 (L.1 10 1) A) 2 (L.1 10 1) Bv) 10 1 (L.1 10 1 + 1)).1 k (L.1 10 1) = L.1 k (L.1 10 1) := fun k q1 q2 q3 => by rw [zI_k q3, zI_k q2, zI_k q1]
      refine ⟨?_, ?_, ?_, ?_, ?_, ?_, ?_, ?_, ?_, ?_, ?_, ?_, ?_, ?_⟩
      · rw [eA, d1, a1]; exact ⟨a2, rfl⟩
      · rw [eA, d2, a3]; exact ⟨g6, rfl⟩
      · rw [eA, d3, a4]; exact ⟨t6, rfl⟩
      · rw [eA, a3, a4]; exact gt
      · rw [eA, r 14 (by omega), a1]; exact ⟨aT, h14, hth⟩
      · rw [eA, eB, a1, r 15 (by omega), r 16 (by omega)]; exact hsh
      · rw [eA, eB, a1, r 17 (by omega), r 18 (by omega)]; exact hen
      · rw [eK 3 (by decide) (by decide) (by decide), z3, d4]; exact ⟨by decide, by decide⟩
      · rw [eK 4 (by decide) (by decide) (by decide), z4, r2 20 (by omega), r2 21 (by omega), hfd.1, hfd.2.1]; exact ⟨rfl, rfl, by decide⟩
      · rw [eK 5 (by decide) (by decide) (by decide), z5, r2 22 (by omega), r2 26 (by omega), r2 27 (by omega), hcl, hfd.2.2.1, hfd.2.2.2]; exact ⟨rfl, by decide, rfl, rfl⟩
      · rw [eK 6 (by decide) (by decide) (by decide), z6, r2 23 (by omega), hF.2.1]; rfl
      · rw [eK 5 (by decide) (by decide) (by decide), z5, d5]; rfl
      · rw [eK 8 (by decide) (by decide) (by decide), z8, d6]; exact ⟨by decide, by decide⟩
      · exact ⟨0, 0, 0, by decide, by decide, fun _ => rfl, fun _ => rfl, by rw [r2 29 (by omega), hF.1]; rfl, fun j hj => by omega, fun j hj hk => by omega, by rw [eK 9 (by decide) (by decide) (by decide), z9]⟩
    · exact (h.d (by omega)).eq (fun k q1 q2 => by rw [zI_a, if_neg (by omega), zI_a, if_neg (by omega), zI_a, if_neg (by omega)]) (fun k q1 q2 q3 => un k d (Or.inr (Or.inr z))) (fun j hj => by rw [upD_n (Or.inl (by decide)), hw 28 _ (by omega)])
  · rw [t1] at q1
    have e : ∀ k, k ≤ 9 → (zI (zI (zI L 1 (L.1 10 1) A) 2 (L.1 10 1) Bv) 10 1 (L.1 10 1 + 1)).1 k d = L.1 k d := fun k hk => by rw [zI_a, if_neg (by omega), zI_a, if_neg (by omega), zI_a, if_neg (by omega)]
    obtain ⟨a3, a4, a5, a6, a7, a8, a9⟩ := h.z (d := d) (by omega) q2
    exact ⟨(e 3 (by decide)).trans a3, (e 4 (by decide)).trans a4, (e 5 (by decide)).trans a5, (e 6 (by decide)).trans a6, (e 7 (by decide)).trans a7, (e 8 (by decide)).trans a8, (e 9 (by decide)).trans a9⟩
  · rw [t0 3 (by decide)] at he
    obtain ⟨b1, b2, b3, b4⟩ := h.e he
    have e12 : (zI (zI (zI L 1 (L.1 10 1) A) 2 (L.1 10 1) Bv) 10 1 (L.1 10 1 + 1)).1 12 e = L.1 12 e := by rw [zI_k (by decide), zI_k (by decide), zI_k (by decide)]
    exact ⟨by rw [e12]; exact b1, by rw [e12, un 36 e (by omega)]; exact b2, by rw [e12, un 37 e (by omega)]; exact b3, by rw [e12, un 38 e (by omega)]; exact b4⟩
  · rw [un 32 0 (by omega), un 32 1 (by omega)]; exact h.w
  · have := h.s hq hk
    rw [ZRs] at this ⊢
    show L.2 (7 * q + k) * vN (w.2.1 34 (13 * q + kk k)) = PARTS * vN (w.2.1 33 (13 * q + kk k))
    rw [hw2]
    exact this
theorem r_room (h : ZR L u) (hlt : L.1 10 1 < 24) {g t : Nat} (g6 : g < 6) (t6 : t < 6) : (hasRoom u g t = true ↔ L.1 0 (16 + g) + L.1 0 (16 + t) = 0) := by
  have hnd := h.nd
  rw [hasRoom, Bool.and_eq_true, Bool.and_eq_true, decide_eq_true_eq, decide_eq_true_eq, q_dead h g6, q_dead h t6, Bool.not_eq_true', decide_eq_false_iff_not, hnd.1, show (60 : Int32) = nI 60 from rfl, nI_leI (by decide) (by omega)]
  omega
theorem r_draft (hZ : CZ N u) (h : ZR L u) (hlt : L.1 10 1 < 24) {kd g t th ab be : Nat} (hk : kd < 3) (g6 : g < 6) (t6 : t < 6) (gt : g ≠ t) (hth : th < 2) (h1 : 1 ≤ ab) (h2 : ab ≤ be) (h4 : be ≤ 4) : ((opDraft u (nI kd) (nI g) (nI t) (nI th) (nI ab) (nI be)).1 = 0 ∨ (opDraft u (nI kd) (nI g) (nI t) (nI th) (nI ab) (nI be)).1 = 3) ∧ (L.1 0 (16 + g) + L.1 0 (16 + t) = 0 → opr (opDraft u (nI kd) (nI g) (nI t) (nI th) (nI ab) (nI be)) = nI (L.1 10 1) ∧ ZR (zI (zI (zI L 1 (L.1 10 1) (((kd + 8 * g) + 64 * t) + 512 * (th + 1))) 2 (L.1 10 1) (128 * ab + be)) 10 1 (L.1 10 1 + 1)) (opDraft u (nI kd) (nI g) (nI t) (nI th) (nI ab) (nI be)).2.2) ∧ (¬ L.1 0 (16 + g) + L.1 0 (16 + t) = 0 → opr (opDraft u (nI kd) (nI g) (nI t) (nI th) (nI ab) (nI be)) = -1003 ∧ (opDraft u (nI kd) (nI g) (nI t) (nI th) (nI ab) (nI be)).2.2 = u) := by
  have hnd := h.nd
  have hT : isTh u (nI th) = true := isTh_in hZ.1.W (by rw [h.nt]; exact hth)
  have c1 : ¬ (isP u (nI g) = false ∨ isP u (nI t) = false ∨ isTh u (nI th) = false) := by
    rintro (q | q | q)
    · exact h.isp hZ g6 q
    · exact h.isp hZ t6 q
    · rw [hT] at q; cases q
  have iB : ∀ a b c, a ≤ b → b ≤ c → c < 1000 → inB (nI b) (nI a) (nI c) = true := fun a b c q1 q2 q3 => inB_t.mpr ⟨by rw [nI_ltI (by omega) (by omega)]; omega, by rw [nI_ltI (by omega) (by omega)]; omega⟩
  have c2 : ¬ (inB (nI kd) 0 2 = false ∨ inB (nI be) 1 100 = false ∨ inB (nI ab) 1 (nI be) = false ∨ nI g = nI t) := by
    rintro (q | q | q | q)
    · rw [show inB (nI kd) 0 2 = true from iB 0 kd 2 (by omega) (by omega) (by decide)] at q; cases q
    · rw [show inB (nI be) 1 100 = true from iB 1 be 100 (by omega) (by omega) (by decide)] at q; cases q
    · rw [show inB (nI ab) 1 (nI be) = true from iB 1 ab be (by omega) (by omega) (by omega)] at q; cases q
    · exact gt ((nIe (by omega) (by omega)).mp q)
  have hop : opDraft u (nI kd) (nI g) (nI t) (nI th) (nI ab) (nI be) = if hasRoom u g t = false then (3, 0, u) else (0, nI (u.2.2.1 10), upDrafts (uI (uI (uI u 14 (u.2.2.1 10) (nI th)) 15 (u.2.2.1 10) (nI ab)) 16 (u.2.2.1 10) (nI be)) (nI kd) (nI g) (nI t)) := by
    rw [opDraft, if_neg c1, if_neg c2, nI_clamp (n := g) (by omega), nI_clamp (n := t) (by omega)]
  have hr := r_room h hlt g6 t6
  rw [hop]
  by_cases c : hasRoom u g t = true
  · rw [if_neg (by rw [c]; decide), hnd.1]
    refine ⟨Or.inl rfl, fun _ => ⟨by rw [opr, if_pos rfl], ?_⟩, fun q => absurd (hr.mp c) q⟩
    exact h.draft hZ hlt (w := uI (uI (uI u 14 (L.1 10 1) (nI th)) 15 (L.1 10 1) (nI ab)) 16 (L.1 10 1) (nI be)) (fun k j q => by rw [uI_ne (by omega), uI_ne (by omega), uI_ne (by omega)]) rfl (by omega) (by omega) (by omega) (by omega) g6 t6 gt (by omega) (by rw [uI_ne (by omega), uI_ne (by omega), uI_at, show (((kd + 8 * g) + 64 * t) + 512 * (th + 1)) / 512 = th + 1 by omega]; exact (nI_pred th).symm) (fun _ => by omega) (fun _ => ⟨by omega, by omega, by omega, by rw [uI_ne (by omega), uI_at]; exact congrArg nI (by omega), by rw [uI_at]; exact congrArg nI (by omega)⟩) (fun q => by omega) (by omega)
  · rw [if_pos (by rw [Bool.not_eq_true] at c; exact c)]
    exact ⟨Or.inr rfl, fun q => absurd (hr.mpr q) c, fun _ => ⟨rfl, rfl⟩⟩
theorem r_will (hZ : CZ N u) (h : ZR L u) (hlt : L.1 10 1 < 24) {g t ab be : Nat} (g6 : g < 6) (t6 : t < 6) (gt : g ≠ t) (h1 : 1 ≤ ab) (h2 : ab ≤ be) (h4 : be ≤ 4) : ((opWill u (nI g) (nI t) (nI ab) (nI be)).1 = 0 ∨ (opWill u (nI g) (nI t) (nI ab) (nI be)).1 = 3) ∧ (L.1 0 (16 + g) + L.1 0 (16 + t) = 0 → opr (opWill u (nI g) (nI t) (nI ab) (nI be)) = nI (L.1 10 1) ∧ ZR (zI (zI (zI L 1 (L.1 10 1) (((4 + 8 * g) + 64 * t) + 512 * 0)) 2 (L.1 10 1) (128 * ab + be)) 10 1 (L.1 10 1 + 1)) (opWill u (nI g) (nI t) (nI ab) (nI be)).2.2) ∧ (¬ L.1 0 (16 + g) + L.1 0 (16 + t) = 0 → opr (opWill u (nI g) (nI t) (nI ab) (nI be)) = -1003 ∧ (opWill u (nI g) (nI t) (nI ab) (nI be)).2.2 = u) := by
  have hnd := h.nd
  have c1 : ¬ (isP u (nI g) = false ∨ isP u (nI t) = false) := by
    rintro (q | q)
    · exact h.isp hZ g6 q
    · exact h.isp hZ t6 q
  have iB : ∀ a b c, a ≤ b → b ≤ c → c < 1000 → inB (nI b) (nI a) (nI c) = true := fun a b c q1 q2 q3 => inB_t.mpr ⟨by rw [nI_ltI (by omega) (by omega)]; omega, by rw [nI_ltI (by omega) (by omega)]; omega⟩
  have c2 : ¬ (inB (nI be) 1 100 = false ∨ inB (nI ab) 1 (nI be) = false ∨ nI g = nI t) := by
    rintro (q | q | q)
    · rw [show inB (nI be) 1 100 = true from iB 1 be 100 (by omega) (by omega) (by decide)] at q; cases q
    · rw [show inB (nI ab) 1 (nI be) = true from iB 1 ab be (by omega) (by omega) (by omega)] at q; cases q
    · exact gt ((nIe (by omega) (by omega)).mp q)
  have hop : opWill u (nI g) (nI t) (nI ab) (nI be) = if hasRoom u g t = false then (3, 0, u) else (0, nI (u.2.2.1 10), upDrafts (uI (uI (uI u 14 (u.2.2.1 10) (-1)) 15 (u.2.2.1 10) (nI ab)) 16 (u.2.2.1 10) (nI be)) 4 (nI g) (nI t)) := by
    rw [opWill, if_neg c1, if_neg c2, nI_clamp (n := g) (by omega), nI_clamp (n := t) (by omega)]
  have hr := r_room h hlt g6 t6
  rw [hop]
  by_cases c : hasRoom u g t = true
  · rw [if_neg (by rw [c]; decide), hnd.1]
    refine ⟨Or.inl rfl, fun _ => ⟨by rw [opr, if_pos rfl], ?_⟩, fun q => absurd (hr.mp c) q⟩
    exact h.draft hZ hlt (kd := 4) (w := uI (uI (uI u 14 (L.1 10 1) (-1)) 15 (L.1 10 1) (nI ab)) 16 (L.1 10 1) (nI be)) (fun k j q => by rw [uI_ne (by omega), uI_ne (by omega), uI_ne (by omega)]) rfl (by omega) (by omega) (by omega) (by omega) g6 t6 gt (by omega) (by rw [uI_ne (by omega), uI_ne (by omega), uI_at, show (((4 + 8 * g) + 64 * t) + 512 * 0) / 512 = 0 by omega]; decide) (fun q => by omega) (fun _ => ⟨by omega, by omega, by omega, by rw [uI_ne (by omega), uI_at]; exact congrArg nI (by omega), by rw [uI_at]; exact congrArg nI (by omega)⟩) (fun q => by omega) (by omega)
  · rw [if_pos (by rw [Bool.not_eq_true] at c; exact c)]
    exact ⟨Or.inr rfl, fun q => absurd (hr.mpr q) c, fun _ => ⟨rfl, rfl⟩⟩
theorem r_power (hZ : CZ N u) (h : ZR L u) (hlt : L.1 10 1 < 24) (hT : L.1 10 0 ≤ 60000) {g t th dd on : Nat} (g6 : g < 6) (t6 : t < 6) (gt : g ≠ t) (hth : th < 3) (h1 : 1 ≤ dd) (h2 : dd ≤ 60) (h4 : on < 2) : ((opPower u (nI g) (nI t) (nI th - 1) (nI dd) (decide (nI on = 1))).1 = 0 ∨ (opPower u (nI g) (nI t) (nI th - 1) (nI dd) (decide (nI on = 1))).1 = 3) ∧ (L.1 0 (16 + g) + L.1 0 (16 + t) = 0 → opr (opPower u (nI g) (nI t) (nI th - 1) (nI dd) (decide (nI on = 1))) = nI (L.1 10 1) ∧ ZR (zI (zI (zI L 1 (L.1 10 1) (((3 + 8 * g) + 64 * t) + 512 * th)) 2 (L.1 10 1) (2 * (L.1 10 0 + dd) + on)) 10 1 (L.1 10 1 + 1)) (opPower u (nI g) (nI t) (nI th - 1) (nI dd) (decide (nI on = 1))).2.2) ∧ (¬ L.1 0 (16 + g) + L.1 0 (16 + t) = 0 → opr (opPower u (nI g) (nI t) (nI th - 1) (nI dd) (decide (nI on = 1))) = -1003 ∧ (opPower u (nI g) (nI t) (nI th - 1) (nI dd) (decide (nI on = 1))).2.2 = u) := by
  have hnd := h.nd
  have c1 : ¬ (isP u (nI g) = false ∨ isP u (nI t) = false ∨ (¬ nI th - 1 = -1 ∧ isTh u (nI th - 1) = false)) := by
    rintro (q | q | q)
    · exact h.isp hZ g6 q
    · exact h.isp hZ t6 q
    · have z : th ≠ 0 := fun y => q.1 ((nIm (by omega)).mpr y)
      have q2 := q.2
      rw [nI_sub1 z, isTh_in hZ.1.W (p := th - 1) (by rw [h.nt]; omega)] at q2
      cases q2
  have c2 : ¬ (inB (nI dd) 1 1000 = false ∨ nI g = nI t) := by
    rintro (q | q)
    · rw [show inB (nI dd) 1 1000 = true from inB_t.mpr ⟨by rw [show (1 : Int32) = nI 1 from rfl, nI_ltI (by omega) (by decide)]; omega, by rw [show (1000 : Int32) = nI 1000 from rfl, nI_ltI (by decide) (by omega)]; omega⟩] at q; cases q
    · exact gt ((nIe (by omega) (by omega)).mp q)
  have eon : b2i (decide (nI on = 1)) = nI on := by
    have : on = 0 ∨ on = 1 := by omega
    rcases this with e | e <;> rw [e] <;> decide
  have hop : opPower u (nI g) (nI t) (nI th - 1) (nI dd) (decide (nI on = 1)) = if hasRoom u g t = false then (3, 0, u) else (0, nI (u.2.2.1 10), upDrafts (uI (uI (uI u 14 (u.2.2.1 10) (nI th - 1)) 17 (u.2.2.1 10) (u.2.2.2.1 + nI dd)) 18 (u.2.2.1 10) (b2i (decide (nI on = 1)))) 3 (nI g) (nI t)) := by
    rw [opPower, if_neg c1, if_neg c2, nI_clamp (n := g) (by omega), nI_clamp (n := t) (by omega)]
  have hr := r_room h hlt g6 t6
  rw [hop]
  by_cases c : hasRoom u g t = true
  · rw [if_neg (by rw [c]; decide), hnd.1, eon, h.dy, nI_add]
    refine ⟨Or.inl rfl, fun _ => ⟨by rw [opr, if_pos rfl], ?_⟩, fun q => absurd (hr.mp c) q⟩
    exact h.draft hZ hlt (kd := 3) (w := uI (uI (uI u 14 (L.1 10 1) (nI th - 1)) 17 (L.1 10 1) (nI (L.1 10 0 + dd))) 18 (L.1 10 1) (nI on)) (fun k j q => by rw [uI_ne (by omega), uI_ne (by omega), uI_ne (by omega)]) rfl (by omega) (by omega) (by omega) (by omega) g6 t6 gt (by omega) (by rw [uI_ne (by omega), uI_ne (by omega), uI_at, show (((3 + 8 * g) + 64 * t) + 512 * th) / 512 = th by omega]) (fun q => by omega) (fun q => absurd rfl q) (fun _ => ⟨by rw [uI_ne (by omega), uI_at]; exact congrArg nI (by omega), by rw [uI_at]; exact congrArg nI (by omega)⟩) (by omega)
  · rw [if_pos (by rw [Bool.not_eq_true] at c; exact c)]
    exact ⟨Or.inr rfl, fun q => absurd (hr.mpr q) c, fun _ => ⟨rfl, rfl⟩⟩
end OPS
