/-! sign's two ways; guard, child, pass; drafts -/
section OPS
variable {L : ZU} {u : MU} {N : Nat}
theorem r_sign0 (hZ : CZ N u) (h : ZR L u) {d one : Nat} {fi : Bool} (hd : d < L.1 10 1) (ho : one < 6) : ((opSign u (nI d) (nI one) fi (-1)).1 = 0 ∨ (opSign u (nI d) (nI one) fi (-1)).1 = 2) ∧ opr (opSign u (nI d) (nI one) fi (-1)) = n_signs0 L d one fi ∧ ZR (n_signs0L L d one fi) (opSign u (nI d) (nI one) fi (-1)).2.2 ∧ (∀ j, (n_signs0L L d one fi).1 10 j = L.1 10 j) := by
  rw [n_signs0_A, n_signs0_L, show (-1 : Int32) = nI 0 - 1 from by decide]
  refine r_sgn hZ h hd ho (Nat.zero_le _) ?_ (fun _ => ?_)
  · show n_signs0_162_s0 L d one fi = true ↔ _
    rw [n_signs0_162_s0, show n_signs0_27_s0 L d one fi = whN L d fi from rfl]
    by_cases c1 : L.1 0 (16 + whN L d fi) = 0
    · rw [if_pos c1]
      by_cases c2 : L.1 0 (32 + whN L d fi) = one + 1
      · rw [if_pos c2]; exact ⟨fun _ => ⟨c1, c2⟩, fun _ => rfl⟩
      · rw [if_neg c2]; exact ⟨fun q => absurd q Bool.false_ne_true, fun q => absurd q.2 c2⟩
    · rw [if_neg c1]; exact ⟨fun q => absurd q Bool.false_ne_true, fun q => absurd q.1 c1⟩
  · rw [signsBy, decide_eq_true (show nI 0 - 1 = (-1 : Int32) by decide)]
    rfl
theorem r_sign1 (hZ : CZ N u) (h : ZR L u) {d one k : Nat} {fi : Bool} (hd : d < L.1 10 1) (ho : one < 6) (hk : k < L.1 10 1) : ((opSign u (nI d) (nI one) fi (nI k)).1 = 0 ∨ (opSign u (nI d) (nI one) fi (nI k)).1 = 2) ∧ opr (opSign u (nI d) (nI one) fi (nI k)) = n_signs1 L d one fi k ∧ ZR (n_signs1L L d one fi k) (opSign u (nI d) (nI one) fi (nI k)).2.2 ∧ (∀ j, (n_signs1L L d one fi k).1 10 j = L.1 10 j) := by
  have D := h.d hd
  have K := h.d hk
  have hnd := h.nd
  have wlt : whN L d fi < 6 := by unfold whN; split; exact D.gv.1; exact D.tk.1
  rw [n_signs1_A, n_signs1_L, show nI k = nI (k + 1) - 1 from (nI_pred k).symm]
  refine r_sgn hZ h hd ho (by omega) ?_ (fun ca => ?_)
  · rw [n_signs1_162_s0, show n_signs1_27_s0 L d one fi k = whN L d fi from rfl]
    by_cases c1 : L.1 0 (16 + whN L d fi) = 0
    · rw [if_pos c1]
      by_cases c2 : L.1 0 (32 + whN L d fi) = one + 1
      · rw [if_pos c2]; exact ⟨fun _ => ⟨c1, c2⟩, fun _ => rfl⟩
      · rw [if_neg c2]; exact ⟨fun q => absurd q Bool.false_ne_true, fun q => absurd q.2 c2⟩
    · rw [if_neg c1]; exact ⟨fun q => absurd q Bool.false_ne_true, fun q => absurd q.1 c1⟩
  · have hk1 := K.gv
    have hk2 := K.tk
    have hk3 := K.th
    have hd3 := D.th
    have P := (h.p wlt).2.2.1
    have p1 : decide (u.1 6 (whN L d fi) = 0) = decide (L.1 0 (16 + whN L d fi) = 0) := by rw [P.2]; exact decide_eq_decide.mpr (nIz (by omega))
    have p2 : decide (u.1 12 k = nI (whN L d fi)) = decide (L.1 1 k / 8 % 8 = whN L d fi) := by rw [hk1.2]; exact decide_eq_decide.mpr (nIe (by omega) (by omega))
    have p3 : decide (u.1 13 k = nI one) = decide (L.1 1 k / 64 % 8 = one) := by rw [hk2.2]; exact decide_eq_decide.mpr (nIe (by omega) (by omega))
    have p4 : decide (u.1 14 k = -1) = decide (L.1 1 k / 512 = 0) := by rw [hk3.2.1]; exact decide_eq_decide.mpr (nIm (by omega))
    have p5 : decide (u.1 14 k = u.1 14 d) = decide (L.1 1 k / 512 = L.1 1 d / 512) := by
      rw [hk3.2.1, hd3.2.1]
      refine decide_eq_decide.mpr ⟨fun q => ?_, fun q => by rw [q]⟩
      have q2 := congrArg (fun z => z + 1) q
      simp only [Int32.sub_add_cancel] at q2
      exact (nIe (by omega) (by omega)).mp q2
    rw [signsBy, nI_pred, nI_clamp (by omega), decide_eq_false (nI_nm1 (p := k) (by omega)), p1, p2, p3, p4, p5, ← r_able h ho, ca, ← r_good h hZ.1 hk, n_signs1_270_s0, show n_signs1_27_s0 L d one fi k = whN L d fi from rfl]
    by_cases c1 : L.1 0 (16 + whN L d fi) = 0
    · rw [if_pos c1, decide_eq_true c1]
      by_cases c2 : n_good L k = true
      · rw [if_pos c2, c2]
        by_cases c3 : L.1 1 k / 8 % 8 = whN L d fi
        · rw [if_pos c3, decide_eq_true c3]
          by_cases c4 : L.1 1 k / 64 % 8 = one
          · rw [if_pos c4, decide_eq_true c4]
            by_cases c5 : L.1 1 k / 512 = 0
            · rw [if_pos c5, decide_eq_true c5]; rfl
            · rw [if_neg c5, decide_eq_false c5]
              by_cases c6 : L.1 1 k / 512 = L.1 1 d / 512
              · rw [if_pos c6, decide_eq_true c6]; rfl
              · rw [if_neg c6, decide_eq_false c6]; rfl
          · rw [if_neg c4, decide_eq_false c4]; rfl
        · rw [if_neg c3, decide_eq_false c3]; rfl
      · rw [if_neg c2]
        rw [Bool.not_eq_true] at c2
        rw [c2]; rfl
    · rw [if_neg c1, decide_eq_false c1]; rfl
/-- persons' rows change -/
theorem ZR.pers (h : ZR L u) {L' : ZU} {u' : MU} (hB : ZB L') (hL : ∀ k j, k ≠ 0 → L'.1 k j = L.1 k j) (hJ : L'.2 = L.2) (hu : ∀ k, 10 ≤ k → u'.1 k = u.1 k) (hu2 : u'.2 = u.2) (hp : ∀ p, p < 6 → ZRp L' u' p) : ZR L' u' := by
  have t : ∀ j, L'.1 10 j = L.1 10 j := fun j => hL 10 j (by decide)
  refine ⟨hB, ?_, hp, fun d hd => ?_, fun d h1 h2 => ?_, fun e he => ?_, ?_, fun q hq k hk => ?_, fun i hi => ?_⟩
  · unfold ZRn
    rw [hu2, t, t, t, t, t]
    exact h.n
  · rw [t] at hd
    exact (h.d hd).eq (fun k h1 _ => hL k d (by omega)) (fun k h1 _ _ => by rw [hu k (by omega)]) (fun j _ => by rw [hu 28 (by decide)])
  · rw [t] at h1
    obtain ⟨a3, a4, a5, a6, a7, a8, a9⟩ := h.z h1 h2
    exact ⟨(hL 3 d (by decide)).trans a3, (hL 4 d (by decide)).trans a4, (hL 5 d (by decide)).trans a5, (hL 6 d (by decide)).trans a6, (hL 7 d (by decide)).trans a7, (hL 8 d (by decide)).trans a8, (hL 9 d (by decide)).trans a9⟩
  · rw [t] at he
    obtain ⟨a1, a2, a3, a4⟩ := h.e he
    have r := hL 12 e (by decide)
    exact ⟨by rw [r]; exact a1, by rw [r, hu 36 (by decide)]; exact a2, by rw [r, hu 37 (by decide)]; exact a3, by rw [r, hu 38 (by decide)]; exact a4⟩
  · rw [hu 32 (by decide)]; exact h.w
  · have := h.s hq hk
    rw [ZRs] at this ⊢
    rw [hJ, hu2]
    exact this
  · rw [hJ]; exact h.o hi
theorem q_dead (h : ZR L u) {p : Nat} (hp : p < 6) : u.1 6 p = 0 ↔ L.1 0 (16 + p) = 0 := by
  have := (h.p hp).2.2.1
  rw [this.2]
  exact nIz (by omega)
theorem r_guard (hZ : CZ N u) (h : ZR L u) {one gq : Nat} {can : Bool} (ho : one < 6) (hg : gq ≤ 6) (hne : gq ≠ one + 1) (hcan : can = true ↔ L.1 0 (16 + one) = 0 ∧ (gq ≠ 0 → L.1 0 (16 + (gq - 1)) = 0)) : ((opGuard u (nI one) (nI gq - 1)).1 = 0 ∨ (opGuard u (nI one) (nI gq - 1)).1 = 3) ∧ opr (opGuard u (nI one) (nI gq - 1)) = (if can = true then nI (L.1 0 (32 + one)) - 1 else -1003) ∧ ZR (zI L 0 (32 + one) (if can = true then gq else L.1 0 (32 + one))) (opGuard u (nI one) (nI gq - 1)).2.2 := by
  have P := h.p ho
  have hco : (nI one).toNatClampNeg = one := nI_clamp (by omega)
  have h1 : ¬ (isP u (nI one) = false ∨ (¬ nI gq - 1 = -1 ∧ isP u (nI gq - 1) = false)) := by
    rintro (q | q)
    · exact h.isp hZ ho q
    · have z : gq ≠ 0 := fun y => q.1 ((nIm (by omega)).mpr y)
      rw [nI_sub1 z] at q
      exact h.isp hZ (p := gq - 1) (by omega) q.2
  have h2 : ¬ nI one = nI gq - 1 := fun q => hne ((nIme (by omega) (by omega)).mp q.symm)
  have hdead : (¬ u.1 6 one = 0 ∨ (¬ nI gq - 1 = -1 ∧ ¬ u.1 6 (nI gq - 1).toNatClampNeg = 0)) ↔ ¬ can = true := by
    rw [hcan, q_dead h ho, nIm (by omega)]
    by_cases z : gq = 0
    · simp [z]
    · rw [nI_sub1 z, nI_clamp (by omega), q_dead h (p := gq - 1) (by omega)]
      constructor
      · rintro (q | q) y
        · exact q y.1
        · exact q.2 (y.2 z)
      · intro q
        by_cases c : L.1 0 (16 + one) = 0
        · exact Or.inr ⟨z, fun y => q ⟨c, fun _ => y⟩⟩
        · exact Or.inl c
  have hop : opGuard u (nI one) (nI gq - 1) = if can = true then (0, u.1 9 one, uI u 9 one (nI gq - 1)) else (3, 0, u) := by
    rw [opGuard, if_neg h1, if_neg h2, hco]
    by_cases c : can = true
    · rw [if_pos c, if_neg (fun q => hdead.mp q c)]
    · rw [if_neg c, if_pos (hdead.mpr c)]
  rw [hop]
  by_cases c : can = true
  · rw [if_pos c, if_pos c, if_pos c]
    refine ⟨Or.inl rfl, ?_, ?_⟩
    · rw [opr, if_pos rfl]; exact P.2.2.2.1.2
    · refine h.pers (h.B.set (by omega)) (fun k j hk => zI_k hk) rfl (fun k hk => funext fun j => uI_ne (by omega)) rfl (fun p hp => ?_)
      have Pp := h.p hp
      by_cases z : p = one
      · subst z
        refine ⟨⟨?_, ?_, ?_⟩, ⟨?_, ?_⟩, ⟨?_, ?_⟩, ⟨?_, ?_⟩, ?_, ?_, fun q hq => ?_⟩
        · rw [uI_ne (by omega)]; exact Pp.1.1
        · rw [uI_ne (by omega)]; exact Pp.1.2.1
        · rw [zI_n (by omega)]; exact Pp.1.2.2
        · rw [zI_n (by omega)]; exact Pp.2.1.1
        · rw [zI_n (by omega), uI_ne (by omega)]; exact Pp.2.1.2
        · rw [zI_n (by omega)]; exact Pp.2.2.1.1
        · rw [zI_n (by omega), uI_ne (by omega)]; exact Pp.2.2.1.2
        · rw [zI_s]; exact hg
        · rw [zI_s, uI_at]
        · rw [zI_n (by omega)]; exact Pp.2.2.2.2.1
        · rw [zI_n (by omega), uI_ne (by omega)]; exact Pp.2.2.2.2.2.1
        · rw [zI_n (by omega), isCh_78 (u := u) (funext fun j => uI_ne (by omega)) (funext fun j => uI_ne (by omega))]; exact Pp.2.2.2.2.2.2 q hq
      · refine ⟨⟨?_, ?_, ?_⟩, ⟨?_, ?_⟩, ⟨?_, ?_⟩, ⟨?_, ?_⟩, ?_, ?_, fun q hq => ?_⟩
        · rw [uI_ne (by omega)]; exact Pp.1.1
        · rw [uI_ne (by omega)]; exact Pp.1.2.1
        · rw [zI_n (by omega)]; exact Pp.1.2.2
        · rw [zI_n (by omega)]; exact Pp.2.1.1
        · rw [zI_n (by omega), uI_ne (by omega)]; exact Pp.2.1.2
        · rw [zI_n (by omega)]; exact Pp.2.2.1.1
        · rw [zI_n (by omega), uI_ne (by omega)]; exact Pp.2.2.1.2
        · rw [zI_n (by omega)]; exact Pp.2.2.2.1.1
        · rw [zI_n (by omega), uI_ne (by omega)]; exact Pp.2.2.2.1.2
        · rw [zI_n (by omega)]; exact Pp.2.2.2.2.1
        · rw [zI_n (by omega), uI_ne (by omega)]; exact Pp.2.2.2.2.2.1
        · rw [zI_n (by omega), isCh_78 (u := u) (funext fun j => uI_ne (by omega)) (funext fun j => uI_ne (by omega))]; exact Pp.2.2.2.2.2.2 q hq
  · rw [if_neg c, if_neg c, if_neg c, zI_id rfl]
    exact ⟨Or.inr rfl, rfl, h⟩
theorem bits_ch1 : ∀ m, m < 64 → ∀ q, q < 6 → m / 2 ^ q % 2 = 1 ∨ (n_dM (m ||| 2 ^ q) 6 = n_dM m 6 + 1 ∧ m ||| 2 ^ q < 64) := by decide +kernel
theorem bits_ch2 : ∀ m, m < 64 → ∀ q, q < 6 → ∀ r, r < 6 → (m ||| 2 ^ q) / 2 ^ r % 2 = if r = q then 1 else m / 2 ^ r % 2 := by decide +kernel
theorem bits_ch {m : Nat} (hm : m < 64) {q : Nat} (hq : q < 6) (h : m / 2 ^ q % 2 = 0) : n_dM (m ||| 2 ^ q) 6 = n_dM m 6 + 1 ∧ m ||| 2 ^ q < 64 ∧ ∀ r, r < 6 → ((m ||| 2 ^ q) / 2 ^ r % 2 = 1 ↔ m / 2 ^ r % 2 = 1 ∨ r = q) := by
  rcases bits_ch1 m hm q hq with z | ⟨z1, z2⟩
  · omega
  · refine ⟨z1, z2, fun r hr => ?_⟩
    rw [bits_ch2 m hm q hq r hr]
    by_cases e : r = q
    · rw [if_pos e]; simp [e]
    · rw [if_neg e]; simp [e]
theorem r_child (hZ : CZ N u) (h : ZR L u) {pa one : Nat} {can : Bool} (hpo : pa < one) (ho : one < 6) (hcan : can = true ↔ n_dM (L.1 0 (24 + one)) 6 < 2 ∧ L.1 0 (24 + one) / 2 ^ pa % 2 = 0 ∧ L.1 0 (16 + one) = 0 ∧ L.1 0 (16 + pa) = 0) : ((opChild u (nI pa) (nI one)).1 = 0 ∨ (opChild u (nI pa) (nI one)).1 = 3) ∧ opr (opChild u (nI pa) (nI one)) = (if can = true then nI (n_dM (L.1 0 (24 + one)) 6 + 1) else -1003) ∧ ZR (zI L 0 (24 + one) (L.1 0 (24 + one) ||| (if can = true then 2 ^ pa else 0))) (opChild u (nI pa) (nI one)).2.2 := by
  have P := h.p ho
  have hm := P.2.2.2.2.1
  have hc8 := P.2.2.2.2.2.1
  have hM6 := n_dM_le (h := L.1 0 (24 + one)) 6
  obtain ⟨cn, hcn, ecn⟩ := hZ.1.P one (by omega)
  have hcn2 : n_dM (L.1 0 (24 + one)) 6 = cn := by
    rw [hc8] at ecn
    exact (nIe (by omega) (by omega)).mp ecn
  have hco : (nI one).toNatClampNeg = one := nI_clamp (by omega)
  have hcp : (nI pa).toNatClampNeg = pa := nI_clamp (by omega)
  have h1 : ¬ (isP u (nI pa) = false ∨ isP u (nI one) = false) := by
    rintro (q | q)
    · exact h.isp hZ (p := pa) (by omega) q
    · exact h.isp hZ ho q
  have h2 : ¬ nI one ≤ nI pa := by rw [nI_leI (by omega) (by omega)]; omega
  have h3 : (u.1 8 one = 2 ∨ isCh u one (nI pa) = true ∨ ¬ u.1 6 one = 0 ∨ ¬ u.1 6 pa = 0) ↔ ¬ can = true := by
    rw [hcan, q_dead h ho, q_dead h (p := pa) (by omega), hc8, hcn2, show (2 : Int32) = nI 2 from rfl, nIe (by omega) (by decide), r_ch h ho (q := pa) (by omega), decide_eq_true_eq]
    omega
  have hop : opChild u (nI pa) (nI one) = if can = true then (0, u.1 8 one + 1, uI (uI u 7 (2 * one + cn) (nI pa)) 8 one (u.1 8 one + 1)) else (3, 0, u) := by
    rw [opChild, if_neg h1, if_neg h2, hco, hcp]
    have e8 : (u.1 8 one).toNatClampNeg = cn := by rw [ecn]; exact nI_clamp (by omega)
    rw [e8]
    by_cases c : can = true
    · rw [if_pos c, if_neg (fun q => h3.mp q c)]
    · rw [if_neg c, if_pos (h3.mpr c)]
  rw [hop]
  by_cases c : can = true
  · obtain ⟨c1, c2, c3, c4⟩ := hcan.mp c
    obtain ⟨b1, b2, b3⟩ := bits_ch hm (q := pa) (by omega) c2
    rw [if_pos c, if_pos c, if_pos c]
    refine ⟨Or.inl rfl, ?_, ?_⟩
    · rw [opr, if_pos rfl]
      show u.1 8 one + 1 = _
      rw [hc8]
      exact nI_1 _
    · refine h.pers (h.B.set (by omega)) (fun k j hk => zI_k hk) rfl (fun k hk => funext fun j => by rw [uI_ne (by omega), uI_ne (by omega)]) rfl (fun p hp => ?_)
      have Pp := h.p hp
      have ch : ∀ q, q < 6 → p ≠ one → isCh (uI (uI u 7 (2 * one + cn) (nI pa)) 8 one (u.1 8 one + 1)) p (nI q) = isCh u p (nI q) := fun q hq hne => by
        obtain ⟨cp, hcp, ecp⟩ := hZ.1.P p (by omega)
        have hN : ∀ m, m ≤ 2 → isChN (uI (uI u 7 (2 * one + cn) (nI pa)) 8 one (u.1 8 one + 1)) p (nI q) m = isChN u p (nI q) m := fun m hm => by
          induction m with
          | zero => rfl
          | succ m ih => rw [isChN, isChN, ih (by omega), uI_ne (by omega), uI_ne (by omega)]
        rw [isCh, isCh, uI_ne (r := 8) (by omega), uI_ne (by omega), ecp, nI_clamp (by omega)]
        exact hN cp hcp
      by_cases z : p = one
      · subst z
        refine ⟨⟨?_, ?_, ?_⟩, ⟨?_, ?_⟩, ⟨?_, ?_⟩, ⟨?_, ?_⟩, ?_, ?_, fun q hq => ?_⟩
        · rw [uI_ne (by omega), uI_ne (by omega)]; exact Pp.1.1
        · rw [uI_ne (by omega), uI_ne (by omega)]; exact Pp.1.2.1
        · rw [zI_n (by omega)]; exact Pp.1.2.2
        · rw [zI_n (by omega)]; exact Pp.2.1.1
        · rw [zI_n (by omega), uI_ne (by omega), uI_ne (by omega)]; exact Pp.2.1.2
        · rw [zI_n (by omega)]; exact Pp.2.2.1.1
        · rw [zI_n (by omega), uI_ne (by omega), uI_ne (by omega)]; exact Pp.2.2.1.2
        · rw [zI_n (by omega)]; exact Pp.2.2.2.1.1
        · rw [zI_n (by omega), uI_ne (by omega), uI_ne (by omega)]; exact Pp.2.2.2.1.2
        · rw [zI_s]; exact b2
        · rw [zI_s, uI_at, b1, hc8, nI_1]
        · rw [zI_s, b3 q hq]
          have hN : isChN (uI (uI u 7 (2 * p + cn) (nI pa)) 8 p (u.1 8 p + 1)) p (nI q) cn = isChN u p (nI q) cn := by
            have : ∀ m, m ≤ cn → isChN (uI (uI u 7 (2 * p + cn) (nI pa)) 8 p (u.1 8 p + 1)) p (nI q) m = isChN u p (nI q) m := fun m hm => by
              induction m with
              | zero => rfl
              | succ m ih => rw [isChN, isChN, ih (by omega), uI_ne (by omega), uI_ne (by omega)]
            exact this cn (Nat.le_refl _)
          have e1 : isCh (uI (uI u 7 (2 * p + cn) (nI pa)) 8 p (u.1 8 p + 1)) p (nI q) = (isCh u p (nI q) || decide (nI pa = nI q)) := by
            rw [isCh, uI_at, show (u.1 8 p + 1).toNatClampNeg = cn + 1 by rw [ecn, nI_1]; exact nI_clamp (by omega), isChN, hN, uI_ne (by omega), uI_at, show isCh u p (nI q) = isChN u p (nI q) cn by rw [isCh, ecn, nI_clamp (by omega)]]
          rw [e1, Bool.or_eq_true, decide_eq_true_eq, nIe (by omega) (by omega), Pp.2.2.2.2.2.2 q hq]
          omega
      · refine ⟨⟨?_, ?_, ?_⟩, ⟨?_, ?_⟩, ⟨?_, ?_⟩, ⟨?_, ?_⟩, ?_, ?_, fun q hq => ?_⟩
        · rw [uI_ne (by omega), uI_ne (by omega)]; exact Pp.1.1
        · rw [uI_ne (by omega), uI_ne (by omega)]; exact Pp.1.2.1
        · rw [zI_n (by omega)]; exact Pp.1.2.2
        · rw [zI_n (by omega)]; exact Pp.2.1.1
        · rw [zI_n (by omega), uI_ne (by omega), uI_ne (by omega)]; exact Pp.2.1.2
        · rw [zI_n (by omega)]; exact Pp.2.2.1.1
        · rw [zI_n (by omega), uI_ne (by omega), uI_ne (by omega)]; exact Pp.2.2.1.2
        · rw [zI_n (by omega)]; exact Pp.2.2.2.1.1
        · rw [zI_n (by omega), uI_ne (by omega), uI_ne (by omega)]; exact Pp.2.2.2.1.2
        · rw [zI_n (by omega)]; exact Pp.2.2.2.2.1
        · rw [zI_n (by omega), uI_ne (by omega), uI_ne (by omega)]; exact Pp.2.2.2.2.2.1
        · rw [zI_n (by omega), ch q hq z]; exact Pp.2.2.2.2.2.2 q hq
  · rw [if_neg c, if_neg c, if_neg c, Nat.or_zero, zI_id rfl]
    exact ⟨Or.inr rfl, rfl, h⟩
theorem r_pass (h : ZR L u) {k : Nat} (h1 : 1 ≤ k) (h2 : k ≤ 400) (hT : L.1 10 0 ≤ 60000) : (opPass u (nI k)).1 = 0 ∧ (opPass u (nI k)).2.1 = nI (L.1 10 0 + k) ∧ ZR (zI L 10 0 (L.1 10 0 + k)) (opPass u (nI k)).2.2 := by
  have hop : opPass u (nI k) = (0, u.2.2.2.1 + nI k, uD u (u.2.2.2.1 + nI k)) := by
    rw [opPass, if_neg]
    rw [show inB (nI k) 1 10000 = true from inB_t.mpr ⟨by rw [show (1 : Int32) = nI 1 from rfl, nI_ltI (by omega) (by decide)]; omega, by rw [show (10000 : Int32) = nI 10000 from rfl, nI_ltI (by decide) (by omega)]; omega⟩]
    decide
  have e : u.2.2.2.1 + nI k = nI (L.1 10 0 + k) := by rw [h.dy, nI_add]
  rw [hop, e]
  have t : ∀ j, j ≠ 0 → (zI L 10 0 (L.1 10 0 + k)).1 10 j = L.1 10 j := fun j hj => zI_n hj
  refine ⟨rfl, rfl, h.B.set (by omega), ?_, fun p hp => (h.p hp).eq (fun j => zI_k (by decide)) (fun _ _ => rfl), fun d hd => ?_, fun d q1 q2 => ?_, fun e he => ?_, h.w, fun t ht k hk => h.s ht hk, fun i hi => h.o hi⟩
  · unfold ZRn
    rw [zI_s, t 1 (by decide), t 2 (by decide), t 3 (by decide), t 4 (by decide)]
    have hn := h.n
    exact ⟨hn.1, hn.2.1, hn.2.2.1, hn.2.2.2.1, hn.2.2.2.2.1, rfl, hn.2.2.2.2.2.2⟩
  · rw [t 1 (by decide)] at hd
    exact (h.d hd).eq (fun k _ _ => zI_k (by omega)) (fun _ _ _ _ => rfl) (fun _ _ => rfl)
  · rw [t 1 (by decide)] at q1
    exact h.z q1 q2
  · rw [t 3 (by decide)] at he
    exact h.e he
end OPS
