/-! a death: heirs, wills, exact parts -/
theorem or_bits {f g : Nat → Nat} (hf : ∀ k, f k = 0 ∨ f k = 1 * 2 ^ k) (h0 : g 0 = 0) (hs : ∀ m, g (m + 1) = g m ||| f m) (m k : Nat) : g m / 2 ^ k % 2 = 1 ↔ k < m ∧ ¬ f k = 0 := by
  have t : ∀ x, x / 2 ^ k % 2 = 1 ↔ x.testBit k = true := fun x => by rw [Nat.testBit_eq_decide_div_mod_eq, decide_eq_true_eq]
  rw [t]
  induction m with
  | zero =>
    rw [h0, Nat.zero_testBit]
    constructor
    · intro q; cases q
    · intro q; omega
  | succ m ih =>
    have ih : (g m).testBit k = true ↔ (k < m ∧ ¬ f k = 0) := ih
    rw [hs, Nat.testBit_or, Bool.or_eq_true, ih]
    have hp := Nat.two_pow_pos k
    have e : (f m).testBit k = true ↔ k = m ∧ ¬ f k = 0 := by
      rcases hf m with q | q
      · rw [q, Nat.zero_testBit]
        constructor
        · intro z; cases z
        · rintro ⟨rfl, z⟩; exact absurd q z
      · rw [q, Nat.one_mul, Nat.testBit_two_pow, decide_eq_true_eq]
        constructor
        · intro z
          subst z
          exact ⟨rfl, by rw [q, Nat.one_mul]; exact Nat.ne_of_gt hp⟩
        · intro z; exact z.1.symm
    rw [e]
    constructor
    · rintro (q | q)
      · exact ⟨by omega, q.2⟩
      · exact ⟨by omega, q.2⟩
    · rintro ⟨q1, q2⟩
      by_cases z : k = m
      · exact Or.inr ⟨z, q2⟩
      · exact Or.inl ⟨by omega, q2⟩
theorem dM_heir {u : MU} {h x0 : Nat} {cb : Bool} (m : Nat) (hb : ∀ k, k < m → (h / 2 ^ k % 2 = 1 ↔ ¬ k = x0 ∧ isHr u k x0 cb = true)) : n_dM h m = heirN u x0 cb m := by
  induction m with
  | zero => rfl
  | succ m ih =>
    have e := hb m (by omega)
    rw [n_dM, heirN, ih (fun k hk => hb k (by omega))]
    by_cases c : h / 2 ^ m % 2 = 1
    · rw [if_pos (e.mp c), c]
    · rw [if_neg (fun q => c (e.mpr q))]
      omega
theorem dM_0 : ∀ h, h < 64 → (0 < n_dM h 6 ↔ 0 < h) := by decide +kernel
section DIE
variable {L : ZU} {u : MU} {N : Nat}
theorem q_ch (h : ZR L u) {p q : Nat} (hp : p < 6) (hq : q < 6) : isCh u p (nI q) = true ↔ L.1 0 (24 + p) / 2 ^ q % 2 = 1 := by
  rw [r_ch h hp hq, decide_eq_true_eq]
theorem r_dCh (hZ : CZ N u) (h : ZR L u) {x0 : Nat} (hx : x0 < 6) (k : Nat) (hk : k < 6) : n_dCh L x0 6 / 2 ^ k % 2 = 1 ↔ ¬ k = x0 ∧ isHr u k x0 true = true := by
  rw [or_bits (f := n_dies_79_s0 L x0) (g := n_dCh L x0) (fun k => by unfold n_dies_79_s0; (repeat' split) <;> simp) rfl (fun m => rfl)]
  have hs := hZ.2 x0 (by omega)
  have hp := Nat.two_pow_pos k
  have e1 : isHr u k x0 true = true ↔ L.1 0 (16 + k) = 0 ∧ L.1 0 (24 + k) / 2 ^ x0 % 2 = 1 := by
    rw [isHr, Bool.and_eq_true, decide_eq_true_eq, q_dead h hk, if_pos rfl, q_ch h hk hx]
  have e2 : ¬ n_dies_79_s0 L x0 k = 0 ↔ L.1 0 (16 + k) = 0 ∧ L.1 0 (24 + k) / 2 ^ x0 % 2 = 1 := by
    unfold n_dies_79_s0
    by_cases c1 : L.1 0 (16 + k) = 0
    · by_cases c2 : L.1 0 (24 + k) / 2 ^ x0 % 2 = 1
      · rw [if_pos c1, if_pos c2]
        exact ⟨fun _ => ⟨c1, c2⟩, fun _ => by omega⟩
      · rw [if_pos c1, if_neg c2]
        exact ⟨fun q => absurd rfl q, fun q => absurd q.2 c2⟩
    · rw [if_neg c1]
      exact ⟨fun q => absurd rfl q, fun q => absurd q.1 c1⟩
  rw [e1, e2]
  constructor
  · rintro ⟨-, q1, q2⟩
    refine ⟨fun z => ?_, q1, q2⟩
    subst z
    rw [← q_ch h hk hk, hs] at q2
    cases q2
  · rintro ⟨-, q1, q2⟩
    exact ⟨hk, q1, q2⟩
theorem r_dPa (hZ : CZ N u) (h : ZR L u) {x0 : Nat} (hx : x0 < 6) (k : Nat) (hk : k < 6) : n_dPa L x0 6 / 2 ^ k % 2 = 1 ↔ ¬ k = x0 ∧ isHr u k x0 false = true := by
  rw [or_bits (f := n_dies_117_s0 L x0) (g := n_dPa L x0) (fun k => by unfold n_dies_117_s0; (repeat' split) <;> simp) rfl (fun m => rfl)]
  have hs := hZ.2 x0 (by omega)
  have hp := Nat.two_pow_pos k
  have e1 : isHr u k x0 false = true ↔ L.1 0 (16 + k) = 0 ∧ L.1 0 (24 + x0) / 2 ^ k % 2 = 1 := by
    rw [isHr, Bool.and_eq_true, decide_eq_true_eq, q_dead h hk, if_neg (show ¬ false = true by decide), q_ch h hx hk]
  have e2 : ¬ n_dies_117_s0 L x0 k = 0 ↔ L.1 0 (16 + k) = 0 ∧ L.1 0 (24 + x0) / 2 ^ k % 2 = 1 := by
    unfold n_dies_117_s0
    by_cases c1 : L.1 0 (16 + k) = 0
    · by_cases c2 : L.1 0 (24 + x0) / 2 ^ k % 2 = 1
      · rw [if_pos c1, if_pos c2]
        exact ⟨fun _ => ⟨c1, c2⟩, fun _ => by omega⟩
      · rw [if_pos c1, if_neg c2]
        exact ⟨fun q => absurd rfl q, fun q => absurd q.2 c2⟩
    · rw [if_neg c1]
      exact ⟨fun q => absurd rfl q, fun q => absurd q.1 c1⟩
  rw [e1, e2]
  constructor
  · rintro ⟨-, q1, q2⟩
    refine ⟨fun z => ?_, q1, q2⟩
    subst z
    rw [← q_ch h hk hk, hs] at q2
    cases q2
  · rintro ⟨-, q1, q2⟩
    exact ⟨hk, q1, q2⟩
theorem heir_kid {u : MU} {x0 : Nat} (m : Nat) : heirN u x0 true m ≤ kidN u x0 m := by
  induction m with
  | zero => exact Nat.le_refl _
  | succ m ih =>
    rw [heirN, kidN]
    by_cases c : ¬ m = x0 ∧ isHr u m x0 true = true
    · have c2 := c.2
      rw [isHr, Bool.and_eq_true, if_pos rfl] at c2
      rw [if_pos c, if_pos c2.2]
      omega
    · rw [if_neg c]
      omega
theorem heir_par (h : ZR L u) {x0 : Nat} (hx : x0 < 6) (m : Nat) (hm : m ≤ 6) : heirN u x0 false m ≤ n_dM (L.1 0 (24 + x0)) m := by
  induction m with
  | zero => exact Nat.le_refl _
  | succ m ih =>
    have := ih (by omega)
    rw [heirN, n_dM]
    by_cases c : ¬ m = x0 ∧ isHr u m x0 false = true
    · have c2 := c.2
      rw [isHr, Bool.and_eq_true, if_neg (show ¬ false = true by decide), q_ch h hx (by omega)] at c2
      rw [if_pos c, c2.2]
      omega
    · rw [if_neg c]
      omega
/-- the heirs -/
theorem r_heirs (hZ : CZ N u) (h : ZR L u) (hK : ZKu u) {x0 : Nat} (hx : x0 < 6) : lvCh u x0 = decide (0 < n_dCh L x0 6) ∧ lvMany u x0 = n_dM (n_dies_138_s0 L x0) 6 ∧ lvMany u x0 ≤ 4 ∧ ∀ k, k < 6 → (n_dies_138_s0 L x0 / 2 ^ k % 2 = 1 ↔ ¬ k = x0 ∧ isHr u k x0 (lvCh u x0) = true) := by
  have e1 : n_dM (n_dCh L x0 6) 6 = heirN u x0 true 6 := dM_heir 6 (fun k hk => r_dCh hZ h hx k hk)
  have e2 : n_dM (n_dPa L x0 6) 6 = heirN u x0 false 6 := dM_heir 6 (fun k hk => r_dPa hZ h hx k hk)
  have ec : lvCh u x0 = decide (0 < n_dCh L x0 6) := by
    rw [lvCh, h.np, ← e1]
    exact decide_eq_decide.mpr (dM_0 _ (n_dCh_lt 6))
  refine ⟨ec, ?_⟩
  rw [lvMany, h.np, ec]
  by_cases c : 0 < n_dCh L x0 6
  · have eh : n_dies_138_s0 L x0 = n_dCh L x0 6 := if_pos c
    rw [decide_eq_true c, eh, e1]
    exact ⟨rfl, Nat.le_trans (heir_kid 6) (hK x0 hx), fun k hk => r_dCh hZ h hx k hk⟩
  · have eh : n_dies_138_s0 L x0 = n_dPa L x0 6 := if_neg c
    rw [decide_eq_false c, eh, e2]
    refine ⟨rfl, ?_, fun k hk => r_dPa hZ h hx k hk⟩
    have h1 := heir_par h hx 6 (Nat.le_refl _)
    obtain ⟨m, hm, em⟩ := hZ.1.P x0 (by omega)
    have h8 := (h.p hx).2.2.2.2.2.1
    rw [em, nIe (by omega) (by have := n_dM_le (h := L.1 0 (24 + x0)) 6; omega)] at h8
    omega
/-- the will -/
theorem r_willN (hZ : CZ N u) (h : ZR L u) {x0 : Nat} (hx : x0 < 6) (m : Nat) (hm : m ≤ L.1 10 1) : willN u x0 m = nI (n_willN L x0 m).1 - 1 ∧ ((n_willN L x0 m).1 = 0 → (n_willN L x0 m).2 = 0) ∧ (¬ (n_willN L x0 m).1 = 0 → (n_willN L x0 m).1 - 1 < m ∧ (n_willN L x0 m).2 = n_will_58_s0 L ((n_willN L x0 m).1 - 1) ∧ (L.1 5 ((n_willN L x0 m).1 - 1) % 4 = 1 ∨ L.1 5 ((n_willN L x0 m).1 - 1) % 4 = 2)) := by
  have hnd := h.nd
  have num : ∀ d, d < L.1 10 1 → ¬ L.1 5 d % 4 = 0 → 1 ≤ L.1 6 d ∧ L.1 6 d ≤ 60 := fun d hd hst => by
    have b6 := h.B 6 d
    have e6 : nm u d = L.1 6 d := by rw [nm, (h.d hd).nr]; exact nI_clamp (by omega)
    have h1 := (hZ.1.I.B d (by omega)).1
    have h2 := hZ.1.X.2.2.2.2.2.2.2.2.2 d (by omega) (fun z => hst ((r_22 h hd 0 (by decide)).mp z))
    omega
  induction m with
  | zero => exact ⟨rfl, fun _ => rfl, fun q => absurd rfl q⟩
  | succ m ih =>
    obtain ⟨i1, i2, i3⟩ := ih (by omega)
    have hd : m < L.1 10 1 := by omega
    have D := h.d hd
    have b6 := h.B 6 m
    have hkd := D.kd
    have hgv := D.gv
    have htk := D.tk
    obtain ⟨⟨c, w⟩, hcw⟩ : ∃ q, q = n_willN L x0 m := ⟨_, rfl⟩
    rw [← hcw] at i1 i2 i3
    have i1 : willN u x0 m = nI c - 1 := i1
    have i2 : c = 0 → w = 0 := i2
    have i3 : ¬ c = 0 → c - 1 < m ∧ w = n_will_58_s0 L (c - 1) ∧ (L.1 5 (c - 1) % 4 = 1 ∨ L.1 5 (c - 1) % 4 = 2) := i3
    have eW : isW u x0 m = true ↔ L.1 1 m % 8 = 4 ∧ L.1 1 m / 8 % 8 = x0 ∧ (L.1 5 m % 4 = 1 ∨ L.1 5 m % 4 = 2) ∧ L.1 0 (16 + (L.1 1 m / 64 % 8)) = 0 := by
      rw [isW, Bool.and_eq_true, Bool.and_eq_true, Bool.and_eq_true, Bool.or_eq_true, decide_eq_true_eq, decide_eq_true_eq, decide_eq_true_eq, decide_eq_true_eq, decide_eq_true_eq, hkd.2, hgv.2, htk.2, nI_clamp (by omega), q_dead h htk.1, show (4 : Int32) = nI 4 from rfl, nIe (by omega) (by decide), nIe (by omega) (by omega), show (1 : Int32) = nI 1 from rfl, show (2 : Int32) = nI 2 from rfl, r_22 h hd 1 (by decide), r_22 h hd 2 (by decide)]
    have key : (isW u x0 m && wBet u m (willN u x0 m)) = true ↔ (L.1 1 m) % 8 = 4 ∧ ((L.1 1 m) / 8) % 8 = x0 ∧ (L.1 0 (16 + (((L.1 1 m) / 64) % 8))) = 0 ∧ w < (n_will_58_s0 L m) := by
      rw [Bool.and_eq_true, eW]
      have goal : (L.1 5 m % 4 = 1 ∨ L.1 5 m % 4 = 2) → (wBet u m (willN u x0 m) = true ↔ w < n_will_58_s0 L m) := by
        intro hst
        have hn := num m hd (by omega)
        rw [wBet, i1]
        by_cases z : c = 0
        · have w0 := i2 z
          rw [decide_eq_true ((nIm (by omega)).mpr z), Bool.true_or]
          refine ⟨fun _ => ?_, fun _ => rfl⟩
          unfold n_will_58_s0
          (repeat' split) <;> omega
        · obtain ⟨j1, j2, j3⟩ := i3 z
          have hc : c - 1 < L.1 10 1 := by omega
          have hn2 := num (c - 1) hc (by omega)
          rw [decide_eq_false (fun q => z ((nIm (by omega)).mp q)), Bool.false_or, nI_sub1 z, nI_clamp (by omega), D.st.1, (h.d hc).st.1, D.nr, (h.d hc).nr, Bool.or_eq_true, Bool.and_eq_true, Bool.not_eq_true', decide_eq_true_eq, decide_eq_true_eq, decide_eq_false_iff_not, nI_ltI (by omega) (by omega), nIe (by omega) (by omega), nI_leI (by omega) (by omega), j2]
          unfold n_will_58_s0
          rcases hst with s1 | s1 <;> rcases j3 with s2 | s2 <;> simp only [s1, s2] <;> simp <;> omega
      constructor
      · rintro ⟨⟨q1, q2, q3, q4⟩, q5⟩
        exact ⟨q1, q2, q4, (goal q3).mp q5⟩
      · rintro ⟨q1, q2, q3, q4⟩
        have hst : L.1 5 m % 4 = 1 ∨ L.1 5 m % 4 = 2 := by
          unfold n_will_58_s0 at q4
          by_cases s1 : L.1 5 m % 4 = 1
          · exact Or.inl s1
          · rw [if_neg s1] at q4
            by_cases s2 : L.1 5 m % 4 = 2
            · exact Or.inr s2
            · rw [if_neg s2] at q4
              omega
        exact ⟨⟨q1, q2, hst, q3⟩, (goal hst).mpr q4⟩
    have eN : n_willN L x0 (m + 1) = if (L.1 1 m) % 8 = 4 ∧ ((L.1 1 m) / 8) % 8 = x0 ∧ (L.1 0 (16 + (((L.1 1 m) / 64) % 8))) = 0 ∧ w < (n_will_58_s0 L m) then (m + 1, n_will_58_s0 L m) else (c, w) := by
      rw [n_willN, ← hcw]
    rw [willN, eN]
    by_cases k : (isW u x0 m && wBet u m (willN u x0 m)) = true
    · rw [if_pos k, if_pos (key.mp k)]
      rw [Bool.and_eq_true, eW] at k
      refine ⟨(nI_pred m).symm, fun q => absurd q (Nat.succ_ne_zero m), fun _ => ?_⟩
      rw [show (m + 1, n_will_58_s0 L m).1 - 1 = m from rfl]
      exact ⟨Nat.lt_succ_self m, rfl, k.1.2.2.1⟩
    · rw [if_neg k, if_neg (fun q => k (key.mpr q))]
      exact ⟨i1, i2, fun q => ⟨by have := (i3 q).1; show c - 1 < m + 1; omega, (i3 q).2⟩⟩
end DIE
/-! exact parts -/
theorem two_pows (n : Nat) : ∀ x, x ∣ 2 ^ n → ∃ k, k ≤ n ∧ x = 2 ^ k := by
  induction n with
  | zero => exact fun x h => ⟨0, Nat.le_refl _, Nat.dvd_one.mp h⟩
  | succ n ih =>
    intro x h
    by_cases c : x % 2 = 0
    · obtain ⟨y, rfl⟩ := Nat.dvd_of_mod_eq_zero c
      rw [Nat.pow_succ, Nat.mul_comm (2 ^ n) 2] at h
      obtain ⟨k, hk, e⟩ := ih y (Nat.dvd_of_mul_dvd_mul_left (by decide) h)
      exact ⟨k + 1, by omega, by rw [e, Nat.pow_succ, Nat.mul_comm]⟩
    · have hc : Nat.Coprime x 2 := by
        have h1 := Nat.gcd_le_right x (show 0 < 2 by decide)
        have h2 := Nat.gcd_dvd_left x 2
        have h3 := Nat.gcd_pos_of_pos_right x (show 0 < 2 by decide)
        rw [Nat.coprime_iff_gcd_eq_one]
        by_cases z : Nat.gcd x 2 = 2
        · rw [z] at h2
          exact absurd (Nat.mod_eq_zero_of_dvd h2) c
        · omega
      rw [Nat.pow_succ] at h
      obtain ⟨k, hk, e⟩ := ih x (hc.dvd_of_dvd_mul_right h)
      exact ⟨k, by omega, e⟩
theorem three_pows (n : Nat) : ∀ x, x ∣ 3 ^ n → ∃ k, k ≤ n ∧ x = 3 ^ k := by
  induction n with
  | zero => exact fun x h => ⟨0, Nat.le_refl _, Nat.dvd_one.mp h⟩
  | succ n ih =>
    intro x h
    by_cases c : x % 3 = 0
    · obtain ⟨y, rfl⟩ := Nat.dvd_of_mod_eq_zero c
      rw [Nat.pow_succ, Nat.mul_comm (3 ^ n) 3] at h
      obtain ⟨k, hk, e⟩ := ih y (Nat.dvd_of_mul_dvd_mul_left (by decide) h)
      exact ⟨k + 1, by omega, by rw [e, Nat.pow_succ, Nat.mul_comm]⟩
    · have hc : Nat.Coprime x 3 := by
        have h1 := Nat.gcd_le_right x (show 0 < 3 by decide)
        have h2 := Nat.gcd_dvd_left x 3
        have h4 := Nat.gcd_dvd_right x 3
        have h3 := Nat.gcd_pos_of_pos_right x (show 0 < 3 by decide)
        rw [Nat.coprime_iff_gcd_eq_one]
        by_cases z : Nat.gcd x 3 = 3
        · rw [z] at h2
          exact absurd (Nat.mod_eq_zero_of_dvd h2) c
        · by_cases z2 : Nat.gcd x 3 = 2
          · rw [z2] at h4
            exact absurd (Nat.mod_eq_zero_of_dvd h4) (by decide)
          · omega
      rw [Nat.pow_succ] at h
      obtain ⟨k, hk, e⟩ := ih x (hc.dvd_of_dvd_mul_right h)
      exact ⟨k, by omega, e⟩
theorem parts_144 {B : Nat} (h : B ∣ PARTS) (hB : B ≤ 1000000) : 144 * B ∣ PARTS := by
  rw [show PARTS = 2 ^ 24 * 3 ^ 14 from by decide] at h ⊢
  obtain ⟨x, y, hx, hy, rfl⟩ := Nat.dvd_mul.mp h
  obtain ⟨i, hi, rfl⟩ := two_pows 24 x hx
  obtain ⟨j, hj, rfl⟩ := three_pows 14 y hy
  have p2 := Nat.two_pow_pos i
  have p3 : 0 < 3 ^ j := Nat.pow_pos (by decide)
  have i19 : i ≤ 19 := by
    refine Classical.byContradiction fun q => ?_
    have h1 : 2 ^ 20 ≤ 2 ^ i := Nat.pow_le_pow_right (by decide) (by omega)
    have h2 := Nat.mul_le_mul h1 p3
    omega
  have j12 : j ≤ 12 := by
    refine Classical.byContradiction fun q => ?_
    have h1 : 3 ^ 13 ≤ 3 ^ j := Nat.pow_le_pow_right (by decide) (by omega)
    have h2 := Nat.mul_le_mul p2 h1
    omega
  have e : 144 * (2 ^ i * 3 ^ j) = 2 ^ (i + 4) * 3 ^ (j + 2) := by
    rw [Nat.pow_add, Nat.pow_add, show 144 = 2 ^ 4 * 3 ^ 2 from by decide]
    ac_rfl
  rw [e]
  exact Nat.mul_dvd_mul (Nat.pow_dvd_pow 2 (by omega)) (Nat.pow_dvd_pow 3 (by omega))
theorem FF.x144 {s A B : Nat} (h : FF s A B) (hB : B ≤ 1000000) : ∃ q, s = 144 * q := by
  obtain ⟨g, hg, hs, g0⟩ := h.dv
  have h1 := parts_144 (B := B) ⟨g, hg⟩ hB
  rw [hg, Nat.mul_comm 144 B] at h1
  obtain ⟨q, hq⟩ := Nat.dvd_of_mul_dvd_mul_left h.2.1 h1
  exact ⟨q * A, by rw [hs, hq, Nat.mul_assoc]⟩
theorem ex_144 : ∀ a, a < 5 → ∀ b, b < 5 → 1 ≤ a → 1 ≤ b → 144 % (a * b) = 0 := by decide +kernel
/-- what a will gives, and what is left to each heir -/
theorem ex_by {all q al so by' : Nat} (h : all = 144 * q) (h1 : 1 ≤ al) (h2 : al ≤ 4) (h3 : so ≤ al) (h4 : 1 ≤ by') (h5 : by' ≤ 4) : ∃ c, all = al * by' * c ∧ all / al * so = so * by' * c ∧ (all - so * by' * c) / by' = (al - so) * c ∧ all - so * by' * c = (al - so) * by' * c := by
  obtain ⟨d, hd⟩ := Nat.dvd_of_mod_eq_zero (ex_144 al (by omega) by' (by omega) h1 h4)
  have e : all = al * by' * (d * q) := by rw [h, hd, Nat.mul_assoc]
  have e2 : all - so * by' * (d * q) = (al - so) * by' * (d * q) := by rw [e, Nat.sub_mul, Nat.sub_mul]
  refine ⟨d * q, e, ?_, ?_, e2⟩
  · rw [e, Nat.mul_assoc al, Nat.mul_div_cancel_left _ (by omega), Nat.mul_comm, Nat.mul_assoc]
  · rw [e2, Nat.mul_comm (al - so) by', Nat.mul_assoc, Nat.mul_div_cancel_left _ (by omega)]
theorem ex_cap {all q n d : Nat} {ch : Bool} (h : all = 144 * q) (h0 : 0 < all) (h1 : 1 ≤ d) (h2 : d ≤ 4) (h3 : n ≤ d) : (if ch = true then (if all < 2 * (all / d * n) then all / 2 else all / d * n) else all / d * n) = all / (lvCap ch n d).2 * (lvCap ch n d).1 := by
  cases ch with
  | false => rw [if_neg (show ¬ false = true by decide), lvCap, Bool.false_and, if_neg (show ¬ false = true by decide)]
  | true =>
    rw [if_pos rfl, lvCap, Bool.true_and]
    have e : all < 2 * (all / d * n) ↔ d < 2 * n := by
      have hd : d = 1 ∨ d = 2 ∨ d = 3 ∨ d = 4 := by omega
      have hn : n = 0 ∨ n = 1 ∨ n = 2 ∨ n = 3 ∨ n = 4 := by omega
      rcases hd with rfl | rfl | rfl | rfl <;> rcases hn with rfl | rfl | rfl | rfl | rfl <;> omega
    by_cases c : d < 2 * n
    · rw [if_pos (e.mpr c), if_pos (decide_eq_true c)]
      exact (Nat.mul_one _).symm
    · rw [if_neg (fun z => c (e.mp z)), if_neg (fun z => c (of_decide_eq_true z))]
