/-! shares as so many parts; enter -/
/-- s parts are the fraction A / B in lowest terms -/
def FF (s A B : Nat) : Prop := s * B = PARTS * A ∧ 0 < B ∧ Nat.gcd A B = 1
theorem PARTS_pos : 0 < PARTS := by decide
theorem FF.dv {s A B : Nat} (h : FF s A B) : ∃ g, PARTS = B * g ∧ s = g * A ∧ 0 < g := by
  obtain ⟨h1, h2, h3⟩ := h
  have hc : Nat.Coprime B A := by rw [Nat.coprime_iff_gcd_eq_one, Nat.gcd_comm]; exact h3
  obtain ⟨g, hg⟩ := hc.dvd_of_dvd_mul_right (show B ∣ PARTS * A from ⟨s, by rw [← h1, Nat.mul_comm]⟩)
  have hp := PARTS_pos
  refine ⟨g, hg, ?_, ?_⟩
  · rw [hg, Nat.mul_assoc, Nat.mul_comm] at h1
    exact Nat.eq_of_mul_eq_mul_left h2 h1
  · rcases Nat.eq_zero_or_pos g with z | z
    · rw [z, Nat.mul_zero] at hg
      omega
    · exact z
theorem FF.below {s A B : Nat} (h : FF s A B) : n_below s = B := by
  obtain ⟨g, hg, hs, g0⟩ := h.dv
  obtain ⟨h1, h2, h3⟩ := h
  rw [n_below]
  by_cases z : s = 0
  · rw [if_pos z]
    have hA : A = 0 := by
      rw [hs] at z
      rcases Nat.mul_eq_zero.mp z with q | q
      · omega
      · exact q
    rw [hA, Nat.gcd_zero_left] at h3
    exact h3.symm
  · have e : Nat.gcd s PARTS = g := by
      rw [hs, hg, Nat.mul_comm B g, Nat.gcd_mul_left, h3, Nat.mul_one]
    rw [if_neg z, e, hg, Nat.mul_comm]
    exact Nat.mul_div_cancel_left _ g0
theorem FF.num {s A B : Nat} (h : FF s A B) : s / (PARTS / n_below s) = A ∧ 0 < PARTS / n_below s := by
  obtain ⟨g, hg, hs, g0⟩ := h.dv
  rw [h.below, hg, Nat.mul_div_cancel_left _ h.2.1, hs]
  exact ⟨Nat.mul_div_cancel_left _ g0, g0⟩
theorem FF.red {X Nn D : Nat} (h : X * D = PARTS * Nn) (hD : 0 < D) : FF X (Nn / Nat.gcd Nn D) (D / Nat.gcd Nn D) := by
  have hg : 0 < Nat.gcd Nn D := Nat.gcd_pos_of_pos_right _ hD
  have e1 : Nn / Nat.gcd Nn D * Nat.gcd Nn D = Nn := Nat.div_mul_cancel (Nat.gcd_dvd_left _ _)
  have e2 : D / Nat.gcd Nn D * Nat.gcd Nn D = D := Nat.div_mul_cancel (Nat.gcd_dvd_right _ _)
  refine ⟨?_, Nat.div_pos (Nat.gcd_le_right _ hD) hg, ?_⟩
  · refine Nat.eq_of_mul_eq_mul_right hg ?_
    rw [Nat.mul_assoc, e2, Nat.mul_assoc, e1]
    exact h
  · exact Nat.coprime_div_gcd_div_gcd hg
theorem FF.dn {s A B part x y : Nat} (h : FF s A B) (hp : part * y = PARTS * x) (hy : 0 < y) : FF (s - part) ((A * y - x * B) / Nat.gcd (A * y - x * B) (B * y)) (B * y / Nat.gcd (A * y - x * B) (B * y)) := by
  refine FF.red ?_ (Nat.mul_pos h.2.1 hy)
  rw [Nat.sub_mul, Nat.mul_sub, ← Nat.mul_assoc s, h.1, ← Nat.mul_assoc PARTS A y, Nat.mul_comm B y, ← Nat.mul_assoc part, hp, Nat.mul_assoc PARTS x B]
theorem FF.up {s A B part x y : Nat} (h : FF s A B) (hp : part * y = PARTS * x) (hy : 0 < y) : FF (s + part) ((A * y + x * B) / Nat.gcd (A * y + x * B) (B * y)) (B * y / Nat.gcd (A * y + x * B) (B * y)) := by
  refine FF.red ?_ (Nat.mul_pos h.2.1 hy)
  rw [Nat.add_mul, Nat.mul_add, ← Nat.mul_assoc s, h.1, ← Nat.mul_assoc PARTS A y, Nat.mul_comm B y, ← Nat.mul_assoc part, hp, Nat.mul_assoc PARTS x B]
theorem FF.lt {s A B part x y : Nat} (h : FF s A B) (hp : part * y = PARTS * x) (hy : 0 < y) : s < part ↔ A * y < x * B := by
  have h1 : s * (B * y) = PARTS * (A * y) := by rw [← Nat.mul_assoc, h.1, Nat.mul_assoc]
  have h2 : part * (B * y) = PARTS * (x * B) := by rw [Nat.mul_comm B y, ← Nat.mul_assoc, hp, Nat.mul_assoc]
  have hD := Nat.mul_pos h.2.1 hy
  constructor
  · intro q
    have := Nat.mul_lt_mul_of_pos_right q hD
    rw [h1, h2] at this
    exact Nat.lt_of_mul_lt_mul_left this
  · intro q
    have := Nat.mul_lt_mul_of_pos_left q PARTS_pos
    rw [← h1, ← h2] at this
    exact Nat.lt_of_mul_lt_mul_right this
theorem parts_dv : ∀ y, 1 ≤ y → y ≤ 4 → PARTS / y * y = PARTS := fun y h1 h2 => by
  have : y = 1 ∨ y = 2 ∨ y = 3 ∨ y = 4 := by omega
  rcases this with rfl | rfl | rfl | rfl <;> decide
section OPS
variable {L : ZU} {u : MU} {N : Nat}
/-- the row's terms -/
theorem ZR.ff (hZ : CZ N u) (h : ZR L u) {t k : Nat} (ht : t < 2) (hk : k < 7) : FF (L.2 (7 * t + k)) (vN (u.2.1 33 (13 * t + kk k))) (vN (u.2.1 34 (13 * t + kk k))) ∧ vN (u.2.1 33 (13 * t + kk k)) ≤ vN (u.2.1 34 (13 * t + kk k)) ∧ vN (u.2.1 34 (13 * t + kk k)) ≤ 1000000 ∧ u.2.1 33 (13 * t + kk k) = lN (vN (u.2.1 33 (13 * t + kk k))) ∧ u.2.1 34 (13 * t + kk k) = lN (vN (u.2.1 34 (13 * t + kk k))) := by
  have k13 : kk k < 13 := by unfold kk; split <;> omega
  obtain ⟨f, hf, hok, -⟩ := hZ.1.Q.f (t := t) (by rw [h.nt]; exact ht)
  have q := hf _ k13
  have w := hok _ k13
  have s3 := hok.s k13
  obtain ⟨e1, e2⟩ := q.v s3.1 s3.2.1
  have hs := h.s ht hk
  rw [ZRs] at hs
  refine ⟨⟨hs, ?_, ?_⟩, ?_, ?_, ?_, ?_⟩
  · rw [e2]; exact (f (kk k)).den_pos
  · rw [e1, e2]
    have hr := (f (kk k)).reduced
    have h0 := Rat.num_nonneg.mpr w.1
    rw [show (f (kk k)).num.toNat = (f (kk k)).num.natAbs by omega]
    exact hr
  · rw [e1, e2]; exact s3.2.2
  · rw [e2]; exact w.2.2
  · rw [e1]; exact q.2.1
  · rw [e2]; exact q.2.2
theorem ZR.bJ (hZ : CZ N u) (h : ZR L u) (i : Nat) : L.2 i ≤ PARTS := by
  by_cases c : i < 14
  · have key : ∀ t k, t < 2 → k < 7 → L.2 (7 * t + k) ≤ PARTS := fun t k ht hk => by
      obtain ⟨⟨h1, h2, h3⟩, h4, -⟩ := h.ff hZ ht hk
      have := Nat.mul_le_mul_left PARTS h4
      rw [← h1] at this
      exact Nat.le_of_mul_le_mul_right this h2
    by_cases z : i < 7
    · have := key 0 i (by decide) z
      rw [Nat.mul_zero, Nat.zero_add] at this
      exact this
    · have := key 1 (i - 7) (by decide) (by omega)
      rw [show 7 * 1 + (i - 7) = i by omega] at this
      exact this
  · rw [h.o (by omega)]
    exact Nat.zero_le _
/-- the shares change -/
theorem ZR.shares (h : ZR L u) {L' : ZU} {v : MU} (e1 : v.1 = u.1) (e2 : v.2.2 = u.2.2) (eL : L'.1 = L.1) (hs : ∀ t, t < 2 → ∀ k, k < 7 → ZRs L' v t k) (ho : ∀ i, 14 ≤ i → L'.2 i = 0) : ZR L' v := by
  refine ⟨fun k i => by rw [eL]; exact h.B k i, ?_, fun p hp => (h.p hp).eq (fun j => by rw [eL]) (fun k _ => by rw [e1]), fun d hd => ?_, fun d q1 q2 => ?_, fun e he => ?_, by rw [e1]; exact h.w, hs, ho⟩
  · unfold ZRn
    rw [eL, e2]
    exact h.n
  · rw [eL] at hd
    exact (h.d hd).eq (fun k _ _ => by rw [eL]) (fun k _ _ _ => by rw [e1]) (fun j _ => by rw [e1])
  · rw [eL] at q1
    unfold ZR0
    rw [eL]
    exact h.z q1 q2
  · rw [eL] at he
    unfold ZRe
    rw [eL, e1]
    exact h.e he
theorem ZR.duty (h : ZR L u) {D : Nat} (hD : D < 2 ^ 30) : ZR (zI L 10 4 D) (uT u (lN D)) := by
  have t : ∀ j, j ≠ 4 → (zI L 10 4 D).1 10 j = L.1 10 j := fun j hj => zI_n hj
  refine ⟨h.B.set hD, ?_, fun p hp => (h.p hp).eq (fun j => zI_k (by decide)) (fun _ _ => rfl), fun d hd => ?_, fun d q1 q2 => ?_, fun e he => ?_, h.w, fun t ht k hk => h.s ht hk, fun i hi => h.o hi⟩
  · unfold ZRn
    rw [zI_s, t 0 (by decide), t 1 (by decide), t 2 (by decide), t 3 (by decide)]
    have hn := h.n
    exact ⟨hn.1, hn.2.1, hn.2.2.1, hn.2.2.2.1, hn.2.2.2.2.1, hn.2.2.2.2.2.1, rfl⟩
  · rw [t 1 (by decide)] at hd
    exact (h.d hd).eq (fun k _ _ => zI_k (by omega)) (fun _ _ _ _ => rfl) (fun _ _ => rfl)
  · rw [t 1 (by decide)] at q1
    exact h.z q1 q2
  · rw [t 3 (by decide)] at he
    exact h.e he
/-- an entry more -/
theorem ZR.entry (h : ZR L u) (hn3 : L.1 10 3 ≤ 27) {r : Nat} {s w t : Int32} (hr : r < 2048) (es : s = nI (r % 8)) (ew : w = nI (r / 8 % 64)) (et : t = nI (r / 512)) : ZR (zI (zI L 12 (L.1 10 3) r) 10 3 (L.1 10 3 + 1)) (upComes u s w t) := by
  have ne := h.ne
  have t0 : ∀ j, j ≠ 3 → (zI (zI L 12 (L.1 10 3) r) 10 3 (L.1 10 3 + 1)).1 10 j = L.1 10 j := fun j hj => by rw [zI_n hj, zI_k (by decide)]
  have t3 : (zI (zI L 12 (L.1 10 3) r) 10 3 (L.1 10 3 + 1)).1 10 3 = L.1 10 3 + 1 := zI_s
  have un : ∀ k j, (k < 36 ∨ 39 < k ∨ j ≠ L.1 10 3) → (upComes u s w t).1 k j = u.1 k j := fun k j q => by
    show (uI (uI (uI (uI u 36 (u.2.2.1 35) s) 37 (u.2.2.1 35) w) 38 (u.2.2.1 35) t) 39 (u.2.2.1 35) u.2.2.2.1).1 k j = _
    rw [ne.1, uI_ne (by omega), uI_ne (by omega), uI_ne (by omega), uI_ne (by omega)]
  have ua : (upComes u s w t).1 36 (L.1 10 3) = s ∧ (upComes u s w t).1 37 (L.1 10 3) = w ∧ (upComes u s w t).1 38 (L.1 10 3) = t := by
    have e : (upComes u s w t).1 = (uI (uI (uI (uI u 36 (L.1 10 3) s) 37 (L.1 10 3) w) 38 (L.1 10 3) t) 39 (L.1 10 3) u.2.2.2.1).1 := by
      show (uI (uI (uI (uI u 36 (u.2.2.1 35) s) 37 (u.2.2.1 35) w) 38 (u.2.2.1 35) t) 39 (u.2.2.1 35) u.2.2.2.1).1 = _
      rw [ne.1]
    rw [e]
    refine ⟨?_, ?_, ?_⟩
    · rw [uI_ne (by omega), uI_ne (by omega), uI_ne (by omega), uI_at]
    · rw [uI_ne (by omega), uI_ne (by omega), uI_at]
    · rw [uI_ne (by omega), uI_at]
  refine ⟨(h.B.set (by omega)).set (by omega), ?_, fun p hp => (h.p hp).eq (fun j => by rw [zI_k (by decide), zI_k (by decide)]) (fun k hk => funext fun j => un k j (by omega)), fun d hd => ?_, fun d q1 q2 => ?_, fun e he => ?_, ?_, fun q hq k hk => ?_, fun i hi => h.o hi⟩
  · unfold ZRn
    rw [t3, t0 0 (by decide), t0 1 (by decide), t0 2 (by decide), t0 4 (by decide)]
    have hn := h.n
    refine ⟨hn.1, hn.2.1, hn.2.2.1, hn.2.2.2.1, ⟨?_, by omega⟩, hn.2.2.2.2.2.1, hn.2.2.2.2.2.2⟩
    show u.2.2.1 35 + 1 = _
    rw [ne.1]
  · rw [t0 1 (by decide)] at hd
    exact (h.d hd).eq (fun k _ _ => by rw [zI_k (by omega), zI_k (by omega)]) (fun k _ _ _ => un k d (by omega)) (fun j _ => un 28 _ (by omega))
  · rw [t0 1 (by decide)] at q1
    have e : ∀ k, k ≤ 9 → (zI (zI L 12 (L.1 10 3) r) 10 3 (L.1 10 3 + 1)).1 k d = L.1 k d := fun k hk => by rw [zI_k (by omega), zI_k (by omega)]
    obtain ⟨a3, a4, a5, a6, a7, a8, a9⟩ := h.z q1 q2
    exact ⟨(e 3 (by decide)).trans a3, (e 4 (by decide)).trans a4, (e 5 (by decide)).trans a5, (e 6 (by decide)).trans a6, (e 7 (by decide)).trans a7, (e 8 (by decide)).trans a8, (e 9 (by decide)).trans a9⟩
  · rw [t3] at he
    by_cases z : e = L.1 10 3
    · subst z
      have e12 : (zI (zI L 12 (L.1 10 3) r) 10 3 (L.1 10 3 + 1)).1 12 (L.1 10 3) = r := by rw [zI_k (by decide), zI_s]
      unfold ZRe
      rw [e12, ua.1, ua.2.1, ua.2.2]
      exact ⟨hr, es, ew, et⟩
    · have e12 : (zI (zI L 12 (L.1 10 3) r) 10 3 (L.1 10 3 + 1)).1 12 e = L.1 12 e := by rw [zI_k (by decide), zI_n z]
      unfold ZRe
      rw [e12, un 36 e (by omega), un 37 e (by omega), un 38 e (by omega)]
      exact h.e (by omega)
  · rw [un 32 0 (by omega), un 32 1 (by omega)]; exact h.w
  · exact h.s hq hk
theorem zJ_id {L : ZU} {i v : Nat} (h : L.2 i = v) : zJ L i v = L := by
  subst h
  refine Prod.ext rfl (funext fun j => ?_)
  rw [zJ_a]
  split
  · next q => rw [q]
  · rfl
theorem ent_33 {d k : Nat} (h1 : k ≠ 41) (h2 : k ≠ 42) : (ent u d).2.2.1 k = u.2.1 k := by
  unfold ent entX
  have l : (lay u).2.1 k = u.2.1 k := by funext j; simp [lay, layP, h1, h2]
  split
  · rfl
  · split
    · rfl
    · split
      · exact l
      · show (fPut _ _ _ _ _).2.1 k = _
        rw [fPut_k h1 h2, fPut_k h1 h2, l]
/-- what stands ready to be entered -/
theorem r_ready (h : ZR L u) (hn3 : L.1 10 3 ≤ 28) {d : Nat} (hd : d < L.1 10 1) : ready u d = true ↔ ¬ 2 < L.1 1 d % 8 ∧ L.1 5 d % 4 = 1 ∧ ¬ n_least (L.1 9 d) < 0 ∧ ¬ nI 1 < n_least (L.1 9 d) ∧ ¬ 0 < L.1 8 d ∧ ¬ 0 < L.1 0 (16 + (L.1 1 d / 8 % 8)) + L.1 0 (16 + (L.1 1 d / 64 % 8)) := by
  have D := h.d hd
  have hk := D.kd
  have hg := D.gv
  have ht := D.tk
  have hi := D.et
  have b8 := h.B 8 d
  have p1 : isOfT u d = true ↔ ¬ 2 < L.1 1 d % 8 := by
    rw [isOfT, hk.2, Bool.not_eq_true', decide_eq_false_iff_not, show (2 : Int32) = nI 2 from rfl, nI_ltI (by decide) (by omega)]
  have p2 : u.1 22 d = 1 ↔ L.1 5 d % 4 = 1 := r_22 h hd 1 (by decide)
  have hl := n_lst_le (p := L.1 9 d)
  have el : least u d = nI (n_lst (L.1 9 d)) - 1 := by rw [← r_least h hd, n_least_k]
  have p3 : least u d = -1 ↔ n_least (L.1 9 d) < 0 := by
    rw [el, n_least_k, nIm (by omega)]
    constructor
    · intro q
      rw [q]
      decide
    · intro q
      by_cases z : n_lst (L.1 9 d) = 0
      · exact z
      · rw [nI_sub1 z] at q
        exact absurd q (nI_pos (by omega))
  have p5 : u.1 25 d = -1 ↔ ¬ 0 < L.1 8 d := by rw [hi.2, nIm (by omega)]; omega
  have p6 : ¬ nI (u.2.2.1 35) = 100 := by
    rw [h.ne.1, show (100 : Int32) = nI 100 from rfl, nIe (by omega) (by decide)]
    omega
  rw [ready, Bool.and_eq_true, Bool.and_eq_true, Bool.and_eq_true, Bool.and_eq_true, Bool.and_eq_true, Bool.and_eq_true, Bool.and_eq_true, p1, decide_eq_true_eq, p2, Bool.not_eq_true', decide_eq_false_iff_not, p3, Bool.not_eq_true', decide_eq_false_iff_not, r_least h hd, decide_eq_true_eq, p5, Bool.not_eq_true', decide_eq_false_iff_not, decide_eq_true_eq, decide_eq_true_eq, hg.2, ht.2, nI_clamp (by omega), nI_clamp (by omega), q_dead h hg.1, q_dead h ht.1]
  constructor
  · rintro ⟨q1, q2, q3, q4, q5, q6, q7, q8⟩
    exact ⟨q1, q2, q3, q4, q5, by omega⟩
  · rintro ⟨q1, q2, q3, q4, q5, q6⟩
    exact ⟨q1, q2, q3, q4, q5, p6, by omega, by omega⟩
end OPS
