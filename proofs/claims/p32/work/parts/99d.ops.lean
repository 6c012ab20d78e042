/-! one call on both sides: what it tells, and that the sides stay together -/
theorem zI_id {L : ZU} {k i v : Nat} (h : L.1 k i = v) : zI L k i v = L := by
  subst h
  refine Prod.ext (funext fun a => funext fun j => ?_) rfl
  rw [zI_a]
  split
  · next q => rw [q.1, q.2]
  · rfl
theorem ZRp.eq {L L' : ZU} {u u' : MU} {p : Nat} (h : ZRp L u p) (hL : ∀ j, L'.1 0 j = L.1 0 j) (hu : ∀ k, k ≤ 9 → u'.1 k = u.1 k) : ZRp L' u' p := by
  obtain ⟨⟨a1, a2, a3⟩, ⟨b1, b2⟩, ⟨c1, c2⟩, ⟨d1, d2⟩, e1, e2, e3⟩ := h
  refine ⟨⟨?_, ?_, ?_⟩, ⟨?_, ?_⟩, ⟨?_, ?_⟩, ⟨?_, ?_⟩, ?_, ?_, fun q hq => ?_⟩
  · rw [hu 3 (by decide)]; exact a1
  · rw [hu 4 (by decide)]; exact a2
  · rw [hL]; exact a3
  · rw [hL]; exact b1
  · rw [hL, hu 5 (by decide)]; exact b2
  · rw [hL]; exact c1
  · rw [hL, hu 6 (by decide)]; exact c2
  · rw [hL]; exact d1
  · rw [hL, hu 9 (by decide)]; exact d2
  · rw [hL]; exact e1
  · rw [hL, hu 8 (by decide)]; exact e2
  · rw [hL, isCh_78 (hu 7 (by decide)) (hu 8 (by decide))]; exact e3 q hq
theorem ZPp.eq {L L' : ZU} {u u' : MU} {d : Nat} (h : ZPp L u d) (h9 : L'.1 9 d = L.1 9 d) (h29 : u'.1 29 d = u.1 29 d) (h28 : ∀ j, j < 4 → u'.1 28 (4 * d + j) = u.1 28 (4 * d + j)) : ZPp L' u' d := by
  obtain ⟨a, s, t, h1, h2, h3, h4, h5, h6, h7, h8⟩ := h
  exact ⟨a, s, t, h1, h2, h3, h4, h29.trans h5, fun j hj => (h28 j (by omega)).trans (h6 j hj), fun j hj hk => (h28 j (by omega)).trans (h7 j hj hk), h9.trans h8⟩
theorem ZRd.eq {L L' : ZU} {u u' : MU} {d : Nat} (h : ZRd L u d) (hL : ∀ k, 1 ≤ k → k ≤ 9 → L'.1 k d = L.1 k d) (hu : ∀ k, 11 ≤ k → k ≤ 29 → k ≠ 28 → u'.1 k d = u.1 k d) (h28 : ∀ j, j < 4 → u'.1 28 (4 * d + j) = u.1 28 (4 * d + j)) : ZRd L' u' d := by
  refine ⟨?_, ?_, ?_, ?_, ?_, ?_, ?_, ?_, ?_, ?_, ?_, ?_, ?_, h.pp.eq (hL 9 (by decide) (by decide)) (hu 29 (by decide) (by decide) (by decide)) h28⟩
  · rw [hL 1 (by decide) (by decide), hu 11 (by decide) (by decide) (by decide)]; exact h.kd
  · rw [hL 1 (by decide) (by decide), hu 12 (by decide) (by decide) (by decide)]; exact h.gv
  · rw [hL 1 (by decide) (by decide), hu 13 (by decide) (by decide) (by decide)]; exact h.tk
  · rw [hL 1 (by decide) (by decide)]; exact h.ne
  · rw [hL 1 (by decide) (by decide), hu 14 (by decide) (by decide) (by decide)]; exact h.th
  · rw [hL 1 (by decide) (by decide), hL 2 (by decide) (by decide), hu 15 (by decide) (by decide) (by decide), hu 16 (by decide) (by decide) (by decide)]; exact h.sh
  · rw [hL 1 (by decide) (by decide), hL 2 (by decide) (by decide), hu 17 (by decide) (by decide) (by decide), hu 18 (by decide) (by decide) (by decide)]; exact h.en
  · rw [hL 3 (by decide) (by decide), hu 19 (by decide) (by decide) (by decide)]; exact h.by
  · rw [hL 4 (by decide) (by decide), hu 20 (by decide) (by decide) (by decide), hu 21 (by decide) (by decide) (by decide)]; exact h.pa
  · rw [hL 5 (by decide) (by decide), hu 22 (by decide) (by decide) (by decide), hu 26 (by decide) (by decide) (by decide), hu 27 (by decide) (by decide) (by decide)]; exact h.st
  · rw [hL 6 (by decide) (by decide), hu 23 (by decide) (by decide) (by decide)]; exact h.nr
  · rw [hL 5 (by decide) (by decide), hL 7 (by decide) (by decide), hu 24 (by decide) (by decide) (by decide)]; exact h.dy
  · rw [hL 8 (by decide) (by decide), hu 25 (by decide) (by decide) (by decide)]; exact h.et
/-- one deed's rows change -/
theorem ZR.deed {L L' : ZU} {u u' : MU} (h : ZR L u) {d0 : Nat} (hB : ZB L') (hn : ZRn L' u') (e1 : L'.1 10 1 = L.1 10 1) (e3 : L'.1 10 3 = L.1 10 3) (hd0 : d0 < L.1 10 1) (hL : ∀ k j, (k = 0 ∨ k = 12 ∨ (k ≤ 9 ∧ j ≠ d0)) → L'.1 k j = L.1 k j) (hu : ∀ k j, (k ≤ 9 ∨ 30 ≤ k ∨ (k ≠ 28 ∧ j ≠ d0)) → u'.1 k j = u.1 k j) (h28 : ∀ d, d ≠ d0 → ∀ j, j < 4 → u'.1 28 (4 * d + j) = u.1 28 (4 * d + j)) (hJ : L'.2 = L.2) (hj : u'.2.1 = u.2.1) (hd : ZRd L' u' d0) : ZR L' u' := by
  refine ⟨hB, hn, fun p hp => (h.p hp).eq (fun j => hL 0 j (Or.inl rfl)) (fun k hk => funext fun j => hu k j (Or.inl hk)), fun d hd2 => ?_, fun d h1 h2 => ?_, fun e he => ?_, ?_, fun t ht k hk => ?_, fun i hi => ?_⟩
  · rw [e1] at hd2
    by_cases z : d = d0
    · rw [z]; exact hd
    · exact (h.d hd2).eq (fun k h1 h2 => hL k d (Or.inr (Or.inr ⟨h2, z⟩))) (fun k h1 h2 h3 => hu k d (Or.inr (Or.inr ⟨h3, z⟩))) (h28 d z)
  · rw [e1] at h1
    have z : d ≠ d0 := by omega
    have r : ∀ k, k ≤ 9 → L'.1 k d = L.1 k d := fun k hk => hL k d (Or.inr (Or.inr ⟨hk, z⟩))
    obtain ⟨a3, a4, a5, a6, a7, a8, a9⟩ := h.z h1 h2
    exact ⟨(r 3 (by decide)).trans a3, (r 4 (by decide)).trans a4, (r 5 (by decide)).trans a5, (r 6 (by decide)).trans a6, (r 7 (by decide)).trans a7, (r 8 (by decide)).trans a8, (r 9 (by decide)).trans a9⟩
  · rw [e3] at he
    obtain ⟨a1, a2, a3, a4⟩ := h.e he
    have r := hL 12 e (Or.inr (Or.inl rfl))
    exact ⟨by rw [r]; exact a1, by rw [r, hu 36 e (Or.inr (Or.inl (by decide)))]; exact a2, by rw [r, hu 37 e (Or.inr (Or.inl (by decide)))]; exact a3, by rw [r, hu 38 e (Or.inr (Or.inl (by decide)))]; exact a4⟩
  · exact ⟨(hu 32 0 (Or.inr (Or.inl (by decide)))).trans h.w.1, (hu 32 1 (Or.inr (Or.inl (by decide)))).trans h.w.2⟩
  · have := h.s ht hk
    rw [ZRs] at this ⊢
    rw [hJ, hj]
    exact this
  · rw [hJ]; exact h.o hi
theorem bits_or : ∀ e, e < 2048 → ∀ p, p < 32 → (e ||| p) % 32 = e % 32 ||| p ∧ (e ||| p) / 32 = e / 32 ∧ (e &&& p) = (e % 32 &&& p) := fun e _ p hp => by
  refine ⟨?_, ?_, ?_⟩
  · rw [show (32 : Nat) = 2 ^ 5 from rfl, Nat.or_mod_two_pow, Nat.mod_eq_of_lt (a := p) (by omega)]
  · rw [show (32 : Nat) = 2 ^ 5 from rfl, Nat.or_div_two_pow, Nat.div_eq_of_lt (a := p) (by omega), Nat.or_zero]
  · have h1 : (e &&& p) < 32 := Nat.lt_of_le_of_lt Nat.and_le_right hp
    have h2 : (e &&& p) % 32 = e % 32 &&& p % 32 := Nat.and_mod_two_pow (n := 5)
    rw [Nat.mod_eq_of_lt h1, Nat.mod_eq_of_lt hp] at h2
    exact h2
section OPS
variable {L : ZU} {u : MU} {N : Nat}
theorem ZR.isd (h : ZR L u) (hZ : CZ N u) {d : Nat} (hd : d < L.1 10 1) : ¬ isDd u (nI d) = false := by
  rw [isDd_in hZ.1.W (by rw [h.nd.1]; exact hd)]
  decide
theorem ZR.isp (h : ZR L u) (hZ : CZ N u) {p : Nat} (hp : p < 6) : ¬ isP u (nI p) = false := by
  rw [isP_in hZ.1.W (by rw [h.np]; exact hp)]
  decide
theorem r_e (h : ZR L u) {d : Nat} (hd : d < L.1 10 1) : L.1 4 d < 2048 := by
  have := (h.d hd).pa.2.2
  omega
theorem r_22 (h : ZR L u) {d : Nat} (hd : d < L.1 10 1) (k : Nat) (hk : k < 4) : u.1 22 d = nI k ↔ L.1 5 d % 4 = k := by
  rw [(h.d hd).st.1]
  exact nIe (by omega) (by omega)
theorem ZR.n4 (h : ZR L u) {d k v : Nat} {w : Int32} {a : Nat} (hk : k ≤ 9) : ZRn (zI L k d v) (uI u a d w) := by
  have e : ∀ j, (zI L k d v).1 10 j = L.1 10 j := fun j => zI_k (by omega)
  unfold ZRn
  rw [e, e, e, e, e]
  exact h.n
/-- add -/
theorem r_add (hZ : CZ N u) (h : ZR L u) {d part : Nat} (hd : d < L.1 10 1) (hp : part = 4 ∨ part = 16) : ((opAdd u (nI d) (nI part)).1 = 0 ∨ (opAdd u (nI d) (nI part)).1 = 3) ∧ opr (opAdd u (nI d) (nI part)) = n_add_317_s0 L d part ∧ ZR (zI L 4 d ((L.1 4 d) ||| (n_add_283_s0 L d part))) (opAdd u (nI d) (nI part)).2.2 := by
  have D := h.d hd
  have hnd := h.nd
  have e0 := r_e h hd
  obtain ⟨b1, b2, b3⟩ := bits_or (L.1 4 d) e0 part (by omega)
  have hcl : (nI d).toNatClampNeg = d := nI_clamp (by omega)
  have h4 : ¬ (¬ nI part = 4 ∧ ¬ nI part = 16) := by rcases hp with rfl | rfl <;> decide
  have hand : (u.1 20 d &&& nI part ≤ 0) ↔ L.1 4 d &&& part = 0 := by
    rw [D.pa.1, nI_and, ← b3, show (0 : Int32) = nI 0 from rfl, nI_leI (Nat.lt_of_le_of_lt Nat.and_le_left (by omega)) (by decide)]
    omega
  have hz : u.1 22 d = 0 ↔ L.1 5 d % 4 = 0 := r_22 h hd 0 (by decide)
  have hop : opAdd u (nI d) (nI part) = if (n_add_264_s0 L d part) = true then (0, u.1 20 d ||| nI part, uI u 20 d (u.1 20 d ||| nI part)) else (3, 0, u) := by
    rw [opAdd, if_neg (h.isd hZ hd), if_neg h4, hcl, n_add_264_s0]
    by_cases c1 : L.1 5 d % 4 = 0
    · rw [if_pos c1]
      by_cases c2 : L.1 4 d &&& part = 0
      · rw [if_pos c2, if_pos rfl, if_neg (by rintro (q | q); exact q (hz.mpr c1); exact q (hand.mpr c2))]
      · rw [if_neg c2, if_neg Bool.false_ne_true, if_pos (Or.inr (fun q => c2 (hand.mp q)))]
    · rw [if_neg c1, if_neg Bool.false_ne_true, if_pos (Or.inl (fun q => c1 (hz.mp q)))]
  rw [hop, n_add_317_s0, n_add_283_s0]
  by_cases c : (n_add_264_s0 L d part) = true
  · rw [if_pos c, if_pos c, if_pos c]
    refine ⟨Or.inl rfl, ?_, ?_⟩
    · rw [opr, if_pos rfl, D.pa.1, nI_or, b1]
    · have lt : L.1 4 d ||| part < 2 ^ 11 := Nat.or_lt_two_pow (by omega) (by omega)
      refine h.deed (d0 := d) (h.B.set (by omega)) (h.n4 (by decide)) (zI_k (by decide)) (zI_k (by decide)) hd (fun k j hk => ?_) (fun k j hk => ?_) (fun d' hd' j hj => ?_) rfl rfl ?_
      · rw [zI_a, if_neg (by omega)]
      · rw [uI_I]
        split
        · next q => rw [if_neg (by omega), q]
        · rfl
      · rw [uI_I, if_neg (by decide)]
      · refine ⟨D.kd, D.gv, D.tk, D.ne, D.th, D.sh, D.en, D.by, ?_, D.st, D.nr, D.dy, D.et, D.pp⟩
        rw [zI_s, uI_at, b1, b2, D.pa.1, nI_or]
        exact ⟨rfl, D.pa.2.1, D.pa.2.2⟩
  · rw [if_neg c, if_neg c, if_neg c]
    refine ⟨Or.inr rfl, rfl, ?_⟩
    rw [Nat.or_zero, zI_id rfl]
    exact h
end OPS
