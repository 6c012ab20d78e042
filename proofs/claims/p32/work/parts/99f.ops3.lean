/-! close, sign -/
def prN (fi : Bool) : Nat := if fi = true then 1 else 2
def whN (L : ZU) (d : Nat) (fi : Bool) : Nat := if fi = true then L.1 1 d / 8 % 8 else L.1 1 d / 64 % 8
def n_sgnA (L : ZU) (d one : Nat) (fi g b : Bool) : Int32 :=
  if 0 < L.1 5 d % 4 then -1003 else if 0 < L.1 4 d &&& prN fi then -1003 else
  if n_able L one = true then (if (if L.1 1 d % 8 = 4 then true else false) = true then (if fi = true then (if one = whN L d fi then nI ((L.1 4 d ||| prN fi) % 32) else -1003) else -1003) else (if one = whN L d fi then nI ((L.1 4 d ||| prN fi) % 32) else (if one = whN L d (!fi) then -1003 else (if g = true then nI ((L.1 4 d ||| prN fi) % 32) else (if b = true then nI ((L.1 4 d ||| prN fi) % 32) else -1003))))) else -1003
def n_sgnL (L : ZU) (d one : Nat) (fi g b : Bool) (kc : Nat) : ZU :=
  if 0 < L.1 5 d % 4 then L else if 0 < L.1 4 d &&& prN fi then L else
  if n_able L one = true then (if (if L.1 1 d % 8 = 4 then true else false) = true then (if fi = true then (if one = whN L d fi then zI L 4 d (L.1 4 d ||| prN fi) else L) else L) else (if one = whN L d fi then zI L 4 d (L.1 4 d ||| prN fi) else (if one = whN L d (!fi) then L else (if g = true then zI (zI L 3 d (L.1 3 d)) 4 d (L.1 4 d ||| prN fi) else (if b = true then zI (zI L 3 d (if fi = true then kc else L.1 3 d)) 4 d (L.1 4 d ||| prN fi) else L))))) else L
theorem n_signs0_A {L : ZU} {d one : Nat} {fi : Bool} : n_signs0 L d one fi = n_sgnA L d one fi (n_signs0_162_s0 L d one fi) false := by cases fi <;> rfl
theorem n_signs0_L {L : ZU} {d one : Nat} {fi : Bool} : n_signs0L L d one fi = n_sgnL L d one fi (n_signs0_162_s0 L d one fi) false 0 := by cases fi <;> rfl
theorem n_signs1_A {L : ZU} {d one k : Nat} {fi : Bool} : n_signs1 L d one fi k = n_sgnA L d one fi (n_signs1_162_s0 L d one fi k) (n_signs1_270_s0 L d one fi k) := by cases fi <;> rfl
theorem n_signs1_L {L : ZU} {d one k : Nat} {fi : Bool} : n_signs1L L d one fi k = n_sgnL L d one fi (n_signs1_162_s0 L d one fi k) (n_signs1_270_s0 L d one fi k) (k + 1) := by cases fi <;> rfl
section OPS
variable {L : ZU} {u : MU} {N : Nat}
/-- how it closes -/
theorem r_needs (h : ZR L u) {d : Nat} (hd : d < L.1 10 1) : needs u d = nI (((5 + n_closes_85_s0 L d) + n_closes_104_s0 L d) + n_closes_138_s0 L d) ∧ leastP u d = nI (n_closes_175_s0 L d) := by
  have D := h.d hd
  have hk := D.kd
  have hg := D.gv
  have ht := D.tk
  have pg := (h.p hg.1).2.1
  have pt := (h.p ht.1).2.1
  have ofT : isOfT u d = n_closes_72_s0 L d := by
    rw [isOfT, hk.2, n_closes_72_s0, show (2 : Int32) = nI 2 from rfl, decide_eq_decide.mpr (nI_ltI (a := 2) (b := L.1 1 d % 8) (by decide) (by omega))]
    by_cases c : L.1 1 d % 8 < 3
    · rw [if_pos c, decide_eq_false (by omega)]; rfl
    · rw [if_neg c, decide_eq_true (by omega)]; rfl
  have k14 : (u.1 11 d = 1 ∨ u.1 11 d = 4) ↔ (L.1 1 d % 8 = 1 ∨ L.1 1 d % 8 = 4) := by
    rw [hk.2, show (1 : Int32) = nI 1 from rfl, show (4 : Int32) = nI 4 from rfl, nIe (by omega) (by decide), nIe (by omega) (by decide)]
  have c5 : ∀ p, p < 6 → (¬ u.1 5 p = 0 ↔ L.1 0 (8 + p) = 1) := fun p hp => by
    have := (h.p hp).2.1
    rw [this.2, nIz (by omega)]
    omega
  constructor
  · have A : (if isOfT u d = true then (2 : Int32) else 0) = nI (n_closes_85_s0 L d) ∧ (n_closes_85_s0 L d = 0 ∨ n_closes_85_s0 L d = 2) := by
      rw [ofT, n_closes_85_s0]
      split
      · exact ⟨rfl, Or.inr rfl⟩
      · exact ⟨rfl, Or.inl rfl⟩
    have B : (if u.1 11 d = 1 ∨ u.1 11 d = 4 then (8 : Int32) else 0) = nI (n_closes_104_s0 L d) ∧ (n_closes_104_s0 L d = 0 ∨ n_closes_104_s0 L d = 8) := by
      rw [n_closes_104_s0]
      by_cases c1 : L.1 1 d % 8 = 1
      · rw [if_pos (k14.mpr (Or.inl c1)), if_pos c1]; exact ⟨rfl, Or.inr rfl⟩
      · rw [if_neg c1]
        by_cases c2 : L.1 1 d % 8 = 4
        · rw [if_pos (k14.mpr (Or.inr c2)), if_pos c2]; exact ⟨rfl, Or.inr rfl⟩
        · rw [if_neg (fun q => by rcases k14.mp q with q | q; exact c1 q; exact c2 q), if_neg c2]; exact ⟨rfl, Or.inl rfl⟩
    have E : (if ¬ u.1 5 (u.1 12 d).toNatClampNeg = 0 ∨ (isOfT u d = true ∧ ¬ u.1 5 (u.1 13 d).toNatClampNeg = 0) then (16 : Int32) else 0) = nI (n_closes_138_s0 L d) ∧ (n_closes_138_s0 L d = 0 ∨ n_closes_138_s0 L d = 16) := by
      rw [hg.2, ht.2, nI_clamp (by omega), nI_clamp (by omega), ofT, n_closes_138_s0]
      by_cases c1 : L.1 0 (8 + (L.1 1 d / 8 % 8)) = 1
      · rw [if_pos (Or.inl ((c5 _ hg.1).mpr c1)), if_pos c1]; exact ⟨rfl, Or.inr rfl⟩
      · rw [if_neg c1]
        by_cases c2 : n_closes_72_s0 L d = true
        · rw [if_pos c2]
          by_cases c3 : L.1 0 (8 + (L.1 1 d / 64 % 8)) = 1
          · rw [if_pos (Or.inr ⟨c2, (c5 _ ht.1).mpr c3⟩), if_pos c3]; exact ⟨rfl, Or.inr rfl⟩
          · rw [if_neg (by rintro (q | q); exact c1 ((c5 _ hg.1).mp q); exact c3 ((c5 _ ht.1).mp q.2)), if_neg c3]; exact ⟨rfl, Or.inl rfl⟩
        · rw [if_neg (by rintro (q | q); exact c1 ((c5 _ hg.1).mp q); exact c2 q.1), if_neg c2]; exact ⟨rfl, Or.inl rfl⟩
    rw [needs, A.1, B.1, E.1]
    rcases A.2 with a | a <;> rcases B.2 with b | b <;> rcases E.2 with e | e <;> rw [a, b, e] <;> decide
  · rw [leastP, ofT, n_closes_175_s0]
    split <;> rfl
theorem r_state (h : ZR L u) {d : Nat} (hd : d < L.1 10 1) : stateBy u d = nI (n_closes_194_s0 L d) ∧ 1 ≤ n_closes_194_s0 L d ∧ n_closes_194_s0 L d ≤ 3 := by
  have D := h.d hd
  obtain ⟨e1, e2⟩ := r_needs h hd
  have n85 : n_closes_85_s0 L d ≤ 2 := by unfold n_closes_85_s0; split <;> omega
  have n104 : n_closes_104_s0 L d ≤ 8 := by unfold n_closes_104_s0; (repeat' split) <;> omega
  have n138 : n_closes_138_s0 L d ≤ 16 := by unfold n_closes_138_s0; (repeat' split) <;> omega
  have n175 : n_closes_175_s0 L d ≤ 3 := by unfold n_closes_175_s0; split <;> omega
  have hA : ∀ m, m < 2 ^ 20 → (u.1 20 d &&& nI m = nI m ↔ (L.1 4 d % 32 &&& m) = m) := fun m hm => by
    rw [D.pa.1, nI_and]
    exact nIe (Nat.lt_of_le_of_lt Nat.and_le_left (by omega)) (by omega)
  refine ⟨?_, ?_, ?_⟩
  · rw [stateBy, e1, e2, n_closes_194_s0]
    by_cases c1 : (L.1 4 d % 32 &&& (((5 + n_closes_85_s0 L d) + n_closes_104_s0 L d) + n_closes_138_s0 L d)) = (((5 + n_closes_85_s0 L d) + n_closes_104_s0 L d) + n_closes_138_s0 L d)
    · rw [if_pos ((hA _ (by omega)).mpr c1), if_pos c1]; rfl
    · rw [if_neg (fun q => c1 ((hA _ (by omega)).mp q)), if_neg c1]
      by_cases c2 : (L.1 4 d % 32 &&& n_closes_175_s0 L d) = n_closes_175_s0 L d
      · rw [if_pos ((hA _ (by omega)).mpr c2), if_pos (show (L.1 4 d % 32 &&& n_closes_175_s0 L d) = n_closes_186_s0 L d from c2)]; rfl
      · rw [if_neg (fun q => c2 ((hA _ (by omega)).mp q)), if_neg (show ¬ (L.1 4 d % 32 &&& n_closes_175_s0 L d) = n_closes_186_s0 L d from c2)]; rfl
  · unfold n_closes_194_s0; (repeat' split) <;> omega
  · unfold n_closes_194_s0; (repeat' split) <;> omega
theorem r_close (hZ : CZ N u) (h : ZR L u) {d : Nat} (hd : d < L.1 10 1) : ((opClose u (nI d)).1 = 0 ∨ (opClose u (nI d)).1 = 2) ∧ opr (opClose u (nI d)) = n_closes L d ∧ ZR (n_closesL L d) (opClose u (nI d)).2.2 ∧ (n_closesL L d).1 10 0 = L.1 10 0 ∧ (n_closesL L d).1 10 4 = L.1 10 4 := by
  have D := h.d hd
  have hnd := h.nd
  have hg := D.gv
  have ht := D.tk
  have pg := (h.p hg.1).2.2.1
  have pt := (h.p ht.1).2.2.1
  obtain ⟨es, s1, s3⟩ := r_state h hd
  have hcl : (nI d).toNatClampNeg = d := nI_clamp (by omega)
  have hz : u.1 22 d = 0 ↔ L.1 5 d % 4 = 0 := r_22 h hd 0 (by decide)
  have q6 : ∀ p, p < 6 → (u.1 6 p = 0 ↔ L.1 0 (16 + p) = 0) := fun p hp => by
    have := (h.p hp).2.2.1
    rw [this.2]
    exact nIz (by omega)
  by_cases c : ¬ u.1 22 d = 0 ∨ ¬ u.1 6 (u.1 12 d).toNatClampNeg = 0 ∨ ¬ u.1 6 (u.1 13 d).toNatClampNeg = 0
  · have hop : opClose u (nI d) = (2, 0, u) := by rw [opClose, if_neg (h.isd hZ hd), hcl, if_pos c]
    rw [hg.2, ht.2, nI_clamp (by omega), nI_clamp (by omega), hz, q6 _ hg.1, q6 _ ht.1] at c
    have e : n_closes L d = -1003 ∧ n_closesL L d = L := by
      rw [n_closes, n_closesL]
      by_cases c1 : 0 < L.1 5 d % 4
      · rw [if_pos c1, if_pos c1]; exact ⟨rfl, rfl⟩
      · rw [if_neg c1, if_neg c1, if_pos (by omega), if_pos (by omega)]; exact ⟨rfl, rfl⟩
    rw [hop, e.1, e.2]
    exact ⟨Or.inr rfl, rfl, h, rfl, rfl⟩
  · have hop : opClose u (nI d) = (0, stateBy u d, uI (uI (uI (uN (uI u 22 d (stateBy u d)) 30 (u.2.2.1 30 + 1)) 23 d (nI (u.2.2.1 30 + 1))) 24 d u.2.2.2.1) 29 d 1) := by rw [opClose, if_neg (h.isd hZ hd), hcl, if_neg c]
    rw [hg.2, ht.2, nI_clamp (by omega), nI_clamp (by omega), hz, q6 _ hg.1, q6 _ ht.1] at c
    have c0 : L.1 5 d % 4 = 0 := by omega
    have e : n_closes L d = nI (n_closes_194_s0 L d) ∧ n_closesL L d = zI (zI (zI (zI (zI L 5 d ((L.1 5 d) + (n_closes_194_s0 L d))) 10 2 ((L.1 10 2) + 1)) 6 d ((L.1 10 2) + 1)) 7 d (L.1 10 0)) 9 d 1 := by
      rw [n_closes, n_closesL, if_neg (by omega), if_neg (by omega), if_neg (by omega), if_neg (by omega)]
      exact ⟨rfl, rfl⟩
    have hF := hZ.1.F d (by omega) (hz.mpr c0)
    have b10 : L.1 10 2 ≤ 60 := by have := hZ.1.W.2.2.1; rw [h.nc] at this; exact this
    have b0 := h.B 10 0
    have b5 : L.1 5 d < 12 := by have := D.st.2.1; omega
    rw [hop, e.1, e.2]
    have t0 : ∀ j, j ≠ 2 → (zI (zI (zI (zI (zI L 5 d ((L.1 5 d) + (n_closes_194_s0 L d))) 10 2 ((L.1 10 2) + 1)) 6 d ((L.1 10 2) + 1)) 7 d (L.1 10 0)) 9 d 1).1 10 j = L.1 10 j := fun j hj => by rw [zI_k (by decide), zI_k (by decide), zI_k (by decide), zI_n hj, zI_k (by decide)]
    have t2 : (zI (zI (zI (zI (zI L 5 d ((L.1 5 d) + (n_closes_194_s0 L d))) 10 2 ((L.1 10 2) + 1)) 6 d ((L.1 10 2) + 1)) 7 d (L.1 10 0)) 9 d 1).1 10 2 = L.1 10 2 + 1 := by rw [zI_k (by decide), zI_k (by decide), zI_k (by decide), zI_s]
    refine ⟨Or.inl rfl, by rw [opr, if_pos rfl]; exact es, ?_, t0 0 (by decide), t0 4 (by decide)⟩
    refine h.deed (d0 := d) (((((h.B.set (by omega)).set (by omega)).set (by omega)).set (by omega)).set (by omega)) ?_ (t0 1 (by decide)) (t0 3 (by decide)) hd (fun k j hk => ?_) (fun k j hk => ?_) (fun d' hd' j hj => ?_) rfl rfl ?_
    · unfold ZRn
      rw [t0 0 (by decide), t0 1 (by decide), t0 3 (by decide), t0 4 (by decide), t2]
      have hn := h.n
      exact ⟨hn.1, hn.2.1, hn.2.2.1, by show u.2.2.1 30 + 1 = _; rw [h.nc], hn.2.2.2.2⟩
    · rw [zI_a, if_neg (by omega), zI_a, if_neg (by omega), zI_a, if_neg (by omega), zI_a, if_neg (by omega), zI_a, if_neg (by omega)]
    · rw [uI_ne (by omega), uI_ne (by omega), uI_ne (by omega)]
      show (uI u 22 d (stateBy u d)).1 k j = _
      rw [uI_ne (by omega)]
    · rw [uI_ne (by omega), uI_ne (by omega), uI_ne (by omega)]
      show (uI u 22 d (stateBy u d)).1 28 (4 * d' + j) = _
      rw [uI_ne (by omega)]
    · have f4 : (L.1 5 d + n_closes_194_s0 L d) % 4 = n_closes_194_s0 L d ∧ (L.1 5 d + n_closes_194_s0 L d) / 4 = L.1 5 d / 4 := by omega
      have e5 : (zI (zI (zI (zI (zI L 5 d ((L.1 5 d) + (n_closes_194_s0 L d))) 10 2 ((L.1 10 2) + 1)) 6 d ((L.1 10 2) + 1)) 7 d (L.1 10 0)) 9 d 1).1 5 d = L.1 5 d + n_closes_194_s0 L d := by rw [zI_k (by decide), zI_k (by decide), zI_k (by decide), zI_k (by decide), zI_s]
      have e6 : (zI (zI (zI (zI (zI L 5 d ((L.1 5 d) + (n_closes_194_s0 L d))) 10 2 ((L.1 10 2) + 1)) 6 d ((L.1 10 2) + 1)) 7 d (L.1 10 0)) 9 d 1).1 6 d = L.1 10 2 + 1 := by rw [zI_k (by decide), zI_k (by decide), zI_s]
      have e7 : (zI (zI (zI (zI (zI L 5 d ((L.1 5 d) + (n_closes_194_s0 L d))) 10 2 ((L.1 10 2) + 1)) 6 d ((L.1 10 2) + 1)) 7 d (L.1 10 0)) 9 d 1).1 7 d = L.1 10 0 := by rw [zI_k (by decide), zI_s]
      refine ⟨D.kd, D.gv, D.tk, D.ne, D.th, D.sh, D.en, D.by, D.pa, ?_, ?_, ?_, D.et, ?_⟩
      · rw [e5, f4.1, f4.2, ← es]
        refine ⟨?_, D.st.2⟩
        rw [uI_ne (by omega), uI_ne (by omega), uI_ne (by omega)]
        show (uI u 22 d (stateBy u d)).1 22 d = _
        exact uI_at
      · rw [e6, uI_ne (by omega), uI_ne (by omega), uI_at, h.nc]
      · rw [e5, e7, f4.1, if_neg (by omega), uI_ne (by omega), uI_at]
        exact h.dy
      · refine ⟨0, 1, 0, by decide, by decide, fun q => by omega, fun _ => rfl, uI_at, fun j hj => ?_, fun j hj hk => by omega, zI_s⟩
        rw [uI_ne (by omega), uI_ne (by omega), uI_ne (by omega)]
        show (uI u 22 d (stateBy u d)).1 28 (4 * d + j) = _
        rw [uI_ne (by omega)]
        exact hF.2.2 j (by omega)
/-- sign, whatever stands for the power -/
theorem r_sgn (hZ : CZ N u) (h : ZR L u) {d one kc : Nat} {fi g b : Bool} (hd : d < L.1 10 1) (ho : one < 6) (hkc : kc ≤ L.1 10 1) (hg : g = true ↔ L.1 0 (16 + whN L d fi) = 0 ∧ L.1 0 (32 + whN L d fi) = one + 1) (hb : n_able L one = true → signsBy u d one (whN L d fi) (nI kc - 1) = b) : ((opSign u (nI d) (nI one) fi (nI kc - 1)).1 = 0 ∨ (opSign u (nI d) (nI one) fi (nI kc - 1)).1 = 2) ∧ opr (opSign u (nI d) (nI one) fi (nI kc - 1)) = n_sgnA L d one fi g b ∧ ZR (n_sgnL L d one fi g b kc) (opSign u (nI d) (nI one) fi (nI kc - 1)).2.2 ∧ (∀ j, (n_sgnL L d one fi g b kc).1 10 j = L.1 10 j) := by
  have D := h.d hd
  have hnd := h.nd
  have e0 := r_e h hd
  have hk := D.kd
  have hgv := D.gv
  have htk := D.tk
  have hp : prN fi < 32 := by unfold prN; split <;> omega
  obtain ⟨b1, b2, b3⟩ := bits_or (L.1 4 d) e0 (prN fi) hp
  have hcl : (nI d).toNatClampNeg = d := nI_clamp (by omega)
  have hco : (nI one).toNatClampNeg = one := nI_clamp (by omega)
  have hz : u.1 22 d = 0 ↔ L.1 5 d % 4 = 0 := r_22 h hd 0 (by decide)
  have epr : prt fi = nI (prN fi) := by cases fi <;> rfl
  have hand : (0 < u.1 20 d &&& prt fi) ↔ 0 < L.1 4 d &&& prN fi := by
    rw [epr, D.pa.1, nI_and, ← b3, show (0 : Int32) = nI 0 from rfl, nI_ltI (by decide) (Nat.lt_of_le_of_lt Nat.and_le_left (by omega))]
  have wlt : ∀ f, whN L d f < 6 := fun f => by unfold whN; split; exact hgv.1; exact htk.1
  have egv : ∀ f, gv u d f = nI (whN L d f) := fun f => by
    cases f
    · exact htk.2
    · exact hgv.2
  have wne : whN L d fi ≠ whN L d (!fi) := by
    cases fi
    · exact D.ne.symm
    · exact D.ne
  have eal : sgAlone u d one fi = (decide (one = whN L d fi) && n_able L one) := by
    rw [sgAlone, egv, nI_clamp (by have := wlt fi; omega), decide_eq_decide.mpr (nIe (m := one) (n := whN L d fi) (by omega) (by have := wlt fi; omega))]
    by_cases c : one = whN L d fi
    · rw [decide_eq_true c, Bool.true_and, Bool.true_and, r_able h ho, ← c]
    · rw [decide_eq_false c, Bool.false_and, Bool.false_and]
  have eot : decide (nI one = gv u d (!fi)) = decide (one = whN L d (!fi)) := by
    rw [egv]
    exact decide_eq_decide.mpr (nIe (by omega) (by have := wlt (!fi); omega))
  have ek4 : decide (u.1 11 d = 4) = (if L.1 1 d % 8 = 4 then true else false) := by
    rw [hk.2, show (4 : Int32) = nI 4 from rfl, decide_eq_decide.mpr (nIe (m := L.1 1 d % 8) (n := 4) (by omega) (by decide))]
    split
    · next q => exact decide_eq_true q
    · next q => exact decide_eq_false q
  have egu : isGuard u one (whN L d fi) = (g && n_able L one) := by
    have P := h.p (wlt fi)
    have p1 : decide (u.1 6 (whN L d fi) = 0) = decide (L.1 0 (16 + whN L d fi) = 0) := by rw [P.2.2.1.2]; exact decide_eq_decide.mpr (nIz (by have := P.2.2.1.1; omega))
    have p2 : decide (u.1 9 (whN L d fi) = nI one) = decide (L.1 0 (32 + whN L d fi) = one + 1) := by rw [P.2.2.2.1.2]; exact decide_eq_decide.mpr (nIme (by have := P.2.2.2.1.1; omega) (by omega))
    have p3 : (decide (L.1 0 (16 + whN L d fi) = 0) && decide (L.1 0 (32 + whN L d fi) = one + 1)) = g := by
      cases g with
      | false =>
        have : ¬ (L.1 0 (16 + whN L d fi) = 0 ∧ L.1 0 (32 + whN L d fi) = one + 1) := fun q => Bool.false_ne_true (hg.mpr q)
        rw [← Bool.decide_and, decide_eq_false this]
      | true => rw [← Bool.decide_and, decide_eq_true (hg.mp rfl)]
    rw [isGuard, p1, p2, ← r_able h ho, ← Bool.and_assoc, p3]
  have hidx : ¬ (isDd u (nI d) = false ∨ isP u (nI one) = false ∨ (¬ nI kc - 1 = -1 ∧ isDd u (nI kc - 1) = false)) := by
    rintro (q | q | q)
    · exact h.isd hZ hd q
    · exact h.isp hZ ho q
    · have hkc0 : kc ≠ 0 := fun z => q.1 ((nIm (by omega)).mpr z)
      rw [nI_sub1 hkc0] at q
      exact h.isd hZ (d := kc - 1) (by omega) q.2
  have hop : opSign u (nI d) (nI one) fi (nI kc - 1) = if ¬ u.1 22 d = 0 ∨ 0 < u.1 20 d &&& prt fi ∨ sgCan u d one fi (nI kc - 1) = false then (2, 0, u) else (0, u.1 20 d ||| prt fi, if (fi && (!sgAlone u d one fi && !sgGuards u d one fi)) = true then uI (uI u 20 d (u.1 20 d ||| prt fi)) 19 d (nI kc - 1) else uI u 20 d (u.1 20 d ||| prt fi)) := by
    rw [opSign, if_neg hidx, hcl, hco]
  have hcan : sgCan u d one fi (nI kc - 1) = ((sgAlone u d one fi || (sgGuards u d one fi || sgSigns u d one fi (nI kc - 1))) && (!decide (u.1 11 d = 4) || fi)) := rfl
  have no : ∀ {P : Prop}, (¬ u.1 22 d = 0 ∨ 0 < u.1 20 d &&& prt fi ∨ sgCan u d one fi (nI kc - 1) = false) → n_sgnA L d one fi g b = -1003 → n_sgnL L d one fi g b kc = L → ((opSign u (nI d) (nI one) fi (nI kc - 1)).1 = 0 ∨ (opSign u (nI d) (nI one) fi (nI kc - 1)).1 = 2) ∧ opr (opSign u (nI d) (nI one) fi (nI kc - 1)) = n_sgnA L d one fi g b ∧ ZR (n_sgnL L d one fi g b kc) (opSign u (nI d) (nI one) fi (nI kc - 1)).2.2 ∧ (∀ j, (n_sgnL L d one fi g b kc).1 10 j = L.1 10 j) := fun c e1 e2 => by
    rw [hop, if_pos c, e1, e2]
    exact ⟨Or.inr rfl, rfl, h, fun _ => rfl⟩
  have lt : L.1 4 d ||| prN fi < 2 ^ 11 := Nat.or_lt_two_pow (by omega) (by omega)
  have yes : ∀ (v : Nat) (w : Int32), v ≤ 24 → w = nI v - 1 → ¬ (¬ u.1 22 d = 0 ∨ 0 < u.1 20 d &&& prt fi ∨ sgCan u d one fi (nI kc - 1) = false) → n_sgnA L d one fi g b = nI ((L.1 4 d ||| prN fi) % 32) → n_sgnL L d one fi g b kc = zI (zI L 3 d v) 4 d (L.1 4 d ||| prN fi) → (if (fi && (!sgAlone u d one fi && !sgGuards u d one fi)) = true then uI (uI u 20 d (u.1 20 d ||| prt fi)) 19 d (nI kc - 1) else uI u 20 d (u.1 20 d ||| prt fi)) = uI (uI u 20 d (u.1 20 d ||| prt fi)) 19 d w → ((opSign u (nI d) (nI one) fi (nI kc - 1)).1 = 0 ∨ (opSign u (nI d) (nI one) fi (nI kc - 1)).1 = 2) ∧ opr (opSign u (nI d) (nI one) fi (nI kc - 1)) = n_sgnA L d one fi g b ∧ ZR (n_sgnL L d one fi g b kc) (opSign u (nI d) (nI one) fi (nI kc - 1)).2.2 ∧ (∀ j, (n_sgnL L d one fi g b kc).1 10 j = L.1 10 j) := fun v w hv hw c e1 e2 e3 => by
    have t0 : ∀ j, (zI (zI L 3 d v) 4 d (L.1 4 d ||| prN fi)).1 10 j = L.1 10 j := fun j => by rw [zI_k (by decide), zI_k (by decide)]
    rw [hop, if_neg c, e1, e2, e3]
    refine ⟨Or.inl rfl, ?_, ?_, t0⟩
    · rw [opr, if_pos rfl, epr, D.pa.1, nI_or, b1]
    · refine h.deed (d0 := d) ((h.B.set (by omega)).set (by omega)) ?_ (t0 1) (t0 3) hd (fun k j hk => ?_) (fun k j hk => ?_) (fun d' hd' j hj => ?_) rfl rfl ?_
      · unfold ZRn
        rw [t0, t0, t0, t0, t0]
        exact h.n
      · rw [zI_a, if_neg (by omega), zI_a, if_neg (by omega)]
      · rw [uI_ne (by omega), uI_ne (by omega)]
      · rw [uI_ne (by omega), uI_ne (by omega)]
      · refine ⟨D.kd, D.gv, D.tk, D.ne, D.th, D.sh, D.en, ?_, ?_, D.st, D.nr, D.dy, D.et, D.pp⟩
        · rw [zI_k (by decide), zI_s, uI_at]
          exact ⟨hv, hw⟩
        · rw [zI_s, uI_ne (by omega), uI_at, uI_ne (by omega), uI_ne (by omega), b1, b2, D.pa.1, epr, nI_or]
          exact ⟨rfl, D.pa.2.1, D.pa.2.2⟩
  -- the same row laid again
  have same19 : uI u 20 d (u.1 20 d ||| prt fi) = uI (uI u 20 d (u.1 20 d ||| prt fi)) 19 d (nI (L.1 3 d) - 1) := by
    refine Prod.ext (funext fun a => funext fun j => ?_) rfl
    by_cases z : a = 19 ∧ j = d
    · obtain ⟨rfl, rfl⟩ := z
      rw [uI_at, uI_ne (by omega)]
      exact D.by.2
    · rw [uI_ne (u := uI u 20 d (u.1 20 d ||| prt fi)) (r := 19) (fun q => z ⟨q.1.symm, q.2.symm⟩)]
  have same3 : zI L 4 d (L.1 4 d ||| prN fi) = zI (zI L 3 d (L.1 3 d)) 4 d (L.1 4 d ||| prN fi) := by rw [zI_id rfl]
  by_cases c1 : L.1 5 d % 4 = 0
  · by_cases c2 : 0 < L.1 4 d &&& prN fi
    · exact no (P := True) (Or.inr (Or.inl (hand.mpr c2))) (by rw [n_sgnA, if_neg (by omega), if_pos c2]) (by rw [n_sgnL, if_neg (by omega), if_pos c2])
    · cases ca : n_able L one with
      | false =>
        refine no (P := True) (Or.inr (Or.inr ?_)) (by rw [n_sgnA, if_neg (by omega), if_neg c2, ca, if_neg Bool.false_ne_true]) (by rw [n_sgnL, if_neg (by omega), if_neg c2, ca, if_neg Bool.false_ne_true])
        have sb : signsBy u d one (whN L d fi) (nI kc - 1) = false := by
          rw [signsBy, ← r_able h ho, ca]
          simp
        rw [hcan, eal, sgGuards, sgSigns, egv fi, nI_clamp (by have := wlt fi; omega), egu, sb, ca]
        simp
      | true =>
        have nb : ¬ (¬ u.1 22 d = 0 ∨ 0 < u.1 20 d &&& prt fi ∨ sgCan u d one fi (nI kc - 1) = false) ↔ sgCan u d one fi (nI kc - 1) = true := by
          rw [hz, hand]
          constructor
          · intro q
            cases y : sgCan u d one fi (nI kc - 1) with
            | true => rfl
            | false => exact absurd (Or.inr (Or.inr y)) q
          · rintro q (z | z | z)
            · exact z c1
            · exact c2 z
            · rw [q] at z; cases z
        have ecan : sgCan u d one fi (nI kc - 1) = ((decide (one = whN L d fi) || (!decide (one = whN L d (!fi)) && ((g || b) && !(if L.1 1 d % 8 = 4 then true else false)))) && (!(if L.1 1 d % 8 = 4 then true else false) || fi)) := by
          rw [hcan, eal, sgGuards, sgSigns, egv fi, nI_clamp (by have := wlt fi; omega), egu, hb ca, ca, eot, ek4]
          cases decide (one = whN L d fi) <;> cases decide (one = whN L d (!fi)) <;> cases g <;> cases b <;> cases (if L.1 1 d % 8 = 4 then true else false) <;> rfl
        have eA : n_sgnA L d one fi g b = (if (if L.1 1 d % 8 = 4 then true else false) = true then (if fi = true then (if one = whN L d fi then nI ((L.1 4 d ||| prN fi) % 32) else -1003) else -1003) else (if one = whN L d fi then nI ((L.1 4 d ||| prN fi) % 32) else (if one = whN L d (!fi) then -1003 else (if g = true then nI ((L.1 4 d ||| prN fi) % 32) else (if b = true then nI ((L.1 4 d ||| prN fi) % 32) else -1003))))) := by rw [n_sgnA, if_neg (by omega), if_neg c2, if_pos ca]
        have eL : n_sgnL L d one fi g b kc = (if (if L.1 1 d % 8 = 4 then true else false) = true then (if fi = true then (if one = whN L d fi then zI L 4 d (L.1 4 d ||| prN fi) else L) else L) else (if one = whN L d fi then zI L 4 d (L.1 4 d ||| prN fi) else (if one = whN L d (!fi) then L else (if g = true then zI (zI L 3 d (L.1 3 d)) 4 d (L.1 4 d ||| prN fi) else (if b = true then zI (zI L 3 d (if fi = true then kc else L.1 3 d)) 4 d (L.1 4 d ||| prN fi) else L))))) := by rw [n_sgnL, if_neg (by omega), if_neg c2, if_pos ca]
        have e3a : sgAlone u d one fi = decide (one = whN L d fi) := by rw [eal, ca, Bool.and_true]
        by_cases c5 : one = whN L d fi
        · by_cases c4 : (if L.1 1 d % 8 = 4 then true else false) = true ∧ fi = false
          · refine no (P := True) (Or.inr (Or.inr ?_)) (by rw [eA, if_pos c4.1, c4.2, if_neg Bool.false_ne_true]) (by rw [eL, if_pos c4.1, c4.2, if_neg Bool.false_ne_true])
            rw [ecan, c4.1, c4.2]
            simp
          · refine yes (L.1 3 d) _ D.by.1 rfl (nb.mpr ?_) ?_ ?_ ?_
            · rw [ecan, decide_eq_true c5, Bool.true_or, Bool.true_and]
              cases q : (if L.1 1 d % 8 = 4 then true else false)
              · rfl
              · cases fi
                · exact absurd ⟨q, rfl⟩ c4
                · rfl
            · rw [eA]
              cases q : (if L.1 1 d % 8 = 4 then true else false)
              · rw [if_neg Bool.false_ne_true, if_pos c5]
              · cases fi
                · exact absurd ⟨q, rfl⟩ c4
                · rw [if_pos rfl, if_pos rfl, if_pos c5]
            · rw [eL, ← same3]
              cases q : (if L.1 1 d % 8 = 4 then true else false)
              · rw [if_neg Bool.false_ne_true, if_pos c5]
              · cases fi
                · exact absurd ⟨q, rfl⟩ c4
                · rw [if_pos rfl, if_pos rfl, if_pos c5]
            · rw [e3a, decide_eq_true c5, ← same19, if_neg]
              simp
        · by_cases c4 : (if L.1 1 d % 8 = 4 then true else false) = true
          · refine no (P := True) (Or.inr (Or.inr ?_)) (by rw [eA, if_pos c4, if_neg c5, ite_self]) (by rw [eL, if_pos c4, if_neg c5, ite_self])
            rw [ecan, c4, decide_eq_false c5]
            simp
          · by_cases c6 : one = whN L d (!fi)
            · refine no (P := True) (Or.inr (Or.inr ?_)) (by rw [eA, if_neg c4, if_neg c5, if_pos c6]) (by rw [eL, if_neg c4, if_neg c5, if_pos c6])
              rw [ecan, decide_eq_false c5, decide_eq_true c6]
              simp
            · have esg : sgGuards u d one fi = g := by
                rw [sgGuards, egv fi, nI_clamp (by have := wlt fi; omega), egu, ca, eot, decide_eq_false c6, ek4]
                rw [Bool.not_eq_true] at c4
                rw [c4]
                simp
              by_cases c7 : (g || b) = true
              · have cc : sgCan u d one fi (nI kc - 1) = true := by
                  rw [Bool.not_eq_true] at c4
                  rw [ecan, c4, c7, decide_eq_false c6]
                  simp
                cases g with
                | true =>
                  refine yes (L.1 3 d) _ D.by.1 rfl (nb.mpr cc) ?_ ?_ ?_
                  · rw [eA, if_neg c4, if_neg c5, if_neg c6, if_pos rfl]
                  · rw [eL, if_neg c4, if_neg c5, if_neg c6, if_pos rfl]
                  · rw [e3a, decide_eq_false c5, esg, if_neg (by simp)]; exact same19
                | false =>
                  rw [Bool.false_or] at c7
                  refine yes (if fi = true then kc else L.1 3 d) _ ?_ rfl (nb.mpr cc) ?_ ?_ ?_
                  · have := D.by.1
                    split <;> omega
                  · rw [eA, if_neg c4, if_neg c5, if_neg c6, if_neg Bool.false_ne_true, if_pos c7]
                  · rw [eL, if_neg c4, if_neg c5, if_neg c6, if_neg Bool.false_ne_true, if_pos c7]
                  · rw [e3a, decide_eq_false c5, esg]
                    cases fi
                    · rw [Bool.false_and, if_neg Bool.false_ne_true, if_neg Bool.false_ne_true]; exact same19
                    · rw [if_pos (by decide), if_pos rfl]
              · rw [Bool.not_eq_true] at c7
                have cg : g = false ∧ b = false := by cases g <;> cases b <;> simp at c7 <;> exact ⟨rfl, rfl⟩
                refine no (P := True) (Or.inr (Or.inr ?_)) (by rw [eA, if_neg c4, if_neg c5, if_neg c6, cg.1, cg.2, if_neg Bool.false_ne_true, if_neg Bool.false_ne_true]) (by rw [eL, if_neg c4, if_neg c5, if_neg c6, cg.1, cg.2, if_neg Bool.false_ne_true, if_neg Bool.false_ne_true])
                rw [ecan, c7, decide_eq_false c5]
                simp
  · exact no (P := True) (Or.inl (fun q => c1 (hz.mp q))) (by rw [n_sgnA, if_pos (by omega)]) (by rw [n_sgnL, if_pos (by omega)])
end OPS
