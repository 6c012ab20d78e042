/-! witness, revoke, copy, lose -/
theorem wit_if {c1 c3 c4 c5 : Prop} {i1 : Decidable c1} {i3 : Decidable c3} {i4 : Decidable c4} {i5 : Decidable c5} {a k1 k2 : Bool} : (if c1 then (if a = true then (if c3 then false else (if c4 then false else (if k1 = true then false else (if k2 = true then false else (if c5 then true else false))))) else false) else false) = true ↔ c1 ∧ (a && (!decide c3 && (!decide c4 && (!k1 && !k2)))) = true ∧ c5 := by
  by_cases h1 : c1 <;> by_cases h3 : c3 <;> by_cases h4 : c4 <;> by_cases h5 : c5 <;> cases a <;> cases k1 <;> cases k2 <;> simp [h1, h3, h4, h5]
theorem bits_wit : ∀ e, e < 2048 → ∀ o, o < 6 → ∀ p, (p = 0 ∨ p = 8) → ((e ||| p) ||| 32 * 2 ^ o) % 32 = (e % 32 ||| p) ∧ ((e ||| p) ||| 32 * 2 ^ o) / 32 = (e / 32 ||| 2 ^ o) := fun e _ o _ p hp => by
  have h8 : p < 2 ^ 5 := by rcases hp with rfl | rfl <;> decide
  refine ⟨?_, ?_⟩
  · rw [show (32 : Nat) = 2 ^ 5 from rfl, Nat.or_mod_two_pow, Nat.or_mod_two_pow, Nat.mod_eq_of_lt h8, Nat.mul_mod_right, Nat.or_zero]
  · rw [show (32 : Nat) = 2 ^ 5 from rfl, Nat.or_div_two_pow, Nat.or_div_two_pow, Nat.div_eq_of_lt h8, Nat.or_zero, Nat.mul_div_cancel_left _ (by decide)]
section OPS
variable {L : ZU} {u : MU} {N : Nat}
theorem r_wit_lt (h : ZR L u) {d one : Nat} (hd : d < L.1 10 1) (ho : one < 6) : ((L.1 4 d) ||| (n_witness_465_s0 L d one)) ||| (n_witness_487_s0 L d one) < 2 ^ 31 := by
  have e0 := r_e h hd
  have p2 := Nat.pow_lt_pow_right (a := 2) (by decide) (m := one) (n := 6) ho
  have h1 : n_witness_465_s0 L d one < 2 ^ 11 := by unfold n_witness_465_s0; (repeat' split) <;> omega
  have h2 : n_witness_487_s0 L d one < 2 ^ 11 := by unfold n_witness_487_s0; split <;> omega
  have := Nat.or_lt_two_pow (Nat.or_lt_two_pow (n := 11) (show L.1 4 d < 2 ^ 11 by omega) h1) h2
  omega
theorem r_witness (hZ : CZ N u) (h : ZR L u) {d one : Nat} (hd : d < L.1 10 1) (ho : one < 6) : ((opWitness u (nI d) (nI one)).1 = 0 ∨ (opWitness u (nI d) (nI one)).1 = 2) ∧ opr (opWitness u (nI d) (nI one)) = n_witness_521_s0 L d one ∧ ZR (zI (zI L 4 d ((L.1 4 d) ||| (n_witness_465_s0 L d one))) 4 d (((L.1 4 d) ||| (n_witness_465_s0 L d one)) ||| (n_witness_487_s0 L d one))) (opWitness u (nI d) (nI one)).2.2 := by
  have D := h.d hd
  have hnd := h.nd
  have e0 := r_e h hd
  have hg := D.gv
  have ht := D.tk
  have hcl : (nI d).toNatClampNeg = d := nI_clamp (by omega)
  have hco : (nI one).toNatClampNeg = one := nI_clamp (by omega)
  have hz : u.1 22 d = 0 ↔ L.1 5 d % 4 = 0 := r_22 h hd 0 (by decide)
  have hbit : (u.1 21 d >>> (nI one &&& 31)) &&& 1 = 1 ↔ ¬ (L.1 4 d / 2 ^ (5 + one)) % 2 = 0 := by
    rw [D.pa.2.1, nI_shr (by omega) (by omega), show (1 : Int32) = nI 1 from rfl, nI_and, mod2_and, Nat.div_div_eq_div_mul, show 32 * 2 ^ one = 2 ^ (5 + one) by rw [Nat.pow_add], nIe (by omega) (by decide)]
    omega
  have hX : (able u one && (!decide (nI one = u.1 12 d) && (!decide (nI one = u.1 13 d) && (!isKin u one (u.1 12 d).toNatClampNeg && !isKin u one (u.1 13 d).toNatClampNeg)))) = (n_able L one && (!decide (one = L.1 1 d / 8 % 8) && (!decide (one = L.1 1 d / 64 % 8) && (!n_kin L one (L.1 1 d / 8 % 8) && !n_kin L one (L.1 1 d / 64 % 8))))) := by
    rw [hg.2, ht.2, nI_clamp (by omega), nI_clamp (by omega), r_able h ho, r_kin h ho hg.1, r_kin h ho ht.1, decide_eq_decide.mpr (nIe (m := one) (n := L.1 1 d / 8 % 8) (by omega) (by omega)), decide_eq_decide.mpr (nIe (m := one) (n := L.1 1 d / 64 % 8) (by omega) (by omega))]
  have hop : opWitness u (nI d) (nI one) = if (n_witness_435_s0 L d one) = true then ((0, u.1 20 d ||| (if u.1 21 d = 0 then 0 else 8), uI (uI u 20 d (u.1 20 d ||| (if u.1 21 d = 0 then 0 else 8))) 21 d (u.1 21 d ||| (1 <<< (nI one &&& 31)))) : Op) else (2, 0, u) := by
    rw [opWitness, if_neg (by rintro (q | q); exact h.isd hZ hd q; exact h.isp hZ ho q), hcl, hco, hX, n_witness_435_s0]
    by_cases c : L.1 5 d % 4 = 0 ∧ (n_able L one && (!decide (one = L.1 1 d / 8 % 8) && (!decide (one = L.1 1 d / 64 % 8) && (!n_kin L one (L.1 1 d / 8 % 8) && !n_kin L one (L.1 1 d / 64 % 8))))) = true ∧ (L.1 4 d / 2 ^ (5 + one)) % 2 = 0
    · rw [if_pos (wit_if.mpr c), if_neg (by rintro (q | q | q); exact q (hz.mpr c.1); exact hbit.mp q c.2.2; exact Bool.false_ne_true (q.symm.trans c.2.1))]
    · rw [if_neg (fun q => c (wit_if.mp q)), if_pos]
      by_cases c1 : L.1 5 d % 4 = 0
      · by_cases c2 : (L.1 4 d / 2 ^ (5 + one)) % 2 = 0
        · exact Or.inr (Or.inr (Bool.eq_false_iff.mpr (fun q => c ⟨c1, q, c2⟩)))
        · exact Or.inr (Or.inl (hbit.mpr c2))
      · exact Or.inl (fun q => c1 (hz.mp q))
  have lt := r_wit_lt h hd ho
  rw [hop]
  by_cases c : (n_witness_435_s0 L d one) = true
  · have h8 : n_witness_465_s0 L d one = 0 ∨ n_witness_465_s0 L d one = 8 := by unfold n_witness_465_s0; (repeat' split) <;> simp
    have e8 : (if u.1 21 d = 0 then (0 : Int32) else 8) = nI (n_witness_465_s0 L d one) := by
      rw [n_witness_465_s0, if_pos c, D.pa.2.1]
      by_cases y : L.1 4 d / 32 = 0
      · rw [if_pos ((nIz (by omega)).mpr y), if_neg (by omega)]; rfl
      · rw [if_neg (fun q => y ((nIz (by omega)).mp q)), if_pos (by omega)]; rfl
    have e32 : n_witness_487_s0 L d one = 32 * 2 ^ one := by rw [n_witness_487_s0, if_pos c]
    obtain ⟨b1, b2⟩ := bits_wit (L.1 4 d) e0 one ho _ h8
    rw [if_pos c]
    refine ⟨Or.inl rfl, ?_, ?_⟩
    · rw [opr, if_pos rfl, n_witness_521_s0, if_pos c, e32, b1, e8, D.pa.1, nI_or]
    · have p2 := Nat.pow_lt_pow_right (a := 2) (by decide) (m := one) (n := 6) ho
      have l6 : L.1 4 d / 32 ||| 2 ^ one < 2 ^ 6 := Nat.or_lt_two_pow (by omega) (by omega)
      have lt2 : ((L.1 4 d) ||| (n_witness_465_s0 L d one)) ||| (n_witness_487_s0 L d one) < 2048 := by
        rw [e32]
        omega
      have lt3 : (L.1 4 d) ||| (n_witness_465_s0 L d one) < 2 ^ 11 := Nat.or_lt_two_pow (by omega) (by omega)
      refine h.deed (d0 := d) ((h.B.set (by omega)).set (by omega)) ?_ (by rw [zI_k (by decide), zI_k (by decide)]) (by rw [zI_k (by decide), zI_k (by decide)]) hd (fun k j hk => ?_) (fun k j hk => ?_) (fun d' hd' j hj => ?_) rfl rfl ?_
      · have e : ∀ j, (zI (zI L 4 d ((L.1 4 d) ||| (n_witness_465_s0 L d one))) 4 d (((L.1 4 d) ||| (n_witness_465_s0 L d one)) ||| (n_witness_487_s0 L d one))).1 10 j = L.1 10 j := fun j => by rw [zI_k (by decide), zI_k (by decide)]
        unfold ZRn
        rw [e, e, e, e, e]
        exact h.n
      · rw [zI_a, if_neg (by omega), zI_a, if_neg (by omega)]
      · rw [uI_ne (by omega), uI_ne (by omega)]
      · rw [uI_ne (by omega), uI_ne (by omega)]
      · refine ⟨D.kd, D.gv, D.tk, D.ne, D.th, D.sh, D.en, D.by, ?_, D.st, D.nr, D.dy, D.et, D.pp⟩
        rw [zI_s, uI_ne (by omega), uI_at, uI_at, e32, b1, b2, e8, D.pa.1, nI_or, D.pa.2.1, sh_one (by omega), nI_or]
        exact ⟨rfl, rfl, by omega⟩
  · rw [if_neg c]
    refine ⟨Or.inr rfl, ?_, ?_⟩
    · rw [n_witness_521_s0, if_neg c]; rfl
    · rw [n_witness_465_s0, n_witness_487_s0, if_neg c, if_neg c, Nat.or_zero, Nat.or_zero, zI_id (L := L) rfl, zI_id rfl]
      exact h
/-- revoke: what is no closed power -/
theorem r_revoke0 (hZ : CZ N u) (h : ZR L u) {d : Nat} (hd : d < L.1 10 1) {t : Bool} (hc : ¬ (L.1 1 d % 8 = 3 ∧ ¬ L.1 5 d % 4 = 0)) : ((opRevoke u (nI d) t).1 = 0 ∨ (opRevoke u (nI d) t).1 = 2) ∧ opb (opRevoke u (nI d) t) = -1003 ∧ (opRevoke u (nI d) t).2.2 = u := by
  have D := h.d hd
  have hnd := h.nd
  have hk := D.kd
  have hcl : (nI d).toNatClampNeg = d := nI_clamp (by omega)
  have hop : opRevoke u (nI d) t = (2, 0, u) := by
    rw [opRevoke, if_neg (h.isd hZ hd), hcl, if_pos]
    by_cases c : L.1 1 d % 8 = 3
    · refine Or.inr ((r_22 h hd 0 (by decide)).mpr ?_)
      by_cases c2 : L.1 5 d % 4 = 0
      · exact c2
      · exact absurd ⟨c, c2⟩ hc
    · refine Or.inl (fun q => c ?_)
      rw [hk.2, show (3 : Int32) = nI 3 from rfl, nIe (by omega) (by decide)] at q
      exact q
  rw [hop]
  exact ⟨Or.inr rfl, rfl, rfl⟩
theorem r_revoke (hZ : CZ N u) (h : ZR L u) {d : Nat} (hd : d < L.1 10 1) {t : Bool} (hc : L.1 1 d % 8 = 3 ∧ ¬ L.1 5 d % 4 = 0) : ((opRevoke u (nI d) t).1 = 0 ∨ (opRevoke u (nI d) t).1 = 2) ∧ opb (opRevoke u (nI d) t) = b2i (decide (0 < L.1 5 d / 4)) ∧ ZR (zI L 5 d ((L.1 5 d) + (n_revoke_708_s0 L d t))) (opRevoke u (nI d) t).2.2 := by
  have D := h.d hd
  have hnd := h.nd
  have hk := D.kd
  obtain ⟨s1, s2, s3, s4⟩ := D.st
  have hcl : (nI d).toNatClampNeg = d := nI_clamp (by omega)
  have hop : opRevoke u (nI d) t = (0, u.1 26 d, uI (uI u 26 d 1) 27 d (b2i (!decide (u.1 27 d = 0) || t))) := by
    rw [opRevoke, if_neg (h.isd hZ hd), hcl, if_neg]
    rintro (q | q)
    · exact q (by rw [hk.2, hc.1]; rfl)
    · exact hc.2 ((r_22 h hd 0 (by decide)).mp q)
  have hm : n_revoke_708_s0 L d t = 0 ∨ n_revoke_708_s0 L d t = 4 ∨ n_revoke_708_s0 L d t = 8 := by unfold n_revoke_708_s0; (repeat' split) <;> simp
  have hf : (L.1 5 d + n_revoke_708_s0 L d t) / 4 = if L.1 5 d / 4 = 2 ∨ t = true then 2 else 1 := by
    unfold n_revoke_708_s0
    cases t
    · rw [if_neg Bool.false_ne_true, if_neg Bool.false_ne_true]
      by_cases c0 : L.1 5 d / 4 = 0
      · rw [if_pos c0, if_neg (by rintro (q | q); omega; exact Bool.false_ne_true q)]; omega
      · rw [if_neg c0, ite_self, Nat.add_zero]
        by_cases c2 : L.1 5 d / 4 = 2
        · rw [if_pos (Or.inl c2), c2]
        · rw [if_neg (by rintro (q | q); exact c2 q; exact Bool.false_ne_true q)]; omega
    · rw [if_pos rfl, if_pos rfl, if_pos (Or.inr rfl)]
      by_cases c0 : L.1 5 d / 4 = 0
      · rw [if_pos c0]; omega
      · rw [if_neg c0]
        by_cases c1 : L.1 5 d / 4 = 1
        · rw [if_pos c1]; omega
        · rw [if_neg c1]; omega
  have b5 : L.1 5 d < 12 := by omega
  rw [hop]
  refine ⟨Or.inl rfl, ?_, ?_⟩
  · rw [opb, if_pos rfl]
    show (if u.1 26 d = 0 then (0 : Int32) else 1) = b2i (decide (0 < L.1 5 d / 4))
    rw [s3]
    by_cases c : L.1 5 d / 4 = 0
    · rw [if_pos c, if_pos (by decide), decide_eq_false (show ¬ 0 < L.1 5 d / 4 by omega)]; rfl
    · rw [if_neg c, if_neg (by decide), decide_eq_true (show 0 < L.1 5 d / 4 by omega)]; rfl
  · refine h.deed (d0 := d) (h.B.set (by omega)) (h.n4 (a := 29) (w := 0) (by decide)) (zI_k (by decide)) (zI_k (by decide)) hd (fun k j hk => ?_) (fun k j hk => ?_) (fun d' hd' j hj => ?_) rfl rfl ?_
    · rw [zI_a, if_neg (by omega)]
    · rw [uI_ne (by omega), uI_ne (by omega)]
    · rw [uI_ne (by omega), uI_ne (by omega)]
    · refine ⟨D.kd, D.gv, D.tk, D.ne, D.th, D.sh, D.en, D.by, D.pa, ?_, D.nr, ?_, D.et, D.pp⟩
      · rw [zI_s, uI_ne (by omega), uI_ne (by omega), uI_ne (a := 26) (by omega), uI_at, uI_at, hf, s1, s4, show (L.1 5 d + n_revoke_708_s0 L d t) % 4 = L.1 5 d % 4 by omega]
        refine ⟨rfl, by split <;> omega, ?_, ?_⟩
        · split <;> rfl
        · by_cases c2 : L.1 5 d / 4 = 2
          · rw [if_pos c2, if_pos (Or.inl c2)]; rfl
          · rw [if_neg c2]
            cases t
            · rw [if_neg (show ¬ (L.1 5 d / 4 = 2 ∨ false = true) from by rintro (q | q); exact c2 q; exact Bool.false_ne_true q)]; decide
            · rw [if_pos (show (L.1 5 d / 4 = 2 ∨ true = true) from Or.inr rfl)]; decide
      · rw [zI_s, zI_k (by decide), uI_ne (by omega), uI_ne (by omega), show (L.1 5 d + n_revoke_708_s0 L d t) % 4 = L.1 5 d % 4 by omega]
        exact D.dy
/-- the papers' parameters -/
theorem n_lst_0 : n_lst 0 = 0 := by decide
theorem r_lst2 {a s t : Nat} (ha : a ≤ 7) (hst : s + t ≤ 4) (hs : 0 < s) : n_lst (s * 2 ^ (3 * a) + t * 2 ^ (3 * (a + 1))) = a + 1 := by
  rw [n_lst, r_lst a (by omega) s (by omega) t (by omega) hst hs, if_neg (by omega)]
theorem r_copy (hZ : CZ N u) (hN : N < 2 ^ 29) (h : ZR L u) {d : Nat} (hd : d < L.1 10 1) (hg : n_lst (L.1 9 d) ≤ 7) : ((opCopy u (nI d)).1 = 0 ∨ (opCopy u (nI d)).1 = 2) ∧ opr (opCopy u (nI d)) = n_copy_851_s0 L d ∧ ZR (zI L 9 d ((L.1 9 d) + (n_copy_823_s0 L d))) (opCopy u (nI d)).2.2 := by
  have D := h.d hd
  have hnd := h.nd
  have hcl : (nI d).toNatClampNeg = d := nI_clamp (by omega)
  obtain ⟨a, s, t, ha, hst, hz, h7, e29, es, et, ej⟩ := D.pp
  have hcan : (n_copy_800_s0 L d) = true ↔ 0 < s ∧ s + t < 4 := by
    rw [n_copy_800_s0, ej, r_mny a (by omega) s (by omega) t (by omega) hst]
    by_cases c : s = 0
    · have := hz c
      subst c; subst this
      rw [Nat.zero_mul, Nat.zero_mul, n_lst_0]
      simp
    · rw [r_lst2 ha hst (by omega), if_pos (by omega)]
      by_cases c2 : s + t < 4
      · rw [if_pos c2]; exact ⟨fun _ => ⟨by omega, c2⟩, fun _ => rfl⟩
      · rw [if_neg c2]; exact ⟨fun q => absurd q Bool.false_ne_true, fun q => absurd q.2 c2⟩
  have hop : opCopy u (nI d) = if (n_copy_800_s0 L d) = true then (0, u.1 28 (4 * d) + 1, uI (uI u 28 (4 * d + (u.1 29 d).toNatClampNeg) (u.1 28 (4 * d) + 1)) 29 d (u.1 29 d + 1)) else (2, 0, u) := by
    rw [opCopy, if_neg (h.isd hZ hd), hcl, e29]
    by_cases c : (n_copy_800_s0 L d) = true
    · have c' := hcan.mp c
      rw [if_pos c, if_neg]
      rintro (q | q)
      · rw [nIz (by omega)] at q; omega
      · rw [show (4 : Int32) = nI 4 from rfl, nIe (by omega) (by decide)] at q; omega
    · rw [if_neg c, if_pos]
      by_cases c2 : s + t = 0
      · exact Or.inl ((nIz (by omega)).mpr c2)
      · refine Or.inr ?_
        have : s + t = 4 := by
          have h1 : ¬ (0 < s ∧ s + t < 4) := fun q => c (hcan.mpr q)
          by_cases c0 : s = 0
          · have := hz c0; omega
          · omega
        rw [this]; rfl
  rw [hop]
  by_cases c : (n_copy_800_s0 L d) = true
  · obtain ⟨hs, hlt⟩ := hcan.mp c
    have e0 := es 0 hs
    have hl : n_lst (L.1 9 d) = a + 1 := by rw [ej]; exact r_lst2 ha hst hs
    have ha6 : a ≤ 6 := by omega
    rw [if_pos c]
    refine ⟨Or.inl rfl, ?_, ?_⟩
    · rw [opr, if_pos rfl, n_copy_851_s0, if_pos c, hl]
      show u.1 28 (4 * d) + 1 = _
      rw [show u.1 28 (4 * d) = nI a from e0]
      exact nI_1 a
    · have hw : (u.1 29 d).toNatClampNeg = s + t := by rw [e29]; exact nI_clamp (by omega)
      have hp1 := Nat.pow_lt_pow_right (a := 2) (by decide) (m := 3 * a) (n := 19) (by omega)
      have hp2 := Nat.pow_lt_pow_right (a := 2) (by decide) (m := 3 * (a + 1)) (n := 22) (by omega)
      have m1 : s * 2 ^ (3 * a) ≤ 4 * 2 ^ 19 := Nat.mul_le_mul (by omega) (by omega)
      have m2 : t * 2 ^ (3 * (a + 1)) ≤ 4 * 2 ^ 22 := Nat.mul_le_mul (by omega) (by omega)
      have en : n_copy_823_s0 L d = 1 * 2 ^ (3 * (a + 1)) := by rw [n_copy_823_s0, if_pos c, hl]
      rw [hw]
      refine h.deed (d0 := d) (h.B.set (by rw [en]; omega)) (h.n4 (a := 29) (w := 0) (by decide)) (zI_k (by decide)) (zI_k (by decide)) hd (fun k j hk => ?_) (fun k j hk => ?_) (fun d' hd' j hj => ?_) rfl rfl ?_
      · rw [zI_a, if_neg (by omega)]
      · rw [uI_ne (by omega), uI_ne (by omega)]
      · rw [uI_ne (by omega), uI_ne (by omega)]
      · refine ⟨D.kd, D.gv, D.tk, D.ne, D.th, D.sh, D.en, D.by, D.pa, D.st, D.nr, D.dy, D.et, a, s, t + 1, ha, by omega, fun q => by omega, fun q => by omega, ?_, fun j hj => ?_, fun j hj hk => ?_, ?_⟩
        · rw [uI_at, e29, nI_1]; rfl
        · rw [uI_ne (by omega), uI_ne (by omega)]; exact es j hj
        · rw [uI_ne (by omega)]
          by_cases z : j = s + t
          · rw [z, uI_at, show u.1 28 (4 * d) = nI a from e0, nI_1]
          · rw [uI_ne (by omega)]; exact et j hj (by omega)
        · rw [zI_s, ej, en, Nat.one_mul, Nat.add_mul, Nat.one_mul, Nat.add_assoc]
  · rw [if_neg c]
    refine ⟨Or.inr rfl, ?_, ?_⟩
    · rw [n_copy_851_s0, if_neg c]; rfl
    · rw [n_copy_823_s0, if_neg c, Nat.add_zero, zI_id rfl]
      exact h
theorem r_lose_le (h : ZR L u) {d : Nat} (hd : d < L.1 10 1) : n_lose_897_s0 L d ≤ L.1 9 d := by
  obtain ⟨a, s, t, ha, hst, hz, h7, e29, es, et, ej⟩ := (h.d hd).pp
  rw [n_lose_897_s0, ej]
  by_cases c : s = 0
  · have := hz c
    subst c; subst this
    rw [Nat.zero_mul, Nat.zero_mul, n_lst_0]
    exact Nat.le_refl _
  · rw [r_lst2 ha hst (by omega), if_neg (by omega), Nat.add_sub_cancel]
    have := Nat.mul_le_mul_right (2 ^ (3 * a)) (show 1 ≤ s by omega)
    omega
theorem r_lst8 (h : ZR L u) {d : Nat} (hd : d < L.1 10 1) : n_lst (L.1 9 d) ≤ 8 := by
  obtain ⟨a, s, t, ha, hst, hz, h7, e29, es, et, ej⟩ := (h.d hd).pp
  rw [ej]
  by_cases c : s = 0
  · have := hz c
    subst c; subst this
    rw [Nat.zero_mul, Nat.zero_mul, n_lst_0]
    decide
  · rw [r_lst2 ha hst (by omega)]
    omega
theorem r_lose (hZ : CZ N u) (h : ZR L u) {d : Nat} (hd : d < L.1 10 1) : ((opLose u (nI d)).1 = 0 ∨ (opLose u (nI d)).1 = 2) ∧ opr (opLose u (nI d)) = n_lose_931_s0 L d ∧ ZR (zI L 9 d ((L.1 9 d) - (n_lose_897_s0 L d))) (opLose u (nI d)).2.2 := by
  have D := h.d hd
  have hnd := h.nd
  have hcl : (nI d).toNatClampNeg = d := nI_clamp (by omega)
  obtain ⟨a, s, t, ha, hst, hz, h7, e29, es, et, ej⟩ := D.pp
  have hB9 := h.B 9 d
  by_cases c : s = 0
  · have ht := hz c
    have hj0 : L.1 9 d = 0 := by rw [ej, c, ht, Nat.zero_mul, Nat.zero_mul]
    have hop : opLose u (nI d) = (2, 0, u) := by
      rw [opLose, if_neg (h.isd hZ hd), hcl, if_pos]
      rw [e29, c, ht]; rfl
    have e1 : n_lose_897_s0 L d = 0 := by rw [n_lose_897_s0, hj0, n_lst_0, if_pos rfl]
    rw [hop, e1, Nat.sub_zero, zI_id rfl]
    refine ⟨Or.inr rfl, ?_, h⟩
    rw [n_lose_931_s0, hj0, n_lst_0, if_pos rfl]; rfl
  · have hs : 0 < s := by omega
    have hl : n_lst (L.1 9 d) = a + 1 := by rw [ej]; exact r_lst2 ha hst hs
    have en : n_lose_897_s0 L d = 2 ^ (3 * a) := by rw [n_lose_897_s0, hl, if_neg (by omega), Nat.add_sub_cancel, Nat.one_mul]
    have hw : (u.1 29 d).toNatClampNeg = s + t := by rw [e29]; exact nI_clamp (by omega)
    have e29' : u.1 29 d - 1 = nI (s + t - 1) := by rw [e29]; exact nI_sub1 (by omega)
    have hop : opLose u (nI d) = (0, least (loseN (uI u 29 d (u.1 29 d - 1)) d (s + t - 1)) d, loseN (uI u 29 d (u.1 29 d - 1)) d (s + t - 1)) := by
      rw [opLose, if_neg (h.isd hZ hd), hcl, hw, if_neg]
      rw [e29]
      intro q
      rw [nIz (by omega)] at q
      omega
    have m0 : L.1 9 d - 2 ^ (3 * a) = (s - 1) * 2 ^ (3 * a) + t * 2 ^ (3 * (a + 1)) := by
      have : s * 2 ^ (3 * a) = (s - 1) * 2 ^ (3 * a) + 2 ^ (3 * a) := by
        rw [← Nat.succ_mul]
        exact congrArg (fun z => z * 2 ^ (3 * a)) (show s = Nat.succ (s - 1) by omega)
      omega
    have v28 : ∀ j, j < 4 → (loseN (uI u 29 d (u.1 29 d - 1)) d (s + t - 1)).1 28 (4 * d + j) = if j < s + t - 1 then u.1 28 (4 * d + (j + 1)) else u.1 28 (4 * d + j) := fun j hj => by
      rw [loseN_28]
      by_cases z : j < s + t - 1
      · rw [if_pos ⟨by omega, by omega⟩, if_pos z, uI_ne (by omega)]; rfl
      · rw [if_neg (by omega), if_neg z, uI_ne (by omega)]
    have v29 : (loseN (uI u 29 d (u.1 29 d - 1)) d (s + t - 1)).1 29 d = nI (s + t - 1) := by rw [loseN_29, uI_at, e29']
    have h' : ZR (zI L 9 d ((L.1 9 d) - (n_lose_897_s0 L d))) (loseN (uI u 29 d (u.1 29 d - 1)) d (s + t - 1)) := by
      refine h.deed (d0 := d) (h.B.set (by omega)) ?_ (zI_k (by decide)) (zI_k (by decide)) hd (fun k j hk => ?_) (fun k j hk => ?_) (fun d' hd' j hj => ?_) rfl (by rw [loseN_N]; rfl) ?_
      · have e : ∀ j, (zI L 9 d ((L.1 9 d) - (n_lose_897_s0 L d))).1 10 j = L.1 10 j := fun j => zI_k (by decide)
        unfold ZRn
        rw [e, e, e, e, e, loseN_N]
        exact h.n
      · rw [zI_a, if_neg (by omega)]
      · by_cases z : k = 28
        · omega
        · rw [loseN_k z, uI_ne (by omega)]
      · rw [loseN_28, if_neg (by omega), uI_ne (by omega)]
      · have q : ∀ k, 11 ≤ k → k ≤ 27 → (loseN (uI u 29 d (u.1 29 d - 1)) d (s + t - 1)).1 k d = u.1 k d := fun k h1 h2 => by rw [loseN_k (by omega), uI_ne (by omega)]
        have hD2 : ZRd L (loseN (uI u 29 d (u.1 29 d - 1)) d (s + t - 1)) d → True := fun _ => trivial
        refine ⟨by rw [q 11 (by decide) (by decide)]; exact D.kd, by rw [q 12 (by decide) (by decide)]; exact D.gv, by rw [q 13 (by decide) (by decide)]; exact D.tk, D.ne, by rw [q 14 (by decide) (by decide)]; exact D.th, by rw [q 15 (by decide) (by decide), q 16 (by decide) (by decide)]; exact D.sh, by rw [q 17 (by decide) (by decide), q 18 (by decide) (by decide)]; exact D.en, by rw [q 19 (by decide) (by decide)]; exact D.by, by rw [q 20 (by decide) (by decide), q 21 (by decide) (by decide)]; exact D.pa, by rw [q 22 (by decide) (by decide), q 26 (by decide) (by decide), q 27 (by decide) (by decide)]; exact D.st, by rw [q 23 (by decide) (by decide)]; exact D.nr, by rw [q 24 (by decide) (by decide)]; exact D.dy, by rw [q 25 (by decide) (by decide)]; exact D.et, ?_⟩
        have hj' : (zI L 9 d ((L.1 9 d) - (n_lose_897_s0 L d))).1 9 d = (s - 1) * 2 ^ (3 * a) + t * 2 ^ (3 * (a + 1)) := by rw [zI_s, en, m0]
        by_cases c1 : s = 1
        · by_cases c0 : t = 0
          · refine ⟨0, 0, 0, by omega, by omega, fun _ => rfl, fun _ => rfl, by rw [v29, c1, c0], fun j hj => by omega, fun j hj hk => by omega, by rw [hj', c1, c0]; simp⟩
          · refine ⟨a + 1, t, 0, by have := h7; omega, by omega, fun q => absurd q c0, fun _ => rfl, by rw [v29]; exact congrArg nI (by omega), fun j hj => ?_, fun j hj hk => by omega, by rw [hj', c1]; simp⟩
            rw [v28 j (by omega), if_pos (by omega)]
            exact et (j + 1) (by omega) (by omega)
        · refine ⟨a, s - 1, t, ha, by omega, fun q => by omega, h7, by rw [v29]; exact congrArg nI (by omega), fun j hj => ?_, fun j hj hk => ?_, hj'⟩
          · rw [v28 j (by omega), if_pos (by omega)]
            exact es (j + 1) (by omega)
          · rw [v28 j (by omega), if_pos (by omega)]
            exact et (j + 1) (by omega) (by omega)
    rw [hop]
    refine ⟨Or.inl rfl, ?_, h'⟩
    rw [opr, if_pos rfl, n_lose_931_s0, if_neg (by omega), ← n_least_k]
    have := r_least h' (d := d) (by rw [zI_k (by decide)]; exact hd)
    rw [zI_s] at this
    exact this.symm
end OPS
