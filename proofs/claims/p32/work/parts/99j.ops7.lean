/-! enter -/
theorem ent_y {α : Type} {c1 c2 c3 c4 c5 c6 c7 : Prop} {i1 : Decidable c1} {i2 : Decidable c2} {i3 : Decidable c3} {i4 : Decidable c4} {i5 : Decidable c5} {i6 : Decidable c6} {i7 : Decidable c7} {x y : α} (h : ¬ c1 ∧ c2 ∧ ¬ c3 ∧ ¬ c4 ∧ ¬ c5 ∧ ¬ c6) (h7 : ¬ c7) : (if c1 then x else (if c2 then (if c3 then x else (if c4 then x else (if c5 then x else (if c6 then x else (if c7 then x else y))))) else x)) = y := by
  obtain ⟨q1, q2, q3, q4, q5, q6⟩ := h
  rw [if_neg q1, if_pos q2, if_neg q3, if_neg q4, if_neg q5, if_neg q6, if_neg h7]
theorem ent_x {α : Type} {c1 c2 c3 c4 c5 c6 c7 : Prop} {i1 : Decidable c1} {i2 : Decidable c2} {i3 : Decidable c3} {i4 : Decidable c4} {i5 : Decidable c5} {i6 : Decidable c6} {i7 : Decidable c7} {x y : α} (h : ¬ (¬ c1 ∧ c2 ∧ ¬ c3 ∧ ¬ c4 ∧ ¬ c5 ∧ ¬ c6)) : (if c1 then x else (if c2 then (if c3 then x else (if c4 then x else (if c5 then x else (if c6 then x else (if c7 then x else y))))) else x)) = x := by
  by_cases q1 : c1
  · rw [if_pos q1]
  · rw [if_neg q1]
    by_cases q2 : c2
    · rw [if_pos q2]
      by_cases q3 : c3
      · rw [if_pos q3]
      · rw [if_neg q3]
        by_cases q4 : c4
        · rw [if_pos q4]
        · rw [if_neg q4]
          by_cases q5 : c5
          · rw [if_pos q5]
          · rw [if_neg q5]
            by_cases q6 : c6
            · rw [if_pos q6]
            · exact absurd ⟨q1, q2, q3, q4, q5, q6⟩ h
    · rw [if_neg q2]
theorem kk_6 {k : Nat} (h : k < 6) : kk k = k := if_neg (by omega)
theorem kk_13 {k : Nat} (h : k < 7) : kk k < 13 := by unfold kk; split <;> omega
theorem kk_eq {t k t' k' : Nat} (hk : k < 7) (hk' : k' < 7) : 13 * t + kk k = 13 * t' + kk k' ↔ 7 * t + k = 7 * t' + k' := by
  unfold kk
  (repeat' split) <;> omega
section OPS
variable {L : ZU} {u : MU} {N : Nat}
theorem tak_33 {v : MU} {j : Nat} (h : j < 104) : (tak v).2.1 33 j = v.2.1 41 j := by simp [tak, takP, h]
theorem tak_34 {v : MU} {j : Nat} (h : j < 104) : (tak v).2.1 34 j = v.2.1 42 j := by simp [tak, takP, h]
/-- the end of an entry -/
theorem r_ent_fin (h : ZR L u) (hn3 : L.1 10 3 ≤ 25) (hD : L.1 10 4 ≤ 1000000) {d w r : Nat} (hd : d < L.1 10 1) (hw : w ≤ 6000) (hk : L.1 1 d % 8 ≤ 2) {LJ : ZU} {v : MU} (h1 : ZR LJ v) (hv1 : v.1 = u.1) (hv2 : v.2.2 = u.2.2) (eL : LJ.1 = L.1) (hr : r = ((L.1 1 d % 8) + (8 * d)) + (512 * ((L.1 1 d / 512) - 1))) : ZR (zI (zI (zI (zI LJ 10 4 (L.1 10 4 + w)) 12 (L.1 10 3) r) 10 3 (L.1 10 3 + 1)) 8 d (L.1 10 3 + 1)) (uI (upComes (uT v (u.2.2.2.2 + lN w)) (u.1 11 d) (nI d) (u.1 14 d)) 25 d (nI (u.2.2.1 35))) := by
  have D := h.d hd
  have hnd := h.nd
  have hT := D.th
  have hT1 := hT.2.2 hk
  have s2 := h1.duty (D := L.1 10 4 + w) (by omega)
  have e3 : (zI LJ 10 4 (L.1 10 4 + w)).1 10 3 = L.1 10 3 := by rw [zI_n (by decide), eL]
  have e1 : (zI LJ 10 4 (L.1 10 4 + w)).1 10 1 = L.1 10 1 := by rw [zI_n (by decide), eL]
  have s3 := s2.entry (r := r) (s := u.1 11 d) (w := nI d) (t := u.1 14 d) (by rw [e3]; omega) (by omega) (by rw [D.kd.2]; exact congrArg nI (by omega)) (congrArg nI (by omega)) (by rw [hT.2.1, nI_sub1 (by omega)]; exact congrArg nI (by omega))
  rw [e3] at s3
  rw [h.du, lN_add, h.ne.1]
  have e1' : (zI (zI (zI LJ 10 4 (L.1 10 4 + w)) 12 (L.1 10 3) r) 10 3 (L.1 10 3 + 1)).1 10 1 = L.1 10 1 := by rw [zI_n (by decide), zI_k (by decide), e1]
  have hd3 : d < (zI (zI (zI LJ 10 4 (L.1 10 4 + w)) 12 (L.1 10 3) r) 10 3 (L.1 10 3 + 1)).1 10 1 := by rw [e1']; exact hd
  have D3 := s3.d hd3
  refine s3.deed (d0 := d) (s3.B.set (by omega)) ?_ (zI_k (by decide)) (zI_k (by decide)) hd3 (fun k j q => by rw [zI_a, if_neg (by omega)]) (fun k j q => uI_ne (by omega)) (fun d' hd' j hj => uI_ne (by omega)) rfl rfl ?_
  · have hn := s3.n
    have t : ∀ j, (zI (zI (zI (zI LJ 10 4 (L.1 10 4 + w)) 12 (L.1 10 3) r) 10 3 (L.1 10 3 + 1)) 8 d (L.1 10 3 + 1)).1 10 j = (zI (zI (zI LJ 10 4 (L.1 10 4 + w)) 12 (L.1 10 3) r) 10 3 (L.1 10 3 + 1)).1 10 j := fun j => zI_k (by decide)
    unfold ZRn at hn ⊢
    rw [t, t, t, t, t]
    exact hn
  · refine ⟨D3.kd, D3.gv, D3.tk, D3.ne, D3.th, D3.sh, D3.en, D3.by, D3.pa, D3.st, D3.nr, D3.dy, ?_, D3.pp⟩
    rw [zI_s, uI_at]
    exact ⟨by omega, (nI_pred _).symm⟩
theorem r_enter (hZ : CZ N u) (h : ZR L u) (hn3 : ¬ 25 < L.1 10 3) (hD : L.1 10 4 ≤ 1000000) {d : Nat} (hd : d < L.1 10 1) : ((opEnter u (nI d)).1 = 0 ∨ (opEnter u (nI d)).1 = 2) ∧ opr (opEnter u (nI d)) = n_enters L d ∧ ZR (n_entersL L d) (opEnter u (nI d)).2.2 ∧ (n_entersL L d).1 10 0 = L.1 10 0 ∧ (n_entersL L d).1 10 4 ≤ L.1 10 4 + 6000 := by
  have D := h.d hd
  have hnd := h.nd
  have hk := D.kd
  have hg := D.gv
  have ht := D.tk
  have hgt := D.ne
  have hT := D.th
  have hcl : (nI d).toNatClampNeg = d := nI_clamp (by omega)
  have hR := r_ready h (by omega) hd
  -- what is refused with nothing touched
  have no : ∀ (v : MU), v.1 = u.1 → v.2.2 = u.2.2 → v.2.1 33 = u.2.1 33 → v.2.1 34 = u.2.1 34 → ZR L v := fun v a1 a2 a3 a4 => h.shares a1 a2 rfl (fun t ht k hk => by rw [ZRs, a3, a4]; exact h.s ht hk) (fun i hi => h.o hi)
  have hop : opEnter u (nI d) = if (ent u d).1 = false then (2, 0, (ent u d).2) else (0, nI (u.2.2.1 35), uI (upComes (uT (tak (ent u d).2) (u.2.2.2.2 + lN (worth u d / dutyPart u d))) (u.1 11 d) (nI d) (u.1 14 d)) 25 d (nI (u.2.2.1 35))) := by
    rw [opEnter, if_neg (h.isd hZ hd), hcl]
  have bad : (ent u d).1 = false → n_enters L d = -1003 → n_entersL L d = L → ((opEnter u (nI d)).1 = 0 ∨ (opEnter u (nI d)).1 = 2) ∧ opr (opEnter u (nI d)) = n_enters L d ∧ ZR (n_entersL L d) (opEnter u (nI d)).2.2 ∧ (n_entersL L d).1 10 0 = L.1 10 0 ∧ (n_entersL L d).1 10 4 ≤ L.1 10 4 + 6000 := fun c e1 e2 => by
    rw [hop, if_pos c, e1, e2]
    exact ⟨Or.inr rfl, rfl, no _ ent_I ent_N (ent_33 (by decide) (by decide)) (ent_33 (by decide) (by decide)), rfl, Nat.le_add_right _ _⟩
  by_cases c : ready u d = true
  · have R := hR.mp c
    have hk2 : L.1 1 d % 8 ≤ 2 := by omega
    have hT1 := hT.2.2 hk2
    obtain ⟨x1, xy, y4, e15, e16⟩ := D.sh (by omega)
    have th2 : L.1 1 d / 512 - 1 < 2 := by omega
    have e14 : (u.1 14 d).toNatClampNeg = L.1 1 d / 512 - 1 := by rw [hT.2.1, nI_sub1 (by omega)]; exact nI_clamp (by omega)
    have c15 : (u.1 15 d).toNatClampNeg = L.1 2 d / 128 := by rw [e15]; exact nI_clamp (by omega)
    have c16 : (u.1 16 d).toNatClampNeg = L.1 2 d % 128 := by rw [e16]; exact nI_clamp (by omega)
    have c12 : (u.1 12 d).toNatClampNeg = L.1 1 d / 8 % 8 := by rw [hg.2]; exact nI_clamp (by omega)
    have c13 : (u.1 13 d).toNatClampNeg = L.1 1 d / 64 % 8 := by rw [ht.2]; exact nI_clamp (by omega)
    have Fa := h.ff hZ th2 (k := L.1 1 d / 8 % 8) (by omega)
    have Fb := h.ff hZ th2 (k := L.1 1 d / 64 % 8) (by omega)
    rw [kk_6 hg.1] at Fa
    rw [kk_6 ht.1] at Fb
    have hp : PARTS / (L.1 2 d % 128) * (L.1 2 d / 128) * (L.1 2 d % 128) = PARTS * (L.1 2 d / 128) := by
      rw [Nat.mul_assoc, Nat.mul_comm (L.1 2 d / 128), ← Nat.mul_assoc, parts_dv _ (by omega) y4]
    -- names
    obtain ⟨th, eth⟩ : ∃ q, q = L.1 1 d / 512 - 1 := ⟨_, rfl⟩
    obtain ⟨g, eg⟩ : ∃ q, q = L.1 1 d / 8 % 8 := ⟨_, rfl⟩
    obtain ⟨t, et⟩ : ∃ q, q = L.1 1 d / 64 % 8 := ⟨_, rfl⟩
    obtain ⟨xx, exx⟩ : ∃ q, q = L.1 2 d / 128 := ⟨_, rfl⟩
    obtain ⟨yy, eyy⟩ : ∃ q, q = L.1 2 d % 128 := ⟨_, rfl⟩
    have hent : ent u d = entX u d th xx yy g t := by rw [ent, e14, c15, c16, c12, c13, ← eth, ← eg, ← et, ← exx, ← eyy]
    rw [← eth, ← eg] at Fa
    rw [← eth, ← et] at Fb
    rw [← exx, ← eyy] at hp
    have hg1 : g < 6 := by rw [eg]; exact hg.1
    have ht1 : t < 6 := by rw [et]; exact ht.1
    have hgt' : g ≠ t := by rw [eg, et]; exact hgt
    have ht2 : th < 2 := by rw [eth]; exact th2
    have y0 : 0 < yy := by omega
    obtain ⟨Fa1, Fa2, Fa3, Fa4, Fa5⟩ := Fa
    obtain ⟨Fb1, Fb2, Fb3, Fb4, Fb5⟩ := Fb
    have hlt := Fa1.lt hp y0
    have eA : n_enters L d = (if (L.2 ((7 * th) + g)) < (PARTS / yy * xx) then (-1003) else (if ((L.1 1 d) % 8) < 2 then (if 1000000 < (n_below ((L.2 ((7 * th) + g)) - (PARTS / yy * xx))) then (-1003) else (if 1000000 < (n_below ((L.2 ((7 * th) + t)) + (PARTS / yy * xx))) then (-1003) else (nI (((L.1 10 3) + 1) - 1)))) else (nI (((L.1 10 3) + 1) - 1)))) := by
      rw [eth, eg, et, exx, eyy]
      exact ent_y R (by omega)
    have eW : (if th = 0 then 999 else 54321) * xx / yy = worth u d := by
      rw [worth, e14, c15, c16, ← eth, ← exx, ← eyy]
      have hw := h.w
      by_cases z : th = 0
      · rw [if_pos z, z, hw.1]; rfl
      · rw [if_neg z, show th = 1 by omega, hw.2]; rfl
    have wb : worth u d ≤ 54321 * 4 := by
      rw [← eW]
      refine Nat.le_trans (Nat.div_le_self _ _) (Nat.mul_le_mul ?_ (by omega))
      split <;> omega
    have wdb : worth u d ≤ 54321 := by
      rw [← eW]
      have : (if th = 0 then 999 else 54321) * xx ≤ 54321 * yy := Nat.mul_le_mul (by split <;> omega) (by omega)
      exact Nat.div_le_of_le_mul (Nat.le_trans this (Nat.le_of_eq (Nat.mul_comm _ _)))
    have hdp : (if L.1 1 d % 8 = 0 then 20 else if L.1 1 d % 8 = 2 then 100 else if n_kin L g t = true then 50 else 10) = dutyPart u d := by
      rw [dutyPart, hk.2, c12, c13, ← eg, ← et, r_kin h hg1 ht1]
      have q0 : nI (L.1 1 d % 8) = 0 ↔ L.1 1 d % 8 = 0 := nIz (by omega)
      have q2 : nI (L.1 1 d % 8) = 2 ↔ L.1 1 d % 8 = 2 := by rw [show (2 : Int32) = nI 2 from rfl]; exact nIe (by omega) (by decide)
      by_cases z : L.1 1 d % 8 = 0
      · rw [if_pos z, if_pos (q0.mpr z)]
      · rw [if_neg z, if_neg (fun q => z (q0.mp q))]
        by_cases z2 : L.1 1 d % 8 = 2
        · rw [if_pos z2, if_pos (q2.mpr z2)]
        · rw [if_neg z2, if_neg (fun q => z2 (q2.mp q))]
    have dp10 : 10 ≤ dutyPart u d := by rw [← hdp]; (repeat' split) <;> omega
    have wq : worth u d / dutyPart u d ≤ 6000 := by
      have := Nat.div_le_div_left (a := worth u d) dp10 (by decide)
      omega
    by_cases c2 : (L.2 ((7 * th) + g)) < (PARTS / yy * xx)
    · refine bad ?_ (by rw [eA, if_pos c2]) ?_
      · rw [hent, entX, if_neg (by rw [c]; decide), if_pos (hlt.mp c2)]
      · rw [n_entersL]
        rw [eth, eg, exx, eyy] at c2
        rw [ent_y R (by omega), if_pos c2]
    · have nlt : ¬ vN (u.2.1 33 (13 * th + g)) * yy < xx * vN (u.2.1 34 (13 * th + g)) := fun q => c2 (hlt.mpr q)
      by_cases c3 : L.1 1 d % 8 < 2
      · -- a deed that moves a share
        have Dn := Fa1.dn hp y0
        have Up := Fb1.up hp y0
        have n2 : ¬ u.1 11 d = 2 := by rw [hk.2, show (2 : Int32) = nI 2 from rfl, nIe (by omega) (by decide)]; omega
        have hent2 : ent u d = (fOk (lay u) (13 * th + g) xx yy false && fOk (fPut (lay u) (13 * th + g) xx yy false) (13 * th + t) xx yy true, fPut (fPut (lay u) (13 * th + g) xx yy false) (13 * th + t) xx yy true) := by
          rw [hent, entX, if_neg (by rw [c]; decide), if_neg nlt, if_neg n2]
        have la : (lay u).2.1 41 (13 * th + g) = u.2.1 33 (13 * th + g) ∧ (lay u).2.1 42 (13 * th + g) = u.2.1 34 (13 * th + g) := ⟨lay_41 (by omega), lay_42 (by omega)⟩
        have lb : (lay u).2.1 41 (13 * th + t) = u.2.1 33 (13 * th + t) ∧ (lay u).2.1 42 (13 * th + t) = u.2.1 34 (13 * th + t) := ⟨lay_41 (by omega), lay_42 (by omega)⟩
        have lb' : ∀ k, (fPut (lay u) (13 * th + g) xx yy false).2.1 k (13 * th + t) = (lay u).2.1 k (13 * th + t) := fun k => fPut_n (by omega)
        have ok1 : fOk (lay u) (13 * th + g) xx yy false = decide (n_below ((L.2 ((7 * th) + g)) - (PARTS / yy * xx)) ≤ 1000000) := by rw [fOk, la.1, la.2, Dn.below]; rfl
        have ok2 : fOk (fPut (lay u) (13 * th + g) xx yy false) (13 * th + t) xx yy true = decide (n_below ((L.2 ((7 * th) + t)) + (PARTS / yy * xx)) ≤ 1000000) := by rw [fOk, lb', lb', lb.1, lb.2, Up.below]; rfl
        have eL : n_entersL L d = (if 1000000 < (n_below ((L.2 ((7 * th) + g)) - (PARTS / yy * xx))) then L else (if 1000000 < (n_below ((L.2 ((7 * th) + t)) + (PARTS / yy * xx))) then L else (zI (zI (zI (zI (zJ (zJ L ((7 * th) + g) ((L.2 ((7 * th) + g)) - (PARTS / yy * xx))) ((7 * th) + t) (((zJ L ((7 * th) + g) ((L.2 ((7 * th) + g)) - (PARTS / yy * xx))).2 ((7 * th) + t)) + (PARTS / yy * xx))) 10 4 ((L.1 10 4) + ((((n_enters_278_s0' L d) * xx) / yy) / (n_enters_342_s0' L d)))) 12 (L.1 10 3) ((((L.1 1 d) % 8) + (8 * d)) + (512 * th))) 10 3 ((L.1 10 3) + 1)) 8 d ((L.1 10 3) + 1)))) := by
          rw [n_entersL]
          rw [eth, eg, exx, eyy] at c2
          rw [ent_y R (by omega), if_neg c2, if_pos c3, eth, eg, et, exx, eyy]
        by_cases k1 : 1000000 < (n_below ((L.2 ((7 * th) + g)) - (PARTS / yy * xx)))
        · refine bad ?_ (by rw [eA, if_neg c2, if_pos c3, if_pos k1]) (by rw [eL, if_pos k1])
          rw [hent2]
          show (fOk _ _ _ _ _ && _) = false
          rw [ok1, decide_eq_false (by omega), Bool.false_and]
        · by_cases k2 : 1000000 < (n_below ((L.2 ((7 * th) + t)) + (PARTS / yy * xx)))
          · refine bad ?_ (by rw [eA, if_neg c2, if_pos c3, if_neg k1, if_pos k2]) (by rw [eL, if_neg k1, if_pos k2])
            rw [hent2]
            show (_ && fOk _ _ _ _ _) = false
            rw [ok2, decide_eq_false (by omega), Bool.and_false]
          · have ok : ¬ (ent u d).1 = false := by
              rw [hent2]
              show ¬ (fOk _ _ _ _ _ && fOk _ _ _ _ _) = false
              rw [ok1, ok2, decide_eq_true (by omega), decide_eq_true (by omega)]
              decide
            have e278 : n_enters_278_s0' L d = if th = 0 then 999 else 54321 := by rw [n_enters_278_s0', eth]
            have e342 : n_enters_342_s0' L d = dutyPart u d := by rw [← hdp, eg, et]; rfl
            have z2 : (zJ L ((7 * th) + g) ((L.2 ((7 * th) + g)) - (PARTS / yy * xx))).2 ((7 * th) + t) = L.2 ((7 * th) + t) := zJ_n (by omega)
            have vI : (ent u d).2.1 = u.1 := ent_I
            have vN2 : (ent u d).2.2.2 = u.2.2 := ent_N
            have bA : vN (u.2.1 33 (13 * th + g)) * yy ≤ 1000000 * 4 := Nat.mul_le_mul (by omega) (by omega)
            have bB : vN (u.2.1 34 (13 * th + g)) * yy ≤ 1000000 * 4 := Nat.mul_le_mul (by omega) (by omega)
            have bC : vN (u.2.1 33 (13 * th + t)) * yy ≤ 1000000 * 4 := Nat.mul_le_mul (by omega) (by omega)
            have bD : vN (u.2.1 34 (13 * th + t)) * yy ≤ 1000000 * 4 := Nat.mul_le_mul (by omega) (by omega)
            have bE : xx * vN (u.2.1 34 (13 * th + t)) ≤ 4 * 1000000 := Nat.mul_le_mul (by omega) (by omega)
            have S1 : ZR (zJ (zJ L ((7 * th) + g) ((L.2 ((7 * th) + g)) - (PARTS / yy * xx))) ((7 * th) + t) ((L.2 ((7 * th) + t)) + (PARTS / yy * xx))) (tak (ent u d).2) := by
              refine h.shares vI vN2 rfl (fun t' ht' k' hk' => ?_) (fun i hi => ?_)
              · have h13 := kk_13 hk'
                rw [ZRs, tak_33 (by omega), tak_34 (by omega), hent2]
                show _ * vN ((fPut (fPut (lay u) (13 * th + g) xx yy false) (13 * th + t) xx yy true).2.1 42 (13 * t' + kk k')) = PARTS * vN ((fPut (fPut (lay u) (13 * th + g) xx yy false) (13 * th + t) xx yy true).2.1 41 (13 * t' + kk k'))
                have k1 := kk_eq (t := t') (k := k') (t' := th) (k' := g) hk' (by omega)
                have k2 := kk_eq (t := t') (k := k') (t' := th) (k' := t) hk' (by omega)
                rw [kk_6 hg1] at k1
                rw [kk_6 ht1] at k2
                by_cases a1 : 7 * t' + k' = 7 * th + t
                · rw [a1, k2.mpr a1, zJ_s, fPut_41, fPut_42, lb', lb', lb.1, lb.2]
                  show _ * vN (lN (vN (u.2.1 34 (13 * th + t)) * yy / Nat.gcd (vN (u.2.1 33 (13 * th + t)) * yy + xx * vN (u.2.1 34 (13 * th + t))) (vN (u.2.1 34 (13 * th + t)) * yy))) = PARTS * vN (lN ((vN (u.2.1 33 (13 * th + t)) * yy + xx * vN (u.2.1 34 (13 * th + t))) / Nat.gcd (vN (u.2.1 33 (13 * th + t)) * yy + xx * vN (u.2.1 34 (13 * th + t))) (vN (u.2.1 34 (13 * th + t)) * yy)))
                  rw [vN_lN (Nat.lt_of_le_of_lt (Nat.div_le_self _ _) (by omega)), vN_lN (Nat.lt_of_le_of_lt (Nat.div_le_self _ _) (by omega))]
                  exact Up.1
                · have a1' : 13 * t' + kk k' ≠ 13 * th + t := fun q => a1 (k2.mp q)
                  rw [zJ_n a1, fPut_n a1', fPut_n a1']
                  by_cases a2 : 7 * t' + k' = 7 * th + g
                  · rw [a2, k1.mpr a2, zJ_s, fPut_41, fPut_42, la.1, la.2]
                    show _ * vN (lN (vN (u.2.1 34 (13 * th + g)) * yy / Nat.gcd (vN (u.2.1 33 (13 * th + g)) * yy - xx * vN (u.2.1 34 (13 * th + g))) (vN (u.2.1 34 (13 * th + g)) * yy))) = PARTS * vN (lN ((vN (u.2.1 33 (13 * th + g)) * yy - xx * vN (u.2.1 34 (13 * th + g))) / Nat.gcd (vN (u.2.1 33 (13 * th + g)) * yy - xx * vN (u.2.1 34 (13 * th + g))) (vN (u.2.1 34 (13 * th + g)) * yy)))
                    rw [vN_lN (Nat.lt_of_le_of_lt (Nat.div_le_self _ _) (by omega)), vN_lN (Nat.lt_of_le_of_lt (Nat.div_le_self _ _) (by omega))]
                    exact Dn.1
                  · have a2' : 13 * t' + kk k' ≠ 13 * th + g := fun q => a2 (k1.mp q)
                    rw [zJ_n a2, fPut_n a2', fPut_n a2', lay_41 (by omega), lay_42 (by omega)]
                    exact h.s ht' hk'
              · rw [zJ_n (by omega), zJ_n (by omega)]
                exact h.o hi
            rw [hop, if_neg ok, eA, if_neg c2, if_pos c3, if_neg k1, if_neg k2, eL, if_neg k1, if_neg k2, e278, e342, eW, z2]
            refine ⟨Or.inl rfl, ?_, ?_, ?_, ?_⟩
            · rw [opr, if_pos rfl, Nat.add_sub_cancel]
              show nI (u.2.2.1 35) = _
              rw [h.ne.1]
            · exact r_ent_fin h (by omega) hD hd wq hk2 S1 vI vN2 rfl (by rw [eth])
            · rw [zI_k (by decide), zI_n (by decide), zI_k (by decide), zI_n (by decide)]; rfl
            · rw [zI_k (by decide), zI_n (by decide), zI_k (by decide), zI_s]; omega
      · -- a pledge
        have n2 : u.1 11 d = 2 := by rw [hk.2, show L.1 1 d % 8 = 2 by omega]; rfl
        have hent2 : ent u d = (true, lay u) := by
          rw [hent, entX, if_neg (by rw [c]; decide), if_neg nlt, if_pos n2]
        have eL : n_entersL L d = (zI (zI (zI (zI (zJ (zJ L ((7 * th) + g) ((L.2 ((7 * th) + g)) - 0)) ((7 * th) + t) (((zJ L ((7 * th) + g) ((L.2 ((7 * th) + g)) - 0)).2 ((7 * th) + t)) + 0)) 10 4 ((L.1 10 4) + ((((n_enters_278_s0 L d) * xx) / yy) / (n_enters_342_s0 L d)))) 12 (L.1 10 3) ((((L.1 1 d) % 8) + (8 * d)) + (512 * th))) 10 3 ((L.1 10 3) + 1)) 8 d ((L.1 10 3) + 1)) := by
          rw [n_entersL]
          rw [eth, eg, exx, eyy] at c2
          rw [ent_y R (by omega), if_neg c2, if_neg c3, eth, eg, et, exx, eyy]
        have e278 : n_enters_278_s0 L d = if th = 0 then 999 else 54321 := by rw [n_enters_278_s0, eth]
        have e342 : n_enters_342_s0 L d = dutyPart u d := by rw [← hdp, eg, et]; rfl
        have S1 : ZR L (tak (lay u)) := by
          refine h.shares rfl rfl rfl (fun t' ht' k' hk' => ?_) (fun i hi => h.o hi)
          have h13 := kk_13 hk'
          rw [ZRs, tak_33 (by omega), tak_34 (by omega), lay_41 (by omega), lay_42 (by omega)]
          exact h.s ht' hk'
        rw [Nat.sub_zero, zJ_id rfl, Nat.add_zero, zJ_id rfl] at eL
        rw [hop, if_neg (by rw [hent2]; exact fun q => Bool.noConfusion q), eA, if_neg c2, if_neg c3, eL, e278, e342, eW, hent2]
        refine ⟨Or.inl rfl, ?_, ?_, ?_, ?_⟩
        · rw [opr, if_pos rfl, Nat.add_sub_cancel]
          show nI (u.2.2.1 35) = _
          rw [h.ne.1]
        · exact r_ent_fin h (by omega) hD hd wq hk2 S1 rfl rfl rfl (by rw [eth])
        · rw [zI_k (by decide), zI_n (by decide), zI_k (by decide), zI_n (by decide)]
        · rw [zI_k (by decide), zI_n (by decide), zI_k (by decide), zI_s]; omega
  · refine bad ?_ ?_ ?_
    · rw [ent, entX, if_pos (by rw [Bool.not_eq_true] at c; exact c)]
    · rw [n_enters]; exact ent_x (fun q => c (hR.mpr q))
    · rw [n_entersL]; exact ent_x (fun q => c (hR.mpr q))
end OPS
