/-! a death: the parts of the dead one -/
section DIF
variable {L : ZU} {u : MU} {N : Nat}
theorem part_le {p : Nat} {w : Int32} {so al : Nat} {ch : Bool} {many k : Nat} (h1 : so ≤ al) (h2 : al ≤ 4) (h3 : lvBy many ≤ 4) : lvPart u p w so al ch many k ≤ 20 := by
  have h4 : so * lvBy many ≤ 4 * 4 := Nat.mul_le_mul (by omega) h3
  unfold lvPart
  (repeat' split) <;> omega
theorem lvN_F {p t : Nat} {w : Int32} {A B so al : Nat} {ch : Bool} {many cc : Nat} {S : Nat → Nat} (hB0 : 0 < B) (hal : 1 ≤ al) (hal4 : al ≤ 4) (hby0 : 1 ≤ lvBy many) (hby : lvBy many ≤ 4) (hA : A ≤ 1000000) (hB : B ≤ 1000000) (hso : so ≤ al) (hS : ∀ j, j < 13 → 0 < lvPart u p w so al ch many j → FF (S j) (vN (u.2.1 41 (13 * t + j))) (vN (u.2.1 42 (13 * t + j))) ∧ vN (u.2.1 41 (13 * t + j)) ≤ 1000000 ∧ vN (u.2.1 42 (13 * t + j)) ≤ 1000000) (hc : ∀ x, x * cc * (B * al * lvBy many) = PARTS * (A * x)) (m : Nat) (hm : m ≤ 13) :
    (∀ j, j < m → 0 < lvPart u p w so al ch many j → FF (S j + lvPart u p w so al ch many j * cc) (vN ((lvN u p t w A B so al ch many m).2.2.1 41 (13 * t + j))) (vN ((lvN u p t w A B so al ch many m).2.2.1 42 (13 * t + j)))) ∧
    (∀ j a, ¬ (j < m ∧ 0 < lvPart u p w so al ch many j) → (lvN u p t w A B so al ch many m).2.2.1 a (13 * t + j) = u.2.1 a (13 * t + j)) ∧
    ((lvN u p t w A B so al ch many m).1 = true ↔ ∀ j, j < m → 0 < lvPart u p w so al ch many j → n_below (S j + lvPart u p w so al ch many j * cc) ≤ 1000000) := by
  induction m with
  | zero => exact ⟨fun j hj => absurd hj (Nat.not_lt_zero j), fun _ _ _ => rfl, fun _ j hj => absurd hj (Nat.not_lt_zero j), fun _ => rfl⟩
  | succ m ih =>
    obtain ⟨i1, i2, i3⟩ := ih (by omega)
    obtain ⟨P, hP⟩ : ∃ P, P = lvPart u p w so al ch many m := ⟨_, rfl⟩
    obtain ⟨r, hr⟩ : ∃ r, r = lvN u p t w A B so al ch many m := ⟨_, rfl⟩
    rw [lvN, ← hP, ← hr]
    rw [← hr] at i1 i2 i3
    by_cases c : 0 < P
    · rw [if_pos c]
      obtain ⟨f1, f2, f3⟩ := hS m (by omega) (by rw [← hP]; exact c)
      have e41 := i2 m 41 (fun q => absurd q.1 (Nat.lt_irrefl m))
      have e42 := i2 m 42 (fun q => absurd q.1 (Nat.lt_irrefl m))
      have g := f1.up (part := P * cc) (x := A * P) (y := B * al * lvBy many) (hc P) (Nat.mul_pos (Nat.mul_pos hB0 hal) hby0)
      have hP20 : P ≤ 20 := by rw [hP]; exact part_le hso hal4 hby
      have b1 : B * al * lvBy many ≤ 1000000 * 4 * 4 := Nat.mul_le_mul (Nat.mul_le_mul hB hal4) hby
      have b2 : A * P ≤ 1000000 * 20 := Nat.mul_le_mul hA hP20
      have b3 := Nat.mul_le_mul f2 b1
      have b4 := Nat.mul_le_mul b2 f3
      have b5 := Nat.mul_le_mul f3 b1
      have eU : fUp (vN (r.2.2.1 41 (13 * t + m))) (B * al * lvBy many) (A * P) (vN (r.2.2.1 42 (13 * t + m))) true = vN (u.2.1 41 (13 * t + m)) * (B * al * lvBy many) + A * P * vN (u.2.1 42 (13 * t + m)) := by rw [e41, e42, fUp, if_pos rfl]
      have g41 : vN ((fPut r.2 (13 * t + m) (A * P) (B * al * lvBy many) true).2.1 41 (13 * t + m)) = (vN (u.2.1 41 (13 * t + m)) * (B * al * lvBy many) + A * P * vN (u.2.1 42 (13 * t + m))) / Nat.gcd (vN (u.2.1 41 (13 * t + m)) * (B * al * lvBy many) + A * P * vN (u.2.1 42 (13 * t + m))) (vN (u.2.1 42 (13 * t + m)) * (B * al * lvBy many)) := by
        rw [fPut_41, eU, e42]
        exact vN_lN (Nat.lt_of_le_of_lt (Nat.div_le_self _ _) (by omega))
      have g42 : vN ((fPut r.2 (13 * t + m) (A * P) (B * al * lvBy many) true).2.1 42 (13 * t + m)) = vN (u.2.1 42 (13 * t + m)) * (B * al * lvBy many) / Nat.gcd (vN (u.2.1 41 (13 * t + m)) * (B * al * lvBy many) + A * P * vN (u.2.1 42 (13 * t + m))) (vN (u.2.1 42 (13 * t + m)) * (B * al * lvBy many)) := by
        rw [fPut_42, eU, e42]
        exact vN_lN (Nat.lt_of_le_of_lt (Nat.div_le_self _ _) (by omega))
      have gok : fOk r.2 (13 * t + m) (A * P) (B * al * lvBy many) true = true ↔ n_below (S m + P * cc) ≤ 1000000 := by
        rw [fOk, eU, e42, decide_eq_true_eq, g.below]
      refine ⟨fun j hj hp => ?_, fun j a q => ?_, ?_⟩
      · by_cases z : j = m
        · subst z
          show FF _ (vN ((fPut r.2 (13 * t + j) (A * P) (B * al * lvBy many) true).2.1 41 (13 * t + j))) (vN ((fPut r.2 (13 * t + j) (A * P) (B * al * lvBy many) true).2.1 42 (13 * t + j)))
          rw [g41, g42, ← hP]
          exact g
        · show FF _ (vN ((fPut r.2 (13 * t + m) (A * P) (B * al * lvBy many) true).2.1 41 (13 * t + j))) (vN ((fPut r.2 (13 * t + m) (A * P) (B * al * lvBy many) true).2.1 42 (13 * t + j)))
          rw [fPut_n (by omega), fPut_n (by omega)]
          exact i1 j (by omega) hp
      · have z : j ≠ m := fun z => q ⟨by omega, by rw [z, ← hP]; exact c⟩
        show (fPut r.2 (13 * t + m) (A * P) (B * al * lvBy many) true).2.1 a (13 * t + j) = _
        rw [fPut_n (by omega)]
        exact i2 j a (fun y => q ⟨by omega, y.2⟩)
      · show (fOk r.2 (13 * t + m) (A * P) (B * al * lvBy many) true && r.1) = true ↔ _
        rw [Bool.and_eq_true, gok, i3]
        constructor
        · rintro ⟨q1, q2⟩ j hj hp
          by_cases z : j = m
          · rw [z, ← hP]; exact q1
          · exact q2 j (by omega) hp
        · intro q
          exact ⟨by have := q m (Nat.lt_succ_self m) (by rw [← hP]; exact c); rw [← hP] at this; exact this, fun j hj hp => q j (by omega) hp⟩
    · rw [if_neg c]
      refine ⟨fun j hj hp => ?_, fun j a q => ?_, ?_⟩
      · have z : j ≠ m := fun z => c (by rw [hP, ← z]; exact hp)
        exact i1 j (by omega) hp
      · exact i2 j a (fun y => q ⟨by omega, y.2⟩)
      · rw [i3]
        constructor
        · intro q j hj hp
          have z : j ≠ m := fun z => c (by rw [hP, ← z]; exact hp)
          exact q j (by omega) hp
        · intro q j hj hp
          exact q j (by omega) hp
/-- the law's parts, place by place -/
theorem n_dE_v {h mny all sm t : Nat} {M : ZU} (k : Nat) (i : Nat) : (n_dE h mny all sm t M k).2 i = if 7 * t ≤ i ∧ i < 7 * t + k then M.2 i + n_dies_386_s0 h mny all sm (i - 7 * t) else M.2 i := by
  induction k with
  | zero => rw [n_dE, if_neg (by omega)]
  | succ k ih =>
    rw [n_dE, zJ_a]
    by_cases c : i = 7 * t + k
    · subst c
      rw [if_pos rfl, ih, if_neg (by omega), if_pos (by omega), show 7 * t + k - 7 * t = k by omega]
    · rw [if_neg c, ih]
      by_cases d : 7 * t ≤ i ∧ i < 7 * t + k
      · rw [if_pos d, if_pos (by omega)]
      · rw [if_neg d, if_neg (by omega)]
theorem n_d340_v {M : ZU} {x0 c ch t : Nat} (i : Nat) (hne : ¬ c = 0 → M.1 1 (c - 1) / 64 % 8 ≠ x0) : (n_dies_340_L M x0 c ch t).2 i = (if i = 7 * t + x0 then 0 else M.2 i) + (if ¬ c = 0 ∧ i = 7 * t + (M.1 1 (c - 1) / 64 % 8) then n_dies_291_s0 M x0 c ch t else 0) := by
  unfold n_dies_340_L
  by_cases z : c = 0
  · have y : ¬ (¬ c = 0 ∧ i = 7 * t + (M.1 1 (c - 1) / 64 % 8)) := fun q => q.1 z
    rw [if_pos z, if_neg y, zJ_a, Nat.add_zero]
  · have := hne z
    rw [if_neg z, zJ_a, zJ_a, zJ_a]
    by_cases e : i = 7 * t + (M.1 1 (c - 1) / 64 % 8)
    · have y : ¬ c = 0 ∧ i = 7 * t + (M.1 1 (c - 1) / 64 % 8) := ⟨z, e⟩
      rw [if_pos e, if_pos y, e]
    · have y : ¬ (¬ c = 0 ∧ i = 7 * t + (M.1 1 (c - 1) / 64 % 8)) := fun q => e q.2
      rw [if_neg e, if_neg y, Nat.add_zero]
theorem n_dM4_v {x0 c ch h mny t : Nat} {M : ZU} (hne : ¬ c = 0 → M.1 1 (c - 1) / 64 % 8 ≠ x0) (k : Nat) (hk : k < 7) : (n_dM4 x0 c ch h mny t M).2 (7 * t + k) = (if k = x0 then 0 else M.2 (7 * t + k)) + ((if ¬ c = 0 ∧ k = M.1 1 (c - 1) / 64 % 8 then n_dies_291_s0 M x0 c ch t else 0) + (if k = 6 then n_dies_420_s0 mny (M.2 (7 * t + x0)) (n_dies_291_s0 M x0 c ch t) else n_dies_386_s0 h mny (M.2 (7 * t + x0)) (n_dies_291_s0 M x0 c ch t) k)) := by
  have e1 : (if 7 * t + k = 7 * t + x0 then 0 else M.2 (7 * t + k)) = if k = x0 then 0 else M.2 (7 * t + k) := by
    by_cases z : k = x0
    · rw [if_pos z, if_pos (by omega)]
    · rw [if_neg z, if_neg (by omega)]
  have e2 : (if ¬ c = 0 ∧ 7 * t + k = 7 * t + (M.1 1 (c - 1) / 64 % 8) then n_dies_291_s0 M x0 c ch t else 0) = if ¬ c = 0 ∧ k = M.1 1 (c - 1) / 64 % 8 then n_dies_291_s0 M x0 c ch t else 0 := by
    by_cases z : ¬ c = 0 ∧ k = M.1 1 (c - 1) / 64 % 8
    · rw [if_pos z, if_pos ⟨z.1, by rw [z.2]⟩]
    · rw [if_neg z, if_neg (fun q => z ⟨q.1, by omega⟩)]
  rw [n_dM4, zJ_a]
  by_cases c6 : k = 6
  · subst c6
    rw [if_pos rfl, if_pos rfl, n_dE_v, if_neg (by omega), n_d340_v _ hne, e1, e2]
    omega
  · rw [if_neg (by omega), if_neg c6, n_dE_v, if_pos (by omega), n_d340_v _ hne, e1, e2, show 7 * t + k - 7 * t = k by omega]
    omega
theorem n_dM4_o {x0 c ch h mny t : Nat} {M : ZU} (hx : x0 < 6) (hne : ¬ c = 0 → M.1 1 (c - 1) / 64 % 8 < 6) (i : Nat) (hi : i < 7 * t ∨ 7 * t + 7 ≤ i) : (n_dM4 x0 c ch h mny t M).2 i = M.2 i := by
  rw [n_dM4, zJ_a, if_neg (by omega), n_dE_v, if_neg (by omega)]
  unfold n_dies_340_L
  by_cases z : c = 0
  · rw [if_pos z, zJ_a, if_neg (by omega)]
  · have := hne z
    rw [if_neg z, zJ_a, if_neg (by omega), zJ_a, if_neg (by omega)]
/-- all that is to be known of the dead one's parts -/
theorem die_c (hZ : CZ N u) (h : ZR L u) (hK : ZKu u) {x0 : Nat} (hx : x0 < 6) {q all : Nat} (hall : all = 144 * q) (h0 : 0 < all) : ∃ so al cc, (so, al) = lvCap (lvCh u x0) (lvS0 u (willN u x0 (u.2.2.1 10))) (lvA0 u (willN u x0 (u.2.2.1 10))) ∧ 1 ≤ al ∧ al ≤ 4 ∧ so ≤ al ∧ 1 ≤ lvBy (lvMany u x0) ∧ lvBy (lvMany u x0) ≤ 4 ∧ all = al * lvBy (lvMany u x0) * cc ∧ (all - so * lvBy (lvMany u x0) * cc) / lvBy (lvMany u x0) = (al - so) * cc ∧ all - so * lvBy (lvMany u x0) * cc = (al - so) * lvBy (lvMany u x0) * cc ∧ (n_dc L x0 = 0 → so = 0) ∧ (¬ n_dc L x0 = 0 → n_dc L x0 - 1 < L.1 10 1 ∧ L.1 1 (n_dc L x0 - 1) / 64 % 8 ≠ x0 ∧ L.1 1 (n_dc L x0 - 1) / 64 % 8 < 6) ∧ willN u x0 (u.2.2.1 10) = nI (n_dc L x0) - 1 ∧ ∀ M : ZU, ∀ t, M.1 = L.1 → M.2 (7 * t + x0) = all → n_dies_291_s0 M x0 (n_dc L x0) (n_dCh L x0 6) t = so * lvBy (lvMany u x0) * cc := by
  obtain ⟨hw1, -, hw3⟩ := r_willN hZ h hx (L.1 10 1) (Nat.le_refl _)
  have hnd := h.nd
  obtain ⟨k1, -, k3, -⟩ := r_heirs hZ h hK hx
  rw [hnd.1]
  rw [← show n_dc L x0 = (n_willN L x0 (L.1 10 1)).1 from rfl] at hw1 hw3
  obtain ⟨c, hc⟩ : ∃ c, c = n_dc L x0 := ⟨_, rfl⟩
  obtain ⟨w, hw⟩ : ∃ w, w = willN u x0 (L.1 10 1) := ⟨_, rfl⟩
  rw [← hc] at hw1 hw3 ⊢
  rw [← hw] at hw1 ⊢
  have hc24 : c ≤ 24 := by rw [hc]; exact Nat.le_trans (n_willN_le _) hnd.2
  have by1 : 1 ≤ lvBy (lvMany u x0) := by unfold lvBy; split <;> omega
  have by4 : lvBy (lvMany u x0) ≤ 4 := by unfold lvBy; split <;> omega
  -- the will's terms
  obtain ⟨n, d, hS, hA, hn, hd1, hd4, hn0, hcf⟩ : ∃ n d, lvS0 u w = n ∧ lvA0 u w = d ∧ n ≤ d ∧ 1 ≤ d ∧ d ≤ 4 ∧ (c = 0 → n = 0) ∧ (¬ c = 0 → c - 1 < L.1 10 1 ∧ L.1 1 (c - 1) / 64 % 8 ≠ x0 ∧ L.1 1 (c - 1) / 64 % 8 < 6 ∧ n = L.1 2 (c - 1) / 128 ∧ d = L.1 2 (c - 1) % 128) := by
    by_cases z : c = 0
    · have zw : w = -1 := by rw [hw1]; exact (nIm (by omega)).mpr z
      exact ⟨0, 1, if_pos zw, if_pos zw, by decide, by decide, by decide, fun _ => rfl, fun y => absurd z y⟩
    · have zw : ¬ w = -1 := by rw [hw1]; exact fun y => z ((nIm (by omega)).mp y)
      have hwc : w.toNatClampNeg = c - 1 := by rw [hw1, nI_sub1 z]; exact nI_clamp (by omega)
      have h1 := n_willN_k (L := L) (x0 := x0) (L.1 10 1) (by rw [← show n_dc L x0 = (n_willN L x0 (L.1 10 1)).1 from rfl, ← hc]; exact z)
      rw [← show n_dc L x0 = (n_willN L x0 (L.1 10 1)).1 from rfl, ← hc] at h1
      have D := h.d h1.1
      obtain ⟨s1, s2, s3, s4, s5⟩ := D.sh (by omega)
      have hiw : L.1 1 (c - 1) / 8 % 8 = x0 := by
        rcases willN_or (u := u) (p := x0) (L.1 10 1) with y | ⟨j, hj, ej, hi⟩
        · exact absurd (hw.trans y) zw
        · rw [← hw, hw1, nI_sub1 z, nIe (by omega) (by omega)] at ej
          subst ej
          rw [isW, Bool.and_eq_true, Bool.and_eq_true, decide_eq_true_eq, decide_eq_true_eq, D.gv.2, nIe (by omega) (by omega)] at hi
          exact hi.2.1
      refine ⟨L.1 2 (c - 1) / 128, L.1 2 (c - 1) % 128, ?_, ?_, s2, by omega, s3, fun y => absurd y z, fun _ => ⟨h1.1, fun y => D.ne (hiw.trans y.symm), D.tk.1, rfl, rfl⟩⟩
      · rw [lvS0, if_neg zw, hwc, s4]; exact nI_clamp (by omega)
      · rw [lvA0, if_neg zw, hwc, s5]; exact nI_clamp (by omega)
  rw [hS, hA]
  obtain ⟨c1, c2, c3⟩ := cap_f (ch := lvCh u x0) hn hd1
  have c4 : (lvCap (lvCh u x0) n d).2 ≤ 4 := by
    unfold lvCap
    split
    · decide
    · exact hd4
  obtain ⟨cc, x1, x2, x3, x4⟩ := ex_by (by' := lvBy (lvMany u x0)) hall c2 c4 c1 by1 by4
  refine ⟨(lvCap (lvCh u x0) n d).1, (lvCap (lvCh u x0) n d).2, cc, rfl, c2, c4, c1, by1, by4, x1, x3, x4, fun z => c3 (hn0 z), fun z => ⟨(hcf z).1, (hcf z).2.1, (hcf z).2.2.1⟩, hw1, fun M t eM eA => ?_⟩
  rw [← x2, ← ex_cap (ch := lvCh u x0) hall h0 hd1 hd4 hn]
  have e261 : n_dies_261_s0 M x0 c (n_dCh L x0 6) t = all / d * n := by
    unfold n_dies_261_s0
    by_cases z : c = 0
    · rw [if_pos z, hn0 z, Nat.mul_zero]
    · rw [if_neg z, eM, eA, (hcf z).2.2.2.1, (hcf z).2.2.2.2]
  rw [n_dies_291_s0, e261, eA, k1]
  by_cases z : 0 < n_dCh L x0 6
  · rw [if_pos z, if_pos (decide_eq_true z)]
  · rw [if_neg z, if_neg (fun y => z (of_decide_eq_true y))]
end DIF
