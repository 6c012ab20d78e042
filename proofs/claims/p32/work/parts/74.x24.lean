/-! the class: keeping an entry -/
theorem CQ.tr {g : Gx} {ez : Nat} {ad ad1 : Nat → Nat → Nat} {u u1 w : MU} {Y Y1 Y' : GS} {s0 s1 s2 : Sg} (h00 : ad1 0 0 = ad 0 0) (hF : CFr g ez ad u Y s0 s1) (hn : ∀ k i, cel g ez ad1 u1 Y1 k i ≠ none → (cel g ez ad u Y k i ≠ none ∧ ad1 k i = ad k i) ∨ s0 (ad1 k i) = none) (hl : ∀ k i, cel g ez ad u Y k i ≠ none → ¬ k = 2 → cel g ez ad1 u1 Y1 k i ≠ none ∧ ad1 k i = ad k i) (hm : ∀ a, s0 a ≠ none → s1 a ≠ none) (h2 : CQ g ez ad1 u1 Y1 s1 w Y' s2) : CQ g ez ad u Y s0 w Y' s2 := by
  obtain ⟨ad2, q1, q2, q3, q4, q6, q5⟩ := h2
  refine ⟨ad2, q1, q2.trans h00, fun a e he hno => q3 a e (hF a e he hno) (fun k i hc => ?_), fun k i hc => ?_, fun k i hc n2 => ?_, fun a ha => q5 a (hm a ha)⟩
  · rcases hn k i hc with ⟨z1, z2⟩ | z
    · rw [z2]; exact hno k i z1
    · intro y
      rw [← y, he] at z
      cases z
  · rcases q4 k i hc with ⟨z1, z2⟩ | z
    · rcases hn k i z1 with ⟨y1, y2⟩ | y
      · exact Or.inl ⟨y1, z2.trans y2⟩
      · exact Or.inr (by rw [z2]; exact y)
    · right
      cases e : s0 (ad2 k i) with
      | none => rfl
      | some b => exact absurd z (hm _ (by rw [e]; exact fun q => by cases q))
  · obtain ⟨y1, y2⟩ := hl k i hc n2
    obtain ⟨z1, z2⟩ := q6 k i y1 n2
    exact ⟨z1, z2.trans y2⟩
/-- another store to begin with -/
theorem CQ.base {g : Gx} {ez : Nat} {ad : Nat → Nat → Nat} {u w : MU} {Y Y' : GS} {s0 s1 s2 : Sg} (h1 : ∀ a, s0 a ≠ none → s1 a = s0 a) (h2 : CQ g ez ad u Y s1 w Y' s2) : CQ g ez ad u Y s0 w Y' s2 :=
  CQ.tr (ad1 := ad) rfl (fun a e he _ => (h1 a (by rw [he]; exact fun q => by cases q)).trans he) (fun k i hc => Or.inl ⟨hc, rfl⟩) (fun k i hc _ => ⟨hc, rfl⟩) (fun a ha => by rw [h1 a ha]; exact ha) h2
theorem SN.sy {w u : MU} (h : SN w u) : SN u w := ⟨h.1.symm, h.2.1.symm, h.2.2.1.symm, h.2.2.2.1.symm, h.2.2.2.2.symm⟩
/-- changes in place ahead -/
theorem CQ.ip {g : Gx} {ez : Nat} {ad : Nat → Nat → Nat} {u u1 w : MU} {Y Y1 Y' : GS} {s0 s1 s2 : Sg} (hN : SN u1 u) (hF : CFr g ez ad u Y s0 s1) (hm : ∀ a, s0 a ≠ none → s1 a ≠ none) (h2 : CQ g ez ad u1 Y1 s1 w Y' s2) : CQ g ez ad u Y s0 w Y' s2 :=
  CQ.tr (ad1 := ad) rfl hF (fun k i hc => Or.inl ⟨hN.ne hc, rfl⟩) (fun k i hc _ => ⟨(SN.sy hN).ne hc, rfl⟩) hm h2
abbrev uJJ (u : MU) (J : Nat → Nat → Int64) : MU := (u.1, J, u.2.2)
theorem CS.shr {g : Gx} {ez : Nat} {ad : Nat → Nat → Nat} {u : MU} {Y : GS} {sg s1 : Sg} (h : CS g ez ad u Y sg) (h8 : u.2.2.1 31 ≤ 8) {t : Nat} (ht : t < u.2.2.1 31) {G : Nat → Rat} {J : Nat → Nat → Int64} (hS : SH g s1 (ad 9 t) (ad 10 t) (ad 11 t) G) (hfr : ∀ p, p ≠ ad 10 t → p ≠ ad 11 t → s1 p = sg p) (hG : ∀ k, k < 13 → HQ (uJJ u J) 33 34 (13 * t + k) (G k)) (hJ : ∀ s, s < u.2.2.1 31 → s ≠ t → ∀ k, k < 13 → J 33 (13 * s + k) = u.2.1 33 (13 * s + k) ∧ J 34 (13 * s + k) = u.2.1 34 (13 * s + k)) : CS g ez ad (uJJ u J) Y s1 := by
  have hc : ∀ k i, ¬ (k = 10 ∧ i = t) → ¬ (k = 11 ∧ i = t) → cel g ez ad (uJJ u J) Y k i = cel g ez ad u Y k i := fun k i n1 n2 => by
    match k with
    | 0 | 1 | 2 | 4 | 5 | 6 | 7 | 8 | 9 | 12 | _ + 13 => rfl
    | 3 =>
      show (if i < u.2.2.1 2 then some (ob 7 (pcl ad (uJJ u J) i)) else none) = _
      rw [pcl_I (w := uJJ u J) (u := u) rfl]
      rfl
    | 10 =>
      show (if i = 8 then some (arJ g 13 (clip 13 0 Y.2.2.1)) else if i < u.2.2.1 31 then some (arJ g 13 (clip 13 0 (fun j => J 33 (13 * i + j)))) else none) = (if i = 8 then some (arJ g 13 (clip 13 0 Y.2.2.1)) else if i < u.2.2.1 31 then some (arJ g 13 (clip 13 0 (fun j => u.2.1 33 (13 * i + j)))) else none)
      by_cases e8 : i = 8
      · rw [if_pos e8, if_pos e8]
      · rw [if_neg e8, if_neg e8]
        by_cases hi : i < u.2.2.1 31
        · rw [if_pos hi, if_pos hi, clip_cg (fun j hj => (hJ i hi (fun z => n1 ⟨rfl, z⟩) j hj).1)]
        · rw [if_neg hi, if_neg hi]
    | 11 =>
      show (if i = 8 then some (arJ g 13 (clip 13 0 Y.2.2.2)) else if i < u.2.2.1 31 then some (arJ g 13 (clip 13 0 (fun j => J 34 (13 * i + j)))) else none) = (if i = 8 then some (arJ g 13 (clip 13 0 Y.2.2.2)) else if i < u.2.2.1 31 then some (arJ g 13 (clip 13 0 (fun j => u.2.1 34 (13 * i + j)))) else none)
      by_cases e8 : i = 8
      · rw [if_pos e8, if_pos e8]
      · rw [if_neg e8, if_neg e8]
        by_cases hi : i < u.2.2.1 31
        · rw [if_pos hi, if_pos hi, clip_cg (fun j hj => (hJ i hi (fun z => n2 ⟨rfl, z⟩) j hj).2)]
        · rw [if_neg hi, if_neg hi]
  have e10 : cel g ez ad (uJJ u J) Y 10 t = some (arJ g 13 (clip 13 0 (fun j => J 33 (13 * t + j)))) := (if_neg (by omega)).trans (if_pos ht)
  have e11 : cel g ez ad (uJJ u J) Y 11 t = some (arJ g 13 (clip 13 0 (fun j => J 34 (13 * t + j)))) := (if_neg (by omega)).trans (if_pos ht)
  have lv : ∀ k i, cel g ez ad (uJJ u J) Y k i ≠ none → cel g ez ad u Y k i ≠ none := fun k i z => by
    by_cases n1 : k = 10 ∧ i = t
    · rw [n1.1, n1.2, cel_10 h8 ht]; exact fun q => by cases q
    · by_cases n2 : k = 11 ∧ i = t
      · rw [n2.1, n2.2, cel_11 h8 ht]; exact fun q => by cases q
      · rw [← hc k i n1 n2]; exact z
  refine ⟨fun k i e he => ?_, fun k i j n a b c => h.2.1 k i j n (lv k i a) (lv j n b) c, fun e he a m hm => ?_⟩
  · by_cases n1 : k = 10 ∧ i = t
    · obtain ⟨rfl, rfl⟩ := n1
      rw [e10] at he
      rw [hS.2.1, ← he]
      exact congrArg (fun F => some (arJ g 13 F)) (clip_cg (fun j hj => (hG j hj).2.1.symm))
    · by_cases n2 : k = 11 ∧ i = t
      · obtain ⟨rfl, rfl⟩ := n2
        rw [e11] at he
        rw [hS.2.2.1, ← he]
        exact congrArg (fun F => some (arJ g 13 F)) (clip_cg (fun j hj => (hG j hj).2.2.symm))
      · rw [hc k i n1 n2] at he
        have hne : cel g ez ad u Y k i ≠ none := by rw [he]; exact fun q => by cases q
        rw [hfr (ad k i) (fun z => n1 (h.2.1 k i 10 t hne (by rw [cel_10 h8 ht]; exact fun q => by cases q) z)) (fun z => n2 (h.2.1 k i 11 t hne (by rw [cel_11 h8 ht]; exact fun q => by cases q) z))]
        exact h.1 k i e he
  · have hv := h.2.2 e he a m hm
    rw [hfr a (fun z => ob_ar hv (by rw [z]; exact h.1 10 t _ (cel_10 h8 ht))) (fun z => ob_ar hv (by rw [z]; exact h.1 11 t _ (cel_11 h8 ht)))]
    exact hv
def YE (Y : GS) (n : Nat) (mo : Option (Nat × Mv)) : GS := ((fun e => if e = n then mo else Y.1 e), Y.2)
abbrev mins (sg : Sg) (q : Nat) : Sg := fun a => if a = q then none else sg a
def up4 (u : MU) (n : Nat) (s w t dy : Int32) : MU := uI (uI (uI (uI u 36 n s) 37 n w) 38 n t) 39 n dy
theorem up4_cel {g : Gx} {ez : Nat} {ad : Nat → Nat → Nat} {u : MU} {Y : GS} {n k i : Nat} {s w t dy : Int32} {mo : Option (Nat × Mv)} (hP : WP u) (hW : WN u) (h : ¬ (KK 3 k ∧ i = n)) : cel g ez ad (up4 u n s w t dy) (YE Y n mo) k i = cel g ez ad u Y k i := by
  have h2 : ∀ r, kdOf r = 12 → ixOf r n = n → ¬ (kdOf r = k ∧ ixOf r n = i) := fun r e1 e2 z => h ⟨Or.inr (Or.inr (Or.inr ⟨rfl, by omega⟩)), by omega⟩
  unfold up4
  rw [cel_uI (((hP.u (by decide)).u (by decide)).u (by decide)) hW (by decide) (h2 39 rfl rfl), cel_uI ((hP.u (by decide)).u (by decide)) hW (by decide) (h2 38 rfl rfl), cel_uI (hP.u (by decide)) hW (by decide) (h2 37 rfl rfl), cel_uI hP hW (by decide) (h2 36 rfl rfl)]
  match k with
  | 0 | 1 | 2 | 3 | 4 | 5 | 6 | 7 | 8 | 9 | 10 | 11 | _ + 13 => rfl
  | 12 =>
    have e : (YE Y n mo).1 i = Y.1 i := if_neg (fun z => h ⟨Or.inr (Or.inr (Or.inr ⟨rfl, rfl⟩)), z⟩)
    show (if i < u.2.2.1 35 then some (ob 3 (ecl ad u (YE Y n mo) i)) else none) = (if i < u.2.2.1 35 then some (ob 3 (ecl ad u Y i)) else none)
    unfold ecl
    rw [e]
theorem up4_i {u : MU} {n : Nat} {s w t dy : Int32} : (up4 u n s w t dy).1 36 n = s ∧ (up4 u n s w t dy).1 37 n = w ∧ (up4 u n s w t dy).1 38 n = t ∧ (up4 u n s w t dy).1 39 n = dy := by
  unfold up4
  simp [uI, upd]
set_option maxRecDepth 100000 in
theorem C_keepEntry {g : Gx} {l : Launch} {ez : Nat} (G : GOK g l ez) {sg : Sg} {ad : Nat → Nat → Nat} {u : MU} {Y : GS} (hS : CS g ez ad u Y sg) (hV : CV u) (hP : WP u) (hW : WN u) {t : Nat} (ht : t < u.2.2.1 31) {f : Nat → Rat} (hq : ∀ k, k < 13 → HQ u 33 34 (13 * t + k) (f k)) (hf : FOk f) {mo : Option (Nat × Mv)} (hmo : moOk mo f) (hmc : ∀ a m, mo = some (a, m) → sg a = some (ob 5 (vcl m))) (hn : u.2.2.1 35 < 100) {fe : Nat} {kd ab : Int32} (hfe : sg fe = some (ob 3 [.int kd, .int ab, .ref (ad 8 t), .int u.2.2.2.1, va_rf (mo.map (fun q => q.1))])) (hfd : ∀ k i, cel g ez ad u Y k i ≠ none → ad k i ≠ fe) {J : Nat → Nat → Int64} (hG : ∀ k, k < 13 → HQ (uJJ u J) 33 34 (13 * t + k) (moF mo f k)) (hJ : ∀ s, s < u.2.2.1 31 → s ≠ t → ∀ k, k < 13 → J 33 (13 * s + k) = u.2.1 33 (13 * s + k) ∧ J 34 (13 * s + k) = u.2.1 34 (13 * s + k)) : MM g l yX8_keepEntry cX8_keepEntry 2 none (rmC 8 1 1000) sg [.ref (ad 0 0), .ref fe] (fun v s' => v = none ∧ CQ g ez ad u Y (mins sg fe) (upComes (uJJ u J) kd ab (nI t)) (YE Y (u.2.2.1 35) mo) s') (noX) := by
  refine MM.of G.1 G.2.1 (by decide) (Nat.le_of_ble_eq_true rfl) (fun x hg hlx C hin hout hargs => ?_)
  subst hg; subst hlx
  have C : AWC x cX8_keepEntry 2 RX8 (rmC 8 1 1000) none := C
  show AW x (RQ x _ _ _ _) 0 0 sg 0 [(0, .ref (ad 0 0)), (1, .ref fe)] []
  have h8 := hV.n31
  have hSt := hS.sh h8 ht hq
  have d10 := hfd 10 t (by rw [cel_10 h8 ht]; exact fun q => by cases q)
  have d11 := hfd 11 t (by rw [cel_11 h8 ht]; exact fun q => by cases q)
  -- behind the move
  suffices kk : ∀ s1, SH x.g s1 (ad 9 t) (ad 10 t) (ad 11 t) (moF mo f) → (∀ p, p ≠ ad 10 t → p ≠ ad 11 t → s1 p = sg p) → AW x (RQ x (fun v s' => v = none ∧ CQ x.g ez ad u Y (mins sg fe) (upComes (uJJ u J) kd ab (nI t)) (YE Y (u.2.2.1 35) mo) s') noX (rmC 8 1 1000).cells (rmC 8 1 1000).slots) 0 0 s1 14 [(0, .ref (ad 0 0)), (1, .ref fe)] [] by
    match mo, hmo, hmc, hfe, kk with
    | none, hmo, hmc, hfe, kk =>
      refine aw_aload_n C dX8_keepEntry_0 rfl rfl rfl ?_
      refine aw_getf C f_X8_368 hfe rfl dX8_keepEntry_1 rfl ?_
      refine aw_getf C f_X8_307 (hS.T ht) rfl dX8_keepEntry_4 rfl ?_
      refine aw_aload_n C dX8_keepEntry_7 rfl rfl rfl ?_
      refine aw_getf C f_X8_390 hfe rfl dX8_keepEntry_8 rfl ?_
      refine cw_callVNv C k_X8_394 (C_carryN G) ⟨by decide, by decide⟩ (ci := 8) rfl hSt.1 rfl rfl (Nat.le_of_ble_eq_true rfl) (Nat.le_of_ble_eq_true rfl) (Nat.le_of_ble_eq_true rfl) dX8_keepEntry_11 rfl ?_
      exact kk _ hSt (fun _ _ _ => rfl)
    | some (mq, m), hmo, hmc, hfe, kk =>
      refine aw_aload_n C dX8_keepEntry_0 rfl rfl rfl ?_
      refine aw_getf C f_X8_368 hfe rfl dX8_keepEntry_1 rfl ?_
      refine aw_getf C f_X8_307 (hS.T ht) rfl dX8_keepEntry_4 rfl ?_
      refine aw_aload_n C dX8_keepEntry_7 rfl rfl rfl ?_
      refine aw_getf C f_X8_390 hfe rfl dX8_keepEntry_8 rfl ?_
      refine aw_callVN C k_X8_394 (C_carry G hSt (hmc mq m rfl) hf hmo) ⟨by decide, by decide⟩ (ci := 8) rfl hSt.1 rfl rfl (Nat.le_of_ble_eq_true rfl) (Nat.le_of_ble_eq_true rfl) (Nat.le_of_ble_eq_true rfl) dX8_keepEntry_11 rfl (fun E s1 hx => ?_) (fun v1 s1 hq => ?_)
      · exact ax_no hx
      obtain ⟨rfl, hH1, hfr1⟩ := hq
      exact kk s1 hH1 hfr1
  intro s1 hH1 hfr1
  have hS1 := hS.shr h8 ht hH1 hfr1 hG hJ
  have hfe1 : s1 fe = _ := (hfr1 fe (Ne.symm d10) (Ne.symm d11)).trans hfe
  have h1 : ∀ a, mins s1 fe a ≠ none → s1 a = mins s1 fe a := fun a ha => by
    by_cases e : a = fe
    · exact absurd (if_pos e) ha
    · exact (if_neg e).symm
  have lvu : ∀ k i, cel x.g ez ad (uJJ u J) Y k i ≠ none → cel x.g ez ad u Y k i ≠ none := fun k i z => SN.ne (w := uJJ u J) (u := u) ⟨rfl, rfl, rfl, rfl, rfl⟩ z
  have hSB : CS x.g ez ad (uJJ u J) Y (mins s1 fe) := ⟨fun k i e he => (if_neg (hfd k i (lvu k i (by rw [he]; exact fun q => by cases q)))).trans (hS1.1 k i e he), hS1.2.1, fun e he a m hm => (if_neg (fun z => by
    have h5 := hS1.2.2 e he a m hm
    rw [z, hfe1] at h5
    cases h5)).trans (hS1.2.2 e he a m hm)⟩
  have hV1 : CV (uJJ u J) := hV
  have hmc1 : ∀ a m, mo = some (a, m) → s1 a = some (ob 5 (vcl m)) := fun a m hm => (hfr1 a (no5 (hS.1 10 t _ (cel_10 h8 ht)) (hmc a m hm)) (no5 (hS.1 11 t _ (cel_11 h8 ht)) (hmc a m hm))).trans (hmc a m hm)
  have hFin := fun s2 (hAdd : CQ x.g ez ad (uJJ u J) Y (mins s1 fe) (upComes (uJJ u J) kd ab (nI t)) (YE Y (u.2.2.1 35) mo) s2) => CQ.ip (u1 := uJJ u J) (Y1 := Y) (u := u) (Y := Y) (s0 := mins sg fe) ⟨rfl, rfl, rfl, rfl, rfl⟩ (fun a e he hno => by
      by_cases z : a = fe
      · rw [show mins sg fe a = none from if_pos z] at he; cases he
      · rw [show mins sg fe a = sg a from if_neg z] at he
        rw [show mins s1 fe a = s1 a from if_neg z, hfr1 a (hno 10 t (by rw [cel_10 h8 ht]; exact fun q => by cases q)) (hno 11 t (by rw [cel_11 h8 ht]; exact fun q => by cases q)), he]) (fun a ha => by
      by_cases z : a = fe
      · exact absurd (if_pos z) ha
      · rw [show mins sg fe a = sg a from if_neg z] at ha
        rw [show mins s1 fe a = s1 a from if_neg z]
        by_cases z1 : a = ad 10 t
        · rw [z1, hH1.2.1]; exact fun q => by cases q
        · by_cases z2 : a = ad 11 t
          · rw [z2, hH1.2.2.1]; exact fun q => by cases q
          · rw [hfr1 a z1 z2]; exact ha) hAdd
  refine aw_aload_n C dX8_keepEntry_14 rfl rfl rfl ?_
  refine aw_getf C f_X8_22 hS1.O rfl dX8_keepEntry_15 rfl ?_
  refine aw_aload_n C dX8_keepEntry_18 rfl rfl rfl ?_
  refine aw_callV C k_X8_64 (L_add G (v := fe) (hS1.H (i := 3) (by decide)) (by show u.2.2.1 35 < 109; omega) (ci := 3) rfl (fun i hi => ⟨_, hS1.En hi⟩) hfe1) ⟨by decide, by decide⟩ (ci := 1) rfl (hS1.L (i := 3) (by decide)) rfl rfl (Nat.le_of_ble_eq_true rfl) (Nat.le_of_ble_eq_true rfl) (Nat.le_of_ble_eq_true rfl) dX8_keepEntry_19 rfl (fun _ _ q => ax_no q) (fun v2 s2 hq2 => ?_)
  obtain ⟨rfl, qa, hqa, hL2, hfr2⟩ := hq2
  have hn1 : u.2.2.1 35 = ln (uJJ u J) 3 := rfl
  obtain ⟨i36, i37, i38, i39⟩ := up4_i (u := uJJ u J) (n := u.2.2.1 35) (s := kd) (w := ab) (t := nI t) (dy := u.2.2.2.1)
  have hK12 : KK 3 12 := Or.inr (Or.inr (Or.inr ⟨rfl, rfl⟩))
  have hAdd := (CS.add (Y' := YE Y (u.2.2.1 35) mo) (w := up4 (uJJ u J) (u.2.2.1 35) kd ab (nI t) u.2.2.2.1) (f := fun _ => fe) hV1 hSB (l := 3) (n := u.2.2.1 35) (by decide) rfl (fun z => by omega) rfl (fun ad k i hk => up4_cel hP hW hk) h1 hqa hL2 hfr2 (fun k e hk he => by
      obtain rfl : k = 12 := by unfold KK at hk; omega
      rw [show cel x.g ez (adN ad 3 qa (u.2.2.1 35) (fun _ => fe)) (uN (up4 (uJJ u J) (u.2.2.1 35) kd ab (nI t) u.2.2.2.1) (lcn 3) (u.2.2.1 35 + 1)) (YE Y (u.2.2.1 35) mo) 12 (u.2.2.1 35) = some (ob 3 (ecl (adN ad 3 qa (u.2.2.1 35) (fun _ => fe)) (up4 (uJJ u J) (u.2.2.1 35) kd ab (nI t) u.2.2.2.1) (YE Y (u.2.2.1 35) mo) (u.2.2.1 35))) from if_pos (by rw [show (uN (up4 (uJJ u J) (u.2.2.1 35) kd ab (nI t) u.2.2.2.1) (lcn 3) (u.2.2.1 35 + 1)).2.2.1 35 = u.2.2.1 35 + 1 from uN_at]; omega)] at he
      refine ⟨?_, if_pos rfl⟩
      rw [← he, hfe1]
      unfold ecl
      rw [i36, i37, i38, i39, nI_clamp (by omega), adN_k (k := 8) (by decide) (by decide), show (YE Y (u.2.2.1 35) mo).1 (u.2.2.1 35) = mo from if_pos rfl]) (fun k j hk hj _ _ _ => by unfold KK at hk hj; omega) (fun e he => by
      show (if e = u.2.2.1 35 then mo else Y.1 e) = Y.1 e
      rw [if_neg (Nat.ne_of_lt he)]) (fun _ a m hm => hmc1 a m (by rw [show (YE Y (u.2.2.1 35) mo).1 (u.2.2.1 35) = mo from if_pos rfl] at hm; exact hm))).1
  refine aw_pop C dX8_keepEntry_22 rfl rfl ?_
  exact aw_vret C (Nat.le_of_ble_eq_true rfl) (Nat.le_of_ble_eq_true rfl) ⟨rfl, hFin s2 hAdd⟩ dX8_keepEntry_23
