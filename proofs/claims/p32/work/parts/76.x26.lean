/-! the class: enter -/
theorem ent_null {N : Nat} {u : MU} (hI : CI N u) {d : Nat} (hd : d < u.2.2.1 10) (e14 : u.1 14 d = -1) : (ent u d).1 = false := by
  refine ent_no ?_
  cases hr : ready u d with
  | false => rfl
  | true =>
    obtain ⟨-, t, x, y, ht, e, -⟩ := hI.I.K d hd (ready_of hr).1
    rw [e14] at e
    exact absurd e.symm (nI_m1n (by have := hI.n31; omega))
theorem CI.r25 {N : Nat} {u : MU} (hI : CI N u) {d : Nat} {v : Int32} : CI N (uI u 25 d v) := by
  have hS : WS1 (uI u 25 d v) := hI.Q.s
  refine ⟨⟨hI.I.reg (fun a ha => ?_) (fun _ _ => rfl) hI.n35 hS, hI.Q.fr rfl rfl rfl⟩, hI.F.fr rfl rfl rfl rfl, hI.Pa, hI.X⟩
  rcases ha with rfl | rfl | rfl | rfl | rfl | rfl | rfl | rfl | rfl | rfl | rfl | rfl | rfl | rfl <;> rfl
theorem upC_25 {X : MU} {s w t v : Int32} {d : Nat} : uI (upComes X s w t) 25 d v = upComes (uI X 25 d v) s w t := by
  unfold upComes
  show uN (uI (uI (uI (uI (uI X 36 (X.2.2.1 35) s) 37 (X.2.2.1 35) w) 38 (X.2.2.1 35) t) 39 (X.2.2.1 35) X.2.2.2.1) 25 d v) 35 (X.2.2.1 35 + 1) = _
  rw [uI_comm (r := 39) (r2 := 25) (by decide), uI_comm (r := 38) (r2 := 25) (by decide), uI_comm (r := 37) (r2 := 25) (by decide), uI_comm (r := 36) (r2 := 25) (by decide)]
  rfl
theorem ent_w {u : MU} {d : Nat} {D : Int64} {s w t v : Int32} : uI (upComes (uT (tak (ent u d).2) D) s w t) 25 d v = upComes (uJJ (uT (uI u 25 d v) D) (tak (ent u d).2).2.1) s w t := by
  rw [upC_25]
  have e1 : uI (uT (tak (ent u d).2) D) 25 d v = uJJ (uT (uI u 25 d v) D) (tak (ent u d).2).2.1 := by
    have i1 : (tak (ent u d).2).1 = u.1 := ent_I
    have i2 : (tak (ent u d).2).2.2 = u.2.2 := ent_N
    unfold uI uT uJJ
    rw [i1, i2]
  rw [e1]
theorem upC_38 {X : MU} {s w t : Int32} : (∀ e, e < X.2.2.1 35 → (upComes X s w t).1 38 e = X.1 38 e) ∧ (upComes X s w t).1 38 (X.2.2.1 35) = t := by
  refine ⟨fun e he => ?_, ?_⟩
  · have h : ¬ e = X.2.2.1 35 := by omega
    unfold upComes
    simp [uN, uI, upd, h]
  · unfold upComes
    simp [uN, uI, upd]
theorem upC_o {X : MU} {s w t : Int32} {r : Nat} (h : ¬ r = 36 ∧ ¬ r = 37 ∧ ¬ r = 38 ∧ ¬ r = 39) : (upComes X s w t).1 r = X.1 r := by
  obtain ⟨h1, h2, h3, h4⟩ := h
  unfold upComes
  simp [uN, uI, h1, h2, h3, h4]
theorem cy_sum {f : Nat → Rat} {a b x y : Nat} (ha : a < 13) (hb : b < 13) (hab : a ≠ b) : sumQ (cyF f a b x y) 13 = sumQ f 13 := by
  rw [sumQ_out (f := fun k => if k = b then (fun k => if k = a then f k + -(mr x y) else f k) k + mr x y else (fun k => if k = a then f k + -(mr x y) else f k) k) (g := cyF f a b x y) (fun k hk => ?_), sumQ_up hb, sumQ_up ha, Rat.add_assoc, Rat.neg_add_cancel, Rat.add_zero]
  unfold cyF sq
  by_cases k1 : k = a
  · have k2 : ¬ k = b := fun z => hab (k1.symm.trans z)
    simp only [if_pos k1, if_neg k2]
    rfl
  · by_cases k2 : k = b
    · simp only [if_neg k1, if_pos k2]
      rfl
    · simp only [if_neg k1, if_neg k2]
theorem cy_FOk {f : Nat → Rat} (hf : FOk f) (hs : sumQ f 13 = 1) {a b x y : Nat} (hC : CyOk f a b x y) (hA : allSm (cyF f a b x y) 13 = true) : FOk (cyF f a b x y) := fun k hk => by
  refine ⟨(cy_den hf hC hk).1, ?_, allSm_t.mp hA k hk⟩
  have := sumQ_le (f := cyF f a b x y) (m := 13) (i := k) (fun j hj => (cy_den hf hC hj).1) hk
  rw [cy_sum hC.1 hC.2.1 hC.2.2.1, hs] at this
  exact this
theorem mono_of {g : Gx} {ez : Nat} {ad : Nat → Nat → Nat} {u w : MU} {Y Z : GS} {sg s' : Sg} (hS : CS g ez ad w Z s') (hN : SN w u) (hF : CFr g ez ad u Y sg s') : ∀ a, sg a ≠ none → s' a ≠ none := fun a ha => by
  by_cases h : ∃ k i, cel g ez ad u Y k i ≠ none ∧ a = ad k i
  · obtain ⟨k, i, hc, rfl⟩ := h
    have hc2 := hN.sy.ne (Z := Y) (Y := Z) hc
    cases e : cel g ez ad w Z k i with
    | none => exact absurd e hc2
    | some b => rw [hS.1 k i b e]; exact fun q => by cases q
  · cases e : sg a with
    | none => exact absurd e ha
    | some b => rw [hF a b e (fun k i hc z => h ⟨k, i, hc, z⟩)]; exact fun q => by cases q
theorem CFr.nw {g : Gx} {ez : Nat} {ad : Nat → Nat → Nat} {u : MU} {Y : GS} {sg s' : Sg} (h : ∀ a, sg a ≠ none → s' a = sg a) : CFr g ez ad u Y sg s' := fun a e he _ => (h a (by rw [he]; exact fun q => by cases q)).trans he
theorem cel_lv10 {g : Gx} {ez : Nat} {ad : Nat → Nat → Nat} {u : MU} {Y : GS} : cel g ez ad u Y 10 8 ≠ none ∧ cel g ez ad u Y 11 8 ≠ none := ⟨by rw [cel_t10]; exact (fun q => by cases q), by rw [cel_t11]; exact (fun q => by cases q)⟩
theorem isCh_78 {u w : MU} (h : w.1 7 = u.1 7) (h8 : w.1 8 = u.1 8) {p : Nat} {v : Int32} : isCh w p v = isCh u p v := by
  have e : ∀ m, isChN w p v m = isChN u p v m := fun m => by
    induction m with
    | zero => rfl
    | succ m ih => rw [isChN, isChN, ih, h]
  rw [isCh, isCh, e, h8]
theorem isKin_78 {u w : MU} (h : w.1 7 = u.1 7) (h8 : w.1 8 = u.1 8) {a b : Nat} : isKin w a b = isKin u a b := by rw [isKin, isKin, isCh_78 h h8, isCh_78 h h8]
set_option maxRecDepth 100000 in
theorem F_enter {g : Gx} {l : Launch} {ez : Nat} (G : GOK g l ez) {sg : Sg} {ad : Nat → Nat → Nat} {u : MU} {Y : GS} (hS : CS g ez ad u Y sg) {N : Nat} (hI : CI N u) {v : Int32} : MM g l yX8_enter cX8_enter 5 (some .int) (rmC 9 12 2000) sg [.ref (ad 0 0), .int v] (OPost g ez ad u Y sg (opEnter u v)) (OX g ez ad u Y sg x2s (opEnter u v)) := by
  refine MM.of G.1 G.2.1 (by decide) (Nat.le_of_ble_eq_true rfl) (fun x hg hlx C hin hout hargs => ?_)
  subst hg; subst hlx
  have C : AWC x cX8_enter 5 RX8 (rmC 9 12 2000) (some .int) := C
  show AW x (RQ x _ _ _ _) 0 0 sg 0 [(0, .ref (ad 0 0)), (1, .int v)] []
  refine aw_aload_n C dX8_enter_0 rfl rfl rfl ?_
  refine aw_iload_n C dX8_enter_1 rfl rfl rfl ?_
  refine aw_callV C k_X8_159 (C_deedAt G hS hI (v := v)) ⟨by decide, by decide⟩ (ci := 10) rfl hS.O rfl rfl (Nat.le_of_ble_eq_true rfl) (Nat.le_of_ble_eq_true rfl) (Nat.le_of_ble_eq_true rfl) dX8_enter_2 rfl (fun E s1 hx => ?_) (fun v1 s1 hq => ?_)
  · obtain ⟨rfl, hx, rfl⟩ := hx
    exact ax_out C hout (Nat.le_of_ble_eq_true rfl) (Nat.le_of_ble_eq_true rfl) (OX.of (c := 1) (r := 0) (w := u) (by simp [opEnter, hx]) (by decide) rfl (CR.rf hS))
  obtain ⟨d, hd, rfl, rfl, hss⟩ := hq
  obtain rfl := hss.symm
  have ed := isDd_in hI.W hd
  have kd : (nI d).toNatClampNeg = d := nI_clamp (by have := hI.n10; omega)
  refine aw_astore_n (ls' := [(2, _), (0, _), (1, _)]) C dX8_enter_5 rfl (by decide) rfl rfl ?_
  rcases hI.th hd with e14 | ⟨t, ht, e14⟩
  · refine aw_aload_n C dX8_enter_6 rfl rfl rfl ?_
    refine aw_getf C f_X8_294 (hS.D hd) rfl dX8_enter_7 rfl ?_
    rw [e14, rfo_m]
    refine aw_astore_nN (ls' := [(3, _), (2, _), (0, _), (1, _)]) C dX8_enter_10 rfl (by decide) rfl rfl ?_
    refine aw_aload_nN C dX8_enter_11 rfl rfl rfl ?_
    refine aw_ifnull (r := none) (tgt := 34) C dX8_enter_12 (by decide) rfl (fun _ => ?_) (fun _ z => nomatch z)
    exact aw_thrW C G thS 26 rfl dX8_enter_34 dX8_enter_37 dX8_enter_38 dX8_enter_41 dX8_enter_44 hout ⟨by decide, (Nat.le_of_ble_eq_true rfl)⟩ (Nat.le_of_ble_eq_true rfl) (Nat.le_of_ble_eq_true rfl) (OX.of (c := 2) (r := 0) (w := (ent u d).2) (by rw [opEnter, if_neg (by simp [ed]), kd, if_pos (ent_null hI hd e14)]) (by decide) rfl (CR.ent hS CFr.rf rfl rfl)) (Nat.le_of_ble_eq_true rfl) (Nat.le_of_ble_eq_true rfl)
  · refine aw_aload_n C dX8_enter_6 rfl rfl rfl ?_
    refine aw_getf C f_X8_294 (hS.D hd) rfl dX8_enter_7 rfl ?_
    rw [e14, rfo_q (by have := hI.n31; omega)]
    refine aw_astore_n (ls' := [(3, _), (2, _), (0, _), (1, _)]) C dX8_enter_10 rfl (by decide) rfl rfl ?_
    refine aw_aload_n C dX8_enter_11 rfl rfl rfl ?_
    refine aw_ifnull (r := some _) (tgt := 34) C dX8_enter_12 (by decide) rfl (fun z => nomatch z) (fun _ _ => ?_)
    refine aw_aload_n C dX8_enter_15 rfl rfl rfl ?_
    refine aw_getf C f_X8_22 hS.O rfl dX8_enter_16 rfl ?_
    refine cw_callVp C k_X8_50 (L_size G (n := u.2.2.1 35) (hS.L (i := 3) (by decide))) ⟨by decide, by decide⟩ (ci := 1) rfl (hS.L (i := 3) (by decide)) rfl rfl (Nat.le_of_ble_eq_true rfl) (Nat.le_of_ble_eq_true rfl) (Nat.le_of_ble_eq_true rfl) dX8_enter_19 rfl ?_
    refine aw_bipush (v := 100) C dX8_enter_22 rfl rfl ?_
    refine aw_icmp_ge (tgt := 34) C dX8_enter_24 (by decide) rfl (fun c24 => ?_) (fun c24 => ?_)
    · exact aw_thrW C G thS 26 rfl dX8_enter_34 dX8_enter_37 dX8_enter_38 dX8_enter_41 dX8_enter_44 hout ⟨by decide, (Nat.le_of_ble_eq_true rfl)⟩ (Nat.le_of_ble_eq_true rfl) (Nat.le_of_ble_eq_true rfl) (OX.of (c := 2) (r := 0) (w := (ent u d).2) (by rw [opEnter, if_neg (by simp [ed]), kd, if_pos (ent_no (by rw [rdy_ready hI hd, decide_eq_true (show nI (u.2.2.1 35) = 100 from (by have h100 := hI.n35; have q := mt (nI_ltI (a := u.2.2.1 35) (b := 100) (by omega) (by decide)).mpr (Int32.not_lt.mpr c24); rw [show u.2.2.1 35 = 100 by omega]; rfl)), Bool.not_true, Bool.and_false]))]) (by decide) rfl (CR.ent hS CFr.rf rfl rfl)) (Nat.le_of_ble_eq_true rfl) (Nat.le_of_ble_eq_true rfl)
    · refine aw_aload_n C dX8_enter_27 rfl rfl rfl ?_
      refine cw_callSp C k_X8_298 (C_isReady G hS hI hd) ⟨by decide, by decide⟩ rfl rfl (Nat.le_of_ble_eq_true rfl) (Nat.le_of_ble_eq_true rfl) (Nat.le_of_ble_eq_true rfl) dX8_enter_28 rfl ?_
      refine aw_if_ne (tgt := 45) C dX8_enter_31 (by decide) rfl (fun c31 => ?_) (fun c31 => ?_)
      · have c31 := tr_of c31
        have hn100 : u.2.2.1 35 < 100 := (nI_ltI (b := 100) (by have := hI.n35; omega) (by decide)).mp (Int32.not_le.mp c24)
        have hr : ready u d = true := by rw [rdy_ready hI hd, c31, decide_eq_false (fun z => by rw [show (100 : Int32) = nI 100 from rfl, nI_eq (by omega) (by decide)] at z; omega)]; rfl
        obtain ⟨hof, -, -⟩ := ready_of hr
        have h012 : u.1 11 d = 0 ∨ u.1 11 d = 1 ∨ u.1 11 d = 2 := ofT_iff.mp (by have hr2 := c31; rw [rdy, Bool.and_eq_true] at hr2; exact hr2.1)
        have n3 : ¬ u.1 11 d = 3 := by rcases h012 with e | e | e <;> rw [e] <;> decide
        obtain ⟨hab0, t2, x0, y0, ht2, e14b, e15, e16, hx1, hxy, hy1⟩ := hI.I.K d hd hof
        have h8 := hI.n31
        have h12 := hI.n2
        obtain rfl : t2 = t := by rw [e14] at e14b; exact ((nI_eq (by omega) (by omega)).mp e14b).symm
        obtain ⟨⟨a, ha, ea⟩, b, hb, eb⟩ := hI.gt hd
        have ga : (u.1 12 d).toNatClampNeg = a := by rw [ea, nI_clamp (by omega)]
        have gb : (u.1 13 d).toNatClampNeg = b := by rw [eb, nI_clamp (by omega)]
        have hab : a ≠ b := fun z => hab0 (by rw [ea, eb, z])
        obtain ⟨f, hq, hf, hsum⟩ := hI.Q.f ht
        obtain ⟨wv, hwv, e32⟩ := hI.I.V t2 ht
        have hE : EN u d t2 x0 y0 a b f := ⟨hr, by omega, by rw [ent, e14, e15, e16, ea, eb, nI_clamp (by omega), nI_clamp (by omega), nI_clamp (by omega), nI_clamp (by omega), nI_clamp (by omega)], by omega, by omega, hab, hx1, hxy, hy1, hq, hf⟩
        have hfa := hf a (by omega)
        have sa := hf.s (k := a) (by omega)
        have hb1 : (f a).num.toNat * y0 ≤ 1000000 * 100 := Nat.mul_le_mul (by omega) hy1
        have hb2 : x0 * (f a).den ≤ 100 * 1000000 := Nat.mul_le_mul (by omega) hfa.2.2
        refine aw_aload_n C dX8_enter_45 rfl rfl rfl ?_
        refine aw_callS C k_X8_303 (C_moveOf G hS hI hd n3) ⟨by decide, by decide⟩ rfl rfl (Nat.le_of_ble_eq_true rfl) (Nat.le_of_ble_eq_true rfl) (Nat.le_of_ble_eq_true rfl) dX8_enter_46 rfl (fun _ _ q => ax_no q) (fun v1 s1 hq1 => ?_)
        rcases hq1 with ⟨k2, rfl, hss⟩ | ⟨k2, mq, rfl, hmq, hm1, hfr1⟩
        · have hSm : CS x.g ez ad u Y s1 := by rw [hss]; exact hS
          have hFm : CFr x.g ez ad u Y sg s1 := by rw [hss]; exact CFr.rf
          refine aw_astoreN (ls' := [(4, _), (3, _), (2, _), (0, _), (1, _)]) C dX8_enter_49 (by decide) rfl rfl ?_
          refine aw_aload_n C dX8_enter_51 rfl rfl rfl ?_
          refine aw_getf C f_X8_307 (hSm.T ht) rfl dX8_enter_52 rfl ?_
          refine aw_aload_n C dX8_enter_55 rfl rfl rfl ?_
          refine aw_getf C f_X8_206 (hSm.D hd) rfl dX8_enter_56 rfl ?_
          rw [ga]
          refine aw_getf C f_X8_68 (hSm.P ha) rfl dX8_enter_59 rfl ?_
          refine aw_aload_n C dX8_enter_62 rfl rfl rfl ?_
          refine aw_getf C f_X8_310 (hSm.D hd) rfl dX8_enter_63 rfl ?_
          rw [if_neg n3, e15]
          refine aw_aload_n C dX8_enter_66 rfl rfl rfl ?_
          refine aw_getf C f_X8_313 (hSm.D hd) rfl dX8_enter_67 rfl ?_
          rw [if_neg n3, e16]
          refine cw_callVNp C k_X8_316 (C_has G (hSm.sh h8 ht hq) (k := a) (x0 := x0) (y0 := y0) (by omega) (by omega) (by omega) (by omega) (by omega)) ⟨by decide, by decide⟩ (ci := 8) rfl (hSm.S (Or.inl ht)) rfl rfl (Nat.le_of_ble_eq_true rfl) (Nat.le_of_ble_eq_true rfl) (Nat.le_of_ble_eq_true rfl) dX8_enter_70 rfl ?_
          refine aw_if_eq (tgt := 86) C dX8_enter_73 (by decide) rfl (fun c73 => ?_) (fun c73 => ?_)
          · have c73 := fa_of c73
            exact aw_thrW C G thS 27 rfl dX8_enter_86 dX8_enter_89 dX8_enter_90 dX8_enter_93 dX8_enter_96 hout ⟨by decide, (Nat.le_of_ble_eq_true rfl)⟩ (Nat.le_of_ble_eq_true rfl) (Nat.le_of_ble_eq_true rfl) (OX.of (c := 2) (r := 0) (w := (ent u d).2) (by rw [opEnter, if_neg (by simp [ed]), kd, if_pos (hE.no (of_decide_eq_false c73))]) (by decide) rfl (CR.ent hSm hFm rfl rfl)) (Nat.le_of_ble_eq_true rfl) (Nat.le_of_ble_eq_true rfl)
          · have c73 := tr_of c73
            refine aw_aload_n C dX8_enter_76 rfl rfl rfl ?_
            refine aw_aload_n C dX8_enter_77 rfl rfl rfl ?_
            refine aw_aloadN C dX8_enter_78 rfl rfl ?_
            have hx := of_decide_eq_true c73
            have hmo : moOk (none : Option (Nat × Mv)) f := trivial
            have hmF : moF (none : Option (Nat × Mv)) f = f := rfl
            have hmc : ∀ a1 m1, (none : Option (Nat × Mv)) = some (a1, m1) → s1 a1 = some (ob 5 (vcl m1)) := fun a1 m1 z => by cases z
            refine aw_callV C k_X8_320 (C_leavesSmall G hSm h8 ht hq hf (mo := (none : Option (Nat × Mv))) hmo hmc) ⟨by decide, by decide⟩ (ci := 10) rfl hSm.O rfl rfl (Nat.le_of_ble_eq_true rfl) (Nat.le_of_ble_eq_true rfl) (Nat.le_of_ble_eq_true rfl) dX8_enter_80 rfl (fun _ _ q => ax_no q) (fun v3 s3 hq3 => ?_)
            obtain ⟨rfl, F1, F2, hS2, hfr2⟩ := hq3
            rw [hmF]
            have hF2 : CFr x.g ez ad u Y sg s3 := fun c e he hno => (hfr2 c (hno 10 8 cel_lv10.1) (hno 11 8 cel_lv10.2)).trans (hFm c e he hno)
            refine aw_if_ne (tgt := 97) C dX8_enter_83 (by decide) rfl (fun c83 => ?_) (fun c83 => ?_)
            · have c83 := tr_of c83
              have hent : (ent u d).1 = true := by rw [hE.pl hx k2]
              have hJ0 : (tak (ent u d).2).2.1 33 = u.2.1 33 ∧ (tak (ent u d).2).2.1 34 = u.2.1 34 := by rw [hE.pl hx k2]; exact tak_lay
              have hJ : ∀ s, s < u.2.2.1 31 → s ≠ t2 → ∀ k, k < 13 → (tak (ent u d).2).2.1 33 (13 * s + k) = u.2.1 33 (13 * s + k) ∧ (tak (ent u d).2).2.1 34 (13 * s + k) = u.2.1 34 (13 * s + k) := fun s hs hst k hk => by rw [hJ0.1, hJ0.2]; exact ⟨rfl, rfl⟩
              have hG : ∀ k, k < 13 → HQ (uJJ u (tak (ent u d).2).2.1) 33 34 (13 * t2 + k) (moF (none : Option (Nat × Mv)) f k) := fun k hk => by
                  obtain ⟨q0, q1, q2⟩ := hq k hk
                  exact ⟨q0, by show (tak (ent u d).2).2.1 33 _ = _; rw [hJ0.1]; exact q1, by show (tak (ent u d).2).2.1 34 _ = _; rw [hJ0.2]; exact q2⟩
              have hGf : FOk (moF (none : Option (Nat × Mv)) f) := hf
              refine aw_aload_n C dX8_enter_97 rfl rfl rfl ?_
              refine aw_aload_n C dX8_enter_98 rfl rfl rfl ?_
              refine aw_getf C f_X8_22 hS2.O rfl dX8_enter_99 rfl ?_
              refine cw_callVp C k_X8_50 (L_size G (n := u.2.2.1 35) (hS2.L (i := 3) (by decide))) ⟨by decide, by decide⟩ (ci := 1) rfl (hS2.L (i := 3) (by decide)) rfl rfl (Nat.le_of_ble_eq_true rfl) (Nat.le_of_ble_eq_true rfl) (Nat.le_of_ble_eq_true rfl) dX8_enter_102 rfl ?_
              refine cw_put (uI u 25 d (nI (u.2.2.1 35))) C hS2 CFr.rf SN.rf f_X8_239 rfl (cel_4 hd) (by rw [cel_4 (u := (uI u 25 d (nI (u.2.2.1 35)))) hd, dset25] <;> rfl) (cel_u4 hI.P hI.W rfl (by decide) rfl) rfl rfl rfl (Nat.le_of_ble_eq_true rfl) dX8_enter_105 rfl (fun s4 hS4 hF4 => ?_)
              have hI25 : CI N (uI u 25 d (nI (u.2.2.1 35))) := hI.r25
              refine aw_aload_n C dX8_enter_108 rfl rfl rfl ?_
              refine aw_dup C dX8_enter_109 rfl rfl ?_
              refine aw_getf C f_X8_39 hS4.O rfl dX8_enter_110 rfl ?_
              refine aw_aload_n C dX8_enter_113 rfl rfl rfl ?_
              refine aw_aload_n C dX8_enter_114 rfl rfl rfl ?_
              refine cw_callSp C k_X8_326 (C_dutyOf G hS4 hI25 (d := d) hd (t := t2) ht e32 hwv e15 e16 hx1 hxy hy1 h012) ⟨by decide, by decide⟩ rfl rfl (Nat.le_of_ble_eq_true rfl) (Nat.le_of_ble_eq_true rfl) (Nat.le_of_ble_eq_true rfl) dX8_enter_115 rfl ?_
              rw [isKin_78 (u := u) (w := (uI u 25 d (nI (u.2.2.1 35)))) rfl rfl]
              refine aw_ladd C dX8_enter_118 rfl ?_
              refine cw_put (uT (uI u 25 d (nI (u.2.2.1 35))) (u.2.2.2.2 + lN (wv * x0 / y0 / (if u.1 11 d = 0 then 20 else if u.1 11 d = 2 then 100 else if isKin u (u.1 12 d).toNatClampNeg (u.1 13 d).toNatClampNeg = true then 50 else 10)))) C hS4 hF4 ⟨rfl, rfl, rfl, rfl, rfl⟩ f_X8_39 rfl cel_0 rfl (cel_o0 cel_uT) rfl rfl rfl (Nat.le_of_ble_eq_true rfl) dX8_enter_119 rfl (fun s5 hS5 hF5 => ?_)
              have hF5u : CFr x.g ez ad u Y sg s5 := hF2.tr hF5 (fun k i hc => (SN.rf (u := u)).ne hc)
              have hm5 := mono_of (u := u) hS5 ⟨rfl, rfl, rfl, rfl, rfl⟩ hF5u
              refine aw_aload_n C dX8_enter_122 rfl rfl rfl ?_
              refine aw_new (fs := [.int 0, .int 0, .null, .int 0, .null]) C cf_X1 h_X8_330 h_new_X1 h_ini_X1 (fun j hj => match j, hj with | 0, _ => rfl | 1, _ => rfl | 2, _ => rfl | 3, _ => rfl | 4, _ => rfl | _ + 5, h => absurd h (by omega)) (Nat.le_of_ble_eq_true rfl) (Nat.le_of_ble_eq_true rfl) dX8_enter_123 rfl (fun fe hfe => ?_)
              have hS5f := hS5.ext (fr_new (e := ob 3 [.int 0, .int 0, .null, .int 0, .null]) hfe)
              refine aw_dup C dX8_enter_126 rfl rfl ?_
              refine aw_aload_n C dX8_enter_127 rfl rfl rfl ?_
              refine aw_getf C f_X8_236 (hS5f.D hd) rfl dX8_enter_128 rfl ?_
              refine aw_aload_n C dX8_enter_131 rfl rfl rfl ?_
              refine aw_getf C f_X8_332 (hS5f.D hd) rfl dX8_enter_132 rfl ?_
              refine aw_aload_n C dX8_enter_135 rfl rfl rfl ?_
              refine aw_aload_n C dX8_enter_136 rfl rfl rfl ?_
              refine aw_getf C f_X8_32 hS5f.O rfl dX8_enter_137 rfl ?_
              refine aw_aloadN C dX8_enter_140 rfl rfl ?_
              refine aw_callIN C k_X8_333 (C_iEntry G (k := u.1 11 d) (a := nI d) (th := ad 8 t2) (d := u.2.2.2.1) (mv := (none : Option (Nat × Mv)).map (fun q => q.1)) (t := 0) sgu_s) ⟨by decide, by decide⟩ rfl rfl (Nat.le_of_ble_eq_true rfl) (Nat.le_of_ble_eq_true rfl) (Nat.le_of_ble_eq_true rfl) dX8_enter_142 rfl (fun _ _ q => ax_no q) (fun v6 s6 hq6 => ?_)
              obtain ⟨rfl, hfe6, hfr6⟩ := hq6
              have h6 : ∀ c, s5 c ≠ none → s6 c = s5 c := fun c hc => (hfr6 c (fun z => hc (by rw [z]; exact hfe))).trans (fr_new hfe c hc)
              have hS6 := hS5.ext h6
              have hmc6 : ∀ a1 m1, (none : Option (Nat × Mv)) = some (a1, m1) → s6 a1 = some (ob 5 (vcl m1)) := fun a1 m1 z => by cases z
              have hfd : ∀ k i, cel x.g ez ad (uT (uI u 25 d (nI (u.2.2.1 35))) (u.2.2.2.2 + lN (wv * x0 / y0 / (if u.1 11 d = 0 then 20 else if u.1 11 d = 2 then 100 else if isKin u (u.1 12 d).toNatClampNeg (u.1 13 d).toNatClampNeg = true then 50 else 10)))) (Y.1, Y.2.1, F1, F2) k i ≠ none → ad k i ≠ fe := fun k i hc z => by
                  cases e : cel x.g ez ad (uT (uI u 25 d (nI (u.2.2.1 35))) (u.2.2.2.2 + lN (wv * x0 / y0 / (if u.1 11 d = 0 then 20 else if u.1 11 d = 2 then 100 else if isKin u (u.1 12 d).toNatClampNeg (u.1 13 d).toNatClampNeg = true then 50 else 10)))) (Y.1, Y.2.1, F1, F2) k i with
                  | none => exact hc e
                  | some b2 =>
                    have e9 := hS5.1 k i b2 e
                    rw [z, hfe] at e9
                    cases e9
              refine aw_callV C k_X8_336 (C_keepEntry G (u := (uT (uI u 25 d (nI (u.2.2.1 35))) (u.2.2.2.2 + lN (wv * x0 / y0 / (if u.1 11 d = 0 then 20 else if u.1 11 d = 2 then 100 else if isKin u (u.1 12 d).toNatClampNeg (u.1 13 d).toNatClampNeg = true then 50 else 10))))) hS6 hI.v hI.P hI.W ht hq hf (mo := (none : Option (Nat × Mv))) hmo hmc6 hn100 hfe6 hfd (J := (tak (ent u d).2).2.1) hG hJ) ⟨by decide, by decide⟩ (ci := 10) rfl hS6.O rfl rfl (Nat.le_of_ble_eq_true rfl) (Nat.le_of_ble_eq_true rfl) (Nat.le_of_ble_eq_true rfl) dX8_enter_145 rfl (fun _ _ q => ax_no q) (fun v7 s7 hq7 => ?_)
              obtain ⟨rfl, hCQ⟩ := hq7
              have hb5 : ∀ c, s5 c ≠ none → mins s6 fe c = s5 c := fun c hc => (if_neg (fun z => hc (by rw [z]; exact hfe))).trans (h6 c hc)
              have hCQ0 := CQ.base hb5 hCQ
              have hCQ1 := CQ.ip (u1 := (uT (uI u 25 d (nI (u.2.2.1 35))) (u.2.2.2.2 + lN (wv * x0 / y0 / (if u.1 11 d = 0 then 20 else if u.1 11 d = 2 then 100 else if isKin u (u.1 12 d).toNatClampNeg (u.1 13 d).toNatClampNeg = true then 50 else 10))))) (Y1 := (Y.1, Y.2.1, F1, F2)) (s0 := sg) (Y := Y) (u := u) ⟨rfl, rfl, rfl, rfl, rfl⟩ hF5u hm5 hCQ0
              have hCR := CR.of hCQ1 (fun rp => RP.entry hI.n31 rp ht (mo := (none : Option (Nat × Mv))) hq hf hmo hG hGf hJ (w := (upComes (uJJ (uT (uI u 25 d (nI (u.2.2.1 35))) (u.2.2.2.2 + lN (wv * x0 / y0 / (if u.1 11 d = 0 then 20 else if u.1 11 d = 2 then 100 else if isKin u (u.1 12 d).toNatClampNeg (u.1 13 d).toNatClampNeg = true then 50 else 10)))) (tak (ent u d).2).2.1) (u.1 11 d) (nI d) (nI t2))) (fun e he => (upC_38 (X := uJJ (uT (uI u 25 d (nI (u.2.2.1 35))) (u.2.2.2.2 + lN (wv * x0 / y0 / (if u.1 11 d = 0 then 20 else if u.1 11 d = 2 then 100 else if isKin u (u.1 12 d).toNatClampNeg (u.1 13 d).toNatClampNeg = true then 50 else 10)))) (tak (ent u d).2).2.1)).1 e he) (upC_38 (X := uJJ (uT (uI u 25 d (nI (u.2.2.1 35))) (u.2.2.2.2 + lN (wv * x0 / y0 / (if u.1 11 d = 0 then 20 else if u.1 11 d = 2 then 100 else if isKin u (u.1 12 d).toNatClampNeg (u.1 13 d).toNatClampNeg = true then 50 else 10)))) (tak (ent u d).2).2.1)).2 rfl (uN_ne (by decide)) uN_at rfl rfl)
              obtain ⟨ad7, hS7, -, -, -, hk7, -⟩ := hCQ1
              have hD7 : s7 (ad 4 d) = some (ob 2 (dcl ad7 (upComes (uJJ (uT (uI u 25 d (nI (u.2.2.1 35))) (u.2.2.2.2 + lN (wv * x0 / y0 / (if u.1 11 d = 0 then 20 else if u.1 11 d = 2 then 100 else if isKin u (u.1 12 d).toNatClampNeg (u.1 13 d).toNatClampNeg = true then 50 else 10)))) (tak (ent u d).2).2.1) (u.1 11 d) (nI d) (nI t2)) d)) := by
                  rw [← (hk7 4 d (by rw [cel_4 hd]; exact fun q => by cases q) (by decide)).2]
                  exact hS7.D hd
              have e25 : (upComes (uJJ (uT (uI u 25 d (nI (u.2.2.1 35))) (u.2.2.2.2 + lN (wv * x0 / y0 / (if u.1 11 d = 0 then 20 else if u.1 11 d = 2 then 100 else if isKin u (u.1 12 d).toNatClampNeg (u.1 13 d).toNatClampNeg = true then 50 else 10)))) (tak (ent u d).2).2.1) (u.1 11 d) (nI d) (nI t2)).1 25 d = nI (u.2.2.1 35) := by rw [upC_o (by decide)]; exact uI_at (u := u) (r := 25) (i := d) (v := nI (u.2.2.1 35))
              refine aw_aload_n C dX8_enter_148 rfl rfl rfl ?_
              refine aw_getf C f_X8_239 hD7 rfl dX8_enter_149 rfl ?_
              exact aw_iret C rfl (Nat.le_of_ble_eq_true rfl) (Nat.le_of_ble_eq_true rfl) (OPost.of (by rw [opEnter, if_neg (by simp [ed]), kd, if_neg (by rw [hent]; decide), show worth u d = wv * x0 / y0 from (by rw [worth, e14, e15, e16, nI_clamp (by omega), e32, nI_clamp (by omega), nI_clamp (by omega), nI_clamp (by omega)]), show dutyPart u d = (if u.1 11 d = 0 then 20 else if u.1 11 d = 2 then 100 else if isKin u (u.1 12 d).toNatClampNeg (u.1 13 d).toNatClampNeg = true then 50 else 10) from rfl, ent_w, e14, e25]) hCR) dX8_enter_152
            · have c83 := fa_of c83
              exact aw_thrW C G thS 27 rfl dX8_enter_86 dX8_enter_89 dX8_enter_90 dX8_enter_93 dX8_enter_96 hout ⟨by decide, (Nat.le_of_ble_eq_true rfl)⟩ (Nat.le_of_ble_eq_true rfl) (Nat.le_of_ble_eq_true rfl) (absurd (allSm_t.mpr (fun k hk => (hf k hk).2.2)) (by rw [c83]; decide)) (Nat.le_of_ble_eq_true rfl) (Nat.le_of_ble_eq_true rfl)
        · rw [ea, eb, e15, e16] at hm1
          have h1m : ∀ c, sg c ≠ none → s1 c = sg c := fun c hc => hfr1 c (fun z => hc (by rw [z]; exact hmq))
          have hSm := hS.ext h1m
          have hFm : CFr x.g ez ad u Y sg s1 := CFr.nw h1m
          refine aw_astore (ls' := [(4, _), (3, _), (2, _), (0, _), (1, _)]) C dX8_enter_49 (by decide) rfl rfl ?_
          refine aw_aload_n C dX8_enter_51 rfl rfl rfl ?_
          refine aw_getf C f_X8_307 (hSm.T ht) rfl dX8_enter_52 rfl ?_
          refine aw_aload_n C dX8_enter_55 rfl rfl rfl ?_
          refine aw_getf C f_X8_206 (hSm.D hd) rfl dX8_enter_56 rfl ?_
          rw [ga]
          refine aw_getf C f_X8_68 (hSm.P ha) rfl dX8_enter_59 rfl ?_
          refine aw_aload_n C dX8_enter_62 rfl rfl rfl ?_
          refine aw_getf C f_X8_310 (hSm.D hd) rfl dX8_enter_63 rfl ?_
          rw [if_neg n3, e15]
          refine aw_aload_n C dX8_enter_66 rfl rfl rfl ?_
          refine aw_getf C f_X8_313 (hSm.D hd) rfl dX8_enter_67 rfl ?_
          rw [if_neg n3, e16]
          refine cw_callVNp C k_X8_316 (C_has G (hSm.sh h8 ht hq) (k := a) (x0 := x0) (y0 := y0) (by omega) (by omega) (by omega) (by omega) (by omega)) ⟨by decide, by decide⟩ (ci := 8) rfl (hSm.S (Or.inl ht)) rfl rfl (Nat.le_of_ble_eq_true rfl) (Nat.le_of_ble_eq_true rfl) (Nat.le_of_ble_eq_true rfl) dX8_enter_70 rfl ?_
          refine aw_if_eq (tgt := 86) C dX8_enter_73 (by decide) rfl (fun c73 => ?_) (fun c73 => ?_)
          · have c73 := fa_of c73
            exact aw_thrW C G thS 27 rfl dX8_enter_86 dX8_enter_89 dX8_enter_90 dX8_enter_93 dX8_enter_96 hout ⟨by decide, (Nat.le_of_ble_eq_true rfl)⟩ (Nat.le_of_ble_eq_true rfl) (Nat.le_of_ble_eq_true rfl) (OX.of (c := 2) (r := 0) (w := (ent u d).2) (by rw [opEnter, if_neg (by simp [ed]), kd, if_pos (hE.no (of_decide_eq_false c73))]) (by decide) rfl (CR.ent hSm hFm rfl rfl)) (Nat.le_of_ble_eq_true rfl) (Nat.le_of_ble_eq_true rfl)
          · have c73 := tr_of c73
            refine aw_aload_n C dX8_enter_76 rfl rfl rfl ?_
            refine aw_aload_n C dX8_enter_77 rfl rfl rfl ?_
            refine aw_aload C dX8_enter_78 rfl rfl ?_
            have hx := of_decide_eq_true c73
            have hcy : CyOk f a b x0 y0 := ⟨by omega, by omega, hab, hx1, hxy, hy1, hx⟩
            have hmo : moOk (some (mq, (nI a, nI b, nI x0, nI y0, 0))) f := Or.inl ⟨a, b, x0, y0, rfl, hcy⟩
            have hmF : moF (some (mq, (nI a, nI b, nI x0, nI y0, 0))) f = cyF f a b x0 y0 := mv_cy (by omega) (by omega) (by omega) (by omega)
            have hmc : ∀ a1 m1, (some (mq, (nI a, nI b, nI x0, nI y0, 0))) = some (a1, m1) → s1 a1 = some (ob 5 (vcl m1)) := fun a1 m1 z => by cases z; exact hm1
            refine aw_callV C k_X8_320 (C_leavesSmall G hSm h8 ht hq hf (mo := (some (mq, (nI a, nI b, nI x0, nI y0, 0)))) hmo hmc) ⟨by decide, by decide⟩ (ci := 10) rfl hSm.O rfl rfl (Nat.le_of_ble_eq_true rfl) (Nat.le_of_ble_eq_true rfl) (Nat.le_of_ble_eq_true rfl) dX8_enter_80 rfl (fun _ _ q => ax_no q) (fun v3 s3 hq3 => ?_)
            obtain ⟨rfl, F1, F2, hS2, hfr2⟩ := hq3
            rw [hmF]
            have hF2 : CFr x.g ez ad u Y sg s3 := fun c e he hno => (hfr2 c (hno 10 8 cel_lv10.1) (hno 11 8 cel_lv10.2)).trans (hFm c e he hno)
            refine aw_if_ne (tgt := 97) C dX8_enter_83 (by decide) rfl (fun c83 => ?_) (fun c83 => ?_)
            · have c83 := tr_of c83
              have hent : (ent u d).1 = true := by rw [(hE.cy hx k2).1]; exact c83
              have hJ : ∀ s, s < u.2.2.1 31 → s ≠ t2 → ∀ k, k < 13 → (tak (ent u d).2).2.1 33 (13 * s + k) = u.2.1 33 (13 * s + k) ∧ (tak (ent u d).2).2.1 34 (13 * s + k) = u.2.1 34 (13 * s + k) := fun s hs hst k hk => by
                  rw [(hE.cy hx k2).2.1]
                  exact tak_put (by omega) (by omega) (by omega)
              have hG : ∀ k, k < 13 → HQ (uJJ u (tak (ent u d).2).2.1) 33 34 (13 * t2 + k) (moF (some (mq, (nI a, nI b, nI x0, nI y0, 0))) f k) := fun k hk => by
                  rw [hmF]
                  exact (hE.cy hx k2).2.2 k hk
              have hGf : FOk (moF (some (mq, (nI a, nI b, nI x0, nI y0, 0))) f) := by rw [hmF]; exact cy_FOk hf hsum hcy c83
              refine aw_aload_n C dX8_enter_97 rfl rfl rfl ?_
              refine aw_aload_n C dX8_enter_98 rfl rfl rfl ?_
              refine aw_getf C f_X8_22 hS2.O rfl dX8_enter_99 rfl ?_
              refine cw_callVp C k_X8_50 (L_size G (n := u.2.2.1 35) (hS2.L (i := 3) (by decide))) ⟨by decide, by decide⟩ (ci := 1) rfl (hS2.L (i := 3) (by decide)) rfl rfl (Nat.le_of_ble_eq_true rfl) (Nat.le_of_ble_eq_true rfl) (Nat.le_of_ble_eq_true rfl) dX8_enter_102 rfl ?_
              refine cw_put (uI u 25 d (nI (u.2.2.1 35))) C hS2 CFr.rf SN.rf f_X8_239 rfl (cel_4 hd) (by rw [cel_4 (u := (uI u 25 d (nI (u.2.2.1 35)))) hd, dset25] <;> rfl) (cel_u4 hI.P hI.W rfl (by decide) rfl) rfl rfl rfl (Nat.le_of_ble_eq_true rfl) dX8_enter_105 rfl (fun s4 hS4 hF4 => ?_)
              have hI25 : CI N (uI u 25 d (nI (u.2.2.1 35))) := hI.r25
              refine aw_aload_n C dX8_enter_108 rfl rfl rfl ?_
              refine aw_dup C dX8_enter_109 rfl rfl ?_
              refine aw_getf C f_X8_39 hS4.O rfl dX8_enter_110 rfl ?_
              refine aw_aload_n C dX8_enter_113 rfl rfl rfl ?_
              refine aw_aload_n C dX8_enter_114 rfl rfl rfl ?_
              refine cw_callSp C k_X8_326 (C_dutyOf G hS4 hI25 (d := d) hd (t := t2) ht e32 hwv e15 e16 hx1 hxy hy1 h012) ⟨by decide, by decide⟩ rfl rfl (Nat.le_of_ble_eq_true rfl) (Nat.le_of_ble_eq_true rfl) (Nat.le_of_ble_eq_true rfl) dX8_enter_115 rfl ?_
              rw [isKin_78 (u := u) (w := (uI u 25 d (nI (u.2.2.1 35)))) rfl rfl]
              refine aw_ladd C dX8_enter_118 rfl ?_
              refine cw_put (uT (uI u 25 d (nI (u.2.2.1 35))) (u.2.2.2.2 + lN (wv * x0 / y0 / (if u.1 11 d = 0 then 20 else if u.1 11 d = 2 then 100 else if isKin u (u.1 12 d).toNatClampNeg (u.1 13 d).toNatClampNeg = true then 50 else 10)))) C hS4 hF4 ⟨rfl, rfl, rfl, rfl, rfl⟩ f_X8_39 rfl cel_0 rfl (cel_o0 cel_uT) rfl rfl rfl (Nat.le_of_ble_eq_true rfl) dX8_enter_119 rfl (fun s5 hS5 hF5 => ?_)
              have hF5u : CFr x.g ez ad u Y sg s5 := hF2.tr hF5 (fun k i hc => (SN.rf (u := u)).ne hc)
              have hm5 := mono_of (u := u) hS5 ⟨rfl, rfl, rfl, rfl, rfl⟩ hF5u
              refine aw_aload_n C dX8_enter_122 rfl rfl rfl ?_
              refine aw_new (fs := [.int 0, .int 0, .null, .int 0, .null]) C cf_X1 h_X8_330 h_new_X1 h_ini_X1 (fun j hj => match j, hj with | 0, _ => rfl | 1, _ => rfl | 2, _ => rfl | 3, _ => rfl | 4, _ => rfl | _ + 5, h => absurd h (by omega)) (Nat.le_of_ble_eq_true rfl) (Nat.le_of_ble_eq_true rfl) dX8_enter_123 rfl (fun fe hfe => ?_)
              have hS5f := hS5.ext (fr_new (e := ob 3 [.int 0, .int 0, .null, .int 0, .null]) hfe)
              refine aw_dup C dX8_enter_126 rfl rfl ?_
              refine aw_aload_n C dX8_enter_127 rfl rfl rfl ?_
              refine aw_getf C f_X8_236 (hS5f.D hd) rfl dX8_enter_128 rfl ?_
              refine aw_aload_n C dX8_enter_131 rfl rfl rfl ?_
              refine aw_getf C f_X8_332 (hS5f.D hd) rfl dX8_enter_132 rfl ?_
              refine aw_aload_n C dX8_enter_135 rfl rfl rfl ?_
              refine aw_aload_n C dX8_enter_136 rfl rfl rfl ?_
              refine aw_getf C f_X8_32 hS5f.O rfl dX8_enter_137 rfl ?_
              refine aw_aload C dX8_enter_140 rfl rfl ?_
              refine aw_callIN C k_X8_333 (C_iEntry G (k := u.1 11 d) (a := nI d) (th := ad 8 t2) (d := u.2.2.2.1) (mv := (some (mq, (nI a, nI b, nI x0, nI y0, 0))).map (fun q => q.1)) (t := 0) sgu_s) ⟨by decide, by decide⟩ rfl rfl (Nat.le_of_ble_eq_true rfl) (Nat.le_of_ble_eq_true rfl) (Nat.le_of_ble_eq_true rfl) dX8_enter_142 rfl (fun _ _ q => ax_no q) (fun v6 s6 hq6 => ?_)
              obtain ⟨rfl, hfe6, hfr6⟩ := hq6
              have h6 : ∀ c, s5 c ≠ none → s6 c = s5 c := fun c hc => (hfr6 c (fun z => hc (by rw [z]; exact hfe))).trans (fr_new hfe c hc)
              have hS6 := hS5.ext h6
              have hm5b : s5 mq = some (ob 5 (vcl (nI a, nI b, nI x0, nI y0, 0))) := by
                  have e3 : s3 mq = _ := (hfr2 mq (no5 (hSm.1 10 8 _ cel_t10) hm1) (no5 (hSm.1 11 8 _ cel_t11) hm1)).trans hm1
                  exact hF5 mq _ e3 (fun k i hc z => by
                    cases e : cel x.g ez ad u (Y.1, Y.2.1, F1, F2) k i with
                    | none => exact hc e
                    | some b2 =>
                      have e9 := hS2.1 k i b2 e
                      rw [← z, e3] at e9
                      rw [← e9] at e
                      exact cel_n5 e)
              have hmc6 : ∀ a1 m1, (some (mq, (nI a, nI b, nI x0, nI y0, 0))) = some (a1, m1) → s6 a1 = some (ob 5 (vcl m1)) := fun a1 m1 z => by
                  cases z
                  rw [h6 mq (by rw [hm5b]; exact fun q => by cases q)]
                  exact hm5b
              have hfd : ∀ k i, cel x.g ez ad (uT (uI u 25 d (nI (u.2.2.1 35))) (u.2.2.2.2 + lN (wv * x0 / y0 / (if u.1 11 d = 0 then 20 else if u.1 11 d = 2 then 100 else if isKin u (u.1 12 d).toNatClampNeg (u.1 13 d).toNatClampNeg = true then 50 else 10)))) (Y.1, Y.2.1, F1, F2) k i ≠ none → ad k i ≠ fe := fun k i hc z => by
                  cases e : cel x.g ez ad (uT (uI u 25 d (nI (u.2.2.1 35))) (u.2.2.2.2 + lN (wv * x0 / y0 / (if u.1 11 d = 0 then 20 else if u.1 11 d = 2 then 100 else if isKin u (u.1 12 d).toNatClampNeg (u.1 13 d).toNatClampNeg = true then 50 else 10)))) (Y.1, Y.2.1, F1, F2) k i with
                  | none => exact hc e
                  | some b2 =>
                    have e9 := hS5.1 k i b2 e
                    rw [z, hfe] at e9
                    cases e9
              refine aw_callV C k_X8_336 (C_keepEntry G (u := (uT (uI u 25 d (nI (u.2.2.1 35))) (u.2.2.2.2 + lN (wv * x0 / y0 / (if u.1 11 d = 0 then 20 else if u.1 11 d = 2 then 100 else if isKin u (u.1 12 d).toNatClampNeg (u.1 13 d).toNatClampNeg = true then 50 else 10))))) hS6 hI.v hI.P hI.W ht hq hf (mo := (some (mq, (nI a, nI b, nI x0, nI y0, 0)))) hmo hmc6 hn100 hfe6 hfd (J := (tak (ent u d).2).2.1) hG hJ) ⟨by decide, by decide⟩ (ci := 10) rfl hS6.O rfl rfl (Nat.le_of_ble_eq_true rfl) (Nat.le_of_ble_eq_true rfl) (Nat.le_of_ble_eq_true rfl) dX8_enter_145 rfl (fun _ _ q => ax_no q) (fun v7 s7 hq7 => ?_)
              obtain ⟨rfl, hCQ⟩ := hq7
              have hb5 : ∀ c, s5 c ≠ none → mins s6 fe c = s5 c := fun c hc => (if_neg (fun z => hc (by rw [z]; exact hfe))).trans (h6 c hc)
              have hCQ0 := CQ.base hb5 hCQ
              have hCQ1 := CQ.ip (u1 := (uT (uI u 25 d (nI (u.2.2.1 35))) (u.2.2.2.2 + lN (wv * x0 / y0 / (if u.1 11 d = 0 then 20 else if u.1 11 d = 2 then 100 else if isKin u (u.1 12 d).toNatClampNeg (u.1 13 d).toNatClampNeg = true then 50 else 10))))) (Y1 := (Y.1, Y.2.1, F1, F2)) (s0 := sg) (Y := Y) (u := u) ⟨rfl, rfl, rfl, rfl, rfl⟩ hF5u hm5 hCQ0
              have hCR := CR.of hCQ1 (fun rp => RP.entry hI.n31 rp ht (mo := (some (mq, (nI a, nI b, nI x0, nI y0, 0)))) hq hf hmo hG hGf hJ (w := (upComes (uJJ (uT (uI u 25 d (nI (u.2.2.1 35))) (u.2.2.2.2 + lN (wv * x0 / y0 / (if u.1 11 d = 0 then 20 else if u.1 11 d = 2 then 100 else if isKin u (u.1 12 d).toNatClampNeg (u.1 13 d).toNatClampNeg = true then 50 else 10)))) (tak (ent u d).2).2.1) (u.1 11 d) (nI d) (nI t2))) (fun e he => (upC_38 (X := uJJ (uT (uI u 25 d (nI (u.2.2.1 35))) (u.2.2.2.2 + lN (wv * x0 / y0 / (if u.1 11 d = 0 then 20 else if u.1 11 d = 2 then 100 else if isKin u (u.1 12 d).toNatClampNeg (u.1 13 d).toNatClampNeg = true then 50 else 10)))) (tak (ent u d).2).2.1)).1 e he) (upC_38 (X := uJJ (uT (uI u 25 d (nI (u.2.2.1 35))) (u.2.2.2.2 + lN (wv * x0 / y0 / (if u.1 11 d = 0 then 20 else if u.1 11 d = 2 then 100 else if isKin u (u.1 12 d).toNatClampNeg (u.1 13 d).toNatClampNeg = true then 50 else 10)))) (tak (ent u d).2).2.1)).2 rfl (uN_ne (by decide)) uN_at rfl rfl)
              obtain ⟨ad7, hS7, -, -, -, hk7, -⟩ := hCQ1
              have hD7 : s7 (ad 4 d) = some (ob 2 (dcl ad7 (upComes (uJJ (uT (uI u 25 d (nI (u.2.2.1 35))) (u.2.2.2.2 + lN (wv * x0 / y0 / (if u.1 11 d = 0 then 20 else if u.1 11 d = 2 then 100 else if isKin u (u.1 12 d).toNatClampNeg (u.1 13 d).toNatClampNeg = true then 50 else 10)))) (tak (ent u d).2).2.1) (u.1 11 d) (nI d) (nI t2)) d)) := by
                  rw [← (hk7 4 d (by rw [cel_4 hd]; exact fun q => by cases q) (by decide)).2]
                  exact hS7.D hd
              have e25 : (upComes (uJJ (uT (uI u 25 d (nI (u.2.2.1 35))) (u.2.2.2.2 + lN (wv * x0 / y0 / (if u.1 11 d = 0 then 20 else if u.1 11 d = 2 then 100 else if isKin u (u.1 12 d).toNatClampNeg (u.1 13 d).toNatClampNeg = true then 50 else 10)))) (tak (ent u d).2).2.1) (u.1 11 d) (nI d) (nI t2)).1 25 d = nI (u.2.2.1 35) := by rw [upC_o (by decide)]; exact uI_at (u := u) (r := 25) (i := d) (v := nI (u.2.2.1 35))
              refine aw_aload_n C dX8_enter_148 rfl rfl rfl ?_
              refine aw_getf C f_X8_239 hD7 rfl dX8_enter_149 rfl ?_
              exact aw_iret C rfl (Nat.le_of_ble_eq_true rfl) (Nat.le_of_ble_eq_true rfl) (OPost.of (by rw [opEnter, if_neg (by simp [ed]), kd, if_neg (by rw [hent]; decide), show worth u d = wv * x0 / y0 from (by rw [worth, e14, e15, e16, nI_clamp (by omega), e32, nI_clamp (by omega), nI_clamp (by omega), nI_clamp (by omega)]), show dutyPart u d = (if u.1 11 d = 0 then 20 else if u.1 11 d = 2 then 100 else if isKin u (u.1 12 d).toNatClampNeg (u.1 13 d).toNatClampNeg = true then 50 else 10) from rfl, ent_w, e14, e25]) hCR) dX8_enter_152
            · have c83 := fa_of c83
              exact aw_thrW C G thS 27 rfl dX8_enter_86 dX8_enter_89 dX8_enter_90 dX8_enter_93 dX8_enter_96 hout ⟨by decide, (Nat.le_of_ble_eq_true rfl)⟩ (Nat.le_of_ble_eq_true rfl) (Nat.le_of_ble_eq_true rfl) (OX.of (c := 2) (r := 0) (w := (ent u d).2) (by rw [opEnter, if_neg (by simp [ed]), kd, if_pos (by rw [(hE.cy hx k2).1]; exact c83)]) (by decide) rfl (CR.ent hS2 hF2 rfl rfl)) (Nat.le_of_ble_eq_true rfl) (Nat.le_of_ble_eq_true rfl)
      · have c31 := fa_of c31
        exact aw_thrW C G thS 26 rfl dX8_enter_34 dX8_enter_37 dX8_enter_38 dX8_enter_41 dX8_enter_44 hout ⟨by decide, (Nat.le_of_ble_eq_true rfl)⟩ (Nat.le_of_ble_eq_true rfl) (Nat.le_of_ble_eq_true rfl) (OX.of (c := 2) (r := 0) (w := (ent u d).2) (by rw [opEnter, if_neg (by simp [ed]), kd, if_pos (ent_no (by rw [rdy_ready hI hd, c31, Bool.false_and]))]) (by decide) rfl (CR.ent hS CFr.rf rfl rfl)) (Nat.le_of_ble_eq_true rfl) (Nat.le_of_ble_eq_true rfl)
