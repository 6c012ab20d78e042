/-! the class: who signs -/
theorem CI.sd {N : Nat} {u : MU} (h : CI N u) {d : Nat} (hd : d < u.2.2.1 10) (b : Bool) : ∃ s, s < u.2.2.1 2 ∧ gv u d b = nI s ∧ (gv u d b).toNatClampNeg = s := by
  obtain ⟨⟨a, ha, ea⟩, c, hc, ec⟩ := h.gt hd
  have := h.n2
  unfold gv
  cases b with
  | true => rw [if_pos rfl]; exact ⟨a, ha, ea, by rw [ea, nI_clamp (by omega)]⟩
  | false => rw [if_neg (by decide)]; exact ⟨c, hc, ec, by rw [ec, nI_clamp (by omega)]⟩
theorem CS.gj {g : Gx} {ez : Nat} {ad : Nat → Nat → Nat} {u : MU} {Y : GS} {sg : Sg} (h : CS g ez ad u Y sg) (h12 : u.2.2.1 2 ≤ 12) {o : Nat} {v : Int32} (ho : o < u.2.2.1 2) (hv : v = -1 ∨ ∃ q, q < u.2.2.1 2 ∧ v = nI q) : rfo (ad 3) v = some (ad 3 o) ↔ v = nI o := by
  rcases hv with e | ⟨q, hq, e⟩
  · subst e
    rw [rfo_m]
    refine ⟨(fun z => by cases z), fun z => ?_⟩
    have := congrArg Int32.toInt z
    rw [nI_toInt (by omega)] at this
    have h2 : (-1 : Int32).toInt = -1 := by decide
    omega
  · have hm : ¬ v = -1 := fun z => by
      rw [e] at z
      have := congrArg Int32.toInt z
      rw [nI_toInt (by omega)] at this
      have h2 : (-1 : Int32).toInt = -1 := by decide
      omega
    rw [rfo_e hm, e, nI_clamp (by omega), h.pj hq ho, nI_eq (by omega) (by omega)]
theorem side_eq {u : MU} {d : Nat} {b : Bool} : (if b = true then u.1 12 d else u.1 13 d) = gv u d b := rfl
/-- a guardian's signing, but for the age of the guardian -/
def sgG (u : MU) (d o : Nat) (ig : Bool) : Bool := !decide (u.1 11 d = 4) && (decide (u.1 6 (gv u d ig).toNatClampNeg = 0) && (decide (u.1 9 (gv u d ig).toNatClampNeg = nI o) && !decide (nI o = gv u d (!ig))))
def sgW (u : MU) (d o : Nat) (ig : Bool) : Bool := (!decide (u.1 11 d = 4) || ig) && (able u o && (decide (nI o = gv u d ig) || sgG u d o ig))
set_option maxRecDepth 100000 in
theorem C_signsGuard {g : Gx} {l : Launch} {ez : Nat} (G : GOK g l ez) {sg : Sg} {ad : Nat → Nat → Nat} {u : MU} {Y : GS} (hS : CS g ez ad u Y sg) {N : Nat} (hI : CI N u) {d o : Nat} {ig : Bool} (hd : d < u.2.2.1 10) (ho : o < u.2.2.1 2) : MM g l yX8_signsAsGuardian cX8_signsAsGuardian 5 (some .boolean) (rmC 2 0 0) sg [.ref (ad 0 0), .ref (ad 4 d), .ref (ad 3 o), .int (b2i ig)] (PP sg (.int (b2i (sgG u d o ig)))) (noX) := by
  refine MM.of G.1 G.2.1 (by decide) (Nat.le_of_ble_eq_true rfl) (fun x hg hlx C hin hout hargs => ?_)
  subst hg; subst hlx
  have C : AWC x cX8_signsAsGuardian 5 RX8 (rmC 2 0 0) (some .boolean) := C
  show AW x (RQ x _ _ _ _) 0 0 sg 0 [(0, .ref (ad 0 0)), (1, .ref (ad 4 d)), (2, .ref (ad 3 o)), (3, .int (b2i ig))] []
  obtain ⟨s0, hs0, es0, cs0⟩ := hI.sd hd ig
  obtain ⟨s1, hs1, es1, cs1⟩ := hI.sd hd (!ig)
  have h12 := hI.n2
  refine aw_aload_n C dX8_signsAsGuardian_0 rfl rfl rfl ?_
  refine aw_iload_n C dX8_signsAsGuardian_1 rfl rfl rfl ?_
  refine cw_callVNp C k_X8_413 (C_side G hS hd (b := ig)) ⟨by decide, by decide⟩ (ci := 2) rfl (hS.D hd) rfl rfl (Nat.le_of_ble_eq_true rfl) (Nat.le_of_ble_eq_true rfl) (Nat.le_of_ble_eq_true rfl) dX8_signsAsGuardian_2 rfl ?_
  rw [side_eq, cs0]
  refine aw_astore (ls' := [(4, _), (0, _), (1, _), (2, _), (3, _)]) C dX8_signsAsGuardian_5 (by decide) rfl rfl ?_
  refine aw_aload_n C dX8_signsAsGuardian_7 rfl rfl rfl ?_
  refine aw_getf C f_X8_236 (hS.D hd) rfl dX8_signsAsGuardian_8 rfl ?_
  refine aw_iconst (v := 4) C dX8_signsAsGuardian_11 rfl rfl ?_
  refine aw_icmp_eq (tgt := 53) C dX8_signsAsGuardian_12 (by decide) rfl (fun c12 => ?_) (fun c12 => ?_)
  · refine aw_iconst (v := 0) C dX8_signsAsGuardian_53 rfl rfl ?_
    exact aw_iret C (by decide) (Nat.le_of_ble_eq_true rfl) (Nat.le_of_ble_eq_true rfl) (PP.of (by simp [sgG, cs0, es1, b2i, c12])) dX8_signsAsGuardian_54
  · refine aw_aload C dX8_signsAsGuardian_15 rfl rfl ?_
    refine aw_getf C f_X8_96 (hS.P hs0) rfl dX8_signsAsGuardian_17 rfl ?_
    refine aw_if_eq (tgt := 53) C dX8_signsAsGuardian_20 (by decide) rfl (fun c20 => ?_) (fun c20 => ?_)
    · have c20 := fa_of c20
      refine aw_iconst (v := 0) C dX8_signsAsGuardian_53 rfl rfl ?_
      exact aw_iret C (by decide) (Nat.le_of_ble_eq_true rfl) (Nat.le_of_ble_eq_true rfl) (PP.of (by simp [sgG, cs0, es1, b2i, c12, (of_decide_eq_false c20)])) dX8_signsAsGuardian_54
    · have c20 := tr_of c20
      refine aw_aload C dX8_signsAsGuardian_23 rfl rfl ?_
      refine aw_getf C f_X8_102 (hS.P hs0) rfl dX8_signsAsGuardian_25 rfl ?_
      refine aw_aload_n C dX8_signsAsGuardian_28 rfl rfl rfl ?_
      refine aw_acmp_ne (rx := rfo (ad 3) (u.1 9 s0)) (ry := some (ad 3 o)) (tgt := 53) C dX8_signsAsGuardian_29 (by decide) rfl (fun c29 => ?_) (fun c29 => ?_)
      · refine aw_iconst (v := 0) C dX8_signsAsGuardian_53 rfl rfl ?_
        exact aw_iret C (by decide) (Nat.le_of_ble_eq_true rfl) (Nat.le_of_ble_eq_true rfl) (PP.of (by simp [sgG, cs0, es1, b2i, c12, (of_decide_eq_true c20), (show ¬ u.1 9 s0 = nI o from fun z => c29 ((hS.gj h12 ho (hI.gu hs0)).mpr z))])) dX8_signsAsGuardian_54
      · refine aw_aload_n C dX8_signsAsGuardian_32 rfl rfl rfl ?_
        refine aw_aload_n C dX8_signsAsGuardian_33 rfl rfl rfl ?_
        refine aw_iload_n C dX8_signsAsGuardian_34 rfl rfl rfl ?_
        refine aw_if_ne (tgt := 42) C dX8_signsAsGuardian_35 (by decide) rfl (fun c35 => ?_) (fun c35 => ?_)
        · have c35 := tr_of c35
          refine aw_iconst (v := 0) C dX8_signsAsGuardian_42 rfl rfl ?_
          refine cw_callVNp C k_X8_413 (C_side G hS hd (b := false)) ⟨by decide, by decide⟩ (ci := 2) rfl (hS.D hd) rfl rfl (Nat.le_of_ble_eq_true rfl) (Nat.le_of_ble_eq_true rfl) (Nat.le_of_ble_eq_true rfl) dX8_signsAsGuardian_43 rfl ?_
          rw [side_eq, show false = !ig from by rw [c35]; rfl, cs1]
          refine aw_acmp_eq (rx := some (ad 3 o)) (ry := some (ad 3 s1)) (tgt := 53) C dX8_signsAsGuardian_46 (by decide) rfl (fun c46 => ?_) (fun c46 => ?_)
          · refine aw_iconst (v := 0) C dX8_signsAsGuardian_53 rfl rfl ?_
            exact aw_iret C (by decide) (Nat.le_of_ble_eq_true rfl) (Nat.le_of_ble_eq_true rfl) (PP.of (by simp [sgG, cs0, es1, b2i, c12, (of_decide_eq_true c20), (show u.1 9 s0 = nI o from (hS.gj h12 ho (hI.gu hs0)).mp c29), (show nI o = nI s1 from by rw [(hS.pj ho hs1).mp c46])])) dX8_signsAsGuardian_54
          · refine aw_iconst (v := 1) C dX8_signsAsGuardian_49 rfl rfl ?_
            refine aw_goto (tgt := 54) C dX8_signsAsGuardian_50 (by decide) ?_
            exact aw_iret C (by decide) (Nat.le_of_ble_eq_true rfl) (Nat.le_of_ble_eq_true rfl) (PP.of (by simp [sgG, cs0, es1, b2i, c12, (of_decide_eq_true c20), (show u.1 9 s0 = nI o from (hS.gj h12 ho (hI.gu hs0)).mp c29), (show ¬ nI o = nI s1 from fun z => c46 ((hS.pj ho hs1).mpr ((nI_eq (by omega) (by omega)).mp z)))])) dX8_signsAsGuardian_54
        · have c35 := fa_of c35
          refine aw_iconst (v := 1) C dX8_signsAsGuardian_38 rfl rfl ?_
          refine aw_goto (tgt := 43) C dX8_signsAsGuardian_39 (by decide) ?_
          refine cw_callVNp C k_X8_413 (C_side G hS hd (b := true)) ⟨by decide, by decide⟩ (ci := 2) rfl (hS.D hd) rfl rfl (Nat.le_of_ble_eq_true rfl) (Nat.le_of_ble_eq_true rfl) (Nat.le_of_ble_eq_true rfl) dX8_signsAsGuardian_43 rfl ?_
          rw [side_eq, show true = !ig from by rw [c35]; rfl, cs1]
          refine aw_acmp_eq (rx := some (ad 3 o)) (ry := some (ad 3 s1)) (tgt := 53) C dX8_signsAsGuardian_46 (by decide) rfl (fun c46 => ?_) (fun c46 => ?_)
          · refine aw_iconst (v := 0) C dX8_signsAsGuardian_53 rfl rfl ?_
            exact aw_iret C (by decide) (Nat.le_of_ble_eq_true rfl) (Nat.le_of_ble_eq_true rfl) (PP.of (by simp [sgG, cs0, es1, b2i, c12, (of_decide_eq_true c20), (show u.1 9 s0 = nI o from (hS.gj h12 ho (hI.gu hs0)).mp c29), (show nI o = nI s1 from by rw [(hS.pj ho hs1).mp c46])])) dX8_signsAsGuardian_54
          · refine aw_iconst (v := 1) C dX8_signsAsGuardian_49 rfl rfl ?_
            refine aw_goto (tgt := 54) C dX8_signsAsGuardian_50 (by decide) ?_
            exact aw_iret C (by decide) (Nat.le_of_ble_eq_true rfl) (Nat.le_of_ble_eq_true rfl) (PP.of (by simp [sgG, cs0, es1, b2i, c12, (of_decide_eq_true c20), (show u.1 9 s0 = nI o from (hS.gj h12 ho (hI.gu hs0)).mp c29), (show ¬ nI o = nI s1 from fun z => c46 ((hS.pj ho hs1).mpr ((nI_eq (by omega) (by omega)).mp z)))])) dX8_signsAsGuardian_54
set_option maxRecDepth 100000 in
theorem C_signsWithout {g : Gx} {l : Launch} {ez : Nat} (G : GOK g l ez) {sg : Sg} {ad : Nat → Nat → Nat} {u : MU} {Y : GS} (hS : CS g ez ad u Y sg) {N : Nat} (hI : CI N u) {d o : Nat} {ig : Bool} (hd : d < u.2.2.1 10) (ho : o < u.2.2.1 2) : MM g l yX8_signsWithoutPower cX8_signsWithoutPower 5 (some .boolean) (rmC 3 0 0) sg [.ref (ad 0 0), .ref (ad 4 d), .ref (ad 3 o), .int (b2i ig)] (PP sg (.int (b2i (sgW u d o ig)))) (noX) := by
  refine MM.of G.1 G.2.1 (by decide) (Nat.le_of_ble_eq_true rfl) (fun x hg hlx C hin hout hargs => ?_)
  subst hg; subst hlx
  have C : AWC x cX8_signsWithoutPower 5 RX8 (rmC 3 0 0) (some .boolean) := C
  show AW x (RQ x _ _ _ _) 0 0 sg 0 [(0, .ref (ad 0 0)), (1, .ref (ad 4 d)), (2, .ref (ad 3 o)), (3, .int (b2i ig))] []
  obtain ⟨s0, hs0, es0, cs0⟩ := hI.sd hd ig
  obtain ⟨s1, hs1, es1, cs1⟩ := hI.sd hd (!ig)
  have h12 := hI.n2
  refine aw_aload_n C dX8_signsWithoutPower_0 rfl rfl rfl ?_
  refine aw_getf C f_X8_236 (hS.D hd) rfl dX8_signsWithoutPower_1 rfl ?_
  refine aw_iconst (v := 4) C dX8_signsWithoutPower_4 rfl rfl ?_
  refine aw_icmp_ne (tgt := 12) C dX8_signsWithoutPower_5 (by decide) rfl (fun c5 => ?_) (fun c5 => ?_)
  · refine aw_aload_n C dX8_signsWithoutPower_12 rfl rfl rfl ?_
    refine aw_aload_n C dX8_signsWithoutPower_13 rfl rfl rfl ?_
    refine aw_getf C f_X8_32 hS.O rfl dX8_signsWithoutPower_14 rfl ?_
    refine cw_callVNp C k_X8_117 (C_isAbleOn G hS ho) ⟨by decide, by decide⟩ (ci := 7) rfl (hS.P ho) rfl rfl (Nat.le_of_ble_eq_true rfl) (Nat.le_of_ble_eq_true rfl) (Nat.le_of_ble_eq_true rfl) dX8_signsWithoutPower_17 rfl ?_
    refine aw_if_ne (tgt := 25) C dX8_signsWithoutPower_20 (by decide) rfl (fun c20 => ?_) (fun c20 => ?_)
    · have c20 := tr_of c20
      refine aw_aload_n C dX8_signsWithoutPower_25 rfl rfl rfl ?_
      refine aw_iload_n C dX8_signsWithoutPower_26 rfl rfl rfl ?_
      refine cw_callVNp C k_X8_413 (C_side G hS hd (b := ig)) ⟨by decide, by decide⟩ (ci := 2) rfl (hS.D hd) rfl rfl (Nat.le_of_ble_eq_true rfl) (Nat.le_of_ble_eq_true rfl) (Nat.le_of_ble_eq_true rfl) dX8_signsWithoutPower_27 rfl ?_
      rw [side_eq, cs0]
      refine aw_astore (ls' := [(4, _), (0, _), (1, _), (2, _), (3, _)]) C dX8_signsWithoutPower_30 (by decide) rfl rfl ?_
      refine aw_aload_n C dX8_signsWithoutPower_32 rfl rfl rfl ?_
      refine aw_aload C dX8_signsWithoutPower_33 rfl rfl ?_
      refine aw_acmp_eq (rx := some (ad 3 o)) (ry := some (ad 3 s0)) (tgt := 48) C dX8_signsWithoutPower_35 (by decide) rfl (fun c35 => ?_) (fun c35 => ?_)
      · refine aw_iconst (v := 1) C dX8_signsWithoutPower_48 rfl rfl ?_
        refine aw_goto (tgt := 53) C dX8_signsWithoutPower_49 (by decide) ?_
        exact aw_iret C (by decide) (Nat.le_of_ble_eq_true rfl) (Nat.le_of_ble_eq_true rfl) (PP.of (by simp [sgW, es0, b2i, c5, c20, (show nI o = nI s0 from by rw [(hS.pj ho hs0).mp c35])])) dX8_signsWithoutPower_53
      · refine aw_aload_n C dX8_signsWithoutPower_38 rfl rfl rfl ?_
        refine aw_aload_n C dX8_signsWithoutPower_39 rfl rfl rfl ?_
        refine aw_aload_n C dX8_signsWithoutPower_40 rfl rfl rfl ?_
        refine aw_iload_n C dX8_signsWithoutPower_41 rfl rfl rfl ?_
        refine cw_callVp C k_X8_417 (C_signsGuard G hS hI hd ho) ⟨by decide, by decide⟩ (ci := 10) rfl hS.O rfl rfl (Nat.le_of_ble_eq_true rfl) (Nat.le_of_ble_eq_true rfl) (Nat.le_of_ble_eq_true rfl) dX8_signsWithoutPower_42 rfl ?_
        refine aw_if_eq (tgt := 52) C dX8_signsWithoutPower_45 (by decide) rfl (fun c45 => ?_) (fun c45 => ?_)
        · have c45 := fa_of c45
          refine aw_iconst (v := 0) C dX8_signsWithoutPower_52 rfl rfl ?_
          exact aw_iret C (by decide) (Nat.le_of_ble_eq_true rfl) (Nat.le_of_ble_eq_true rfl) (PP.of (by simp [sgW, es0, b2i, c5, c20, (show ¬ nI o = nI s0 from fun z => c35 ((hS.pj ho hs0).mpr ((nI_eq (by omega) (by omega)).mp z))), c45])) dX8_signsWithoutPower_53
        · have c45 := tr_of c45
          refine aw_iconst (v := 1) C dX8_signsWithoutPower_48 rfl rfl ?_
          refine aw_goto (tgt := 53) C dX8_signsWithoutPower_49 (by decide) ?_
          exact aw_iret C (by decide) (Nat.le_of_ble_eq_true rfl) (Nat.le_of_ble_eq_true rfl) (PP.of (by simp [sgW, es0, b2i, c5, c20, (show ¬ nI o = nI s0 from fun z => c35 ((hS.pj ho hs0).mpr ((nI_eq (by omega) (by omega)).mp z))), c45])) dX8_signsWithoutPower_53
    · have c20 := fa_of c20
      refine aw_iconst (v := 0) C dX8_signsWithoutPower_23 rfl rfl ?_
      exact aw_iret C (by decide) (Nat.le_of_ble_eq_true rfl) (Nat.le_of_ble_eq_true rfl) (PP.of (by simp [sgW, es0, b2i, c5, c20])) dX8_signsWithoutPower_24
  · refine aw_iload_n C dX8_signsWithoutPower_8 rfl rfl rfl ?_
    refine aw_if_eq (tgt := 23) C dX8_signsWithoutPower_9 (by decide) rfl (fun c9 => ?_) (fun c9 => ?_)
    · have c9 := fa_of c9
      refine aw_iconst (v := 0) C dX8_signsWithoutPower_23 rfl rfl ?_
      exact aw_iret C (by decide) (Nat.le_of_ble_eq_true rfl) (Nat.le_of_ble_eq_true rfl) (PP.of (by subst c9; simp [sgW, es0, b2i, c5])) dX8_signsWithoutPower_24
    · have c9 := tr_of c9
      refine aw_aload_n C dX8_signsWithoutPower_12 rfl rfl rfl ?_
      refine aw_aload_n C dX8_signsWithoutPower_13 rfl rfl rfl ?_
      refine aw_getf C f_X8_32 hS.O rfl dX8_signsWithoutPower_14 rfl ?_
      refine cw_callVNp C k_X8_117 (C_isAbleOn G hS ho) ⟨by decide, by decide⟩ (ci := 7) rfl (hS.P ho) rfl rfl (Nat.le_of_ble_eq_true rfl) (Nat.le_of_ble_eq_true rfl) (Nat.le_of_ble_eq_true rfl) dX8_signsWithoutPower_17 rfl ?_
      refine aw_if_ne (tgt := 25) C dX8_signsWithoutPower_20 (by decide) rfl (fun c20 => ?_) (fun c20 => ?_)
      · have c20 := tr_of c20
        refine aw_aload_n C dX8_signsWithoutPower_25 rfl rfl rfl ?_
        refine aw_iload_n C dX8_signsWithoutPower_26 rfl rfl rfl ?_
        refine cw_callVNp C k_X8_413 (C_side G hS hd (b := ig)) ⟨by decide, by decide⟩ (ci := 2) rfl (hS.D hd) rfl rfl (Nat.le_of_ble_eq_true rfl) (Nat.le_of_ble_eq_true rfl) (Nat.le_of_ble_eq_true rfl) dX8_signsWithoutPower_27 rfl ?_
        rw [side_eq, cs0]
        refine aw_astore (ls' := [(4, _), (0, _), (1, _), (2, _), (3, _)]) C dX8_signsWithoutPower_30 (by decide) rfl rfl ?_
        refine aw_aload_n C dX8_signsWithoutPower_32 rfl rfl rfl ?_
        refine aw_aload C dX8_signsWithoutPower_33 rfl rfl ?_
        refine aw_acmp_eq (rx := some (ad 3 o)) (ry := some (ad 3 s0)) (tgt := 48) C dX8_signsWithoutPower_35 (by decide) rfl (fun c35 => ?_) (fun c35 => ?_)
        · refine aw_iconst (v := 1) C dX8_signsWithoutPower_48 rfl rfl ?_
          refine aw_goto (tgt := 53) C dX8_signsWithoutPower_49 (by decide) ?_
          exact aw_iret C (by decide) (Nat.le_of_ble_eq_true rfl) (Nat.le_of_ble_eq_true rfl) (PP.of (by subst c9; simp [sgW, es0, b2i, c5, c20, (show nI o = nI s0 from by rw [(hS.pj ho hs0).mp c35])])) dX8_signsWithoutPower_53
        · refine aw_aload_n C dX8_signsWithoutPower_38 rfl rfl rfl ?_
          refine aw_aload_n C dX8_signsWithoutPower_39 rfl rfl rfl ?_
          refine aw_aload_n C dX8_signsWithoutPower_40 rfl rfl rfl ?_
          refine aw_iload_n C dX8_signsWithoutPower_41 rfl rfl rfl ?_
          refine cw_callVp C k_X8_417 (C_signsGuard G hS hI hd ho) ⟨by decide, by decide⟩ (ci := 10) rfl hS.O rfl rfl (Nat.le_of_ble_eq_true rfl) (Nat.le_of_ble_eq_true rfl) (Nat.le_of_ble_eq_true rfl) dX8_signsWithoutPower_42 rfl ?_
          refine aw_if_eq (tgt := 52) C dX8_signsWithoutPower_45 (by decide) rfl (fun c45 => ?_) (fun c45 => ?_)
          · have c45 := fa_of c45
            refine aw_iconst (v := 0) C dX8_signsWithoutPower_52 rfl rfl ?_
            exact aw_iret C (by decide) (Nat.le_of_ble_eq_true rfl) (Nat.le_of_ble_eq_true rfl) (PP.of (by subst c9; simp [sgW, es0, b2i, c5, c20, (show ¬ nI o = nI s0 from fun z => c35 ((hS.pj ho hs0).mpr ((nI_eq (by omega) (by omega)).mp z))), c45])) dX8_signsWithoutPower_53
          · have c45 := tr_of c45
            refine aw_iconst (v := 1) C dX8_signsWithoutPower_48 rfl rfl ?_
            refine aw_goto (tgt := 53) C dX8_signsWithoutPower_49 (by decide) ?_
            exact aw_iret C (by decide) (Nat.le_of_ble_eq_true rfl) (Nat.le_of_ble_eq_true rfl) (PP.of (by subst c9; simp [sgW, es0, b2i, c5, c20, (show ¬ nI o = nI s0 from fun z => c35 ((hS.pj ho hs0).mpr ((nI_eq (by omega) (by omega)).mp z))), c45])) dX8_signsWithoutPower_53
      · have c20 := fa_of c20
        refine aw_iconst (v := 0) C dX8_signsWithoutPower_23 rfl rfl ?_
        exact aw_iret C (by decide) (Nat.le_of_ble_eq_true rfl) (Nat.le_of_ble_eq_true rfl) (PP.of (by subst c9; simp [sgW, es0, b2i, c5, c20])) dX8_signsWithoutPower_24
/-- signing by the power k -/
def sgP (u : MU) (d o : Nat) (ig : Bool) (k : Nat) : Bool := !decide (u.1 11 d = 4) && (!decide (nI o = gv u d (!ig)) && (able u o && (decide (u.1 12 k = gv u d ig) && (decide (u.1 13 k = nI o) && ((decide (u.1 14 k = -1) || decide (u.1 14 k = u.1 14 d)) && good u k)))))
theorem CS.tq {g : Gx} {ez : Nat} {ad : Nat → Nat → Nat} {u : MU} {Y : GS} {sg : Sg} (h : CS g ez ad u Y sg) (h8 : u.2.2.1 31 ≤ 8) {v w : Int32} (hv : ∃ t, t < u.2.2.1 31 ∧ v = nI t) (hw : w = -1 ∨ ∃ t, t < u.2.2.1 31 ∧ w = nI t) : rfo (ad 8) v = rfo (ad 8) w ↔ v = w := by
  obtain ⟨t, ht, rfl⟩ := hv
  have hm : ∀ {q : Nat}, q < u.2.2.1 31 → ¬ nI q = -1 := fun {q} hq z => by
    have := congrArg Int32.toInt z
    rw [nI_toInt (by omega)] at this
    have h2 : (-1 : Int32).toInt = -1 := by decide
    omega
  rw [rfo_e (hm ht), nI_clamp (by omega)]
  rcases hw with rfl | ⟨s, hs, rfl⟩
  · rw [rfo_m]
    exact ⟨(fun z => by cases z), fun z => absurd z (hm ht)⟩
  · rw [rfo_e (hm hs), nI_clamp (by omega), h.tj ht hs, nI_eq (by omega) (by omega)]
set_option maxRecDepth 100000 in
theorem C_signsByN {g : Gx} {l : Launch} {ez : Nat} (G : GOK g l ez) {sg : Sg} {ad : Nat → Nat → Nat} {u : MU} {Y : GS} (hS : CS g ez ad u Y sg) {N : Nat} (hI : CI N u) {d o : Nat} {ig : Bool} (hd : d < u.2.2.1 10) (ho : o < u.2.2.1 2) : MM g l yX8_signsByPower cX8_signsByPower 5 (some .boolean) (rmC 4 0 0) sg [.ref (ad 0 0), .ref (ad 4 d), .ref (ad 3 o), .int (b2i ig), .null] (PP sg (.int (b2i false))) (noX) := by
  refine MM.of G.1 G.2.1 (by decide) (Nat.le_of_ble_eq_true rfl) (fun x hg hlx C hin hout hargs => ?_)
  subst hg; subst hlx
  have C : AWC x cX8_signsByPower 5 RX8 (rmC 4 0 0) (some .boolean) := C
  show AW x (RQ x _ _ _ _) 0 0 sg 0 [(0, .ref (ad 0 0)), (1, .ref (ad 4 d)), (2, .ref (ad 3 o)), (3, .int (b2i ig)), (4, .null)] []
  refine aw_aloadN C dX8_signsByPower_0 rfl rfl ?_
  refine aw_ifnull (r := none) (tgt := 30) C dX8_signsByPower_2 (by decide) rfl (fun _ => ?_) (fun _ z => nomatch z)
  refine aw_iconst (v := 0) C dX8_signsByPower_30 rfl rfl ?_
  exact aw_iret C (by decide) (Nat.le_of_ble_eq_true rfl) (Nat.le_of_ble_eq_true rfl) (PP.of rfl) dX8_signsByPower_31
set_option maxRecDepth 100000 in
theorem C_signsByK {g : Gx} {l : Launch} {ez : Nat} (G : GOK g l ez) {sg : Sg} {ad : Nat → Nat → Nat} {u : MU} {Y : GS} (hS : CS g ez ad u Y sg) {N : Nat} (hI : CI N u) {d o : Nat} {ig : Bool} (hd : d < u.2.2.1 10) (ho : o < u.2.2.1 2) {k : Nat} (hk : k < u.2.2.1 10) : MM g l yX8_signsByPower cX8_signsByPower 5 (some .boolean) (rmC 4 0 0) sg [.ref (ad 0 0), .ref (ad 4 d), .ref (ad 3 o), .int (b2i ig), .ref (ad 4 k)] (PP sg (.int (b2i (sgP u d o ig k)))) (noX) := by
  refine MM.of G.1 G.2.1 (by decide) (Nat.le_of_ble_eq_true rfl) (fun x hg hlx C hin hout hargs => ?_)
  subst hg; subst hlx
  have C : AWC x cX8_signsByPower 5 RX8 (rmC 4 0 0) (some .boolean) := C
  show AW x (RQ x _ _ _ _) 0 0 sg 0 [(0, .ref (ad 0 0)), (1, .ref (ad 4 d)), (2, .ref (ad 3 o)), (3, .int (b2i ig)), (4, .ref (ad 4 k))] []
  obtain ⟨s0, hs0, es0, cs0⟩ := hI.sd hd ig
  obtain ⟨s1, hs1, es1, cs1⟩ := hI.sd hd (!ig)
  have h12 := hI.n2
  have h8 := hI.n31
  obtain ⟨⟨ka, hka, eka⟩, kb, hkb, ekb⟩ := hI.gt hk
  have gka : (u.1 12 k).toNatClampNeg = ka := by rw [eka, nI_clamp (by omega)]
  have gkb : (u.1 13 k).toNatClampNeg = kb := by rw [ekb, nI_clamp (by omega)]
  refine aw_aload C dX8_signsByPower_0 rfl rfl ?_
  refine aw_ifnull (r := some _) (tgt := 30) C dX8_signsByPower_2 (by decide) rfl (fun z => nomatch z) (fun _ _ => ?_)
  refine aw_aload_n C dX8_signsByPower_5 rfl rfl rfl ?_
  refine aw_getf C f_X8_236 (hS.D hd) rfl dX8_signsByPower_6 rfl ?_
  refine aw_iconst (v := 4) C dX8_signsByPower_9 rfl rfl ?_
  refine aw_icmp_eq (tgt := 30) C dX8_signsByPower_10 (by decide) rfl (fun c10 => ?_) (fun c10 => ?_)
  · refine aw_iconst (v := 0) C dX8_signsByPower_30 rfl rfl ?_
    exact aw_iret C (by decide) (Nat.le_of_ble_eq_true rfl) (Nat.le_of_ble_eq_true rfl) (PP.of (by simp [sgP, es0, es1, b2i, c10])) dX8_signsByPower_31
  · refine aw_aload_n C dX8_signsByPower_13 rfl rfl rfl ?_
    refine aw_aload_n C dX8_signsByPower_14 rfl rfl rfl ?_
    refine aw_iload_n C dX8_signsByPower_15 rfl rfl rfl ?_
    refine aw_if_ne (tgt := 23) C dX8_signsByPower_16 (by decide) rfl (fun c16 => ?_) (fun c16 => ?_)
    · have c16 := tr_of c16
      refine aw_iconst (v := 0) C dX8_signsByPower_23 rfl rfl ?_
      refine cw_callVNp C k_X8_413 (C_side G hS hd (b := false)) ⟨by decide, by decide⟩ (ci := 2) rfl (hS.D hd) rfl rfl (Nat.le_of_ble_eq_true rfl) (Nat.le_of_ble_eq_true rfl) (Nat.le_of_ble_eq_true rfl) dX8_signsByPower_24 rfl ?_
      rw [side_eq, show false = !ig from by rw [c16]; rfl, cs1]
      refine aw_acmp_ne (rx := some (ad 3 o)) (ry := some (ad 3 s1)) (tgt := 32) C dX8_signsByPower_27 (by decide) rfl (fun c27 => ?_) (fun c27 => ?_)
      · refine aw_aload_n C dX8_signsByPower_32 rfl rfl rfl ?_
        refine aw_aload_n C dX8_signsByPower_33 rfl rfl rfl ?_
        refine aw_getf C f_X8_32 hS.O rfl dX8_signsByPower_34 rfl ?_
        refine cw_callVNp C k_X8_117 (C_isAbleOn G hS ho) ⟨by decide, by decide⟩ (ci := 7) rfl (hS.P ho) rfl rfl (Nat.le_of_ble_eq_true rfl) (Nat.le_of_ble_eq_true rfl) (Nat.le_of_ble_eq_true rfl) dX8_signsByPower_37 rfl ?_
        refine aw_if_eq (tgt := 98) C dX8_signsByPower_40 (by decide) rfl (fun c40 => ?_) (fun c40 => ?_)
        · have c40 := fa_of c40
          refine aw_iconst (v := 0) C dX8_signsByPower_98 rfl rfl ?_
          exact aw_iret C (by decide) (Nat.le_of_ble_eq_true rfl) (Nat.le_of_ble_eq_true rfl) (PP.of (by simp [sgP, es0, es1, b2i, c10, (show ¬ nI o = nI s1 from fun z => c27 ((hS.pj ho hs1).mpr ((nI_eq (by omega) (by omega)).mp z))), c40])) dX8_signsByPower_99
        · have c40 := tr_of c40
          refine aw_aload C dX8_signsByPower_43 rfl rfl ?_
          refine aw_getf C f_X8_206 (hS.D hk) rfl dX8_signsByPower_45 rfl ?_
          rw [gka]
          refine aw_aload_n C dX8_signsByPower_48 rfl rfl rfl ?_
          refine aw_iload_n C dX8_signsByPower_49 rfl rfl rfl ?_
          refine cw_callVNp C k_X8_413 (C_side G hS hd (b := ig)) ⟨by decide, by decide⟩ (ci := 2) rfl (hS.D hd) rfl rfl (Nat.le_of_ble_eq_true rfl) (Nat.le_of_ble_eq_true rfl) (Nat.le_of_ble_eq_true rfl) dX8_signsByPower_50 rfl ?_
          rw [side_eq, cs0]
          refine aw_acmp_ne (rx := some (ad 3 ka)) (ry := some (ad 3 s0)) (tgt := 98) C dX8_signsByPower_53 (by decide) rfl (fun c53 => ?_) (fun c53 => ?_)
          · refine aw_iconst (v := 0) C dX8_signsByPower_98 rfl rfl ?_
            exact aw_iret C (by decide) (Nat.le_of_ble_eq_true rfl) (Nat.le_of_ble_eq_true rfl) (PP.of (by simp [sgP, es0, es1, b2i, c10, (show ¬ nI o = nI s1 from fun z => c27 ((hS.pj ho hs1).mpr ((nI_eq (by omega) (by omega)).mp z))), c40, (show ¬ u.1 12 k = nI s0 from fun z => c53 ((hS.pj hka hs0).mpr (by rw [eka, nI_eq (by omega) (by omega)] at z; exact z)))])) dX8_signsByPower_99
          · refine aw_aload C dX8_signsByPower_56 rfl rfl ?_
            refine aw_getf C f_X8_209 (hS.D hk) rfl dX8_signsByPower_58 rfl ?_
            rw [gkb]
            refine aw_aload_n C dX8_signsByPower_61 rfl rfl rfl ?_
            refine aw_acmp_ne (rx := some (ad 3 kb)) (ry := some (ad 3 o)) (tgt := 98) C dX8_signsByPower_62 (by decide) rfl (fun c62 => ?_) (fun c62 => ?_)
            · refine aw_iconst (v := 0) C dX8_signsByPower_98 rfl rfl ?_
              exact aw_iret C (by decide) (Nat.le_of_ble_eq_true rfl) (Nat.le_of_ble_eq_true rfl) (PP.of (by simp [sgP, es0, es1, b2i, c10, (show ¬ nI o = nI s1 from fun z => c27 ((hS.pj ho hs1).mpr ((nI_eq (by omega) (by omega)).mp z))), c40, (show u.1 12 k = nI s0 from by rw [eka, (hS.pj hka hs0).mp c53]), (show ¬ u.1 13 k = nI o from fun z => c62 ((hS.pj hkb ho).mpr (by rw [ekb, nI_eq (by omega) (by omega)] at z; exact z)))])) dX8_signsByPower_99
            · refine aw_aload C dX8_signsByPower_65 rfl rfl ?_
              refine aw_getf C f_X8_294 (hS.D hk) rfl dX8_signsByPower_67 rfl ?_
              refine aw_ifnull (tgt := 85) C dX8_signsByPower_70 (by decide) rfl (fun c70 => ?_) (fun r70 c70 => ?_)
              · refine aw_aload_n C dX8_signsByPower_85 rfl rfl rfl ?_
                refine aw_aload C dX8_signsByPower_86 rfl rfl ?_
                refine cw_callVp C k_X8_277 (C_good G hS hI hk) ⟨by decide, by decide⟩ (ci := 10) rfl hS.O rfl rfl (Nat.le_of_ble_eq_true rfl) (Nat.le_of_ble_eq_true rfl) (Nat.le_of_ble_eq_true rfl) dX8_signsByPower_88 rfl ?_
                refine aw_if_eq (tgt := 98) C dX8_signsByPower_91 (by decide) rfl (fun c91 => ?_) (fun c91 => ?_)
                · have c91 := fa_of c91
                  refine aw_iconst (v := 0) C dX8_signsByPower_98 rfl rfl ?_
                  exact aw_iret C (by decide) (Nat.le_of_ble_eq_true rfl) (Nat.le_of_ble_eq_true rfl) (PP.of (by simp [sgP, es0, es1, b2i, c10, (show ¬ nI o = nI s1 from fun z => c27 ((hS.pj ho hs1).mpr ((nI_eq (by omega) (by omega)).mp z))), c40, (show u.1 12 k = nI s0 from by rw [eka, (hS.pj hka hs0).mp c53]), (show u.1 13 k = nI o from by rw [ekb, (hS.pj hkb ho).mp c62]), (rfo_n c70), c91])) dX8_signsByPower_99
                · have c91 := tr_of c91
                  refine aw_iconst (v := 1) C dX8_signsByPower_94 rfl rfl ?_
                  refine aw_goto (tgt := 99) C dX8_signsByPower_95 (by decide) ?_
                  exact aw_iret C (by decide) (Nat.le_of_ble_eq_true rfl) (Nat.le_of_ble_eq_true rfl) (PP.of (by simp [sgP, es0, es1, b2i, c10, (show ¬ nI o = nI s1 from fun z => c27 ((hS.pj ho hs1).mpr ((nI_eq (by omega) (by omega)).mp z))), c40, (show u.1 12 k = nI s0 from by rw [eka, (hS.pj hka hs0).mp c53]), (show u.1 13 k = nI o from by rw [ekb, (hS.pj hkb ho).mp c62]), (rfo_n c70), c91])) dX8_signsByPower_99
              · refine aw_aload C dX8_signsByPower_73 rfl rfl ?_
                refine aw_getf C f_X8_294 (hS.D hk) rfl dX8_signsByPower_75 rfl ?_
                refine aw_aload_n C dX8_signsByPower_78 rfl rfl rfl ?_
                refine aw_getf C f_X8_294 (hS.D hd) rfl dX8_signsByPower_79 rfl ?_
                refine aw_acmp_ne (rx := rfo (ad 8) (u.1 14 k)) (ry := rfo (ad 8) (u.1 14 d)) (tgt := 98) C dX8_signsByPower_82 (by decide) rfl (fun c82 => ?_) (fun c82 => ?_)
                · refine aw_iconst (v := 0) C dX8_signsByPower_98 rfl rfl ?_
                  exact aw_iret C (by decide) (Nat.le_of_ble_eq_true rfl) (Nat.le_of_ble_eq_true rfl) (PP.of (by simp [sgP, es0, es1, b2i, c10, (show ¬ nI o = nI s1 from fun z => c27 ((hS.pj ho hs1).mpr ((nI_eq (by omega) (by omega)).mp z))), c40, (show u.1 12 k = nI s0 from by rw [eka, (hS.pj hka hs0).mp c53]), (show u.1 13 k = nI o from by rw [ekb, (hS.pj hkb ho).mp c62]), (rfo_s c70), (show ¬ u.1 14 k = u.1 14 d from fun z => c82 ((hS.tq h8 ((hI.th hk).resolve_left (rfo_s c70)) (hI.th hd)).mpr z))])) dX8_signsByPower_99
                · refine aw_aload_n C dX8_signsByPower_85 rfl rfl rfl ?_
                  refine aw_aload C dX8_signsByPower_86 rfl rfl ?_
                  refine cw_callVp C k_X8_277 (C_good G hS hI hk) ⟨by decide, by decide⟩ (ci := 10) rfl hS.O rfl rfl (Nat.le_of_ble_eq_true rfl) (Nat.le_of_ble_eq_true rfl) (Nat.le_of_ble_eq_true rfl) dX8_signsByPower_88 rfl ?_
                  refine aw_if_eq (tgt := 98) C dX8_signsByPower_91 (by decide) rfl (fun c91 => ?_) (fun c91 => ?_)
                  · have c91 := fa_of c91
                    refine aw_iconst (v := 0) C dX8_signsByPower_98 rfl rfl ?_
                    exact aw_iret C (by decide) (Nat.le_of_ble_eq_true rfl) (Nat.le_of_ble_eq_true rfl) (PP.of (by simp [sgP, es0, es1, b2i, c10, (show ¬ nI o = nI s1 from fun z => c27 ((hS.pj ho hs1).mpr ((nI_eq (by omega) (by omega)).mp z))), c40, (show u.1 12 k = nI s0 from by rw [eka, (hS.pj hka hs0).mp c53]), (show u.1 13 k = nI o from by rw [ekb, (hS.pj hkb ho).mp c62]), (rfo_s c70), (show u.1 14 k = u.1 14 d from (hS.tq h8 ((hI.th hk).resolve_left (rfo_s c70)) (hI.th hd)).mp c82), c91])) dX8_signsByPower_99
                  · have c91 := tr_of c91
                    refine aw_iconst (v := 1) C dX8_signsByPower_94 rfl rfl ?_
                    refine aw_goto (tgt := 99) C dX8_signsByPower_95 (by decide) ?_
                    exact aw_iret C (by decide) (Nat.le_of_ble_eq_true rfl) (Nat.le_of_ble_eq_true rfl) (PP.of (by simp [sgP, es0, es1, b2i, c10, (show ¬ nI o = nI s1 from fun z => c27 ((hS.pj ho hs1).mpr ((nI_eq (by omega) (by omega)).mp z))), c40, (show u.1 12 k = nI s0 from by rw [eka, (hS.pj hka hs0).mp c53]), (show u.1 13 k = nI o from by rw [ekb, (hS.pj hkb ho).mp c62]), (rfo_s c70), (show u.1 14 k = u.1 14 d from (hS.tq h8 ((hI.th hk).resolve_left (rfo_s c70)) (hI.th hd)).mp c82), c91])) dX8_signsByPower_99
      · refine aw_iconst (v := 0) C dX8_signsByPower_30 rfl rfl ?_
        exact aw_iret C (by decide) (Nat.le_of_ble_eq_true rfl) (Nat.le_of_ble_eq_true rfl) (PP.of (by simp [sgP, es0, es1, b2i, c10, (show nI o = nI s1 from by rw [(hS.pj ho hs1).mp c27])])) dX8_signsByPower_31
    · have c16 := fa_of c16
      refine aw_iconst (v := 1) C dX8_signsByPower_19 rfl rfl ?_
      refine aw_goto (tgt := 24) C dX8_signsByPower_20 (by decide) ?_
      refine cw_callVNp C k_X8_413 (C_side G hS hd (b := true)) ⟨by decide, by decide⟩ (ci := 2) rfl (hS.D hd) rfl rfl (Nat.le_of_ble_eq_true rfl) (Nat.le_of_ble_eq_true rfl) (Nat.le_of_ble_eq_true rfl) dX8_signsByPower_24 rfl ?_
      rw [side_eq, show true = !ig from by rw [c16]; rfl, cs1]
      refine aw_acmp_ne (rx := some (ad 3 o)) (ry := some (ad 3 s1)) (tgt := 32) C dX8_signsByPower_27 (by decide) rfl (fun c27 => ?_) (fun c27 => ?_)
      · refine aw_aload_n C dX8_signsByPower_32 rfl rfl rfl ?_
        refine aw_aload_n C dX8_signsByPower_33 rfl rfl rfl ?_
        refine aw_getf C f_X8_32 hS.O rfl dX8_signsByPower_34 rfl ?_
        refine cw_callVNp C k_X8_117 (C_isAbleOn G hS ho) ⟨by decide, by decide⟩ (ci := 7) rfl (hS.P ho) rfl rfl (Nat.le_of_ble_eq_true rfl) (Nat.le_of_ble_eq_true rfl) (Nat.le_of_ble_eq_true rfl) dX8_signsByPower_37 rfl ?_
        refine aw_if_eq (tgt := 98) C dX8_signsByPower_40 (by decide) rfl (fun c40 => ?_) (fun c40 => ?_)
        · have c40 := fa_of c40
          refine aw_iconst (v := 0) C dX8_signsByPower_98 rfl rfl ?_
          exact aw_iret C (by decide) (Nat.le_of_ble_eq_true rfl) (Nat.le_of_ble_eq_true rfl) (PP.of (by simp [sgP, es0, es1, b2i, c10, (show ¬ nI o = nI s1 from fun z => c27 ((hS.pj ho hs1).mpr ((nI_eq (by omega) (by omega)).mp z))), c40])) dX8_signsByPower_99
        · have c40 := tr_of c40
          refine aw_aload C dX8_signsByPower_43 rfl rfl ?_
          refine aw_getf C f_X8_206 (hS.D hk) rfl dX8_signsByPower_45 rfl ?_
          rw [gka]
          refine aw_aload_n C dX8_signsByPower_48 rfl rfl rfl ?_
          refine aw_iload_n C dX8_signsByPower_49 rfl rfl rfl ?_
          refine cw_callVNp C k_X8_413 (C_side G hS hd (b := ig)) ⟨by decide, by decide⟩ (ci := 2) rfl (hS.D hd) rfl rfl (Nat.le_of_ble_eq_true rfl) (Nat.le_of_ble_eq_true rfl) (Nat.le_of_ble_eq_true rfl) dX8_signsByPower_50 rfl ?_
          rw [side_eq, cs0]
          refine aw_acmp_ne (rx := some (ad 3 ka)) (ry := some (ad 3 s0)) (tgt := 98) C dX8_signsByPower_53 (by decide) rfl (fun c53 => ?_) (fun c53 => ?_)
          · refine aw_iconst (v := 0) C dX8_signsByPower_98 rfl rfl ?_
            exact aw_iret C (by decide) (Nat.le_of_ble_eq_true rfl) (Nat.le_of_ble_eq_true rfl) (PP.of (by simp [sgP, es0, es1, b2i, c10, (show ¬ nI o = nI s1 from fun z => c27 ((hS.pj ho hs1).mpr ((nI_eq (by omega) (by omega)).mp z))), c40, (show ¬ u.1 12 k = nI s0 from fun z => c53 ((hS.pj hka hs0).mpr (by rw [eka, nI_eq (by omega) (by omega)] at z; exact z)))])) dX8_signsByPower_99
          · refine aw_aload C dX8_signsByPower_56 rfl rfl ?_
            refine aw_getf C f_X8_209 (hS.D hk) rfl dX8_signsByPower_58 rfl ?_
            rw [gkb]
            refine aw_aload_n C dX8_signsByPower_61 rfl rfl rfl ?_
            refine aw_acmp_ne (rx := some (ad 3 kb)) (ry := some (ad 3 o)) (tgt := 98) C dX8_signsByPower_62 (by decide) rfl (fun c62 => ?_) (fun c62 => ?_)
            · refine aw_iconst (v := 0) C dX8_signsByPower_98 rfl rfl ?_
              exact aw_iret C (by decide) (Nat.le_of_ble_eq_true rfl) (Nat.le_of_ble_eq_true rfl) (PP.of (by simp [sgP, es0, es1, b2i, c10, (show ¬ nI o = nI s1 from fun z => c27 ((hS.pj ho hs1).mpr ((nI_eq (by omega) (by omega)).mp z))), c40, (show u.1 12 k = nI s0 from by rw [eka, (hS.pj hka hs0).mp c53]), (show ¬ u.1 13 k = nI o from fun z => c62 ((hS.pj hkb ho).mpr (by rw [ekb, nI_eq (by omega) (by omega)] at z; exact z)))])) dX8_signsByPower_99
            · refine aw_aload C dX8_signsByPower_65 rfl rfl ?_
              refine aw_getf C f_X8_294 (hS.D hk) rfl dX8_signsByPower_67 rfl ?_
              refine aw_ifnull (tgt := 85) C dX8_signsByPower_70 (by decide) rfl (fun c70 => ?_) (fun r70 c70 => ?_)
              · refine aw_aload_n C dX8_signsByPower_85 rfl rfl rfl ?_
                refine aw_aload C dX8_signsByPower_86 rfl rfl ?_
                refine cw_callVp C k_X8_277 (C_good G hS hI hk) ⟨by decide, by decide⟩ (ci := 10) rfl hS.O rfl rfl (Nat.le_of_ble_eq_true rfl) (Nat.le_of_ble_eq_true rfl) (Nat.le_of_ble_eq_true rfl) dX8_signsByPower_88 rfl ?_
                refine aw_if_eq (tgt := 98) C dX8_signsByPower_91 (by decide) rfl (fun c91 => ?_) (fun c91 => ?_)
                · have c91 := fa_of c91
                  refine aw_iconst (v := 0) C dX8_signsByPower_98 rfl rfl ?_
                  exact aw_iret C (by decide) (Nat.le_of_ble_eq_true rfl) (Nat.le_of_ble_eq_true rfl) (PP.of (by simp [sgP, es0, es1, b2i, c10, (show ¬ nI o = nI s1 from fun z => c27 ((hS.pj ho hs1).mpr ((nI_eq (by omega) (by omega)).mp z))), c40, (show u.1 12 k = nI s0 from by rw [eka, (hS.pj hka hs0).mp c53]), (show u.1 13 k = nI o from by rw [ekb, (hS.pj hkb ho).mp c62]), (rfo_n c70), c91])) dX8_signsByPower_99
                · have c91 := tr_of c91
                  refine aw_iconst (v := 1) C dX8_signsByPower_94 rfl rfl ?_
                  refine aw_goto (tgt := 99) C dX8_signsByPower_95 (by decide) ?_
                  exact aw_iret C (by decide) (Nat.le_of_ble_eq_true rfl) (Nat.le_of_ble_eq_true rfl) (PP.of (by simp [sgP, es0, es1, b2i, c10, (show ¬ nI o = nI s1 from fun z => c27 ((hS.pj ho hs1).mpr ((nI_eq (by omega) (by omega)).mp z))), c40, (show u.1 12 k = nI s0 from by rw [eka, (hS.pj hka hs0).mp c53]), (show u.1 13 k = nI o from by rw [ekb, (hS.pj hkb ho).mp c62]), (rfo_n c70), c91])) dX8_signsByPower_99
              · refine aw_aload C dX8_signsByPower_73 rfl rfl ?_
                refine aw_getf C f_X8_294 (hS.D hk) rfl dX8_signsByPower_75 rfl ?_
                refine aw_aload_n C dX8_signsByPower_78 rfl rfl rfl ?_
                refine aw_getf C f_X8_294 (hS.D hd) rfl dX8_signsByPower_79 rfl ?_
                refine aw_acmp_ne (rx := rfo (ad 8) (u.1 14 k)) (ry := rfo (ad 8) (u.1 14 d)) (tgt := 98) C dX8_signsByPower_82 (by decide) rfl (fun c82 => ?_) (fun c82 => ?_)
                · refine aw_iconst (v := 0) C dX8_signsByPower_98 rfl rfl ?_
                  exact aw_iret C (by decide) (Nat.le_of_ble_eq_true rfl) (Nat.le_of_ble_eq_true rfl) (PP.of (by simp [sgP, es0, es1, b2i, c10, (show ¬ nI o = nI s1 from fun z => c27 ((hS.pj ho hs1).mpr ((nI_eq (by omega) (by omega)).mp z))), c40, (show u.1 12 k = nI s0 from by rw [eka, (hS.pj hka hs0).mp c53]), (show u.1 13 k = nI o from by rw [ekb, (hS.pj hkb ho).mp c62]), (rfo_s c70), (show ¬ u.1 14 k = u.1 14 d from fun z => c82 ((hS.tq h8 ((hI.th hk).resolve_left (rfo_s c70)) (hI.th hd)).mpr z))])) dX8_signsByPower_99
                · refine aw_aload_n C dX8_signsByPower_85 rfl rfl rfl ?_
                  refine aw_aload C dX8_signsByPower_86 rfl rfl ?_
                  refine cw_callVp C k_X8_277 (C_good G hS hI hk) ⟨by decide, by decide⟩ (ci := 10) rfl hS.O rfl rfl (Nat.le_of_ble_eq_true rfl) (Nat.le_of_ble_eq_true rfl) (Nat.le_of_ble_eq_true rfl) dX8_signsByPower_88 rfl ?_
                  refine aw_if_eq (tgt := 98) C dX8_signsByPower_91 (by decide) rfl (fun c91 => ?_) (fun c91 => ?_)
                  · have c91 := fa_of c91
                    refine aw_iconst (v := 0) C dX8_signsByPower_98 rfl rfl ?_
                    exact aw_iret C (by decide) (Nat.le_of_ble_eq_true rfl) (Nat.le_of_ble_eq_true rfl) (PP.of (by simp [sgP, es0, es1, b2i, c10, (show ¬ nI o = nI s1 from fun z => c27 ((hS.pj ho hs1).mpr ((nI_eq (by omega) (by omega)).mp z))), c40, (show u.1 12 k = nI s0 from by rw [eka, (hS.pj hka hs0).mp c53]), (show u.1 13 k = nI o from by rw [ekb, (hS.pj hkb ho).mp c62]), (rfo_s c70), (show u.1 14 k = u.1 14 d from (hS.tq h8 ((hI.th hk).resolve_left (rfo_s c70)) (hI.th hd)).mp c82), c91])) dX8_signsByPower_99
                  · have c91 := tr_of c91
                    refine aw_iconst (v := 1) C dX8_signsByPower_94 rfl rfl ?_
                    refine aw_goto (tgt := 99) C dX8_signsByPower_95 (by decide) ?_
                    exact aw_iret C (by decide) (Nat.le_of_ble_eq_true rfl) (Nat.le_of_ble_eq_true rfl) (PP.of (by simp [sgP, es0, es1, b2i, c10, (show ¬ nI o = nI s1 from fun z => c27 ((hS.pj ho hs1).mpr ((nI_eq (by omega) (by omega)).mp z))), c40, (show u.1 12 k = nI s0 from by rw [eka, (hS.pj hka hs0).mp c53]), (show u.1 13 k = nI o from by rw [ekb, (hS.pj hkb ho).mp c62]), (rfo_s c70), (show u.1 14 k = u.1 14 d from (hS.tq h8 ((hI.th hk).resolve_left (rfo_s c70)) (hI.th hd)).mp c82), c91])) dX8_signsByPower_99
      · refine aw_iconst (v := 0) C dX8_signsByPower_30 rfl rfl ?_
        exact aw_iret C (by decide) (Nat.le_of_ble_eq_true rfl) (Nat.le_of_ble_eq_true rfl) (PP.of (by simp [sgP, es0, es1, b2i, c10, (show nI o = nI s1 from by rw [(hS.pj ho hs1).mp c27])])) dX8_signsByPower_31
