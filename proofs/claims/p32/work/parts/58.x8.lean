/-! the class: signing, parts, powers -/
set_option maxRecDepth 100000 in
theorem C_areKin {g : Gx} {l : Launch} {ez : Nat} (G : GOK g l ez) {sg : Sg} {ad : Nat → Nat → Nat} {u : MU} {Y : GS} (hS : CS g ez ad u Y sg) {N : Nat} (hI : CI N u) {p q : Nat} (hp : p < u.2.2.1 2) (hq : q < u.2.2.1 2) : MM g l yX8_areParentAndChild cX8_areParentAndChild 2 (some .boolean) (rmC 2 0 0) sg [.ref (ad 3 p), .ref (ad 3 q)] (PP sg (.int (b2i (isKin u p q)))) (noX) := by
  refine MM.of G.1 G.2.1 (by decide) (Nat.le_of_ble_eq_true rfl) (fun x hg hlx C hin hout hargs => ?_)
  subst hg; subst hlx
  have C : AWC x cX8_areParentAndChild 2 RX8 (rmC 2 0 0) (some .boolean) := C
  show AW x (RQ x _ _ _ _) 0 0 sg 0 [(0, .ref (ad 3 p)), (1, .ref (ad 3 q))] []
  refine aw_aload_n C dX8_areParentAndChild_0 rfl rfl rfl ?_
  refine aw_aload_n C dX8_areParentAndChild_1 rfl rfl rfl ?_
  refine cw_callVNp C k_X8_80 (C_isChildOf G hS hI.W hI.Pa hp hq) ⟨by decide, by decide⟩ (ci := 7) rfl (hS.P hp) rfl rfl (Nat.le_of_ble_eq_true rfl) (Nat.le_of_ble_eq_true rfl) (Nat.le_of_ble_eq_true rfl) dX8_areParentAndChild_2 rfl ?_
  refine aw_if_ne (tgt := 16) C dX8_areParentAndChild_5 (by decide) rfl (fun c5 => ?_) (fun c5 => ?_)
  · have c5 := tr_of c5
    refine aw_iconst (v := 1) C dX8_areParentAndChild_16 rfl rfl ?_
    refine aw_goto (tgt := 21) C dX8_areParentAndChild_17 (by decide) ?_
    exact aw_iret C (by decide) (Nat.le_of_ble_eq_true rfl) (Nat.le_of_ble_eq_true rfl) (PP.of (by simp [isKin, b2i, c5])) dX8_areParentAndChild_21
  · have c5 := fa_of c5
    refine aw_aload_n C dX8_areParentAndChild_8 rfl rfl rfl ?_
    refine aw_aload_n C dX8_areParentAndChild_9 rfl rfl rfl ?_
    refine cw_callVNp C k_X8_80 (C_isChildOf G hS hI.W hI.Pa hq hp) ⟨by decide, by decide⟩ (ci := 7) rfl (hS.P hq) rfl rfl (Nat.le_of_ble_eq_true rfl) (Nat.le_of_ble_eq_true rfl) (Nat.le_of_ble_eq_true rfl) dX8_areParentAndChild_10 rfl ?_
    refine aw_if_eq (tgt := 20) C dX8_areParentAndChild_13 (by decide) rfl (fun c13 => ?_) (fun c13 => ?_)
    · have c13 := fa_of c13
      refine aw_iconst (v := 0) C dX8_areParentAndChild_20 rfl rfl ?_
      exact aw_iret C (by decide) (Nat.le_of_ble_eq_true rfl) (Nat.le_of_ble_eq_true rfl) (PP.of (by simp [isKin, b2i, c5, c13])) dX8_areParentAndChild_21
    · have c13 := tr_of c13
      refine aw_iconst (v := 1) C dX8_areParentAndChild_16 rfl rfl ?_
      refine aw_goto (tgt := 21) C dX8_areParentAndChild_17 (by decide) ?_
      exact aw_iret C (by decide) (Nat.le_of_ble_eq_true rfl) (Nat.le_of_ble_eq_true rfl) (PP.of (by simp [isKin, b2i, c5, c13])) dX8_areParentAndChild_21
def canW (u : MU) (p a b : Nat) : Bool := able u p && (!decide (p = a) && (!decide (p = b) && (!isKin u p a && !isKin u p b)))
set_option maxRecDepth 100000 in
theorem C_canWitness {g : Gx} {l : Launch} {ez : Nat} (G : GOK g l ez) {sg : Sg} {ad : Nat → Nat → Nat} {u : MU} {Y : GS} (hS : CS g ez ad u Y sg) {N : Nat} (hI : CI N u) {d p : Nat} (hd : d < u.2.2.1 10) (hp : p < u.2.2.1 2) : MM g l yX8_canWitness cX8_canWitness 3 (some .boolean) (rmC 3 0 0) sg [.ref (ad 0 0), .ref (ad 4 d), .ref (ad 3 p)] (PP sg (.int (b2i (canW u p (u.1 12 d).toNatClampNeg (u.1 13 d).toNatClampNeg)))) (noX) := by
  refine MM.of G.1 G.2.1 (by decide) (Nat.le_of_ble_eq_true rfl) (fun x hg hlx C hin hout hargs => ?_)
  subst hg; subst hlx
  have C : AWC x cX8_canWitness 3 RX8 (rmC 3 0 0) (some .boolean) := C
  show AW x (RQ x _ _ _ _) 0 0 sg 0 [(0, .ref (ad 0 0)), (1, .ref (ad 4 d)), (2, .ref (ad 3 p))] []
  obtain ⟨⟨a, ha, ea⟩, b, hb, eb⟩ := hI.gt hd
  have h12 := hI.n2
  have ga : (u.1 12 d).toNatClampNeg = a := by rw [ea, nI_clamp (by omega)]
  have gb : (u.1 13 d).toNatClampNeg = b := by rw [eb, nI_clamp (by omega)]
  rw [ga, gb]
  refine aw_aload_n C dX8_canWitness_0 rfl rfl rfl ?_
  refine aw_aload_n C dX8_canWitness_1 rfl rfl rfl ?_
  refine aw_getf C f_X8_32 hS.O rfl dX8_canWitness_2 rfl ?_
  refine cw_callVNp C k_X8_117 (C_isAbleOn G hS hp) ⟨by decide, by decide⟩ (ci := 7) rfl (hS.P hp) rfl rfl (Nat.le_of_ble_eq_true rfl) (Nat.le_of_ble_eq_true rfl) (Nat.le_of_ble_eq_true rfl) dX8_canWitness_5 rfl ?_
  refine aw_if_eq (tgt := 53) C dX8_canWitness_8 (by decide) rfl (fun c8 => ?_) (fun c8 => ?_)
  · have c8 := fa_of c8
    refine aw_iconst (v := 0) C dX8_canWitness_53 rfl rfl ?_
    exact aw_iret C (by decide) (Nat.le_of_ble_eq_true rfl) (Nat.le_of_ble_eq_true rfl) (PP.of (by simp [canW, b2i, c8])) dX8_canWitness_54
  · have c8 := tr_of c8
    refine aw_aload_n C dX8_canWitness_11 rfl rfl rfl ?_
    refine aw_aload_n C dX8_canWitness_12 rfl rfl rfl ?_
    refine aw_getf C f_X8_206 (hS.D hd) rfl dX8_canWitness_13 rfl ?_
    rw [ga]
    refine aw_acmp_eq (rx := some (ad 3 p)) (ry := some (ad 3 a)) (tgt := 53) C dX8_canWitness_16 (by decide) rfl (fun c16 => ?_) (fun c16 => ?_)
    · refine aw_iconst (v := 0) C dX8_canWitness_53 rfl rfl ?_
      exact aw_iret C (by decide) (Nat.le_of_ble_eq_true rfl) (Nat.le_of_ble_eq_true rfl) (PP.of (by simp [canW, b2i, c8, (show p = a from (hS.pj hp ha).mp c16)])) dX8_canWitness_54
    · refine aw_aload_n C dX8_canWitness_19 rfl rfl rfl ?_
      refine aw_aload_n C dX8_canWitness_20 rfl rfl rfl ?_
      refine aw_getf C f_X8_209 (hS.D hd) rfl dX8_canWitness_21 rfl ?_
      rw [gb]
      refine aw_acmp_eq (rx := some (ad 3 p)) (ry := some (ad 3 b)) (tgt := 53) C dX8_canWitness_24 (by decide) rfl (fun c24 => ?_) (fun c24 => ?_)
      · refine aw_iconst (v := 0) C dX8_canWitness_53 rfl rfl ?_
        exact aw_iret C (by decide) (Nat.le_of_ble_eq_true rfl) (Nat.le_of_ble_eq_true rfl) (PP.of (by simp [canW, b2i, c8, (show ¬ p = a from fun z => c16 ((hS.pj hp ha).mpr z)), (show p = b from (hS.pj hp hb).mp c24)])) dX8_canWitness_54
      · refine aw_aload_n C dX8_canWitness_27 rfl rfl rfl ?_
        refine aw_aload_n C dX8_canWitness_28 rfl rfl rfl ?_
        refine aw_getf C f_X8_206 (hS.D hd) rfl dX8_canWitness_29 rfl ?_
        rw [ga]
        refine cw_callSp C k_X8_420 (C_areKin G hS hI hp ha) ⟨by decide, by decide⟩ rfl rfl (Nat.le_of_ble_eq_true rfl) (Nat.le_of_ble_eq_true rfl) (Nat.le_of_ble_eq_true rfl) dX8_canWitness_32 rfl ?_
        refine aw_if_ne (tgt := 53) C dX8_canWitness_35 (by decide) rfl (fun c35 => ?_) (fun c35 => ?_)
        · have c35 := tr_of c35
          refine aw_iconst (v := 0) C dX8_canWitness_53 rfl rfl ?_
          exact aw_iret C (by decide) (Nat.le_of_ble_eq_true rfl) (Nat.le_of_ble_eq_true rfl) (PP.of (by simp [canW, b2i, c8, (show ¬ p = a from fun z => c16 ((hS.pj hp ha).mpr z)), (show ¬ p = b from fun z => c24 ((hS.pj hp hb).mpr z)), c35])) dX8_canWitness_54
        · have c35 := fa_of c35
          refine aw_aload_n C dX8_canWitness_38 rfl rfl rfl ?_
          refine aw_aload_n C dX8_canWitness_39 rfl rfl rfl ?_
          refine aw_getf C f_X8_209 (hS.D hd) rfl dX8_canWitness_40 rfl ?_
          rw [gb]
          refine cw_callSp C k_X8_420 (C_areKin G hS hI hp hb) ⟨by decide, by decide⟩ rfl rfl (Nat.le_of_ble_eq_true rfl) (Nat.le_of_ble_eq_true rfl) (Nat.le_of_ble_eq_true rfl) dX8_canWitness_43 rfl ?_
          refine aw_if_ne (tgt := 53) C dX8_canWitness_46 (by decide) rfl (fun c46 => ?_) (fun c46 => ?_)
          · have c46 := tr_of c46
            refine aw_iconst (v := 0) C dX8_canWitness_53 rfl rfl ?_
            exact aw_iret C (by decide) (Nat.le_of_ble_eq_true rfl) (Nat.le_of_ble_eq_true rfl) (PP.of (by simp [canW, b2i, c8, (show ¬ p = a from fun z => c16 ((hS.pj hp ha).mpr z)), (show ¬ p = b from fun z => c24 ((hS.pj hp hb).mpr z)), c35, c46])) dX8_canWitness_54
          · have c46 := fa_of c46
            refine aw_iconst (v := 1) C dX8_canWitness_49 rfl rfl ?_
            refine aw_goto (tgt := 54) C dX8_canWitness_50 (by decide) ?_
            exact aw_iret C (by decide) (Nat.le_of_ble_eq_true rfl) (Nat.le_of_ble_eq_true rfl) (PP.of (by simp [canW, b2i, c8, (show ¬ p = a from fun z => c16 ((hS.pj hp ha).mpr z)), (show ¬ p = b from fun z => c24 ((hS.pj hp hb).mpr z)), c35, c46])) dX8_canWitness_54
theorem ofT_kd {u : MU} (h : CJ u) {d : Nat} (hd : d < u.2.2.1 10) : inB (u.1 11 d) 0 2 = isOfT u d := by
  obtain ⟨k, hk, e⟩ := h.kd hd
  rw [isOfT, e]
  match k, hk with
  | 0, _ | 1, _ | 2, _ | 3, _ | 4, _ => decide
  | _ + 5, hk => omega
set_option maxRecDepth 100000 in
theorem C_needs {g : Gx} {l : Launch} {ez : Nat} (G : GOK g l ez) {sg : Sg} {ad : Nat → Nat → Nat} {u : MU} {Y : GS} (hS : CS g ez ad u Y sg) (hI : CJ u) {d : Nat} (hd : d < u.2.2.1 10) : MM g l yX8_neededParts cX8_neededParts 3 (some .int) (rmC 2 0 0) sg [.ref (ad 4 d)] (PP sg (.int (needs u d))) (noX) := by
  refine MM.of G.1 G.2.1 (by decide) (Nat.le_of_ble_eq_true rfl) (fun x hg hlx C hin hout hargs => ?_)
  subst hg; subst hlx
  have C : AWC x cX8_neededParts 3 RX8 (rmC 2 0 0) (some .int) := C
  show AW x (RQ x _ _ _ _) 0 0 sg 0 [(0, .ref (ad 4 d))] []
  obtain ⟨⟨a, ha, ea⟩, b, hb, eb⟩ := hI.gt hd
  have h12 := hI.n2
  have ga : (u.1 12 d).toNatClampNeg = a := by rw [ea, nI_clamp (by omega)]
  have gb : (u.1 13 d).toNatClampNeg = b := by rw [eb, nI_clamp (by omega)]
  refine aw_aload_n C dX8_neededParts_0 rfl rfl rfl ?_
  refine aw_getf C f_X8_236 (hS.D hd) rfl dX8_neededParts_1 rfl ?_
  refine cw_callSp C k_X8_125 (C_isOfThing G) ⟨by decide, by decide⟩ rfl rfl (Nat.le_of_ble_eq_true rfl) (Nat.le_of_ble_eq_true rfl) (Nat.le_of_ble_eq_true rfl) dX8_neededParts_4 rfl ?_
  rw [ofT_kd hI hd]
  refine aw_istore_n (ls' := [(1, _), (0, _)]) C dX8_neededParts_7 rfl (by decide) rfl rfl ?_
  refine aw_iconst (v := 5) C dX8_neededParts_8 rfl rfl ?_
  refine aw_istore_n (ls' := [(2, _), (1, _), (0, _)]) C dX8_neededParts_9 rfl (by decide) rfl rfl ?_
  refine aw_iload_n C dX8_neededParts_10 rfl rfl rfl ?_
  refine aw_if_eq (tgt := 18) C dX8_neededParts_11 (by decide) rfl (fun c11 => ?_) (fun c11 => ?_)
  · have c11 := fa_of c11
    refine aw_aload_n C dX8_neededParts_18 rfl rfl rfl ?_
    refine aw_getf C f_X8_236 (hS.D hd) rfl dX8_neededParts_19 rfl ?_
    refine aw_iconst (v := 1) C dX8_neededParts_22 rfl rfl ?_
    refine aw_icmp_eq (tgt := 34) C dX8_neededParts_23 (by decide) rfl (fun c23 => ?_) (fun c23 => ?_)
    · refine aw_iload_n C dX8_neededParts_34 rfl rfl rfl ?_
      refine aw_bipush (v := 8) C dX8_neededParts_35 rfl rfl ?_
      refine aw_ior C dX8_neededParts_37 rfl ?_
      refine aw_istore_n (ls' := [(2, _), (1, _), (0, _)]) C dX8_neededParts_38 rfl (by decide) rfl rfl ?_
      refine aw_aload_n C dX8_neededParts_39 rfl rfl rfl ?_
      refine aw_getf C f_X8_206 (hS.D hd) rfl dX8_neededParts_40 rfl ?_
      rw [ga]
      refine aw_getf C f_X8_427 (hS.P ha) rfl dX8_neededParts_43 rfl ?_
      refine aw_if_ne (tgt := 63) C dX8_neededParts_46 (by decide) rfl (fun c46 => ?_) (fun c46 => ?_)
      · refine aw_iload_n C dX8_neededParts_63 rfl rfl rfl ?_
        refine aw_bipush (v := 16) C dX8_neededParts_64 rfl rfl ?_
        refine aw_ior C dX8_neededParts_66 rfl ?_
        refine aw_istore_n (ls' := [(2, _), (1, _), (0, _)]) C dX8_neededParts_67 rfl (by decide) rfl rfl ?_
        refine aw_iload_n C dX8_neededParts_68 rfl rfl rfl ?_
        exact aw_iret C rfl (Nat.le_of_ble_eq_true rfl) (Nat.le_of_ble_eq_true rfl) (PP.of (by unfold needs; rw [ga, gb]; simp [c11, c23, c46] <;> rfl)) dX8_neededParts_69
      · refine aw_iload_n C dX8_neededParts_49 rfl rfl rfl ?_
        refine aw_if_eq (tgt := 68) C dX8_neededParts_50 (by decide) rfl (fun c50 => ?_) (fun c50 => ?_)
        · have c50 := fa_of c50
          refine aw_iload_n C dX8_neededParts_68 rfl rfl rfl ?_
          exact aw_iret C rfl (Nat.le_of_ble_eq_true rfl) (Nat.le_of_ble_eq_true rfl) (PP.of (by unfold needs; rw [ga, gb]; simp [c11, c23, c46, c50] <;> rfl)) dX8_neededParts_69
        · have c50 := tr_of c50
          refine aw_aload_n C dX8_neededParts_53 rfl rfl rfl ?_
          refine aw_getf C f_X8_209 (hS.D hd) rfl dX8_neededParts_54 rfl ?_
          rw [gb]
          refine aw_getf C f_X8_427 (hS.P hb) rfl dX8_neededParts_57 rfl ?_
          refine aw_if_eq (tgt := 68) C dX8_neededParts_60 (by decide) rfl (fun c60 => ?_) (fun c60 => ?_)
          · refine aw_iload_n C dX8_neededParts_68 rfl rfl rfl ?_
            exact aw_iret C rfl (Nat.le_of_ble_eq_true rfl) (Nat.le_of_ble_eq_true rfl) (absurd (c11.symm.trans c50) (by decide)) dX8_neededParts_69
          · refine aw_iload_n C dX8_neededParts_63 rfl rfl rfl ?_
            refine aw_bipush (v := 16) C dX8_neededParts_64 rfl rfl ?_
            refine aw_ior C dX8_neededParts_66 rfl ?_
            refine aw_istore_n (ls' := [(2, _), (1, _), (0, _)]) C dX8_neededParts_67 rfl (by decide) rfl rfl ?_
            refine aw_iload_n C dX8_neededParts_68 rfl rfl rfl ?_
            exact aw_iret C rfl (Nat.le_of_ble_eq_true rfl) (Nat.le_of_ble_eq_true rfl) (absurd (c11.symm.trans c50) (by decide)) dX8_neededParts_69
    · refine aw_aload_n C dX8_neededParts_26 rfl rfl rfl ?_
      refine aw_getf C f_X8_236 (hS.D hd) rfl dX8_neededParts_27 rfl ?_
      refine aw_iconst (v := 4) C dX8_neededParts_30 rfl rfl ?_
      refine aw_icmp_ne (tgt := 39) C dX8_neededParts_31 (by decide) rfl (fun c31 => ?_) (fun c31 => ?_)
      · refine aw_aload_n C dX8_neededParts_39 rfl rfl rfl ?_
        refine aw_getf C f_X8_206 (hS.D hd) rfl dX8_neededParts_40 rfl ?_
        rw [ga]
        refine aw_getf C f_X8_427 (hS.P ha) rfl dX8_neededParts_43 rfl ?_
        refine aw_if_ne (tgt := 63) C dX8_neededParts_46 (by decide) rfl (fun c46 => ?_) (fun c46 => ?_)
        · refine aw_iload_n C dX8_neededParts_63 rfl rfl rfl ?_
          refine aw_bipush (v := 16) C dX8_neededParts_64 rfl rfl ?_
          refine aw_ior C dX8_neededParts_66 rfl ?_
          refine aw_istore_n (ls' := [(2, _), (1, _), (0, _)]) C dX8_neededParts_67 rfl (by decide) rfl rfl ?_
          refine aw_iload_n C dX8_neededParts_68 rfl rfl rfl ?_
          exact aw_iret C rfl (Nat.le_of_ble_eq_true rfl) (Nat.le_of_ble_eq_true rfl) (PP.of (by unfold needs; rw [ga, gb]; simp [c11, c23, c31, c46] <;> rfl)) dX8_neededParts_69
        · refine aw_iload_n C dX8_neededParts_49 rfl rfl rfl ?_
          refine aw_if_eq (tgt := 68) C dX8_neededParts_50 (by decide) rfl (fun c50 => ?_) (fun c50 => ?_)
          · have c50 := fa_of c50
            refine aw_iload_n C dX8_neededParts_68 rfl rfl rfl ?_
            exact aw_iret C rfl (Nat.le_of_ble_eq_true rfl) (Nat.le_of_ble_eq_true rfl) (PP.of (by unfold needs; rw [ga, gb]; simp [c11, c23, c31, c46, c50] <;> rfl)) dX8_neededParts_69
          · have c50 := tr_of c50
            refine aw_aload_n C dX8_neededParts_53 rfl rfl rfl ?_
            refine aw_getf C f_X8_209 (hS.D hd) rfl dX8_neededParts_54 rfl ?_
            rw [gb]
            refine aw_getf C f_X8_427 (hS.P hb) rfl dX8_neededParts_57 rfl ?_
            refine aw_if_eq (tgt := 68) C dX8_neededParts_60 (by decide) rfl (fun c60 => ?_) (fun c60 => ?_)
            · refine aw_iload_n C dX8_neededParts_68 rfl rfl rfl ?_
              exact aw_iret C rfl (Nat.le_of_ble_eq_true rfl) (Nat.le_of_ble_eq_true rfl) (absurd (c11.symm.trans c50) (by decide)) dX8_neededParts_69
            · refine aw_iload_n C dX8_neededParts_63 rfl rfl rfl ?_
              refine aw_bipush (v := 16) C dX8_neededParts_64 rfl rfl ?_
              refine aw_ior C dX8_neededParts_66 rfl ?_
              refine aw_istore_n (ls' := [(2, _), (1, _), (0, _)]) C dX8_neededParts_67 rfl (by decide) rfl rfl ?_
              refine aw_iload_n C dX8_neededParts_68 rfl rfl rfl ?_
              exact aw_iret C rfl (Nat.le_of_ble_eq_true rfl) (Nat.le_of_ble_eq_true rfl) (absurd (c11.symm.trans c50) (by decide)) dX8_neededParts_69
      · refine aw_iload_n C dX8_neededParts_34 rfl rfl rfl ?_
        refine aw_bipush (v := 8) C dX8_neededParts_35 rfl rfl ?_
        refine aw_ior C dX8_neededParts_37 rfl ?_
        refine aw_istore_n (ls' := [(2, _), (1, _), (0, _)]) C dX8_neededParts_38 rfl (by decide) rfl rfl ?_
        refine aw_aload_n C dX8_neededParts_39 rfl rfl rfl ?_
        refine aw_getf C f_X8_206 (hS.D hd) rfl dX8_neededParts_40 rfl ?_
        rw [ga]
        refine aw_getf C f_X8_427 (hS.P ha) rfl dX8_neededParts_43 rfl ?_
        refine aw_if_ne (tgt := 63) C dX8_neededParts_46 (by decide) rfl (fun c46 => ?_) (fun c46 => ?_)
        · refine aw_iload_n C dX8_neededParts_63 rfl rfl rfl ?_
          refine aw_bipush (v := 16) C dX8_neededParts_64 rfl rfl ?_
          refine aw_ior C dX8_neededParts_66 rfl ?_
          refine aw_istore_n (ls' := [(2, _), (1, _), (0, _)]) C dX8_neededParts_67 rfl (by decide) rfl rfl ?_
          refine aw_iload_n C dX8_neededParts_68 rfl rfl rfl ?_
          exact aw_iret C rfl (Nat.le_of_ble_eq_true rfl) (Nat.le_of_ble_eq_true rfl) (PP.of (by unfold needs; rw [ga, gb]; simp [c11, c23, c31, c46] <;> rfl)) dX8_neededParts_69
        · refine aw_iload_n C dX8_neededParts_49 rfl rfl rfl ?_
          refine aw_if_eq (tgt := 68) C dX8_neededParts_50 (by decide) rfl (fun c50 => ?_) (fun c50 => ?_)
          · have c50 := fa_of c50
            refine aw_iload_n C dX8_neededParts_68 rfl rfl rfl ?_
            exact aw_iret C rfl (Nat.le_of_ble_eq_true rfl) (Nat.le_of_ble_eq_true rfl) (PP.of (by unfold needs; rw [ga, gb]; simp [c11, c23, c31, c46, c50] <;> rfl)) dX8_neededParts_69
          · have c50 := tr_of c50
            refine aw_aload_n C dX8_neededParts_53 rfl rfl rfl ?_
            refine aw_getf C f_X8_209 (hS.D hd) rfl dX8_neededParts_54 rfl ?_
            rw [gb]
            refine aw_getf C f_X8_427 (hS.P hb) rfl dX8_neededParts_57 rfl ?_
            refine aw_if_eq (tgt := 68) C dX8_neededParts_60 (by decide) rfl (fun c60 => ?_) (fun c60 => ?_)
            · refine aw_iload_n C dX8_neededParts_68 rfl rfl rfl ?_
              exact aw_iret C rfl (Nat.le_of_ble_eq_true rfl) (Nat.le_of_ble_eq_true rfl) (absurd (c11.symm.trans c50) (by decide)) dX8_neededParts_69
            · refine aw_iload_n C dX8_neededParts_63 rfl rfl rfl ?_
              refine aw_bipush (v := 16) C dX8_neededParts_64 rfl rfl ?_
              refine aw_ior C dX8_neededParts_66 rfl ?_
              refine aw_istore_n (ls' := [(2, _), (1, _), (0, _)]) C dX8_neededParts_67 rfl (by decide) rfl rfl ?_
              refine aw_iload_n C dX8_neededParts_68 rfl rfl rfl ?_
              exact aw_iret C rfl (Nat.le_of_ble_eq_true rfl) (Nat.le_of_ble_eq_true rfl) (absurd (c11.symm.trans c50) (by decide)) dX8_neededParts_69
  · have c11 := tr_of c11
    refine aw_iload_n C dX8_neededParts_14 rfl rfl rfl ?_
    refine aw_iconst (v := 2) C dX8_neededParts_15 rfl rfl ?_
    refine aw_ior C dX8_neededParts_16 rfl ?_
    refine aw_istore_n (ls' := [(2, _), (1, _), (0, _)]) C dX8_neededParts_17 rfl (by decide) rfl rfl ?_
    refine aw_aload_n C dX8_neededParts_18 rfl rfl rfl ?_
    refine aw_getf C f_X8_236 (hS.D hd) rfl dX8_neededParts_19 rfl ?_
    refine aw_iconst (v := 1) C dX8_neededParts_22 rfl rfl ?_
    refine aw_icmp_eq (tgt := 34) C dX8_neededParts_23 (by decide) rfl (fun c23 => ?_) (fun c23 => ?_)
    · refine aw_iload_n C dX8_neededParts_34 rfl rfl rfl ?_
      refine aw_bipush (v := 8) C dX8_neededParts_35 rfl rfl ?_
      refine aw_ior C dX8_neededParts_37 rfl ?_
      refine aw_istore_n (ls' := [(2, _), (1, _), (0, _)]) C dX8_neededParts_38 rfl (by decide) rfl rfl ?_
      refine aw_aload_n C dX8_neededParts_39 rfl rfl rfl ?_
      refine aw_getf C f_X8_206 (hS.D hd) rfl dX8_neededParts_40 rfl ?_
      rw [ga]
      refine aw_getf C f_X8_427 (hS.P ha) rfl dX8_neededParts_43 rfl ?_
      refine aw_if_ne (tgt := 63) C dX8_neededParts_46 (by decide) rfl (fun c46 => ?_) (fun c46 => ?_)
      · refine aw_iload_n C dX8_neededParts_63 rfl rfl rfl ?_
        refine aw_bipush (v := 16) C dX8_neededParts_64 rfl rfl ?_
        refine aw_ior C dX8_neededParts_66 rfl ?_
        refine aw_istore_n (ls' := [(2, _), (1, _), (0, _)]) C dX8_neededParts_67 rfl (by decide) rfl rfl ?_
        refine aw_iload_n C dX8_neededParts_68 rfl rfl rfl ?_
        exact aw_iret C rfl (Nat.le_of_ble_eq_true rfl) (Nat.le_of_ble_eq_true rfl) (PP.of (by unfold needs; rw [ga, gb]; simp [c11, c23, c46] <;> rfl)) dX8_neededParts_69
      · refine aw_iload_n C dX8_neededParts_49 rfl rfl rfl ?_
        refine aw_if_eq (tgt := 68) C dX8_neededParts_50 (by decide) rfl (fun c50 => ?_) (fun c50 => ?_)
        · have c50 := fa_of c50
          refine aw_iload_n C dX8_neededParts_68 rfl rfl rfl ?_
          exact aw_iret C rfl (Nat.le_of_ble_eq_true rfl) (Nat.le_of_ble_eq_true rfl) (absurd (c11.symm.trans c50) (by decide)) dX8_neededParts_69
        · have c50 := tr_of c50
          refine aw_aload_n C dX8_neededParts_53 rfl rfl rfl ?_
          refine aw_getf C f_X8_209 (hS.D hd) rfl dX8_neededParts_54 rfl ?_
          rw [gb]
          refine aw_getf C f_X8_427 (hS.P hb) rfl dX8_neededParts_57 rfl ?_
          refine aw_if_eq (tgt := 68) C dX8_neededParts_60 (by decide) rfl (fun c60 => ?_) (fun c60 => ?_)
          · refine aw_iload_n C dX8_neededParts_68 rfl rfl rfl ?_
            exact aw_iret C rfl (Nat.le_of_ble_eq_true rfl) (Nat.le_of_ble_eq_true rfl) (PP.of (by unfold needs; rw [ga, gb]; simp [c11, c23, c46, c50, c60] <;> rfl)) dX8_neededParts_69
          · refine aw_iload_n C dX8_neededParts_63 rfl rfl rfl ?_
            refine aw_bipush (v := 16) C dX8_neededParts_64 rfl rfl ?_
            refine aw_ior C dX8_neededParts_66 rfl ?_
            refine aw_istore_n (ls' := [(2, _), (1, _), (0, _)]) C dX8_neededParts_67 rfl (by decide) rfl rfl ?_
            refine aw_iload_n C dX8_neededParts_68 rfl rfl rfl ?_
            exact aw_iret C rfl (Nat.le_of_ble_eq_true rfl) (Nat.le_of_ble_eq_true rfl) (PP.of (by unfold needs; rw [ga, gb]; simp [c11, c23, c46, c50, c60] <;> rfl)) dX8_neededParts_69
    · refine aw_aload_n C dX8_neededParts_26 rfl rfl rfl ?_
      refine aw_getf C f_X8_236 (hS.D hd) rfl dX8_neededParts_27 rfl ?_
      refine aw_iconst (v := 4) C dX8_neededParts_30 rfl rfl ?_
      refine aw_icmp_ne (tgt := 39) C dX8_neededParts_31 (by decide) rfl (fun c31 => ?_) (fun c31 => ?_)
      · refine aw_aload_n C dX8_neededParts_39 rfl rfl rfl ?_
        refine aw_getf C f_X8_206 (hS.D hd) rfl dX8_neededParts_40 rfl ?_
        rw [ga]
        refine aw_getf C f_X8_427 (hS.P ha) rfl dX8_neededParts_43 rfl ?_
        refine aw_if_ne (tgt := 63) C dX8_neededParts_46 (by decide) rfl (fun c46 => ?_) (fun c46 => ?_)
        · refine aw_iload_n C dX8_neededParts_63 rfl rfl rfl ?_
          refine aw_bipush (v := 16) C dX8_neededParts_64 rfl rfl ?_
          refine aw_ior C dX8_neededParts_66 rfl ?_
          refine aw_istore_n (ls' := [(2, _), (1, _), (0, _)]) C dX8_neededParts_67 rfl (by decide) rfl rfl ?_
          refine aw_iload_n C dX8_neededParts_68 rfl rfl rfl ?_
          exact aw_iret C rfl (Nat.le_of_ble_eq_true rfl) (Nat.le_of_ble_eq_true rfl) (PP.of (by unfold needs; rw [ga, gb]; simp [c11, c23, c31, c46] <;> rfl)) dX8_neededParts_69
        · refine aw_iload_n C dX8_neededParts_49 rfl rfl rfl ?_
          refine aw_if_eq (tgt := 68) C dX8_neededParts_50 (by decide) rfl (fun c50 => ?_) (fun c50 => ?_)
          · have c50 := fa_of c50
            refine aw_iload_n C dX8_neededParts_68 rfl rfl rfl ?_
            exact aw_iret C rfl (Nat.le_of_ble_eq_true rfl) (Nat.le_of_ble_eq_true rfl) (absurd (c11.symm.trans c50) (by decide)) dX8_neededParts_69
          · have c50 := tr_of c50
            refine aw_aload_n C dX8_neededParts_53 rfl rfl rfl ?_
            refine aw_getf C f_X8_209 (hS.D hd) rfl dX8_neededParts_54 rfl ?_
            rw [gb]
            refine aw_getf C f_X8_427 (hS.P hb) rfl dX8_neededParts_57 rfl ?_
            refine aw_if_eq (tgt := 68) C dX8_neededParts_60 (by decide) rfl (fun c60 => ?_) (fun c60 => ?_)
            · refine aw_iload_n C dX8_neededParts_68 rfl rfl rfl ?_
              exact aw_iret C rfl (Nat.le_of_ble_eq_true rfl) (Nat.le_of_ble_eq_true rfl) (PP.of (by unfold needs; rw [ga, gb]; simp [c11, c23, c31, c46, c50, c60] <;> rfl)) dX8_neededParts_69
            · refine aw_iload_n C dX8_neededParts_63 rfl rfl rfl ?_
              refine aw_bipush (v := 16) C dX8_neededParts_64 rfl rfl ?_
              refine aw_ior C dX8_neededParts_66 rfl ?_
              refine aw_istore_n (ls' := [(2, _), (1, _), (0, _)]) C dX8_neededParts_67 rfl (by decide) rfl rfl ?_
              refine aw_iload_n C dX8_neededParts_68 rfl rfl rfl ?_
              exact aw_iret C rfl (Nat.le_of_ble_eq_true rfl) (Nat.le_of_ble_eq_true rfl) (PP.of (by unfold needs; rw [ga, gb]; simp [c11, c23, c31, c46, c50, c60] <;> rfl)) dX8_neededParts_69
      · refine aw_iload_n C dX8_neededParts_34 rfl rfl rfl ?_
        refine aw_bipush (v := 8) C dX8_neededParts_35 rfl rfl ?_
        refine aw_ior C dX8_neededParts_37 rfl ?_
        refine aw_istore_n (ls' := [(2, _), (1, _), (0, _)]) C dX8_neededParts_38 rfl (by decide) rfl rfl ?_
        refine aw_aload_n C dX8_neededParts_39 rfl rfl rfl ?_
        refine aw_getf C f_X8_206 (hS.D hd) rfl dX8_neededParts_40 rfl ?_
        rw [ga]
        refine aw_getf C f_X8_427 (hS.P ha) rfl dX8_neededParts_43 rfl ?_
        refine aw_if_ne (tgt := 63) C dX8_neededParts_46 (by decide) rfl (fun c46 => ?_) (fun c46 => ?_)
        · refine aw_iload_n C dX8_neededParts_63 rfl rfl rfl ?_
          refine aw_bipush (v := 16) C dX8_neededParts_64 rfl rfl ?_
          refine aw_ior C dX8_neededParts_66 rfl ?_
          refine aw_istore_n (ls' := [(2, _), (1, _), (0, _)]) C dX8_neededParts_67 rfl (by decide) rfl rfl ?_
          refine aw_iload_n C dX8_neededParts_68 rfl rfl rfl ?_
          exact aw_iret C rfl (Nat.le_of_ble_eq_true rfl) (Nat.le_of_ble_eq_true rfl) (PP.of (by unfold needs; rw [ga, gb]; simp [c11, c23, c31, c46] <;> rfl)) dX8_neededParts_69
        · refine aw_iload_n C dX8_neededParts_49 rfl rfl rfl ?_
          refine aw_if_eq (tgt := 68) C dX8_neededParts_50 (by decide) rfl (fun c50 => ?_) (fun c50 => ?_)
          · have c50 := fa_of c50
            refine aw_iload_n C dX8_neededParts_68 rfl rfl rfl ?_
            exact aw_iret C rfl (Nat.le_of_ble_eq_true rfl) (Nat.le_of_ble_eq_true rfl) (absurd (c11.symm.trans c50) (by decide)) dX8_neededParts_69
          · have c50 := tr_of c50
            refine aw_aload_n C dX8_neededParts_53 rfl rfl rfl ?_
            refine aw_getf C f_X8_209 (hS.D hd) rfl dX8_neededParts_54 rfl ?_
            rw [gb]
            refine aw_getf C f_X8_427 (hS.P hb) rfl dX8_neededParts_57 rfl ?_
            refine aw_if_eq (tgt := 68) C dX8_neededParts_60 (by decide) rfl (fun c60 => ?_) (fun c60 => ?_)
            · refine aw_iload_n C dX8_neededParts_68 rfl rfl rfl ?_
              exact aw_iret C rfl (Nat.le_of_ble_eq_true rfl) (Nat.le_of_ble_eq_true rfl) (PP.of (by unfold needs; rw [ga, gb]; simp [c11, c23, c31, c46, c50, c60] <;> rfl)) dX8_neededParts_69
            · refine aw_iload_n C dX8_neededParts_63 rfl rfl rfl ?_
              refine aw_bipush (v := 16) C dX8_neededParts_64 rfl rfl ?_
              refine aw_ior C dX8_neededParts_66 rfl ?_
              refine aw_istore_n (ls' := [(2, _), (1, _), (0, _)]) C dX8_neededParts_67 rfl (by decide) rfl rfl ?_
              refine aw_iload_n C dX8_neededParts_68 rfl rfl rfl ?_
              exact aw_iret C rfl (Nat.le_of_ble_eq_true rfl) (Nat.le_of_ble_eq_true rfl) (PP.of (by unfold needs; rw [ga, gb]; simp [c11, c23, c31, c46, c50, c60] <;> rfl)) dX8_neededParts_69
set_option maxRecDepth 100000 in
theorem C_stateBy {g : Gx} {l : Launch} {ez : Nat} (G : GOK g l ez) {sg : Sg} {ad : Nat → Nat → Nat} {u : MU} {Y : GS} (hS : CS g ez ad u Y sg) (hI : CJ u) {d : Nat} (hd : d < u.2.2.1 10) : MM g l yX8_stateByParts cX8_stateByParts 2 (some .int) (rmC 3 0 0) sg [.ref (ad 4 d)] (PP sg (.int (stateBy u d))) (noX) := by
  refine MM.of G.1 G.2.1 (by decide) (Nat.le_of_ble_eq_true rfl) (fun x hg hlx C hin hout hargs => ?_)
  subst hg; subst hlx
  have C : AWC x cX8_stateByParts 2 RX8 (rmC 3 0 0) (some .int) := C
  show AW x (RQ x _ _ _ _) 0 0 sg 0 [(0, .ref (ad 4 d))] []
  refine aw_aload_n C dX8_stateByParts_0 rfl rfl rfl ?_
  refine aw_aload_n C dX8_stateByParts_1 rfl rfl rfl ?_
  refine cw_callSp C k_X8_424 (C_needs G hS hI hd) ⟨by decide, by decide⟩ rfl rfl (Nat.le_of_ble_eq_true rfl) (Nat.le_of_ble_eq_true rfl) (Nat.le_of_ble_eq_true rfl) dX8_stateByParts_2 rfl ?_
  refine cw_callVNp C k_X8_408 (C_hasAll G hS hd) ⟨by decide, by decide⟩ (ci := 2) rfl (hS.D hd) rfl rfl (Nat.le_of_ble_eq_true rfl) (Nat.le_of_ble_eq_true rfl) (Nat.le_of_ble_eq_true rfl) dX8_stateByParts_5 rfl ?_
  refine aw_if_eq (tgt := 13) C dX8_stateByParts_8 (by decide) rfl (fun c8 => ?_) (fun c8 => ?_)
  · have c8 := fa_of c8
    refine aw_aload_n C dX8_stateByParts_13 rfl rfl rfl ?_
    refine aw_getf C f_X8_236 (hS.D hd) rfl dX8_stateByParts_14 rfl ?_
    refine cw_callSp C k_X8_125 (C_isOfThing G) ⟨by decide, by decide⟩ rfl rfl (Nat.le_of_ble_eq_true rfl) (Nat.le_of_ble_eq_true rfl) (Nat.le_of_ble_eq_true rfl) dX8_stateByParts_17 rfl ?_
    rw [ofT_kd hI hd]
    refine aw_if_eq (tgt := 27) C dX8_stateByParts_20 (by decide) rfl (fun c20 => ?_) (fun c20 => ?_)
    · have c20 := fa_of c20
      refine aw_iconst (v := 1) C dX8_stateByParts_27 rfl rfl ?_
      refine aw_istore_n (ls' := [(1, _), (0, _)]) C dX8_stateByParts_28 rfl (by decide) rfl rfl ?_
      refine aw_aload_n C dX8_stateByParts_29 rfl rfl rfl ?_
      refine aw_iload_n C dX8_stateByParts_30 rfl rfl rfl ?_
      refine cw_callVNp C k_X8_408 (C_hasAll G hS hd) ⟨by decide, by decide⟩ (ci := 2) rfl (hS.D hd) rfl rfl (Nat.le_of_ble_eq_true rfl) (Nat.le_of_ble_eq_true rfl) (Nat.le_of_ble_eq_true rfl) dX8_stateByParts_31 rfl ?_
      refine aw_if_eq (tgt := 41) C dX8_stateByParts_34 (by decide) rfl (fun c34 => ?_) (fun c34 => ?_)
      · have c34 := fa_of c34
        refine aw_iconst (v := 3) C dX8_stateByParts_41 rfl rfl ?_
        exact aw_iret C rfl (Nat.le_of_ble_eq_true rfl) (Nat.le_of_ble_eq_true rfl) (PP.of (by unfold stateBy leastP; simp [(of_decide_eq_false c8), c20, (of_decide_eq_false c34)])) dX8_stateByParts_42
      · have c34 := tr_of c34
        refine aw_iconst (v := 2) C dX8_stateByParts_37 rfl rfl ?_
        refine aw_goto (tgt := 42) C dX8_stateByParts_38 (by decide) ?_
        exact aw_iret C rfl (Nat.le_of_ble_eq_true rfl) (Nat.le_of_ble_eq_true rfl) (PP.of (by unfold stateBy leastP; simp [(of_decide_eq_false c8), c20, (of_decide_eq_true c34)])) dX8_stateByParts_42
    · have c20 := tr_of c20
      refine aw_iconst (v := 3) C dX8_stateByParts_23 rfl rfl ?_
      refine aw_goto (tgt := 28) C dX8_stateByParts_24 (by decide) ?_
      refine aw_istore_n (ls' := [(1, _), (0, _)]) C dX8_stateByParts_28 rfl (by decide) rfl rfl ?_
      refine aw_aload_n C dX8_stateByParts_29 rfl rfl rfl ?_
      refine aw_iload_n C dX8_stateByParts_30 rfl rfl rfl ?_
      refine cw_callVNp C k_X8_408 (C_hasAll G hS hd) ⟨by decide, by decide⟩ (ci := 2) rfl (hS.D hd) rfl rfl (Nat.le_of_ble_eq_true rfl) (Nat.le_of_ble_eq_true rfl) (Nat.le_of_ble_eq_true rfl) dX8_stateByParts_31 rfl ?_
      refine aw_if_eq (tgt := 41) C dX8_stateByParts_34 (by decide) rfl (fun c34 => ?_) (fun c34 => ?_)
      · have c34 := fa_of c34
        refine aw_iconst (v := 3) C dX8_stateByParts_41 rfl rfl ?_
        exact aw_iret C rfl (Nat.le_of_ble_eq_true rfl) (Nat.le_of_ble_eq_true rfl) (PP.of (by unfold stateBy leastP; simp [(of_decide_eq_false c8), c20, (of_decide_eq_false c34)])) dX8_stateByParts_42
      · have c34 := tr_of c34
        refine aw_iconst (v := 2) C dX8_stateByParts_37 rfl rfl ?_
        refine aw_goto (tgt := 42) C dX8_stateByParts_38 (by decide) ?_
        exact aw_iret C rfl (Nat.le_of_ble_eq_true rfl) (Nat.le_of_ble_eq_true rfl) (PP.of (by unfold stateBy leastP; simp [(of_decide_eq_false c8), c20, (of_decide_eq_true c34)])) dX8_stateByParts_42
  · have c8 := tr_of c8
    refine aw_iconst (v := 1) C dX8_stateByParts_11 rfl rfl ?_
    exact aw_iret C rfl (Nat.le_of_ble_eq_true rfl) (Nat.le_of_ble_eq_true rfl) (PP.of (by unfold stateBy leastP; simp [(of_decide_eq_true c8)])) dX8_stateByParts_12
set_option maxRecDepth 100000 in
theorem C_kindLetter {g : Gx} {l : Launch} {ez : Nat} (G : GOK g l ez) {sg : Sg} {k : Nat} (hk : k ≤ 4) : MM g l yX8_kindLetter cX8_kindLetter 1 (some .char) (rmC 1 0 0) sg [.int (nI k)] (PP sg (.int (letter (nI k)))) (noX) := by
  refine MM.of G.1 G.2.1 (by decide) (Nat.le_of_ble_eq_true rfl) (fun x hg hlx C hin hout hargs => ?_)
  subst hg; subst hlx
  have C : AWC x cX8_kindLetter 1 RX8 (rmC 1 0 0) (some .char) := C
  show AW x (RQ x _ _ _ _) 0 0 sg 0 [(0, .int (nI k))] []
  match k, hk with
  | 0, _ =>
    refine aw_iload_n C dX8_kindLetter_0 rfl rfl rfl ?_
    refine aw_tableIn (tgt := 32) C dX8_kindLetter_1 (by decide) (by decide) rfl (by decide) ?_
    refine aw_bipush (v := 83) C dX8_kindLetter_32 rfl rfl ?_
    exact aw_iret C (by decide) (Nat.le_of_ble_eq_true rfl) (Nat.le_of_ble_eq_true rfl) (PP.of (by decide)) dX8_kindLetter_34
  | 1, _ =>
    refine aw_iload_n C dX8_kindLetter_0 rfl rfl rfl ?_
    refine aw_tableIn (tgt := 35) C dX8_kindLetter_1 (by decide) (by decide) rfl (by decide) ?_
    refine aw_bipush (v := 71) C dX8_kindLetter_35 rfl rfl ?_
    exact aw_iret C (by decide) (Nat.le_of_ble_eq_true rfl) (Nat.le_of_ble_eq_true rfl) (PP.of (by decide)) dX8_kindLetter_37
  | 2, _ =>
    refine aw_iload_n C dX8_kindLetter_0 rfl rfl rfl ?_
    refine aw_tableIn (tgt := 38) C dX8_kindLetter_1 (by decide) (by decide) rfl (by decide) ?_
    refine aw_bipush (v := 80) C dX8_kindLetter_38 rfl rfl ?_
    exact aw_iret C (by decide) (Nat.le_of_ble_eq_true rfl) (Nat.le_of_ble_eq_true rfl) (PP.of (by decide)) dX8_kindLetter_40
  | 3, _ =>
    refine aw_iload_n C dX8_kindLetter_0 rfl rfl rfl ?_
    refine aw_tableIn (tgt := 41) C dX8_kindLetter_1 (by decide) (by decide) rfl (by decide) ?_
    refine aw_bipush (v := 65) C dX8_kindLetter_41 rfl rfl ?_
    exact aw_iret C (by decide) (Nat.le_of_ble_eq_true rfl) (Nat.le_of_ble_eq_true rfl) (PP.of (by decide)) dX8_kindLetter_43
  | 4, _ =>
    refine aw_iload_n C dX8_kindLetter_0 rfl rfl rfl ?_
    refine aw_tableOut (tgt := 44) C dX8_kindLetter_1 (by decide) (by decide) ?_
    refine aw_bipush (v := 87) C dX8_kindLetter_44 rfl rfl ?_
    exact aw_iret C (by decide) (Nat.le_of_ble_eq_true rfl) (Nat.le_of_ble_eq_true rfl) (PP.of (by decide)) dX8_kindLetter_46
  | _ + 5, hk => omega
set_option maxRecDepth 100000 in
theorem C_stateLetter {g : Gx} {l : Launch} {ez : Nat} (G : GOK g l ez) {sg : Sg} {k : Int32} : MM g l yX8_stateLetter cX8_stateLetter 1 (some .char) (rmC 1 0 0) sg [.int k] (PP sg (.int (if k = 1 then 102 else if k = 2 then 108 else 118))) (noX) := by
  refine MM.of G.1 G.2.1 (by decide) (Nat.le_of_ble_eq_true rfl) (fun x hg hlx C hin hout hargs => ?_)
  subst hg; subst hlx
  have C : AWC x cX8_stateLetter 1 RX8 (rmC 1 0 0) (some .char) := C
  show AW x (RQ x _ _ _ _) 0 0 sg 0 [(0, .int k)] []
  refine aw_iload_n C dX8_stateLetter_0 rfl rfl rfl ?_
  by_cases h1 : k = 1
  · subst h1
    refine aw_lookup (off := 27) (tgt := 28) C dX8_stateLetter_1 (by decide) (by decide) (by decide) ?_
    refine aw_bipush (v := 102) C dX8_stateLetter_28 rfl rfl ?_
    exact aw_iret C (by decide) (Nat.le_of_ble_eq_true rfl) (Nat.le_of_ble_eq_true rfl) (PP.of (by decide)) dX8_stateLetter_30
  by_cases h2 : k = 2
  · subst h2
    refine aw_lookup (off := 30) (tgt := 31) C dX8_stateLetter_1 (by decide) (by decide) (by decide) ?_
    refine aw_bipush (v := 108) C dX8_stateLetter_31 rfl rfl ?_
    exact aw_iret C (by decide) (Nat.le_of_ble_eq_true rfl) (Nat.le_of_ble_eq_true rfl) (PP.of (by decide)) dX8_stateLetter_33
  refine aw_lookup (off := 33) (tgt := 34) C dX8_stateLetter_1 (by decide) (by simp [Op.lookupswitch.offset, show ¬ 1 = k.toInt from fun z => h1 (by rw [← Int32.toInt_inj, ← z]; decide), show ¬ 2 = k.toInt from fun z => h2 (by rw [← Int32.toInt_inj, ← z]; decide)]) (by decide) ?_
  refine aw_bipush (v := 118) C dX8_stateLetter_34 rfl rfl ?_
  exact aw_iret C (by decide) (Nat.le_of_ble_eq_true rfl) (Nat.le_of_ble_eq_true rfl) (PP.of (by rw [if_neg h1, if_neg h2])) dX8_stateLetter_36
