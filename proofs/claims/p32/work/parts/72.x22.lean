/-! the class: entering -/
def rdy (u : MU) (d : Nat) : Bool := inB (u.1 11 d) 0 2 && (decide (u.1 22 d = 1) && (decide (u.1 25 d = -1) && (!decide (least u d = -1) && (!decide (1 < least u d) && (decide (u.1 6 (u.1 12 d).toNatClampNeg = 0) && decide (u.1 6 (u.1 13 d).toNatClampNeg = 0))))))
theorem not_le1 {x : Int32} (h : x ≤ 1) : ¬ 1 < x := Int32.not_lt.mpr h
set_option maxRecDepth 100000 in
theorem C_isReady {g : Gx} {l : Launch} {ez : Nat} (G : GOK g l ez) {sg : Sg} {ad : Nat → Nat → Nat} {u : MU} {Y : GS} (hS : CS g ez ad u Y sg) {N : Nat} (hI : CI N u) {d : Nat} (hd : d < u.2.2.1 10) : MM g l yX8_isReadyToEnter cX8_isReadyToEnter 2 (some .boolean) (rmC 3 0 0) sg [.ref (ad 4 d)] (PP sg (.int (b2i (rdy u d)))) (noX) := by
  refine MM.of G.1 G.2.1 (by decide) (Nat.le_of_ble_eq_true rfl) (fun x hg hlx C hin hout hargs => ?_)
  subst hg; subst hlx
  have C : AWC x cX8_isReadyToEnter 2 RX8 (rmC 3 0 0) (some .boolean) := C
  show AW x (RQ x _ _ _ _) 0 0 sg 0 [(0, .ref (ad 4 d))] []
  obtain ⟨⟨a, ha, ea⟩, b, hb, eb⟩ := hI.gt hd
  have h12 := hI.n2
  have ga : (u.1 12 d).toNatClampNeg = a := by rw [ea, nI_clamp (by omega)]
  have gb : (u.1 13 d).toNatClampNeg = b := by rw [eb, nI_clamp (by omega)]
  refine aw_aload_n C dX8_isReadyToEnter_0 rfl rfl rfl ?_
  refine aw_getf C f_X8_224 (hS.D hd) rfl dX8_isReadyToEnter_1 rfl ?_
  refine cw_callVNp C k_X8_286 (C_least G hS hd) ⟨by decide, by decide⟩ (ci := 6) rfl (hS.Pp hd) rfl rfl (Nat.le_of_ble_eq_true rfl) (Nat.le_of_ble_eq_true rfl) (Nat.le_of_ble_eq_true rfl) dX8_isReadyToEnter_4 rfl ?_
  refine aw_istore_n (ls' := [(1, _), (0, _)]) C dX8_isReadyToEnter_7 rfl (by decide) rfl rfl ?_
  refine aw_aload_n C dX8_isReadyToEnter_8 rfl rfl rfl ?_
  refine aw_getf C f_X8_236 (hS.D hd) rfl dX8_isReadyToEnter_9 rfl ?_
  refine cw_callSp C k_X8_125 (C_isOfThing G (v := u.1 11 d)) ⟨by decide, by decide⟩ rfl rfl (Nat.le_of_ble_eq_true rfl) (Nat.le_of_ble_eq_true rfl) (Nat.le_of_ble_eq_true rfl) dX8_isReadyToEnter_12 rfl ?_
  refine aw_if_eq (tgt := 68) C dX8_isReadyToEnter_15 (by decide) rfl (fun c15 => ?_) (fun c15 => ?_)
  · have c15 := fa_of c15
    refine aw_iconst (v := 0) C dX8_isReadyToEnter_68 rfl rfl ?_
    exact aw_iret C (by decide) (Nat.le_of_ble_eq_true rfl) (Nat.le_of_ble_eq_true rfl) (PP.of (by simp_all [rdy, b2i])) dX8_isReadyToEnter_69
  · have c15 := tr_of c15
    refine aw_aload_n C dX8_isReadyToEnter_18 rfl rfl rfl ?_
    refine aw_getf C f_X8_221 (hS.D hd) rfl dX8_isReadyToEnter_19 rfl ?_
    refine aw_iconst (v := 1) C dX8_isReadyToEnter_22 rfl rfl ?_
    refine aw_icmp_ne (tgt := 68) C dX8_isReadyToEnter_23 (by decide) rfl (fun c23 => ?_) (fun c23 => ?_)
    · refine aw_iconst (v := 0) C dX8_isReadyToEnter_68 rfl rfl ?_
      exact aw_iret C (by decide) (Nat.le_of_ble_eq_true rfl) (Nat.le_of_ble_eq_true rfl) (PP.of (by simp_all [rdy, b2i])) dX8_isReadyToEnter_69
    · refine aw_aload_n C dX8_isReadyToEnter_26 rfl rfl rfl ?_
      refine aw_getf C f_X8_239 (hS.D hd) rfl dX8_isReadyToEnter_27 rfl ?_
      refine aw_iconst (v := -1) C dX8_isReadyToEnter_30 rfl rfl ?_
      refine aw_icmp_ne (tgt := 68) C dX8_isReadyToEnter_31 (by decide) rfl (fun c31 => ?_) (fun c31 => ?_)
      · refine aw_iconst (v := 0) C dX8_isReadyToEnter_68 rfl rfl ?_
        exact aw_iret C (by decide) (Nat.le_of_ble_eq_true rfl) (Nat.le_of_ble_eq_true rfl) (PP.of (by simp_all [rdy, b2i])) dX8_isReadyToEnter_69
      · refine aw_iload_n C dX8_isReadyToEnter_34 rfl rfl rfl ?_
        refine aw_iconst (v := -1) C dX8_isReadyToEnter_35 rfl rfl ?_
        refine aw_icmp_eq (tgt := 68) C dX8_isReadyToEnter_36 (by decide) rfl (fun c36 => ?_) (fun c36 => ?_)
        · refine aw_iconst (v := 0) C dX8_isReadyToEnter_68 rfl rfl ?_
          exact aw_iret C (by decide) (Nat.le_of_ble_eq_true rfl) (Nat.le_of_ble_eq_true rfl) (PP.of (by simp_all [rdy, b2i])) dX8_isReadyToEnter_69
        · refine aw_iload_n C dX8_isReadyToEnter_39 rfl rfl rfl ?_
          refine aw_iconst (v := 1) C dX8_isReadyToEnter_40 rfl rfl ?_
          refine aw_icmp_gt (tgt := 68) C dX8_isReadyToEnter_41 (by decide) rfl (fun c41 => ?_) (fun c41 => ?_)
          · refine aw_iconst (v := 0) C dX8_isReadyToEnter_68 rfl rfl ?_
            exact aw_iret C (by decide) (Nat.le_of_ble_eq_true rfl) (Nat.le_of_ble_eq_true rfl) (PP.of (by simp_all [rdy, b2i])) dX8_isReadyToEnter_69
          · refine aw_aload_n C dX8_isReadyToEnter_44 rfl rfl rfl ?_
            refine aw_getf C f_X8_206 (hS.D hd) rfl dX8_isReadyToEnter_45 rfl ?_
            rw [ga]
            refine aw_getf C f_X8_96 (hS.P ha) rfl dX8_isReadyToEnter_48 rfl ?_
            refine aw_if_eq (tgt := 68) C dX8_isReadyToEnter_51 (by decide) rfl (fun c51 => ?_) (fun c51 => ?_)
            · have c51 := fa_of c51
              refine aw_iconst (v := 0) C dX8_isReadyToEnter_68 rfl rfl ?_
              exact aw_iret C (by decide) (Nat.le_of_ble_eq_true rfl) (Nat.le_of_ble_eq_true rfl) (PP.of (by simp_all [rdy, b2i])) dX8_isReadyToEnter_69
            · have c51 := tr_of c51
              refine aw_aload_n C dX8_isReadyToEnter_54 rfl rfl rfl ?_
              refine aw_getf C f_X8_209 (hS.D hd) rfl dX8_isReadyToEnter_55 rfl ?_
              rw [gb]
              refine aw_getf C f_X8_96 (hS.P hb) rfl dX8_isReadyToEnter_58 rfl ?_
              refine aw_if_eq (tgt := 68) C dX8_isReadyToEnter_61 (by decide) rfl (fun c61 => ?_) (fun c61 => ?_)
              · have c61 := fa_of c61
                refine aw_iconst (v := 0) C dX8_isReadyToEnter_68 rfl rfl ?_
                exact aw_iret C (by decide) (Nat.le_of_ble_eq_true rfl) (Nat.le_of_ble_eq_true rfl) (PP.of (by simp_all [rdy, b2i])) dX8_isReadyToEnter_69
              · have c61 := tr_of c61
                refine aw_iconst (v := 1) C dX8_isReadyToEnter_64 rfl rfl ?_
                refine aw_goto (tgt := 69) C dX8_isReadyToEnter_65 (by decide) ?_
                exact aw_iret C (by decide) (Nat.le_of_ble_eq_true rfl) (Nat.le_of_ble_eq_true rfl) (PP.of (by simp_all [rdy, b2i])) dX8_isReadyToEnter_69
set_option maxRecDepth 100000 in
theorem C_moveOf {g : Gx} {l : Launch} {ez : Nat} (G : GOK g l ez) {sg : Sg} {ad : Nat → Nat → Nat} {u : MU} {Y : GS} (hS : CS g ez ad u Y sg) {N : Nat} (hI : CI N u) {d : Nat} (hd : d < u.2.2.1 10) (h3 : ¬ u.1 11 d = 3) : MM g l yX8_moveOf cX8_moveOf 1 (some (.object "DeedProtocol$Move")) (rmC 3 1 5) sg [.ref (ad 4 d)] (fun v s' => (u.1 11 d = 2 ∧ v = some .null ∧ s' = sg) ∨ (¬ u.1 11 d = 2 ∧ ∃ q, v = some (.ref q) ∧ sg q = none ∧ s' q = some (ob 5 (vcl (u.1 12 d, u.1 13 d, u.1 15 d, u.1 16 d, 0))) ∧ ∀ c, c ≠ q → s' c = sg c)) (noX) := by
  refine MM.of G.1 G.2.1 (by decide) (Nat.le_of_ble_eq_true rfl) (fun x hg hlx C hin hout hargs => ?_)
  subst hg; subst hlx
  have C : AWC x cX8_moveOf 1 RX8 (rmC 3 1 5) (some (.object "DeedProtocol$Move")) := C
  show AW x (RQ x _ _ _ _) 0 0 sg 0 [(0, .ref (ad 4 d))] []
  obtain ⟨⟨a, ha, ea⟩, b, hb, eb⟩ := hI.gt hd
  have h12 := hI.n2
  have ga : (u.1 12 d).toNatClampNeg = a := by rw [ea, nI_clamp (by omega)]
  have gb : (u.1 13 d).toNatClampNeg = b := by rw [eb, nI_clamp (by omega)]
  refine aw_aload_n C dX8_moveOf_0 rfl rfl rfl ?_
  refine aw_getf C f_X8_236 (hS.D hd) rfl dX8_moveOf_1 rfl ?_
  refine aw_iconst (v := 2) C dX8_moveOf_4 rfl rfl ?_
  refine aw_icmp_ne (tgt := 10) C dX8_moveOf_5 (by decide) rfl (fun c5 => ?_) (fun c5 => ?_)
  · refine aw_new (fs := [.int 0, .int 0, .int 0, .int 0, .int 0]) C cf_X3 h_X8_446 h_new_X3 h_ini_X3 (fun j hj => match j, hj with | 0, _ => rfl | 1, _ => rfl | 2, _ => rfl | 3, _ => rfl | 4, _ => rfl | _ + 5, h => absurd h (by omega)) (Nat.le_of_ble_eq_true rfl) (Nat.le_of_ble_eq_true rfl) dX8_moveOf_10 rfl (fun q hq => ?_)
    have hS0 := hS.ext (fr_new (e := ob 5 [.int 0, .int 0, .int 0, .int 0, .int 0]) hq)
    have hqf := hq
    refine aw_dup C dX8_moveOf_13 rfl rfl ?_
    refine aw_aload_n C dX8_moveOf_14 rfl rfl rfl ?_
    refine aw_getf C f_X8_206 (hS0.D hd) rfl dX8_moveOf_15 rfl ?_
    rw [ga]
    refine aw_getf C f_X8_68 (hS0.P ha) rfl dX8_moveOf_18 rfl ?_
    refine aw_aload_n C dX8_moveOf_21 rfl rfl rfl ?_
    refine aw_getf C f_X8_209 (hS0.D hd) rfl dX8_moveOf_22 rfl ?_
    rw [gb]
    refine aw_getf C f_X8_68 (hS0.P hb) rfl dX8_moveOf_25 rfl ?_
    refine aw_aload_n C dX8_moveOf_28 rfl rfl rfl ?_
    refine aw_getf C f_X8_310 (hS0.D hd) rfl dX8_moveOf_29 rfl ?_
    rw [if_neg h3]
    refine aw_aload_n C dX8_moveOf_32 rfl rfl rfl ?_
    refine aw_getf C f_X8_313 (hS0.D hd) rfl dX8_moveOf_33 rfl ?_
    rw [if_neg h3]
    refine aw_iconst (v := 0) C dX8_moveOf_36 rfl rfl ?_
    refine aw_callIN C k_X8_448 (C_iMove G (m := (nI a, nI b, u.1 15 d, u.1 16 d, 0)) sgu_s) ⟨by decide, by decide⟩ rfl rfl (Nat.le_of_ble_eq_true rfl) (Nat.le_of_ble_eq_true rfl) (Nat.le_of_ble_eq_true rfl) dX8_moveOf_37 rfl (fun _ _ q => ax_no q) (fun v1 s1 hq => ?_)
    obtain ⟨rfl, hq1, hfr1⟩ := hq
    exact aw_aret (r := some _) C (Or.inl ⟨_, rfl⟩) (Nat.le_of_ble_eq_true rfl) (Nat.le_of_ble_eq_true rfl) (Or.inr ⟨c5, q, rfl, hqf, (by rw [← ea, ← eb] at hq1; exact hq1), fun c hc => (hfr1 c hc).trans (sgu_n hc)⟩) dX8_moveOf_40
  · refine aw_null C dX8_moveOf_8 rfl ?_
    exact aw_aret (r := none) C (Or.inl ⟨_, rfl⟩) (Nat.le_of_ble_eq_true rfl) (Nat.le_of_ble_eq_true rfl) (Or.inl ⟨c5, rfl, rfl⟩) dX8_moveOf_9
set_option maxRecDepth 100000 in
theorem C_dutyOf {g : Gx} {l : Launch} {ez : Nat} (G : GOK g l ez) {sg : Sg} {ad : Nat → Nat → Nat} {u : MU} {Y : GS} (hS : CS g ez ad u Y sg) {N : Nat} (hI : CI N u) {d : Nat} (hd : d < u.2.2.1 10) {t wv x0 y0 : Nat} (ht : t < u.2.2.1 31) (hv : u.1 32 t = nI wv) (hwv : wv ≤ 1000000) (e15 : u.1 15 d = nI x0) (e16 : u.1 16 d = nI y0) (h1 : 1 ≤ x0) (h2 : x0 ≤ y0) (h3 : y0 ≤ 100) (hk : u.1 11 d = 0 ∨ u.1 11 d = 1 ∨ u.1 11 d = 2) : MM g l yX8_dutyOf cX8_dutyOf 4 (some .long) (rmC 4 0 0) sg [.ref (ad 4 d), .ref (ad 8 t)] (PP sg (.long (lN (wv * x0 / y0 / (if u.1 11 d = 0 then 20 else if u.1 11 d = 2 then 100 else if isKin u (u.1 12 d).toNatClampNeg (u.1 13 d).toNatClampNeg = true then 50 else 10))))) (noX) := by
  refine MM.of G.1 G.2.1 (by decide) (Nat.le_of_ble_eq_true rfl) (fun x hg hlx C hin hout hargs => ?_)
  subst hg; subst hlx
  have C : AWC x cX8_dutyOf 4 RX8 (rmC 4 0 0) (some .long) := C
  show AW x (RQ x _ _ _ _) 0 0 sg 0 [(0, .ref (ad 4 d)), (1, .ref (ad 8 t))] []
  obtain ⟨⟨a, ha, ea⟩, b, hb, eb⟩ := hI.gt hd
  have h12 := hI.n2
  have ga : (u.1 12 d).toNatClampNeg = a := by rw [ea, nI_clamp (by omega)]
  have gb : (u.1 13 d).toNatClampNeg = b := by rw [eb, nI_clamp (by omega)]
  have n3 : ¬ u.1 11 d = 3 := by rcases hk with e | e | e <;> rw [e] <;> decide
  have mb : wv * x0 ≤ 1000000 * 100 := Nat.mul_le_mul hwv (by omega)
  have mb2 : wv * x0 / y0 < 2 ^ 62 := by have := Nat.div_le_self (wv * x0) y0; omega
  refine aw_aload_n C dX8_dutyOf_0 rfl rfl rfl ?_
  refine aw_getf C f_X8_313 (hS.D hd) rfl dX8_dutyOf_1 rfl ?_
  rw [if_neg n3, e16]
  refine aw_iconst (v := 1) C dX8_dutyOf_4 rfl rfl ?_
  refine aw_icmp_ge (tgt := 10) C dX8_dutyOf_5 (by decide) rfl (fun c5 => ?_) (fun c5 => ?_)
  · refine aw_aload_n C dX8_dutyOf_10 rfl rfl rfl ?_
    refine aw_getf C f_X8_458 (hS.T ht) rfl dX8_dutyOf_11 rfl ?_
    rw [hv]
    refine aw_i2l C dX8_dutyOf_14 rfl ?_
    rw [nI_l (by omega)]
    refine aw_aload_n C dX8_dutyOf_15 rfl rfl rfl ?_
    refine aw_getf C f_X8_310 (hS.D hd) rfl dX8_dutyOf_16 rfl ?_
    rw [if_neg n3, e15]
    refine aw_i2l C dX8_dutyOf_19 rfl ?_
    rw [nI_l (by omega)]
    refine aw_lmul C dX8_dutyOf_20 rfl ?_
    rw [lN_mul]
    refine aw_aload_n C dX8_dutyOf_21 rfl rfl rfl ?_
    refine aw_getf C f_X8_313 (hS.D hd) rfl dX8_dutyOf_22 rfl ?_
    rw [if_neg n3, e16]
    refine aw_i2l C dX8_dutyOf_25 rfl ?_
    rw [nI_l (by omega)]
    refine aw_ldiv C dX8_dutyOf_26 (fun z => by have h9 := congrArg Int64.toInt z; rw [pk_lT (by omega)] at h9; have h0 : (0 : Int64).toInt = 0 := (by decide); omega) rfl ?_
    rw [pk_lDiv (by omega) (by omega) (by omega)]
    refine aw_lstore_n (ls' := [(2, _), (0, _), (1, _)]) C dX8_dutyOf_27 rfl (by decide) rfl rfl ?_
    refine aw_aload_n C dX8_dutyOf_28 rfl rfl rfl ?_
    refine aw_getf C f_X8_236 (hS.D hd) rfl dX8_dutyOf_29 rfl ?_
    rcases hk with hk | hk | hk
    · refine aw_lookup (off := 28) (tgt := 60) C dX8_dutyOf_32 (by decide) (by rw [hk]; decide) (by decide) ?_
      refine aw_lload_n C dX8_dutyOf_60 rfl rfl rfl ?_
      refine aw_ldc2 C dX8_dutyOf_61 q_X8_461 rfl ?_
      refine aw_ldiv C dX8_dutyOf_64 (by decide) rfl ?_
      rw [show (20 : Int64) = lN 20 from rfl, pk_lDiv (by omega) (by decide) (by decide)]
      exact aw_lret C (Nat.le_of_ble_eq_true rfl) (Nat.le_of_ble_eq_true rfl) (PP.of (by rw [if_pos hk])) dX8_dutyOf_65
    · refine aw_lookup (off := 34) (tgt := 66) C dX8_dutyOf_32 (by decide) (by rw [hk]; decide) (by decide) ?_
      refine aw_lload_n C dX8_dutyOf_66 rfl rfl rfl ?_
      refine aw_aload_n C dX8_dutyOf_67 rfl rfl rfl ?_
      refine aw_getf C f_X8_206 (hS.D hd) rfl dX8_dutyOf_68 rfl ?_
      rw [ga]
      refine aw_aload_n C dX8_dutyOf_71 rfl rfl rfl ?_
      refine aw_getf C f_X8_209 (hS.D hd) rfl dX8_dutyOf_72 rfl ?_
      rw [gb]
      refine cw_callSp C k_X8_420 (C_areKin G hS hI ha hb) ⟨by decide, by decide⟩ rfl rfl (Nat.le_of_ble_eq_true rfl) (Nat.le_of_ble_eq_true rfl) (Nat.le_of_ble_eq_true rfl) dX8_dutyOf_75 rfl ?_
      refine aw_if_eq (tgt := 86) C dX8_dutyOf_78 (by decide) rfl (fun c78 => ?_) (fun c78 => ?_)
      · have c78 := fa_of c78
        refine aw_bipush (v := 10) C dX8_dutyOf_86 rfl rfl ?_
        refine aw_i2l C dX8_dutyOf_88 rfl ?_
        rw [show (10 : Int32).toInt64 = lN 10 from rfl]
        refine aw_ldiv C dX8_dutyOf_89 (by decide) rfl ?_
        rw [pk_lDiv (by omega) (by decide) (by decide)]
        exact aw_lret C (Nat.le_of_ble_eq_true rfl) (Nat.le_of_ble_eq_true rfl) (PP.of (by rw [if_neg (by rw [hk]; decide), if_neg (by rw [hk]; decide), if_neg (by rw [c78]; decide)])) dX8_dutyOf_90
      · have c78 := tr_of c78
        refine aw_bipush (v := 50) C dX8_dutyOf_81 rfl rfl ?_
        refine aw_goto (tgt := 88) C dX8_dutyOf_83 (by decide) ?_
        refine aw_i2l C dX8_dutyOf_88 rfl ?_
        rw [show (50 : Int32).toInt64 = lN 50 from rfl]
        refine aw_ldiv C dX8_dutyOf_89 (by decide) rfl ?_
        rw [pk_lDiv (by omega) (by decide) (by decide)]
        exact aw_lret C (Nat.le_of_ble_eq_true rfl) (Nat.le_of_ble_eq_true rfl) (PP.of (by rw [if_neg (by rw [hk]; decide), if_neg (by rw [hk]; decide), if_pos c78])) dX8_dutyOf_90
    · refine aw_lookup (off := 59) (tgt := 91) C dX8_dutyOf_32 (by decide) (by rw [hk]; decide) (by decide) ?_
      refine aw_lload_n C dX8_dutyOf_91 rfl rfl rfl ?_
      refine aw_ldc2 C dX8_dutyOf_92 q_X8_463 rfl ?_
      refine aw_ldiv C dX8_dutyOf_95 (by decide) rfl ?_
      rw [show (100 : Int64) = lN 100 from rfl, pk_lDiv (by omega) (by decide) (by decide)]
      exact aw_lret C (Nat.le_of_ble_eq_true rfl) (Nat.le_of_ble_eq_true rfl) (PP.of (by rw [if_neg (by rw [hk]; decide), if_pos hk])) dX8_dutyOf_96
  · exact absurd (show (1 : Int32) ≤ nI y0 from (by rw [show (1 : Int32) = nI 1 from rfl, nI_leI (by decide) (by omega)]; omega)) c5
