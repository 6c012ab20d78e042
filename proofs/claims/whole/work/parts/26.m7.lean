set_option maxRecDepth 100000 in
theorem M_entry {g : Gx} {l : Launch} (hl : l.flags = flags0) (hst : g.Stable) {ad : Nat → Nat} {th : Int32} {u : MU} {sg : Sg} (hM : MS g ad th u sg) (hW : WN u) {v w : Int32} : MM g l yX9_entry cX9_entry 3 (some .int) (rmM 2) sg [.ref (ad 0), .int v, .int w] (PO g ad sg (opEntry u v w)) noX := by
  refine MM.of hl hst (by decide) (Nat.le_of_ble_eq_true rfl) (fun x hg hlx C hin hout hargs => ?_)
  subst hg; subst hlx
  have C : AWC x cX9_entry 3 RX9 (rmM 2) (some .int) := C
  have hF : MF ad sg sg := MF.rf
  show AW x (RQ x _ _ _ _) 0 0 sg 0 [(0, .ref (ad 0)), (1, .int v), (2, .int w)] []
  refine aw_aload_n C dX9_entry_0 rfl rfl rfl ?_
  refine aw_iload_n C dX9_entry_1 rfl rfl rfl ?_
  refine aw_iconst (v := 0) C dX9_entry_2 rfl rfl ?_
  refine aw_aload_n C dX9_entry_3 rfl rfl rfl ?_
  refine aw_getf C f_X9_201 hM.1 rfl dX9_entry_4 rfl ?_
  refine aw_iconst (v := 1) C dX9_entry_7 rfl rfl ?_
  refine aw_isub C dX9_entry_8 rfl ?_
  refine mw_callSp C k_X9_124 (M_in hl hst) ⟨by decide, by decide⟩ rfl rfl (Nat.le_of_ble_eq_true rfl) dX9_entry_9 rfl ?_
  refine aw_if_ne (tgt := 19) C dX9_entry_12 (by decide) rfl (fun c12 => ?_) (fun c12 => ?_)
  · have c12 := tr_of c12
    refine aw_iload_n C dX9_entry_19 rfl rfl rfl ?_
    refine aw_iconst (v := 0) C dX9_entry_20 rfl rfl ?_
    refine aw_iconst (v := 3) C dX9_entry_21 rfl rfl ?_
    refine mw_callSp C k_X9_124 (M_in hl hst) ⟨by decide, by decide⟩ rfl rfl (Nat.le_of_ble_eq_true rfl) dX9_entry_22 rfl ?_
    refine aw_if_ne (tgt := 32) C dX9_entry_25 (by decide) rfl (fun c25 => ?_) (fun c25 => ?_)
    · have c25 := tr_of c25
      refine aw_iconst (v := 0) C dX9_entry_32 rfl rfl ?_
      refine mw_put (th' := _) (u' := _) C hM hF f_X9_117 rfl rfl rfl rfl rfl rfl dX9_entry_33 rfl (fun sg hM hF => ?_)
      refine aw_aload_n C dX9_entry_36 rfl rfl rfl ?_
      refine aw_getf C f_X9_117 hM.1 rfl dX9_entry_37 rfl ?_
      refine aw_if_le (tgt := 45) C dX9_entry_40 (by decide) rfl (fun _ => ?_) (fun h => by first | exact absurd h (by decide) | exact absurd (by decide) h)
      obtain ⟨p, hp, rfl⟩ := inB_of (n := u.2.2.1 35) (by have := hW.2.2.2.2; omega) c12
      have hp100 : p < 100 := by have := hW.2.2.2.2; omega
      have hpc := clampI (n := p) (by omega)
      refine aw_iload_n C dX9_entry_45 rfl rfl rfl ?_
      refine aw_if_ne (tgt := 58) C dX9_entry_46 (by decide) rfl (fun c46 => ?_) (fun c46 => ?_)
      · refine aw_iload_n C dX9_entry_58 rfl rfl rfl ?_
        refine aw_iconst (v := 1) C dX9_entry_59 rfl rfl ?_
        refine aw_icmp_ne (tgt := 72) C dX9_entry_60 (by decide) rfl (fun c60 => ?_) (fun c60 => ?_)
        · refine aw_iload_n C dX9_entry_72 rfl rfl rfl ?_
          refine aw_iconst (v := 2) C dX9_entry_73 rfl rfl ?_
          refine aw_icmp_ne (tgt := 86) C dX9_entry_74 (by decide) rfl (fun c74 => ?_) (fun c74 => ?_)
          · refine aw_aload_n C dX9_entry_86 rfl rfl rfl ?_
            refine aw_getf C f_X9_108 hM.1 rfl dX9_entry_87 rfl ?_
            refine aw_iload_n C dX9_entry_90 rfl rfl rfl ?_
            refine mw_iald (k := 39) (N := 100) C hM rfl rfl rfl (by omega) dX9_entry_91 rfl ?_
            exact aw_iret C rfl (Nat.le_refl _) (Nat.le_refl _) (PO.of (by rw [opEntry, isEn, if_neg (by simp [c12]), if_neg (by simp [c25]), hpc, if_neg c46, if_neg c60, if_neg c74]) hM hF) dX9_entry_92
          · refine aw_aload_n C dX9_entry_77 rfl rfl rfl ?_
            refine aw_getf C f_X9_105 hM.1 rfl dX9_entry_78 rfl ?_
            refine aw_iload_n C dX9_entry_81 rfl rfl rfl ?_
            refine mw_iald (k := 38) (N := 100) C hM rfl rfl rfl (by omega) dX9_entry_82 rfl ?_
            refine aw_goto (tgt := 92) C dX9_entry_83 (by decide) ?_
            exact aw_iret C rfl (Nat.le_refl _) (Nat.le_refl _) (PO.of (by rw [opEntry, isEn, if_neg (by simp [c12]), if_neg (by simp [c25]), hpc, if_neg c46, if_neg c60, if_pos c74]) hM hF) dX9_entry_92
        · refine aw_aload_n C dX9_entry_63 rfl rfl rfl ?_
          refine aw_getf C f_X9_102 hM.1 rfl dX9_entry_64 rfl ?_
          refine aw_iload_n C dX9_entry_67 rfl rfl rfl ?_
          refine mw_iald (k := 37) (N := 100) C hM rfl rfl rfl (by omega) dX9_entry_68 rfl ?_
          refine aw_goto (tgt := 92) C dX9_entry_69 (by decide) ?_
          exact aw_iret C rfl (Nat.le_refl _) (Nat.le_refl _) (PO.of (by rw [opEntry, isEn, if_neg (by simp [c12]), if_neg (by simp [c25]), hpc, if_neg c46, if_pos c60]) hM hF) dX9_entry_92
      · refine aw_aload_n C dX9_entry_49 rfl rfl rfl ?_
        refine aw_getf C f_X9_99 hM.1 rfl dX9_entry_50 rfl ?_
        refine aw_iload_n C dX9_entry_53 rfl rfl rfl ?_
        refine mw_iald (k := 36) (N := 100) C hM rfl rfl rfl (by omega) dX9_entry_54 rfl ?_
        refine aw_goto (tgt := 92) C dX9_entry_55 (by decide) ?_
        exact aw_iret C rfl (Nat.le_refl _) (Nat.le_refl _) (PO.of (by rw [opEntry, isEn, if_neg (by simp [c12]), if_neg (by simp [c25]), hpc, if_pos c46]) hM hF) dX9_entry_92
    · have c25 := fa_of c25
      refine aw_iconst (v := 2) C dX9_entry_28 rfl rfl ?_
      refine aw_goto (tgt := 33) C dX9_entry_29 (by decide) ?_
      refine mw_put (th' := _) (u' := _) C hM hF f_X9_117 rfl rfl rfl rfl rfl rfl dX9_entry_33 rfl (fun sg hM hF => ?_)
      refine aw_aload_n C dX9_entry_36 rfl rfl rfl ?_
      refine aw_getf C f_X9_117 hM.1 rfl dX9_entry_37 rfl ?_
      refine aw_if_le (tgt := 45) C dX9_entry_40 (by decide) rfl (fun h => by first | exact absurd h (by decide) | exact absurd (by decide) h) (fun _ => ?_)
      refine aw_iconst (v := 0) C dX9_entry_43 rfl rfl ?_
      exact aw_iret C rfl (Nat.le_refl _) (Nat.le_refl _) (PO.of (by simp [opEntry, isEn, c12, c25]) hM hF) dX9_entry_44
  · have c12 := fa_of c12
    refine aw_iconst (v := 1) C dX9_entry_15 rfl rfl ?_
    refine aw_goto (tgt := 33) C dX9_entry_16 (by decide) ?_
    refine mw_put (th' := _) (u' := _) C hM hF f_X9_117 rfl rfl rfl rfl rfl rfl dX9_entry_33 rfl (fun sg hM hF => ?_)
    refine aw_aload_n C dX9_entry_36 rfl rfl rfl ?_
    refine aw_getf C f_X9_117 hM.1 rfl dX9_entry_37 rfl ?_
    refine aw_if_le (tgt := 45) C dX9_entry_40 (by decide) rfl (fun h => by first | exact absurd h (by decide) | exact absurd (by decide) h) (fun _ => ?_)
    refine aw_iconst (v := 0) C dX9_entry_43 rfl rfl ?_
    exact aw_iret C rfl (Nat.le_refl _) (Nat.le_refl _) (PO.of (by simp [opEntry, isEn, c12]) hM hF) dX9_entry_44
set_option maxRecDepth 100000 in
theorem M_share {g : Gx} {l : Launch} (hl : l.flags = flags0) (hst : g.Stable) {ad : Nat → Nat} {th : Int32} {u : MU} {sg : Sg} (hM : MS g ad th u sg) (hW : WN u) {v w : Int32} {f : Bool} : MM g l yX9_share cX9_share 5 (some .int) (rmM 3) sg [.ref (ad 0), .int v, .int w, .int (b2i f)] (PO g ad sg (opShare u v w f)) noX := by
  refine MM.of hl hst (by decide) (Nat.le_of_ble_eq_true rfl) (fun x hg hlx C hin hout hargs => ?_)
  subst hg; subst hlx
  have C : AWC x cX9_share 5 RX9 (rmM 3) (some .int) := C
  have hF : MF ad sg sg := MF.rf
  show AW x (RQ x _ _ _ _) 0 0 sg 0 [(0, .ref (ad 0)), (1, .int v), (2, .int w), (3, .int (b2i f))] []
  refine aw_aload_n C dX9_share_0 rfl rfl rfl ?_
  refine aw_aload_n C dX9_share_1 rfl rfl rfl ?_
  refine aw_iload_n C dX9_share_2 rfl rfl rfl ?_
  refine mw_callVp C k_X9_149 hM (M_isThing hl hst hM) ⟨by decide, by decide⟩ rfl rfl rfl (Nat.le_of_ble_eq_true rfl) dX9_share_3 rfl ?_
  refine aw_if_eq (tgt := 22) C dX9_share_6 (by decide) rfl (fun c6 => ?_) (fun c6 => ?_)
  · have c6 := fa_of c6
    refine aw_iconst (v := 1) C dX9_share_22 rfl rfl ?_
    refine aw_goto (tgt := 27) C dX9_share_23 (by decide) ?_
    refine mw_put (th' := _) (u' := _) C hM hF f_X9_117 rfl rfl rfl rfl rfl rfl dX9_share_27 rfl (fun sg hM hF => ?_)
    refine aw_aload_n C dX9_share_30 rfl rfl rfl ?_
    refine aw_getf C f_X9_117 hM.1 rfl dX9_share_31 rfl ?_
    refine aw_if_le (tgt := 39) C dX9_share_34 (by decide) rfl (fun h => by first | exact absurd h (by decide) | exact absurd (by decide) h) (fun _ => ?_)
    refine aw_iconst (v := 0) C dX9_share_37 rfl rfl ?_
    exact aw_iret C rfl (Nat.le_refl _) (Nat.le_refl _) (PO.of (by simp [opShare, c6]) hM hF) dX9_share_38
  · have c6 := tr_of c6
    refine aw_iload_n C dX9_share_9 rfl rfl rfl ?_
    refine aw_iconst (v := -1) C dX9_share_10 rfl rfl ?_
    refine aw_icmp_eq (tgt := 26) C dX9_share_11 (by decide) rfl (fun c11 => ?_) (fun c11 => ?_)
    · refine aw_iconst (v := 0) C dX9_share_26 rfl rfl ?_
      refine mw_put (th' := _) (u' := _) C hM hF f_X9_117 rfl rfl rfl rfl rfl rfl dX9_share_27 rfl (fun sg hM hF => ?_)
      refine aw_aload_n C dX9_share_30 rfl rfl rfl ?_
      refine aw_getf C f_X9_117 hM.1 rfl dX9_share_31 rfl ?_
      refine aw_if_le (tgt := 39) C dX9_share_34 (by decide) rfl (fun _ => ?_) (fun h => by first | exact absurd h (by decide) | exact absurd (by decide) h)
      obtain ⟨p, hp, rfl⟩ := isTh_of hW c6
      have hp8 : p < 8 := by have := hW.2.2.2.1; omega
      have hpc := clampI (n := p) (by omega)
      refine aw_bipush (v := 13) C dX9_share_39 rfl rfl ?_
      refine aw_iload_n C dX9_share_41 rfl rfl rfl ?_
      refine aw_imul C dX9_share_42 rfl ?_
      refine aw_iload_n C dX9_share_43 rfl rfl rfl ?_
      refine aw_iconst (v := -1) C dX9_share_44 rfl rfl ?_
      refine aw_icmp_ne (tgt := 53) C dX9_share_45 (by decide) rfl (fun c45 => ?_) (fun c45 => ?_)
      · exact absurd c11 c45
      · refine aw_bipush (v := 12) C dX9_share_48 rfl rfl ?_
        refine aw_goto (tgt := 54) C dX9_share_50 (by decide) ?_
        refine aw_iadd C dX9_share_54 rfl ?_
        refine aw_istore (ls' := [(4, _), (0, _), (1, _), (2, _), (3, _)]) C dX9_share_55 (by decide) rfl rfl ?_
        refine aw_iload_n C dX9_share_57 rfl rfl rfl ?_
        refine aw_if_eq (tgt := 71) C dX9_share_58 (by decide) rfl (fun c58 => ?_) (fun c58 => ?_)
        · have c58 := fa_of c58
          refine aw_aload_n C dX9_share_71 rfl rfl rfl ?_
          refine aw_getf C f_X9_92 hM.1 rfl dX9_share_72 rfl ?_
          refine aw_iload C dX9_share_75 rfl rfl ?_
          refine mw_lald (k := 33) (N := 104) C hM rfl rfl (i := 13 * p + 12) (by rw [show (13 : Int32) = nI 13 from rfl, show (12 : Int32) = nI 12 from rfl, pk_mul, nI_add]) (by omega) dX9_share_77 rfl ?_
          refine aw_l2i C dX9_share_78 rfl ?_
          exact aw_iret C rfl (Nat.le_refl _) (Nat.le_refl _) (PO.of (by simp [opShare, hpc, c6, c11, c45, c58]) hM hF) dX9_share_79
        · have c58 := tr_of c58
          refine aw_aload_n C dX9_share_61 rfl rfl rfl ?_
          refine aw_getf C f_X9_96 hM.1 rfl dX9_share_62 rfl ?_
          refine aw_iload C dX9_share_65 rfl rfl ?_
          refine mw_lald (k := 34) (N := 104) C hM rfl rfl (i := 13 * p + 12) (by rw [show (13 : Int32) = nI 13 from rfl, show (12 : Int32) = nI 12 from rfl, pk_mul, nI_add]) (by omega) dX9_share_67 rfl ?_
          refine aw_goto (tgt := 78) C dX9_share_68 (by decide) ?_
          refine aw_l2i C dX9_share_78 rfl ?_
          exact aw_iret C rfl (Nat.le_refl _) (Nat.le_refl _) (PO.of (by simp [opShare, hpc, c6, c11, c45, c58]) hM hF) dX9_share_79
    · refine aw_aload_n C dX9_share_14 rfl rfl rfl ?_
      refine aw_iload_n C dX9_share_15 rfl rfl rfl ?_
      refine mw_callVp C k_X9_137 hM (M_isPerson hl hst hM) ⟨by decide, by decide⟩ rfl rfl rfl (Nat.le_of_ble_eq_true rfl) dX9_share_16 rfl ?_
      refine aw_if_ne (tgt := 26) C dX9_share_19 (by decide) rfl (fun c19 => ?_) (fun c19 => ?_)
      · have c19 := tr_of c19
        refine aw_iconst (v := 0) C dX9_share_26 rfl rfl ?_
        refine mw_put (th' := _) (u' := _) C hM hF f_X9_117 rfl rfl rfl rfl rfl rfl dX9_share_27 rfl (fun sg hM hF => ?_)
        refine aw_aload_n C dX9_share_30 rfl rfl rfl ?_
        refine aw_getf C f_X9_117 hM.1 rfl dX9_share_31 rfl ?_
        refine aw_if_le (tgt := 39) C dX9_share_34 (by decide) rfl (fun _ => ?_) (fun h => by first | exact absurd h (by decide) | exact absurd (by decide) h)
        obtain ⟨p, hp, rfl⟩ := isTh_of hW c6
        have hp8 : p < 8 := by have := hW.2.2.2.1; omega
        have hpc := clampI (n := p) (by omega)
        obtain ⟨q, hq, rfl⟩ := isP_of hW c19
        have hq12 : q < 12 := by have := hW.1; omega
        have hqc := clampI (n := q) (by omega)
        refine aw_bipush (v := 13) C dX9_share_39 rfl rfl ?_
        refine aw_iload_n C dX9_share_41 rfl rfl rfl ?_
        refine aw_imul C dX9_share_42 rfl ?_
        refine aw_iload_n C dX9_share_43 rfl rfl rfl ?_
        refine aw_iconst (v := -1) C dX9_share_44 rfl rfl ?_
        refine aw_icmp_ne (tgt := 53) C dX9_share_45 (by decide) rfl (fun c45 => ?_) (fun c45 => ?_)
        · refine aw_iload_n C dX9_share_53 rfl rfl rfl ?_
          refine aw_iadd C dX9_share_54 rfl ?_
          refine aw_istore (ls' := [(4, _), (0, _), (1, _), (2, _), (3, _)]) C dX9_share_55 (by decide) rfl rfl ?_
          refine aw_iload_n C dX9_share_57 rfl rfl rfl ?_
          refine aw_if_eq (tgt := 71) C dX9_share_58 (by decide) rfl (fun c58 => ?_) (fun c58 => ?_)
          · have c58 := fa_of c58
            refine aw_aload_n C dX9_share_71 rfl rfl rfl ?_
            refine aw_getf C f_X9_92 hM.1 rfl dX9_share_72 rfl ?_
            refine aw_iload C dX9_share_75 rfl rfl ?_
            refine mw_lald (k := 33) (N := 104) C hM rfl rfl (i := 13 * p + q) (by rw [show (13 : Int32) = nI 13 from rfl, pk_mul, nI_add]) (by omega) dX9_share_77 rfl ?_
            refine aw_l2i C dX9_share_78 rfl ?_
            exact aw_iret C rfl (Nat.le_refl _) (Nat.le_refl _) (PO.of (by simp [opShare, hpc, hqc, c6, c11, c19, c45, c58]) hM hF) dX9_share_79
          · have c58 := tr_of c58
            refine aw_aload_n C dX9_share_61 rfl rfl rfl ?_
            refine aw_getf C f_X9_96 hM.1 rfl dX9_share_62 rfl ?_
            refine aw_iload C dX9_share_65 rfl rfl ?_
            refine mw_lald (k := 34) (N := 104) C hM rfl rfl (i := 13 * p + q) (by rw [show (13 : Int32) = nI 13 from rfl, pk_mul, nI_add]) (by omega) dX9_share_67 rfl ?_
            refine aw_goto (tgt := 78) C dX9_share_68 (by decide) ?_
            refine aw_l2i C dX9_share_78 rfl ?_
            exact aw_iret C rfl (Nat.le_refl _) (Nat.le_refl _) (PO.of (by simp [opShare, hpc, hqc, c6, c11, c19, c45, c58]) hM hF) dX9_share_79
        · exact absurd c45 c11
      · have c19 := fa_of c19
        refine aw_iconst (v := 1) C dX9_share_22 rfl rfl ?_
        refine aw_goto (tgt := 27) C dX9_share_23 (by decide) ?_
        refine mw_put (th' := _) (u' := _) C hM hF f_X9_117 rfl rfl rfl rfl rfl rfl dX9_share_27 rfl (fun sg hM hF => ?_)
        refine aw_aload_n C dX9_share_30 rfl rfl rfl ?_
        refine aw_getf C f_X9_117 hM.1 rfl dX9_share_31 rfl ?_
        refine aw_if_le (tgt := 39) C dX9_share_34 (by decide) rfl (fun h => by first | exact absurd h (by decide) | exact absurd (by decide) h) (fun _ => ?_)
        refine aw_iconst (v := 0) C dX9_share_37 rfl rfl ?_
        exact aw_iret C rfl (Nat.le_refl _) (Nat.le_refl _) (PO.of (by simp [opShare, c6, c11, c19]) hM hF) dX9_share_38
set_option maxRecDepth 100000 in
theorem M_shareAnew {g : Gx} {l : Launch} (hl : l.flags = flags0) (hst : g.Stable) {ad : Nat → Nat} {th : Int32} {u : MU} {sg : Sg} (hM : MS g ad th u sg) (hW : WN u) {v w : Int32} {f : Bool} : MM g l yX9_shareAnew cX9_shareAnew 4 (some .int) (rmM 4) sg [.ref (ad 0), .int v, .int w, .int (b2i f)] (PO g ad sg (opShare u v w f)) noX := by
  refine MM.of hl hst (by decide) (Nat.le_of_ble_eq_true rfl) (fun x hg hlx C hin hout hargs => ?_)
  subst hg; subst hlx
  have C : AWC x cX9_shareAnew 4 RX9 (rmM 4) (some .int) := C
  have hF : MF ad sg sg := MF.rf
  show AW x (RQ x _ _ _ _) 0 0 sg 0 [(0, .ref (ad 0)), (1, .int v), (2, .int w), (3, .int (b2i f))] []
  refine aw_aload_n C dX9_shareAnew_0 rfl rfl rfl ?_
  refine aw_iload_n C dX9_shareAnew_1 rfl rfl rfl ?_
  refine aw_iload_n C dX9_shareAnew_2 rfl rfl rfl ?_
  refine aw_iload_n C dX9_shareAnew_3 rfl rfl rfl ?_
  refine mw_callV C k_X9_240 hM (M_share hl hst hM hW) ⟨by decide, by decide⟩ rfl rfl rfl (Nat.le_of_ble_eq_true rfl) dX9_shareAnew_4 rfl (fun v sg1 hq => ?_)
  obtain ⟨rfl, hM1, hF1⟩ := hq
  exact aw_iret C rfl (Nat.le_refl _) (Nat.le_refl _) ⟨rfl, hM1, MF.tr hF hF1⟩ dX9_shareAnew_7
set_option maxRecDepth 100000 in
theorem M_duties {g : Gx} {l : Launch} (hl : l.flags = flags0) (hst : g.Stable) {ad : Nat → Nat} {th : Int32} {u : MU} {sg : Sg} (hM : MS g ad th u sg) : MM g l yX9_duties cX9_duties 1 (some .long) (rmM 1) sg [.ref (ad 0)] (PU g ad sg 0 (some (.long u.2.2.2.2)) u) noX := by
  refine MM.of hl hst (by decide) (Nat.le_of_ble_eq_true rfl) (fun x hg hlx C hin hout hargs => ?_)
  subst hg; subst hlx
  have C : AWC x cX9_duties 1 RX9 (rmM 1) (some .long) := C
  have hF : MF ad sg sg := MF.rf
  show AW x (RQ x _ _ _ _) 0 0 sg 0 [(0, .ref (ad 0))] []
  refine aw_aload_n C dX9_duties_0 rfl rfl rfl ?_
  refine aw_iconst (v := 0) C dX9_duties_1 rfl rfl ?_
  refine mw_put (th' := _) (u' := _) C hM hF f_X9_117 rfl rfl rfl rfl rfl rfl dX9_duties_2 rfl (fun sg hM hF => ?_)
  refine aw_aload_n C dX9_duties_5 rfl rfl rfl ?_
  refine aw_getf C f_X9_217 hM.1 rfl dX9_duties_6 rfl ?_
  exact aw_lret C (Nat.le_refl _) (Nat.le_refl _) (PU.of rfl hM hF) dX9_duties_9
set_option maxRecDepth 100000 in
theorem M_copy {g : Gx} {l : Launch} (hl : l.flags = flags0) (hst : g.Stable) {ad : Nat → Nat} {th : Int32} {u : MU} {sg : Sg} (hM : MS g ad th u sg) (hW : WN u) {N : Nat} (hN : N < 2 ^ 29) (hG : WG N u) {v : Int32} : MM g l yX9_copy cX9_copy 4 (some .int) (rmM 3) sg [.ref (ad 0), .int v] (PO g ad sg (opCopy u v)) noX := by
  refine MM.of hl hst (by decide) (Nat.le_of_ble_eq_true rfl) (fun x hg hlx C hin hout hargs => ?_)
  subst hg; subst hlx
  have C : AWC x cX9_copy 4 RX9 (rmM 3) (some .int) := C
  have hF : MF ad sg sg := MF.rf
  show AW x (RQ x _ _ _ _) 0 0 sg 0 [(0, .ref (ad 0)), (1, .int v)] []
  refine aw_aload_n C dX9_copy_0 rfl rfl rfl ?_
  refine aw_aload_n C dX9_copy_1 rfl rfl rfl ?_
  refine aw_iload_n C dX9_copy_2 rfl rfl rfl ?_
  refine mw_callVp C k_X9_165 hM (M_isDeed hl hst hM) ⟨by decide, by decide⟩ rfl rfl rfl (Nat.le_of_ble_eq_true rfl) dX9_copy_3 rfl ?_
  refine aw_if_ne (tgt := 13) C dX9_copy_6 (by decide) rfl (fun c6 => ?_) (fun c6 => ?_)
  · have c6 := tr_of c6
    obtain ⟨p, hp, rfl⟩ := isDd_of hW c6
    have hp60 : p < 60 := by have := hW.2.1; omega
    have hpc := clampI (n := p) (by omega)
    obtain ⟨m, hm, em, a, ha, ea, hj⟩ := hG p hp60
    refine aw_aload_n C dX9_copy_13 rfl rfl rfl ?_
    refine aw_getf C f_X9_86 hM.1 rfl dX9_copy_14 rfl ?_
    refine aw_iload_n C dX9_copy_17 rfl rfl rfl ?_
    refine mw_iald (k := 29) (N := 60) C hM rfl rfl rfl (by omega) dX9_copy_18 rfl ?_
    refine aw_if_eq (tgt := 32) C dX9_copy_19 (by decide) rfl (fun c19 => ?_) (fun c19 => ?_)
    · refine aw_iconst (v := 2) C dX9_copy_32 rfl rfl ?_
      refine aw_goto (tgt := 37) C dX9_copy_33 (by decide) ?_
      refine mw_put (th' := _) (u' := _) C hM hF f_X9_117 rfl rfl rfl rfl rfl rfl dX9_copy_37 rfl (fun sg hM hF => ?_)
      refine aw_aload_n C dX9_copy_40 rfl rfl rfl ?_
      refine aw_getf C f_X9_117 hM.1 rfl dX9_copy_41 rfl ?_
      refine aw_if_le (tgt := 49) C dX9_copy_44 (by decide) rfl (fun h => by first | exact absurd h (by decide) | exact absurd (by decide) h) (fun _ => ?_)
      refine aw_iconst (v := 0) C dX9_copy_47 rfl rfl ?_
      exact aw_iret C rfl (Nat.le_refl _) (Nat.le_refl _) (PO.of (by simp [opCopy, c6, c19, hpc]) hM hF) dX9_copy_48
    · refine aw_aload_n C dX9_copy_22 rfl rfl rfl ?_
      refine aw_getf C f_X9_86 hM.1 rfl dX9_copy_23 rfl ?_
      refine aw_iload_n C dX9_copy_26 rfl rfl rfl ?_
      refine mw_iald (k := 29) (N := 60) C hM rfl rfl rfl (by omega) dX9_copy_27 rfl ?_
      refine aw_iconst (v := 4) C dX9_copy_28 rfl rfl ?_
      refine aw_icmp_ne (tgt := 36) C dX9_copy_29 (by decide) rfl (fun c29 => ?_) (fun c29 => ?_)
      · refine aw_iconst (v := 0) C dX9_copy_36 rfl rfl ?_
        refine mw_put (th' := _) (u' := _) C hM hF f_X9_117 rfl rfl rfl rfl rfl rfl dX9_copy_37 rfl (fun sg hM hF => ?_)
        refine aw_aload_n C dX9_copy_40 rfl rfl rfl ?_
        refine aw_getf C f_X9_117 hM.1 rfl dX9_copy_41 rfl ?_
        refine aw_if_le (tgt := 49) C dX9_copy_44 (by decide) rfl (fun _ => ?_) (fun h => by first | exact absurd h (by decide) | exact absurd (by decide) h)
        have hm0 : 0 < m := by rcases Nat.eq_zero_or_pos m with z | z; exact absurd (by rw [em, z]; rfl) c19; exact z
        have hm4 : m < 4 := by rcases Nat.lt_or_ge m 4 with z | z; exact z; exact absurd (by rw [em, show m = 4 by omega]; rfl) c29
        obtain ⟨b, hb, eb⟩ := hj (m - 1) (by omega)
        refine aw_aload_n C dX9_copy_49 rfl rfl rfl ?_
        refine aw_getf C f_X9_83 hM.1 rfl dX9_copy_50 rfl ?_
        refine aw_iconst (v := 4) C dX9_copy_53 rfl rfl ?_
        refine aw_iload_n C dX9_copy_54 rfl rfl rfl ?_
        refine aw_imul C dX9_copy_55 rfl ?_
        refine mw_iald (k := 28) (N := 240) C hM rfl rfl (i := 4 * p) (pk_mul 4 p) (by omega) dX9_copy_56 rfl ?_
        refine aw_iconst (v := 1) C dX9_copy_57 rfl rfl ?_
        refine aw_iadd C dX9_copy_58 rfl ?_
        refine aw_istore_n (ls' := [(2, _), (0, _), (1, _)]) C dX9_copy_59 rfl (by decide) rfl rfl ?_
        refine aw_aload_n C dX9_copy_60 rfl rfl rfl ?_
        refine aw_getf C f_X9_86 hM.1 rfl dX9_copy_61 rfl ?_
        refine aw_iload_n C dX9_copy_64 rfl rfl rfl ?_
        refine mw_iald (k := 29) (N := 60) C hM rfl rfl rfl (by omega) dX9_copy_65 rfl ?_
        refine aw_istore_n (ls' := [(3, _), (2, _), (0, _), (1, _)]) C dX9_copy_66 rfl (by decide) rfl rfl ?_
        refine aw_aload_n C dX9_copy_67 rfl rfl rfl ?_
        refine aw_getf C f_X9_83 hM.1 rfl dX9_copy_68 rfl ?_
        refine aw_iconst (v := 4) C dX9_copy_71 rfl rfl ?_
        refine aw_iload_n C dX9_copy_72 rfl rfl rfl ?_
        refine aw_imul C dX9_copy_73 rfl ?_
        refine aw_iload_n C dX9_copy_74 rfl rfl rfl ?_
        refine aw_iadd C dX9_copy_75 rfl ?_
        refine aw_iconst (v := 1) C dX9_copy_76 rfl rfl ?_
        refine aw_isub C dX9_copy_77 rfl ?_
        refine mw_iald (k := 28) (N := 240) C hM rfl rfl (i := 4 * p + (m - 1)) (by rw [em, show (4 : Int32) = nI 4 from rfl, pk_mul, nI_add, show 4 * p + m = (4 * p + (m - 1)) + 1 by omega, nI_pred]) (by omega) dX9_copy_78 rfl ?_
        refine aw_iload_n C dX9_copy_79 rfl rfl rfl ?_
        refine aw_icmp_le (tgt := 111) C dX9_copy_80 (by decide) rfl (fun c80 => ?_) (fun c80 => ?_)
        · refine aw_aload_n C dX9_copy_111 rfl rfl rfl ?_
          refine aw_getf C f_X9_83 hM.1 rfl dX9_copy_112 rfl ?_
          refine aw_iconst (v := 4) C dX9_copy_115 rfl rfl ?_
          refine aw_iload_n C dX9_copy_116 rfl rfl rfl ?_
          refine aw_imul C dX9_copy_117 rfl ?_
          refine aw_iload_n C dX9_copy_118 rfl rfl rfl ?_
          refine aw_iadd C dX9_copy_119 rfl ?_
          refine aw_iload_n C dX9_copy_120 rfl rfl rfl ?_
          refine mw_iast (k := 28) (N := 240) C hM hF rfl rfl (i := 4 * p + m) (by rw [em, show (4 : Int32) = nI 4 from rfl, pk_mul, nI_add]) (by omega) dX9_copy_121 rfl (fun sg hM hF => ?_)
          refine aw_aload_n C dX9_copy_122 rfl rfl rfl ?_
          refine aw_getf C f_X9_86 hM.1 rfl dX9_copy_123 rfl ?_
          refine aw_iload_n C dX9_copy_126 rfl rfl rfl ?_
          refine aw_dup2 C dX9_copy_127 rfl rfl rfl ?_
          refine mw_iald (k := 29) (N := 60) C hM rfl rfl rfl (by omega) dX9_copy_128 rfl ?_
          refine aw_iconst (v := 1) C dX9_copy_129 rfl rfl ?_
          refine aw_iadd C dX9_copy_130 rfl ?_
          refine mw_iast (k := 29) (N := 60) C hM hF rfl rfl rfl (by omega) dX9_copy_131 rfl (fun sg hM hF => ?_)
          refine aw_iload_n C dX9_copy_132 rfl rfl rfl ?_
          exact aw_iret C rfl (Nat.le_refl _) (Nat.le_refl _) (PO.of (by rw [opCopy, if_neg (by simp [c6]), hpc, if_neg (by simp [c19, c29])]; simp [uI_I, em, clampI (show m < 2 ^ 31 by omega)]) hM hF) dX9_copy_133
        · exact absurd (by rw [eb, ea, nI_1, nI_leI (by omega) (by omega)]; exact hb) c80
      · refine aw_iconst (v := 2) C dX9_copy_32 rfl rfl ?_
        refine aw_goto (tgt := 37) C dX9_copy_33 (by decide) ?_
        refine mw_put (th' := _) (u' := _) C hM hF f_X9_117 rfl rfl rfl rfl rfl rfl dX9_copy_37 rfl (fun sg hM hF => ?_)
        refine aw_aload_n C dX9_copy_40 rfl rfl rfl ?_
        refine aw_getf C f_X9_117 hM.1 rfl dX9_copy_41 rfl ?_
        refine aw_if_le (tgt := 49) C dX9_copy_44 (by decide) rfl (fun h => by first | exact absurd h (by decide) | exact absurd (by decide) h) (fun _ => ?_)
        refine aw_iconst (v := 0) C dX9_copy_47 rfl rfl ?_
        exact aw_iret C rfl (Nat.le_refl _) (Nat.le_refl _) (PO.of (by simp [opCopy, c6, c19, c29, hpc]) hM hF) dX9_copy_48
  · have c6 := fa_of c6
    refine aw_iconst (v := 1) C dX9_copy_9 rfl rfl ?_
    refine aw_goto (tgt := 37) C dX9_copy_10 (by decide) ?_
    refine mw_put (th' := _) (u' := _) C hM hF f_X9_117 rfl rfl rfl rfl rfl rfl dX9_copy_37 rfl (fun sg hM hF => ?_)
    refine aw_aload_n C dX9_copy_40 rfl rfl rfl ?_
    refine aw_getf C f_X9_117 hM.1 rfl dX9_copy_41 rfl ?_
    refine aw_if_le (tgt := 49) C dX9_copy_44 (by decide) rfl (fun h => by first | exact absurd h (by decide) | exact absurd (by decide) h) (fun _ => ?_)
    refine aw_iconst (v := 0) C dX9_copy_47 rfl rfl ?_
    exact aw_iret C rfl (Nat.le_refl _) (Nat.le_refl _) (PO.of (by simp [opCopy, c6]) hM hF) dX9_copy_48
set_option maxRecDepth 100000 in
theorem M_thing {g : Gx} {l : Launch} (hl : l.flags = flags0) (hst : g.Stable) {ad : Nat → Nat} {th : Int32} {u : MU} {sg : Sg} (hM : MS g ad th u sg) (hW : WN u) {v w : Int32} : MM g l yX9_thing cX9_thing 4 (some .int) (rmM 3) sg [.ref (ad 0), .int v, .int w] (PO g ad sg (opThing u v w)) noX := by
  refine MM.of hl hst (by decide) (Nat.le_of_ble_eq_true rfl) (fun x hg hlx C hin hout hargs => ?_)
  subst hg; subst hlx
  have C : AWC x cX9_thing 4 RX9 (rmM 3) (some .int) := C
  have hF : MF ad sg sg := MF.rf
  show AW x (RQ x _ _ _ _) 0 0 sg 0 [(0, .ref (ad 0)), (1, .int v), (2, .int w)] []
  obtain ⟨sg0, hsg0⟩ : ∃ s, s = sg := ⟨_, rfl⟩
  have hF : MF ad sg0 sg := by rw [hsg0]; exact hF
  show AW x (RQ x (PO x.g ad sg (opThing u v w)) noX (rmM 3).cells (rmM 3).slots) 0 0 sg 0 [(0, .ref (ad 0)), (1, .int v), (2, .int w)] []
  rw [show PO x.g ad sg = PO x.g ad sg0 by rw [hsg0]]
  have loop : ∀ (r p : Nat), p < 12 → v = nI p → isP u (nI p) = true → inB w 1 1000000 = true → u.2.2.1 31 < 8 → ¬ (nI (u.2.2.1 31) = 8 ∨ ¬ u.1 6 p = 0) → ∀ k, k + r = 13 → ∀ sg, MS x.g ad 0 (upRow (uI u 32 (u.2.2.1 31) w) (u.2.2.1 31) p k) sg → MF ad sg0 sg → AW x (RQ x (PO x.g ad sg0 (opThing u v w)) noX (rmM 3).cells (rmM 3).slots) 0 0 sg 74 [(0, .ref (ad 0)), (1, .int (nI p)), (2, .int w), (3, .int (nI k))] [] := by
    intro r p hp ev ip iw h8 hno
    subst ev
    have hpc := clampI (n := p) (by omega)
    induction r with
    | zero =>
      intro k hk sg hM hF
      refine aw_iload_n C dX9_thing_74 rfl rfl rfl ?_
      refine aw_bipush (v := 13) C dX9_thing_75 rfl rfl ?_
      refine aw_icmp_ge (tgt := 125) C dX9_thing_77 (by decide) rfl (fun c77 => ?_) (fun c77 => ?_)
      · refine aw_aload_n C dX9_thing_125 rfl rfl rfl ?_
        refine aw_dup C dX9_thing_126 rfl rfl ?_
        refine aw_getf C f_X9_131 hM.1 rfl dX9_thing_127 rfl ?_
        refine aw_iconst (v := 1) C dX9_thing_130 rfl rfl ?_
        refine aw_iadd C dX9_thing_131 rfl ?_
        refine mw_put (th' := _) (u' := uN _ 31 (u.2.2.1 31 + 1)) C hM hF f_X9_131 rfl rfl rfl (by simp only [mfs, uN, upRow_N, uI_N, nI_1]; rfl) rfl rfl dX9_thing_132 rfl (fun sg hM hF => ?_)
        refine aw_aload_n C dX9_thing_135 rfl rfl rfl ?_
        refine aw_getf C f_X9_131 hM.1 rfl dX9_thing_136 rfl ?_
        refine aw_iconst (v := 1) C dX9_thing_139 rfl rfl ?_
        refine aw_isub C dX9_thing_140 rfl ?_
        exact aw_iret C rfl (Nat.le_refl _) (Nat.le_refl _) (PO.of (by rw [opThing, if_neg (by simp [ip]), if_neg (by simp [iw]), hpc, if_neg hno, show k = 13 by omega]; exact congrArg (fun z => ((0 : Int32), z, _)) (nI_pred _).symm) hM hF) dX9_thing_141
      · exact absurd (by rw [show k = 13 by omega]; decide) c77
    | succ r ih =>
      intro k hk sg hM hF
      refine aw_iload_n C dX9_thing_74 rfl rfl rfl ?_
      refine aw_bipush (v := 13) C dX9_thing_75 rfl rfl ?_
      refine aw_icmp_ge (tgt := 125) C dX9_thing_77 (by decide) rfl (fun c77 => ?_) (fun c77 => ?_)
      · exact absurd c77 (by rw [show (13 : Int32) = nI 13 from rfl, nI_leI (by omega) (by omega)]; omega)
      · refine aw_aload_n C dX9_thing_80 rfl rfl rfl ?_
        refine aw_getf C f_X9_92 hM.1 rfl dX9_thing_81 rfl ?_
        refine aw_bipush (v := 13) C dX9_thing_84 rfl rfl ?_
        refine aw_aload_n C dX9_thing_86 rfl rfl rfl ?_
        refine aw_getf C f_X9_131 hM.1 rfl dX9_thing_87 rfl ?_
        refine aw_imul C dX9_thing_90 rfl ?_
        refine aw_iload_n C dX9_thing_91 rfl rfl rfl ?_
        refine aw_iadd C dX9_thing_92 rfl ?_
        refine aw_iload_n C dX9_thing_93 rfl rfl rfl ?_
        refine aw_iload_n C dX9_thing_94 rfl rfl rfl ?_
        refine aw_icmp_ne (tgt := 102) C dX9_thing_95 (by decide) rfl (fun c95 => ?_) (fun c95 => ?_)
        · refine aw_lconst (v := 0) C dX9_thing_102 rfl rfl ?_
          refine mw_last (k := 33) (N := 104) C hM hF rfl rfl (i := 13 * u.2.2.1 31 + k) (by simp only [uJ, upRow_N, uI_N]; rw [show (13 : Int32) = nI 13 from rfl, pk_mul, nI_add]) (by omega) dX9_thing_103 rfl (fun sg hM hF => ?_)
          refine aw_aload_n C dX9_thing_104 rfl rfl rfl ?_
          refine aw_getf C f_X9_96 hM.1 rfl dX9_thing_105 rfl ?_
          refine aw_bipush (v := 13) C dX9_thing_108 rfl rfl ?_
          refine aw_aload_n C dX9_thing_110 rfl rfl rfl ?_
          refine aw_getf C f_X9_131 hM.1 rfl dX9_thing_111 rfl ?_
          refine aw_imul C dX9_thing_114 rfl ?_
          refine aw_iload_n C dX9_thing_115 rfl rfl rfl ?_
          refine aw_iadd C dX9_thing_116 rfl ?_
          refine aw_lconst (v := 1) C dX9_thing_117 rfl rfl ?_
          refine mw_last (k := 34) (N := 104) C hM hF rfl rfl (i := 13 * u.2.2.1 31 + k) (by simp only [uJ, upRow_N, uI_N]; rw [show (13 : Int32) = nI 13 from rfl, pk_mul, nI_add]) (by omega) dX9_thing_118 rfl (fun sg hM hF => ?_)
          refine aw_iinc (v' := nI (k + 1)) (ls' := [(3, _), (0, _), (1, _), (2, _)]) C dX9_thing_119 rfl (by decide) (nI_1 k) rfl rfl ?_
          refine aw_goto (tgt := 74) C dX9_thing_122 (by decide) ?_
          refine aw_pick (ls' := [(0, _), (1, _), (2, _), (3, _)]) [1, 2, 3, 0] rfl ?_
          exact ih (k + 1) (by omega) _ (by rw [upRow, if_neg (by intro z; subst z; exact c95 rfl)]; exact hM) hF
        · refine aw_lconst (v := 1) C dX9_thing_98 rfl rfl ?_
          refine aw_goto (tgt := 103) C dX9_thing_99 (by decide) ?_
          refine mw_last (k := 33) (N := 104) C hM hF rfl rfl (i := 13 * u.2.2.1 31 + k) (by simp only [uJ, upRow_N, uI_N]; rw [show (13 : Int32) = nI 13 from rfl, pk_mul, nI_add]) (by omega) dX9_thing_103 rfl (fun sg hM hF => ?_)
          refine aw_aload_n C dX9_thing_104 rfl rfl rfl ?_
          refine aw_getf C f_X9_96 hM.1 rfl dX9_thing_105 rfl ?_
          refine aw_bipush (v := 13) C dX9_thing_108 rfl rfl ?_
          refine aw_aload_n C dX9_thing_110 rfl rfl rfl ?_
          refine aw_getf C f_X9_131 hM.1 rfl dX9_thing_111 rfl ?_
          refine aw_imul C dX9_thing_114 rfl ?_
          refine aw_iload_n C dX9_thing_115 rfl rfl rfl ?_
          refine aw_iadd C dX9_thing_116 rfl ?_
          refine aw_lconst (v := 1) C dX9_thing_117 rfl rfl ?_
          refine mw_last (k := 34) (N := 104) C hM hF rfl rfl (i := 13 * u.2.2.1 31 + k) (by simp only [uJ, upRow_N, uI_N]; rw [show (13 : Int32) = nI 13 from rfl, pk_mul, nI_add]) (by omega) dX9_thing_118 rfl (fun sg hM hF => ?_)
          refine aw_iinc (v' := nI (k + 1)) (ls' := [(3, _), (0, _), (1, _), (2, _)]) C dX9_thing_119 rfl (by decide) (nI_1 k) rfl rfl ?_
          refine aw_goto (tgt := 74) C dX9_thing_122 (by decide) ?_
          refine aw_pick (ls' := [(0, _), (1, _), (2, _), (3, _)]) [1, 2, 3, 0] rfl ?_
          exact ih (k + 1) (by omega) _ (by rw [upRow, if_pos ((nI_eq (by omega) (by omega)).mp c95)]; exact hM) hF
  refine aw_aload_n C dX9_thing_0 rfl rfl rfl ?_
  refine aw_aload_n C dX9_thing_1 rfl rfl rfl ?_
  refine aw_iload_n C dX9_thing_2 rfl rfl rfl ?_
  refine mw_callVp C k_X9_137 hM (M_isPerson hl hst hM) ⟨by decide, by decide⟩ rfl rfl rfl (Nat.le_of_ble_eq_true rfl) dX9_thing_3 rfl ?_
  refine aw_if_ne (tgt := 13) C dX9_thing_6 (by decide) rfl (fun c6 => ?_) (fun c6 => ?_)
  · have c6 := tr_of c6
    refine aw_iload_n C dX9_thing_13 rfl rfl rfl ?_
    refine aw_iconst (v := 1) C dX9_thing_14 rfl rfl ?_
    refine aw_ldc C dX9_thing_15 q_X9_145 rfl ?_
    refine mw_callSp C k_X9_124 (M_in hl hst) ⟨by decide, by decide⟩ rfl rfl (Nat.le_of_ble_eq_true rfl) dX9_thing_17 rfl ?_
    refine aw_if_ne (tgt := 27) C dX9_thing_20 (by decide) rfl (fun c20 => ?_) (fun c20 => ?_)
    · have c20 := tr_of c20
      obtain ⟨p, hp, rfl⟩ := isP_of hW c6
      have hp12 : p < 12 := by have := hW.1; omega
      have hpc := clampI (n := p) (by omega)
      refine aw_aload_n C dX9_thing_27 rfl rfl rfl ?_
      refine aw_getf C f_X9_131 hM.1 rfl dX9_thing_28 rfl ?_
      refine aw_bipush (v := 8) C dX9_thing_31 rfl rfl ?_
      refine aw_icmp_eq (tgt := 45) C dX9_thing_33 (by decide) rfl (fun c33 => ?_) (fun c33 => ?_)
      · refine aw_iconst (v := 3) C dX9_thing_45 rfl rfl ?_
        refine aw_goto (tgt := 50) C dX9_thing_46 (by decide) ?_
        refine mw_put (th' := _) (u' := _) C hM hF f_X9_117 rfl rfl rfl rfl rfl rfl dX9_thing_50 rfl (fun sg hM hF => ?_)
        refine aw_aload_n C dX9_thing_53 rfl rfl rfl ?_
        refine aw_getf C f_X9_117 hM.1 rfl dX9_thing_54 rfl ?_
        refine aw_if_le (tgt := 62) C dX9_thing_57 (by decide) rfl (fun h => by first | exact absurd h (by decide) | exact absurd (by decide) h) (fun _ => ?_)
        refine aw_iconst (v := 0) C dX9_thing_60 rfl rfl ?_
        exact aw_iret C rfl (Nat.le_refl _) (Nat.le_refl _) (PO.of (by simp [opThing, c6, c20, c33, hpc]) hM hF) dX9_thing_61
      · refine aw_aload_n C dX9_thing_36 rfl rfl rfl ?_
        refine aw_getf C f_X9_20 hM.1 rfl dX9_thing_37 rfl ?_
        refine aw_iload_n C dX9_thing_40 rfl rfl rfl ?_
        refine mw_zald (k := 6) (N := 12) C hM rfl rfl rfl (by omega) dX9_thing_41 rfl ?_
        refine aw_if_eq (tgt := 49) C dX9_thing_42 (by decide) rfl (fun c42 => ?_) (fun c42 => ?_)
        · refine aw_iconst (v := 0) C dX9_thing_49 rfl rfl ?_
          refine mw_put (th' := _) (u' := _) C hM hF f_X9_117 rfl rfl rfl rfl rfl rfl dX9_thing_50 rfl (fun sg hM hF => ?_)
          refine aw_aload_n C dX9_thing_53 rfl rfl rfl ?_
          refine aw_getf C f_X9_117 hM.1 rfl dX9_thing_54 rfl ?_
          refine aw_if_le (tgt := 62) C dX9_thing_57 (by decide) rfl (fun _ => ?_) (fun h => by first | exact absurd h (by decide) | exact absurd (by decide) h)
          have hn8 := n8_of hW c33
          refine aw_aload_n C dX9_thing_62 rfl rfl rfl ?_
          refine aw_getf C f_X9_89 hM.1 rfl dX9_thing_63 rfl ?_
          refine aw_aload_n C dX9_thing_66 rfl rfl rfl ?_
          refine aw_getf C f_X9_131 hM.1 rfl dX9_thing_67 rfl ?_
          refine aw_iload_n C dX9_thing_70 rfl rfl rfl ?_
          refine mw_iast (k := 32) (N := 8) C hM hF rfl rfl (i := u.2.2.1 31) rfl hn8 dX9_thing_71 rfl (fun sg hM hF => ?_)
          refine aw_iconst (v := 0) C dX9_thing_72 rfl rfl ?_
          refine aw_istore_n (ls' := [(3, _), (0, _), (1, _), (2, _)]) C dX9_thing_73 rfl (by decide) rfl rfl ?_
          refine aw_pick (ls' := [(0, _), (1, _), (2, _), (3, _)]) [1, 2, 3, 0] rfl ?_
          exact loop 13 p hp12 rfl c6 c20 hn8 (by simp [c33, c42]) 0 rfl _ hM hF
        · refine aw_iconst (v := 3) C dX9_thing_45 rfl rfl ?_
          refine aw_goto (tgt := 50) C dX9_thing_46 (by decide) ?_
          refine mw_put (th' := _) (u' := _) C hM hF f_X9_117 rfl rfl rfl rfl rfl rfl dX9_thing_50 rfl (fun sg hM hF => ?_)
          refine aw_aload_n C dX9_thing_53 rfl rfl rfl ?_
          refine aw_getf C f_X9_117 hM.1 rfl dX9_thing_54 rfl ?_
          refine aw_if_le (tgt := 62) C dX9_thing_57 (by decide) rfl (fun h => by first | exact absurd h (by decide) | exact absurd (by decide) h) (fun _ => ?_)
          refine aw_iconst (v := 0) C dX9_thing_60 rfl rfl ?_
          exact aw_iret C rfl (Nat.le_refl _) (Nat.le_refl _) (PO.of (by simp [opThing, c6, c20, c33, c42, hpc]) hM hF) dX9_thing_61
    · have c20 := fa_of c20
      refine aw_iconst (v := 2) C dX9_thing_23 rfl rfl ?_
      refine aw_goto (tgt := 50) C dX9_thing_24 (by decide) ?_
      refine mw_put (th' := _) (u' := _) C hM hF f_X9_117 rfl rfl rfl rfl rfl rfl dX9_thing_50 rfl (fun sg hM hF => ?_)
      refine aw_aload_n C dX9_thing_53 rfl rfl rfl ?_
      refine aw_getf C f_X9_117 hM.1 rfl dX9_thing_54 rfl ?_
      refine aw_if_le (tgt := 62) C dX9_thing_57 (by decide) rfl (fun h => by first | exact absurd h (by decide) | exact absurd (by decide) h) (fun _ => ?_)
      refine aw_iconst (v := 0) C dX9_thing_60 rfl rfl ?_
      exact aw_iret C rfl (Nat.le_refl _) (Nat.le_refl _) (PO.of (by simp [opThing, c6, c20]) hM hF) dX9_thing_61
  · have c6 := fa_of c6
    refine aw_iconst (v := 1) C dX9_thing_9 rfl rfl ?_
    refine aw_goto (tgt := 50) C dX9_thing_10 (by decide) ?_
    refine mw_put (th' := _) (u' := _) C hM hF f_X9_117 rfl rfl rfl rfl rfl rfl dX9_thing_50 rfl (fun sg hM hF => ?_)
    refine aw_aload_n C dX9_thing_53 rfl rfl rfl ?_
    refine aw_getf C f_X9_117 hM.1 rfl dX9_thing_54 rfl ?_
    refine aw_if_le (tgt := 62) C dX9_thing_57 (by decide) rfl (fun h => by first | exact absurd h (by decide) | exact absurd (by decide) h) (fun _ => ?_)
    refine aw_iconst (v := 0) C dX9_thing_60 rfl rfl ?_
    exact aw_iret C rfl (Nat.le_refl _) (Nat.le_refl _) (PO.of (by simp [opThing, c6]) hM hF) dX9_thing_61
