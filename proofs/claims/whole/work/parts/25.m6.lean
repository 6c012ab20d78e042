theorem nI_nm1 {p : Nat} (h : p < 2 ^ 31) : ¬ nI p = -1 := by
  intro e
  have h1 := nI_toInt h
  rw [e] at h1
  have h2 : (-1 : Int32).toInt = -1 := by decide
  omega
set_option maxRecDepth 100000 in
theorem M_guard {g : Gx} {l : Launch} (hl : l.flags = flags0) (hst : g.Stable) {ad : Nat → Nat} {th : Int32} {u : MU} {sg : Sg} (hM : MS g ad th u sg) (hW : WN u) {v w : Int32} : MM g l yX9_guard cX9_guard 4 (some .int) (rmM 3) sg [.ref (ad 0), .int v, .int w] (PO g ad sg (opGuard u v w)) noX := by
  refine MM.of hl hst (by decide) (Nat.le_of_ble_eq_true rfl) (fun x hg hlx C hin hout hargs => ?_)
  subst hg; subst hlx
  have C : AWC x cX9_guard 4 RX9 (rmM 3) (some .int) := C
  have hF : MF ad sg sg := MF.rf
  show AW x (RQ x _ _ _ _) 0 0 sg 0 [(0, .ref (ad 0)), (1, .int v), (2, .int w)] []
  refine aw_aload_n C dX9_guard_0 rfl rfl rfl ?_
  refine aw_aload_n C dX9_guard_1 rfl rfl rfl ?_
  refine aw_iload_n C dX9_guard_2 rfl rfl rfl ?_
  refine mw_callVp C k_X9_137 hM (M_isPerson hl hst hM) ⟨by decide, by decide⟩ rfl rfl rfl (Nat.le_of_ble_eq_true rfl) dX9_guard_3 rfl ?_
  refine aw_if_eq (tgt := 22) C dX9_guard_6 (by decide) rfl (fun c6 => ?_) (fun c6 => ?_)
  · have c6 := fa_of c6
    refine aw_iconst (v := 1) C dX9_guard_22 rfl rfl ?_
    refine aw_goto (tgt := 63) C dX9_guard_23 (by decide) ?_
    refine mw_put (th' := _) (u' := _) C hM hF f_X9_117 rfl rfl rfl rfl rfl rfl dX9_guard_63 rfl (fun sg hM hF => ?_)
    refine aw_aload_n C dX9_guard_66 rfl rfl rfl ?_
    refine aw_getf C f_X9_117 hM.1 rfl dX9_guard_67 rfl ?_
    refine aw_if_le (tgt := 75) C dX9_guard_70 (by decide) rfl (fun h => by first | exact absurd h (by decide) | exact absurd (by decide) h) (fun _ => ?_)
    refine aw_iconst (v := 0) C dX9_guard_73 rfl rfl ?_
    exact aw_iret C rfl (Nat.le_refl _) (Nat.le_refl _) (PO.of (by simp [opGuard, c6]) hM hF) dX9_guard_74
  · have c6 := tr_of c6
    refine aw_iload_n C dX9_guard_9 rfl rfl rfl ?_
    refine aw_iconst (v := -1) C dX9_guard_10 rfl rfl ?_
    refine aw_icmp_eq (tgt := 26) C dX9_guard_11 (by decide) rfl (fun c11 => ?_) (fun c11 => ?_)
    · obtain ⟨p, hp, rfl⟩ := isP_of hW c6
      have hp12 : p < 12 := by have := hW.1; omega
      have hpc := clampI (n := p) (by omega)
      refine aw_iload_n C dX9_guard_26 rfl rfl rfl ?_
      refine aw_iload_n C dX9_guard_27 rfl rfl rfl ?_
      refine aw_icmp_ne (tgt := 35) C dX9_guard_28 (by decide) rfl (fun c28 => ?_) (fun c28 => ?_)
      · refine aw_aload_n C dX9_guard_35 rfl rfl rfl ?_
        refine aw_getf C f_X9_20 hM.1 rfl dX9_guard_36 rfl ?_
        refine aw_iload_n C dX9_guard_39 rfl rfl rfl ?_
        refine mw_zald (k := 6) (N := 12) C hM rfl rfl rfl (by omega) dX9_guard_40 rfl ?_
        refine aw_if_ne (tgt := 58) C dX9_guard_41 (by decide) rfl (fun c41 => ?_) (fun c41 => ?_)
        · refine aw_iconst (v := 3) C dX9_guard_58 rfl rfl ?_
          refine aw_goto (tgt := 63) C dX9_guard_59 (by decide) ?_
          refine mw_put (th' := _) (u' := _) C hM hF f_X9_117 rfl rfl rfl rfl rfl rfl dX9_guard_63 rfl (fun sg hM hF => ?_)
          refine aw_aload_n C dX9_guard_66 rfl rfl rfl ?_
          refine aw_getf C f_X9_117 hM.1 rfl dX9_guard_67 rfl ?_
          refine aw_if_le (tgt := 75) C dX9_guard_70 (by decide) rfl (fun h => by first | exact absurd h (by decide) | exact absurd (by decide) h) (fun _ => ?_)
          refine aw_iconst (v := 0) C dX9_guard_73 rfl rfl ?_
          exact aw_iret C rfl (Nat.le_refl _) (Nat.le_refl _) (PO.of (by have h28 := nI_nm1 (p := p) (by omega); simp [opGuard, c6, c11, h28, c41, hpc]) hM hF) dX9_guard_74
        · refine aw_iload_n C dX9_guard_44 rfl rfl rfl ?_
          refine aw_iconst (v := -1) C dX9_guard_45 rfl rfl ?_
          refine aw_icmp_eq (tgt := 62) C dX9_guard_46 (by decide) rfl (fun c46 => ?_) (fun c46 => ?_)
          · refine aw_iconst (v := 0) C dX9_guard_62 rfl rfl ?_
            refine mw_put (th' := _) (u' := _) C hM hF f_X9_117 rfl rfl rfl rfl rfl rfl dX9_guard_63 rfl (fun sg hM hF => ?_)
            refine aw_aload_n C dX9_guard_66 rfl rfl rfl ?_
            refine aw_getf C f_X9_117 hM.1 rfl dX9_guard_67 rfl ?_
            refine aw_if_le (tgt := 75) C dX9_guard_70 (by decide) rfl (fun _ => ?_) (fun h => by first | exact absurd h (by decide) | exact absurd (by decide) h)
            refine aw_aload_n C dX9_guard_75 rfl rfl rfl ?_
            refine aw_getf C f_X9_29 hM.1 rfl dX9_guard_76 rfl ?_
            refine aw_iload_n C dX9_guard_79 rfl rfl rfl ?_
            refine mw_iald (k := 9) (N := 12) C hM rfl rfl rfl (by omega) dX9_guard_80 rfl ?_
            refine aw_istore_n (ls' := [(3, _), (0, _), (1, _), (2, _)]) C dX9_guard_81 rfl (by decide) rfl rfl ?_
            refine aw_aload_n C dX9_guard_82 rfl rfl rfl ?_
            refine aw_getf C f_X9_29 hM.1 rfl dX9_guard_83 rfl ?_
            refine aw_iload_n C dX9_guard_86 rfl rfl rfl ?_
            refine aw_iload_n C dX9_guard_87 rfl rfl rfl ?_
            refine mw_iast (k := 9) (N := 12) C hM hF rfl rfl rfl (by omega) dX9_guard_88 rfl (fun sg hM hF => ?_)
            refine aw_iload_n C dX9_guard_89 rfl rfl rfl ?_
            exact aw_iret C rfl (Nat.le_refl _) (Nat.le_refl _) (PO.of (by have h28 := nI_nm1 (p := p) (by omega); simp [opGuard, c6, c11, h28, c41, c46, hpc]) hM hF) dX9_guard_90
          · exact absurd c11 c46
      · refine aw_iconst (v := 2) C dX9_guard_31 rfl rfl ?_
        refine aw_goto (tgt := 63) C dX9_guard_32 (by decide) ?_
        refine mw_put (th' := _) (u' := _) C hM hF f_X9_117 rfl rfl rfl rfl rfl rfl dX9_guard_63 rfl (fun sg hM hF => ?_)
        refine aw_aload_n C dX9_guard_66 rfl rfl rfl ?_
        refine aw_getf C f_X9_117 hM.1 rfl dX9_guard_67 rfl ?_
        refine aw_if_le (tgt := 75) C dX9_guard_70 (by decide) rfl (fun h => by first | exact absurd h (by decide) | exact absurd (by decide) h) (fun _ => ?_)
        refine aw_iconst (v := 0) C dX9_guard_73 rfl rfl ?_
        exact aw_iret C rfl (Nat.le_refl _) (Nat.le_refl _) (PO.of (by have h28 := nI_nm1 (p := p) (by omega); exact absurd (c28.trans c11) h28) hM hF) dX9_guard_74
    · refine aw_aload_n C dX9_guard_14 rfl rfl rfl ?_
      refine aw_iload_n C dX9_guard_15 rfl rfl rfl ?_
      refine mw_callVp C k_X9_137 hM (M_isPerson hl hst hM) ⟨by decide, by decide⟩ rfl rfl rfl (Nat.le_of_ble_eq_true rfl) dX9_guard_16 rfl ?_
      refine aw_if_ne (tgt := 26) C dX9_guard_19 (by decide) rfl (fun c19 => ?_) (fun c19 => ?_)
      · have c19 := tr_of c19
        obtain ⟨p, hp, rfl⟩ := isP_of hW c6
        have hp12 : p < 12 := by have := hW.1; omega
        have hpc := clampI (n := p) (by omega)
        obtain ⟨q, hq, rfl⟩ := isP_of hW c19
        have hq12 : q < 12 := by have := hW.1; omega
        have hqc := clampI (n := q) (by omega)
        refine aw_iload_n C dX9_guard_26 rfl rfl rfl ?_
        refine aw_iload_n C dX9_guard_27 rfl rfl rfl ?_
        refine aw_icmp_ne (tgt := 35) C dX9_guard_28 (by decide) rfl (fun c28 => ?_) (fun c28 => ?_)
        · refine aw_aload_n C dX9_guard_35 rfl rfl rfl ?_
          refine aw_getf C f_X9_20 hM.1 rfl dX9_guard_36 rfl ?_
          refine aw_iload_n C dX9_guard_39 rfl rfl rfl ?_
          refine mw_zald (k := 6) (N := 12) C hM rfl rfl rfl (by omega) dX9_guard_40 rfl ?_
          refine aw_if_ne (tgt := 58) C dX9_guard_41 (by decide) rfl (fun c41 => ?_) (fun c41 => ?_)
          · refine aw_iconst (v := 3) C dX9_guard_58 rfl rfl ?_
            refine aw_goto (tgt := 63) C dX9_guard_59 (by decide) ?_
            refine mw_put (th' := _) (u' := _) C hM hF f_X9_117 rfl rfl rfl rfl rfl rfl dX9_guard_63 rfl (fun sg hM hF => ?_)
            refine aw_aload_n C dX9_guard_66 rfl rfl rfl ?_
            refine aw_getf C f_X9_117 hM.1 rfl dX9_guard_67 rfl ?_
            refine aw_if_le (tgt := 75) C dX9_guard_70 (by decide) rfl (fun h => by first | exact absurd h (by decide) | exact absurd (by decide) h) (fun _ => ?_)
            refine aw_iconst (v := 0) C dX9_guard_73 rfl rfl ?_
            exact aw_iret C rfl (Nat.le_refl _) (Nat.le_refl _) (PO.of (by simp [opGuard, c6, c11, c19, c28, c41, hpc, hqc]) hM hF) dX9_guard_74
          · refine aw_iload_n C dX9_guard_44 rfl rfl rfl ?_
            refine aw_iconst (v := -1) C dX9_guard_45 rfl rfl ?_
            refine aw_icmp_eq (tgt := 62) C dX9_guard_46 (by decide) rfl (fun c46 => ?_) (fun c46 => ?_)
            · exact absurd c46 c11
            · refine aw_aload_n C dX9_guard_49 rfl rfl rfl ?_
              refine aw_getf C f_X9_20 hM.1 rfl dX9_guard_50 rfl ?_
              refine aw_iload_n C dX9_guard_53 rfl rfl rfl ?_
              refine mw_zald (k := 6) (N := 12) C hM rfl rfl rfl (by omega) dX9_guard_54 rfl ?_
              refine aw_if_eq (tgt := 62) C dX9_guard_55 (by decide) rfl (fun c55 => ?_) (fun c55 => ?_)
              · refine aw_iconst (v := 0) C dX9_guard_62 rfl rfl ?_
                refine mw_put (th' := _) (u' := _) C hM hF f_X9_117 rfl rfl rfl rfl rfl rfl dX9_guard_63 rfl (fun sg hM hF => ?_)
                refine aw_aload_n C dX9_guard_66 rfl rfl rfl ?_
                refine aw_getf C f_X9_117 hM.1 rfl dX9_guard_67 rfl ?_
                refine aw_if_le (tgt := 75) C dX9_guard_70 (by decide) rfl (fun _ => ?_) (fun h => by first | exact absurd h (by decide) | exact absurd (by decide) h)
                refine aw_aload_n C dX9_guard_75 rfl rfl rfl ?_
                refine aw_getf C f_X9_29 hM.1 rfl dX9_guard_76 rfl ?_
                refine aw_iload_n C dX9_guard_79 rfl rfl rfl ?_
                refine mw_iald (k := 9) (N := 12) C hM rfl rfl rfl (by omega) dX9_guard_80 rfl ?_
                refine aw_istore_n (ls' := [(3, _), (0, _), (1, _), (2, _)]) C dX9_guard_81 rfl (by decide) rfl rfl ?_
                refine aw_aload_n C dX9_guard_82 rfl rfl rfl ?_
                refine aw_getf C f_X9_29 hM.1 rfl dX9_guard_83 rfl ?_
                refine aw_iload_n C dX9_guard_86 rfl rfl rfl ?_
                refine aw_iload_n C dX9_guard_87 rfl rfl rfl ?_
                refine mw_iast (k := 9) (N := 12) C hM hF rfl rfl rfl (by omega) dX9_guard_88 rfl (fun sg hM hF => ?_)
                refine aw_iload_n C dX9_guard_89 rfl rfl rfl ?_
                exact aw_iret C rfl (Nat.le_refl _) (Nat.le_refl _) (PO.of (by simp [opGuard, c6, c11, c19, c28, c41, c46, c55, hpc, hqc]) hM hF) dX9_guard_90
              · refine aw_iconst (v := 3) C dX9_guard_58 rfl rfl ?_
                refine aw_goto (tgt := 63) C dX9_guard_59 (by decide) ?_
                refine mw_put (th' := _) (u' := _) C hM hF f_X9_117 rfl rfl rfl rfl rfl rfl dX9_guard_63 rfl (fun sg hM hF => ?_)
                refine aw_aload_n C dX9_guard_66 rfl rfl rfl ?_
                refine aw_getf C f_X9_117 hM.1 rfl dX9_guard_67 rfl ?_
                refine aw_if_le (tgt := 75) C dX9_guard_70 (by decide) rfl (fun h => by first | exact absurd h (by decide) | exact absurd (by decide) h) (fun _ => ?_)
                refine aw_iconst (v := 0) C dX9_guard_73 rfl rfl ?_
                exact aw_iret C rfl (Nat.le_refl _) (Nat.le_refl _) (PO.of (by simp [opGuard, c6, c11, c19, c28, c41, c46, c55, hpc, hqc]) hM hF) dX9_guard_74
        · refine aw_iconst (v := 2) C dX9_guard_31 rfl rfl ?_
          refine aw_goto (tgt := 63) C dX9_guard_32 (by decide) ?_
          refine mw_put (th' := _) (u' := _) C hM hF f_X9_117 rfl rfl rfl rfl rfl rfl dX9_guard_63 rfl (fun sg hM hF => ?_)
          refine aw_aload_n C dX9_guard_66 rfl rfl rfl ?_
          refine aw_getf C f_X9_117 hM.1 rfl dX9_guard_67 rfl ?_
          refine aw_if_le (tgt := 75) C dX9_guard_70 (by decide) rfl (fun h => by first | exact absurd h (by decide) | exact absurd (by decide) h) (fun _ => ?_)
          refine aw_iconst (v := 0) C dX9_guard_73 rfl rfl ?_
          exact aw_iret C rfl (Nat.le_refl _) (Nat.le_refl _) (PO.of (by simp [opGuard, c6, c11, c19, c28, hpc, hqc]) hM hF) dX9_guard_74
      · have c19 := fa_of c19
        refine aw_iconst (v := 1) C dX9_guard_22 rfl rfl ?_
        refine aw_goto (tgt := 63) C dX9_guard_23 (by decide) ?_
        refine mw_put (th' := _) (u' := _) C hM hF f_X9_117 rfl rfl rfl rfl rfl rfl dX9_guard_63 rfl (fun sg hM hF => ?_)
        refine aw_aload_n C dX9_guard_66 rfl rfl rfl ?_
        refine aw_getf C f_X9_117 hM.1 rfl dX9_guard_67 rfl ?_
        refine aw_if_le (tgt := 75) C dX9_guard_70 (by decide) rfl (fun h => by first | exact absurd h (by decide) | exact absurd (by decide) h) (fun _ => ?_)
        refine aw_iconst (v := 0) C dX9_guard_73 rfl rfl ?_
        exact aw_iret C rfl (Nat.le_refl _) (Nat.le_refl _) (PO.of (by simp [opGuard, c6, c11, c19]) hM hF) dX9_guard_74
set_option maxRecDepth 100000 in
theorem M_draft {g : Gx} {l : Launch} (hl : l.flags = flags0) (hst : g.Stable) {ad : Nat → Nat} {th : Int32} {u : MU} {sg : Sg} (hM : MS g ad th u sg) (hW : WN u) {s a b t y z : Int32} : MM g l yX9_draft cX9_draft 8 (some .int) (rmM 3) sg [.ref (ad 0), .int s, .int a, .int b, .int t, .int y, .int z] (PO g ad sg (opDraft u s a b t y z)) noX := by
  refine MM.of hl hst (by decide) (Nat.le_of_ble_eq_true rfl) (fun x hg hlx C hin hout hargs => ?_)
  subst hg; subst hlx
  have C : AWC x cX9_draft 8 RX9 (rmM 3) (some .int) := C
  have hF : MF ad sg sg := MF.rf
  show AW x (RQ x _ _ _ _) 0 0 sg 0 [(0, .ref (ad 0)), (1, .int s), (2, .int a), (3, .int b), (4, .int t), (5, .int y), (6, .int z)] []
  refine aw_aload_n C dX9_draft_0 rfl rfl rfl ?_
  refine aw_iload_n C dX9_draft_1 rfl rfl rfl ?_
  refine mw_callVp C k_X9_137 hM (M_isPerson hl hst hM) ⟨by decide, by decide⟩ rfl rfl rfl (Nat.le_of_ble_eq_true rfl) dX9_draft_2 rfl ?_
  refine aw_if_eq (tgt := 29) C dX9_draft_5 (by decide) rfl (fun c5 => ?_) (fun c5 => ?_)
  · have c5 := fa_of c5
    refine aw_iconst (v := 0) C dX9_draft_29 rfl rfl ?_
    refine aw_istore (ls' := [(7, _), (0, _), (1, _), (2, _), (3, _), (4, _), (5, _), (6, _)]) C dX9_draft_30 (by decide) rfl rfl ?_
    refine aw_aload_n C dX9_draft_32 rfl rfl rfl ?_
    refine aw_iload C dX9_draft_33 rfl rfl ?_
    refine aw_if_ne (tgt := 42) C dX9_draft_35 (by decide) rfl (fun h => by first | exact absurd h (by decide) | exact absurd (by decide) h) (fun _ => ?_)
    refine aw_iconst (v := 1) C dX9_draft_38 rfl rfl ?_
    refine aw_goto (tgt := 96) C dX9_draft_39 (by decide) ?_
    refine mw_put (th' := _) (u' := _) C hM hF f_X9_117 rfl rfl rfl rfl rfl rfl dX9_draft_96 rfl (fun sg hM hF => ?_)
    refine aw_aload_n C dX9_draft_99 rfl rfl rfl ?_
    refine aw_getf C f_X9_117 hM.1 rfl dX9_draft_100 rfl ?_
    refine aw_if_le (tgt := 108) C dX9_draft_103 (by decide) rfl (fun h => by first | exact absurd h (by decide) | exact absurd (by decide) h) (fun _ => ?_)
    refine aw_iconst (v := 0) C dX9_draft_106 rfl rfl ?_
    exact aw_iret C rfl (Nat.le_refl _) (Nat.le_refl _) (PO.of (by simp [opDraft, c5]) hM hF) dX9_draft_107
  · have c5 := tr_of c5
    refine aw_aload_n C dX9_draft_8 rfl rfl rfl ?_
    refine aw_iload_n C dX9_draft_9 rfl rfl rfl ?_
    refine mw_callVp C k_X9_137 hM (M_isPerson hl hst hM) ⟨by decide, by decide⟩ rfl rfl rfl (Nat.le_of_ble_eq_true rfl) dX9_draft_10 rfl ?_
    refine aw_if_eq (tgt := 29) C dX9_draft_13 (by decide) rfl (fun c13 => ?_) (fun c13 => ?_)
    · have c13 := fa_of c13
      refine aw_iconst (v := 0) C dX9_draft_29 rfl rfl ?_
      refine aw_istore (ls' := [(7, _), (0, _), (1, _), (2, _), (3, _), (4, _), (5, _), (6, _)]) C dX9_draft_30 (by decide) rfl rfl ?_
      refine aw_aload_n C dX9_draft_32 rfl rfl rfl ?_
      refine aw_iload C dX9_draft_33 rfl rfl ?_
      refine aw_if_ne (tgt := 42) C dX9_draft_35 (by decide) rfl (fun h => by first | exact absurd h (by decide) | exact absurd (by decide) h) (fun _ => ?_)
      refine aw_iconst (v := 1) C dX9_draft_38 rfl rfl ?_
      refine aw_goto (tgt := 96) C dX9_draft_39 (by decide) ?_
      refine mw_put (th' := _) (u' := _) C hM hF f_X9_117 rfl rfl rfl rfl rfl rfl dX9_draft_96 rfl (fun sg hM hF => ?_)
      refine aw_aload_n C dX9_draft_99 rfl rfl rfl ?_
      refine aw_getf C f_X9_117 hM.1 rfl dX9_draft_100 rfl ?_
      refine aw_if_le (tgt := 108) C dX9_draft_103 (by decide) rfl (fun h => by first | exact absurd h (by decide) | exact absurd (by decide) h) (fun _ => ?_)
      refine aw_iconst (v := 0) C dX9_draft_106 rfl rfl ?_
      exact aw_iret C rfl (Nat.le_refl _) (Nat.le_refl _) (PO.of (by simp [opDraft, c5, c13]) hM hF) dX9_draft_107
    · have c13 := tr_of c13
      obtain ⟨p, hp, rfl⟩ := isP_of hW c5
      have hp12 : p < 12 := by have := hW.1; omega
      have hpc := clampI (n := p) (by omega)
      obtain ⟨q, hq, rfl⟩ := isP_of hW c13
      have hq12 : q < 12 := by have := hW.1; omega
      have hqc := clampI (n := q) (by omega)
      refine aw_aload_n C dX9_draft_16 rfl rfl rfl ?_
      refine aw_iload C dX9_draft_17 rfl rfl ?_
      refine mw_callVp C k_X9_149 hM (M_isThing hl hst hM) ⟨by decide, by decide⟩ rfl rfl rfl (Nat.le_of_ble_eq_true rfl) dX9_draft_19 rfl ?_
      refine aw_if_eq (tgt := 29) C dX9_draft_22 (by decide) rfl (fun c22 => ?_) (fun c22 => ?_)
      · have c22 := fa_of c22
        refine aw_iconst (v := 0) C dX9_draft_29 rfl rfl ?_
        refine aw_istore (ls' := [(7, _), (0, _), (1, _), (2, _), (3, _), (4, _), (5, _), (6, _)]) C dX9_draft_30 (by decide) rfl rfl ?_
        refine aw_aload_n C dX9_draft_32 rfl rfl rfl ?_
        refine aw_iload C dX9_draft_33 rfl rfl ?_
        refine aw_if_ne (tgt := 42) C dX9_draft_35 (by decide) rfl (fun h => by first | exact absurd h (by decide) | exact absurd (by decide) h) (fun _ => ?_)
        refine aw_iconst (v := 1) C dX9_draft_38 rfl rfl ?_
        refine aw_goto (tgt := 96) C dX9_draft_39 (by decide) ?_
        refine mw_put (th' := _) (u' := _) C hM hF f_X9_117 rfl rfl rfl rfl rfl rfl dX9_draft_96 rfl (fun sg hM hF => ?_)
        refine aw_aload_n C dX9_draft_99 rfl rfl rfl ?_
        refine aw_getf C f_X9_117 hM.1 rfl dX9_draft_100 rfl ?_
        refine aw_if_le (tgt := 108) C dX9_draft_103 (by decide) rfl (fun h => by first | exact absurd h (by decide) | exact absurd (by decide) h) (fun _ => ?_)
        refine aw_iconst (v := 0) C dX9_draft_106 rfl rfl ?_
        exact aw_iret C rfl (Nat.le_refl _) (Nat.le_refl _) (PO.of (by simp [opDraft, c5, c13, c22, hpc, hqc]) hM hF) dX9_draft_107
      · have c22 := tr_of c22
        refine aw_iconst (v := 1) C dX9_draft_25 rfl rfl ?_
        refine aw_goto (tgt := 30) C dX9_draft_26 (by decide) ?_
        refine aw_istore (ls' := [(7, _), (0, _), (1, _), (2, _), (3, _), (4, _), (5, _), (6, _)]) C dX9_draft_30 (by decide) rfl rfl ?_
        refine aw_aload_n C dX9_draft_32 rfl rfl rfl ?_
        refine aw_iload C dX9_draft_33 rfl rfl ?_
        refine aw_if_ne (tgt := 42) C dX9_draft_35 (by decide) rfl (fun _ => ?_) (fun h => by first | exact absurd h (by decide) | exact absurd (by decide) h)
        refine aw_iload_n C dX9_draft_42 rfl rfl rfl ?_
        refine aw_iconst (v := 0) C dX9_draft_43 rfl rfl ?_
        refine aw_iconst (v := 2) C dX9_draft_44 rfl rfl ?_
        refine mw_callSp C k_X9_124 (M_in hl hst) ⟨by decide, by decide⟩ rfl rfl (Nat.le_of_ble_eq_true rfl) dX9_draft_45 rfl ?_
        refine aw_if_eq (tgt := 78) C dX9_draft_48 (by decide) rfl (fun c48 => ?_) (fun c48 => ?_)
        · have c48 := fa_of c48
          refine aw_iconst (v := 2) C dX9_draft_78 rfl rfl ?_
          refine aw_goto (tgt := 96) C dX9_draft_79 (by decide) ?_
          refine mw_put (th' := _) (u' := _) C hM hF f_X9_117 rfl rfl rfl rfl rfl rfl dX9_draft_96 rfl (fun sg hM hF => ?_)
          refine aw_aload_n C dX9_draft_99 rfl rfl rfl ?_
          refine aw_getf C f_X9_117 hM.1 rfl dX9_draft_100 rfl ?_
          refine aw_if_le (tgt := 108) C dX9_draft_103 (by decide) rfl (fun h => by first | exact absurd h (by decide) | exact absurd (by decide) h) (fun _ => ?_)
          refine aw_iconst (v := 0) C dX9_draft_106 rfl rfl ?_
          exact aw_iret C rfl (Nat.le_refl _) (Nat.le_refl _) (PO.of (by simp [opDraft, c5, c13, c22, c48, hpc, hqc]) hM hF) dX9_draft_107
        · have c48 := tr_of c48
          refine aw_iload C dX9_draft_51 rfl rfl ?_
          refine aw_iconst (v := 1) C dX9_draft_53 rfl rfl ?_
          refine aw_bipush (v := 100) C dX9_draft_54 rfl rfl ?_
          refine mw_callSp C k_X9_124 (M_in hl hst) ⟨by decide, by decide⟩ rfl rfl (Nat.le_of_ble_eq_true rfl) dX9_draft_56 rfl ?_
          refine aw_if_eq (tgt := 78) C dX9_draft_59 (by decide) rfl (fun c59 => ?_) (fun c59 => ?_)
          · have c59 := fa_of c59
            refine aw_iconst (v := 2) C dX9_draft_78 rfl rfl ?_
            refine aw_goto (tgt := 96) C dX9_draft_79 (by decide) ?_
            refine mw_put (th' := _) (u' := _) C hM hF f_X9_117 rfl rfl rfl rfl rfl rfl dX9_draft_96 rfl (fun sg hM hF => ?_)
            refine aw_aload_n C dX9_draft_99 rfl rfl rfl ?_
            refine aw_getf C f_X9_117 hM.1 rfl dX9_draft_100 rfl ?_
            refine aw_if_le (tgt := 108) C dX9_draft_103 (by decide) rfl (fun h => by first | exact absurd h (by decide) | exact absurd (by decide) h) (fun _ => ?_)
            refine aw_iconst (v := 0) C dX9_draft_106 rfl rfl ?_
            exact aw_iret C rfl (Nat.le_refl _) (Nat.le_refl _) (PO.of (by simp [opDraft, c5, c13, c22, c48, c59, hpc, hqc]) hM hF) dX9_draft_107
          · have c59 := tr_of c59
            refine aw_iload C dX9_draft_62 rfl rfl ?_
            refine aw_iconst (v := 1) C dX9_draft_64 rfl rfl ?_
            refine aw_iload C dX9_draft_65 rfl rfl ?_
            refine mw_callSp C k_X9_124 (M_in hl hst) ⟨by decide, by decide⟩ rfl rfl (Nat.le_of_ble_eq_true rfl) dX9_draft_67 rfl ?_
            refine aw_if_eq (tgt := 78) C dX9_draft_70 (by decide) rfl (fun c70 => ?_) (fun c70 => ?_)
            · have c70 := fa_of c70
              refine aw_iconst (v := 2) C dX9_draft_78 rfl rfl ?_
              refine aw_goto (tgt := 96) C dX9_draft_79 (by decide) ?_
              refine mw_put (th' := _) (u' := _) C hM hF f_X9_117 rfl rfl rfl rfl rfl rfl dX9_draft_96 rfl (fun sg hM hF => ?_)
              refine aw_aload_n C dX9_draft_99 rfl rfl rfl ?_
              refine aw_getf C f_X9_117 hM.1 rfl dX9_draft_100 rfl ?_
              refine aw_if_le (tgt := 108) C dX9_draft_103 (by decide) rfl (fun h => by first | exact absurd h (by decide) | exact absurd (by decide) h) (fun _ => ?_)
              refine aw_iconst (v := 0) C dX9_draft_106 rfl rfl ?_
              exact aw_iret C rfl (Nat.le_refl _) (Nat.le_refl _) (PO.of (by simp [opDraft, c5, c13, c22, c48, c59, c70, hpc, hqc]) hM hF) dX9_draft_107
            · have c70 := tr_of c70
              refine aw_iload_n C dX9_draft_73 rfl rfl rfl ?_
              refine aw_iload_n C dX9_draft_74 rfl rfl rfl ?_
              refine aw_icmp_ne (tgt := 82) C dX9_draft_75 (by decide) rfl (fun c75 => ?_) (fun c75 => ?_)
              · refine aw_aload_n C dX9_draft_82 rfl rfl rfl ?_
                refine aw_iload_n C dX9_draft_83 rfl rfl rfl ?_
                refine aw_iload_n C dX9_draft_84 rfl rfl rfl ?_
                refine mw_callVp C k_X9_152 hM (M_hasRoom hl hst hM hp12 hq12) ⟨by decide, by decide⟩ rfl rfl rfl (Nat.le_of_ble_eq_true rfl) dX9_draft_85 rfl ?_
                refine aw_if_ne (tgt := 95) C dX9_draft_88 (by decide) rfl (fun c88 => ?_) (fun c88 => ?_)
                · have c88 := tr_of c88
                  refine aw_iconst (v := 0) C dX9_draft_95 rfl rfl ?_
                  refine mw_put (th' := _) (u' := _) C hM hF f_X9_117 rfl rfl rfl rfl rfl rfl dX9_draft_96 rfl (fun sg hM hF => ?_)
                  refine aw_aload_n C dX9_draft_99 rfl rfl rfl ?_
                  refine aw_getf C f_X9_117 hM.1 rfl dX9_draft_100 rfl ?_
                  refine aw_if_le (tgt := 108) C dX9_draft_103 (by decide) rfl (fun _ => ?_) (fun h => by first | exact absurd h (by decide) | exact absurd (by decide) h)
                  have hd := room_of (a := p) (b := q) hW (by rw [c88]; decide)
                  refine aw_aload_n C dX9_draft_108 rfl rfl rfl ?_
                  refine aw_getf C f_X9_41 hM.1 rfl dX9_draft_109 rfl ?_
                  refine aw_aload_n C dX9_draft_112 rfl rfl rfl ?_
                  refine aw_getf C f_X9_128 hM.1 rfl dX9_draft_113 rfl ?_
                  refine aw_iload C dX9_draft_116 rfl rfl ?_
                  refine mw_iast (k := 14) (N := 60) C hM hF rfl rfl (i := u.2.2.1 10) rfl hd dX9_draft_118 rfl (fun sg hM hF => ?_)
                  refine aw_aload_n C dX9_draft_119 rfl rfl rfl ?_
                  refine aw_getf C f_X9_44 hM.1 rfl dX9_draft_120 rfl ?_
                  refine aw_aload_n C dX9_draft_123 rfl rfl rfl ?_
                  refine aw_getf C f_X9_128 hM.1 rfl dX9_draft_124 rfl ?_
                  refine aw_iload C dX9_draft_127 rfl rfl ?_
                  refine mw_iast (k := 15) (N := 60) C hM hF rfl rfl (i := u.2.2.1 10) rfl hd dX9_draft_129 rfl (fun sg hM hF => ?_)
                  refine aw_aload_n C dX9_draft_130 rfl rfl rfl ?_
                  refine aw_getf C f_X9_47 hM.1 rfl dX9_draft_131 rfl ?_
                  refine aw_aload_n C dX9_draft_134 rfl rfl rfl ?_
                  refine aw_getf C f_X9_128 hM.1 rfl dX9_draft_135 rfl ?_
                  refine aw_iload C dX9_draft_138 rfl rfl ?_
                  refine mw_iast (k := 16) (N := 60) C hM hF rfl rfl (i := u.2.2.1 10) rfl hd dX9_draft_140 rfl (fun sg hM hF => ?_)
                  refine aw_aload_n C dX9_draft_141 rfl rfl rfl ?_
                  refine aw_iload_n C dX9_draft_142 rfl rfl rfl ?_
                  refine aw_iload_n C dX9_draft_143 rfl rfl rfl ?_
                  refine aw_iload_n C dX9_draft_144 rfl rfl rfl ?_
                  refine mw_callV C k_X9_155 hM (M_drafts hl hst hM hd) ⟨by decide, by decide⟩ rfl rfl rfl (Nat.le_of_ble_eq_true rfl) dX9_draft_145 rfl (fun v sg1 hq => ?_)
                  obtain ⟨rfl, hM1, hF1⟩ := hq
                  exact aw_iret C rfl (Nat.le_refl _) (Nat.le_refl _) (PO.of (by rw [opDraft, if_neg (by simp [c5, c13, c22]), if_neg (by simp [c48, c59, c70, c75]), hpc, hqc, if_neg (by simp [c88])]; rfl) hM1 (MF.tr hF hF1)) dX9_draft_148
                · have c88 := fa_of c88
                  refine aw_iconst (v := 3) C dX9_draft_91 rfl rfl ?_
                  refine aw_goto (tgt := 96) C dX9_draft_92 (by decide) ?_
                  refine mw_put (th' := _) (u' := _) C hM hF f_X9_117 rfl rfl rfl rfl rfl rfl dX9_draft_96 rfl (fun sg hM hF => ?_)
                  refine aw_aload_n C dX9_draft_99 rfl rfl rfl ?_
                  refine aw_getf C f_X9_117 hM.1 rfl dX9_draft_100 rfl ?_
                  refine aw_if_le (tgt := 108) C dX9_draft_103 (by decide) rfl (fun h => by first | exact absurd h (by decide) | exact absurd (by decide) h) (fun _ => ?_)
                  refine aw_iconst (v := 0) C dX9_draft_106 rfl rfl ?_
                  exact aw_iret C rfl (Nat.le_refl _) (Nat.le_refl _) (PO.of (by simp [opDraft, c5, c13, c22, c48, c59, c70, c75, c88, hpc, hqc]) hM hF) dX9_draft_107
              · refine aw_iconst (v := 2) C dX9_draft_78 rfl rfl ?_
                refine aw_goto (tgt := 96) C dX9_draft_79 (by decide) ?_
                refine mw_put (th' := _) (u' := _) C hM hF f_X9_117 rfl rfl rfl rfl rfl rfl dX9_draft_96 rfl (fun sg hM hF => ?_)
                refine aw_aload_n C dX9_draft_99 rfl rfl rfl ?_
                refine aw_getf C f_X9_117 hM.1 rfl dX9_draft_100 rfl ?_
                refine aw_if_le (tgt := 108) C dX9_draft_103 (by decide) rfl (fun h => by first | exact absurd h (by decide) | exact absurd (by decide) h) (fun _ => ?_)
                refine aw_iconst (v := 0) C dX9_draft_106 rfl rfl ?_
                exact aw_iret C rfl (Nat.le_refl _) (Nat.le_refl _) (PO.of (by simp [opDraft, c5, c13, c22, c48, c59, c70, c75, hpc, hqc]) hM hF) dX9_draft_107
set_option maxRecDepth 100000 in
theorem M_power {g : Gx} {l : Launch} (hl : l.flags = flags0) (hst : g.Stable) {ad : Nat → Nat} {th : Int32} {u : MU} {sg : Sg} (hM : MS g ad th u sg) (hW : WN u) {a b t z : Int32} {f : Bool} : MM g l yX9_power cX9_power 7 (some .int) (rmM 3) sg [.ref (ad 0), .int a, .int b, .int t, .int z, .int (b2i f)] (PO g ad sg (opPower u a b t z f)) noX := by
  refine MM.of hl hst (by decide) (Nat.le_of_ble_eq_true rfl) (fun x hg hlx C hin hout hargs => ?_)
  subst hg; subst hlx
  have C : AWC x cX9_power 7 RX9 (rmM 3) (some .int) := C
  have hF : MF ad sg sg := MF.rf
  show AW x (RQ x _ _ _ _) 0 0 sg 0 [(0, .ref (ad 0)), (1, .int a), (2, .int b), (3, .int t), (4, .int z), (5, .int (b2i f))] []
  refine aw_aload_n C dX9_power_0 rfl rfl rfl ?_
  refine aw_iload_n C dX9_power_1 rfl rfl rfl ?_
  refine mw_callVp C k_X9_137 hM (M_isPerson hl hst hM) ⟨by decide, by decide⟩ rfl rfl rfl (Nat.le_of_ble_eq_true rfl) dX9_power_2 rfl ?_
  refine aw_if_eq (tgt := 33) C dX9_power_5 (by decide) rfl (fun c5 => ?_) (fun c5 => ?_)
  · have c5 := fa_of c5
    refine aw_iconst (v := 0) C dX9_power_33 rfl rfl ?_
    refine aw_istore (ls' := [(6, _), (0, _), (1, _), (2, _), (3, _), (4, _), (5, _)]) C dX9_power_34 (by decide) rfl rfl ?_
    refine aw_aload_n C dX9_power_36 rfl rfl rfl ?_
    refine aw_iload C dX9_power_37 rfl rfl ?_
    refine aw_if_ne (tgt := 46) C dX9_power_39 (by decide) rfl (fun h => by first | exact absurd h (by decide) | exact absurd (by decide) h) (fun _ => ?_)
    refine aw_iconst (v := 1) C dX9_power_42 rfl rfl ?_
    refine aw_goto (tgt := 81) C dX9_power_43 (by decide) ?_
    refine mw_put (th' := _) (u' := _) C hM hF f_X9_117 rfl rfl rfl rfl rfl rfl dX9_power_81 rfl (fun sg hM hF => ?_)
    refine aw_aload_n C dX9_power_84 rfl rfl rfl ?_
    refine aw_getf C f_X9_117 hM.1 rfl dX9_power_85 rfl ?_
    refine aw_if_le (tgt := 93) C dX9_power_88 (by decide) rfl (fun h => by first | exact absurd h (by decide) | exact absurd (by decide) h) (fun _ => ?_)
    refine aw_iconst (v := 0) C dX9_power_91 rfl rfl ?_
    exact aw_iret C rfl (Nat.le_refl _) (Nat.le_refl _) (PO.of (by simp [opPower, c5]) hM hF) dX9_power_92
  · have c5 := tr_of c5
    refine aw_aload_n C dX9_power_8 rfl rfl rfl ?_
    refine aw_iload_n C dX9_power_9 rfl rfl rfl ?_
    refine mw_callVp C k_X9_137 hM (M_isPerson hl hst hM) ⟨by decide, by decide⟩ rfl rfl rfl (Nat.le_of_ble_eq_true rfl) dX9_power_10 rfl ?_
    refine aw_if_eq (tgt := 33) C dX9_power_13 (by decide) rfl (fun c13 => ?_) (fun c13 => ?_)
    · have c13 := fa_of c13
      refine aw_iconst (v := 0) C dX9_power_33 rfl rfl ?_
      refine aw_istore (ls' := [(6, _), (0, _), (1, _), (2, _), (3, _), (4, _), (5, _)]) C dX9_power_34 (by decide) rfl rfl ?_
      refine aw_aload_n C dX9_power_36 rfl rfl rfl ?_
      refine aw_iload C dX9_power_37 rfl rfl ?_
      refine aw_if_ne (tgt := 46) C dX9_power_39 (by decide) rfl (fun h => by first | exact absurd h (by decide) | exact absurd (by decide) h) (fun _ => ?_)
      refine aw_iconst (v := 1) C dX9_power_42 rfl rfl ?_
      refine aw_goto (tgt := 81) C dX9_power_43 (by decide) ?_
      refine mw_put (th' := _) (u' := _) C hM hF f_X9_117 rfl rfl rfl rfl rfl rfl dX9_power_81 rfl (fun sg hM hF => ?_)
      refine aw_aload_n C dX9_power_84 rfl rfl rfl ?_
      refine aw_getf C f_X9_117 hM.1 rfl dX9_power_85 rfl ?_
      refine aw_if_le (tgt := 93) C dX9_power_88 (by decide) rfl (fun h => by first | exact absurd h (by decide) | exact absurd (by decide) h) (fun _ => ?_)
      refine aw_iconst (v := 0) C dX9_power_91 rfl rfl ?_
      exact aw_iret C rfl (Nat.le_refl _) (Nat.le_refl _) (PO.of (by simp [opPower, c5, c13]) hM hF) dX9_power_92
    · have c13 := tr_of c13
      obtain ⟨p, hp, rfl⟩ := isP_of hW c5
      have hp12 : p < 12 := by have := hW.1; omega
      have hpc := clampI (n := p) (by omega)
      obtain ⟨q, hq, rfl⟩ := isP_of hW c13
      have hq12 : q < 12 := by have := hW.1; omega
      have hqc := clampI (n := q) (by omega)
      refine aw_iload_n C dX9_power_16 rfl rfl rfl ?_
      refine aw_iconst (v := -1) C dX9_power_17 rfl rfl ?_
      refine aw_icmp_eq (tgt := 29) C dX9_power_18 (by decide) rfl (fun c18 => ?_) (fun c18 => ?_)
      · refine aw_iconst (v := 1) C dX9_power_29 rfl rfl ?_
        refine aw_goto (tgt := 34) C dX9_power_30 (by decide) ?_
        refine aw_istore (ls' := [(6, _), (0, _), (1, _), (2, _), (3, _), (4, _), (5, _)]) C dX9_power_34 (by decide) rfl rfl ?_
        refine aw_aload_n C dX9_power_36 rfl rfl rfl ?_
        refine aw_iload C dX9_power_37 rfl rfl ?_
        refine aw_if_ne (tgt := 46) C dX9_power_39 (by decide) rfl (fun _ => ?_) (fun h => by first | exact absurd h (by decide) | exact absurd (by decide) h)
        refine aw_iload C dX9_power_46 rfl rfl ?_
        refine aw_iconst (v := 1) C dX9_power_48 rfl rfl ?_
        refine aw_sipush (v := 1000) C dX9_power_49 rfl rfl ?_
        refine mw_callSp C k_X9_124 (M_in hl hst) ⟨by decide, by decide⟩ rfl rfl (Nat.le_of_ble_eq_true rfl) dX9_power_52 rfl ?_
        refine aw_if_eq (tgt := 63) C dX9_power_55 (by decide) rfl (fun c55 => ?_) (fun c55 => ?_)
        · have c55 := fa_of c55
          refine aw_iconst (v := 2) C dX9_power_63 rfl rfl ?_
          refine aw_goto (tgt := 81) C dX9_power_64 (by decide) ?_
          refine mw_put (th' := _) (u' := _) C hM hF f_X9_117 rfl rfl rfl rfl rfl rfl dX9_power_81 rfl (fun sg hM hF => ?_)
          refine aw_aload_n C dX9_power_84 rfl rfl rfl ?_
          refine aw_getf C f_X9_117 hM.1 rfl dX9_power_85 rfl ?_
          refine aw_if_le (tgt := 93) C dX9_power_88 (by decide) rfl (fun h => by first | exact absurd h (by decide) | exact absurd (by decide) h) (fun _ => ?_)
          refine aw_iconst (v := 0) C dX9_power_91 rfl rfl ?_
          exact aw_iret C rfl (Nat.le_refl _) (Nat.le_refl _) (PO.of (by simp [opPower, c5, c13, c18, c55, hpc, hqc]) hM hF) dX9_power_92
        · have c55 := tr_of c55
          refine aw_iload_n C dX9_power_58 rfl rfl rfl ?_
          refine aw_iload_n C dX9_power_59 rfl rfl rfl ?_
          refine aw_icmp_ne (tgt := 67) C dX9_power_60 (by decide) rfl (fun c60 => ?_) (fun c60 => ?_)
          · refine aw_aload_n C dX9_power_67 rfl rfl rfl ?_
            refine aw_iload_n C dX9_power_68 rfl rfl rfl ?_
            refine aw_iload_n C dX9_power_69 rfl rfl rfl ?_
            refine mw_callVp C k_X9_152 hM (M_hasRoom hl hst hM hp12 hq12) ⟨by decide, by decide⟩ rfl rfl rfl (Nat.le_of_ble_eq_true rfl) dX9_power_70 rfl ?_
            refine aw_if_ne (tgt := 80) C dX9_power_73 (by decide) rfl (fun c73 => ?_) (fun c73 => ?_)
            · have c73 := tr_of c73
              refine aw_iconst (v := 0) C dX9_power_80 rfl rfl ?_
              refine mw_put (th' := _) (u' := _) C hM hF f_X9_117 rfl rfl rfl rfl rfl rfl dX9_power_81 rfl (fun sg hM hF => ?_)
              refine aw_aload_n C dX9_power_84 rfl rfl rfl ?_
              refine aw_getf C f_X9_117 hM.1 rfl dX9_power_85 rfl ?_
              refine aw_if_le (tgt := 93) C dX9_power_88 (by decide) rfl (fun _ => ?_) (fun h => by first | exact absurd h (by decide) | exact absurd (by decide) h)
              have hd := room_of (a := p) (b := q) hW (by rw [c73]; decide)
              refine aw_aload_n C dX9_power_93 rfl rfl rfl ?_
              refine aw_getf C f_X9_41 hM.1 rfl dX9_power_94 rfl ?_
              refine aw_aload_n C dX9_power_97 rfl rfl rfl ?_
              refine aw_getf C f_X9_128 hM.1 rfl dX9_power_98 rfl ?_
              refine aw_iload_n C dX9_power_101 rfl rfl rfl ?_
              refine mw_iast (k := 14) (N := 60) C hM hF rfl rfl (i := u.2.2.1 10) rfl hd dX9_power_102 rfl (fun sg hM hF => ?_)
              refine aw_aload_n C dX9_power_103 rfl rfl rfl ?_
              refine aw_getf C f_X9_50 hM.1 rfl dX9_power_104 rfl ?_
              refine aw_aload_n C dX9_power_107 rfl rfl rfl ?_
              refine aw_getf C f_X9_128 hM.1 rfl dX9_power_108 rfl ?_
              refine aw_aload_n C dX9_power_111 rfl rfl rfl ?_
              refine aw_getf C f_X9_134 hM.1 rfl dX9_power_112 rfl ?_
              refine aw_iload C dX9_power_115 rfl rfl ?_
              refine aw_iadd C dX9_power_117 rfl ?_
              refine mw_iast (k := 17) (N := 60) C hM hF rfl rfl (i := u.2.2.1 10) (v := u.2.2.2.1 + z) rfl hd dX9_power_118 rfl (fun sg hM hF => ?_)
              refine aw_aload_n C dX9_power_119 rfl rfl rfl ?_
              refine aw_getf C f_X9_53 hM.1 rfl dX9_power_120 rfl ?_
              refine aw_aload_n C dX9_power_123 rfl rfl rfl ?_
              refine aw_getf C f_X9_128 hM.1 rfl dX9_power_124 rfl ?_
              refine aw_iload C dX9_power_127 rfl rfl ?_
              refine mw_zast (k := 18) (N := 60) C hM hF rfl rfl (i := u.2.2.1 10) rfl hd (nar_b2i _) dX9_power_129 rfl (fun sg hM hF => ?_)
              refine aw_aload_n C dX9_power_130 rfl rfl rfl ?_
              refine aw_iconst (v := 3) C dX9_power_131 rfl rfl ?_
              refine aw_iload_n C dX9_power_132 rfl rfl rfl ?_
              refine aw_iload_n C dX9_power_133 rfl rfl rfl ?_
              refine mw_callV C k_X9_155 hM (M_drafts hl hst hM hd) ⟨by decide, by decide⟩ rfl rfl rfl (Nat.le_of_ble_eq_true rfl) dX9_power_134 rfl (fun v sg1 hq => ?_)
              obtain ⟨rfl, hM1, hF1⟩ := hq
              exact aw_iret C rfl (Nat.le_refl _) (Nat.le_refl _) (PO.of (by rw [opPower, if_neg (by simp [c5, c13, c18]), if_neg (by simp [c55, c60]), hpc, hqc, if_neg (by simp [c73])]; rfl) hM1 (MF.tr hF hF1)) dX9_power_137
            · have c73 := fa_of c73
              refine aw_iconst (v := 3) C dX9_power_76 rfl rfl ?_
              refine aw_goto (tgt := 81) C dX9_power_77 (by decide) ?_
              refine mw_put (th' := _) (u' := _) C hM hF f_X9_117 rfl rfl rfl rfl rfl rfl dX9_power_81 rfl (fun sg hM hF => ?_)
              refine aw_aload_n C dX9_power_84 rfl rfl rfl ?_
              refine aw_getf C f_X9_117 hM.1 rfl dX9_power_85 rfl ?_
              refine aw_if_le (tgt := 93) C dX9_power_88 (by decide) rfl (fun h => by first | exact absurd h (by decide) | exact absurd (by decide) h) (fun _ => ?_)
              refine aw_iconst (v := 0) C dX9_power_91 rfl rfl ?_
              exact aw_iret C rfl (Nat.le_refl _) (Nat.le_refl _) (PO.of (by simp [opPower, c5, c13, c18, c55, c60, c73, hpc, hqc]) hM hF) dX9_power_92
          · refine aw_iconst (v := 2) C dX9_power_63 rfl rfl ?_
            refine aw_goto (tgt := 81) C dX9_power_64 (by decide) ?_
            refine mw_put (th' := _) (u' := _) C hM hF f_X9_117 rfl rfl rfl rfl rfl rfl dX9_power_81 rfl (fun sg hM hF => ?_)
            refine aw_aload_n C dX9_power_84 rfl rfl rfl ?_
            refine aw_getf C f_X9_117 hM.1 rfl dX9_power_85 rfl ?_
            refine aw_if_le (tgt := 93) C dX9_power_88 (by decide) rfl (fun h => by first | exact absurd h (by decide) | exact absurd (by decide) h) (fun _ => ?_)
            refine aw_iconst (v := 0) C dX9_power_91 rfl rfl ?_
            exact aw_iret C rfl (Nat.le_refl _) (Nat.le_refl _) (PO.of (by simp [opPower, c5, c13, c18, c55, c60, hpc, hqc]) hM hF) dX9_power_92
      · refine aw_aload_n C dX9_power_21 rfl rfl rfl ?_
        refine aw_iload_n C dX9_power_22 rfl rfl rfl ?_
        refine mw_callVp C k_X9_149 hM (M_isThing hl hst hM) ⟨by decide, by decide⟩ rfl rfl rfl (Nat.le_of_ble_eq_true rfl) dX9_power_23 rfl ?_
        refine aw_if_eq (tgt := 33) C dX9_power_26 (by decide) rfl (fun c26 => ?_) (fun c26 => ?_)
        · have c26 := fa_of c26
          refine aw_iconst (v := 0) C dX9_power_33 rfl rfl ?_
          refine aw_istore (ls' := [(6, _), (0, _), (1, _), (2, _), (3, _), (4, _), (5, _)]) C dX9_power_34 (by decide) rfl rfl ?_
          refine aw_aload_n C dX9_power_36 rfl rfl rfl ?_
          refine aw_iload C dX9_power_37 rfl rfl ?_
          refine aw_if_ne (tgt := 46) C dX9_power_39 (by decide) rfl (fun h => by first | exact absurd h (by decide) | exact absurd (by decide) h) (fun _ => ?_)
          refine aw_iconst (v := 1) C dX9_power_42 rfl rfl ?_
          refine aw_goto (tgt := 81) C dX9_power_43 (by decide) ?_
          refine mw_put (th' := _) (u' := _) C hM hF f_X9_117 rfl rfl rfl rfl rfl rfl dX9_power_81 rfl (fun sg hM hF => ?_)
          refine aw_aload_n C dX9_power_84 rfl rfl rfl ?_
          refine aw_getf C f_X9_117 hM.1 rfl dX9_power_85 rfl ?_
          refine aw_if_le (tgt := 93) C dX9_power_88 (by decide) rfl (fun h => by first | exact absurd h (by decide) | exact absurd (by decide) h) (fun _ => ?_)
          refine aw_iconst (v := 0) C dX9_power_91 rfl rfl ?_
          exact aw_iret C rfl (Nat.le_refl _) (Nat.le_refl _) (PO.of (by simp [opPower, c5, c13, c18, c26, hpc, hqc]) hM hF) dX9_power_92
        · have c26 := tr_of c26
          refine aw_iconst (v := 1) C dX9_power_29 rfl rfl ?_
          refine aw_goto (tgt := 34) C dX9_power_30 (by decide) ?_
          refine aw_istore (ls' := [(6, _), (0, _), (1, _), (2, _), (3, _), (4, _), (5, _)]) C dX9_power_34 (by decide) rfl rfl ?_
          refine aw_aload_n C dX9_power_36 rfl rfl rfl ?_
          refine aw_iload C dX9_power_37 rfl rfl ?_
          refine aw_if_ne (tgt := 46) C dX9_power_39 (by decide) rfl (fun _ => ?_) (fun h => by first | exact absurd h (by decide) | exact absurd (by decide) h)
          refine aw_iload C dX9_power_46 rfl rfl ?_
          refine aw_iconst (v := 1) C dX9_power_48 rfl rfl ?_
          refine aw_sipush (v := 1000) C dX9_power_49 rfl rfl ?_
          refine mw_callSp C k_X9_124 (M_in hl hst) ⟨by decide, by decide⟩ rfl rfl (Nat.le_of_ble_eq_true rfl) dX9_power_52 rfl ?_
          refine aw_if_eq (tgt := 63) C dX9_power_55 (by decide) rfl (fun c55 => ?_) (fun c55 => ?_)
          · have c55 := fa_of c55
            refine aw_iconst (v := 2) C dX9_power_63 rfl rfl ?_
            refine aw_goto (tgt := 81) C dX9_power_64 (by decide) ?_
            refine mw_put (th' := _) (u' := _) C hM hF f_X9_117 rfl rfl rfl rfl rfl rfl dX9_power_81 rfl (fun sg hM hF => ?_)
            refine aw_aload_n C dX9_power_84 rfl rfl rfl ?_
            refine aw_getf C f_X9_117 hM.1 rfl dX9_power_85 rfl ?_
            refine aw_if_le (tgt := 93) C dX9_power_88 (by decide) rfl (fun h => by first | exact absurd h (by decide) | exact absurd (by decide) h) (fun _ => ?_)
            refine aw_iconst (v := 0) C dX9_power_91 rfl rfl ?_
            exact aw_iret C rfl (Nat.le_refl _) (Nat.le_refl _) (PO.of (by simp [opPower, c5, c13, c18, c26, c55, hpc, hqc]) hM hF) dX9_power_92
          · have c55 := tr_of c55
            refine aw_iload_n C dX9_power_58 rfl rfl rfl ?_
            refine aw_iload_n C dX9_power_59 rfl rfl rfl ?_
            refine aw_icmp_ne (tgt := 67) C dX9_power_60 (by decide) rfl (fun c60 => ?_) (fun c60 => ?_)
            · refine aw_aload_n C dX9_power_67 rfl rfl rfl ?_
              refine aw_iload_n C dX9_power_68 rfl rfl rfl ?_
              refine aw_iload_n C dX9_power_69 rfl rfl rfl ?_
              refine mw_callVp C k_X9_152 hM (M_hasRoom hl hst hM hp12 hq12) ⟨by decide, by decide⟩ rfl rfl rfl (Nat.le_of_ble_eq_true rfl) dX9_power_70 rfl ?_
              refine aw_if_ne (tgt := 80) C dX9_power_73 (by decide) rfl (fun c73 => ?_) (fun c73 => ?_)
              · have c73 := tr_of c73
                refine aw_iconst (v := 0) C dX9_power_80 rfl rfl ?_
                refine mw_put (th' := _) (u' := _) C hM hF f_X9_117 rfl rfl rfl rfl rfl rfl dX9_power_81 rfl (fun sg hM hF => ?_)
                refine aw_aload_n C dX9_power_84 rfl rfl rfl ?_
                refine aw_getf C f_X9_117 hM.1 rfl dX9_power_85 rfl ?_
                refine aw_if_le (tgt := 93) C dX9_power_88 (by decide) rfl (fun _ => ?_) (fun h => by first | exact absurd h (by decide) | exact absurd (by decide) h)
                have hd := room_of (a := p) (b := q) hW (by rw [c73]; decide)
                refine aw_aload_n C dX9_power_93 rfl rfl rfl ?_
                refine aw_getf C f_X9_41 hM.1 rfl dX9_power_94 rfl ?_
                refine aw_aload_n C dX9_power_97 rfl rfl rfl ?_
                refine aw_getf C f_X9_128 hM.1 rfl dX9_power_98 rfl ?_
                refine aw_iload_n C dX9_power_101 rfl rfl rfl ?_
                refine mw_iast (k := 14) (N := 60) C hM hF rfl rfl (i := u.2.2.1 10) rfl hd dX9_power_102 rfl (fun sg hM hF => ?_)
                refine aw_aload_n C dX9_power_103 rfl rfl rfl ?_
                refine aw_getf C f_X9_50 hM.1 rfl dX9_power_104 rfl ?_
                refine aw_aload_n C dX9_power_107 rfl rfl rfl ?_
                refine aw_getf C f_X9_128 hM.1 rfl dX9_power_108 rfl ?_
                refine aw_aload_n C dX9_power_111 rfl rfl rfl ?_
                refine aw_getf C f_X9_134 hM.1 rfl dX9_power_112 rfl ?_
                refine aw_iload C dX9_power_115 rfl rfl ?_
                refine aw_iadd C dX9_power_117 rfl ?_
                refine mw_iast (k := 17) (N := 60) C hM hF rfl rfl (i := u.2.2.1 10) (v := u.2.2.2.1 + z) rfl hd dX9_power_118 rfl (fun sg hM hF => ?_)
                refine aw_aload_n C dX9_power_119 rfl rfl rfl ?_
                refine aw_getf C f_X9_53 hM.1 rfl dX9_power_120 rfl ?_
                refine aw_aload_n C dX9_power_123 rfl rfl rfl ?_
                refine aw_getf C f_X9_128 hM.1 rfl dX9_power_124 rfl ?_
                refine aw_iload C dX9_power_127 rfl rfl ?_
                refine mw_zast (k := 18) (N := 60) C hM hF rfl rfl (i := u.2.2.1 10) rfl hd (nar_b2i _) dX9_power_129 rfl (fun sg hM hF => ?_)
                refine aw_aload_n C dX9_power_130 rfl rfl rfl ?_
                refine aw_iconst (v := 3) C dX9_power_131 rfl rfl ?_
                refine aw_iload_n C dX9_power_132 rfl rfl rfl ?_
                refine aw_iload_n C dX9_power_133 rfl rfl rfl ?_
                refine mw_callV C k_X9_155 hM (M_drafts hl hst hM hd) ⟨by decide, by decide⟩ rfl rfl rfl (Nat.le_of_ble_eq_true rfl) dX9_power_134 rfl (fun v sg1 hq => ?_)
                obtain ⟨rfl, hM1, hF1⟩ := hq
                exact aw_iret C rfl (Nat.le_refl _) (Nat.le_refl _) (PO.of (by rw [opPower, if_neg (by simp [c5, c13, c26]), if_neg (by simp [c55, c60]), hpc, hqc, if_neg (by simp [c73])]; rfl) hM1 (MF.tr hF hF1)) dX9_power_137
              · have c73 := fa_of c73
                refine aw_iconst (v := 3) C dX9_power_76 rfl rfl ?_
                refine aw_goto (tgt := 81) C dX9_power_77 (by decide) ?_
                refine mw_put (th' := _) (u' := _) C hM hF f_X9_117 rfl rfl rfl rfl rfl rfl dX9_power_81 rfl (fun sg hM hF => ?_)
                refine aw_aload_n C dX9_power_84 rfl rfl rfl ?_
                refine aw_getf C f_X9_117 hM.1 rfl dX9_power_85 rfl ?_
                refine aw_if_le (tgt := 93) C dX9_power_88 (by decide) rfl (fun h => by first | exact absurd h (by decide) | exact absurd (by decide) h) (fun _ => ?_)
                refine aw_iconst (v := 0) C dX9_power_91 rfl rfl ?_
                exact aw_iret C rfl (Nat.le_refl _) (Nat.le_refl _) (PO.of (by simp [opPower, c5, c13, c18, c26, c55, c60, c73, hpc, hqc]) hM hF) dX9_power_92
            · refine aw_iconst (v := 2) C dX9_power_63 rfl rfl ?_
              refine aw_goto (tgt := 81) C dX9_power_64 (by decide) ?_
              refine mw_put (th' := _) (u' := _) C hM hF f_X9_117 rfl rfl rfl rfl rfl rfl dX9_power_81 rfl (fun sg hM hF => ?_)
              refine aw_aload_n C dX9_power_84 rfl rfl rfl ?_
              refine aw_getf C f_X9_117 hM.1 rfl dX9_power_85 rfl ?_
              refine aw_if_le (tgt := 93) C dX9_power_88 (by decide) rfl (fun h => by first | exact absurd h (by decide) | exact absurd (by decide) h) (fun _ => ?_)
              refine aw_iconst (v := 0) C dX9_power_91 rfl rfl ?_
              exact aw_iret C rfl (Nat.le_refl _) (Nat.le_refl _) (PO.of (by simp [opPower, c5, c13, c18, c26, c55, c60, hpc, hqc]) hM hF) dX9_power_92
set_option maxRecDepth 100000 in
theorem M_pass {g : Gx} {l : Launch} (hl : l.flags = flags0) (hst : g.Stable) {ad : Nat → Nat} {th : Int32} {u : MU} {sg : Sg} (hM : MS g ad th u sg) {v : Int32} : MM g l yX9_pass cX9_pass 2 (some .int) (rmM 2) sg [.ref (ad 0), .int v] (PO g ad sg (opPass u v)) noX := by
  refine MM.of hl hst (by decide) (Nat.le_of_ble_eq_true rfl) (fun x hg hlx C hin hout hargs => ?_)
  subst hg; subst hlx
  have C : AWC x cX9_pass 2 RX9 (rmM 2) (some .int) := C
  have hF : MF ad sg sg := MF.rf
  show AW x (RQ x _ _ _ _) 0 0 sg 0 [(0, .ref (ad 0)), (1, .int v)] []
  refine aw_aload_n C dX9_pass_0 rfl rfl rfl ?_
  refine aw_iload_n C dX9_pass_1 rfl rfl rfl ?_
  refine aw_iconst (v := 1) C dX9_pass_2 rfl rfl ?_
  refine aw_sipush (v := 10000) C dX9_pass_3 rfl rfl ?_
  refine mw_callSp C k_X9_124 (M_in hl hst) ⟨by decide, by decide⟩ rfl rfl (Nat.le_of_ble_eq_true rfl) dX9_pass_6 rfl ?_
  refine aw_if_eq (tgt := 16) C dX9_pass_9 (by decide) rfl (fun c9 => ?_) (fun c9 => ?_)
  · have c9 := fa_of c9
    refine aw_iconst (v := 1) C dX9_pass_16 rfl rfl ?_
    refine mw_put (th' := _) (u' := _) C hM hF f_X9_117 rfl rfl rfl rfl rfl rfl dX9_pass_17 rfl (fun sg hM hF => ?_)
    refine aw_aload_n C dX9_pass_20 rfl rfl rfl ?_
    refine aw_dup C dX9_pass_21 rfl rfl ?_
    refine aw_getf C f_X9_134 hM.1 rfl dX9_pass_22 rfl ?_
    refine aw_aload_n C dX9_pass_25 rfl rfl rfl ?_
    refine aw_getf C f_X9_117 hM.1 rfl dX9_pass_26 rfl ?_
    refine aw_if_ne (tgt := 36) C dX9_pass_29 (by decide) rfl (fun _ => ?_) (fun h => by first | exact absurd h (by decide) | exact absurd (by decide) h)
    refine aw_iconst (v := 0) C dX9_pass_36 rfl rfl ?_
    refine aw_iadd C dX9_pass_37 rfl ?_
    refine mw_put (th' := _) (u' := uD _ _) C hM hF f_X9_134 rfl rfl rfl rfl rfl rfl dX9_pass_38 rfl (fun sg hM hF => ?_)
    refine aw_aload_n C dX9_pass_41 rfl rfl rfl ?_
    refine aw_getf C f_X9_117 hM.1 rfl dX9_pass_42 rfl ?_
    refine aw_if_le (tgt := 52) C dX9_pass_45 (by decide) rfl (fun h => by first | exact absurd h (by decide) | exact absurd (by decide) h) (fun _ => ?_)
    refine aw_iconst (v := 0) C dX9_pass_48 rfl rfl ?_
    refine aw_goto (tgt := 56) C dX9_pass_49 (by decide) ?_
    exact aw_iret C rfl (Nat.le_refl _) (Nat.le_refl _) (PO.of (by simp [opPass, c9]; try rfl) hM hF) dX9_pass_56
  · have c9 := tr_of c9
    refine aw_iconst (v := 0) C dX9_pass_12 rfl rfl ?_
    refine aw_goto (tgt := 17) C dX9_pass_13 (by decide) ?_
    refine mw_put (th' := _) (u' := _) C hM hF f_X9_117 rfl rfl rfl rfl rfl rfl dX9_pass_17 rfl (fun sg hM hF => ?_)
    refine aw_aload_n C dX9_pass_20 rfl rfl rfl ?_
    refine aw_dup C dX9_pass_21 rfl rfl ?_
    refine aw_getf C f_X9_134 hM.1 rfl dX9_pass_22 rfl ?_
    refine aw_aload_n C dX9_pass_25 rfl rfl rfl ?_
    refine aw_getf C f_X9_117 hM.1 rfl dX9_pass_26 rfl ?_
    refine aw_if_ne (tgt := 36) C dX9_pass_29 (by decide) rfl (fun h => by first | exact absurd h (by decide) | exact absurd (by decide) h) (fun _ => ?_)
    refine aw_iload_n C dX9_pass_32 rfl rfl rfl ?_
    refine aw_goto (tgt := 37) C dX9_pass_33 (by decide) ?_
    refine aw_iadd C dX9_pass_37 rfl ?_
    refine mw_put (th' := _) (u' := uD _ _) C hM hF f_X9_134 rfl rfl rfl rfl rfl rfl dX9_pass_38 rfl (fun sg hM hF => ?_)
    refine aw_aload_n C dX9_pass_41 rfl rfl rfl ?_
    refine aw_getf C f_X9_117 hM.1 rfl dX9_pass_42 rfl ?_
    refine aw_if_le (tgt := 52) C dX9_pass_45 (by decide) rfl (fun _ => ?_) (fun h => by first | exact absurd h (by decide) | exact absurd (by decide) h)
    refine aw_aload_n C dX9_pass_52 rfl rfl rfl ?_
    refine aw_getf C f_X9_134 hM.1 rfl dX9_pass_53 rfl ?_
    exact aw_iret C rfl (Nat.le_refl _) (Nat.le_refl _) (PO.of (by simp [opPass, c9]; try rfl) hM hF) dX9_pass_56
set_option maxRecDepth 100000 in
theorem M_entries {g : Gx} {l : Launch} (hl : l.flags = flags0) (hst : g.Stable) {ad : Nat → Nat} {th : Int32} {u : MU} {sg : Sg} (hM : MS g ad th u sg)  : MM g l yX9_entries cX9_entries 1 (some .int) (rmM 1) sg [.ref (ad 0)] (PO g ad sg ((0, nI (u.2.2.1 35), u))) noX := by
  refine MM.of hl hst (by decide) (Nat.le_of_ble_eq_true rfl) (fun x hg hlx C hin hout hargs => ?_)
  subst hg; subst hlx
  have C : AWC x cX9_entries 1 RX9 (rmM 1) (some .int) := C
  have hF : MF ad sg sg := MF.rf
  show AW x (RQ x _ _ _ _) 0 0 sg 0 [(0, .ref (ad 0))] []
  refine aw_aload_n C dX9_entries_0 rfl rfl rfl ?_
  refine aw_iconst (v := 0) C dX9_entries_1 rfl rfl ?_
  refine mw_put (th' := _) (u' := _) C hM hF f_X9_117 rfl rfl rfl rfl rfl rfl dX9_entries_2 rfl (fun sg hM hF => ?_)
  refine aw_aload_n C dX9_entries_5 rfl rfl rfl ?_
  refine aw_getf C f_X9_201 hM.1 rfl dX9_entries_6 rfl ?_
  exact aw_iret C rfl (Nat.le_refl _) (Nat.le_refl _) (PO.of rfl hM hF) dX9_entries_9
set_option maxRecDepth 100000 in
theorem M_thrown {g : Gx} {l : Launch} (hl : l.flags = flags0) (hst : g.Stable) {ad : Nat → Nat} {th : Int32} {u : MU} {sg : Sg} (hM : MS g ad th u sg) : MM g l yX9_thrown cX9_thrown 1 (some .int) (rmM 1) sg [.ref (ad 0)] (PP sg (.int th)) noX := by
  refine MM.of hl hst (by decide) (Nat.le_of_ble_eq_true rfl) (fun x hg hlx C hin hout hargs => ?_)
  subst hg; subst hlx
  have C : AWC x cX9_thrown 1 RX9 (rmM 1) (some .int) := C
  have hF : MF ad sg sg := MF.rf
  show AW x (RQ x _ _ _ _) 0 0 sg 0 [(0, .ref (ad 0))] []
  refine aw_aload_n C dX9_thrown_0 rfl rfl rfl ?_
  refine aw_getf C f_X9_117 hM.1 rfl dX9_thrown_1 rfl ?_
  exact aw_iret C rfl (Nat.le_refl _) (Nat.le_refl _) (PP.of rfl) dX9_thrown_4
set_option maxRecDepth 100000 in
theorem M_will {g : Gx} {l : Launch} (hl : l.flags = flags0) (hst : g.Stable) {ad : Nat → Nat} {th : Int32} {u : MU} {sg : Sg} (hM : MS g ad th u sg) (hW : WN u) {a b y z : Int32} : MM g l yX9_will cX9_will 5 (some .int) (rmM 3) sg [.ref (ad 0), .int a, .int b, .int y, .int z] (PO g ad sg (opWill u a b y z)) noX := by
  refine MM.of hl hst (by decide) (Nat.le_of_ble_eq_true rfl) (fun x hg hlx C hin hout hargs => ?_)
  subst hg; subst hlx
  have C : AWC x cX9_will 5 RX9 (rmM 3) (some .int) := C
  have hF : MF ad sg sg := MF.rf
  show AW x (RQ x _ _ _ _) 0 0 sg 0 [(0, .ref (ad 0)), (1, .int a), (2, .int b), (3, .int y), (4, .int z)] []
  refine aw_aload_n C dX9_will_0 rfl rfl rfl ?_
  refine aw_aload_n C dX9_will_1 rfl rfl rfl ?_
  refine aw_iload_n C dX9_will_2 rfl rfl rfl ?_
  refine mw_callVp C k_X9_137 hM (M_isPerson hl hst hM) ⟨by decide, by decide⟩ rfl rfl rfl (Nat.le_of_ble_eq_true rfl) dX9_will_3 rfl ?_
  refine aw_if_eq (tgt := 17) C dX9_will_6 (by decide) rfl (fun c6 => ?_) (fun c6 => ?_)
  · have c6 := fa_of c6
    refine aw_iconst (v := 1) C dX9_will_17 rfl rfl ?_
    refine aw_goto (tgt := 65) C dX9_will_18 (by decide) ?_
    refine mw_put (th' := _) (u' := _) C hM hF f_X9_117 rfl rfl rfl rfl rfl rfl dX9_will_65 rfl (fun sg hM hF => ?_)
    refine aw_aload_n C dX9_will_68 rfl rfl rfl ?_
    refine aw_getf C f_X9_117 hM.1 rfl dX9_will_69 rfl ?_
    refine aw_if_le (tgt := 77) C dX9_will_72 (by decide) rfl (fun h => by first | exact absurd h (by decide) | exact absurd (by decide) h) (fun _ => ?_)
    refine aw_iconst (v := 0) C dX9_will_75 rfl rfl ?_
    exact aw_iret C rfl (Nat.le_refl _) (Nat.le_refl _) (PO.of (by simp [opWill, c6]) hM hF) dX9_will_76
  · have c6 := tr_of c6
    refine aw_aload_n C dX9_will_9 rfl rfl rfl ?_
    refine aw_iload_n C dX9_will_10 rfl rfl rfl ?_
    refine mw_callVp C k_X9_137 hM (M_isPerson hl hst hM) ⟨by decide, by decide⟩ rfl rfl rfl (Nat.le_of_ble_eq_true rfl) dX9_will_11 rfl ?_
    refine aw_if_ne (tgt := 21) C dX9_will_14 (by decide) rfl (fun c14 => ?_) (fun c14 => ?_)
    · have c14 := tr_of c14
      obtain ⟨p, hp, rfl⟩ := isP_of hW c6
      have hp12 : p < 12 := by have := hW.1; omega
      have hpc := clampI (n := p) (by omega)
      obtain ⟨q, hq, rfl⟩ := isP_of hW c14
      have hq12 : q < 12 := by have := hW.1; omega
      have hqc := clampI (n := q) (by omega)
      refine aw_iload C dX9_will_21 rfl rfl ?_
      refine aw_iconst (v := 1) C dX9_will_23 rfl rfl ?_
      refine aw_bipush (v := 100) C dX9_will_24 rfl rfl ?_
      refine mw_callSp C k_X9_124 (M_in hl hst) ⟨by decide, by decide⟩ rfl rfl (Nat.le_of_ble_eq_true rfl) dX9_will_26 rfl ?_
      refine aw_if_eq (tgt := 47) C dX9_will_29 (by decide) rfl (fun c29 => ?_) (fun c29 => ?_)
      · have c29 := fa_of c29
        refine aw_iconst (v := 2) C dX9_will_47 rfl rfl ?_
        refine aw_goto (tgt := 65) C dX9_will_48 (by decide) ?_
        refine mw_put (th' := _) (u' := _) C hM hF f_X9_117 rfl rfl rfl rfl rfl rfl dX9_will_65 rfl (fun sg hM hF => ?_)
        refine aw_aload_n C dX9_will_68 rfl rfl rfl ?_
        refine aw_getf C f_X9_117 hM.1 rfl dX9_will_69 rfl ?_
        refine aw_if_le (tgt := 77) C dX9_will_72 (by decide) rfl (fun h => by first | exact absurd h (by decide) | exact absurd (by decide) h) (fun _ => ?_)
        refine aw_iconst (v := 0) C dX9_will_75 rfl rfl ?_
        exact aw_iret C rfl (Nat.le_refl _) (Nat.le_refl _) (PO.of (by simp [opWill, c6, c14, c29, hpc, hqc]) hM hF) dX9_will_76
      · have c29 := tr_of c29
        refine aw_iload_n C dX9_will_32 rfl rfl rfl ?_
        refine aw_iconst (v := 1) C dX9_will_33 rfl rfl ?_
        refine aw_iload C dX9_will_34 rfl rfl ?_
        refine mw_callSp C k_X9_124 (M_in hl hst) ⟨by decide, by decide⟩ rfl rfl (Nat.le_of_ble_eq_true rfl) dX9_will_36 rfl ?_
        refine aw_if_eq (tgt := 47) C dX9_will_39 (by decide) rfl (fun c39 => ?_) (fun c39 => ?_)
        · have c39 := fa_of c39
          refine aw_iconst (v := 2) C dX9_will_47 rfl rfl ?_
          refine aw_goto (tgt := 65) C dX9_will_48 (by decide) ?_
          refine mw_put (th' := _) (u' := _) C hM hF f_X9_117 rfl rfl rfl rfl rfl rfl dX9_will_65 rfl (fun sg hM hF => ?_)
          refine aw_aload_n C dX9_will_68 rfl rfl rfl ?_
          refine aw_getf C f_X9_117 hM.1 rfl dX9_will_69 rfl ?_
          refine aw_if_le (tgt := 77) C dX9_will_72 (by decide) rfl (fun h => by first | exact absurd h (by decide) | exact absurd (by decide) h) (fun _ => ?_)
          refine aw_iconst (v := 0) C dX9_will_75 rfl rfl ?_
          exact aw_iret C rfl (Nat.le_refl _) (Nat.le_refl _) (PO.of (by simp [opWill, c6, c14, c29, c39, hpc, hqc]) hM hF) dX9_will_76
        · have c39 := tr_of c39
          refine aw_iload_n C dX9_will_42 rfl rfl rfl ?_
          refine aw_iload_n C dX9_will_43 rfl rfl rfl ?_
          refine aw_icmp_ne (tgt := 51) C dX9_will_44 (by decide) rfl (fun c44 => ?_) (fun c44 => ?_)
          · refine aw_aload_n C dX9_will_51 rfl rfl rfl ?_
            refine aw_iload_n C dX9_will_52 rfl rfl rfl ?_
            refine aw_iload_n C dX9_will_53 rfl rfl rfl ?_
            refine mw_callVp C k_X9_152 hM (M_hasRoom hl hst hM hp12 hq12) ⟨by decide, by decide⟩ rfl rfl rfl (Nat.le_of_ble_eq_true rfl) dX9_will_54 rfl ?_
            refine aw_if_ne (tgt := 64) C dX9_will_57 (by decide) rfl (fun c57 => ?_) (fun c57 => ?_)
            · have c57 := tr_of c57
              refine aw_iconst (v := 0) C dX9_will_64 rfl rfl ?_
              refine mw_put (th' := _) (u' := _) C hM hF f_X9_117 rfl rfl rfl rfl rfl rfl dX9_will_65 rfl (fun sg hM hF => ?_)
              refine aw_aload_n C dX9_will_68 rfl rfl rfl ?_
              refine aw_getf C f_X9_117 hM.1 rfl dX9_will_69 rfl ?_
              refine aw_if_le (tgt := 77) C dX9_will_72 (by decide) rfl (fun _ => ?_) (fun h => by first | exact absurd h (by decide) | exact absurd (by decide) h)
              have hd := room_of (a := p) (b := q) hW (by rw [c57]; decide)
              refine aw_aload_n C dX9_will_77 rfl rfl rfl ?_
              refine aw_getf C f_X9_41 hM.1 rfl dX9_will_78 rfl ?_
              refine aw_aload_n C dX9_will_81 rfl rfl rfl ?_
              refine aw_getf C f_X9_128 hM.1 rfl dX9_will_82 rfl ?_
              refine aw_iconst (v := -1) C dX9_will_85 rfl rfl ?_
              refine mw_iast (k := 14) (N := 60) C hM hF rfl rfl (i := u.2.2.1 10) rfl hd dX9_will_86 rfl (fun sg hM hF => ?_)
              refine aw_aload_n C dX9_will_87 rfl rfl rfl ?_
              refine aw_getf C f_X9_44 hM.1 rfl dX9_will_88 rfl ?_
              refine aw_aload_n C dX9_will_91 rfl rfl rfl ?_
              refine aw_getf C f_X9_128 hM.1 rfl dX9_will_92 rfl ?_
              refine aw_iload_n C dX9_will_95 rfl rfl rfl ?_
              refine mw_iast (k := 15) (N := 60) C hM hF rfl rfl (i := u.2.2.1 10) rfl hd dX9_will_96 rfl (fun sg hM hF => ?_)
              refine aw_aload_n C dX9_will_97 rfl rfl rfl ?_
              refine aw_getf C f_X9_47 hM.1 rfl dX9_will_98 rfl ?_
              refine aw_aload_n C dX9_will_101 rfl rfl rfl ?_
              refine aw_getf C f_X9_128 hM.1 rfl dX9_will_102 rfl ?_
              refine aw_iload C dX9_will_105 rfl rfl ?_
              refine mw_iast (k := 16) (N := 60) C hM hF rfl rfl (i := u.2.2.1 10) rfl hd dX9_will_107 rfl (fun sg hM hF => ?_)
              refine aw_aload_n C dX9_will_108 rfl rfl rfl ?_
              refine aw_iconst (v := 4) C dX9_will_109 rfl rfl ?_
              refine aw_iload_n C dX9_will_110 rfl rfl rfl ?_
              refine aw_iload_n C dX9_will_111 rfl rfl rfl ?_
              refine mw_callV C k_X9_155 hM (M_drafts hl hst hM hd) ⟨by decide, by decide⟩ rfl rfl rfl (Nat.le_of_ble_eq_true rfl) dX9_will_112 rfl (fun v sg1 hq => ?_)
              obtain ⟨rfl, hM1, hF1⟩ := hq
              exact aw_iret C rfl (Nat.le_refl _) (Nat.le_refl _) (PO.of (by rw [opWill, if_neg (by simp [c6, c14]), if_neg (by simp [c29, c39, c44]), hpc, hqc, if_neg (by simp [c57])]; rfl) hM1 (MF.tr hF hF1)) dX9_will_115
            · have c57 := fa_of c57
              refine aw_iconst (v := 3) C dX9_will_60 rfl rfl ?_
              refine aw_goto (tgt := 65) C dX9_will_61 (by decide) ?_
              refine mw_put (th' := _) (u' := _) C hM hF f_X9_117 rfl rfl rfl rfl rfl rfl dX9_will_65 rfl (fun sg hM hF => ?_)
              refine aw_aload_n C dX9_will_68 rfl rfl rfl ?_
              refine aw_getf C f_X9_117 hM.1 rfl dX9_will_69 rfl ?_
              refine aw_if_le (tgt := 77) C dX9_will_72 (by decide) rfl (fun h => by first | exact absurd h (by decide) | exact absurd (by decide) h) (fun _ => ?_)
              refine aw_iconst (v := 0) C dX9_will_75 rfl rfl ?_
              exact aw_iret C rfl (Nat.le_refl _) (Nat.le_refl _) (PO.of (by simp [opWill, c6, c14, c29, c39, c44, c57, hpc, hqc]) hM hF) dX9_will_76
          · refine aw_iconst (v := 2) C dX9_will_47 rfl rfl ?_
            refine aw_goto (tgt := 65) C dX9_will_48 (by decide) ?_
            refine mw_put (th' := _) (u' := _) C hM hF f_X9_117 rfl rfl rfl rfl rfl rfl dX9_will_65 rfl (fun sg hM hF => ?_)
            refine aw_aload_n C dX9_will_68 rfl rfl rfl ?_
            refine aw_getf C f_X9_117 hM.1 rfl dX9_will_69 rfl ?_
            refine aw_if_le (tgt := 77) C dX9_will_72 (by decide) rfl (fun h => by first | exact absurd h (by decide) | exact absurd (by decide) h) (fun _ => ?_)
            refine aw_iconst (v := 0) C dX9_will_75 rfl rfl ?_
            exact aw_iret C rfl (Nat.le_refl _) (Nat.le_refl _) (PO.of (by simp [opWill, c6, c14, c29, c39, c44, hpc, hqc]) hM hF) dX9_will_76
    · have c14 := fa_of c14
      refine aw_iconst (v := 1) C dX9_will_17 rfl rfl ?_
      refine aw_goto (tgt := 65) C dX9_will_18 (by decide) ?_
      refine mw_put (th' := _) (u' := _) C hM hF f_X9_117 rfl rfl rfl rfl rfl rfl dX9_will_65 rfl (fun sg hM hF => ?_)
      refine aw_aload_n C dX9_will_68 rfl rfl rfl ?_
      refine aw_getf C f_X9_117 hM.1 rfl dX9_will_69 rfl ?_
      refine aw_if_le (tgt := 77) C dX9_will_72 (by decide) rfl (fun h => by first | exact absurd h (by decide) | exact absurd (by decide) h) (fun _ => ?_)
      refine aw_iconst (v := 0) C dX9_will_75 rfl rfl ?_
      exact aw_iret C rfl (Nat.le_refl _) (Nat.le_refl _) (PO.of (by simp [opWill, c6, c14]) hM hF) dX9_will_76
