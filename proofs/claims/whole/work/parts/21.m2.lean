set_option maxRecDepth 100000 in
theorem M_isChild {g : Gx} {l : Launch} (hl : l.flags = flags0) (hst : g.Stable) {ad : Nat → Nat} {th : Int32} {u : MU} {sg : Sg} (hM : MS g ad th u sg) {p : Nat} {v : Int32} (hp : p < 12) {m : Nat} (hm : m ≤ 2) (hpm : u.1 8 p = nI m) : MM g l yX9_isChild cX9_isChild 5 (some .boolean) (rmM 1) sg [.ref (ad 0), .int (nI p), .int v] (PP sg (.int (b2i (isCh u p v)))) noX := by
  refine MM.of hl hst (by decide) (Nat.le_of_ble_eq_true rfl) (fun x hg hlx C hin hout hargs => ?_)
  subst hg; subst hlx
  have C : AWC x cX9_isChild 5 RX9 (rmM 1) (some .boolean) := C
  have hF : MF ad sg sg := MF.rf
  show AW x (RQ x _ _ _ _) 0 0 sg 0 [(0, .ref (ad 0)), (1, .int (nI p)), (2, .int v)] []
  have hch : isCh u p v = isChN u p v m := by rw [isCh, hpm, clampI (by omega)]
  have loop : ∀ (r k : Nat) (z : Int32), k + r = m → z = b2i (isChN u p v k) → AW x (RQ x (PP sg (.int (b2i (isCh u p v)))) noX (rmM 1).cells (rmM 1).slots) 0 0 sg 5 [(0, .ref (ad 0)), (1, .int (nI p)), (2, .int v), (3, .int z), (4, .int (nI k))] [] := by
    intro r
    induction r with
    | zero =>
      intro k z hr hz
      refine aw_iload C dX9_isChild_5 rfl rfl ?_
      refine aw_aload_n C dX9_isChild_7 rfl rfl rfl ?_
      refine aw_getf C f_X9_26 hM.1 rfl dX9_isChild_8 rfl ?_
      refine aw_iload_n C dX9_isChild_11 rfl rfl rfl ?_
      refine mw_iald (k := 8) (N := 12) C hM rfl rfl rfl (by omega) dX9_isChild_12 rfl ?_
      refine aw_icmp_ge (tgt := 47) C dX9_isChild_13 (by decide) rfl (fun c13 => ?_) (fun c13 => ?_)
      · refine aw_iload_n C dX9_isChild_47 rfl rfl rfl ?_
        exact aw_iret C (by first | decide | (rw [hz]; exact nrw_b2i _)) (Nat.le_refl _) (Nat.le_refl _) (PP.of (by rw [hz, hch, show k = m by omega])) dX9_isChild_48
      · exact absurd (by rw [hpm, nI_leI (by omega) (by omega)]; omega) c13
    | succ r ih =>
      intro k z hr hz
      refine aw_iload C dX9_isChild_5 rfl rfl ?_
      refine aw_aload_n C dX9_isChild_7 rfl rfl rfl ?_
      refine aw_getf C f_X9_26 hM.1 rfl dX9_isChild_8 rfl ?_
      refine aw_iload_n C dX9_isChild_11 rfl rfl rfl ?_
      refine mw_iald (k := 8) (N := 12) C hM rfl rfl rfl (by omega) dX9_isChild_12 rfl ?_
      refine aw_icmp_ge (tgt := 47) C dX9_isChild_13 (by decide) rfl (fun c13 => ?_) (fun c13 => ?_)
      · refine aw_iload_n C dX9_isChild_47 rfl rfl rfl ?_
        exact aw_iret C (by first | decide | (rw [hz]; exact nrw_b2i _)) (Nat.le_refl _) (Nat.le_refl _) (PP.of (by have h1 := c13; rw [hpm, nI_leI (by omega) (by omega)] at h1; exact absurd h1 (by omega))) dX9_isChild_48
      · refine aw_iload_n C dX9_isChild_16 rfl rfl rfl ?_
        refine aw_if_ne (tgt := 35) C dX9_isChild_17 (by decide) rfl (fun c17 => ?_) (fun c17 => ?_)
        · refine aw_iconst (v := 1) C dX9_isChild_35 rfl rfl ?_
          refine aw_goto (tgt := 40) C dX9_isChild_36 (by decide) ?_
          refine aw_istore_n (ls' := [(3, _), (0, _), (1, _), (2, _), (4, _)]) C dX9_isChild_40 rfl (by decide) rfl rfl ?_
          refine aw_iinc (v' := nI (k + 1)) (ls' := [(4, _), (3, _), (0, _), (1, _), (2, _)]) C dX9_isChild_41 rfl (by decide) (nI_1 k) rfl rfl ?_
          refine aw_goto (tgt := 5) C dX9_isChild_44 (by decide) ?_
          refine aw_pick (ls' := [(0, _), (1, _), (2, _), (3, _), (4, _)]) [2, 3, 4, 1, 0] rfl ?_
          exact ih (k + 1) _ (by omega) (by have h2 := tr_of (show ¬ b2i (isChN u p v k) = 0 by rw [← hz]; exact c17); simp [isChN, b2i, h2])
        · refine aw_aload_n C dX9_isChild_20 rfl rfl rfl ?_
          refine aw_getf C f_X9_23 hM.1 rfl dX9_isChild_21 rfl ?_
          refine aw_iconst (v := 2) C dX9_isChild_24 rfl rfl ?_
          refine aw_iload_n C dX9_isChild_25 rfl rfl rfl ?_
          refine aw_imul C dX9_isChild_26 rfl ?_
          refine aw_iload C dX9_isChild_27 rfl rfl ?_
          refine aw_iadd C dX9_isChild_29 rfl ?_
          refine mw_iald (k := 7) (N := 24) C hM rfl rfl (i := 2 * p + k) (by rw [show (2 : Int32) = nI 2 from rfl, pk_mul, nI_add]) (by omega) dX9_isChild_30 rfl ?_
          refine aw_iload_n C dX9_isChild_31 rfl rfl rfl ?_
          refine aw_icmp_ne (tgt := 39) C dX9_isChild_32 (by decide) rfl (fun c32 => ?_) (fun c32 => ?_)
          · refine aw_iconst (v := 0) C dX9_isChild_39 rfl rfl ?_
            refine aw_istore_n (ls' := [(3, _), (0, _), (1, _), (2, _), (4, _)]) C dX9_isChild_40 rfl (by decide) rfl rfl ?_
            refine aw_iinc (v' := nI (k + 1)) (ls' := [(4, _), (3, _), (0, _), (1, _), (2, _)]) C dX9_isChild_41 rfl (by decide) (nI_1 k) rfl rfl ?_
            refine aw_goto (tgt := 5) C dX9_isChild_44 (by decide) ?_
            refine aw_pick (ls' := [(0, _), (1, _), (2, _), (3, _), (4, _)]) [2, 3, 4, 1, 0] rfl ?_
            exact ih (k + 1) _ (by omega) (by have h2 := fa_of (show b2i (isChN u p v k) = 0 by rw [← hz]; exact c17); simp [isChN, b2i, h2, c32])
          · refine aw_iconst (v := 1) C dX9_isChild_35 rfl rfl ?_
            refine aw_goto (tgt := 40) C dX9_isChild_36 (by decide) ?_
            refine aw_istore_n (ls' := [(3, _), (0, _), (1, _), (2, _), (4, _)]) C dX9_isChild_40 rfl (by decide) rfl rfl ?_
            refine aw_iinc (v' := nI (k + 1)) (ls' := [(4, _), (3, _), (0, _), (1, _), (2, _)]) C dX9_isChild_41 rfl (by decide) (nI_1 k) rfl rfl ?_
            refine aw_goto (tgt := 5) C dX9_isChild_44 (by decide) ?_
            refine aw_pick (ls' := [(0, _), (1, _), (2, _), (3, _), (4, _)]) [2, 3, 4, 1, 0] rfl ?_
            exact ih (k + 1) _ (by omega) (by have h2 := fa_of (show b2i (isChN u p v k) = 0 by rw [← hz]; exact c17); simp [isChN, b2i, h2, c32])
  refine aw_iconst (v := 0) C dX9_isChild_0 rfl rfl ?_
  refine aw_istore_n (ls' := [(3, _), (0, _), (1, _), (2, _)]) C dX9_isChild_1 rfl (by decide) rfl rfl ?_
  refine aw_iconst (v := 0) C dX9_isChild_2 rfl rfl ?_
  refine aw_istore (ls' := [(4, _), (3, _), (0, _), (1, _), (2, _)]) C dX9_isChild_3 (by decide) rfl rfl ?_
  refine aw_pick (ls' := [(0, _), (1, _), (2, _), (3, _), (4, _)]) [2, 3, 4, 1, 0] rfl ?_
  exact loop m 0 0 (by omega) rfl
set_option maxRecDepth 100000 in
theorem M_isAble {g : Gx} {l : Launch} (hl : l.flags = flags0) (hst : g.Stable) {ad : Nat → Nat} {th : Int32} {u : MU} {sg : Sg} (hM : MS g ad th u sg) {v : Int32} (hW : WN u) : MM g l yX9_isAble cX9_isAble 2 (some .boolean) (rmM 3) sg [.ref (ad 0), .int v] (PO g ad sg (opIsAble u v)) noX := by
  refine MM.of hl hst (by decide) (Nat.le_of_ble_eq_true rfl) (fun x hg hlx C hin hout hargs => ?_)
  subst hg; subst hlx
  have C : AWC x cX9_isAble 2 RX9 (rmM 3) (some .boolean) := C
  have hF : MF ad sg sg := MF.rf
  show AW x (RQ x _ _ _ _) 0 0 sg 0 [(0, .ref (ad 0)), (1, .int v)] []
  refine aw_aload_n C dX9_isAble_0 rfl rfl rfl ?_
  refine aw_aload_n C dX9_isAble_1 rfl rfl rfl ?_
  refine aw_iload_n C dX9_isAble_2 rfl rfl rfl ?_
  refine mw_callVp C k_X9_137 hM (M_isPerson hl hst hM) ⟨by decide, by decide⟩ rfl rfl rfl (Nat.le_of_ble_eq_true rfl) dX9_isAble_3 rfl ?_
  refine aw_if_eq (tgt := 13) C dX9_isAble_6 (by decide) rfl (fun c6 => ?_) (fun c6 => ?_)
  · have c6 := fa_of c6
    refine aw_iconst (v := 1) C dX9_isAble_13 rfl rfl ?_
    refine mw_put (th' := _) (u' := _) C hM hF f_X9_117 rfl rfl rfl rfl rfl rfl dX9_isAble_14 rfl (fun sg hM hF => ?_)
    refine aw_aload_n C dX9_isAble_17 rfl rfl rfl ?_
    refine aw_getf C f_X9_117 hM.1 rfl dX9_isAble_18 rfl ?_
    refine aw_if_ne (tgt := 36) C dX9_isAble_21 (by decide) rfl (fun _ => ?_) (fun h => by first | exact absurd h (by decide) | exact absurd (by decide) h)
    refine aw_iconst (v := 0) C dX9_isAble_36 rfl rfl ?_
    exact aw_iret C (by decide) (Nat.le_refl _) (Nat.le_refl _) (PO.of (by simp [opIsAble, b2i, c6]) hM hF) dX9_isAble_37
  · have c6 := tr_of c6
    refine aw_iconst (v := 0) C dX9_isAble_9 rfl rfl ?_
    refine aw_goto (tgt := 14) C dX9_isAble_10 (by decide) ?_
    refine mw_put (th' := _) (u' := _) C hM hF f_X9_117 rfl rfl rfl rfl rfl rfl dX9_isAble_14 rfl (fun sg hM hF => ?_)
    refine aw_aload_n C dX9_isAble_17 rfl rfl rfl ?_
    refine aw_getf C f_X9_117 hM.1 rfl dX9_isAble_18 rfl ?_
    refine aw_if_ne (tgt := 36) C dX9_isAble_21 (by decide) rfl (fun h => by first | exact absurd h (by decide) | exact absurd (by decide) h) (fun _ => ?_)
    obtain ⟨p, hp, rfl⟩ := isP_of hW c6
    have hp12 : p < 12 := by have := hW.1; omega
    have hpc := clampI (n := p) (by omega)
    refine aw_aload_n C dX9_isAble_24 rfl rfl rfl ?_
    refine aw_iload_n C dX9_isAble_25 rfl rfl rfl ?_
    refine mw_callVp C k_X9_146 hM (M_able hl hst hM hp12) ⟨by decide, by decide⟩ rfl rfl rfl (Nat.le_of_ble_eq_true rfl) dX9_isAble_26 rfl ?_
    refine aw_if_eq (tgt := 36) C dX9_isAble_29 (by decide) rfl (fun c29 => ?_) (fun c29 => ?_)
    · have c29 := fa_of c29
      refine aw_iconst (v := 0) C dX9_isAble_36 rfl rfl ?_
      exact aw_iret C (by decide) (Nat.le_refl _) (Nat.le_refl _) (PO.of (by simp [opIsAble, b2i, c6, c29, hpc]) hM hF) dX9_isAble_37
    · have c29 := tr_of c29
      refine aw_iconst (v := 1) C dX9_isAble_32 rfl rfl ?_
      refine aw_goto (tgt := 37) C dX9_isAble_33 (by decide) ?_
      exact aw_iret C (by decide) (Nat.le_refl _) (Nat.le_refl _) (PO.of (by simp [opIsAble, b2i, c6, c29, hpc]) hM hF) dX9_isAble_37
set_option maxRecDepth 100000 in
theorem M_isKin {g : Gx} {l : Launch} (hl : l.flags = flags0) (hst : g.Stable) {ad : Nat → Nat} {th : Int32} {u : MU} {sg : Sg} (hM : MS g ad th u sg) (hP : WP u) {a b : Nat} (ha : a < 12) (hb : b < 12) : MM g l yX9_isKin cX9_isKin 3 (some .boolean) (rmM 2) sg [.ref (ad 0), .int (nI a), .int (nI b)] (PP sg (.int (b2i (isKin u a b)))) noX := by
  refine MM.of hl hst (by decide) (Nat.le_of_ble_eq_true rfl) (fun x hg hlx C hin hout hargs => ?_)
  subst hg; subst hlx
  have C : AWC x cX9_isKin 3 RX9 (rmM 2) (some .boolean) := C
  have hF : MF ad sg sg := MF.rf
  show AW x (RQ x _ _ _ _) 0 0 sg 0 [(0, .ref (ad 0)), (1, .int (nI a)), (2, .int (nI b))] []
  obtain ⟨ma, hma, ea⟩ := hP a ha
  obtain ⟨mb, hmb, eb⟩ := hP b hb
  refine aw_aload_n C dX9_isKin_0 rfl rfl rfl ?_
  refine aw_iload_n C dX9_isKin_1 rfl rfl rfl ?_
  refine aw_iload_n C dX9_isKin_2 rfl rfl rfl ?_
  refine mw_callVp C k_X9_141 hM (M_isChild hl hst hM ha hma ea) ⟨by decide, by decide⟩ rfl rfl rfl (Nat.le_of_ble_eq_true rfl) dX9_isKin_3 rfl ?_
  refine aw_if_ne (tgt := 18) C dX9_isKin_6 (by decide) rfl (fun c6 => ?_) (fun c6 => ?_)
  · have c6 := tr_of c6
    refine aw_iconst (v := 1) C dX9_isKin_18 rfl rfl ?_
    refine aw_goto (tgt := 23) C dX9_isKin_19 (by decide) ?_
    exact aw_iret C (by decide) (Nat.le_refl _) (Nat.le_refl _) (PP.of (by simp [isKin, b2i, c6])) dX9_isKin_23
  · have c6 := fa_of c6
    refine aw_aload_n C dX9_isKin_9 rfl rfl rfl ?_
    refine aw_iload_n C dX9_isKin_10 rfl rfl rfl ?_
    refine aw_iload_n C dX9_isKin_11 rfl rfl rfl ?_
    refine mw_callVp C k_X9_141 hM (M_isChild hl hst hM hb hmb eb) ⟨by decide, by decide⟩ rfl rfl rfl (Nat.le_of_ble_eq_true rfl) dX9_isKin_12 rfl ?_
    refine aw_if_eq (tgt := 22) C dX9_isKin_15 (by decide) rfl (fun c15 => ?_) (fun c15 => ?_)
    · have c15 := fa_of c15
      refine aw_iconst (v := 0) C dX9_isKin_22 rfl rfl ?_
      exact aw_iret C (by decide) (Nat.le_refl _) (Nat.le_refl _) (PP.of (by simp [isKin, b2i, c6, c15])) dX9_isKin_23
    · have c15 := tr_of c15
      refine aw_iconst (v := 1) C dX9_isKin_18 rfl rfl ?_
      refine aw_goto (tgt := 23) C dX9_isKin_19 (by decide) ?_
      exact aw_iret C (by decide) (Nat.le_refl _) (Nat.le_refl _) (PP.of (by simp [isKin, b2i, c6, c15])) dX9_isKin_23
set_option maxRecDepth 100000 in
theorem M_drafts {g : Gx} {l : Launch} (hl : l.flags = flags0) (hst : g.Stable) {ad : Nat → Nat} {th : Int32} {u : MU} {sg : Sg} (hM : MS g ad th u sg) {s a b : Int32} (hd : u.2.2.1 10 < 60) : MM g l yX9_drafts cX9_drafts 4 (some .int) (rmM 1) sg [.ref (ad 0), .int s, .int a, .int b] (PU g ad sg th (some (.int (nI (u.2.2.1 10)))) (upDrafts u s a b)) noX := by
  refine MM.of hl hst (by decide) (Nat.le_of_ble_eq_true rfl) (fun x hg hlx C hin hout hargs => ?_)
  subst hg; subst hlx
  have C : AWC x cX9_drafts 4 RX9 (rmM 1) (some .int) := C
  have hF : MF ad sg sg := MF.rf
  show AW x (RQ x _ _ _ _) 0 0 sg 0 [(0, .ref (ad 0)), (1, .int s), (2, .int a), (3, .int b)] []
  refine aw_aload_n C dX9_drafts_0 rfl rfl rfl ?_
  refine aw_getf C f_X9_32 hM.1 rfl dX9_drafts_1 rfl ?_
  refine aw_aload_n C dX9_drafts_4 rfl rfl rfl ?_
  refine aw_getf C f_X9_128 hM.1 rfl dX9_drafts_5 rfl ?_
  refine aw_iload_n C dX9_drafts_8 rfl rfl rfl ?_
  refine mw_iast (k := 11) (N := 60) C hM hF rfl rfl (i := u.2.2.1 10) rfl hd dX9_drafts_9 rfl (fun sg hM hF => ?_)
  refine aw_aload_n C dX9_drafts_10 rfl rfl rfl ?_
  refine aw_getf C f_X9_35 hM.1 rfl dX9_drafts_11 rfl ?_
  refine aw_aload_n C dX9_drafts_14 rfl rfl rfl ?_
  refine aw_getf C f_X9_128 hM.1 rfl dX9_drafts_15 rfl ?_
  refine aw_iload_n C dX9_drafts_18 rfl rfl rfl ?_
  refine mw_iast (k := 12) (N := 60) C hM hF rfl rfl (i := u.2.2.1 10) rfl hd dX9_drafts_19 rfl (fun sg hM hF => ?_)
  refine aw_aload_n C dX9_drafts_20 rfl rfl rfl ?_
  refine aw_getf C f_X9_38 hM.1 rfl dX9_drafts_21 rfl ?_
  refine aw_aload_n C dX9_drafts_24 rfl rfl rfl ?_
  refine aw_getf C f_X9_128 hM.1 rfl dX9_drafts_25 rfl ?_
  refine aw_iload_n C dX9_drafts_28 rfl rfl rfl ?_
  refine mw_iast (k := 13) (N := 60) C hM hF rfl rfl (i := u.2.2.1 10) rfl hd dX9_drafts_29 rfl (fun sg hM hF => ?_)
  refine aw_aload_n C dX9_drafts_30 rfl rfl rfl ?_
  refine aw_getf C f_X9_56 hM.1 rfl dX9_drafts_31 rfl ?_
  refine aw_aload_n C dX9_drafts_34 rfl rfl rfl ?_
  refine aw_getf C f_X9_128 hM.1 rfl dX9_drafts_35 rfl ?_
  refine aw_iconst (v := -1) C dX9_drafts_38 rfl rfl ?_
  refine mw_iast (k := 19) (N := 60) C hM hF rfl rfl (i := u.2.2.1 10) rfl hd dX9_drafts_39 rfl (fun sg hM hF => ?_)
  refine aw_aload_n C dX9_drafts_40 rfl rfl rfl ?_
  refine aw_getf C f_X9_71 hM.1 rfl dX9_drafts_41 rfl ?_
  refine aw_aload_n C dX9_drafts_44 rfl rfl rfl ?_
  refine aw_getf C f_X9_128 hM.1 rfl dX9_drafts_45 rfl ?_
  refine aw_iconst (v := -1) C dX9_drafts_48 rfl rfl ?_
  refine mw_iast (k := 24) (N := 60) C hM hF rfl rfl (i := u.2.2.1 10) rfl hd dX9_drafts_49 rfl (fun sg hM hF => ?_)
  refine aw_aload_n C dX9_drafts_50 rfl rfl rfl ?_
  refine aw_getf C f_X9_74 hM.1 rfl dX9_drafts_51 rfl ?_
  refine aw_aload_n C dX9_drafts_54 rfl rfl rfl ?_
  refine aw_getf C f_X9_128 hM.1 rfl dX9_drafts_55 rfl ?_
  refine aw_iconst (v := -1) C dX9_drafts_58 rfl rfl ?_
  refine mw_iast (k := 25) (N := 60) C hM hF rfl rfl (i := u.2.2.1 10) rfl hd dX9_drafts_59 rfl (fun sg hM hF => ?_)
  refine aw_aload_n C dX9_drafts_60 rfl rfl rfl ?_
  refine aw_dup C dX9_drafts_61 rfl rfl ?_
  refine aw_getf C f_X9_128 hM.1 rfl dX9_drafts_62 rfl ?_
  refine aw_iconst (v := 1) C dX9_drafts_65 rfl rfl ?_
  refine aw_iadd C dX9_drafts_66 rfl ?_
  refine mw_put (th' := _) (u' := uN _ 10 (u.2.2.1 10 + 1)) C hM hF f_X9_128 rfl rfl rfl (by rw [nI_1]; rfl) rfl rfl dX9_drafts_67 rfl (fun sg hM hF => ?_)
  refine aw_aload_n C dX9_drafts_70 rfl rfl rfl ?_
  refine aw_getf C f_X9_128 hM.1 rfl dX9_drafts_71 rfl ?_
  refine aw_iconst (v := 1) C dX9_drafts_74 rfl rfl ?_
  refine aw_isub C dX9_drafts_75 rfl ?_
  exact aw_iret C rfl (Nat.le_refl _) (Nat.le_refl _) (PU.of (congrArg (fun z => some (Value.int z)) (nI_pred _)) hM hF) dX9_drafts_76
set_option maxRecDepth 100000 in
theorem M_person {g : Gx} {l : Launch} (hl : l.flags = flags0) (hst : g.Stable) {ad : Nat → Nat} {th : Int32} {u : MU} {sg : Sg} (hM : MS g ad th u sg) (hW : WN u) {y : Int32} {f : Bool} : MM g l yX9_person cX9_person 3 (some .int) (rmM 3) sg [.ref (ad 0), .int y, .int (b2i f)] (PO g ad sg (opPerson u y f)) noX := by
  refine MM.of hl hst (by decide) (Nat.le_of_ble_eq_true rfl) (fun x hg hlx C hin hout hargs => ?_)
  subst hg; subst hlx
  have C : AWC x cX9_person 3 RX9 (rmM 3) (some .int) := C
  have hF : MF ad sg sg := MF.rf
  show AW x (RQ x _ _ _ _) 0 0 sg 0 [(0, .ref (ad 0)), (1, .int y), (2, .int (b2i f))] []
  refine aw_aload_n C dX9_person_0 rfl rfl rfl ?_
  refine aw_iload_n C dX9_person_1 rfl rfl rfl ?_
  refine aw_iconst (v := 0) C dX9_person_2 rfl rfl ?_
  refine aw_bipush (v := 99) C dX9_person_3 rfl rfl ?_
  refine mw_callSp C k_X9_124 (M_in hl hst) ⟨by decide, by decide⟩ rfl rfl (Nat.le_of_ble_eq_true rfl) dX9_person_5 rfl ?_
  refine aw_if_ne (tgt := 15) C dX9_person_8 (by decide) rfl (fun c8 => ?_) (fun c8 => ?_)
  · have c8 := tr_of c8
    refine aw_aload_n C dX9_person_15 rfl rfl rfl ?_
    refine aw_getf C f_X9_121 hM.1 rfl dX9_person_16 rfl ?_
    refine aw_bipush (v := 12) C dX9_person_19 rfl rfl ?_
    refine aw_icmp_ne (tgt := 28) C dX9_person_21 (by decide) rfl (fun c21 => ?_) (fun c21 => ?_)
    · refine aw_iconst (v := 0) C dX9_person_28 rfl rfl ?_
      refine mw_put (th' := _) (u' := _) C hM hF f_X9_117 rfl rfl rfl rfl rfl rfl dX9_person_29 rfl (fun sg hM hF => ?_)
      refine aw_aload_n C dX9_person_32 rfl rfl rfl ?_
      refine aw_getf C f_X9_117 hM.1 rfl dX9_person_33 rfl ?_
      refine aw_if_le (tgt := 41) C dX9_person_36 (by decide) rfl (fun _ => ?_) (fun h => by first | exact absurd h (by decide) | exact absurd (by decide) h)
      have hn := n12_of hW c21
      refine aw_aload_n C dX9_person_41 rfl rfl rfl ?_
      refine aw_getf C f_X9_7 hM.1 rfl dX9_person_42 rfl ?_
      refine aw_aload_n C dX9_person_45 rfl rfl rfl ?_
      refine aw_getf C f_X9_121 hM.1 rfl dX9_person_46 rfl ?_
      refine aw_iload_n C dX9_person_49 rfl rfl rfl ?_
      refine mw_iast (k := 3) (N := 12) C hM hF rfl rfl (i := u.2.2.1 2) rfl hn dX9_person_50 rfl (fun sg hM hF => ?_)
      refine aw_aload_n C dX9_person_51 rfl rfl rfl ?_
      refine aw_getf C f_X9_13 hM.1 rfl dX9_person_52 rfl ?_
      refine aw_aload_n C dX9_person_55 rfl rfl rfl ?_
      refine aw_getf C f_X9_121 hM.1 rfl dX9_person_56 rfl ?_
      refine aw_aload_n C dX9_person_59 rfl rfl rfl ?_
      refine aw_getf C f_X9_134 hM.1 rfl dX9_person_60 rfl ?_
      refine mw_iast (k := 4) (N := 12) C hM hF rfl rfl (i := u.2.2.1 2) rfl hn dX9_person_63 rfl (fun sg hM hF => ?_)
      refine aw_aload_n C dX9_person_64 rfl rfl rfl ?_
      refine aw_getf C f_X9_16 hM.1 rfl dX9_person_65 rfl ?_
      refine aw_aload_n C dX9_person_68 rfl rfl rfl ?_
      refine aw_getf C f_X9_121 hM.1 rfl dX9_person_69 rfl ?_
      refine aw_iload_n C dX9_person_72 rfl rfl rfl ?_
      refine mw_zast (k := 5) (N := 12) C hM hF rfl rfl (i := u.2.2.1 2) rfl hn (nar_b2i _) dX9_person_73 rfl (fun sg hM hF => ?_)
      refine aw_aload_n C dX9_person_74 rfl rfl rfl ?_
      refine aw_getf C f_X9_29 hM.1 rfl dX9_person_75 rfl ?_
      refine aw_aload_n C dX9_person_78 rfl rfl rfl ?_
      refine aw_getf C f_X9_121 hM.1 rfl dX9_person_79 rfl ?_
      refine aw_iconst (v := -1) C dX9_person_82 rfl rfl ?_
      refine mw_iast (k := 9) (N := 12) C hM hF rfl rfl (i := u.2.2.1 2) rfl hn dX9_person_83 rfl (fun sg hM hF => ?_)
      refine aw_aload_n C dX9_person_84 rfl rfl rfl ?_
      refine aw_dup C dX9_person_85 rfl rfl ?_
      refine aw_getf C f_X9_121 hM.1 rfl dX9_person_86 rfl ?_
      refine aw_iconst (v := 1) C dX9_person_89 rfl rfl ?_
      refine aw_iadd C dX9_person_90 rfl ?_
      refine mw_put (th' := _) (u' := uN _ 2 (u.2.2.1 2 + 1)) C hM hF f_X9_121 rfl rfl rfl (by rw [nI_1]; rfl) rfl rfl dX9_person_91 rfl (fun sg hM hF => ?_)
      refine aw_aload_n C dX9_person_94 rfl rfl rfl ?_
      refine aw_getf C f_X9_121 hM.1 rfl dX9_person_95 rfl ?_
      refine aw_iconst (v := 1) C dX9_person_98 rfl rfl ?_
      refine aw_isub C dX9_person_99 rfl ?_
      exact aw_iret C rfl (Nat.le_refl _) (Nat.le_refl _) (PO.of (by rw [opPerson, if_neg (by simp [c8]), if_neg c21]; exact congrArg (fun z => ((0 : Int32), z, _)) (nI_pred _).symm) hM hF) dX9_person_100
    · refine aw_iconst (v := 2) C dX9_person_24 rfl rfl ?_
      refine aw_goto (tgt := 29) C dX9_person_25 (by decide) ?_
      refine mw_put (th' := _) (u' := _) C hM hF f_X9_117 rfl rfl rfl rfl rfl rfl dX9_person_29 rfl (fun sg hM hF => ?_)
      refine aw_aload_n C dX9_person_32 rfl rfl rfl ?_
      refine aw_getf C f_X9_117 hM.1 rfl dX9_person_33 rfl ?_
      refine aw_if_le (tgt := 41) C dX9_person_36 (by decide) rfl (fun h => by first | exact absurd h (by decide) | exact absurd (by decide) h) (fun _ => ?_)
      refine aw_iconst (v := 0) C dX9_person_39 rfl rfl ?_
      exact aw_iret C rfl (Nat.le_refl _) (Nat.le_refl _) (PO.of (by simp [opPerson, c8, c21]) hM hF) dX9_person_40
  · have c8 := fa_of c8
    refine aw_iconst (v := 1) C dX9_person_11 rfl rfl ?_
    refine aw_goto (tgt := 29) C dX9_person_12 (by decide) ?_
    refine mw_put (th' := _) (u' := _) C hM hF f_X9_117 rfl rfl rfl rfl rfl rfl dX9_person_29 rfl (fun sg hM hF => ?_)
    refine aw_aload_n C dX9_person_32 rfl rfl rfl ?_
    refine aw_getf C f_X9_117 hM.1 rfl dX9_person_33 rfl ?_
    refine aw_if_le (tgt := 41) C dX9_person_36 (by decide) rfl (fun h => by first | exact absurd h (by decide) | exact absurd (by decide) h) (fun _ => ?_)
    refine aw_iconst (v := 0) C dX9_person_39 rfl rfl ?_
    exact aw_iret C rfl (Nat.le_refl _) (Nat.le_refl _) (PO.of (by simp [opPerson, c8]) hM hF) dX9_person_40
set_option maxRecDepth 100000 in
theorem M_child {g : Gx} {l : Launch} (hl : l.flags = flags0) (hst : g.Stable) {ad : Nat → Nat} {th : Int32} {u : MU} {sg : Sg} (hM : MS g ad th u sg) (hW : WN u) (hP : WP u) {v w : Int32} : MM g l yX9_child cX9_child 3 (some .int) (rmM 3) sg [.ref (ad 0), .int v, .int w] (PO g ad sg (opChild u v w)) noX := by
  refine MM.of hl hst (by decide) (Nat.le_of_ble_eq_true rfl) (fun x hg hlx C hin hout hargs => ?_)
  subst hg; subst hlx
  have C : AWC x cX9_child 3 RX9 (rmM 3) (some .int) := C
  have hF : MF ad sg sg := MF.rf
  show AW x (RQ x _ _ _ _) 0 0 sg 0 [(0, .ref (ad 0)), (1, .int v), (2, .int w)] []
  refine aw_aload_n C dX9_child_0 rfl rfl rfl ?_
  refine aw_aload_n C dX9_child_1 rfl rfl rfl ?_
  refine aw_iload_n C dX9_child_2 rfl rfl rfl ?_
  refine mw_callVp C k_X9_137 hM (M_isPerson hl hst hM) ⟨by decide, by decide⟩ rfl rfl rfl (Nat.le_of_ble_eq_true rfl) dX9_child_3 rfl ?_
  refine aw_if_eq (tgt := 17) C dX9_child_6 (by decide) rfl (fun c6 => ?_) (fun c6 => ?_)
  · have c6 := fa_of c6
    refine aw_iconst (v := 1) C dX9_child_17 rfl rfl ?_
    refine aw_goto (tgt := 72) C dX9_child_18 (by decide) ?_
    refine mw_put (th' := _) (u' := _) C hM hF f_X9_117 rfl rfl rfl rfl rfl rfl dX9_child_72 rfl (fun sg hM hF => ?_)
    refine aw_aload_n C dX9_child_75 rfl rfl rfl ?_
    refine aw_getf C f_X9_117 hM.1 rfl dX9_child_76 rfl ?_
    refine aw_if_le (tgt := 84) C dX9_child_79 (by decide) rfl (fun h => by first | exact absurd h (by decide) | exact absurd (by decide) h) (fun _ => ?_)
    refine aw_iconst (v := 0) C dX9_child_82 rfl rfl ?_
    exact aw_iret C rfl (Nat.le_refl _) (Nat.le_refl _) (PO.of (by simp [opChild, c6]) hM hF) dX9_child_83
  · have c6 := tr_of c6
    refine aw_aload_n C dX9_child_9 rfl rfl rfl ?_
    refine aw_iload_n C dX9_child_10 rfl rfl rfl ?_
    refine mw_callVp C k_X9_137 hM (M_isPerson hl hst hM) ⟨by decide, by decide⟩ rfl rfl rfl (Nat.le_of_ble_eq_true rfl) dX9_child_11 rfl ?_
    refine aw_if_ne (tgt := 21) C dX9_child_14 (by decide) rfl (fun c14 => ?_) (fun c14 => ?_)
    · have c14 := tr_of c14
      obtain ⟨q, hq, rfl⟩ := isP_of hW c6
      have hq12 : q < 12 := by have := hW.1; omega
      have hqc := clampI (n := q) (by omega)
      obtain ⟨p, hp, rfl⟩ := isP_of hW c14
      have hp12 : p < 12 := by have := hW.1; omega
      have hpc := clampI (n := p) (by omega)
      obtain ⟨m, hm, em⟩ := hP p hp12
      refine aw_iload_n C dX9_child_21 rfl rfl rfl ?_
      refine aw_iload_n C dX9_child_22 rfl rfl rfl ?_
      refine aw_icmp_gt (tgt := 30) C dX9_child_23 (by decide) rfl (fun c23 => ?_) (fun c23 => ?_)
      · refine aw_aload_n C dX9_child_30 rfl rfl rfl ?_
        refine aw_getf C f_X9_26 hM.1 rfl dX9_child_31 rfl ?_
        refine aw_iload_n C dX9_child_34 rfl rfl rfl ?_
        refine mw_iald (k := 8) (N := 12) C hM rfl rfl rfl (by omega) dX9_child_35 rfl ?_
        refine aw_iconst (v := 2) C dX9_child_36 rfl rfl ?_
        refine aw_icmp_eq (tgt := 67) C dX9_child_37 (by decide) rfl (fun c37 => ?_) (fun c37 => ?_)
        · refine aw_iconst (v := 3) C dX9_child_67 rfl rfl ?_
          refine aw_goto (tgt := 72) C dX9_child_68 (by decide) ?_
          refine mw_put (th' := _) (u' := _) C hM hF f_X9_117 rfl rfl rfl rfl rfl rfl dX9_child_72 rfl (fun sg hM hF => ?_)
          refine aw_aload_n C dX9_child_75 rfl rfl rfl ?_
          refine aw_getf C f_X9_117 hM.1 rfl dX9_child_76 rfl ?_
          refine aw_if_le (tgt := 84) C dX9_child_79 (by decide) rfl (fun h => by first | exact absurd h (by decide) | exact absurd (by decide) h) (fun _ => ?_)
          refine aw_iconst (v := 0) C dX9_child_82 rfl rfl ?_
          exact aw_iret C rfl (Nat.le_refl _) (Nat.le_refl _) (PO.of (by simp [opChild, c6, c14, c23, c37, hpc, hqc]) hM hF) dX9_child_83
        · refine aw_aload_n C dX9_child_40 rfl rfl rfl ?_
          refine aw_iload_n C dX9_child_41 rfl rfl rfl ?_
          refine aw_iload_n C dX9_child_42 rfl rfl rfl ?_
          refine mw_callVp C k_X9_141 hM (M_isChild hl hst hM hp12 hm em) ⟨by decide, by decide⟩ rfl rfl rfl (Nat.le_of_ble_eq_true rfl) dX9_child_43 rfl ?_
          refine aw_if_ne (tgt := 67) C dX9_child_46 (by decide) rfl (fun c46 => ?_) (fun c46 => ?_)
          · have c46 := tr_of c46
            refine aw_iconst (v := 3) C dX9_child_67 rfl rfl ?_
            refine aw_goto (tgt := 72) C dX9_child_68 (by decide) ?_
            refine mw_put (th' := _) (u' := _) C hM hF f_X9_117 rfl rfl rfl rfl rfl rfl dX9_child_72 rfl (fun sg hM hF => ?_)
            refine aw_aload_n C dX9_child_75 rfl rfl rfl ?_
            refine aw_getf C f_X9_117 hM.1 rfl dX9_child_76 rfl ?_
            refine aw_if_le (tgt := 84) C dX9_child_79 (by decide) rfl (fun h => by first | exact absurd h (by decide) | exact absurd (by decide) h) (fun _ => ?_)
            refine aw_iconst (v := 0) C dX9_child_82 rfl rfl ?_
            exact aw_iret C rfl (Nat.le_refl _) (Nat.le_refl _) (PO.of (by simp [opChild, c6, c14, c23, c37, c46, hpc, hqc]) hM hF) dX9_child_83
          · have c46 := fa_of c46
            refine aw_aload_n C dX9_child_49 rfl rfl rfl ?_
            refine aw_getf C f_X9_20 hM.1 rfl dX9_child_50 rfl ?_
            refine aw_iload_n C dX9_child_53 rfl rfl rfl ?_
            refine mw_zald (k := 6) (N := 12) C hM rfl rfl rfl (by omega) dX9_child_54 rfl ?_
            refine aw_if_ne (tgt := 67) C dX9_child_55 (by decide) rfl (fun c55 => ?_) (fun c55 => ?_)
            · refine aw_iconst (v := 3) C dX9_child_67 rfl rfl ?_
              refine aw_goto (tgt := 72) C dX9_child_68 (by decide) ?_
              refine mw_put (th' := _) (u' := _) C hM hF f_X9_117 rfl rfl rfl rfl rfl rfl dX9_child_72 rfl (fun sg hM hF => ?_)
              refine aw_aload_n C dX9_child_75 rfl rfl rfl ?_
              refine aw_getf C f_X9_117 hM.1 rfl dX9_child_76 rfl ?_
              refine aw_if_le (tgt := 84) C dX9_child_79 (by decide) rfl (fun h => by first | exact absurd h (by decide) | exact absurd (by decide) h) (fun _ => ?_)
              refine aw_iconst (v := 0) C dX9_child_82 rfl rfl ?_
              exact aw_iret C rfl (Nat.le_refl _) (Nat.le_refl _) (PO.of (by simp [opChild, c6, c14, c23, c37, c46, c55, hpc, hqc]) hM hF) dX9_child_83
            · refine aw_aload_n C dX9_child_58 rfl rfl rfl ?_
              refine aw_getf C f_X9_20 hM.1 rfl dX9_child_59 rfl ?_
              refine aw_iload_n C dX9_child_62 rfl rfl rfl ?_
              refine mw_zald (k := 6) (N := 12) C hM rfl rfl rfl (by omega) dX9_child_63 rfl ?_
              refine aw_if_eq (tgt := 71) C dX9_child_64 (by decide) rfl (fun c64 => ?_) (fun c64 => ?_)
              · refine aw_iconst (v := 0) C dX9_child_71 rfl rfl ?_
                refine mw_put (th' := _) (u' := _) C hM hF f_X9_117 rfl rfl rfl rfl rfl rfl dX9_child_72 rfl (fun sg hM hF => ?_)
                refine aw_aload_n C dX9_child_75 rfl rfl rfl ?_
                refine aw_getf C f_X9_117 hM.1 rfl dX9_child_76 rfl ?_
                refine aw_if_le (tgt := 84) C dX9_child_79 (by decide) rfl (fun _ => ?_) (fun h => by first | exact absurd h (by decide) | exact absurd (by decide) h)
                have hm2 : m < 2 := by rw [em, show (2 : Int32) = nI 2 from rfl, nI_eq (by omega) (by decide)] at c37; omega
                refine aw_aload_n C dX9_child_84 rfl rfl rfl ?_
                refine aw_getf C f_X9_23 hM.1 rfl dX9_child_85 rfl ?_
                refine aw_iconst (v := 2) C dX9_child_88 rfl rfl ?_
                refine aw_iload_n C dX9_child_89 rfl rfl rfl ?_
                refine aw_imul C dX9_child_90 rfl ?_
                refine aw_aload_n C dX9_child_91 rfl rfl rfl ?_
                refine aw_getf C f_X9_26 hM.1 rfl dX9_child_92 rfl ?_
                refine aw_iload_n C dX9_child_95 rfl rfl rfl ?_
                refine mw_iald (k := 8) (N := 12) C hM rfl rfl rfl (by omega) dX9_child_96 rfl ?_
                refine aw_iadd C dX9_child_97 rfl ?_
                refine aw_iload_n C dX9_child_98 rfl rfl rfl ?_
                refine mw_iast (k := 7) (N := 24) C hM hF rfl rfl (i := 2 * p + m) (by rw [em, show (2 : Int32) = nI 2 from rfl, pk_mul, nI_add]) (by omega) dX9_child_99 rfl (fun sg hM hF => ?_)
                refine aw_aload_n C dX9_child_100 rfl rfl rfl ?_
                refine aw_getf C f_X9_26 hM.1 rfl dX9_child_101 rfl ?_
                refine aw_iload_n C dX9_child_104 rfl rfl rfl ?_
                refine aw_dup2 C dX9_child_105 rfl rfl rfl ?_
                refine mw_iald (k := 8) (N := 12) C hM rfl rfl rfl (by omega) dX9_child_106 rfl ?_
                refine aw_iconst (v := 1) C dX9_child_107 rfl rfl ?_
                refine aw_iadd C dX9_child_108 rfl ?_
                refine mw_iast (k := 8) (N := 12) C hM hF rfl rfl rfl (by omega) dX9_child_109 rfl (fun sg hM hF => ?_)
                refine aw_aload_n C dX9_child_110 rfl rfl rfl ?_
                refine aw_getf C f_X9_26 hM.1 rfl dX9_child_111 rfl ?_
                refine aw_iload_n C dX9_child_114 rfl rfl rfl ?_
                refine mw_iald (k := 8) (N := 12) C hM rfl rfl rfl (by omega) dX9_child_115 rfl ?_
                exact aw_iret C rfl (Nat.le_refl _) (Nat.le_refl _) (PO.of (by rw [opChild, if_neg (by simp [c6, c14]), if_neg (by simpa using c23), hpc, hqc, if_neg (by simp [c37, c46, c55, c64]), em, clampI (by omega)]; simp [uI_I, em]) hM hF) dX9_child_116
              · refine aw_iconst (v := 3) C dX9_child_67 rfl rfl ?_
                refine aw_goto (tgt := 72) C dX9_child_68 (by decide) ?_
                refine mw_put (th' := _) (u' := _) C hM hF f_X9_117 rfl rfl rfl rfl rfl rfl dX9_child_72 rfl (fun sg hM hF => ?_)
                refine aw_aload_n C dX9_child_75 rfl rfl rfl ?_
                refine aw_getf C f_X9_117 hM.1 rfl dX9_child_76 rfl ?_
                refine aw_if_le (tgt := 84) C dX9_child_79 (by decide) rfl (fun h => by first | exact absurd h (by decide) | exact absurd (by decide) h) (fun _ => ?_)
                refine aw_iconst (v := 0) C dX9_child_82 rfl rfl ?_
                exact aw_iret C rfl (Nat.le_refl _) (Nat.le_refl _) (PO.of (by simp [opChild, c6, c14, c23, c37, c46, c55, c64, hpc, hqc]) hM hF) dX9_child_83
      · refine aw_iconst (v := 2) C dX9_child_26 rfl rfl ?_
        refine aw_goto (tgt := 72) C dX9_child_27 (by decide) ?_
        refine mw_put (th' := _) (u' := _) C hM hF f_X9_117 rfl rfl rfl rfl rfl rfl dX9_child_72 rfl (fun sg hM hF => ?_)
        refine aw_aload_n C dX9_child_75 rfl rfl rfl ?_
        refine aw_getf C f_X9_117 hM.1 rfl dX9_child_76 rfl ?_
        refine aw_if_le (tgt := 84) C dX9_child_79 (by decide) rfl (fun h => by first | exact absurd h (by decide) | exact absurd (by decide) h) (fun _ => ?_)
        refine aw_iconst (v := 0) C dX9_child_82 rfl rfl ?_
        exact aw_iret C rfl (Nat.le_refl _) (Nat.le_refl _) (PO.of (by simp [opChild, c6, c14, c23, hpc, hqc]) hM hF) dX9_child_83
    · have c14 := fa_of c14
      refine aw_iconst (v := 1) C dX9_child_17 rfl rfl ?_
      refine aw_goto (tgt := 72) C dX9_child_18 (by decide) ?_
      refine mw_put (th' := _) (u' := _) C hM hF f_X9_117 rfl rfl rfl rfl rfl rfl dX9_child_72 rfl (fun sg hM hF => ?_)
      refine aw_aload_n C dX9_child_75 rfl rfl rfl ?_
      refine aw_getf C f_X9_117 hM.1 rfl dX9_child_76 rfl ?_
      refine aw_if_le (tgt := 84) C dX9_child_79 (by decide) rfl (fun h => by first | exact absurd h (by decide) | exact absurd (by decide) h) (fun _ => ?_)
      refine aw_iconst (v := 0) C dX9_child_82 rfl rfl ?_
      exact aw_iret C rfl (Nat.le_refl _) (Nat.le_refl _) (PO.of (by simp [opChild, c6, c14]) hM hF) dX9_child_83
