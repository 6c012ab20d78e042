set_option maxRecDepth 100000 in
theorem M_least {g : Gx} {l : Launch} (hl : l.flags = flags0) (hst : g.Stable) {ad : Nat → Nat} {th : Int32} {u : MU} {sg : Sg} (hM : MS g ad th u sg) {d : Nat} (hd : d < 60) : MM g l yX9_least cX9_least 2 (some .int) (rmM 1) sg [.ref (ad 0), .int (nI d)] (PP sg (.int (least u d))) noX := by
  refine MM.of hl hst (by decide) (Nat.le_of_ble_eq_true rfl) (fun x hg hlx C hin hout hargs => ?_)
  subst hg; subst hlx
  have C : AWC x cX9_least 2 RX9 (rmM 1) (some .int) := C
  have hF : MF ad sg sg := MF.rf
  show AW x (RQ x _ _ _ _) 0 0 sg 0 [(0, .ref (ad 0)), (1, .int (nI d))] []
  refine aw_aload_n C dX9_least_0 rfl rfl rfl ?_
  refine aw_getf C f_X9_86 hM.1 rfl dX9_least_1 rfl ?_
  refine aw_iload_n C dX9_least_4 rfl rfl rfl ?_
  refine mw_iald (k := 29) (N := 60) C hM rfl rfl rfl (by omega) dX9_least_5 rfl ?_
  refine aw_if_ne (tgt := 13) C dX9_least_6 (by decide) rfl (fun c6 => ?_) (fun c6 => ?_)
  · refine aw_aload_n C dX9_least_13 rfl rfl rfl ?_
    refine aw_getf C f_X9_83 hM.1 rfl dX9_least_14 rfl ?_
    refine aw_iconst (v := 4) C dX9_least_17 rfl rfl ?_
    refine aw_iload_n C dX9_least_18 rfl rfl rfl ?_
    refine aw_imul C dX9_least_19 rfl ?_
    refine mw_iald (k := 28) (N := 240) C hM rfl rfl (i := 4 * d) (pk_mul 4 d) (by omega) dX9_least_20 rfl ?_
    exact aw_iret C rfl (Nat.le_refl _) (Nat.le_refl _) (PP.of (by simp [least, c6])) dX9_least_21
  · refine aw_iconst (v := -1) C dX9_least_9 rfl rfl ?_
    refine aw_goto (tgt := 21) C dX9_least_10 (by decide) ?_
    exact aw_iret C rfl (Nat.le_refl _) (Nat.le_refl _) (PP.of (by simp [least, c6])) dX9_least_21
set_option maxRecDepth 100000 in
theorem M_proof {g : Gx} {l : Launch} (hl : l.flags = flags0) (hst : g.Stable) {ad : Nat → Nat} {th : Int32} {u : MU} {sg : Sg} (hM : MS g ad th u sg) (hW : WN u) {v : Int32} : MM g l yX9_proof cX9_proof 2 (some .int) (rmM 3) sg [.ref (ad 0), .int v] (PO g ad sg (opProof u v)) noX := by
  refine MM.of hl hst (by decide) (Nat.le_of_ble_eq_true rfl) (fun x hg hlx C hin hout hargs => ?_)
  subst hg; subst hlx
  have C : AWC x cX9_proof 2 RX9 (rmM 3) (some .int) := C
  have hF : MF ad sg sg := MF.rf
  show AW x (RQ x _ _ _ _) 0 0 sg 0 [(0, .ref (ad 0)), (1, .int v)] []
  refine aw_aload_n C dX9_proof_0 rfl rfl rfl ?_
  refine aw_aload_n C dX9_proof_1 rfl rfl rfl ?_
  refine aw_iload_n C dX9_proof_2 rfl rfl rfl ?_
  refine mw_callVp C k_X9_165 hM (M_isDeed hl hst hM) ⟨by decide, by decide⟩ rfl rfl rfl (Nat.le_of_ble_eq_true rfl) dX9_proof_3 rfl ?_
  refine aw_if_eq (tgt := 13) C dX9_proof_6 (by decide) rfl (fun c6 => ?_) (fun c6 => ?_)
  · have c6 := fa_of c6
    refine aw_iconst (v := 1) C dX9_proof_13 rfl rfl ?_
    refine mw_put (th' := _) (u' := _) C hM hF f_X9_117 rfl rfl rfl rfl rfl rfl dX9_proof_14 rfl (fun sg hM hF => ?_)
    refine aw_aload_n C dX9_proof_17 rfl rfl rfl ?_
    refine aw_getf C f_X9_117 hM.1 rfl dX9_proof_18 rfl ?_
    refine aw_if_le (tgt := 28) C dX9_proof_21 (by decide) rfl (fun h => by first | exact absurd h (by decide) | exact absurd (by decide) h) (fun _ => ?_)
    refine aw_iconst (v := 0) C dX9_proof_24 rfl rfl ?_
    refine aw_goto (tgt := 33) C dX9_proof_25 (by decide) ?_
    exact aw_iret C rfl (Nat.le_refl _) (Nat.le_refl _) (PO.of (by simp [opProof, c6]) hM hF) dX9_proof_33
  · have c6 := tr_of c6
    refine aw_iconst (v := 0) C dX9_proof_9 rfl rfl ?_
    refine aw_goto (tgt := 14) C dX9_proof_10 (by decide) ?_
    refine mw_put (th' := _) (u' := _) C hM hF f_X9_117 rfl rfl rfl rfl rfl rfl dX9_proof_14 rfl (fun sg hM hF => ?_)
    refine aw_aload_n C dX9_proof_17 rfl rfl rfl ?_
    refine aw_getf C f_X9_117 hM.1 rfl dX9_proof_18 rfl ?_
    refine aw_if_le (tgt := 28) C dX9_proof_21 (by decide) rfl (fun _ => ?_) (fun h => by first | exact absurd h (by decide) | exact absurd (by decide) h)
    obtain ⟨p, hp, rfl⟩ := isDd_of hW c6
    have hp60 : p < 60 := by have := hW.2.1; omega
    have hpc := clampI (n := p) (by omega)
    refine aw_aload_n C dX9_proof_28 rfl rfl rfl ?_
    refine aw_iload_n C dX9_proof_29 rfl rfl rfl ?_
    refine mw_callVp C k_X9_192 hM (M_least hl hst hM hp60) ⟨by decide, by decide⟩ rfl rfl rfl (Nat.le_of_ble_eq_true rfl) dX9_proof_30 rfl ?_
    exact aw_iret C rfl (Nat.le_refl _) (Nat.le_refl _) (PO.of (by simp [opProof, c6, hpc]) hM hF) dX9_proof_33
set_option maxRecDepth 100000 in
theorem M_isGood {g : Gx} {l : Launch} (hl : l.flags = flags0) (hst : g.Stable) {ad : Nat → Nat} {th : Int32} {u : MU} {sg : Sg} (hM : MS g ad th u sg) (hW : WN u) (hD : WD u) (hB : WB u) {v : Int32} : MM g l yX9_isGood cX9_isGood 2 (some .boolean) (rmM 3) sg [.ref (ad 0), .int v] (PO g ad sg (opIsGood u v)) noX := by
  refine MM.of hl hst (by decide) (Nat.le_of_ble_eq_true rfl) (fun x hg hlx C hin hout hargs => ?_)
  subst hg; subst hlx
  have C : AWC x cX9_isGood 2 RX9 (rmM 3) (some .boolean) := C
  have hF : MF ad sg sg := MF.rf
  show AW x (RQ x _ _ _ _) 0 0 sg 0 [(0, .ref (ad 0)), (1, .int v)] []
  refine aw_aload_n C dX9_isGood_0 rfl rfl rfl ?_
  refine aw_aload_n C dX9_isGood_1 rfl rfl rfl ?_
  refine aw_iload_n C dX9_isGood_2 rfl rfl rfl ?_
  refine mw_callVp C k_X9_165 hM (M_isDeed hl hst hM) ⟨by decide, by decide⟩ rfl rfl rfl (Nat.le_of_ble_eq_true rfl) dX9_isGood_3 rfl ?_
  refine aw_if_eq (tgt := 13) C dX9_isGood_6 (by decide) rfl (fun c6 => ?_) (fun c6 => ?_)
  · have c6 := fa_of c6
    refine aw_iconst (v := 1) C dX9_isGood_13 rfl rfl ?_
    refine mw_put (th' := _) (u' := _) C hM hF f_X9_117 rfl rfl rfl rfl rfl rfl dX9_isGood_14 rfl (fun sg hM hF => ?_)
    refine aw_aload_n C dX9_isGood_17 rfl rfl rfl ?_
    refine aw_getf C f_X9_117 hM.1 rfl dX9_isGood_18 rfl ?_
    refine aw_if_ne (tgt := 36) C dX9_isGood_21 (by decide) rfl (fun _ => ?_) (fun h => by first | exact absurd h (by decide) | exact absurd (by decide) h)
    refine aw_iconst (v := 0) C dX9_isGood_36 rfl rfl ?_
    exact aw_iret C (by decide) (Nat.le_refl _) (Nat.le_refl _) (PO.of (by simp [opIsGood, b2i, c6]) hM hF) dX9_isGood_37
  · have c6 := tr_of c6
    refine aw_iconst (v := 0) C dX9_isGood_9 rfl rfl ?_
    refine aw_goto (tgt := 14) C dX9_isGood_10 (by decide) ?_
    refine mw_put (th' := _) (u' := _) C hM hF f_X9_117 rfl rfl rfl rfl rfl rfl dX9_isGood_14 rfl (fun sg hM hF => ?_)
    refine aw_aload_n C dX9_isGood_17 rfl rfl rfl ?_
    refine aw_getf C f_X9_117 hM.1 rfl dX9_isGood_18 rfl ?_
    refine aw_if_ne (tgt := 36) C dX9_isGood_21 (by decide) rfl (fun h => by first | exact absurd h (by decide) | exact absurd (by decide) h) (fun _ => ?_)
    obtain ⟨p, hp, rfl⟩ := isDd_of hW c6
    have hp60 : p < 60 := by have := hW.2.1; omega
    have hpc := clampI (n := p) (by omega)
    refine aw_aload_n C dX9_isGood_24 rfl rfl rfl ?_
    refine aw_iload_n C dX9_isGood_25 rfl rfl rfl ?_
    refine mw_callVp C k_X9_162 hM (M_good hl hst hM hD hB hp60) ⟨by decide, by decide⟩ rfl rfl rfl (Nat.le_of_ble_eq_true rfl) dX9_isGood_26 rfl ?_
    refine aw_if_eq (tgt := 36) C dX9_isGood_29 (by decide) rfl (fun c29 => ?_) (fun c29 => ?_)
    · have c29 := fa_of c29
      refine aw_iconst (v := 0) C dX9_isGood_36 rfl rfl ?_
      exact aw_iret C (by decide) (Nat.le_refl _) (Nat.le_refl _) (PO.of (by simp [opIsGood, b2i, c6, c29, hpc]) hM hF) dX9_isGood_37
    · have c29 := tr_of c29
      refine aw_iconst (v := 1) C dX9_isGood_32 rfl rfl ?_
      refine aw_goto (tgt := 37) C dX9_isGood_33 (by decide) ?_
      exact aw_iret C (by decide) (Nat.le_refl _) (Nat.le_refl _) (PO.of (by simp [opIsGood, b2i, c6, c29, hpc]) hM hF) dX9_isGood_37
set_option maxRecDepth 100000 in
theorem M_needs {g : Gx} {l : Launch} (hl : l.flags = flags0) (hst : g.Stable) {ad : Nat → Nat} {th : Int32} {u : MU} {sg : Sg} (hM : MS g ad th u sg) (hD : WD u) {d : Nat} (hd : d < 60) : MM g l yX9_needs cX9_needs 3 (some .int) (rmM 2) sg [.ref (ad 0), .int (nI d)] (PP sg (.int (needs u d))) noX := by
  refine MM.of hl hst (by decide) (Nat.le_of_ble_eq_true rfl) (fun x hg hlx C hin hout hargs => ?_)
  subst hg; subst hlx
  have C : AWC x cX9_needs 3 RX9 (rmM 2) (some .int) := C
  have hF : MF ad sg sg := MF.rf
  show AW x (RQ x _ _ _ _) 0 0 sg 0 [(0, .ref (ad 0)), (1, .int (nI d))] []
  obtain ⟨⟨a, ha, ea⟩, b, hb, eb⟩ := hD d hd
  have hac := clampI (n := a) (by omega)
  have hbc := clampI (n := b) (by omega)
  have k92 : ∀ (z : Int32), z = needs u d → AW x (RQ x (PP sg (.int (needs u d))) noX (rmM 2).cells (rmM 2).slots) 0 0 sg 92 [(0, .ref (ad 0)), (1, .int (nI d)), (2, .int z)] [] := by
    intro z hz
    refine aw_iload_n C dX9_needs_92 rfl rfl rfl ?_
    exact aw_iret C rfl (Nat.le_refl _) (Nat.le_refl _) (PP.of (by rw [hz])) dX9_needs_93
  have k47 : ∀ (z : Int32), z = ((5 ||| (if isOfT u d = true then 2 else 0) : Int32) ||| (if u.1 11 d = 1 ∨ u.1 11 d = 4 then 8 else 0)) → AW x (RQ x (PP sg (.int (needs u d))) noX (rmM 2).cells (rmM 2).slots) 0 0 sg 47 [(0, .ref (ad 0)), (1, .int (nI d)), (2, .int z)] [] := by
    intro z hz
    refine aw_iload_n C dX9_needs_47 rfl rfl rfl ?_
    refine aw_aload_n C dX9_needs_48 rfl rfl rfl ?_
    refine aw_getf C f_X9_16 hM.1 rfl dX9_needs_49 rfl ?_
    refine aw_aload_n C dX9_needs_52 rfl rfl rfl ?_
    refine aw_getf C f_X9_35 hM.1 rfl dX9_needs_53 rfl ?_
    refine aw_iload_n C dX9_needs_56 rfl rfl rfl ?_
    refine mw_iald (k := 12) (N := 60) C hM rfl rfl rfl (by omega) dX9_needs_57 rfl ?_
    refine mw_zald (k := 5) (N := 12) C hM rfl rfl ea ha dX9_needs_58 rfl ?_
    refine aw_if_ne (tgt := 84) C dX9_needs_59 (by decide) rfl (fun c59 => ?_) (fun c59 => ?_)
    · refine aw_bipush (v := 16) C dX9_needs_84 rfl rfl ?_
      refine aw_goto (tgt := 90) C dX9_needs_86 (by decide) ?_
      refine aw_ior C dX9_needs_90 rfl ?_
      refine aw_istore_n (ls' := [(2, _), (0, _), (1, _)]) C dX9_needs_91 rfl (by decide) rfl rfl ?_
      refine aw_pick (ls' := [(0, _), (1, _), (2, _)]) [1, 2, 0] rfl ?_
      exact k92 _ (by rw [hz]; simp [needs, ea, eb, hac, hbc, c59])
    · refine aw_aload_n C dX9_needs_62 rfl rfl rfl ?_
      refine aw_iload_n C dX9_needs_63 rfl rfl rfl ?_
      refine mw_callVp C k_X9_178 hM (M_isOfThing hl hst hM hd) ⟨by decide, by decide⟩ rfl rfl rfl (Nat.le_of_ble_eq_true rfl) dX9_needs_64 rfl ?_
      refine aw_if_eq (tgt := 89) C dX9_needs_67 (by decide) rfl (fun c67 => ?_) (fun c67 => ?_)
      · have c67 := fa_of c67
        refine aw_iconst (v := 0) C dX9_needs_89 rfl rfl ?_
        refine aw_ior C dX9_needs_90 rfl ?_
        refine aw_istore_n (ls' := [(2, _), (0, _), (1, _)]) C dX9_needs_91 rfl (by decide) rfl rfl ?_
        refine aw_pick (ls' := [(0, _), (1, _), (2, _)]) [1, 2, 0] rfl ?_
        exact k92 _ (by rw [hz]; simp [needs, ea, eb, hac, hbc, c59, c67])
      · have c67 := tr_of c67
        refine aw_aload_n C dX9_needs_70 rfl rfl rfl ?_
        refine aw_getf C f_X9_16 hM.1 rfl dX9_needs_71 rfl ?_
        refine aw_aload_n C dX9_needs_74 rfl rfl rfl ?_
        refine aw_getf C f_X9_38 hM.1 rfl dX9_needs_75 rfl ?_
        refine aw_iload_n C dX9_needs_78 rfl rfl rfl ?_
        refine mw_iald (k := 13) (N := 60) C hM rfl rfl rfl (by omega) dX9_needs_79 rfl ?_
        refine mw_zald (k := 5) (N := 12) C hM rfl rfl eb hb dX9_needs_80 rfl ?_
        refine aw_if_eq (tgt := 89) C dX9_needs_81 (by decide) rfl (fun c81 => ?_) (fun c81 => ?_)
        · refine aw_iconst (v := 0) C dX9_needs_89 rfl rfl ?_
          refine aw_ior C dX9_needs_90 rfl ?_
          refine aw_istore_n (ls' := [(2, _), (0, _), (1, _)]) C dX9_needs_91 rfl (by decide) rfl rfl ?_
          refine aw_pick (ls' := [(0, _), (1, _), (2, _)]) [1, 2, 0] rfl ?_
          exact k92 _ (by rw [hz]; simp [needs, ea, eb, hac, hbc, c59, c67, c81])
        · refine aw_bipush (v := 16) C dX9_needs_84 rfl rfl ?_
          refine aw_goto (tgt := 90) C dX9_needs_86 (by decide) ?_
          refine aw_ior C dX9_needs_90 rfl ?_
          refine aw_istore_n (ls' := [(2, _), (0, _), (1, _)]) C dX9_needs_91 rfl (by decide) rfl rfl ?_
          refine aw_pick (ls' := [(0, _), (1, _), (2, _)]) [1, 2, 0] rfl ?_
          exact k92 _ (by rw [hz]; simp [needs, ea, eb, hac, hbc, c59, c67, c81])
  have k18 : ∀ (z : Int32), z = (5 ||| (if isOfT u d = true then 2 else 0) : Int32) → AW x (RQ x (PP sg (.int (needs u d))) noX (rmM 2).cells (rmM 2).slots) 0 0 sg 18 [(0, .ref (ad 0)), (1, .int (nI d)), (2, .int z)] [] := by
    intro z hz
    refine aw_iload_n C dX9_needs_18 rfl rfl rfl ?_
    refine aw_aload_n C dX9_needs_19 rfl rfl rfl ?_
    refine aw_getf C f_X9_32 hM.1 rfl dX9_needs_20 rfl ?_
    refine aw_iload_n C dX9_needs_23 rfl rfl rfl ?_
    refine mw_iald (k := 11) (N := 60) C hM rfl rfl rfl (by omega) dX9_needs_24 rfl ?_
    refine aw_iconst (v := 1) C dX9_needs_25 rfl rfl ?_
    refine aw_icmp_eq (tgt := 39) C dX9_needs_26 (by decide) rfl (fun c26 => ?_) (fun c26 => ?_)
    · refine aw_bipush (v := 8) C dX9_needs_39 rfl rfl ?_
      refine aw_goto (tgt := 45) C dX9_needs_41 (by decide) ?_
      refine aw_ior C dX9_needs_45 rfl ?_
      refine aw_istore_n (ls' := [(2, _), (0, _), (1, _)]) C dX9_needs_46 rfl (by decide) rfl rfl ?_
      refine aw_pick (ls' := [(0, _), (1, _), (2, _)]) [1, 2, 0] rfl ?_
      exact k47 _ (by rw [hz]; simp [c26])
    · refine aw_aload_n C dX9_needs_29 rfl rfl rfl ?_
      refine aw_getf C f_X9_32 hM.1 rfl dX9_needs_30 rfl ?_
      refine aw_iload_n C dX9_needs_33 rfl rfl rfl ?_
      refine mw_iald (k := 11) (N := 60) C hM rfl rfl rfl (by omega) dX9_needs_34 rfl ?_
      refine aw_iconst (v := 4) C dX9_needs_35 rfl rfl ?_
      refine aw_icmp_ne (tgt := 44) C dX9_needs_36 (by decide) rfl (fun c36 => ?_) (fun c36 => ?_)
      · refine aw_iconst (v := 0) C dX9_needs_44 rfl rfl ?_
        refine aw_ior C dX9_needs_45 rfl ?_
        refine aw_istore_n (ls' := [(2, _), (0, _), (1, _)]) C dX9_needs_46 rfl (by decide) rfl rfl ?_
        refine aw_pick (ls' := [(0, _), (1, _), (2, _)]) [1, 2, 0] rfl ?_
        exact k47 _ (by rw [hz]; simp [c26, c36])
      · refine aw_bipush (v := 8) C dX9_needs_39 rfl rfl ?_
        refine aw_goto (tgt := 45) C dX9_needs_41 (by decide) ?_
        refine aw_ior C dX9_needs_45 rfl ?_
        refine aw_istore_n (ls' := [(2, _), (0, _), (1, _)]) C dX9_needs_46 rfl (by decide) rfl rfl ?_
        refine aw_pick (ls' := [(0, _), (1, _), (2, _)]) [1, 2, 0] rfl ?_
        exact k47 _ (by rw [hz]; simp [c26, c36])
  refine aw_iconst (v := 5) C dX9_needs_0 rfl rfl ?_
  refine aw_istore_n (ls' := [(2, _), (0, _), (1, _)]) C dX9_needs_1 rfl (by decide) rfl rfl ?_
  refine aw_iload_n C dX9_needs_2 rfl rfl rfl ?_
  refine aw_aload_n C dX9_needs_3 rfl rfl rfl ?_
  refine aw_iload_n C dX9_needs_4 rfl rfl rfl ?_
  refine mw_callVp C k_X9_178 hM (M_isOfThing hl hst hM hd) ⟨by decide, by decide⟩ rfl rfl rfl (Nat.le_of_ble_eq_true rfl) dX9_needs_5 rfl ?_
  refine aw_if_eq (tgt := 15) C dX9_needs_8 (by decide) rfl (fun c8 => ?_) (fun c8 => ?_)
  · have c8 := fa_of c8
    refine aw_iconst (v := 0) C dX9_needs_15 rfl rfl ?_
    refine aw_ior C dX9_needs_16 rfl ?_
    refine aw_istore_n (ls' := [(2, _), (0, _), (1, _)]) C dX9_needs_17 rfl (by decide) rfl rfl ?_
    refine aw_pick (ls' := [(0, _), (1, _), (2, _)]) [1, 2, 0] rfl ?_
    exact k18 _ (by simp [c8])
  · have c8 := tr_of c8
    refine aw_iconst (v := 2) C dX9_needs_11 rfl rfl ?_
    refine aw_goto (tgt := 16) C dX9_needs_12 (by decide) ?_
    refine aw_ior C dX9_needs_16 rfl ?_
    refine aw_istore_n (ls' := [(2, _), (0, _), (1, _)]) C dX9_needs_17 rfl (by decide) rfl rfl ?_
    refine aw_pick (ls' := [(0, _), (1, _), (2, _)]) [1, 2, 0] rfl ?_
    exact k18 _ (by simp [c8])
set_option maxRecDepth 100000 in
theorem M_close {g : Gx} {l : Launch} (hl : l.flags = flags0) (hst : g.Stable) {ad : Nat → Nat} {th : Int32} {u : MU} {sg : Sg} (hM : MS g ad th u sg) (hW : WN u) (h30 : u.2.2.1 30 < 60) (hD : WD u) {v : Int32} : MM g l yX9_close cX9_close 3 (some .int) (rmM 3) sg [.ref (ad 0), .int v] (PO g ad sg (opClose u v)) noX := by
  refine MM.of hl hst (by decide) (Nat.le_of_ble_eq_true rfl) (fun x hg hlx C hin hout hargs => ?_)
  subst hg; subst hlx
  have C : AWC x cX9_close 3 RX9 (rmM 3) (some .int) := C
  have hF : MF ad sg sg := MF.rf
  show AW x (RQ x _ _ _ _) 0 0 sg 0 [(0, .ref (ad 0)), (1, .int v)] []
  refine aw_aload_n C dX9_close_0 rfl rfl rfl ?_
  refine aw_aload_n C dX9_close_1 rfl rfl rfl ?_
  refine aw_iload_n C dX9_close_2 rfl rfl rfl ?_
  refine mw_callVp C k_X9_165 hM (M_isDeed hl hst hM) ⟨by decide, by decide⟩ rfl rfl rfl (Nat.le_of_ble_eq_true rfl) dX9_close_3 rfl ?_
  refine aw_if_ne (tgt := 13) C dX9_close_6 (by decide) rfl (fun c6 => ?_) (fun c6 => ?_)
  · have c6 := tr_of c6
    obtain ⟨p, hp, rfl⟩ := isDd_of hW c6
    have hp60 : p < 60 := by have := hW.2.1; omega
    have hpc := clampI (n := p) (by omega)
    obtain ⟨⟨a, ha, ea⟩, b, hb, eb⟩ := hD p hp60
    have hac := clampI (n := a) (by omega)
    have hbc := clampI (n := b) (by omega)
    refine aw_aload_n C dX9_close_13 rfl rfl rfl ?_
    refine aw_getf C f_X9_65 hM.1 rfl dX9_close_14 rfl ?_
    refine aw_iload_n C dX9_close_17 rfl rfl rfl ?_
    refine mw_iald (k := 22) (N := 60) C hM rfl rfl rfl (by omega) dX9_close_18 rfl ?_
    refine aw_if_ne (tgt := 50) C dX9_close_19 (by decide) rfl (fun c19 => ?_) (fun c19 => ?_)
    · refine aw_iconst (v := 2) C dX9_close_50 rfl rfl ?_
      refine aw_goto (tgt := 55) C dX9_close_51 (by decide) ?_
      refine mw_put (th' := _) (u' := _) C hM hF f_X9_117 rfl rfl rfl rfl rfl rfl dX9_close_55 rfl (fun sg hM hF => ?_)
      refine aw_aload_n C dX9_close_58 rfl rfl rfl ?_
      refine aw_getf C f_X9_117 hM.1 rfl dX9_close_59 rfl ?_
      refine aw_if_le (tgt := 67) C dX9_close_62 (by decide) rfl (fun h => by first | exact absurd h (by decide) | exact absurd (by decide) h) (fun _ => ?_)
      refine aw_iconst (v := 0) C dX9_close_65 rfl rfl ?_
      exact aw_iret C rfl (Nat.le_refl _) (Nat.le_refl _) (PO.of (by simp [opClose, c6, c19, hpc, ea, eb, hac, hbc]) hM hF) dX9_close_66
    · refine aw_aload_n C dX9_close_22 rfl rfl rfl ?_
      refine aw_getf C f_X9_20 hM.1 rfl dX9_close_23 rfl ?_
      refine aw_aload_n C dX9_close_26 rfl rfl rfl ?_
      refine aw_getf C f_X9_35 hM.1 rfl dX9_close_27 rfl ?_
      refine aw_iload_n C dX9_close_30 rfl rfl rfl ?_
      refine mw_iald (k := 12) (N := 60) C hM rfl rfl rfl (by omega) dX9_close_31 rfl ?_
      refine mw_zald (k := 6) (N := 12) C hM rfl rfl ea ha dX9_close_32 rfl ?_
      refine aw_if_ne (tgt := 50) C dX9_close_33 (by decide) rfl (fun c33 => ?_) (fun c33 => ?_)
      · refine aw_iconst (v := 2) C dX9_close_50 rfl rfl ?_
        refine aw_goto (tgt := 55) C dX9_close_51 (by decide) ?_
        refine mw_put (th' := _) (u' := _) C hM hF f_X9_117 rfl rfl rfl rfl rfl rfl dX9_close_55 rfl (fun sg hM hF => ?_)
        refine aw_aload_n C dX9_close_58 rfl rfl rfl ?_
        refine aw_getf C f_X9_117 hM.1 rfl dX9_close_59 rfl ?_
        refine aw_if_le (tgt := 67) C dX9_close_62 (by decide) rfl (fun h => by first | exact absurd h (by decide) | exact absurd (by decide) h) (fun _ => ?_)
        refine aw_iconst (v := 0) C dX9_close_65 rfl rfl ?_
        exact aw_iret C rfl (Nat.le_refl _) (Nat.le_refl _) (PO.of (by simp [opClose, c6, c19, c33, hpc, ea, eb, hac, hbc]) hM hF) dX9_close_66
      · refine aw_aload_n C dX9_close_36 rfl rfl rfl ?_
        refine aw_getf C f_X9_20 hM.1 rfl dX9_close_37 rfl ?_
        refine aw_aload_n C dX9_close_40 rfl rfl rfl ?_
        refine aw_getf C f_X9_38 hM.1 rfl dX9_close_41 rfl ?_
        refine aw_iload_n C dX9_close_44 rfl rfl rfl ?_
        refine mw_iald (k := 13) (N := 60) C hM rfl rfl rfl (by omega) dX9_close_45 rfl ?_
        refine mw_zald (k := 6) (N := 12) C hM rfl rfl eb hb dX9_close_46 rfl ?_
        refine aw_if_eq (tgt := 54) C dX9_close_47 (by decide) rfl (fun c47 => ?_) (fun c47 => ?_)
        · refine aw_iconst (v := 0) C dX9_close_54 rfl rfl ?_
          refine mw_put (th' := _) (u' := _) C hM hF f_X9_117 rfl rfl rfl rfl rfl rfl dX9_close_55 rfl (fun sg hM hF => ?_)
          refine aw_aload_n C dX9_close_58 rfl rfl rfl ?_
          refine aw_getf C f_X9_117 hM.1 rfl dX9_close_59 rfl ?_
          refine aw_if_le (tgt := 67) C dX9_close_62 (by decide) rfl (fun _ => ?_) (fun h => by first | exact absurd h (by decide) | exact absurd (by decide) h)
          refine aw_aload_n C dX9_close_67 rfl rfl rfl ?_
          refine aw_iload_n C dX9_close_68 rfl rfl rfl ?_
          refine mw_callVp C k_X9_178 hM (M_isOfThing hl hst hM hp60) ⟨by decide, by decide⟩ rfl rfl rfl (Nat.le_of_ble_eq_true rfl) dX9_close_69 rfl ?_
          refine aw_if_eq (tgt := 79) C dX9_close_72 (by decide) rfl (fun c72 => ?_) (fun c72 => ?_)
          · have c72 := fa_of c72
            refine aw_iconst (v := 1) C dX9_close_79 rfl rfl ?_
            refine aw_istore_n (ls' := [(2, _), (0, _), (1, _)]) C dX9_close_80 rfl (by decide) rfl rfl ?_
            refine aw_aload_n C dX9_close_81 rfl rfl rfl ?_
            refine aw_getf C f_X9_65 hM.1 rfl dX9_close_82 rfl ?_
            refine aw_iload_n C dX9_close_85 rfl rfl rfl ?_
            refine aw_aload_n C dX9_close_86 rfl rfl rfl ?_
            refine aw_getf C f_X9_59 hM.1 rfl dX9_close_87 rfl ?_
            refine aw_iload_n C dX9_close_90 rfl rfl rfl ?_
            refine mw_iald (k := 20) (N := 60) C hM rfl rfl rfl (by omega) dX9_close_91 rfl ?_
            refine aw_aload_n C dX9_close_92 rfl rfl rfl ?_
            refine aw_iload_n C dX9_close_93 rfl rfl rfl ?_
            refine mw_callVp C k_X9_181 hM (M_needs hl hst hM hD hp60) ⟨by decide, by decide⟩ rfl rfl rfl (Nat.le_of_ble_eq_true rfl) dX9_close_94 rfl ?_
            refine aw_iand C dX9_close_97 rfl ?_
            refine aw_aload_n C dX9_close_98 rfl rfl rfl ?_
            refine aw_iload_n C dX9_close_99 rfl rfl rfl ?_
            refine mw_callVp C k_X9_181 hM (M_needs hl hst hM hD hp60) ⟨by decide, by decide⟩ rfl rfl rfl (Nat.le_of_ble_eq_true rfl) dX9_close_100 rfl ?_
            refine aw_icmp_ne (tgt := 110) C dX9_close_103 (by decide) rfl (fun c103 => ?_) (fun c103 => ?_)
            · refine aw_aload_n C dX9_close_110 rfl rfl rfl ?_
              refine aw_getf C f_X9_59 hM.1 rfl dX9_close_111 rfl ?_
              refine aw_iload_n C dX9_close_114 rfl rfl rfl ?_
              refine mw_iald (k := 20) (N := 60) C hM rfl rfl rfl (by omega) dX9_close_115 rfl ?_
              refine aw_iload_n C dX9_close_116 rfl rfl rfl ?_
              refine aw_iand C dX9_close_117 rfl ?_
              refine aw_iload_n C dX9_close_118 rfl rfl rfl ?_
              refine aw_icmp_ne (tgt := 126) C dX9_close_119 (by decide) rfl (fun c119 => ?_) (fun c119 => ?_)
              · refine aw_iconst (v := 3) C dX9_close_126 rfl rfl ?_
                refine mw_iast (k := 22) (N := 60) C hM hF rfl rfl rfl (by omega) dX9_close_127 rfl (fun sg hM hF => ?_)
                refine aw_aload_n C dX9_close_128 rfl rfl rfl ?_
                refine aw_dup C dX9_close_129 rfl rfl ?_
                refine aw_getf C f_X9_185 hM.1 rfl dX9_close_130 rfl ?_
                refine aw_iconst (v := 1) C dX9_close_133 rfl rfl ?_
                refine aw_iadd C dX9_close_134 rfl ?_
                refine mw_put (th' := _) (u' := uN _ 30 (u.2.2.1 30 + 1)) C hM hF f_X9_185 rfl rfl rfl (by rw [nI_1]; rfl) rfl rfl dX9_close_135 rfl (fun sg hM hF => ?_)
                refine aw_aload_n C dX9_close_138 rfl rfl rfl ?_
                refine aw_getf C f_X9_68 hM.1 rfl dX9_close_139 rfl ?_
                refine aw_iload_n C dX9_close_142 rfl rfl rfl ?_
                refine aw_aload_n C dX9_close_143 rfl rfl rfl ?_
                refine aw_getf C f_X9_185 hM.1 rfl dX9_close_144 rfl ?_
                refine mw_iast (k := 23) (N := 60) C hM hF rfl rfl (v := nI (u.2.2.1 30 + 1)) rfl (by omega) dX9_close_147 rfl (fun sg hM hF => ?_)
                refine aw_aload_n C dX9_close_148 rfl rfl rfl ?_
                refine aw_getf C f_X9_71 hM.1 rfl dX9_close_149 rfl ?_
                refine aw_iload_n C dX9_close_152 rfl rfl rfl ?_
                refine aw_aload_n C dX9_close_153 rfl rfl rfl ?_
                refine aw_getf C f_X9_134 hM.1 rfl dX9_close_154 rfl ?_
                refine mw_iast (k := 24) (N := 60) C hM hF rfl rfl (v := u.2.2.2.1) rfl (by omega) dX9_close_157 rfl (fun sg hM hF => ?_)
                refine aw_aload_n C dX9_close_158 rfl rfl rfl ?_
                refine aw_getf C f_X9_86 hM.1 rfl dX9_close_159 rfl ?_
                refine aw_iload_n C dX9_close_162 rfl rfl rfl ?_
                refine aw_iconst (v := 1) C dX9_close_163 rfl rfl ?_
                refine mw_iast (k := 29) (N := 60) C hM hF rfl rfl rfl (by omega) dX9_close_164 rfl (fun sg hM hF => ?_)
                refine aw_aload_n C dX9_close_165 rfl rfl rfl ?_
                refine aw_getf C f_X9_65 hM.1 rfl dX9_close_166 rfl ?_
                refine aw_iload_n C dX9_close_169 rfl rfl rfl ?_
                refine mw_iald (k := 22) (N := 60) C hM rfl rfl rfl (by omega) dX9_close_170 rfl ?_
                exact aw_iret C rfl (Nat.le_refl _) (Nat.le_refl _) (PO.of (by rw [opClose, if_neg (by simp [c6]), hpc, if_neg (by simp [ea, eb, hac, hbc, c19, c33, c47])]; simp [stateBy, leastP, uI_I, uN_I, uI_N, c72, c103, c119]; try rfl) hM hF) dX9_close_171
              · refine aw_iconst (v := 2) C dX9_close_122 rfl rfl ?_
                refine aw_goto (tgt := 127) C dX9_close_123 (by decide) ?_
                refine mw_iast (k := 22) (N := 60) C hM hF rfl rfl rfl (by omega) dX9_close_127 rfl (fun sg hM hF => ?_)
                refine aw_aload_n C dX9_close_128 rfl rfl rfl ?_
                refine aw_dup C dX9_close_129 rfl rfl ?_
                refine aw_getf C f_X9_185 hM.1 rfl dX9_close_130 rfl ?_
                refine aw_iconst (v := 1) C dX9_close_133 rfl rfl ?_
                refine aw_iadd C dX9_close_134 rfl ?_
                refine mw_put (th' := _) (u' := uN _ 30 (u.2.2.1 30 + 1)) C hM hF f_X9_185 rfl rfl rfl (by rw [nI_1]; rfl) rfl rfl dX9_close_135 rfl (fun sg hM hF => ?_)
                refine aw_aload_n C dX9_close_138 rfl rfl rfl ?_
                refine aw_getf C f_X9_68 hM.1 rfl dX9_close_139 rfl ?_
                refine aw_iload_n C dX9_close_142 rfl rfl rfl ?_
                refine aw_aload_n C dX9_close_143 rfl rfl rfl ?_
                refine aw_getf C f_X9_185 hM.1 rfl dX9_close_144 rfl ?_
                refine mw_iast (k := 23) (N := 60) C hM hF rfl rfl (v := nI (u.2.2.1 30 + 1)) rfl (by omega) dX9_close_147 rfl (fun sg hM hF => ?_)
                refine aw_aload_n C dX9_close_148 rfl rfl rfl ?_
                refine aw_getf C f_X9_71 hM.1 rfl dX9_close_149 rfl ?_
                refine aw_iload_n C dX9_close_152 rfl rfl rfl ?_
                refine aw_aload_n C dX9_close_153 rfl rfl rfl ?_
                refine aw_getf C f_X9_134 hM.1 rfl dX9_close_154 rfl ?_
                refine mw_iast (k := 24) (N := 60) C hM hF rfl rfl (v := u.2.2.2.1) rfl (by omega) dX9_close_157 rfl (fun sg hM hF => ?_)
                refine aw_aload_n C dX9_close_158 rfl rfl rfl ?_
                refine aw_getf C f_X9_86 hM.1 rfl dX9_close_159 rfl ?_
                refine aw_iload_n C dX9_close_162 rfl rfl rfl ?_
                refine aw_iconst (v := 1) C dX9_close_163 rfl rfl ?_
                refine mw_iast (k := 29) (N := 60) C hM hF rfl rfl rfl (by omega) dX9_close_164 rfl (fun sg hM hF => ?_)
                refine aw_aload_n C dX9_close_165 rfl rfl rfl ?_
                refine aw_getf C f_X9_65 hM.1 rfl dX9_close_166 rfl ?_
                refine aw_iload_n C dX9_close_169 rfl rfl rfl ?_
                refine mw_iald (k := 22) (N := 60) C hM rfl rfl rfl (by omega) dX9_close_170 rfl ?_
                exact aw_iret C rfl (Nat.le_refl _) (Nat.le_refl _) (PO.of (by rw [opClose, if_neg (by simp [c6]), hpc, if_neg (by simp [ea, eb, hac, hbc, c19, c33, c47])]; simp [stateBy, leastP, uI_I, uN_I, uI_N, c72, c103, c119]; try rfl) hM hF) dX9_close_171
            · refine aw_iconst (v := 1) C dX9_close_106 rfl rfl ?_
              refine aw_goto (tgt := 127) C dX9_close_107 (by decide) ?_
              refine mw_iast (k := 22) (N := 60) C hM hF rfl rfl rfl (by omega) dX9_close_127 rfl (fun sg hM hF => ?_)
              refine aw_aload_n C dX9_close_128 rfl rfl rfl ?_
              refine aw_dup C dX9_close_129 rfl rfl ?_
              refine aw_getf C f_X9_185 hM.1 rfl dX9_close_130 rfl ?_
              refine aw_iconst (v := 1) C dX9_close_133 rfl rfl ?_
              refine aw_iadd C dX9_close_134 rfl ?_
              refine mw_put (th' := _) (u' := uN _ 30 (u.2.2.1 30 + 1)) C hM hF f_X9_185 rfl rfl rfl (by rw [nI_1]; rfl) rfl rfl dX9_close_135 rfl (fun sg hM hF => ?_)
              refine aw_aload_n C dX9_close_138 rfl rfl rfl ?_
              refine aw_getf C f_X9_68 hM.1 rfl dX9_close_139 rfl ?_
              refine aw_iload_n C dX9_close_142 rfl rfl rfl ?_
              refine aw_aload_n C dX9_close_143 rfl rfl rfl ?_
              refine aw_getf C f_X9_185 hM.1 rfl dX9_close_144 rfl ?_
              refine mw_iast (k := 23) (N := 60) C hM hF rfl rfl (v := nI (u.2.2.1 30 + 1)) rfl (by omega) dX9_close_147 rfl (fun sg hM hF => ?_)
              refine aw_aload_n C dX9_close_148 rfl rfl rfl ?_
              refine aw_getf C f_X9_71 hM.1 rfl dX9_close_149 rfl ?_
              refine aw_iload_n C dX9_close_152 rfl rfl rfl ?_
              refine aw_aload_n C dX9_close_153 rfl rfl rfl ?_
              refine aw_getf C f_X9_134 hM.1 rfl dX9_close_154 rfl ?_
              refine mw_iast (k := 24) (N := 60) C hM hF rfl rfl (v := u.2.2.2.1) rfl (by omega) dX9_close_157 rfl (fun sg hM hF => ?_)
              refine aw_aload_n C dX9_close_158 rfl rfl rfl ?_
              refine aw_getf C f_X9_86 hM.1 rfl dX9_close_159 rfl ?_
              refine aw_iload_n C dX9_close_162 rfl rfl rfl ?_
              refine aw_iconst (v := 1) C dX9_close_163 rfl rfl ?_
              refine mw_iast (k := 29) (N := 60) C hM hF rfl rfl rfl (by omega) dX9_close_164 rfl (fun sg hM hF => ?_)
              refine aw_aload_n C dX9_close_165 rfl rfl rfl ?_
              refine aw_getf C f_X9_65 hM.1 rfl dX9_close_166 rfl ?_
              refine aw_iload_n C dX9_close_169 rfl rfl rfl ?_
              refine mw_iald (k := 22) (N := 60) C hM rfl rfl rfl (by omega) dX9_close_170 rfl ?_
              exact aw_iret C rfl (Nat.le_refl _) (Nat.le_refl _) (PO.of (by rw [opClose, if_neg (by simp [c6]), hpc, if_neg (by simp [ea, eb, hac, hbc, c19, c33, c47])]; simp [stateBy, leastP, uI_I, uN_I, uI_N, c72, c103]; try rfl) hM hF) dX9_close_171
          · have c72 := tr_of c72
            refine aw_iconst (v := 3) C dX9_close_75 rfl rfl ?_
            refine aw_goto (tgt := 80) C dX9_close_76 (by decide) ?_
            refine aw_istore_n (ls' := [(2, _), (0, _), (1, _)]) C dX9_close_80 rfl (by decide) rfl rfl ?_
            refine aw_aload_n C dX9_close_81 rfl rfl rfl ?_
            refine aw_getf C f_X9_65 hM.1 rfl dX9_close_82 rfl ?_
            refine aw_iload_n C dX9_close_85 rfl rfl rfl ?_
            refine aw_aload_n C dX9_close_86 rfl rfl rfl ?_
            refine aw_getf C f_X9_59 hM.1 rfl dX9_close_87 rfl ?_
            refine aw_iload_n C dX9_close_90 rfl rfl rfl ?_
            refine mw_iald (k := 20) (N := 60) C hM rfl rfl rfl (by omega) dX9_close_91 rfl ?_
            refine aw_aload_n C dX9_close_92 rfl rfl rfl ?_
            refine aw_iload_n C dX9_close_93 rfl rfl rfl ?_
            refine mw_callVp C k_X9_181 hM (M_needs hl hst hM hD hp60) ⟨by decide, by decide⟩ rfl rfl rfl (Nat.le_of_ble_eq_true rfl) dX9_close_94 rfl ?_
            refine aw_iand C dX9_close_97 rfl ?_
            refine aw_aload_n C dX9_close_98 rfl rfl rfl ?_
            refine aw_iload_n C dX9_close_99 rfl rfl rfl ?_
            refine mw_callVp C k_X9_181 hM (M_needs hl hst hM hD hp60) ⟨by decide, by decide⟩ rfl rfl rfl (Nat.le_of_ble_eq_true rfl) dX9_close_100 rfl ?_
            refine aw_icmp_ne (tgt := 110) C dX9_close_103 (by decide) rfl (fun c103 => ?_) (fun c103 => ?_)
            · refine aw_aload_n C dX9_close_110 rfl rfl rfl ?_
              refine aw_getf C f_X9_59 hM.1 rfl dX9_close_111 rfl ?_
              refine aw_iload_n C dX9_close_114 rfl rfl rfl ?_
              refine mw_iald (k := 20) (N := 60) C hM rfl rfl rfl (by omega) dX9_close_115 rfl ?_
              refine aw_iload_n C dX9_close_116 rfl rfl rfl ?_
              refine aw_iand C dX9_close_117 rfl ?_
              refine aw_iload_n C dX9_close_118 rfl rfl rfl ?_
              refine aw_icmp_ne (tgt := 126) C dX9_close_119 (by decide) rfl (fun c119 => ?_) (fun c119 => ?_)
              · refine aw_iconst (v := 3) C dX9_close_126 rfl rfl ?_
                refine mw_iast (k := 22) (N := 60) C hM hF rfl rfl rfl (by omega) dX9_close_127 rfl (fun sg hM hF => ?_)
                refine aw_aload_n C dX9_close_128 rfl rfl rfl ?_
                refine aw_dup C dX9_close_129 rfl rfl ?_
                refine aw_getf C f_X9_185 hM.1 rfl dX9_close_130 rfl ?_
                refine aw_iconst (v := 1) C dX9_close_133 rfl rfl ?_
                refine aw_iadd C dX9_close_134 rfl ?_
                refine mw_put (th' := _) (u' := uN _ 30 (u.2.2.1 30 + 1)) C hM hF f_X9_185 rfl rfl rfl (by rw [nI_1]; rfl) rfl rfl dX9_close_135 rfl (fun sg hM hF => ?_)
                refine aw_aload_n C dX9_close_138 rfl rfl rfl ?_
                refine aw_getf C f_X9_68 hM.1 rfl dX9_close_139 rfl ?_
                refine aw_iload_n C dX9_close_142 rfl rfl rfl ?_
                refine aw_aload_n C dX9_close_143 rfl rfl rfl ?_
                refine aw_getf C f_X9_185 hM.1 rfl dX9_close_144 rfl ?_
                refine mw_iast (k := 23) (N := 60) C hM hF rfl rfl (v := nI (u.2.2.1 30 + 1)) rfl (by omega) dX9_close_147 rfl (fun sg hM hF => ?_)
                refine aw_aload_n C dX9_close_148 rfl rfl rfl ?_
                refine aw_getf C f_X9_71 hM.1 rfl dX9_close_149 rfl ?_
                refine aw_iload_n C dX9_close_152 rfl rfl rfl ?_
                refine aw_aload_n C dX9_close_153 rfl rfl rfl ?_
                refine aw_getf C f_X9_134 hM.1 rfl dX9_close_154 rfl ?_
                refine mw_iast (k := 24) (N := 60) C hM hF rfl rfl (v := u.2.2.2.1) rfl (by omega) dX9_close_157 rfl (fun sg hM hF => ?_)
                refine aw_aload_n C dX9_close_158 rfl rfl rfl ?_
                refine aw_getf C f_X9_86 hM.1 rfl dX9_close_159 rfl ?_
                refine aw_iload_n C dX9_close_162 rfl rfl rfl ?_
                refine aw_iconst (v := 1) C dX9_close_163 rfl rfl ?_
                refine mw_iast (k := 29) (N := 60) C hM hF rfl rfl rfl (by omega) dX9_close_164 rfl (fun sg hM hF => ?_)
                refine aw_aload_n C dX9_close_165 rfl rfl rfl ?_
                refine aw_getf C f_X9_65 hM.1 rfl dX9_close_166 rfl ?_
                refine aw_iload_n C dX9_close_169 rfl rfl rfl ?_
                refine mw_iald (k := 22) (N := 60) C hM rfl rfl rfl (by omega) dX9_close_170 rfl ?_
                exact aw_iret C rfl (Nat.le_refl _) (Nat.le_refl _) (PO.of (by rw [opClose, if_neg (by simp [c6]), hpc, if_neg (by simp [ea, eb, hac, hbc, c19, c33, c47])]; simp [stateBy, leastP, uI_I, uN_I, uI_N, c72, c103, c119]; try rfl) hM hF) dX9_close_171
              · refine aw_iconst (v := 2) C dX9_close_122 rfl rfl ?_
                refine aw_goto (tgt := 127) C dX9_close_123 (by decide) ?_
                refine mw_iast (k := 22) (N := 60) C hM hF rfl rfl rfl (by omega) dX9_close_127 rfl (fun sg hM hF => ?_)
                refine aw_aload_n C dX9_close_128 rfl rfl rfl ?_
                refine aw_dup C dX9_close_129 rfl rfl ?_
                refine aw_getf C f_X9_185 hM.1 rfl dX9_close_130 rfl ?_
                refine aw_iconst (v := 1) C dX9_close_133 rfl rfl ?_
                refine aw_iadd C dX9_close_134 rfl ?_
                refine mw_put (th' := _) (u' := uN _ 30 (u.2.2.1 30 + 1)) C hM hF f_X9_185 rfl rfl rfl (by rw [nI_1]; rfl) rfl rfl dX9_close_135 rfl (fun sg hM hF => ?_)
                refine aw_aload_n C dX9_close_138 rfl rfl rfl ?_
                refine aw_getf C f_X9_68 hM.1 rfl dX9_close_139 rfl ?_
                refine aw_iload_n C dX9_close_142 rfl rfl rfl ?_
                refine aw_aload_n C dX9_close_143 rfl rfl rfl ?_
                refine aw_getf C f_X9_185 hM.1 rfl dX9_close_144 rfl ?_
                refine mw_iast (k := 23) (N := 60) C hM hF rfl rfl (v := nI (u.2.2.1 30 + 1)) rfl (by omega) dX9_close_147 rfl (fun sg hM hF => ?_)
                refine aw_aload_n C dX9_close_148 rfl rfl rfl ?_
                refine aw_getf C f_X9_71 hM.1 rfl dX9_close_149 rfl ?_
                refine aw_iload_n C dX9_close_152 rfl rfl rfl ?_
                refine aw_aload_n C dX9_close_153 rfl rfl rfl ?_
                refine aw_getf C f_X9_134 hM.1 rfl dX9_close_154 rfl ?_
                refine mw_iast (k := 24) (N := 60) C hM hF rfl rfl (v := u.2.2.2.1) rfl (by omega) dX9_close_157 rfl (fun sg hM hF => ?_)
                refine aw_aload_n C dX9_close_158 rfl rfl rfl ?_
                refine aw_getf C f_X9_86 hM.1 rfl dX9_close_159 rfl ?_
                refine aw_iload_n C dX9_close_162 rfl rfl rfl ?_
                refine aw_iconst (v := 1) C dX9_close_163 rfl rfl ?_
                refine mw_iast (k := 29) (N := 60) C hM hF rfl rfl rfl (by omega) dX9_close_164 rfl (fun sg hM hF => ?_)
                refine aw_aload_n C dX9_close_165 rfl rfl rfl ?_
                refine aw_getf C f_X9_65 hM.1 rfl dX9_close_166 rfl ?_
                refine aw_iload_n C dX9_close_169 rfl rfl rfl ?_
                refine mw_iald (k := 22) (N := 60) C hM rfl rfl rfl (by omega) dX9_close_170 rfl ?_
                exact aw_iret C rfl (Nat.le_refl _) (Nat.le_refl _) (PO.of (by rw [opClose, if_neg (by simp [c6]), hpc, if_neg (by simp [ea, eb, hac, hbc, c19, c33, c47])]; simp [stateBy, leastP, uI_I, uN_I, uI_N, c72, c103, c119]; try rfl) hM hF) dX9_close_171
            · refine aw_iconst (v := 1) C dX9_close_106 rfl rfl ?_
              refine aw_goto (tgt := 127) C dX9_close_107 (by decide) ?_
              refine mw_iast (k := 22) (N := 60) C hM hF rfl rfl rfl (by omega) dX9_close_127 rfl (fun sg hM hF => ?_)
              refine aw_aload_n C dX9_close_128 rfl rfl rfl ?_
              refine aw_dup C dX9_close_129 rfl rfl ?_
              refine aw_getf C f_X9_185 hM.1 rfl dX9_close_130 rfl ?_
              refine aw_iconst (v := 1) C dX9_close_133 rfl rfl ?_
              refine aw_iadd C dX9_close_134 rfl ?_
              refine mw_put (th' := _) (u' := uN _ 30 (u.2.2.1 30 + 1)) C hM hF f_X9_185 rfl rfl rfl (by rw [nI_1]; rfl) rfl rfl dX9_close_135 rfl (fun sg hM hF => ?_)
              refine aw_aload_n C dX9_close_138 rfl rfl rfl ?_
              refine aw_getf C f_X9_68 hM.1 rfl dX9_close_139 rfl ?_
              refine aw_iload_n C dX9_close_142 rfl rfl rfl ?_
              refine aw_aload_n C dX9_close_143 rfl rfl rfl ?_
              refine aw_getf C f_X9_185 hM.1 rfl dX9_close_144 rfl ?_
              refine mw_iast (k := 23) (N := 60) C hM hF rfl rfl (v := nI (u.2.2.1 30 + 1)) rfl (by omega) dX9_close_147 rfl (fun sg hM hF => ?_)
              refine aw_aload_n C dX9_close_148 rfl rfl rfl ?_
              refine aw_getf C f_X9_71 hM.1 rfl dX9_close_149 rfl ?_
              refine aw_iload_n C dX9_close_152 rfl rfl rfl ?_
              refine aw_aload_n C dX9_close_153 rfl rfl rfl ?_
              refine aw_getf C f_X9_134 hM.1 rfl dX9_close_154 rfl ?_
              refine mw_iast (k := 24) (N := 60) C hM hF rfl rfl (v := u.2.2.2.1) rfl (by omega) dX9_close_157 rfl (fun sg hM hF => ?_)
              refine aw_aload_n C dX9_close_158 rfl rfl rfl ?_
              refine aw_getf C f_X9_86 hM.1 rfl dX9_close_159 rfl ?_
              refine aw_iload_n C dX9_close_162 rfl rfl rfl ?_
              refine aw_iconst (v := 1) C dX9_close_163 rfl rfl ?_
              refine mw_iast (k := 29) (N := 60) C hM hF rfl rfl rfl (by omega) dX9_close_164 rfl (fun sg hM hF => ?_)
              refine aw_aload_n C dX9_close_165 rfl rfl rfl ?_
              refine aw_getf C f_X9_65 hM.1 rfl dX9_close_166 rfl ?_
              refine aw_iload_n C dX9_close_169 rfl rfl rfl ?_
              refine mw_iald (k := 22) (N := 60) C hM rfl rfl rfl (by omega) dX9_close_170 rfl ?_
              exact aw_iret C rfl (Nat.le_refl _) (Nat.le_refl _) (PO.of (by rw [opClose, if_neg (by simp [c6]), hpc, if_neg (by simp [ea, eb, hac, hbc, c19, c33, c47])]; simp [stateBy, leastP, uI_I, uN_I, uI_N, c72, c103]; try rfl) hM hF) dX9_close_171
        · refine aw_iconst (v := 2) C dX9_close_50 rfl rfl ?_
          refine aw_goto (tgt := 55) C dX9_close_51 (by decide) ?_
          refine mw_put (th' := _) (u' := _) C hM hF f_X9_117 rfl rfl rfl rfl rfl rfl dX9_close_55 rfl (fun sg hM hF => ?_)
          refine aw_aload_n C dX9_close_58 rfl rfl rfl ?_
          refine aw_getf C f_X9_117 hM.1 rfl dX9_close_59 rfl ?_
          refine aw_if_le (tgt := 67) C dX9_close_62 (by decide) rfl (fun h => by first | exact absurd h (by decide) | exact absurd (by decide) h) (fun _ => ?_)
          refine aw_iconst (v := 0) C dX9_close_65 rfl rfl ?_
          exact aw_iret C rfl (Nat.le_refl _) (Nat.le_refl _) (PO.of (by simp [opClose, c6, c19, c33, c47, hpc, ea, eb, hac, hbc]) hM hF) dX9_close_66
  · have c6 := fa_of c6
    refine aw_iconst (v := 1) C dX9_close_9 rfl rfl ?_
    refine aw_goto (tgt := 55) C dX9_close_10 (by decide) ?_
    refine mw_put (th' := _) (u' := _) C hM hF f_X9_117 rfl rfl rfl rfl rfl rfl dX9_close_55 rfl (fun sg hM hF => ?_)
    refine aw_aload_n C dX9_close_58 rfl rfl rfl ?_
    refine aw_getf C f_X9_117 hM.1 rfl dX9_close_59 rfl ?_
    refine aw_if_le (tgt := 67) C dX9_close_62 (by decide) rfl (fun h => by first | exact absurd h (by decide) | exact absurd (by decide) h) (fun _ => ?_)
    refine aw_iconst (v := 0) C dX9_close_65 rfl rfl ?_
    exact aw_iret C rfl (Nat.le_refl _) (Nat.le_refl _) (PO.of (by simp [opClose, c6]) hM hF) dX9_close_66
set_option maxRecDepth 100000 in
theorem M_deed {g : Gx} {l : Launch} (hl : l.flags = flags0) (hst : g.Stable) {ad : Nat → Nat} {th : Int32} {u : MU} {sg : Sg} (hM : MS g ad th u sg) (hW : WN u) {v w : Int32} : MM g l yX9_deed cX9_deed 3 (some .int) (rmM 3) sg [.ref (ad 0), .int v, .int w] (PO g ad sg (opDeed u v w)) noX := by
  refine MM.of hl hst (by decide) (Nat.le_of_ble_eq_true rfl) (fun x hg hlx C hin hout hargs => ?_)
  subst hg; subst hlx
  have C : AWC x cX9_deed 3 RX9 (rmM 3) (some .int) := C
  have hF : MF ad sg sg := MF.rf
  show AW x (RQ x _ _ _ _) 0 0 sg 0 [(0, .ref (ad 0)), (1, .int v), (2, .int w)] []
  refine aw_aload_n C dX9_deed_0 rfl rfl rfl ?_
  refine aw_aload_n C dX9_deed_1 rfl rfl rfl ?_
  refine aw_iload_n C dX9_deed_2 rfl rfl rfl ?_
  refine mw_callVp C k_X9_165 hM (M_isDeed hl hst hM) ⟨by decide, by decide⟩ rfl rfl rfl (Nat.le_of_ble_eq_true rfl) dX9_deed_3 rfl ?_
  refine aw_if_ne (tgt := 13) C dX9_deed_6 (by decide) rfl (fun c6 => ?_) (fun c6 => ?_)
  · have c6 := tr_of c6
    obtain ⟨p, hp, rfl⟩ := isDd_of hW c6
    have hp60 : p < 60 := by have := hW.2.1; omega
    have hpc := clampI (n := p) (by omega)
    refine aw_iload_n C dX9_deed_13 rfl rfl rfl ?_
    refine aw_iconst (v := 0) C dX9_deed_14 rfl rfl ?_
    refine aw_iconst (v := 5) C dX9_deed_15 rfl rfl ?_
    refine mw_callSp C k_X9_124 (M_in hl hst) ⟨by decide, by decide⟩ rfl rfl (Nat.le_of_ble_eq_true rfl) dX9_deed_16 rfl ?_
    refine aw_if_ne (tgt := 26) C dX9_deed_19 (by decide) rfl (fun c19 => ?_) (fun c19 => ?_)
    · have c19 := tr_of c19
      refine aw_iconst (v := 0) C dX9_deed_26 rfl rfl ?_
      refine mw_put (th' := _) (u' := _) C hM hF f_X9_117 rfl rfl rfl rfl rfl rfl dX9_deed_27 rfl (fun sg hM hF => ?_)
      refine aw_aload_n C dX9_deed_30 rfl rfl rfl ?_
      refine aw_getf C f_X9_117 hM.1 rfl dX9_deed_31 rfl ?_
      refine aw_if_le (tgt := 39) C dX9_deed_34 (by decide) rfl (fun _ => ?_) (fun h => by first | exact absurd h (by decide) | exact absurd (by decide) h)
      refine aw_iload_n C dX9_deed_39 rfl rfl rfl ?_
      rcases deed_w c19 with rfl | rfl | rfl | rfl | rfl | rfl
      · refine aw_tableIn (off := 36) (tgt := 76) C dX9_deed_40 (by decide) (by decide) (by decide) (by decide) ?_
        refine aw_aload_n C dX9_deed_76 rfl rfl rfl ?_
        refine aw_getf C f_X9_65 hM.1 rfl dX9_deed_77 rfl ?_
        refine aw_iload_n C dX9_deed_80 rfl rfl rfl ?_
        refine mw_iald (k := 22) (N := 60) C hM rfl rfl rfl (by omega) dX9_deed_81 rfl ?_
        exact aw_iret C rfl (Nat.le_refl _) (Nat.le_refl _) (PO.of (by simp [opDeed, c6, c19, hpc]) hM hF) dX9_deed_82
      · refine aw_tableIn (off := 43) (tgt := 83) C dX9_deed_40 (by decide) (by decide) (by decide) (by decide) ?_
        refine aw_aload_n C dX9_deed_83 rfl rfl rfl ?_
        refine aw_getf C f_X9_32 hM.1 rfl dX9_deed_84 rfl ?_
        refine aw_iload_n C dX9_deed_87 rfl rfl rfl ?_
        refine mw_iald (k := 11) (N := 60) C hM rfl rfl rfl (by omega) dX9_deed_88 rfl ?_
        exact aw_iret C rfl (Nat.le_refl _) (Nat.le_refl _) (PO.of (by simp [opDeed, c6, c19, hpc]) hM hF) dX9_deed_89
      · refine aw_tableIn (off := 50) (tgt := 90) C dX9_deed_40 (by decide) (by decide) (by decide) (by decide) ?_
        refine aw_aload_n C dX9_deed_90 rfl rfl rfl ?_
        refine aw_getf C f_X9_59 hM.1 rfl dX9_deed_91 rfl ?_
        refine aw_iload_n C dX9_deed_94 rfl rfl rfl ?_
        refine mw_iald (k := 20) (N := 60) C hM rfl rfl rfl (by omega) dX9_deed_95 rfl ?_
        exact aw_iret C rfl (Nat.le_refl _) (Nat.le_refl _) (PO.of (by simp [opDeed, c6, c19, hpc]) hM hF) dX9_deed_96
      · refine aw_tableIn (off := 57) (tgt := 97) C dX9_deed_40 (by decide) (by decide) (by decide) (by decide) ?_
        refine aw_aload_n C dX9_deed_97 rfl rfl rfl ?_
        refine aw_getf C f_X9_68 hM.1 rfl dX9_deed_98 rfl ?_
        refine aw_iload_n C dX9_deed_101 rfl rfl rfl ?_
        refine mw_iald (k := 23) (N := 60) C hM rfl rfl rfl (by omega) dX9_deed_102 rfl ?_
        exact aw_iret C rfl (Nat.le_refl _) (Nat.le_refl _) (PO.of (by simp [opDeed, c6, c19, hpc]) hM hF) dX9_deed_103
      · refine aw_tableIn (off := 64) (tgt := 104) C dX9_deed_40 (by decide) (by decide) (by decide) (by decide) ?_
        refine aw_aload_n C dX9_deed_104 rfl rfl rfl ?_
        refine aw_getf C f_X9_71 hM.1 rfl dX9_deed_105 rfl ?_
        refine aw_iload_n C dX9_deed_108 rfl rfl rfl ?_
        refine mw_iald (k := 24) (N := 60) C hM rfl rfl rfl (by omega) dX9_deed_109 rfl ?_
        exact aw_iret C rfl (Nat.le_refl _) (Nat.le_refl _) (PO.of (by simp [opDeed, c6, c19, hpc]) hM hF) dX9_deed_110
      · refine aw_tableOut (tgt := 111) C dX9_deed_40 (Or.inr (by decide)) (by decide) ?_
        refine aw_aload_n C dX9_deed_111 rfl rfl rfl ?_
        refine aw_getf C f_X9_74 hM.1 rfl dX9_deed_112 rfl ?_
        refine aw_iload_n C dX9_deed_115 rfl rfl rfl ?_
        refine mw_iald (k := 25) (N := 60) C hM rfl rfl rfl (by omega) dX9_deed_116 rfl ?_
        exact aw_iret C rfl (Nat.le_refl _) (Nat.le_refl _) (PO.of (by simp [opDeed, c6, c19, hpc]) hM hF) dX9_deed_117
    · have c19 := fa_of c19
      refine aw_iconst (v := 2) C dX9_deed_22 rfl rfl ?_
      refine aw_goto (tgt := 27) C dX9_deed_23 (by decide) ?_
      refine mw_put (th' := _) (u' := _) C hM hF f_X9_117 rfl rfl rfl rfl rfl rfl dX9_deed_27 rfl (fun sg hM hF => ?_)
      refine aw_aload_n C dX9_deed_30 rfl rfl rfl ?_
      refine aw_getf C f_X9_117 hM.1 rfl dX9_deed_31 rfl ?_
      refine aw_if_le (tgt := 39) C dX9_deed_34 (by decide) rfl (fun h => by first | exact absurd h (by decide) | exact absurd (by decide) h) (fun _ => ?_)
      refine aw_iconst (v := 0) C dX9_deed_37 rfl rfl ?_
      exact aw_iret C rfl (Nat.le_refl _) (Nat.le_refl _) (PO.of (by simp [opDeed, c6, c19, hpc]) hM hF) dX9_deed_38
  · have c6 := fa_of c6
    refine aw_iconst (v := 1) C dX9_deed_9 rfl rfl ?_
    refine aw_goto (tgt := 27) C dX9_deed_10 (by decide) ?_
    refine mw_put (th' := _) (u' := _) C hM hF f_X9_117 rfl rfl rfl rfl rfl rfl dX9_deed_27 rfl (fun sg hM hF => ?_)
    refine aw_aload_n C dX9_deed_30 rfl rfl rfl ?_
    refine aw_getf C f_X9_117 hM.1 rfl dX9_deed_31 rfl ?_
    refine aw_if_le (tgt := 39) C dX9_deed_34 (by decide) rfl (fun h => by first | exact absurd h (by decide) | exact absurd (by decide) h) (fun _ => ?_)
    refine aw_iconst (v := 0) C dX9_deed_37 rfl rfl ?_
    exact aw_iret C rfl (Nat.le_refl _) (Nat.le_refl _) (PO.of (by simp [opDeed, c6]) hM hF) dX9_deed_38
set_option maxRecDepth 100000 in
theorem M_label {g : Gx} {l : Launch} (hl : l.flags = flags0) (hst : g.Stable) {ad : Nat → Nat} {th : Int32} {u : MU} {sg : Sg} (hM : MS g ad th u sg) (hW : WN u) {v w : Int32} : MM g l yX9_label cX9_label 4 (some .char) (rmM 3) sg [.ref (ad 0), .int v, .int w] (PO g ad sg (opLabel u v w)) noX := by
  refine MM.of hl hst (by decide) (Nat.le_of_ble_eq_true rfl) (fun x hg hlx C hin hout hargs => ?_)
  subst hg; subst hlx
  have C : AWC x cX9_label 4 RX9 (rmM 3) (some .char) := C
  have hF : MF ad sg sg := MF.rf
  show AW x (RQ x _ _ _ _) 0 0 sg 0 [(0, .ref (ad 0)), (1, .int v), (2, .int w)] []
  refine aw_aload_n C dX9_label_0 rfl rfl rfl ?_
  refine aw_aload_n C dX9_label_1 rfl rfl rfl ?_
  refine aw_iload_n C dX9_label_2 rfl rfl rfl ?_
  refine mw_callVp C k_X9_165 hM (M_isDeed hl hst hM) ⟨by decide, by decide⟩ rfl rfl rfl (Nat.le_of_ble_eq_true rfl) dX9_label_3 rfl ?_
  refine aw_if_eq (tgt := 17) C dX9_label_6 (by decide) rfl (fun c6 => ?_) (fun c6 => ?_)
  · have c6 := fa_of c6
    refine aw_iconst (v := 1) C dX9_label_17 rfl rfl ?_
    refine mw_put (th' := _) (u' := _) C hM hF f_X9_117 rfl rfl rfl rfl rfl rfl dX9_label_18 rfl (fun sg hM hF => ?_)
    refine aw_aload_n C dX9_label_21 rfl rfl rfl ?_
    refine aw_getf C f_X9_117 hM.1 rfl dX9_label_22 rfl ?_
    refine aw_if_le (tgt := 30) C dX9_label_25 (by decide) rfl (fun h => by first | exact absurd h (by decide) | exact absurd (by decide) h) (fun _ => ?_)
    refine aw_iconst (v := 0) C dX9_label_28 rfl rfl ?_
    exact aw_iret C (by decide) (Nat.le_refl _) (Nat.le_refl _) (PO.of (by simp [opLabel, c6]) hM hF) dX9_label_29
  · have c6 := tr_of c6
    refine aw_iload_n C dX9_label_9 rfl rfl rfl ?_
    refine aw_if_lt (tgt := 17) C dX9_label_10 (by decide) rfl (fun c10 => ?_) (fun c10 => ?_)
    · refine aw_iconst (v := 1) C dX9_label_17 rfl rfl ?_
      refine mw_put (th' := _) (u' := _) C hM hF f_X9_117 rfl rfl rfl rfl rfl rfl dX9_label_18 rfl (fun sg hM hF => ?_)
      refine aw_aload_n C dX9_label_21 rfl rfl rfl ?_
      refine aw_getf C f_X9_117 hM.1 rfl dX9_label_22 rfl ?_
      refine aw_if_le (tgt := 30) C dX9_label_25 (by decide) rfl (fun h => by first | exact absurd h (by decide) | exact absurd (by decide) h) (fun _ => ?_)
      refine aw_iconst (v := 0) C dX9_label_28 rfl rfl ?_
      exact aw_iret C (by decide) (Nat.le_refl _) (Nat.le_refl _) (PO.of (by simp [opLabel, c6, c10]) hM hF) dX9_label_29
    · refine aw_iconst (v := 0) C dX9_label_13 rfl rfl ?_
      refine aw_goto (tgt := 18) C dX9_label_14 (by decide) ?_
      refine mw_put (th' := _) (u' := _) C hM hF f_X9_117 rfl rfl rfl rfl rfl rfl dX9_label_18 rfl (fun sg hM hF => ?_)
      refine aw_aload_n C dX9_label_21 rfl rfl rfl ?_
      refine aw_getf C f_X9_117 hM.1 rfl dX9_label_22 rfl ?_
      refine aw_if_le (tgt := 30) C dX9_label_25 (by decide) rfl (fun _ => ?_) (fun h => by first | exact absurd h (by decide) | exact absurd (by decide) h)
      obtain ⟨p, hp, rfl⟩ := isDd_of hW c6
      have hp60 : p < 60 := by have := hW.2.1; omega
      have hpc := clampI (n := p) (by omega)
      refine aw_aload_n C dX9_label_30 rfl rfl rfl ?_
      refine aw_getf C f_X9_68 hM.1 rfl dX9_label_31 rfl ?_
      refine aw_iload_n C dX9_label_34 rfl rfl rfl ?_
      refine mw_iald (k := 23) (N := 60) C hM rfl rfl rfl (by omega) dX9_label_35 rfl ?_
      refine aw_bipush (v := 9) C dX9_label_36 rfl rfl ?_
      refine aw_icmp_le (tgt := 45) C dX9_label_38 (by decide) rfl (fun c38 => ?_) (fun c38 => ?_)
      · refine aw_iconst (v := 1) C dX9_label_45 rfl rfl ?_
        refine aw_istore_n (ls' := [(3, _), (0, _), (1, _), (2, _)]) C dX9_label_46 rfl (by decide) rfl rfl ?_
        refine aw_iload_n C dX9_label_47 rfl rfl rfl ?_
        refine aw_if_ne (tgt := 61) C dX9_label_48 (by decide) rfl (fun c48 => ?_) (fun c48 => ?_)
        · refine aw_iload_n C dX9_label_61 rfl rfl rfl ?_
          refine aw_iload_n C dX9_label_62 rfl rfl rfl ?_
          refine aw_icmp_gt (tgt := 97) C dX9_label_63 (by decide) rfl (fun c63 => ?_) (fun c63 => ?_)
          · refine aw_aload_n C dX9_label_97 rfl rfl rfl ?_
            refine aw_getf C f_X9_65 hM.1 rfl dX9_label_98 rfl ?_
            refine aw_iload_n C dX9_label_101 rfl rfl rfl ?_
            refine mw_iald (k := 22) (N := 60) C hM rfl rfl rfl (by omega) dX9_label_102 rfl ?_
            refine aw_if_eq (tgt := 113) C dX9_label_103 (by decide) rfl (fun c103 => ?_) (fun c103 => ?_)
            · refine aw_bipush (v := 46) C dX9_label_113 rfl rfl ?_
              exact aw_iret C (by decide) (Nat.le_refl _) (Nat.le_refl _) (PO.of (by rw [opLabel, if_neg (by simp [c6, c10]), hpc, labelOf]; simp only [digits, if_pos c38]; rw [if_neg c48, if_neg (fun h => h c63), if_pos (Or.inl c103)]) hM hF) dX9_label_115
            · refine aw_iload_n C dX9_label_106 rfl rfl rfl ?_
              refine aw_iload_n C dX9_label_107 rfl rfl rfl ?_
              refine aw_iconst (v := 2) C dX9_label_108 rfl rfl ?_
              refine aw_iadd C dX9_label_109 rfl ?_
              refine aw_icmp_le (tgt := 116) C dX9_label_110 (by decide) rfl (fun c110 => ?_) (fun c110 => ?_)
              · refine aw_iload_n C dX9_label_116 rfl rfl rfl ?_
                refine aw_iload_n C dX9_label_117 rfl rfl rfl ?_
                refine aw_iconst (v := 1) C dX9_label_118 rfl rfl ?_
                refine aw_iadd C dX9_label_119 rfl ?_
                refine aw_icmp_ne (tgt := 128) C dX9_label_120 (by decide) rfl (fun c120 => ?_) (fun c120 => ?_)
                · refine aw_aload_n C dX9_label_128 rfl rfl rfl ?_
                  refine aw_getf C f_X9_65 hM.1 rfl dX9_label_129 rfl ?_
                  refine aw_iload_n C dX9_label_132 rfl rfl rfl ?_
                  refine mw_iald (k := 22) (N := 60) C hM rfl rfl rfl (by omega) dX9_label_133 rfl ?_
                  refine aw_iconst (v := 1) C dX9_label_134 rfl rfl ?_
                  refine aw_icmp_ne (tgt := 143) C dX9_label_135 (by decide) rfl (fun c135 => ?_) (fun c135 => ?_)
                  · refine aw_aload_n C dX9_label_143 rfl rfl rfl ?_
                    refine aw_getf C f_X9_65 hM.1 rfl dX9_label_144 rfl ?_
                    refine aw_iload_n C dX9_label_147 rfl rfl rfl ?_
                    refine mw_iald (k := 22) (N := 60) C hM rfl rfl rfl (by omega) dX9_label_148 rfl ?_
                    refine aw_iconst (v := 2) C dX9_label_149 rfl rfl ?_
                    refine aw_icmp_ne (tgt := 158) C dX9_label_150 (by decide) rfl (fun c150 => ?_) (fun c150 => ?_)
                    · refine aw_bipush (v := 118) C dX9_label_158 rfl rfl ?_
                      exact aw_iret C (by decide) (Nat.le_refl _) (Nat.le_refl _) (PO.of (by rw [opLabel, if_neg (by simp [c6, c10]), hpc, labelOf]; simp only [digits, if_pos c38]; rw [if_neg c48, if_neg (fun h => h c63), if_neg (fun h => h.elim c103 (fun h => h c110)), if_neg c120, if_neg c135, if_neg c150]) hM hF) dX9_label_160
                    · refine aw_bipush (v := 108) C dX9_label_153 rfl rfl ?_
                      refine aw_goto (tgt := 160) C dX9_label_155 (by decide) ?_
                      exact aw_iret C (by decide) (Nat.le_refl _) (Nat.le_refl _) (PO.of (by rw [opLabel, if_neg (by simp [c6, c10]), hpc, labelOf]; simp only [digits, if_pos c38]; rw [if_neg c48, if_neg (fun h => h c63), if_neg (fun h => h.elim c103 (fun h => h c110)), if_neg c120, if_neg c135, if_pos c150]) hM hF) dX9_label_160
                  · refine aw_bipush (v := 102) C dX9_label_138 rfl rfl ?_
                    refine aw_goto (tgt := 160) C dX9_label_140 (by decide) ?_
                    exact aw_iret C (by decide) (Nat.le_refl _) (Nat.le_refl _) (PO.of (by rw [opLabel, if_neg (by simp [c6, c10]), hpc, labelOf]; simp only [digits, if_pos c38]; rw [if_neg c48, if_neg (fun h => h c63), if_neg (fun h => h.elim c103 (fun h => h c110)), if_neg c120, if_pos c135]) hM hF) dX9_label_160
                · refine aw_bipush (v := 44) C dX9_label_123 rfl rfl ?_
                  refine aw_goto (tgt := 160) C dX9_label_125 (by decide) ?_
                  exact aw_iret C (by decide) (Nat.le_refl _) (Nat.le_refl _) (PO.of (by rw [opLabel, if_neg (by simp [c6, c10]), hpc, labelOf]; simp only [digits, if_pos c38]; rw [if_neg c48, if_neg (fun h => h c63), if_neg (fun h => h.elim c103 (fun h => h c110)), if_pos c120]) hM hF) dX9_label_160
              · refine aw_bipush (v := 46) C dX9_label_113 rfl rfl ?_
                exact aw_iret C (by decide) (Nat.le_refl _) (Nat.le_refl _) (PO.of (by rw [opLabel, if_neg (by simp [c6, c10]), hpc, labelOf]; simp only [digits, if_pos c38]; rw [if_neg c48, if_neg (fun h => h c63), if_pos (Or.inr c110)]) hM hF) dX9_label_115
          · refine aw_bipush (v := 48) C dX9_label_66 rfl rfl ?_
            refine aw_iload_n C dX9_label_68 rfl rfl rfl ?_
            refine aw_iload_n C dX9_label_69 rfl rfl rfl ?_
            refine aw_icmp_ge (tgt := 85) C dX9_label_70 (by decide) rfl (fun c70 => ?_) (fun c70 => ?_)
            · refine aw_aload_n C dX9_label_85 rfl rfl rfl ?_
              refine aw_getf C f_X9_68 hM.1 rfl dX9_label_86 rfl ?_
              refine aw_iload_n C dX9_label_89 rfl rfl rfl ?_
              refine mw_iald (k := 23) (N := 60) C hM rfl rfl rfl (by omega) dX9_label_90 rfl ?_
              refine aw_bipush (v := 10) C dX9_label_91 rfl rfl ?_
              refine aw_irem C dX9_label_93 (by decide) rfl ?_
              refine aw_iadd C dX9_label_94 rfl ?_
              refine aw_i2c C dX9_label_95 rfl ?_
              exact aw_iret C (pk_nc _) (Nat.le_refl _) (Nat.le_refl _) (PO.of (by rw [opLabel, if_neg (by simp [c6, c10]), hpc, labelOf]; simp only [digits, if_pos c38]; rw [if_neg c48, if_pos c63, if_pos c70]) hM hF) dX9_label_96
            · refine aw_aload_n C dX9_label_73 rfl rfl rfl ?_
              refine aw_getf C f_X9_68 hM.1 rfl dX9_label_74 rfl ?_
              refine aw_iload_n C dX9_label_77 rfl rfl rfl ?_
              refine mw_iald (k := 23) (N := 60) C hM rfl rfl rfl (by omega) dX9_label_78 rfl ?_
              refine aw_bipush (v := 10) C dX9_label_79 rfl rfl ?_
              refine aw_idiv C dX9_label_81 (by decide) rfl ?_
              refine aw_goto (tgt := 94) C dX9_label_82 (by decide) ?_
              refine aw_iadd C dX9_label_94 rfl ?_
              refine aw_i2c C dX9_label_95 rfl ?_
              exact aw_iret C (pk_nc _) (Nat.le_refl _) (Nat.le_refl _) (PO.of (by rw [opLabel, if_neg (by simp [c6, c10]), hpc, labelOf]; simp only [digits, if_pos c38]; rw [if_neg c48, if_pos c63, if_neg c70]) hM hF) dX9_label_96
        · refine aw_aload_n C dX9_label_51 rfl rfl rfl ?_
          refine aw_getf C f_X9_32 hM.1 rfl dX9_label_52 rfl ?_
          refine aw_iload_n C dX9_label_55 rfl rfl rfl ?_
          refine mw_iald (k := 11) (N := 60) C hM rfl rfl rfl (by omega) dX9_label_56 rfl ?_
          refine mw_callSp C k_X9_188 (M_letter hl hst) ⟨by decide, by decide⟩ rfl rfl (Nat.le_of_ble_eq_true rfl) dX9_label_57 rfl ?_
          exact aw_iret C (nar_letter _) (Nat.le_refl _) (Nat.le_refl _) (PO.of (by rw [opLabel, if_neg (by simp [c6, c10]), hpc, labelOf]; simp only [digits, if_pos c38]; rw [if_pos c48]) hM hF) dX9_label_60
      · refine aw_iconst (v := 2) C dX9_label_41 rfl rfl ?_
        refine aw_goto (tgt := 46) C dX9_label_42 (by decide) ?_
        refine aw_istore_n (ls' := [(3, _), (0, _), (1, _), (2, _)]) C dX9_label_46 rfl (by decide) rfl rfl ?_
        refine aw_iload_n C dX9_label_47 rfl rfl rfl ?_
        refine aw_if_ne (tgt := 61) C dX9_label_48 (by decide) rfl (fun c48 => ?_) (fun c48 => ?_)
        · refine aw_iload_n C dX9_label_61 rfl rfl rfl ?_
          refine aw_iload_n C dX9_label_62 rfl rfl rfl ?_
          refine aw_icmp_gt (tgt := 97) C dX9_label_63 (by decide) rfl (fun c63 => ?_) (fun c63 => ?_)
          · refine aw_aload_n C dX9_label_97 rfl rfl rfl ?_
            refine aw_getf C f_X9_65 hM.1 rfl dX9_label_98 rfl ?_
            refine aw_iload_n C dX9_label_101 rfl rfl rfl ?_
            refine mw_iald (k := 22) (N := 60) C hM rfl rfl rfl (by omega) dX9_label_102 rfl ?_
            refine aw_if_eq (tgt := 113) C dX9_label_103 (by decide) rfl (fun c103 => ?_) (fun c103 => ?_)
            · refine aw_bipush (v := 46) C dX9_label_113 rfl rfl ?_
              exact aw_iret C (by decide) (Nat.le_refl _) (Nat.le_refl _) (PO.of (by rw [opLabel, if_neg (by simp [c6, c10]), hpc, labelOf]; simp only [digits, if_neg c38]; rw [if_neg c48, if_neg (fun h => h c63), if_pos (Or.inl c103)]) hM hF) dX9_label_115
            · refine aw_iload_n C dX9_label_106 rfl rfl rfl ?_
              refine aw_iload_n C dX9_label_107 rfl rfl rfl ?_
              refine aw_iconst (v := 2) C dX9_label_108 rfl rfl ?_
              refine aw_iadd C dX9_label_109 rfl ?_
              refine aw_icmp_le (tgt := 116) C dX9_label_110 (by decide) rfl (fun c110 => ?_) (fun c110 => ?_)
              · refine aw_iload_n C dX9_label_116 rfl rfl rfl ?_
                refine aw_iload_n C dX9_label_117 rfl rfl rfl ?_
                refine aw_iconst (v := 1) C dX9_label_118 rfl rfl ?_
                refine aw_iadd C dX9_label_119 rfl ?_
                refine aw_icmp_ne (tgt := 128) C dX9_label_120 (by decide) rfl (fun c120 => ?_) (fun c120 => ?_)
                · refine aw_aload_n C dX9_label_128 rfl rfl rfl ?_
                  refine aw_getf C f_X9_65 hM.1 rfl dX9_label_129 rfl ?_
                  refine aw_iload_n C dX9_label_132 rfl rfl rfl ?_
                  refine mw_iald (k := 22) (N := 60) C hM rfl rfl rfl (by omega) dX9_label_133 rfl ?_
                  refine aw_iconst (v := 1) C dX9_label_134 rfl rfl ?_
                  refine aw_icmp_ne (tgt := 143) C dX9_label_135 (by decide) rfl (fun c135 => ?_) (fun c135 => ?_)
                  · refine aw_aload_n C dX9_label_143 rfl rfl rfl ?_
                    refine aw_getf C f_X9_65 hM.1 rfl dX9_label_144 rfl ?_
                    refine aw_iload_n C dX9_label_147 rfl rfl rfl ?_
                    refine mw_iald (k := 22) (N := 60) C hM rfl rfl rfl (by omega) dX9_label_148 rfl ?_
                    refine aw_iconst (v := 2) C dX9_label_149 rfl rfl ?_
                    refine aw_icmp_ne (tgt := 158) C dX9_label_150 (by decide) rfl (fun c150 => ?_) (fun c150 => ?_)
                    · refine aw_bipush (v := 118) C dX9_label_158 rfl rfl ?_
                      exact aw_iret C (by decide) (Nat.le_refl _) (Nat.le_refl _) (PO.of (by rw [opLabel, if_neg (by simp [c6, c10]), hpc, labelOf]; simp only [digits, if_neg c38]; rw [if_neg c48, if_neg (fun h => h c63), if_neg (fun h => h.elim c103 (fun h => h c110)), if_neg c120, if_neg c135, if_neg c150]) hM hF) dX9_label_160
                    · refine aw_bipush (v := 108) C dX9_label_153 rfl rfl ?_
                      refine aw_goto (tgt := 160) C dX9_label_155 (by decide) ?_
                      exact aw_iret C (by decide) (Nat.le_refl _) (Nat.le_refl _) (PO.of (by rw [opLabel, if_neg (by simp [c6, c10]), hpc, labelOf]; simp only [digits, if_neg c38]; rw [if_neg c48, if_neg (fun h => h c63), if_neg (fun h => h.elim c103 (fun h => h c110)), if_neg c120, if_neg c135, if_pos c150]) hM hF) dX9_label_160
                  · refine aw_bipush (v := 102) C dX9_label_138 rfl rfl ?_
                    refine aw_goto (tgt := 160) C dX9_label_140 (by decide) ?_
                    exact aw_iret C (by decide) (Nat.le_refl _) (Nat.le_refl _) (PO.of (by rw [opLabel, if_neg (by simp [c6, c10]), hpc, labelOf]; simp only [digits, if_neg c38]; rw [if_neg c48, if_neg (fun h => h c63), if_neg (fun h => h.elim c103 (fun h => h c110)), if_neg c120, if_pos c135]) hM hF) dX9_label_160
                · refine aw_bipush (v := 44) C dX9_label_123 rfl rfl ?_
                  refine aw_goto (tgt := 160) C dX9_label_125 (by decide) ?_
                  exact aw_iret C (by decide) (Nat.le_refl _) (Nat.le_refl _) (PO.of (by rw [opLabel, if_neg (by simp [c6, c10]), hpc, labelOf]; simp only [digits, if_neg c38]; rw [if_neg c48, if_neg (fun h => h c63), if_neg (fun h => h.elim c103 (fun h => h c110)), if_pos c120]) hM hF) dX9_label_160
              · refine aw_bipush (v := 46) C dX9_label_113 rfl rfl ?_
                exact aw_iret C (by decide) (Nat.le_refl _) (Nat.le_refl _) (PO.of (by rw [opLabel, if_neg (by simp [c6, c10]), hpc, labelOf]; simp only [digits, if_neg c38]; rw [if_neg c48, if_neg (fun h => h c63), if_pos (Or.inr c110)]) hM hF) dX9_label_115
          · refine aw_bipush (v := 48) C dX9_label_66 rfl rfl ?_
            refine aw_iload_n C dX9_label_68 rfl rfl rfl ?_
            refine aw_iload_n C dX9_label_69 rfl rfl rfl ?_
            refine aw_icmp_ge (tgt := 85) C dX9_label_70 (by decide) rfl (fun c70 => ?_) (fun c70 => ?_)
            · refine aw_aload_n C dX9_label_85 rfl rfl rfl ?_
              refine aw_getf C f_X9_68 hM.1 rfl dX9_label_86 rfl ?_
              refine aw_iload_n C dX9_label_89 rfl rfl rfl ?_
              refine mw_iald (k := 23) (N := 60) C hM rfl rfl rfl (by omega) dX9_label_90 rfl ?_
              refine aw_bipush (v := 10) C dX9_label_91 rfl rfl ?_
              refine aw_irem C dX9_label_93 (by decide) rfl ?_
              refine aw_iadd C dX9_label_94 rfl ?_
              refine aw_i2c C dX9_label_95 rfl ?_
              exact aw_iret C (pk_nc _) (Nat.le_refl _) (Nat.le_refl _) (PO.of (by rw [opLabel, if_neg (by simp [c6, c10]), hpc, labelOf]; simp only [digits, if_neg c38]; rw [if_neg c48, if_pos c63, if_pos c70]) hM hF) dX9_label_96
            · refine aw_aload_n C dX9_label_73 rfl rfl rfl ?_
              refine aw_getf C f_X9_68 hM.1 rfl dX9_label_74 rfl ?_
              refine aw_iload_n C dX9_label_77 rfl rfl rfl ?_
              refine mw_iald (k := 23) (N := 60) C hM rfl rfl rfl (by omega) dX9_label_78 rfl ?_
              refine aw_bipush (v := 10) C dX9_label_79 rfl rfl ?_
              refine aw_idiv C dX9_label_81 (by decide) rfl ?_
              refine aw_goto (tgt := 94) C dX9_label_82 (by decide) ?_
              refine aw_iadd C dX9_label_94 rfl ?_
              refine aw_i2c C dX9_label_95 rfl ?_
              exact aw_iret C (pk_nc _) (Nat.le_refl _) (Nat.le_refl _) (PO.of (by rw [opLabel, if_neg (by simp [c6, c10]), hpc, labelOf]; simp only [digits, if_neg c38]; rw [if_neg c48, if_pos c63, if_neg c70]) hM hF) dX9_label_96
        · refine aw_aload_n C dX9_label_51 rfl rfl rfl ?_
          refine aw_getf C f_X9_32 hM.1 rfl dX9_label_52 rfl ?_
          refine aw_iload_n C dX9_label_55 rfl rfl rfl ?_
          refine mw_iald (k := 11) (N := 60) C hM rfl rfl rfl (by omega) dX9_label_56 rfl ?_
          refine mw_callSp C k_X9_188 (M_letter hl hst) ⟨by decide, by decide⟩ rfl rfl (Nat.le_of_ble_eq_true rfl) dX9_label_57 rfl ?_
          exact aw_iret C (nar_letter _) (Nat.le_refl _) (Nat.le_refl _) (PO.of (by rw [opLabel, if_neg (by simp [c6, c10]), hpc, labelOf]; simp only [digits, if_neg c38]; rw [if_pos c48]) hM hF) dX9_label_60
