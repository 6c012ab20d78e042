/-! the class: the face, further changes -/
set_option maxRecDepth 100000 in
theorem F_deed {g : Gx} {l : Launch} {ez : Nat} (G : GOK g l ez) {sg : Sg} {ad : Nat → Nat → Nat} {u : MU} {Y : GS} (hS : CS g ez ad u Y sg) {N : Nat} (hI : CI N u) {v w : Int32} : MM g l yX8_deed cX8_deed 4 (some .int) (rmC 9 8 60) sg [.ref (ad 0 0), .int v, .int w] (OPost g ez ad u Y sg (opDeed u v w)) (OX g ez ad u Y sg x2a (opDeed u v w)) := by
  refine MM.of G.1 G.2.1 (by decide) (Nat.le_of_ble_eq_true rfl) (fun x hg hlx C hin hout hargs => ?_)
  subst hg; subst hlx
  have C : AWC x cX8_deed 4 RX8 (rmC 9 8 60) (some .int) := C
  show AW x (RQ x _ _ _ _) 0 0 sg 0 [(0, .ref (ad 0 0)), (1, .int v), (2, .int w)] []
  refine aw_aload_n C dX8_deed_0 rfl rfl rfl ?_
  refine aw_iload_n C dX8_deed_1 rfl rfl rfl ?_
  refine aw_callV C k_X8_159 (C_deedAt G hS hI (v := v)) ⟨by decide, by decide⟩ (ci := 10) rfl hS.O rfl rfl (Nat.le_of_ble_eq_true rfl) (Nat.le_of_ble_eq_true rfl) (Nat.le_of_ble_eq_true rfl) dX8_deed_2 rfl (fun E s1 hx => ?_) (fun v1 s1 hq => ?_)
  · obtain ⟨rfl, hx, rfl⟩ := hx
    exact ax_out C hout (Nat.le_of_ble_eq_true rfl) (Nat.le_of_ble_eq_true rfl) (OX.of (c := 1) (r := 0) (w := u) (by simp [opDeed, hx]) (by decide) rfl (CR.rf hS))
  obtain ⟨d, hd, rfl, rfl, rfl⟩ := hq
  have ed := isDd_in hI.W hd
  have kd : (nI d).toNatClampNeg = d := nI_clamp (by have := hI.n10; omega)
  refine aw_astore_n (ls' := [(3, _), (0, _), (1, _), (2, _)]) C dX8_deed_5 rfl (by decide) rfl rfl ?_
  refine aw_iload_n C dX8_deed_6 rfl rfl rfl ?_
  refine aw_if_lt (tgt := 15) C dX8_deed_7 (by decide) rfl (fun c7 => ?_) (fun c7 => ?_)
  · exact aw_thr C G thA 21 rfl dX8_deed_15 dX8_deed_18 dX8_deed_19 dX8_deed_21 dX8_deed_24 hout ⟨by decide, (Nat.le_of_ble_eq_true rfl)⟩ (Nat.le_of_ble_eq_true rfl) (Nat.le_of_ble_eq_true rfl) (OX.of (c := 2) (r := 0) (w := u) (by rw [opDeed, if_neg (by simp [ed]), if_pos (inB_f.mpr (Or.inl c7))]) (by decide) rfl (CR.rf hS)) (Nat.le_of_ble_eq_true rfl) (Nat.le_of_ble_eq_true rfl)
  · refine aw_iload_n C dX8_deed_10 rfl rfl rfl ?_
    refine aw_iconst (v := 5) C dX8_deed_11 rfl rfl ?_
    refine aw_icmp_le (tgt := 25) C dX8_deed_12 (by decide) rfl (fun c12 => ?_) (fun c12 => ?_)
    · obtain ⟨j, hj, rfl⟩ : ∃ j, j ≤ 5 ∧ w = nI j := by
        obtain ⟨j, hj, e⟩ := nI_of2 (M := 5) (n := 5) (by decide) c7 c12
        exact ⟨j, hj, e⟩
      match j, hj with
      | 0, _ =>
        refine aw_iload_n C dX8_deed_25 rfl rfl rfl ?_
        refine aw_tableIn (tgt := 60) C dX8_deed_26 (by decide) (by decide) rfl (by decide) ?_
        refine aw_aload_n C dX8_deed_60 rfl rfl rfl ?_
        refine aw_getf C f_X8_221 (hS.D hd) rfl dX8_deed_61 rfl ?_
        exact aw_iret C rfl (Nat.le_of_ble_eq_true rfl) (Nat.le_of_ble_eq_true rfl) (OPost.of (by rw [opDeed, if_neg (by simp [ed]), kd]; rfl) (CR.rf hS)) dX8_deed_64
      | 1, _ =>
        refine aw_iload_n C dX8_deed_25 rfl rfl rfl ?_
        refine aw_tableIn (tgt := 65) C dX8_deed_26 (by decide) (by decide) rfl (by decide) ?_
        refine aw_aload_n C dX8_deed_65 rfl rfl rfl ?_
        refine aw_getf C f_X8_236 (hS.D hd) rfl dX8_deed_66 rfl ?_
        exact aw_iret C rfl (Nat.le_of_ble_eq_true rfl) (Nat.le_of_ble_eq_true rfl) (OPost.of (by rw [opDeed, if_neg (by simp [ed]), kd]; rfl) (CR.rf hS)) dX8_deed_69
      | 2, _ =>
        refine aw_iload_n C dX8_deed_25 rfl rfl rfl ?_
        refine aw_tableIn (tgt := 70) C dX8_deed_26 (by decide) (by decide) rfl (by decide) ?_
        refine aw_aload_n C dX8_deed_70 rfl rfl rfl ?_
        refine aw_getf C f_X8_171 (hS.D hd) rfl dX8_deed_71 rfl ?_
        exact aw_iret C rfl (Nat.le_of_ble_eq_true rfl) (Nat.le_of_ble_eq_true rfl) (OPost.of (by rw [opDeed, if_neg (by simp [ed]), kd]; rfl) (CR.rf hS)) dX8_deed_74
      | 3, _ =>
        refine aw_iload_n C dX8_deed_25 rfl rfl rfl ?_
        refine aw_tableIn (tgt := 75) C dX8_deed_26 (by decide) (by decide) rfl (by decide) ?_
        refine aw_aload_n C dX8_deed_75 rfl rfl rfl ?_
        refine aw_getf C f_X8_212 (hS.D hd) rfl dX8_deed_76 rfl ?_
        exact aw_iret C rfl (Nat.le_of_ble_eq_true rfl) (Nat.le_of_ble_eq_true rfl) (OPost.of (by rw [opDeed, if_neg (by simp [ed]), kd]; rfl) (CR.rf hS)) dX8_deed_79
      | 4, _ =>
        refine aw_iload_n C dX8_deed_25 rfl rfl rfl ?_
        refine aw_tableIn (tgt := 80) C dX8_deed_26 (by decide) (by decide) rfl (by decide) ?_
        refine aw_aload_n C dX8_deed_80 rfl rfl rfl ?_
        refine aw_getf C f_X8_215 (hS.D hd) rfl dX8_deed_81 rfl ?_
        exact aw_iret C rfl (Nat.le_of_ble_eq_true rfl) (Nat.le_of_ble_eq_true rfl) (OPost.of (by rw [opDeed, if_neg (by simp [ed]), kd]; rfl) (CR.rf hS)) dX8_deed_84
      | 5, _ =>
        refine aw_iload_n C dX8_deed_25 rfl rfl rfl ?_
        refine aw_tableOut (tgt := 85) C dX8_deed_26 (by decide) (by decide) ?_
        refine aw_aload_n C dX8_deed_85 rfl rfl rfl ?_
        refine aw_getf C f_X8_239 (hS.D hd) rfl dX8_deed_86 rfl ?_
        exact aw_iret C rfl (Nat.le_of_ble_eq_true rfl) (Nat.le_of_ble_eq_true rfl) (OPost.of (by rw [opDeed, if_neg (by simp [ed]), kd]; rfl) (CR.rf hS)) dX8_deed_89
      | _ + 6, hj => omega
    · exact aw_thr C G thA 21 rfl dX8_deed_15 dX8_deed_18 dX8_deed_19 dX8_deed_21 dX8_deed_24 hout ⟨by decide, (Nat.le_of_ble_eq_true rfl)⟩ (Nat.le_of_ble_eq_true rfl) (Nat.le_of_ble_eq_true rfl) (OX.of (c := 2) (r := 0) (w := u) (by rw [opDeed, if_neg (by simp [ed]), if_pos (inB_f.mpr (Or.inr (Int32.not_le.mp c12)))]) (by decide) rfl (CR.rf hS)) (Nat.le_of_ble_eq_true rfl) (Nat.le_of_ble_eq_true rfl)
theorem isEn_in {u : MU} {e : Nat} (h : WN u) (he : e < u.2.2.1 35) : isEn u (nI e) = true := inB_in (by have := h.2.2.2.2; omega) he
set_option maxRecDepth 100000 in
theorem F_entry {g : Gx} {l : Launch} {ez : Nat} (G : GOK g l ez) {sg : Sg} {ad : Nat → Nat → Nat} {u : MU} {Y : GS} (hS : CS g ez ad u Y sg) {N : Nat} (hI : CI N u) {v w : Int32} : MM g l yX8_entry cX8_entry 4 (some .int) (rmC 9 8 60) sg [.ref (ad 0 0), .int v, .int w] (OPost g ez ad u Y sg (opEntry u v w)) (OX g ez ad u Y sg x2a (opEntry u v w)) := by
  refine MM.of G.1 G.2.1 (by decide) (Nat.le_of_ble_eq_true rfl) (fun x hg hlx C hin hout hargs => ?_)
  subst hg; subst hlx
  have C : AWC x cX8_entry 4 RX8 (rmC 9 8 60) (some .int) := C
  show AW x (RQ x _ _ _ _) 0 0 sg 0 [(0, .ref (ad 0 0)), (1, .int v), (2, .int w)] []
  refine aw_iload_n C dX8_entry_0 rfl rfl rfl ?_
  refine aw_if_lt (tgt := 15) C dX8_entry_1 (by decide) rfl (fun c1 => ?_) (fun c1 => ?_)
  · exact aw_thrW C G thB 31 rfl dX8_entry_15 dX8_entry_18 dX8_entry_19 dX8_entry_22 dX8_entry_25 hout ⟨by decide, (Nat.le_of_ble_eq_true rfl)⟩ (Nat.le_of_ble_eq_true rfl) (Nat.le_of_ble_eq_true rfl) (OX.of (c := 1) (r := 0) (w := u) (by rw [opEntry, if_pos (show isEn u v = false from isP_no1 c1)]) (by decide) rfl (CR.rf hS)) (Nat.le_of_ble_eq_true rfl) (Nat.le_of_ble_eq_true rfl)
  · refine aw_iload_n C dX8_entry_4 rfl rfl rfl ?_
    refine aw_aload_n C dX8_entry_5 rfl rfl rfl ?_
    refine aw_getf C f_X8_22 hS.O rfl dX8_entry_6 rfl ?_
    refine cw_callVp C k_X8_50 (L_size G (n := u.2.2.1 35) (hS.L (i := 3) (by decide))) ⟨by decide, by decide⟩ (ci := 1) rfl (hS.L (i := 3) (by decide)) rfl rfl (Nat.le_of_ble_eq_true rfl) (Nat.le_of_ble_eq_true rfl) (Nat.le_of_ble_eq_true rfl) dX8_entry_9 rfl ?_
    refine aw_icmp_lt (tgt := 26) C dX8_entry_12 (by decide) rfl (fun c12 => ?_) (fun c12 => ?_)
    · have hn := hI.n35
      obtain ⟨e, he, rfl⟩ := inB_of (n := u.2.2.1 35) (v := v) (by omega) (isP_ok (by omega) c1 c12)
      have ee := isEn_in hI.W he
      have ke : (nI e).toNatClampNeg = e := nI_clamp (by omega)
      obtain ⟨t, ht, et⟩ := hI.et he
      have gt : (u.1 38 e).toNatClampNeg = t := by rw [et, nI_clamp (by have := hI.n31; omega)]
      refine aw_iload_n C dX8_entry_26 rfl rfl rfl ?_
      refine aw_if_lt (tgt := 35) C dX8_entry_27 (by decide) rfl (fun c27 => ?_) (fun c27 => ?_)
      · exact aw_thr C G thA 21 rfl dX8_entry_35 dX8_entry_38 dX8_entry_39 dX8_entry_41 dX8_entry_44 hout ⟨by decide, (Nat.le_of_ble_eq_true rfl)⟩ (Nat.le_of_ble_eq_true rfl) (Nat.le_of_ble_eq_true rfl) (OX.of (c := 2) (r := 0) (w := u) (by rw [opEntry, if_neg (by simp [ee]), if_pos (inB_f.mpr (Or.inl c27))]) (by decide) rfl (CR.rf hS)) (Nat.le_of_ble_eq_true rfl) (Nat.le_of_ble_eq_true rfl)
      · refine aw_iload_n C dX8_entry_30 rfl rfl rfl ?_
        refine aw_iconst (v := 3) C dX8_entry_31 rfl rfl ?_
        refine aw_icmp_le (tgt := 45) C dX8_entry_32 (by decide) rfl (fun c32 => ?_) (fun c32 => ?_)
        · obtain ⟨j, hj, rfl⟩ : ∃ j, j ≤ 3 ∧ w = nI j := by
            obtain ⟨j, hj, e⟩ := nI_of2 (M := 3) (n := 3) (by decide) c27 c32
            exact ⟨j, hj, e⟩
          match j, hj with
          | 0, _ =>
            refine aw_aload_n C dX8_entry_45 rfl rfl rfl ?_
            refine aw_getf C f_X8_22 hS.O rfl dX8_entry_46 rfl ?_
            refine aw_iload_n C dX8_entry_49 rfl rfl rfl ?_
            refine cw_callVp C k_X8_355 (L_get G (hS.H (i := 3) (by decide)) he (by show u.2.2.1 35 ≤ 109; omega)) ⟨by decide, by decide⟩ (ci := 1) rfl (hS.L (i := 3) (by decide)) rfl rfl (Nat.le_of_ble_eq_true rfl) (Nat.le_of_ble_eq_true rfl) (Nat.le_of_ble_eq_true rfl) dX8_entry_50 rfl ?_
            refine aw_cast C h_X8_330 (ci := 3) rfl (hS.En he) dX8_entry_53 rfl ?_
            refine aw_astore_n (ls' := [(3, _), (0, _), (1, _), (2, _)]) C dX8_entry_56 rfl (by decide) rfl rfl ?_
            refine aw_iload_n C dX8_entry_57 rfl rfl rfl ?_
            refine aw_tableIn (tgt := 84) C dX8_entry_58 (by decide) (by decide) rfl (by decide) ?_
            refine aw_aload_n C dX8_entry_84 rfl rfl rfl ?_
            refine aw_getf C f_X8_364 (hS.En he) rfl dX8_entry_85 rfl ?_
            exact aw_iret C rfl (Nat.le_of_ble_eq_true rfl) (Nat.le_of_ble_eq_true rfl) (OPost.of (by rw [opEntry, if_neg (by simp [ee]), ke]; rfl) (CR.rf hS)) dX8_entry_88
          | 1, _ =>
            refine aw_aload_n C dX8_entry_45 rfl rfl rfl ?_
            refine aw_getf C f_X8_22 hS.O rfl dX8_entry_46 rfl ?_
            refine aw_iload_n C dX8_entry_49 rfl rfl rfl ?_
            refine cw_callVp C k_X8_355 (L_get G (hS.H (i := 3) (by decide)) he (by show u.2.2.1 35 ≤ 109; omega)) ⟨by decide, by decide⟩ (ci := 1) rfl (hS.L (i := 3) (by decide)) rfl rfl (Nat.le_of_ble_eq_true rfl) (Nat.le_of_ble_eq_true rfl) (Nat.le_of_ble_eq_true rfl) dX8_entry_50 rfl ?_
            refine aw_cast C h_X8_330 (ci := 3) rfl (hS.En he) dX8_entry_53 rfl ?_
            refine aw_astore_n (ls' := [(3, _), (0, _), (1, _), (2, _)]) C dX8_entry_56 rfl (by decide) rfl rfl ?_
            refine aw_iload_n C dX8_entry_57 rfl rfl rfl ?_
            refine aw_tableIn (tgt := 89) C dX8_entry_58 (by decide) (by decide) rfl (by decide) ?_
            refine aw_aload_n C dX8_entry_89 rfl rfl rfl ?_
            refine aw_getf C f_X8_365 (hS.En he) rfl dX8_entry_90 rfl ?_
            exact aw_iret C rfl (Nat.le_of_ble_eq_true rfl) (Nat.le_of_ble_eq_true rfl) (OPost.of (by rw [opEntry, if_neg (by simp [ee]), ke]; rfl) (CR.rf hS)) dX8_entry_93
          | 2, _ =>
            refine aw_aload_n C dX8_entry_45 rfl rfl rfl ?_
            refine aw_getf C f_X8_22 hS.O rfl dX8_entry_46 rfl ?_
            refine aw_iload_n C dX8_entry_49 rfl rfl rfl ?_
            refine cw_callVp C k_X8_355 (L_get G (hS.H (i := 3) (by decide)) he (by show u.2.2.1 35 ≤ 109; omega)) ⟨by decide, by decide⟩ (ci := 1) rfl (hS.L (i := 3) (by decide)) rfl rfl (Nat.le_of_ble_eq_true rfl) (Nat.le_of_ble_eq_true rfl) (Nat.le_of_ble_eq_true rfl) dX8_entry_50 rfl ?_
            refine aw_cast C h_X8_330 (ci := 3) rfl (hS.En he) dX8_entry_53 rfl ?_
            refine aw_astore_n (ls' := [(3, _), (0, _), (1, _), (2, _)]) C dX8_entry_56 rfl (by decide) rfl rfl ?_
            refine aw_iload_n C dX8_entry_57 rfl rfl rfl ?_
            refine aw_tableIn (tgt := 94) C dX8_entry_58 (by decide) (by decide) rfl (by decide) ?_
            refine aw_aload_n C dX8_entry_94 rfl rfl rfl ?_
            refine aw_getf C f_X8_368 (hS.En he) rfl dX8_entry_95 rfl ?_
            rw [gt]
            refine aw_getf C f_X8_116 (hS.T ht) rfl dX8_entry_98 rfl ?_
            exact aw_iret C rfl (Nat.le_of_ble_eq_true rfl) (Nat.le_of_ble_eq_true rfl) (OPost.of (by rw [opEntry, if_neg (by simp [ee]), ke, if_neg (by decide), if_neg (by decide), if_neg (by decide), if_pos (by decide), et]) (CR.rf hS)) dX8_entry_101
          | 3, _ =>
            refine aw_aload_n C dX8_entry_45 rfl rfl rfl ?_
            refine aw_getf C f_X8_22 hS.O rfl dX8_entry_46 rfl ?_
            refine aw_iload_n C dX8_entry_49 rfl rfl rfl ?_
            refine cw_callVp C k_X8_355 (L_get G (hS.H (i := 3) (by decide)) he (by show u.2.2.1 35 ≤ 109; omega)) ⟨by decide, by decide⟩ (ci := 1) rfl (hS.L (i := 3) (by decide)) rfl rfl (Nat.le_of_ble_eq_true rfl) (Nat.le_of_ble_eq_true rfl) (Nat.le_of_ble_eq_true rfl) dX8_entry_50 rfl ?_
            refine aw_cast C h_X8_330 (ci := 3) rfl (hS.En he) dX8_entry_53 rfl ?_
            refine aw_astore_n (ls' := [(3, _), (0, _), (1, _), (2, _)]) C dX8_entry_56 rfl (by decide) rfl rfl ?_
            refine aw_iload_n C dX8_entry_57 rfl rfl rfl ?_
            refine aw_tableOut (tgt := 102) C dX8_entry_58 (by decide) (by decide) ?_
            refine aw_aload_n C dX8_entry_102 rfl rfl rfl ?_
            refine aw_getf C f_X8_369 (hS.En he) rfl dX8_entry_103 rfl ?_
            exact aw_iret C rfl (Nat.le_of_ble_eq_true rfl) (Nat.le_of_ble_eq_true rfl) (OPost.of (by rw [opEntry, if_neg (by simp [ee]), ke]; rfl) (CR.rf hS)) dX8_entry_106
          | _ + 4, hj => omega
        · exact aw_thr C G thA 21 rfl dX8_entry_35 dX8_entry_38 dX8_entry_39 dX8_entry_41 dX8_entry_44 hout ⟨by decide, (Nat.le_of_ble_eq_true rfl)⟩ (Nat.le_of_ble_eq_true rfl) (Nat.le_of_ble_eq_true rfl) (OX.of (c := 2) (r := 0) (w := u) (by rw [opEntry, if_neg (by simp [ee]), if_pos (inB_f.mpr (Or.inr (Int32.not_le.mp c32)))]) (by decide) rfl (CR.rf hS)) (Nat.le_of_ble_eq_true rfl) (Nat.le_of_ble_eq_true rfl)
    · exact aw_thrW C G thB 31 rfl dX8_entry_15 dX8_entry_18 dX8_entry_19 dX8_entry_22 dX8_entry_25 hout ⟨by decide, (Nat.le_of_ble_eq_true rfl)⟩ (Nat.le_of_ble_eq_true rfl) (Nat.le_of_ble_eq_true rfl) (OX.of (c := 1) (r := 0) (w := u) (by rw [opEntry, if_pos (show isEn u v = false from isP_no2 (by have := hI.n35; omega) c12)]) (by decide) rfl (CR.rf hS)) (Nat.le_of_ble_eq_true rfl) (Nat.le_of_ble_eq_true rfl)
theorem CI.pp {N : Nat} {u : MU} (h : CI N u) {d : Nat} (hd : d < u.2.2.1 10) : ∃ m, m ≤ 4 ∧ u.1 29 d = nI m := by
  obtain ⟨m, f, hm, e, -⟩ := h.I.G d (by have := h.n10; omega)
  exact ⟨m, hm, e⟩
set_option maxRecDepth 100000 in
theorem F_copy {g : Gx} {l : Launch} {ez : Nat} (G : GOK g l ez) {sg : Sg} {ad : Nat → Nat → Nat} {u : MU} {Y : GS} (hS : CS g ez ad u Y sg) {N : Nat} (hI : CI N u) {v : Int32} : MM g l yX8_copy cX8_copy 4 (some .int) (rmC 9 8 60) sg [.ref (ad 0 0), .int v] (OPost g ez ad u Y sg (opCopy u v)) (OX g ez ad u Y sg x2s (opCopy u v)) := by
  refine MM.of G.1 G.2.1 (by decide) (Nat.le_of_ble_eq_true rfl) (fun x hg hlx C hin hout hargs => ?_)
  subst hg; subst hlx
  have C : AWC x cX8_copy 4 RX8 (rmC 9 8 60) (some .int) := C
  show AW x (RQ x _ _ _ _) 0 0 sg 0 [(0, .ref (ad 0 0)), (1, .int v)] []
  refine aw_aload_n C dX8_copy_0 rfl rfl rfl ?_
  refine aw_iload_n C dX8_copy_1 rfl rfl rfl ?_
  refine aw_callV C k_X8_159 (C_deedAt G hS hI (v := v)) ⟨by decide, by decide⟩ (ci := 10) rfl hS.O rfl rfl (Nat.le_of_ble_eq_true rfl) (Nat.le_of_ble_eq_true rfl) (Nat.le_of_ble_eq_true rfl) dX8_copy_2 rfl (fun E s1 hx => ?_) (fun v1 s1 hq => ?_)
  · obtain ⟨rfl, hx, rfl⟩ := hx
    exact ax_out C hout (Nat.le_of_ble_eq_true rfl) (Nat.le_of_ble_eq_true rfl) (OX.of (c := 1) (r := 0) (w := u) (by simp [opCopy, hx]) (by decide) rfl (CR.rf hS))
  obtain ⟨d, hd, rfl, rfl, rfl⟩ := hq
  have ed := isDd_in hI.W hd
  have kd : (nI d).toNatClampNeg = d := nI_clamp (by have := hI.n10; omega)
  obtain ⟨m, hm4, em⟩ := hI.pp hd
  refine aw_getf C f_X8_224 (hS.D hd) rfl dX8_copy_5 rfl ?_
  refine aw_astore_n (ls' := [(2, _), (0, _), (1, _)]) C dX8_copy_8 rfl (by decide) rfl rfl ?_
  refine aw_aload_n C dX8_copy_9 rfl rfl rfl ?_
  refine aw_getf C f_X8_281 (hS.Pp hd) rfl dX8_copy_10 rfl ?_
  refine aw_if_eq (tgt := 24) C dX8_copy_13 (by decide) rfl (fun c13 => ?_) (fun c13 => ?_)
  · exact aw_thrW C G thS 24 rfl dX8_copy_24 dX8_copy_27 dX8_copy_28 dX8_copy_31 dX8_copy_34 hout ⟨by decide, (Nat.le_of_ble_eq_true rfl)⟩ (Nat.le_of_ble_eq_true rfl) (Nat.le_of_ble_eq_true rfl) (OX.of (c := 2) (r := 0) (w := u) (by rw [opCopy, if_neg (by simp [ed]), kd, if_pos (Or.inl c13)]) (by decide) rfl (CR.rf hS)) (Nat.le_of_ble_eq_true rfl) (Nat.le_of_ble_eq_true rfl)
  · refine aw_aload_n C dX8_copy_16 rfl rfl rfl ?_
    refine aw_getf C f_X8_281 (hS.Pp hd) rfl dX8_copy_17 rfl ?_
    refine aw_iconst (v := 4) C dX8_copy_20 rfl rfl ?_
    refine aw_icmp_lt (tgt := 35) C dX8_copy_21 (by decide) rfl (fun c21 => ?_) (fun c21 => ?_)
    · have hm : m < 4 := by rw [em] at c21; exact (nI_ltI (b := 4) (by omega) (by decide)).mp c21
      refine aw_aload_n C dX8_copy_35 rfl rfl rfl ?_
      refine cw_callVNp C k_X8_286 (C_least G hS hd) ⟨by decide, by decide⟩ (ci := 6) rfl (hS.Pp hd) rfl rfl (Nat.le_of_ble_eq_true rfl) (Nat.le_of_ble_eq_true rfl) (Nat.le_of_ble_eq_true rfl) dX8_copy_36 rfl ?_
      refine aw_iconst (v := 1) C dX8_copy_39 rfl rfl ?_
      refine aw_iadd C dX8_copy_40 rfl ?_
      refine aw_istore_n (ls' := [(3, _), (2, _), (0, _), (1, _)]) C dX8_copy_41 rfl (by decide) rfl rfl ?_
      rw [show least u d = u.1 28 (4 * d) from if_neg c13]
      refine aw_aload_n C dX8_copy_42 rfl rfl rfl ?_
      refine aw_iload_n C dX8_copy_43 rfl rfl rfl ?_
      refine aw_callVN C k_X8_228 (C_append G hS hI.W hI.P hd (m := m) (by omega) em) ⟨by decide, by decide⟩ (ci := 6) rfl (hS.Pp hd) rfl rfl (Nat.le_of_ble_eq_true rfl) (Nat.le_of_ble_eq_true rfl) (Nat.le_of_ble_eq_true rfl) dX8_copy_44 rfl (fun E s1 hx => ?_) (fun v1 s1 hq => ?_)
      · exact ax_no hx
      obtain ⟨rfl, hS1, hF1⟩ := hq
      refine aw_iload_n C dX8_copy_47 rfl rfl rfl ?_
      exact aw_iret C rfl (Nat.le_of_ble_eq_true rfl) (Nat.le_of_ble_eq_true rfl) (OPost.of (by rw [opCopy, if_neg (by simp [ed]), kd, if_neg (by rintro (z | z); exact c13 z; rw [em] at z; exact absurd ((nI_eq (by omega) (by decide) : nI m = nI 4 ↔ _).mp z) (by omega)), em, nI_clamp (by omega), nI_1]) (CR.ps hS1 hF1 ⟨rfl, rfl, rfl, rfl, rfl⟩ rfl rfl)) dX8_copy_48
    · exact aw_thrW C G thS 24 rfl dX8_copy_24 dX8_copy_27 dX8_copy_28 dX8_copy_31 dX8_copy_34 hout ⟨by decide, (Nat.le_of_ble_eq_true rfl)⟩ (Nat.le_of_ble_eq_true rfl) (Nat.le_of_ble_eq_true rfl) (OX.of (c := 2) (r := 0) (w := u) (by rw [opCopy, if_neg (by simp [ed]), kd, if_pos (Or.inr (by rw [em] at c21 ⊢; rw [show (4 : Int32) = nI 4 from rfl, nI_ltI (by omega) (by decide)] at c21; rw [show m = 4 by omega]; rfl))]) (by decide) rfl (CR.rf hS)) (Nat.le_of_ble_eq_true rfl) (Nat.le_of_ble_eq_true rfl)
set_option maxRecDepth 100000 in
theorem F_lose {g : Gx} {l : Launch} {ez : Nat} (G : GOK g l ez) {sg : Sg} {ad : Nat → Nat → Nat} {u : MU} {Y : GS} (hS : CS g ez ad u Y sg) {N : Nat} (hI : CI N u) {v : Int32} : MM g l yX8_lose cX8_lose 3 (some .int) (rmC 9 8 60) sg [.ref (ad 0 0), .int v] (OPost g ez ad u Y sg (opLose u v)) (OX g ez ad u Y sg x2s (opLose u v)) := by
  refine MM.of G.1 G.2.1 (by decide) (Nat.le_of_ble_eq_true rfl) (fun x hg hlx C hin hout hargs => ?_)
  subst hg; subst hlx
  have C : AWC x cX8_lose 3 RX8 (rmC 9 8 60) (some .int) := C
  show AW x (RQ x _ _ _ _) 0 0 sg 0 [(0, .ref (ad 0 0)), (1, .int v)] []
  refine aw_aload_n C dX8_lose_0 rfl rfl rfl ?_
  refine aw_iload_n C dX8_lose_1 rfl rfl rfl ?_
  refine aw_callV C k_X8_159 (C_deedAt G hS hI (v := v)) ⟨by decide, by decide⟩ (ci := 10) rfl hS.O rfl rfl (Nat.le_of_ble_eq_true rfl) (Nat.le_of_ble_eq_true rfl) (Nat.le_of_ble_eq_true rfl) dX8_lose_2 rfl (fun E s1 hx => ?_) (fun v1 s1 hq => ?_)
  · obtain ⟨rfl, hx, rfl⟩ := hx
    exact ax_out C hout (Nat.le_of_ble_eq_true rfl) (Nat.le_of_ble_eq_true rfl) (OX.of (c := 1) (r := 0) (w := u) (by simp [opLose, hx]) (by decide) rfl (CR.rf hS))
  obtain ⟨d, hd, rfl, rfl, rfl⟩ := hq
  have ed := isDd_in hI.W hd
  have kd : (nI d).toNatClampNeg = d := nI_clamp (by have := hI.n10; omega)
  obtain ⟨m, hm4, em⟩ := hI.pp hd
  refine aw_getf C f_X8_224 (hS.D hd) rfl dX8_lose_5 rfl ?_
  refine aw_astore_n (ls' := [(2, _), (0, _), (1, _)]) C dX8_lose_8 rfl (by decide) rfl rfl ?_
  refine aw_aload_n C dX8_lose_9 rfl rfl rfl ?_
  refine aw_getf C f_X8_281 (hS.Pp hd) rfl dX8_lose_10 rfl ?_
  refine aw_if_ne (tgt := 27) C dX8_lose_13 (by decide) rfl (fun c13 => ?_) (fun c13 => ?_)
  · have hm0 : 0 < m := Nat.pos_of_ne_zero (fun z => c13 (by rw [em, z]; rfl))
    refine aw_aload_n C dX8_lose_27 rfl rfl rfl ?_
    refine aw_callVN C k_X8_291 (C_dropFirst G hS hI.W hI.P hd hm0 hm4 em) ⟨by decide, by decide⟩ (ci := 6) rfl (hS.Pp hd) rfl rfl (Nat.le_of_ble_eq_true rfl) (Nat.le_of_ble_eq_true rfl) (Nat.le_of_ble_eq_true rfl) dX8_lose_28 rfl (fun E s1 hx => ?_) (fun v1 s1 hq => ?_)
    · exact ax_no hx
    obtain ⟨rfl, hS1, hF1⟩ := hq
    have eU : uI (loseN u d (m - 1)) 29 d (nI (m - 1)) = loseN (uI u 29 d (u.1 29 d - 1)) d (m - 1) := by
      rw [loseN_c29, em, show nI m - 1 = nI (m - 1) from pk_sub (b := 1) hm0]
    rw [eU] at hS1
    have hd1 : d < (loseN (uI u 29 d (u.1 29 d - 1)) d (m - 1)).2.2.1 10 := by rw [loseN_N]; exact hd
    refine aw_aload_n C dX8_lose_31 rfl rfl rfl ?_
    refine cw_callVNp C k_X8_286 (C_least G hS1 hd1) ⟨by decide, by decide⟩ (ci := 6) rfl (hS1.Pp hd1) rfl rfl (Nat.le_of_ble_eq_true rfl) (Nat.le_of_ble_eq_true rfl) (Nat.le_of_ble_eq_true rfl) dX8_lose_32 rfl ?_
    exact aw_iret C rfl (Nat.le_of_ble_eq_true rfl) (Nat.le_of_ble_eq_true rfl) (OPost.of (by rw [opLose, if_neg (by simp [ed]), kd, if_neg c13, em, nI_clamp (by omega)]) (by rw [em] at hS1; exact CR.ps hS1 hF1 ⟨by rw [loseN_N] <;> rfl, by rw [loseN_N] <;> rfl, by rw [loseN_N] <;> rfl, by rw [loseN_N] <;> rfl, funext fun j => by rw [loseN_r (by decide)]; rfl⟩ (funext fun j => by rw [loseN_r (by decide)]; rfl) (by rw [loseN_N] <;> rfl))) dX8_lose_35
  · exact aw_thrW C G thS 25 rfl dX8_lose_16 dX8_lose_19 dX8_lose_20 dX8_lose_23 dX8_lose_26 hout ⟨by decide, (Nat.le_of_ble_eq_true rfl)⟩ (Nat.le_of_ble_eq_true rfl) (Nat.le_of_ble_eq_true rfl) (OX.of (c := 2) (r := 0) (w := u) (by rw [opLose, if_neg (by simp [ed]), kd, if_pos c13]) (by decide) rfl (CR.rf hS)) (Nat.le_of_ble_eq_true rfl) (Nat.le_of_ble_eq_true rfl)
theorem cel_7 {g : Gx} {ez : Nat} {ad : Nat → Nat → Nat} {u : MU} {Y : GS} {d : Nat} (hd : d < u.2.2.1 10) (hk : u.1 11 d = 3) : cel g ez ad u Y 7 d = some (ob 4 (ncl ad u d)) := if_pos ⟨hd, hk⟩
theorem cel_u7 {g : Gx} {ez : Nat} {ad : Nat → Nat → Nat} {u : MU} {Y : GS} (hP : WP u) (hW : WN u) {r d : Nat} {v : Int32} (hr : kdOf r = 7) (h11 : r ≠ 11) (hx : ixOf r d = d) : ∀ a b, ¬ (a = 7 ∧ b = d) → cel g ez ad (uI u r d v) Y a b = cel g ez ad u Y a b := fun a b hab => cel_uI hP hW h11 (fun z => hab ⟨z.1.symm.trans hr, z.2.symm.trans hx⟩)
theorem nset26 {ad : Nat → Nat → Nat} {u : MU} {d : Nat} {v : Int32} : ncl ad (uI u 26 d v) d = (ncl ad u d).set 2 (.int v) := by
  have e : (uI u 26 d v).1 26 d = v := uI_at
  unfold ncl
  rw [e]
  rfl
theorem nset27 {ad : Nat → Nat → Nat} {u : MU} {d : Nat} {v : Int32} : ncl ad (uI u 27 d v) d = (ncl ad u d).set 3 (.int v) := by
  have e : (uI u 27 d v).1 27 d = v := uI_at
  unfold ncl
  rw [e]
  rfl
theorem nset19 {ad : Nat → Nat → Nat} {u : MU} {d : Nat} {v : Int32} : ncl ad (uI u 19 d v) d = (ncl ad u d).set 4 (va_rf (rfo (ad 4) v)) := by
  have e : (uI u 19 d v).1 19 d = v := uI_at
  unfold ncl
  rw [e]
  rfl
theorem z01 {v : Int32} (h : v = 0 ∨ v = 1) : narrow .boolean (.int v) = .int v := by rcases h with rfl | rfl <;> decide
set_option maxRecDepth 100000 in
theorem F_revoke {g : Gx} {l : Launch} {ez : Nat} (G : GOK g l ez) {sg : Sg} {ad : Nat → Nat → Nat} {u : MU} {Y : GS} (hS : CS g ez ad u Y sg) {N : Nat} (hI : CI N u) {v : Int32} {t : Bool} : MM g l yX8_revoke cX8_revoke 6 (some .boolean) (rmC 9 8 60) sg [.ref (ad 0 0), .int v, .int (b2i t)] (OPost g ez ad u Y sg (opRevoke u v t)) (OX g ez ad u Y sg x2s (opRevoke u v t)) := by
  refine MM.of G.1 G.2.1 (by decide) (Nat.le_of_ble_eq_true rfl) (fun x hg hlx C hin hout hargs => ?_)
  subst hg; subst hlx
  have C : AWC x cX8_revoke 6 RX8 (rmC 9 8 60) (some .boolean) := C
  show AW x (RQ x _ _ _ _) 0 0 sg 0 [(0, .ref (ad 0 0)), (1, .int v), (2, .int (b2i t))] []
  refine aw_aload_n C dX8_revoke_0 rfl rfl rfl ?_
  refine aw_iload_n C dX8_revoke_1 rfl rfl rfl ?_
  refine aw_callV C k_X8_159 (C_deedAt G hS hI (v := v)) ⟨by decide, by decide⟩ (ci := 10) rfl hS.O rfl rfl (Nat.le_of_ble_eq_true rfl) (Nat.le_of_ble_eq_true rfl) (Nat.le_of_ble_eq_true rfl) dX8_revoke_2 rfl (fun E s1 hx => ?_) (fun v1 s1 hq => ?_)
  · obtain ⟨rfl, hx, rfl⟩ := hx
    exact ax_out C hout (Nat.le_of_ble_eq_true rfl) (Nat.le_of_ble_eq_true rfl) (OX.of (c := 1) (r := 0) (w := u) (by simp [opRevoke, hx]) (by decide) rfl (CR.rf hS))
  obtain ⟨d, hd, rfl, rfl, rfl⟩ := hq
  have ed := isDd_in hI.W hd
  have kd : (nI d).toNatClampNeg = d := nI_clamp (by have := hI.n10; omega)
  by_cases hk : u.1 11 d = 3
  · refine aw_astore_n (ls' := [(3, _), (0, _), (1, _), (2, _)]) C dX8_revoke_5 rfl (by decide) rfl rfl ?_
    refine aw_aload_n C dX8_revoke_6 rfl rfl rfl ?_
    refine aw_getf C f_X8_153 (hS.D hd) rfl dX8_revoke_7 rfl ?_
    rw [if_pos hk]
    refine aw_astore (ls' := [(4, _), (3, _), (0, _), (1, _), (2, _)]) C dX8_revoke_10 (by decide) rfl rfl ?_
    refine aw_aload C dX8_revoke_12 rfl rfl ?_
    refine aw_ifnull (r := some _) (tgt := 24) C dX8_revoke_14 (by decide) rfl (fun z => nomatch z) (fun _ _ => ?_)
    refine aw_aload_n C dX8_revoke_17 rfl rfl rfl ?_
    refine cw_callVNp C k_X8_186 (C_isClosed G hS hd) ⟨by decide, by decide⟩ (ci := 2) rfl (hS.D hd) rfl rfl (Nat.le_of_ble_eq_true rfl) (Nat.le_of_ble_eq_true rfl) (Nat.le_of_ble_eq_true rfl) dX8_revoke_18 rfl ?_
    refine aw_if_ne (tgt := 35) C dX8_revoke_21 (by decide) rfl (fun c21 => ?_) (fun c21 => ?_)
    · have c21 := tr_of c21
      refine aw_aload C dX8_revoke_35 rfl rfl ?_
      refine aw_getf C f_X8_271 (hS.M hd hk) rfl dX8_revoke_37 rfl ?_
      refine aw_istore (ls' := [(5, _), (4, _), (3, _), (0, _), (1, _), (2, _)]) C dX8_revoke_40 (by decide) rfl rfl ?_
      refine aw_aload C dX8_revoke_42 rfl rfl ?_
      refine aw_iconst (v := 1) C dX8_revoke_44 rfl rfl ?_
      refine cw_put (uI u 26 d 1) C hS CFr.rf SN.rf f_X8_271 rfl (cel_7 hd hk) (by rw [cel_7 (u := (uI u 26 d 1)) hd hk, nset26] <;> rfl) (cel_u7 hI.P hI.W rfl (by decide) rfl) rfl rfl rfl (Nat.le_of_ble_eq_true rfl) dX8_revoke_45 rfl (fun s1 hS1 hF1 => ?_)
      refine aw_aload C dX8_revoke_48 rfl rfl ?_
      refine aw_aload C dX8_revoke_50 rfl rfl ?_
      refine aw_getf C f_X8_274 (hS1.M hd hk) rfl dX8_revoke_52 rfl ?_
      refine aw_if_ne (tgt := 62) C dX8_revoke_55 (by decide) rfl (fun c55 => ?_) (fun c55 => ?_)
      · refine aw_iconst (v := 1) C dX8_revoke_62 rfl rfl ?_
        refine aw_goto (tgt := 67) C dX8_revoke_63 (by decide) ?_
        refine cw_put (uI (uI u 26 d 1) 27 d 1) C hS1 hF1 ⟨rfl, rfl, rfl, rfl, rfl⟩ f_X8_274 rfl (cel_7 hd hk) (by rw [cel_7 (u := (uI (uI u 26 d 1) 27 d 1)) hd hk, nset27] <;> rfl) (cel_u7 (hI.P.u (by decide)) hI.W rfl (by decide) rfl) rfl rfl rfl (Nat.le_of_ble_eq_true rfl) dX8_revoke_67 rfl (fun s2 hS2 hF2 => ?_)
        refine aw_iload C dX8_revoke_70 rfl rfl ?_
        exact aw_iret C (z01 (hI.I.Z d (by have := hI.n10; omega))) (Nat.le_of_ble_eq_true rfl) (Nat.le_of_ble_eq_true rfl) (OPost.of (by rw [opRevoke, if_neg (by simp [ed]), kd, if_neg (by rintro (z | z); exact z hk; simp [z] at c21), show b2i (!decide (u.1 27 d = 0) || t) = 1 from (by rw [decide_eq_false (show ¬ u.1 27 d = 0 from c55)]; rfl)]) (CR.ps hS2 hF2 ⟨rfl, rfl, rfl, rfl, rfl⟩ rfl rfl)) dX8_revoke_72
      · refine aw_iload_n C dX8_revoke_58 rfl rfl rfl ?_
        refine aw_if_eq (tgt := 66) C dX8_revoke_59 (by decide) rfl (fun c59 => ?_) (fun c59 => ?_)
        · have c59 := fa_of c59
          refine aw_iconst (v := 0) C dX8_revoke_66 rfl rfl ?_
          refine cw_put (uI (uI u 26 d 1) 27 d 0) C hS1 hF1 ⟨rfl, rfl, rfl, rfl, rfl⟩ f_X8_274 rfl (cel_7 hd hk) (by rw [cel_7 (u := (uI (uI u 26 d 1) 27 d 0)) hd hk, nset27] <;> rfl) (cel_u7 (hI.P.u (by decide)) hI.W rfl (by decide) rfl) rfl rfl rfl (Nat.le_of_ble_eq_true rfl) dX8_revoke_67 rfl (fun s2 hS2 hF2 => ?_)
          refine aw_iload C dX8_revoke_70 rfl rfl ?_
          exact aw_iret C (z01 (hI.I.Z d (by have := hI.n10; omega))) (Nat.le_of_ble_eq_true rfl) (Nat.le_of_ble_eq_true rfl) (OPost.of (by rw [opRevoke, if_neg (by simp [ed]), kd, if_neg (by rintro (z | z); exact z hk; simp [z] at c21), show b2i (!decide (u.1 27 d = 0) || t) = 0 from (by rw [c59, decide_eq_true (show u.1 27 d = 0 from c55)]; rfl)]) (CR.ps hS2 hF2 ⟨rfl, rfl, rfl, rfl, rfl⟩ rfl rfl)) dX8_revoke_72
        · have c59 := tr_of c59
          refine aw_iconst (v := 1) C dX8_revoke_62 rfl rfl ?_
          refine aw_goto (tgt := 67) C dX8_revoke_63 (by decide) ?_
          refine cw_put (uI (uI u 26 d 1) 27 d 1) C hS1 hF1 ⟨rfl, rfl, rfl, rfl, rfl⟩ f_X8_274 rfl (cel_7 hd hk) (by rw [cel_7 (u := (uI (uI u 26 d 1) 27 d 1)) hd hk, nset27] <;> rfl) (cel_u7 (hI.P.u (by decide)) hI.W rfl (by decide) rfl) rfl rfl rfl (Nat.le_of_ble_eq_true rfl) dX8_revoke_67 rfl (fun s2 hS2 hF2 => ?_)
          refine aw_iload C dX8_revoke_70 rfl rfl ?_
          exact aw_iret C (z01 (hI.I.Z d (by have := hI.n10; omega))) (Nat.le_of_ble_eq_true rfl) (Nat.le_of_ble_eq_true rfl) (OPost.of (by rw [opRevoke, if_neg (by simp [ed]), kd, if_neg (by rintro (z | z); exact z hk; simp [z] at c21), show b2i (!decide (u.1 27 d = 0) || t) = 1 from (by rw [c59, Bool.or_true]; rfl)]) (CR.ps hS2 hF2 ⟨rfl, rfl, rfl, rfl, rfl⟩ rfl rfl)) dX8_revoke_72
    · have c21 := fa_of c21
      exact aw_thrW C G thS 23 rfl dX8_revoke_24 dX8_revoke_27 dX8_revoke_28 dX8_revoke_31 dX8_revoke_34 hout ⟨by decide, (Nat.le_of_ble_eq_true rfl)⟩ (Nat.le_of_ble_eq_true rfl) (Nat.le_of_ble_eq_true rfl) (OX.of (c := 2) (r := 0) (w := u) (by rw [opRevoke, if_neg (by simp [ed]), kd, if_pos (Or.inr (by simpa using c21))]) (by decide) rfl (CR.rf hS)) (Nat.le_of_ble_eq_true rfl) (Nat.le_of_ble_eq_true rfl)
  · refine aw_astore_n (ls' := [(3, _), (0, _), (1, _), (2, _)]) C dX8_revoke_5 rfl (by decide) rfl rfl ?_
    refine aw_aload_n C dX8_revoke_6 rfl rfl rfl ?_
    refine aw_getf C f_X8_153 (hS.D hd) rfl dX8_revoke_7 rfl ?_
    rw [if_neg hk]
    refine aw_astoreN (ls' := [(4, _), (3, _), (0, _), (1, _), (2, _)]) C dX8_revoke_10 (by decide) rfl rfl ?_
    refine aw_aloadN C dX8_revoke_12 rfl rfl ?_
    refine aw_ifnull (r := none) (tgt := 24) C dX8_revoke_14 (by decide) rfl (fun _ => ?_) (fun _ z => nomatch z)
    exact aw_thrW C G thS 23 rfl dX8_revoke_24 dX8_revoke_27 dX8_revoke_28 dX8_revoke_31 dX8_revoke_34 hout ⟨by decide, (Nat.le_of_ble_eq_true rfl)⟩ (Nat.le_of_ble_eq_true rfl) (Nat.le_of_ble_eq_true rfl) (OX.of (c := 2) (r := 0) (w := u) (by rw [opRevoke, if_neg (by simp [ed]), kd, if_pos (Or.inl hk)]) (by decide) rfl (CR.rf hS)) (Nat.le_of_ble_eq_true rfl) (Nat.le_of_ble_eq_true rfl)
theorem cel_3 {g : Gx} {ez : Nat} {ad : Nat → Nat → Nat} {u : MU} {Y : GS} {p : Nat} (hp : p < u.2.2.1 2) : cel g ez ad u Y 3 p = some (ob 7 (pcl ad u p)) := if_pos hp
theorem pbN_I9 {u : MU} {p i m : Nat} {v : Int32} : pbN (uI u 9 i v) p m = pbN u p m := by
  induction m with
  | zero => rfl
  | succ m ih =>
    rw [pbN, pbN, ih]
    rfl
theorem pset9 {ad : Nat → Nat → Nat} {u : MU} {p : Nat} {v : Int32} : pcl ad (uI u 9 p v) p = (pcl ad u p).set 5 (va_rf (rfo (ad 3) v)) := by
  have e : (uI u 9 p v).1 9 p = v := uI_at
  unfold pcl pbits
  rw [e, pbN_I9]
  rfl
theorem nI_m1n {q : Nat} (h : q < 2 ^ 30) : ¬ nI q = -1 := fun z => by
  have := congrArg Int32.toInt z
  rw [nI_toInt (by omega)] at this
  have h2 : (-1 : Int32).toInt = -1 := by decide
  omega
theorem rfo_q {f : Nat → Nat} {q : Nat} (h : q < 2 ^ 30) : rfo f (nI q) = some (f q) := by rw [rfo_e (nI_m1n h), nI_clamp (by omega)]
set_option maxRecDepth 100000 in
theorem F_guard {g : Gx} {l : Launch} {ez : Nat} (G : GOK g l ez) {sg : Sg} {ad : Nat → Nat → Nat} {u : MU} {Y : GS} (hS : CS g ez ad u Y sg) {N : Nat} (hI : CI N u) {v w : Int32} : MM g l yX8_guard cX8_guard 6 (some .int) (rmC 9 8 60) sg [.ref (ad 0 0), .int v, .int w] (OPost g ez ad u Y sg (opGuard u v w)) (OX g ez ad u Y sg x3 (opGuard u v w)) := by
  refine MM.of G.1 G.2.1 (by decide) (Nat.le_of_ble_eq_true rfl) (fun x hg hlx C hin hout hargs => ?_)
  subst hg; subst hlx
  have C : AWC x cX8_guard 6 RX8 (rmC 9 8 60) (some .int) := C
  show AW x (RQ x _ _ _ _) 0 0 sg 0 [(0, .ref (ad 0 0)), (1, .int v), (2, .int w)] []
  refine aw_aload_n C dX8_guard_0 rfl rfl rfl ?_
  refine aw_iload_n C dX8_guard_1 rfl rfl rfl ?_
  refine aw_callV C k_X8_71 (C_personAt G hS hI (v := v)) ⟨by decide, by decide⟩ (ci := 10) rfl hS.O rfl rfl (Nat.le_of_ble_eq_true rfl) (Nat.le_of_ble_eq_true rfl) (Nat.le_of_ble_eq_true rfl) dX8_guard_2 rfl (fun E s1 hx => ?_) (fun v1 s1 hq => ?_)
  · obtain ⟨rfl, hx, rfl⟩ := hx
    exact ax_out C hout (Nat.le_of_ble_eq_true rfl) (Nat.le_of_ble_eq_true rfl) (OX.of (c := 1) (r := 0) (w := u) (by rw [opGuard, if_pos (Or.inl hx)]) (by decide) rfl (CR.rf hS))
  obtain ⟨p, hp, rfl, rfl, rfl⟩ := hq
  have ep := isP_in hI.W hp
  have kp : (nI p).toNatClampNeg = p := nI_clamp (by have := hI.n2; omega)
  refine aw_astore_n (ls' := [(3, _), (0, _), (1, _), (2, _)]) C dX8_guard_5 rfl (by decide) rfl rfl ?_
  refine aw_iload_n C dX8_guard_6 rfl rfl rfl ?_
  refine aw_iconst (v := -1) C dX8_guard_7 rfl rfl ?_
  refine aw_icmp_ne (tgt := 15) C dX8_guard_8 (by decide) rfl (fun c8 => ?_) (fun c8 => ?_)
  · refine aw_aload_n C dX8_guard_15 rfl rfl rfl ?_
    refine aw_iload_n C dX8_guard_16 rfl rfl rfl ?_
    refine aw_callV C k_X8_71 (C_personAt G hS hI (v := w)) ⟨by decide, by decide⟩ (ci := 10) rfl hS.O rfl rfl (Nat.le_of_ble_eq_true rfl) (Nat.le_of_ble_eq_true rfl) (Nat.le_of_ble_eq_true rfl) dX8_guard_17 rfl (fun E s1 hx => ?_) (fun v1 s1 hq => ?_)
    · obtain ⟨rfl, hx, rfl⟩ := hx
      exact ax_out C hout (Nat.le_of_ble_eq_true rfl) (Nat.le_of_ble_eq_true rfl) (OX.of (c := 1) (r := 0) (w := u) (by rw [opGuard, if_pos (Or.inr ⟨c8, hx⟩)]) (by decide) rfl (CR.rf hS))
    obtain ⟨q, hq, rfl, rfl, rfl⟩ := hq
    have eq := isP_in hI.W hq
    have kq : (nI q).toNatClampNeg = q := nI_clamp (by have := hI.n2; omega)
    refine aw_astore (ls' := [(4, _), (3, _), (0, _), (1, _), (2, _)]) C dX8_guard_20 (by decide) rfl rfl ?_
    have h12 := hI.n2
    refine aw_iload_n C dX8_guard_22 rfl rfl rfl ?_
    refine aw_iload_n C dX8_guard_23 rfl rfl rfl ?_
    refine aw_icmp_ne (tgt := 37) C dX8_guard_24 (by decide) rfl (fun c24 => ?_) (fun c24 => ?_)
    · refine aw_aload_n C dX8_guard_37 rfl rfl rfl ?_
      refine aw_getf C f_X8_96 (hS.P hp) rfl dX8_guard_38 rfl ?_
      refine aw_if_eq (tgt := 57) C dX8_guard_41 (by decide) rfl (fun c41 => ?_) (fun c41 => ?_)
      · have c41 := fa_of c41
        exact aw_thr C G thS 5 rfl dX8_guard_57 dX8_guard_60 dX8_guard_61 dX8_guard_63 dX8_guard_66 hout ⟨by decide, (Nat.le_of_ble_eq_true rfl)⟩ (Nat.le_of_ble_eq_true rfl) (Nat.le_of_ble_eq_true rfl) (OX.of (c := 3) (r := 0) (w := u) (by rw [opGuard, if_neg (by simp [ep, eq]), kp, kq, if_neg c24, if_pos (Or.inl (of_decide_eq_false c41))]) (by decide) rfl (CR.rf hS)) (Nat.le_of_ble_eq_true rfl) (Nat.le_of_ble_eq_true rfl)
      · have c41 := tr_of c41
        refine aw_aload C dX8_guard_44 rfl rfl ?_
        refine aw_ifnull (r := some _) (tgt := 67) C dX8_guard_46 (by decide) rfl (fun z => nomatch z) (fun _ _ => ?_)
        refine aw_aload C dX8_guard_49 rfl rfl ?_
        refine aw_getf C f_X8_96 (hS.P hq) rfl dX8_guard_51 rfl ?_
        refine aw_if_ne (tgt := 67) C dX8_guard_54 (by decide) rfl (fun c54 => ?_) (fun c54 => ?_)
        · have c54 := tr_of c54
          refine aw_aload_n C dX8_guard_67 rfl rfl rfl ?_
          refine aw_getf C f_X8_102 (hS.P hp) rfl dX8_guard_68 rfl ?_
          refine aw_astoreq (ls' := [(5, _), (4, _), (3, _), (0, _), (1, _), (2, _)]) C dX8_guard_71 (by decide) rfl rfl ?_
          refine aw_aload_n C dX8_guard_73 rfl rfl rfl ?_
          refine aw_aload C dX8_guard_74 rfl rfl ?_
          refine cw_put (uI u 9 p (nI q)) C hS CFr.rf SN.rf f_X8_102 rfl (cel_3 hp) (by rw [cel_3 (u := (uI u 9 p (nI q))) hp, pset9, rfo_q (by omega)] <;> rfl) (fun a b hab => cel_uI hI.P hI.W (by decide) (fun z => hab ⟨z.1.symm, z.2.symm⟩)) rfl rfl rfl (Nat.le_of_ble_eq_true rfl) dX8_guard_76 rfl (fun s1 hS1 hF1 => ?_)
          rcases hI.gu hp with h9 | ⟨b, hb, h9⟩
          · rw [h9, rfo_m]
            refine aw_aloadN C dX8_guard_79 rfl rfl ?_
            refine aw_ifnonnull (r := none) (tgt := 88) C dX8_guard_81 (by decide) rfl (fun _ z => nomatch z) (fun _ => ?_)
            refine aw_iconst (v := -1) C dX8_guard_84 rfl rfl ?_
            refine aw_goto (tgt := 93) C dX8_guard_85 (by decide) ?_
            exact aw_iret C rfl (Nat.le_of_ble_eq_true rfl) (Nat.le_of_ble_eq_true rfl) (OPost.of (by rw [opGuard, if_neg (by simp [ep, eq]), kp, kq, if_neg c24, if_neg (by rintro (z | z); exact z (of_decide_eq_true c41); exact z.2 (of_decide_eq_true c54)), h9]) (CR.ps hS1 hF1 ⟨rfl, rfl, rfl, rfl, rfl⟩ rfl rfl)) dX8_guard_93
          · rw [h9, rfo_q (by omega)]
            refine aw_aload C dX8_guard_79 rfl rfl ?_
            refine aw_ifnonnull (r := some _) (tgt := 88) C dX8_guard_81 (by decide) rfl (fun _ _ => ?_) (fun z => nomatch z)
            refine aw_aload C dX8_guard_88 rfl rfl ?_
            refine aw_getf C f_X8_68 (hS1.P hb) rfl dX8_guard_90 rfl ?_
            exact aw_iret C rfl (Nat.le_of_ble_eq_true rfl) (Nat.le_of_ble_eq_true rfl) (OPost.of (by rw [opGuard, if_neg (by simp [ep, eq]), kp, kq, if_neg c24, if_neg (by rintro (z | z); exact z (of_decide_eq_true c41); exact z.2 (of_decide_eq_true c54)), h9]) (CR.ps hS1 hF1 ⟨rfl, rfl, rfl, rfl, rfl⟩ rfl rfl)) dX8_guard_93
        · have c54 := fa_of c54
          exact aw_thr C G thS 5 rfl dX8_guard_57 dX8_guard_60 dX8_guard_61 dX8_guard_63 dX8_guard_66 hout ⟨by decide, (Nat.le_of_ble_eq_true rfl)⟩ (Nat.le_of_ble_eq_true rfl) (Nat.le_of_ble_eq_true rfl) (OX.of (c := 3) (r := 0) (w := u) (by rw [opGuard, if_neg (by simp [ep, eq]), kp, kq, if_neg c24, if_pos (Or.inr ⟨nI_m1n (by omega), of_decide_eq_false c54⟩)]) (by decide) rfl (CR.rf hS)) (Nat.le_of_ble_eq_true rfl) (Nat.le_of_ble_eq_true rfl)
    · exact aw_thr C G thA 6 rfl dX8_guard_27 dX8_guard_30 dX8_guard_31 dX8_guard_33 dX8_guard_36 hout ⟨by decide, (Nat.le_of_ble_eq_true rfl)⟩ (Nat.le_of_ble_eq_true rfl) (Nat.le_of_ble_eq_true rfl) (OX.of (c := 2) (r := 0) (w := u) (by rw [opGuard, if_neg (by simp [ep, eq]), kp, kq, if_pos c24]) (by decide) rfl (CR.rf hS)) (Nat.le_of_ble_eq_true rfl) (Nat.le_of_ble_eq_true rfl)
  · refine aw_null C dX8_guard_11 rfl ?_
    refine aw_goto (tgt := 20) C dX8_guard_12 (by decide) ?_
    refine aw_astoreN (ls' := [(4, _), (3, _), (0, _), (1, _), (2, _)]) C dX8_guard_20 (by decide) rfl rfl ?_
    have h12 := hI.n2
    subst c8
    refine aw_iload_n C dX8_guard_22 rfl rfl rfl ?_
    refine aw_iload_n C dX8_guard_23 rfl rfl rfl ?_
    refine aw_icmp_ne (tgt := 37) C dX8_guard_24 (by decide) rfl (fun c24 => ?_) (fun c24 => ?_)
    · refine aw_aload_n C dX8_guard_37 rfl rfl rfl ?_
      refine aw_getf C f_X8_96 (hS.P hp) rfl dX8_guard_38 rfl ?_
      refine aw_if_eq (tgt := 57) C dX8_guard_41 (by decide) rfl (fun c41 => ?_) (fun c41 => ?_)
      · have c41 := fa_of c41
        exact aw_thr C G thS 5 rfl dX8_guard_57 dX8_guard_60 dX8_guard_61 dX8_guard_63 dX8_guard_66 hout ⟨by decide, (Nat.le_of_ble_eq_true rfl)⟩ (Nat.le_of_ble_eq_true rfl) (Nat.le_of_ble_eq_true rfl) (OX.of (c := 3) (r := 0) (w := u) (by rw [opGuard, if_neg (by simp [ep]), kp, if_neg c24, if_pos (Or.inl (of_decide_eq_false c41))]) (by decide) rfl (CR.rf hS)) (Nat.le_of_ble_eq_true rfl) (Nat.le_of_ble_eq_true rfl)
      · have c41 := tr_of c41
        refine aw_aloadN C dX8_guard_44 rfl rfl ?_
        refine aw_ifnull (r := none) (tgt := 67) C dX8_guard_46 (by decide) rfl (fun _ => ?_) (fun _ z => nomatch z)
        refine aw_aload_n C dX8_guard_67 rfl rfl rfl ?_
        refine aw_getf C f_X8_102 (hS.P hp) rfl dX8_guard_68 rfl ?_
        refine aw_astoreq (ls' := [(5, _), (4, _), (3, _), (0, _), (1, _), (2, _)]) C dX8_guard_71 (by decide) rfl rfl ?_
        refine aw_aload_n C dX8_guard_73 rfl rfl rfl ?_
        refine aw_aloadN C dX8_guard_74 rfl rfl ?_
        refine cw_put (uI u 9 p (-1)) C hS CFr.rf SN.rf f_X8_102 rfl (cel_3 hp) (by rw [cel_3 (u := (uI u 9 p (-1))) hp, pset9, rfo_m] <;> rfl) (fun a b hab => cel_uI hI.P hI.W (by decide) (fun z => hab ⟨z.1.symm, z.2.symm⟩)) rfl rfl rfl (Nat.le_of_ble_eq_true rfl) dX8_guard_76 rfl (fun s1 hS1 hF1 => ?_)
        rcases hI.gu hp with h9 | ⟨b, hb, h9⟩
        · rw [h9, rfo_m]
          refine aw_aloadN C dX8_guard_79 rfl rfl ?_
          refine aw_ifnonnull (r := none) (tgt := 88) C dX8_guard_81 (by decide) rfl (fun _ z => nomatch z) (fun _ => ?_)
          refine aw_iconst (v := -1) C dX8_guard_84 rfl rfl ?_
          refine aw_goto (tgt := 93) C dX8_guard_85 (by decide) ?_
          exact aw_iret C rfl (Nat.le_of_ble_eq_true rfl) (Nat.le_of_ble_eq_true rfl) (OPost.of (by rw [opGuard, if_neg (by simp [ep]), kp, if_neg c24, if_neg (by rintro (z | z); exact z (of_decide_eq_true c41); exact z.1 rfl), h9]) (CR.ps hS1 hF1 ⟨rfl, rfl, rfl, rfl, rfl⟩ rfl rfl)) dX8_guard_93
        · rw [h9, rfo_q (by omega)]
          refine aw_aload C dX8_guard_79 rfl rfl ?_
          refine aw_ifnonnull (r := some _) (tgt := 88) C dX8_guard_81 (by decide) rfl (fun _ _ => ?_) (fun z => nomatch z)
          refine aw_aload C dX8_guard_88 rfl rfl ?_
          refine aw_getf C f_X8_68 (hS1.P hb) rfl dX8_guard_90 rfl ?_
          exact aw_iret C rfl (Nat.le_of_ble_eq_true rfl) (Nat.le_of_ble_eq_true rfl) (OPost.of (by rw [opGuard, if_neg (by simp [ep]), kp, if_neg c24, if_neg (by rintro (z | z); exact z (of_decide_eq_true c41); exact z.1 rfl), h9]) (CR.ps hS1 hF1 ⟨rfl, rfl, rfl, rfl, rfl⟩ rfl rfl)) dX8_guard_93
    · exact aw_thr C G thA 6 rfl dX8_guard_27 dX8_guard_30 dX8_guard_31 dX8_guard_33 dX8_guard_36 hout ⟨by decide, (Nat.le_of_ble_eq_true rfl)⟩ (Nat.le_of_ble_eq_true rfl) (Nat.le_of_ble_eq_true rfl) (OX.of (c := 2) (r := 0) (w := u) (by rw [opGuard, if_neg (by simp [ep]), kp, if_pos c24]) (by decide) rfl (CR.rf hS)) (Nat.le_of_ble_eq_true rfl) (Nat.le_of_ble_eq_true rfl)
