set_option maxRecDepth 100000 in
theorem M_in {g : Gx} {l : Launch} (hl : l.flags = flags0) (hst : g.Stable) {sg : Sg} {v lo hi : Int32} : MM g l yX9_in cX9_in 3 (some .boolean) (rmM 1) sg [.int v, .int lo, .int hi] (PP sg (.int (b2i (inB v lo hi)))) noX := by
  refine MM.of hl hst (by decide) (Nat.le_of_ble_eq_true rfl) (fun x hg hlx C hin hout hargs => ?_)
  subst hg; subst hlx
  have C : AWC x cX9_in 3 RX9 (rmM 1) (some .boolean) := C
  show AW x (RQ x _ _ _ _) 0 0 sg 0 [(0, .int v), (1, .int lo), (2, .int hi)] []
  refine aw_iload_n C dX9_in_0 rfl rfl rfl ?_
  refine aw_iload_n C dX9_in_1 rfl rfl rfl ?_
  refine aw_icmp_lt (tgt := 14) C dX9_in_2 (by decide) rfl (fun c2 => ?_) (fun c2 => ?_)
  · refine aw_iconst (v := 0) C dX9_in_14 rfl rfl ?_
    exact aw_iret C (by decide) (Nat.le_refl _) (Nat.le_refl _) (PP.of (by simp [inB, b2i, c2])) dX9_in_15
  · refine aw_iload_n C dX9_in_5 rfl rfl rfl ?_
    refine aw_iload_n C dX9_in_6 rfl rfl rfl ?_
    refine aw_icmp_gt (tgt := 14) C dX9_in_7 (by decide) rfl (fun c7 => ?_) (fun c7 => ?_)
    · refine aw_iconst (v := 0) C dX9_in_14 rfl rfl ?_
      exact aw_iret C (by decide) (Nat.le_refl _) (Nat.le_refl _) (PP.of (by simp [inB, b2i, c2, c7])) dX9_in_15
    · refine aw_iconst (v := 1) C dX9_in_10 rfl rfl ?_
      refine aw_goto (tgt := 15) C dX9_in_11 (by decide) ?_
      exact aw_iret C (by decide) (Nat.le_refl _) (Nat.le_refl _) (PP.of (by simp [inB, b2i, c2, c7])) dX9_in_15
set_option maxRecDepth 100000 in
theorem M_isPerson {g : Gx} {l : Launch} (hl : l.flags = flags0) (hst : g.Stable) {ad : Nat → Nat} {th : Int32} {u : MU} {sg : Sg} (hM : MS g ad th u sg) {v : Int32} : MM g l yX9_isPerson cX9_isPerson 2 (some .boolean) (rmM 2) sg [.ref (ad 0), .int v] (PP sg (.int (b2i (isP u v)))) noX := by
  refine MM.of hl hst (by decide) (Nat.le_of_ble_eq_true rfl) (fun x hg hlx C hin hout hargs => ?_)
  subst hg; subst hlx
  have C : AWC x cX9_isPerson 2 RX9 (rmM 2) (some .boolean) := C
  have hF : MF ad sg sg := MF.rf
  show AW x (RQ x _ _ _ _) 0 0 sg 0 [(0, .ref (ad 0)), (1, .int v)] []
  refine aw_iload_n C dX9_isPerson_0 rfl rfl rfl ?_
  refine aw_iconst (v := 0) C dX9_isPerson_1 rfl rfl ?_
  refine aw_aload_n C dX9_isPerson_2 rfl rfl rfl ?_
  refine aw_getf C f_X9_121 hM.1 rfl dX9_isPerson_3 rfl ?_
  refine aw_iconst (v := 1) C dX9_isPerson_6 rfl rfl ?_
  refine aw_isub C dX9_isPerson_7 rfl ?_
  refine mw_callSp C k_X9_124 (M_in hl hst) ⟨by decide, by decide⟩ rfl rfl (Nat.le_of_ble_eq_true rfl) dX9_isPerson_8 rfl ?_
  exact aw_iret C (nrw_b2i _) (Nat.le_refl _) (Nat.le_refl _) (PP.of rfl) dX9_isPerson_11
set_option maxRecDepth 100000 in
theorem M_isDeed {g : Gx} {l : Launch} (hl : l.flags = flags0) (hst : g.Stable) {ad : Nat → Nat} {th : Int32} {u : MU} {sg : Sg} (hM : MS g ad th u sg) {v : Int32} : MM g l yX9_isDeed cX9_isDeed 2 (some .boolean) (rmM 2) sg [.ref (ad 0), .int v] (PP sg (.int (b2i (isDd u v)))) noX := by
  refine MM.of hl hst (by decide) (Nat.le_of_ble_eq_true rfl) (fun x hg hlx C hin hout hargs => ?_)
  subst hg; subst hlx
  have C : AWC x cX9_isDeed 2 RX9 (rmM 2) (some .boolean) := C
  have hF : MF ad sg sg := MF.rf
  show AW x (RQ x _ _ _ _) 0 0 sg 0 [(0, .ref (ad 0)), (1, .int v)] []
  refine aw_iload_n C dX9_isDeed_0 rfl rfl rfl ?_
  refine aw_iconst (v := 0) C dX9_isDeed_1 rfl rfl ?_
  refine aw_aload_n C dX9_isDeed_2 rfl rfl rfl ?_
  refine aw_getf C f_X9_128 hM.1 rfl dX9_isDeed_3 rfl ?_
  refine aw_iconst (v := 1) C dX9_isDeed_6 rfl rfl ?_
  refine aw_isub C dX9_isDeed_7 rfl ?_
  refine mw_callSp C k_X9_124 (M_in hl hst) ⟨by decide, by decide⟩ rfl rfl (Nat.le_of_ble_eq_true rfl) dX9_isDeed_8 rfl ?_
  exact aw_iret C (nrw_b2i _) (Nat.le_refl _) (Nat.le_refl _) (PP.of rfl) dX9_isDeed_11
set_option maxRecDepth 100000 in
theorem M_isThing {g : Gx} {l : Launch} (hl : l.flags = flags0) (hst : g.Stable) {ad : Nat → Nat} {th : Int32} {u : MU} {sg : Sg} (hM : MS g ad th u sg) {v : Int32} : MM g l yX9_isThing cX9_isThing 2 (some .boolean) (rmM 2) sg [.ref (ad 0), .int v] (PP sg (.int (b2i (isTh u v)))) noX := by
  refine MM.of hl hst (by decide) (Nat.le_of_ble_eq_true rfl) (fun x hg hlx C hin hout hargs => ?_)
  subst hg; subst hlx
  have C : AWC x cX9_isThing 2 RX9 (rmM 2) (some .boolean) := C
  have hF : MF ad sg sg := MF.rf
  show AW x (RQ x _ _ _ _) 0 0 sg 0 [(0, .ref (ad 0)), (1, .int v)] []
  refine aw_iload_n C dX9_isThing_0 rfl rfl rfl ?_
  refine aw_iconst (v := 0) C dX9_isThing_1 rfl rfl ?_
  refine aw_aload_n C dX9_isThing_2 rfl rfl rfl ?_
  refine aw_getf C f_X9_131 hM.1 rfl dX9_isThing_3 rfl ?_
  refine aw_iconst (v := 1) C dX9_isThing_6 rfl rfl ?_
  refine aw_isub C dX9_isThing_7 rfl ?_
  refine mw_callSp C k_X9_124 (M_in hl hst) ⟨by decide, by decide⟩ rfl rfl (Nat.le_of_ble_eq_true rfl) dX9_isThing_8 rfl ?_
  exact aw_iret C (nrw_b2i _) (Nat.le_refl _) (Nat.le_refl _) (PP.of rfl) dX9_isThing_11
set_option maxRecDepth 100000 in
theorem M_able {g : Gx} {l : Launch} (hl : l.flags = flags0) (hst : g.Stable) {ad : Nat → Nat} {th : Int32} {u : MU} {sg : Sg} (hM : MS g ad th u sg) {p : Nat} (hp : p < 12) : MM g l yX9_able cX9_able 2 (some .boolean) (rmM 1) sg [.ref (ad 0), .int (nI p)] (PP sg (.int (b2i (able u p)))) noX := by
  refine MM.of hl hst (by decide) (Nat.le_of_ble_eq_true rfl) (fun x hg hlx C hin hout hargs => ?_)
  subst hg; subst hlx
  have C : AWC x cX9_able 2 RX9 (rmM 1) (some .boolean) := C
  have hF : MF ad sg sg := MF.rf
  show AW x (RQ x _ _ _ _) 0 0 sg 0 [(0, .ref (ad 0)), (1, .int (nI p))] []
  refine aw_aload_n C dX9_able_0 rfl rfl rfl ?_
  refine aw_getf C f_X9_20 hM.1 rfl dX9_able_1 rfl ?_
  refine aw_iload_n C dX9_able_4 rfl rfl rfl ?_
  refine mw_zald (k := 6) (N := 12) C hM rfl rfl rfl (by omega) dX9_able_5 rfl ?_
  refine aw_if_ne (tgt := 50) C dX9_able_6 (by decide) rfl (fun c6 => ?_) (fun c6 => ?_)
  · refine aw_iconst (v := 0) C dX9_able_50 rfl rfl ?_
    exact aw_iret C (by decide) (Nat.le_refl _) (Nat.le_refl _) (PP.of (by simp [able, b2i, c6])) dX9_able_51
  · refine aw_aload_n C dX9_able_9 rfl rfl rfl ?_
    refine aw_getf C f_X9_29 hM.1 rfl dX9_able_10 rfl ?_
    refine aw_iload_n C dX9_able_13 rfl rfl rfl ?_
    refine mw_iald (k := 9) (N := 12) C hM rfl rfl rfl (by omega) dX9_able_14 rfl ?_
    refine aw_iconst (v := -1) C dX9_able_15 rfl rfl ?_
    refine aw_icmp_ne (tgt := 50) C dX9_able_16 (by decide) rfl (fun c16 => ?_) (fun c16 => ?_)
    · refine aw_iconst (v := 0) C dX9_able_50 rfl rfl ?_
      exact aw_iret C (by decide) (Nat.le_refl _) (Nat.le_refl _) (PP.of (by simp [able, b2i, c6, c16])) dX9_able_51
    · refine aw_aload_n C dX9_able_19 rfl rfl rfl ?_
      refine aw_getf C f_X9_7 hM.1 rfl dX9_able_20 rfl ?_
      refine aw_iload_n C dX9_able_23 rfl rfl rfl ?_
      refine mw_iald (k := 3) (N := 12) C hM rfl rfl rfl (by omega) dX9_able_24 rfl ?_
      refine aw_aload_n C dX9_able_25 rfl rfl rfl ?_
      refine aw_getf C f_X9_134 hM.1 rfl dX9_able_26 rfl ?_
      refine aw_aload_n C dX9_able_29 rfl rfl rfl ?_
      refine aw_getf C f_X9_13 hM.1 rfl dX9_able_30 rfl ?_
      refine aw_iload_n C dX9_able_33 rfl rfl rfl ?_
      refine mw_iald (k := 4) (N := 12) C hM rfl rfl rfl (by omega) dX9_able_34 rfl ?_
      refine aw_isub C dX9_able_35 rfl ?_
      refine aw_sipush (v := 360) C dX9_able_36 rfl rfl ?_
      refine aw_idiv C dX9_able_39 (by decide) rfl ?_
      refine aw_iadd C dX9_able_40 rfl ?_
      refine aw_bipush (v := 18) C dX9_able_41 rfl rfl ?_
      refine aw_icmp_lt (tgt := 50) C dX9_able_43 (by decide) rfl (fun c43 => ?_) (fun c43 => ?_)
      · refine aw_iconst (v := 0) C dX9_able_50 rfl rfl ?_
        exact aw_iret C (by decide) (Nat.le_refl _) (Nat.le_refl _) (PP.of (by simp [able, b2i, c6, c16, c43])) dX9_able_51
      · refine aw_iconst (v := 1) C dX9_able_46 rfl rfl ?_
        refine aw_goto (tgt := 51) C dX9_able_47 (by decide) ?_
        exact aw_iret C (by decide) (Nat.le_refl _) (Nat.le_refl _) (PP.of (by simp [able, b2i, c6, c16, c43])) dX9_able_51
set_option maxRecDepth 100000 in
theorem M_isOfThing {g : Gx} {l : Launch} (hl : l.flags = flags0) (hst : g.Stable) {ad : Nat → Nat} {th : Int32} {u : MU} {sg : Sg} (hM : MS g ad th u sg) {d : Nat} (hd : d < 60) : MM g l yX9_isOfThing cX9_isOfThing 2 (some .boolean) (rmM 1) sg [.ref (ad 0), .int (nI d)] (PP sg (.int (b2i (isOfT u d)))) noX := by
  refine MM.of hl hst (by decide) (Nat.le_of_ble_eq_true rfl) (fun x hg hlx C hin hout hargs => ?_)
  subst hg; subst hlx
  have C : AWC x cX9_isOfThing 2 RX9 (rmM 1) (some .boolean) := C
  have hF : MF ad sg sg := MF.rf
  show AW x (RQ x _ _ _ _) 0 0 sg 0 [(0, .ref (ad 0)), (1, .int (nI d))] []
  refine aw_aload_n C dX9_isOfThing_0 rfl rfl rfl ?_
  refine aw_getf C f_X9_32 hM.1 rfl dX9_isOfThing_1 rfl ?_
  refine aw_iload_n C dX9_isOfThing_4 rfl rfl rfl ?_
  refine mw_iald (k := 11) (N := 60) C hM rfl rfl rfl (by omega) dX9_isOfThing_5 rfl ?_
  refine aw_iconst (v := 2) C dX9_isOfThing_6 rfl rfl ?_
  refine aw_icmp_gt (tgt := 14) C dX9_isOfThing_7 (by decide) rfl (fun c7 => ?_) (fun c7 => ?_)
  · refine aw_iconst (v := 0) C dX9_isOfThing_14 rfl rfl ?_
    exact aw_iret C (by decide) (Nat.le_refl _) (Nat.le_refl _) (PP.of (by simp [isOfT, b2i, c7])) dX9_isOfThing_15
  · refine aw_iconst (v := 1) C dX9_isOfThing_10 rfl rfl ?_
    refine aw_goto (tgt := 15) C dX9_isOfThing_11 (by decide) ?_
    exact aw_iret C (by decide) (Nat.le_refl _) (Nat.le_refl _) (PP.of (by simp [isOfT, b2i, c7])) dX9_isOfThing_15
set_option maxRecDepth 100000 in
theorem M_hasRoom {g : Gx} {l : Launch} (hl : l.flags = flags0) (hst : g.Stable) {ad : Nat → Nat} {th : Int32} {u : MU} {sg : Sg} (hM : MS g ad th u sg) {a b : Nat} (ha : a < 12) (hb : b < 12) : MM g l yX9_hasRoom cX9_hasRoom 3 (some .boolean) (rmM 1) sg [.ref (ad 0), .int (nI a), .int (nI b)] (PP sg (.int (b2i (hasRoom u a b)))) noX := by
  refine MM.of hl hst (by decide) (Nat.le_of_ble_eq_true rfl) (fun x hg hlx C hin hout hargs => ?_)
  subst hg; subst hlx
  have C : AWC x cX9_hasRoom 3 RX9 (rmM 1) (some .boolean) := C
  have hF : MF ad sg sg := MF.rf
  show AW x (RQ x _ _ _ _) 0 0 sg 0 [(0, .ref (ad 0)), (1, .int (nI a)), (2, .int (nI b))] []
  refine aw_aload_n C dX9_hasRoom_0 rfl rfl rfl ?_
  refine aw_getf C f_X9_128 hM.1 rfl dX9_hasRoom_1 rfl ?_
  refine aw_bipush (v := 60) C dX9_hasRoom_4 rfl rfl ?_
  refine aw_icmp_ge (tgt := 31) C dX9_hasRoom_6 (by decide) rfl (fun c6 => ?_) (fun c6 => ?_)
  · refine aw_iconst (v := 0) C dX9_hasRoom_31 rfl rfl ?_
    exact aw_iret C (by decide) (Nat.le_refl _) (Nat.le_refl _) (PP.of (by simp [hasRoom, b2i, c6])) dX9_hasRoom_32
  · refine aw_aload_n C dX9_hasRoom_9 rfl rfl rfl ?_
    refine aw_getf C f_X9_20 hM.1 rfl dX9_hasRoom_10 rfl ?_
    refine aw_iload_n C dX9_hasRoom_13 rfl rfl rfl ?_
    refine mw_zald (k := 6) (N := 12) C hM rfl rfl rfl (by omega) dX9_hasRoom_14 rfl ?_
    refine aw_if_ne (tgt := 31) C dX9_hasRoom_15 (by decide) rfl (fun c15 => ?_) (fun c15 => ?_)
    · refine aw_iconst (v := 0) C dX9_hasRoom_31 rfl rfl ?_
      exact aw_iret C (by decide) (Nat.le_refl _) (Nat.le_refl _) (PP.of (by simp [hasRoom, b2i, c6, c15])) dX9_hasRoom_32
    · refine aw_aload_n C dX9_hasRoom_18 rfl rfl rfl ?_
      refine aw_getf C f_X9_20 hM.1 rfl dX9_hasRoom_19 rfl ?_
      refine aw_iload_n C dX9_hasRoom_22 rfl rfl rfl ?_
      refine mw_zald (k := 6) (N := 12) C hM rfl rfl rfl (by omega) dX9_hasRoom_23 rfl ?_
      refine aw_if_ne (tgt := 31) C dX9_hasRoom_24 (by decide) rfl (fun c24 => ?_) (fun c24 => ?_)
      · refine aw_iconst (v := 0) C dX9_hasRoom_31 rfl rfl ?_
        exact aw_iret C (by decide) (Nat.le_refl _) (Nat.le_refl _) (PP.of (by simp [hasRoom, b2i, c6, c15, c24])) dX9_hasRoom_32
      · refine aw_iconst (v := 1) C dX9_hasRoom_27 rfl rfl ?_
        refine aw_goto (tgt := 32) C dX9_hasRoom_28 (by decide) ?_
        exact aw_iret C (by decide) (Nat.le_refl _) (Nat.le_refl _) (PP.of (by simp [hasRoom, b2i, c6, c15, c24])) dX9_hasRoom_32
