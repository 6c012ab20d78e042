set_option maxRecDepth 100000 in
theorem M_isHeir {g : Gx} {l : Launch} (hl : l.flags = flags0) (hst : g.Stable) {ad : Nat → Nat} {th : Int32} {u : MU} {sg : Sg} (hM : MS g ad th u sg) (hP : WP u) {p q : Nat} {cb : Bool} (hp : p < 12) (hq : q < 12) : MM g l yX9_isHeir cX9_isHeir 4 (some .boolean) (rmM 2) sg [.ref (ad 0), .int (nI p), .int (nI q), .int (b2i cb)] (PP sg (.int (b2i (isHr u p q cb)))) noX := by
  refine MM.of hl hst (by decide) (Nat.le_of_ble_eq_true rfl) (fun x hg hlx C hin hout hargs => ?_)
  subst hg; subst hlx
  have C : AWC x cX9_isHeir 4 RX9 (rmM 2) (some .boolean) := C
  have hF : MF ad sg sg := MF.rf
  show AW x (RQ x _ _ _ _) 0 0 sg 0 [(0, .ref (ad 0)), (1, .int (nI p)), (2, .int (nI q)), (3, .int (b2i cb))] []
  obtain ⟨mp, hmp, ep⟩ := hP p hp
  obtain ⟨mq, hmq, eq⟩ := hP q hq
  refine aw_aload_n C dX9_isHeir_0 rfl rfl rfl ?_
  refine aw_getf C f_X9_20 hM.1 rfl dX9_isHeir_1 rfl ?_
  refine aw_iload_n C dX9_isHeir_4 rfl rfl rfl ?_
  refine mw_zald (k := 6) (N := 12) C hM rfl rfl rfl (by omega) dX9_isHeir_5 rfl ?_
  refine aw_if_ne (tgt := 38) C dX9_isHeir_6 (by decide) rfl (fun c6 => ?_) (fun c6 => ?_)
  · refine aw_iconst (v := 0) C dX9_isHeir_38 rfl rfl ?_
    exact aw_iret C (by decide) (Nat.le_refl _) (Nat.le_refl _) (PP.of (by simp [isHr, b2i, c6])) dX9_isHeir_39
  · refine aw_iload_n C dX9_isHeir_9 rfl rfl rfl ?_
    refine aw_if_eq (tgt := 25) C dX9_isHeir_10 (by decide) rfl (fun c10 => ?_) (fun c10 => ?_)
    · have c10 := fa_of c10
      refine aw_aload_n C dX9_isHeir_25 rfl rfl rfl ?_
      refine aw_iload_n C dX9_isHeir_26 rfl rfl rfl ?_
      refine aw_iload_n C dX9_isHeir_27 rfl rfl rfl ?_
      refine mw_callVp C k_X9_141 hM (M_isChild hl hst hM hq hmq eq) ⟨by decide, by decide⟩ rfl rfl rfl (Nat.le_of_ble_eq_true rfl) dX9_isHeir_28 rfl ?_
      refine aw_if_eq (tgt := 38) C dX9_isHeir_31 (by decide) rfl (fun c31 => ?_) (fun c31 => ?_)
      · have c31 := fa_of c31
        refine aw_iconst (v := 0) C dX9_isHeir_38 rfl rfl ?_
        exact aw_iret C (by decide) (Nat.le_refl _) (Nat.le_refl _) (PP.of (by simp [isHr, b2i, c6, c10, c31])) dX9_isHeir_39
      · have c31 := tr_of c31
        refine aw_iconst (v := 1) C dX9_isHeir_34 rfl rfl ?_
        refine aw_goto (tgt := 39) C dX9_isHeir_35 (by decide) ?_
        exact aw_iret C (by decide) (Nat.le_refl _) (Nat.le_refl _) (PP.of (by simp [isHr, b2i, c6, c10, c31])) dX9_isHeir_39
    · have c10 := tr_of c10
      refine aw_aload_n C dX9_isHeir_13 rfl rfl rfl ?_
      refine aw_iload_n C dX9_isHeir_14 rfl rfl rfl ?_
      refine aw_iload_n C dX9_isHeir_15 rfl rfl rfl ?_
      refine mw_callVp C k_X9_141 hM (M_isChild hl hst hM hp hmp ep) ⟨by decide, by decide⟩ rfl rfl rfl (Nat.le_of_ble_eq_true rfl) dX9_isHeir_16 rfl ?_
      refine aw_if_eq (tgt := 38) C dX9_isHeir_19 (by decide) rfl (fun c19 => ?_) (fun c19 => ?_)
      · have c19 := fa_of c19
        refine aw_iconst (v := 0) C dX9_isHeir_38 rfl rfl ?_
        exact aw_iret C (by decide) (Nat.le_refl _) (Nat.le_refl _) (PP.of (by simp [isHr, b2i, c6, c10, c19])) dX9_isHeir_39
      · have c19 := tr_of c19
        refine aw_goto (tgt := 34) C dX9_isHeir_22 (by decide) ?_
        refine aw_iconst (v := 1) C dX9_isHeir_34 rfl rfl ?_
        refine aw_goto (tgt := 39) C dX9_isHeir_35 (by decide) ?_
        exact aw_iret C (by decide) (Nat.le_refl _) (Nat.le_refl _) (PP.of (by simp [isHr, b2i, c6, c10, c19])) dX9_isHeir_39
set_option maxRecDepth 100000 in
theorem M_willOf {g : Gx} {l : Launch} (hl : l.flags = flags0) (hst : g.Stable) {ad : Nat → Nat} {th : Int32} {u : MU} {sg : Sg} (hM : MS g ad th u sg) (hN : u.2.2.1 10 ≤ 60) (hD : WD u) {p : Nat} (hp : p < 12) : MM g l yX9_willOf cX9_willOf 5 (some .int) (rmM 1) sg [.ref (ad 0), .int (nI p)] (PP sg (.int (willN u p (u.2.2.1 10)))) noX := by
  refine MM.of hl hst (by decide) (Nat.le_of_ble_eq_true rfl) (fun x hg hlx C hin hout hargs => ?_)
  subst hg; subst hlx
  have C : AWC x cX9_willOf 5 RX9 (rmM 1) (some .int) := C
  have hF : MF ad sg sg := MF.rf
  show AW x (RQ x _ _ _ _) 0 0 sg 0 [(0, .ref (ad 0)), (1, .int (nI p))] []
  have loop : ∀ (r m : Nat), m + r = u.2.2.1 10 → AW x (RQ x (PP sg (.int (willN u p (u.2.2.1 10)))) noX (rmM 1).cells (rmM 1).slots) 0 0 sg 4 [(0, .ref (ad 0)), (1, .int (nI p)), (2, .int (willN u p m)), (3, .int (nI m))] [] := by
    intro r
    induction r with
    | zero =>
      intro m hm
      refine aw_iload_n C dX9_willOf_4 rfl rfl rfl ?_
      refine aw_aload_n C dX9_willOf_5 rfl rfl rfl ?_
      refine aw_getf C f_X9_128 hM.1 rfl dX9_willOf_6 rfl ?_
      refine aw_icmp_ge (tgt := 140) C dX9_willOf_9 (by decide) rfl (fun c9 => ?_) (fun c9 => ?_)
      · refine aw_iload_n C dX9_willOf_140 rfl rfl rfl ?_
        exact aw_iret C rfl (Nat.le_refl _) (Nat.le_refl _) (PP.of (by rw [show m = u.2.2.1 10 by omega])) dX9_willOf_141
      · exact absurd (by rw [nI_leI (by omega) (by omega)]; omega) c9
    | succ r ih =>
      intro m hm
      refine aw_iload_n C dX9_willOf_4 rfl rfl rfl ?_
      refine aw_aload_n C dX9_willOf_5 rfl rfl rfl ?_
      refine aw_getf C f_X9_128 hM.1 rfl dX9_willOf_6 rfl ?_
      refine aw_icmp_ge (tgt := 140) C dX9_willOf_9 (by decide) rfl (fun c9 => ?_) (fun c9 => ?_)
      · exact absurd c9 (by rw [nI_leI (by omega) (by omega)]; omega)
      · obtain ⟨-, b, hb, eb⟩ := hD m (by omega)
        have hbc := clampI (n := b) (by omega)
        refine aw_aload_n C dX9_willOf_12 rfl rfl rfl ?_
        refine aw_getf C f_X9_32 hM.1 rfl dX9_willOf_13 rfl ?_
        refine aw_iload_n C dX9_willOf_16 rfl rfl rfl ?_
        refine mw_iald (k := 11) (N := 60) C hM rfl rfl rfl (by omega) dX9_willOf_17 rfl ?_
        refine aw_iconst (v := 4) C dX9_willOf_18 rfl rfl ?_
        refine aw_icmp_ne (tgt := 70) C dX9_willOf_19 (by decide) rfl (fun c19 => ?_) (fun c19 => ?_)
        · refine aw_iconst (v := 0) C dX9_willOf_70 rfl rfl ?_
          refine aw_istore (ls' := [(4, _), (0, _), (1, _), (2, _), (3, _)]) C dX9_willOf_71 (by decide) rfl rfl ?_
          refine aw_iload C dX9_willOf_73 rfl rfl ?_
          refine aw_if_eq (tgt := 132) C dX9_willOf_75 (by decide) rfl (fun _ => ?_) (fun h => by first | exact absurd h (by decide) | exact absurd (by decide) h)
          refine aw_iload_n C dX9_willOf_132 rfl rfl rfl ?_
          refine aw_istore_n (ls' := [(2, _), (4, _), (0, _), (1, _), (3, _)]) C dX9_willOf_133 rfl (by decide) rfl rfl ?_
          refine aw_iinc (v' := nI (m + 1)) (ls' := [(3, _), (2, _), (4, _), (0, _), (1, _)]) C dX9_willOf_134 rfl (by decide) (nI_1 m) rfl rfl ?_
          refine aw_goto (tgt := 4) C dX9_willOf_137 (by decide) ?_
          refine aw_pick (ls' := [(0, _), (1, _), (2, _), (3, _)]) [3, 4, 1, 0] rfl ?_
          exact (show willN u p (m + 1) = willN u p m by rw [willN, if_neg (by simp [isW, eb, hbc, c19])]) ▸ ih (m + 1) (by omega)
        · refine aw_aload_n C dX9_willOf_22 rfl rfl rfl ?_
          refine aw_getf C f_X9_35 hM.1 rfl dX9_willOf_23 rfl ?_
          refine aw_iload_n C dX9_willOf_26 rfl rfl rfl ?_
          refine mw_iald (k := 12) (N := 60) C hM rfl rfl rfl (by omega) dX9_willOf_27 rfl ?_
          refine aw_iload_n C dX9_willOf_28 rfl rfl rfl ?_
          refine aw_icmp_ne (tgt := 70) C dX9_willOf_29 (by decide) rfl (fun c29 => ?_) (fun c29 => ?_)
          · refine aw_iconst (v := 0) C dX9_willOf_70 rfl rfl ?_
            refine aw_istore (ls' := [(4, _), (0, _), (1, _), (2, _), (3, _)]) C dX9_willOf_71 (by decide) rfl rfl ?_
            refine aw_iload C dX9_willOf_73 rfl rfl ?_
            refine aw_if_eq (tgt := 132) C dX9_willOf_75 (by decide) rfl (fun _ => ?_) (fun h => by first | exact absurd h (by decide) | exact absurd (by decide) h)
            refine aw_iload_n C dX9_willOf_132 rfl rfl rfl ?_
            refine aw_istore_n (ls' := [(2, _), (4, _), (0, _), (1, _), (3, _)]) C dX9_willOf_133 rfl (by decide) rfl rfl ?_
            refine aw_iinc (v' := nI (m + 1)) (ls' := [(3, _), (2, _), (4, _), (0, _), (1, _)]) C dX9_willOf_134 rfl (by decide) (nI_1 m) rfl rfl ?_
            refine aw_goto (tgt := 4) C dX9_willOf_137 (by decide) ?_
            refine aw_pick (ls' := [(0, _), (1, _), (2, _), (3, _)]) [3, 4, 1, 0] rfl ?_
            exact (show willN u p (m + 1) = willN u p m by rw [willN, if_neg (by simp [isW, eb, hbc, c19, c29])]) ▸ ih (m + 1) (by omega)
          · refine aw_aload_n C dX9_willOf_32 rfl rfl rfl ?_
            refine aw_getf C f_X9_65 hM.1 rfl dX9_willOf_33 rfl ?_
            refine aw_iload_n C dX9_willOf_36 rfl rfl rfl ?_
            refine mw_iald (k := 22) (N := 60) C hM rfl rfl rfl (by omega) dX9_willOf_37 rfl ?_
            refine aw_iconst (v := 1) C dX9_willOf_38 rfl rfl ?_
            refine aw_icmp_eq (tgt := 52) C dX9_willOf_39 (by decide) rfl (fun c39 => ?_) (fun c39 => ?_)
            · refine aw_aload_n C dX9_willOf_52 rfl rfl rfl ?_
              refine aw_getf C f_X9_20 hM.1 rfl dX9_willOf_53 rfl ?_
              refine aw_aload_n C dX9_willOf_56 rfl rfl rfl ?_
              refine aw_getf C f_X9_38 hM.1 rfl dX9_willOf_57 rfl ?_
              refine aw_iload_n C dX9_willOf_60 rfl rfl rfl ?_
              refine mw_iald (k := 13) (N := 60) C hM rfl rfl rfl (by omega) dX9_willOf_61 rfl ?_
              refine mw_zald (k := 6) (N := 12) C hM rfl rfl eb hb dX9_willOf_62 rfl ?_
              refine aw_if_ne (tgt := 70) C dX9_willOf_63 (by decide) rfl (fun c63 => ?_) (fun c63 => ?_)
              · refine aw_iconst (v := 0) C dX9_willOf_70 rfl rfl ?_
                refine aw_istore (ls' := [(4, _), (0, _), (1, _), (2, _), (3, _)]) C dX9_willOf_71 (by decide) rfl rfl ?_
                refine aw_iload C dX9_willOf_73 rfl rfl ?_
                refine aw_if_eq (tgt := 132) C dX9_willOf_75 (by decide) rfl (fun _ => ?_) (fun h => by first | exact absurd h (by decide) | exact absurd (by decide) h)
                refine aw_iload_n C dX9_willOf_132 rfl rfl rfl ?_
                refine aw_istore_n (ls' := [(2, _), (4, _), (0, _), (1, _), (3, _)]) C dX9_willOf_133 rfl (by decide) rfl rfl ?_
                refine aw_iinc (v' := nI (m + 1)) (ls' := [(3, _), (2, _), (4, _), (0, _), (1, _)]) C dX9_willOf_134 rfl (by decide) (nI_1 m) rfl rfl ?_
                refine aw_goto (tgt := 4) C dX9_willOf_137 (by decide) ?_
                refine aw_pick (ls' := [(0, _), (1, _), (2, _), (3, _)]) [3, 4, 1, 0] rfl ?_
                exact (show willN u p (m + 1) = willN u p m by rw [willN, if_neg (by simp [isW, eb, hbc, c19, c29, c39, c63])]) ▸ ih (m + 1) (by omega)
              · refine aw_iconst (v := 1) C dX9_willOf_66 rfl rfl ?_
                refine aw_goto (tgt := 71) C dX9_willOf_67 (by decide) ?_
                refine aw_istore (ls' := [(4, _), (0, _), (1, _), (2, _), (3, _)]) C dX9_willOf_71 (by decide) rfl rfl ?_
                refine aw_iload C dX9_willOf_73 rfl rfl ?_
                refine aw_if_eq (tgt := 132) C dX9_willOf_75 (by decide) rfl (fun h => by first | exact absurd h (by decide) | exact absurd (by decide) h) (fun _ => ?_)
                refine aw_iload_n C dX9_willOf_78 rfl rfl rfl ?_
                refine aw_iconst (v := -1) C dX9_willOf_79 rfl rfl ?_
                refine aw_icmp_eq (tgt := 128) C dX9_willOf_80 (by decide) rfl (fun c80 => ?_) (fun c80 => ?_)
                · refine aw_iload_n C dX9_willOf_128 rfl rfl rfl ?_
                  refine aw_goto (tgt := 133) C dX9_willOf_129 (by decide) ?_
                  refine aw_istore_n (ls' := [(2, _), (4, _), (0, _), (1, _), (3, _)]) C dX9_willOf_133 rfl (by decide) rfl rfl ?_
                  refine aw_iinc (v' := nI (m + 1)) (ls' := [(3, _), (2, _), (4, _), (0, _), (1, _)]) C dX9_willOf_134 rfl (by decide) (nI_1 m) rfl rfl ?_
                  refine aw_goto (tgt := 4) C dX9_willOf_137 (by decide) ?_
                  refine aw_pick (ls' := [(0, _), (1, _), (2, _), (3, _)]) [3, 4, 1, 0] rfl ?_
                  exact (show willN u p (m + 1) = nI m by rw [willN, if_pos (by have hi : isW u p m = true := (by simp [isW, eb, hbc, c19, c29, c39, c63]); have hb2 : wBet u m (willN u p m) = true := (by simp [wBet, c80]); rw [hi, hb2]; decide)]) ▸ ih (m + 1) (by omega)
                · obtain ⟨j, hj, ej, -⟩ := (willN_or (u := u) (p := p) m).resolve_left c80
                  have hjc := clampI (n := j) (by omega)
                  refine aw_aload_n C dX9_willOf_83 rfl rfl rfl ?_
                  refine aw_getf C f_X9_65 hM.1 rfl dX9_willOf_84 rfl ?_
                  refine aw_iload_n C dX9_willOf_87 rfl rfl rfl ?_
                  refine mw_iald (k := 22) (N := 60) C hM rfl rfl rfl (by omega) dX9_willOf_88 rfl ?_
                  refine aw_aload_n C dX9_willOf_89 rfl rfl rfl ?_
                  refine aw_getf C f_X9_65 hM.1 rfl dX9_willOf_90 rfl ?_
                  refine aw_iload_n C dX9_willOf_93 rfl rfl rfl ?_
                  refine mw_iald (k := 22) (N := 60) C hM rfl rfl (i := j) ej (by omega) dX9_willOf_94 rfl ?_
                  refine aw_icmp_lt (tgt := 128) C dX9_willOf_95 (by decide) rfl (fun c95 => ?_) (fun c95 => ?_)
                  · refine aw_iload_n C dX9_willOf_128 rfl rfl rfl ?_
                    refine aw_goto (tgt := 133) C dX9_willOf_129 (by decide) ?_
                    refine aw_istore_n (ls' := [(2, _), (4, _), (0, _), (1, _), (3, _)]) C dX9_willOf_133 rfl (by decide) rfl rfl ?_
                    refine aw_iinc (v' := nI (m + 1)) (ls' := [(3, _), (2, _), (4, _), (0, _), (1, _)]) C dX9_willOf_134 rfl (by decide) (nI_1 m) rfl rfl ?_
                    refine aw_goto (tgt := 4) C dX9_willOf_137 (by decide) ?_
                    refine aw_pick (ls' := [(0, _), (1, _), (2, _), (3, _)]) [3, 4, 1, 0] rfl ?_
                    exact (show willN u p (m + 1) = nI m by rw [willN, if_pos (by have h80 : ¬ nI j = -1 := ej ▸ c80; have hi : isW u p m = true := (by simp [isW, eb, hbc, c19, c29, c39, c63]); have hb2 : wBet u m (willN u p m) = true := (by simp [wBet, ej, hjc, h80, c95]); rw [hi, hb2]; decide)]) ▸ ih (m + 1) (by omega)
                  · refine aw_aload_n C dX9_willOf_98 rfl rfl rfl ?_
                    refine aw_getf C f_X9_65 hM.1 rfl dX9_willOf_99 rfl ?_
                    refine aw_iload_n C dX9_willOf_102 rfl rfl rfl ?_
                    refine mw_iald (k := 22) (N := 60) C hM rfl rfl rfl (by omega) dX9_willOf_103 rfl ?_
                    refine aw_aload_n C dX9_willOf_104 rfl rfl rfl ?_
                    refine aw_getf C f_X9_65 hM.1 rfl dX9_willOf_105 rfl ?_
                    refine aw_iload_n C dX9_willOf_108 rfl rfl rfl ?_
                    refine mw_iald (k := 22) (N := 60) C hM rfl rfl (i := j) ej (by omega) dX9_willOf_109 rfl ?_
                    refine aw_icmp_ne (tgt := 132) C dX9_willOf_110 (by decide) rfl (fun c110 => ?_) (fun c110 => ?_)
                    · refine aw_iload_n C dX9_willOf_132 rfl rfl rfl ?_
                      refine aw_istore_n (ls' := [(2, _), (4, _), (0, _), (1, _), (3, _)]) C dX9_willOf_133 rfl (by decide) rfl rfl ?_
                      refine aw_iinc (v' := nI (m + 1)) (ls' := [(3, _), (2, _), (4, _), (0, _), (1, _)]) C dX9_willOf_134 rfl (by decide) (nI_1 m) rfl rfl ?_
                      refine aw_goto (tgt := 4) C dX9_willOf_137 (by decide) ?_
                      refine aw_pick (ls' := [(0, _), (1, _), (2, _), (3, _)]) [3, 4, 1, 0] rfl ?_
                      exact (show willN u p (m + 1) = willN u p m by rw [willN, if_neg (by have h80 : ¬ nI j = -1 := ej ▸ c80; have hi : isW u p m = true := (by simp [isW, eb, hbc, c19, c29, c39, c63]); have hb2 : wBet u m (willN u p m) = false := (by simp [wBet, ej, hjc, h80, c95, c110]); rw [hi, hb2]; decide)]) ▸ ih (m + 1) (by omega)
                    · refine aw_aload_n C dX9_willOf_113 rfl rfl rfl ?_
                      refine aw_getf C f_X9_68 hM.1 rfl dX9_willOf_114 rfl ?_
                      refine aw_iload_n C dX9_willOf_117 rfl rfl rfl ?_
                      refine mw_iald (k := 23) (N := 60) C hM rfl rfl rfl (by omega) dX9_willOf_118 rfl ?_
                      refine aw_aload_n C dX9_willOf_119 rfl rfl rfl ?_
                      refine aw_getf C f_X9_68 hM.1 rfl dX9_willOf_120 rfl ?_
                      refine aw_iload_n C dX9_willOf_123 rfl rfl rfl ?_
                      refine mw_iald (k := 23) (N := 60) C hM rfl rfl (i := j) ej (by omega) dX9_willOf_124 rfl ?_
                      refine aw_icmp_le (tgt := 132) C dX9_willOf_125 (by decide) rfl (fun c125 => ?_) (fun c125 => ?_)
                      · refine aw_iload_n C dX9_willOf_132 rfl rfl rfl ?_
                        refine aw_istore_n (ls' := [(2, _), (4, _), (0, _), (1, _), (3, _)]) C dX9_willOf_133 rfl (by decide) rfl rfl ?_
                        refine aw_iinc (v' := nI (m + 1)) (ls' := [(3, _), (2, _), (4, _), (0, _), (1, _)]) C dX9_willOf_134 rfl (by decide) (nI_1 m) rfl rfl ?_
                        refine aw_goto (tgt := 4) C dX9_willOf_137 (by decide) ?_
                        refine aw_pick (ls' := [(0, _), (1, _), (2, _), (3, _)]) [3, 4, 1, 0] rfl ?_
                        exact (show willN u p (m + 1) = willN u p m by rw [willN, if_neg (by have h80 : ¬ nI j = -1 := ej ▸ c80; have hi : isW u p m = true := (by simp [isW, eb, hbc, c19, c29, c39, c63]); have hb2 : wBet u m (willN u p m) = false := (by simp [wBet, ej, hjc, h80, c95, c110, c125]); rw [hi, hb2]; decide)]) ▸ ih (m + 1) (by omega)
                      · refine aw_iload_n C dX9_willOf_128 rfl rfl rfl ?_
                        refine aw_goto (tgt := 133) C dX9_willOf_129 (by decide) ?_
                        refine aw_istore_n (ls' := [(2, _), (4, _), (0, _), (1, _), (3, _)]) C dX9_willOf_133 rfl (by decide) rfl rfl ?_
                        refine aw_iinc (v' := nI (m + 1)) (ls' := [(3, _), (2, _), (4, _), (0, _), (1, _)]) C dX9_willOf_134 rfl (by decide) (nI_1 m) rfl rfl ?_
                        refine aw_goto (tgt := 4) C dX9_willOf_137 (by decide) ?_
                        refine aw_pick (ls' := [(0, _), (1, _), (2, _), (3, _)]) [3, 4, 1, 0] rfl ?_
                        exact (show willN u p (m + 1) = nI m by rw [willN, if_pos (by have h80 : ¬ nI j = -1 := ej ▸ c80; have hi : isW u p m = true := (by simp [isW, eb, hbc, c19, c29, c39, c63]); have hb2 : wBet u m (willN u p m) = true := (by simp [wBet, ej, hjc, h80, c95, c110, c125]); rw [hi, hb2]; decide)]) ▸ ih (m + 1) (by omega)
            · refine aw_aload_n C dX9_willOf_42 rfl rfl rfl ?_
              refine aw_getf C f_X9_65 hM.1 rfl dX9_willOf_43 rfl ?_
              refine aw_iload_n C dX9_willOf_46 rfl rfl rfl ?_
              refine mw_iald (k := 22) (N := 60) C hM rfl rfl rfl (by omega) dX9_willOf_47 rfl ?_
              refine aw_iconst (v := 2) C dX9_willOf_48 rfl rfl ?_
              refine aw_icmp_ne (tgt := 70) C dX9_willOf_49 (by decide) rfl (fun c49 => ?_) (fun c49 => ?_)
              · refine aw_iconst (v := 0) C dX9_willOf_70 rfl rfl ?_
                refine aw_istore (ls' := [(4, _), (0, _), (1, _), (2, _), (3, _)]) C dX9_willOf_71 (by decide) rfl rfl ?_
                refine aw_iload C dX9_willOf_73 rfl rfl ?_
                refine aw_if_eq (tgt := 132) C dX9_willOf_75 (by decide) rfl (fun _ => ?_) (fun h => by first | exact absurd h (by decide) | exact absurd (by decide) h)
                refine aw_iload_n C dX9_willOf_132 rfl rfl rfl ?_
                refine aw_istore_n (ls' := [(2, _), (4, _), (0, _), (1, _), (3, _)]) C dX9_willOf_133 rfl (by decide) rfl rfl ?_
                refine aw_iinc (v' := nI (m + 1)) (ls' := [(3, _), (2, _), (4, _), (0, _), (1, _)]) C dX9_willOf_134 rfl (by decide) (nI_1 m) rfl rfl ?_
                refine aw_goto (tgt := 4) C dX9_willOf_137 (by decide) ?_
                refine aw_pick (ls' := [(0, _), (1, _), (2, _), (3, _)]) [3, 4, 1, 0] rfl ?_
                exact (show willN u p (m + 1) = willN u p m by rw [willN, if_neg (by simp [isW, eb, hbc, c19, c29, c39, c49])]) ▸ ih (m + 1) (by omega)
              · refine aw_aload_n C dX9_willOf_52 rfl rfl rfl ?_
                refine aw_getf C f_X9_20 hM.1 rfl dX9_willOf_53 rfl ?_
                refine aw_aload_n C dX9_willOf_56 rfl rfl rfl ?_
                refine aw_getf C f_X9_38 hM.1 rfl dX9_willOf_57 rfl ?_
                refine aw_iload_n C dX9_willOf_60 rfl rfl rfl ?_
                refine mw_iald (k := 13) (N := 60) C hM rfl rfl rfl (by omega) dX9_willOf_61 rfl ?_
                refine mw_zald (k := 6) (N := 12) C hM rfl rfl eb hb dX9_willOf_62 rfl ?_
                refine aw_if_ne (tgt := 70) C dX9_willOf_63 (by decide) rfl (fun c63 => ?_) (fun c63 => ?_)
                · refine aw_iconst (v := 0) C dX9_willOf_70 rfl rfl ?_
                  refine aw_istore (ls' := [(4, _), (0, _), (1, _), (2, _), (3, _)]) C dX9_willOf_71 (by decide) rfl rfl ?_
                  refine aw_iload C dX9_willOf_73 rfl rfl ?_
                  refine aw_if_eq (tgt := 132) C dX9_willOf_75 (by decide) rfl (fun _ => ?_) (fun h => by first | exact absurd h (by decide) | exact absurd (by decide) h)
                  refine aw_iload_n C dX9_willOf_132 rfl rfl rfl ?_
                  refine aw_istore_n (ls' := [(2, _), (4, _), (0, _), (1, _), (3, _)]) C dX9_willOf_133 rfl (by decide) rfl rfl ?_
                  refine aw_iinc (v' := nI (m + 1)) (ls' := [(3, _), (2, _), (4, _), (0, _), (1, _)]) C dX9_willOf_134 rfl (by decide) (nI_1 m) rfl rfl ?_
                  refine aw_goto (tgt := 4) C dX9_willOf_137 (by decide) ?_
                  refine aw_pick (ls' := [(0, _), (1, _), (2, _), (3, _)]) [3, 4, 1, 0] rfl ?_
                  exact (show willN u p (m + 1) = willN u p m by rw [willN, if_neg (by simp [isW, eb, hbc, c19, c29, c39, c49, c63])]) ▸ ih (m + 1) (by omega)
                · refine aw_iconst (v := 1) C dX9_willOf_66 rfl rfl ?_
                  refine aw_goto (tgt := 71) C dX9_willOf_67 (by decide) ?_
                  refine aw_istore (ls' := [(4, _), (0, _), (1, _), (2, _), (3, _)]) C dX9_willOf_71 (by decide) rfl rfl ?_
                  refine aw_iload C dX9_willOf_73 rfl rfl ?_
                  refine aw_if_eq (tgt := 132) C dX9_willOf_75 (by decide) rfl (fun h => by first | exact absurd h (by decide) | exact absurd (by decide) h) (fun _ => ?_)
                  refine aw_iload_n C dX9_willOf_78 rfl rfl rfl ?_
                  refine aw_iconst (v := -1) C dX9_willOf_79 rfl rfl ?_
                  refine aw_icmp_eq (tgt := 128) C dX9_willOf_80 (by decide) rfl (fun c80 => ?_) (fun c80 => ?_)
                  · refine aw_iload_n C dX9_willOf_128 rfl rfl rfl ?_
                    refine aw_goto (tgt := 133) C dX9_willOf_129 (by decide) ?_
                    refine aw_istore_n (ls' := [(2, _), (4, _), (0, _), (1, _), (3, _)]) C dX9_willOf_133 rfl (by decide) rfl rfl ?_
                    refine aw_iinc (v' := nI (m + 1)) (ls' := [(3, _), (2, _), (4, _), (0, _), (1, _)]) C dX9_willOf_134 rfl (by decide) (nI_1 m) rfl rfl ?_
                    refine aw_goto (tgt := 4) C dX9_willOf_137 (by decide) ?_
                    refine aw_pick (ls' := [(0, _), (1, _), (2, _), (3, _)]) [3, 4, 1, 0] rfl ?_
                    exact (show willN u p (m + 1) = nI m by rw [willN, if_pos (by have hi : isW u p m = true := (by simp [isW, eb, hbc, c19, c29, c39, c49, c63]); have hb2 : wBet u m (willN u p m) = true := (by simp [wBet, c80]); rw [hi, hb2]; decide)]) ▸ ih (m + 1) (by omega)
                  · obtain ⟨j, hj, ej, -⟩ := (willN_or (u := u) (p := p) m).resolve_left c80
                    have hjc := clampI (n := j) (by omega)
                    refine aw_aload_n C dX9_willOf_83 rfl rfl rfl ?_
                    refine aw_getf C f_X9_65 hM.1 rfl dX9_willOf_84 rfl ?_
                    refine aw_iload_n C dX9_willOf_87 rfl rfl rfl ?_
                    refine mw_iald (k := 22) (N := 60) C hM rfl rfl rfl (by omega) dX9_willOf_88 rfl ?_
                    refine aw_aload_n C dX9_willOf_89 rfl rfl rfl ?_
                    refine aw_getf C f_X9_65 hM.1 rfl dX9_willOf_90 rfl ?_
                    refine aw_iload_n C dX9_willOf_93 rfl rfl rfl ?_
                    refine mw_iald (k := 22) (N := 60) C hM rfl rfl (i := j) ej (by omega) dX9_willOf_94 rfl ?_
                    refine aw_icmp_lt (tgt := 128) C dX9_willOf_95 (by decide) rfl (fun c95 => ?_) (fun c95 => ?_)
                    · refine aw_iload_n C dX9_willOf_128 rfl rfl rfl ?_
                      refine aw_goto (tgt := 133) C dX9_willOf_129 (by decide) ?_
                      refine aw_istore_n (ls' := [(2, _), (4, _), (0, _), (1, _), (3, _)]) C dX9_willOf_133 rfl (by decide) rfl rfl ?_
                      refine aw_iinc (v' := nI (m + 1)) (ls' := [(3, _), (2, _), (4, _), (0, _), (1, _)]) C dX9_willOf_134 rfl (by decide) (nI_1 m) rfl rfl ?_
                      refine aw_goto (tgt := 4) C dX9_willOf_137 (by decide) ?_
                      refine aw_pick (ls' := [(0, _), (1, _), (2, _), (3, _)]) [3, 4, 1, 0] rfl ?_
                      exact (show willN u p (m + 1) = nI m by rw [willN, if_pos (by have h80 : ¬ nI j = -1 := ej ▸ c80; have hi : isW u p m = true := (by simp [isW, eb, hbc, c19, c29, c39, c49, c63]); have hb2 : wBet u m (willN u p m) = true := (by simp [wBet, ej, hjc, h80, c95]); rw [hi, hb2]; decide)]) ▸ ih (m + 1) (by omega)
                    · refine aw_aload_n C dX9_willOf_98 rfl rfl rfl ?_
                      refine aw_getf C f_X9_65 hM.1 rfl dX9_willOf_99 rfl ?_
                      refine aw_iload_n C dX9_willOf_102 rfl rfl rfl ?_
                      refine mw_iald (k := 22) (N := 60) C hM rfl rfl rfl (by omega) dX9_willOf_103 rfl ?_
                      refine aw_aload_n C dX9_willOf_104 rfl rfl rfl ?_
                      refine aw_getf C f_X9_65 hM.1 rfl dX9_willOf_105 rfl ?_
                      refine aw_iload_n C dX9_willOf_108 rfl rfl rfl ?_
                      refine mw_iald (k := 22) (N := 60) C hM rfl rfl (i := j) ej (by omega) dX9_willOf_109 rfl ?_
                      refine aw_icmp_ne (tgt := 132) C dX9_willOf_110 (by decide) rfl (fun c110 => ?_) (fun c110 => ?_)
                      · refine aw_iload_n C dX9_willOf_132 rfl rfl rfl ?_
                        refine aw_istore_n (ls' := [(2, _), (4, _), (0, _), (1, _), (3, _)]) C dX9_willOf_133 rfl (by decide) rfl rfl ?_
                        refine aw_iinc (v' := nI (m + 1)) (ls' := [(3, _), (2, _), (4, _), (0, _), (1, _)]) C dX9_willOf_134 rfl (by decide) (nI_1 m) rfl rfl ?_
                        refine aw_goto (tgt := 4) C dX9_willOf_137 (by decide) ?_
                        refine aw_pick (ls' := [(0, _), (1, _), (2, _), (3, _)]) [3, 4, 1, 0] rfl ?_
                        exact (show willN u p (m + 1) = willN u p m by rw [willN, if_neg (by have h80 : ¬ nI j = -1 := ej ▸ c80; have hi : isW u p m = true := (by simp [isW, eb, hbc, c19, c29, c39, c49, c63]); have hb2 : wBet u m (willN u p m) = false := (by simp [wBet, ej, hjc, h80, c95, c110]); rw [hi, hb2]; decide)]) ▸ ih (m + 1) (by omega)
                      · refine aw_aload_n C dX9_willOf_113 rfl rfl rfl ?_
                        refine aw_getf C f_X9_68 hM.1 rfl dX9_willOf_114 rfl ?_
                        refine aw_iload_n C dX9_willOf_117 rfl rfl rfl ?_
                        refine mw_iald (k := 23) (N := 60) C hM rfl rfl rfl (by omega) dX9_willOf_118 rfl ?_
                        refine aw_aload_n C dX9_willOf_119 rfl rfl rfl ?_
                        refine aw_getf C f_X9_68 hM.1 rfl dX9_willOf_120 rfl ?_
                        refine aw_iload_n C dX9_willOf_123 rfl rfl rfl ?_
                        refine mw_iald (k := 23) (N := 60) C hM rfl rfl (i := j) ej (by omega) dX9_willOf_124 rfl ?_
                        refine aw_icmp_le (tgt := 132) C dX9_willOf_125 (by decide) rfl (fun c125 => ?_) (fun c125 => ?_)
                        · refine aw_iload_n C dX9_willOf_132 rfl rfl rfl ?_
                          refine aw_istore_n (ls' := [(2, _), (4, _), (0, _), (1, _), (3, _)]) C dX9_willOf_133 rfl (by decide) rfl rfl ?_
                          refine aw_iinc (v' := nI (m + 1)) (ls' := [(3, _), (2, _), (4, _), (0, _), (1, _)]) C dX9_willOf_134 rfl (by decide) (nI_1 m) rfl rfl ?_
                          refine aw_goto (tgt := 4) C dX9_willOf_137 (by decide) ?_
                          refine aw_pick (ls' := [(0, _), (1, _), (2, _), (3, _)]) [3, 4, 1, 0] rfl ?_
                          exact (show willN u p (m + 1) = willN u p m by rw [willN, if_neg (by have h80 : ¬ nI j = -1 := ej ▸ c80; have hi : isW u p m = true := (by simp [isW, eb, hbc, c19, c29, c39, c49, c63]); have hb2 : wBet u m (willN u p m) = false := (by simp [wBet, ej, hjc, h80, c95, c110, c125]); rw [hi, hb2]; decide)]) ▸ ih (m + 1) (by omega)
                        · refine aw_iload_n C dX9_willOf_128 rfl rfl rfl ?_
                          refine aw_goto (tgt := 133) C dX9_willOf_129 (by decide) ?_
                          refine aw_istore_n (ls' := [(2, _), (4, _), (0, _), (1, _), (3, _)]) C dX9_willOf_133 rfl (by decide) rfl rfl ?_
                          refine aw_iinc (v' := nI (m + 1)) (ls' := [(3, _), (2, _), (4, _), (0, _), (1, _)]) C dX9_willOf_134 rfl (by decide) (nI_1 m) rfl rfl ?_
                          refine aw_goto (tgt := 4) C dX9_willOf_137 (by decide) ?_
                          refine aw_pick (ls' := [(0, _), (1, _), (2, _), (3, _)]) [3, 4, 1, 0] rfl ?_
                          exact (show willN u p (m + 1) = nI m by rw [willN, if_pos (by have h80 : ¬ nI j = -1 := ej ▸ c80; have hi : isW u p m = true := (by simp [isW, eb, hbc, c19, c29, c39, c49, c63]); have hb2 : wBet u m (willN u p m) = true := (by simp [wBet, ej, hjc, h80, c95, c110, c125]); rw [hi, hb2]; decide)]) ▸ ih (m + 1) (by omega)
  refine aw_iconst (v := -1) C dX9_willOf_0 rfl rfl ?_
  refine aw_istore_n (ls' := [(2, _), (0, _), (1, _)]) C dX9_willOf_1 rfl (by decide) rfl rfl ?_
  refine aw_iconst (v := 0) C dX9_willOf_2 rfl rfl ?_
  refine aw_istore_n (ls' := [(3, _), (2, _), (0, _), (1, _)]) C dX9_willOf_3 rfl (by decide) rfl rfl ?_
  refine aw_pick (ls' := [(0, _), (1, _), (2, _), (3, _)]) [2, 3, 1, 0] rfl ?_
  exact loop (u.2.2.1 10) 0 (by omega)
set_option maxRecDepth 100000 in
theorem M_heirs {g : Gx} {l : Launch} (hl : l.flags = flags0) (hst : g.Stable) {ad : Nat → Nat} {th : Int32} {u : MU} {sg : Sg} (hM : MS g ad th u sg) (hN : u.2.2.1 2 ≤ 12) (hP : WP u) {p : Nat} {cb : Bool} (hp : p < 12) : MM g l yX9_heirs cX9_heirs 5 (some .int) (rmM 3) sg [.ref (ad 0), .int (nI p), .int (b2i cb)] (PP sg (.int (nI (heirN u p cb (u.2.2.1 2))))) noX := by
  refine MM.of hl hst (by decide) (Nat.le_of_ble_eq_true rfl) (fun x hg hlx C hin hout hargs => ?_)
  subst hg; subst hlx
  have C : AWC x cX9_heirs 5 RX9 (rmM 3) (some .int) := C
  have hF : MF ad sg sg := MF.rf
  show AW x (RQ x _ _ _ _) 0 0 sg 0 [(0, .ref (ad 0)), (1, .int (nI p)), (2, .int (b2i cb))] []
  have loop : ∀ (r m : Nat) (z : Int32), m + r = u.2.2.1 2 → z = nI (heirN u p cb m) → AW x (RQ x (PP sg (.int (nI (heirN u p cb (u.2.2.1 2))))) noX (rmM 3).cells (rmM 3).slots) 0 0 sg 5 [(0, .ref (ad 0)), (1, .int (nI p)), (2, .int (b2i cb)), (3, .int z), (4, .int (nI m))] [] := by
    intro r
    induction r with
    | zero =>
      intro m z hm hz
      refine aw_iload C dX9_heirs_5 rfl rfl ?_
      refine aw_aload_n C dX9_heirs_7 rfl rfl rfl ?_
      refine aw_getf C f_X9_121 hM.1 rfl dX9_heirs_8 rfl ?_
      refine aw_icmp_ge (tgt := 45) C dX9_heirs_11 (by decide) rfl (fun c11 => ?_) (fun c11 => ?_)
      · refine aw_iload_n C dX9_heirs_45 rfl rfl rfl ?_
        exact aw_iret C rfl (Nat.le_refl _) (Nat.le_refl _) (PP.of (by rw [hz, show m = u.2.2.1 2 by omega])) dX9_heirs_46
      · exact absurd (by rw [nI_leI (by omega) (by omega)]; omega) c11
    | succ r ih =>
      intro m z hm hz
      refine aw_iload C dX9_heirs_5 rfl rfl ?_
      refine aw_aload_n C dX9_heirs_7 rfl rfl rfl ?_
      refine aw_getf C f_X9_121 hM.1 rfl dX9_heirs_8 rfl ?_
      refine aw_icmp_ge (tgt := 45) C dX9_heirs_11 (by decide) rfl (fun c11 => ?_) (fun c11 => ?_)
      · exact absurd c11 (by rw [nI_leI (by omega) (by omega)]; omega)
      · refine aw_iload_n C dX9_heirs_14 rfl rfl rfl ?_
        refine aw_iload C dX9_heirs_15 rfl rfl ?_
        refine aw_iload_n C dX9_heirs_17 rfl rfl rfl ?_
        refine aw_icmp_eq (tgt := 36) C dX9_heirs_18 (by decide) rfl (fun c18 => ?_) (fun c18 => ?_)
        · refine aw_iconst (v := 0) C dX9_heirs_36 rfl rfl ?_
          refine aw_iadd C dX9_heirs_37 rfl ?_
          refine aw_istore_n (ls' := [(3, _), (0, _), (1, _), (2, _), (4, _)]) C dX9_heirs_38 rfl (by decide) rfl rfl ?_
          refine aw_iinc (v' := nI (m + 1)) (ls' := [(4, _), (3, _), (0, _), (1, _), (2, _)]) C dX9_heirs_39 rfl (by decide) (nI_1 m) rfl rfl ?_
          refine aw_goto (tgt := 5) C dX9_heirs_42 (by decide) ?_
          refine aw_pick (ls' := [(0, _), (1, _), (2, _), (3, _), (4, _)]) [2, 3, 4, 1, 0] rfl ?_
          exact ih (m + 1) _ (by omega) (by rw [hz, heirN, if_neg (fun q => q.1 ((nI_eq (by omega) (by omega)).mp c18))]; exact nI_add _ 0)
        · refine aw_aload_n C dX9_heirs_21 rfl rfl rfl ?_
          refine aw_iload C dX9_heirs_22 rfl rfl ?_
          refine aw_iload_n C dX9_heirs_24 rfl rfl rfl ?_
          refine aw_iload_n C dX9_heirs_25 rfl rfl rfl ?_
          refine mw_callVp C k_X9_224 hM (M_isHeir hl hst hM hP (show m < 12 by omega) hp) ⟨by decide, by decide⟩ rfl rfl rfl (Nat.le_of_ble_eq_true rfl) dX9_heirs_26 rfl ?_
          refine aw_if_eq (tgt := 36) C dX9_heirs_29 (by decide) rfl (fun c29 => ?_) (fun c29 => ?_)
          · have c29 := fa_of c29
            refine aw_iconst (v := 0) C dX9_heirs_36 rfl rfl ?_
            refine aw_iadd C dX9_heirs_37 rfl ?_
            refine aw_istore_n (ls' := [(3, _), (0, _), (1, _), (2, _), (4, _)]) C dX9_heirs_38 rfl (by decide) rfl rfl ?_
            refine aw_iinc (v' := nI (m + 1)) (ls' := [(4, _), (3, _), (0, _), (1, _), (2, _)]) C dX9_heirs_39 rfl (by decide) (nI_1 m) rfl rfl ?_
            refine aw_goto (tgt := 5) C dX9_heirs_42 (by decide) ?_
            refine aw_pick (ls' := [(0, _), (1, _), (2, _), (3, _), (4, _)]) [2, 3, 4, 1, 0] rfl ?_
            exact ih (m + 1) _ (by omega) (by rw [hz, heirN, if_neg (fun q => by rw [c29] at q; cases q.2)]; exact nI_add _ 0)
          · have c29 := tr_of c29
            refine aw_iconst (v := 1) C dX9_heirs_32 rfl rfl ?_
            refine aw_goto (tgt := 37) C dX9_heirs_33 (by decide) ?_
            refine aw_iadd C dX9_heirs_37 rfl ?_
            refine aw_istore_n (ls' := [(3, _), (0, _), (1, _), (2, _), (4, _)]) C dX9_heirs_38 rfl (by decide) rfl rfl ?_
            refine aw_iinc (v' := nI (m + 1)) (ls' := [(4, _), (3, _), (0, _), (1, _), (2, _)]) C dX9_heirs_39 rfl (by decide) (nI_1 m) rfl rfl ?_
            refine aw_goto (tgt := 5) C dX9_heirs_42 (by decide) ?_
            refine aw_pick (ls' := [(0, _), (1, _), (2, _), (3, _), (4, _)]) [2, 3, 4, 1, 0] rfl ?_
            exact ih (m + 1) _ (by omega) (by rw [hz, heirN, if_pos ⟨fun q => c18 (by rw [q]), c29⟩, nI_1])
  refine aw_iconst (v := 0) C dX9_heirs_0 rfl rfl ?_
  refine aw_istore_n (ls' := [(3, _), (0, _), (1, _), (2, _)]) C dX9_heirs_1 rfl (by decide) rfl rfl ?_
  refine aw_iconst (v := 0) C dX9_heirs_2 rfl rfl ?_
  refine aw_istore (ls' := [(4, _), (3, _), (0, _), (1, _), (2, _)]) C dX9_heirs_3 (by decide) rfl rfl ?_
  refine aw_pick (ls' := [(0, _), (1, _), (2, _), (3, _), (4, _)]) [2, 3, 4, 1, 0] rfl ?_
  exact loop (u.2.2.1 2) 0 0 (by omega) rfl
