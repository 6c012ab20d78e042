set_option maxRecDepth 100000 in
theorem M_isGoodAlone {g : Gx} {l : Launch} (hl : l.flags = flags0) (hst : g.Stable) {ad : Nat → Nat} {th : Int32} {u : MU} {sg : Sg} (hM : MS g ad th u sg) (hD : WD u) {d : Nat} (hd : d < 60) : MM g l yX9_isGoodAlone cX9_isGoodAlone 3 (some .boolean) (rmM 1) sg [.ref (ad 0), .int (nI d)] (PP sg (.int (b2i (goodA u d)))) noX := by
  refine MM.of hl hst (by decide) (Nat.le_of_ble_eq_true rfl) (fun x hg hlx C hin hout hargs => ?_)
  subst hg; subst hlx
  have C : AWC x cX9_isGoodAlone 3 RX9 (rmM 1) (some .boolean) := C
  have hF : MF ad sg sg := MF.rf
  show AW x (RQ x _ _ _ _) 0 0 sg 0 [(0, .ref (ad 0)), (1, .int (nI d))] []
  obtain ⟨⟨a, ha, ea⟩, b, hb, eb⟩ := hD d hd
  have hac := clampI (n := a) (by omega)
  have hbc := clampI (n := b) (by omega)
  refine aw_aload_n C dX9_isGoodAlone_0 rfl rfl rfl ?_
  refine aw_getf C f_X9_32 hM.1 rfl dX9_isGoodAlone_1 rfl ?_
  refine aw_iload_n C dX9_isGoodAlone_4 rfl rfl rfl ?_
  refine mw_iald (k := 11) (N := 60) C hM rfl rfl rfl (by omega) dX9_isGoodAlone_5 rfl ?_
  refine aw_iconst (v := 3) C dX9_isGoodAlone_6 rfl rfl ?_
  refine aw_icmp_ne (tgt := 30) C dX9_isGoodAlone_7 (by decide) rfl (fun c7 => ?_) (fun c7 => ?_)
  · refine aw_iconst (v := 0) C dX9_isGoodAlone_30 rfl rfl ?_
    exact aw_iret C (by decide) (Nat.le_refl _) (Nat.le_refl _) (PP.of (by simp [goodA, goodEnd, b2i, ea, hac, c7])) dX9_isGoodAlone_31
  · refine aw_aload_n C dX9_isGoodAlone_10 rfl rfl rfl ?_
    refine aw_getf C f_X9_65 hM.1 rfl dX9_isGoodAlone_11 rfl ?_
    refine aw_iload_n C dX9_isGoodAlone_14 rfl rfl rfl ?_
    refine mw_iald (k := 22) (N := 60) C hM rfl rfl rfl (by omega) dX9_isGoodAlone_15 rfl ?_
    refine aw_iconst (v := 1) C dX9_isGoodAlone_16 rfl rfl ?_
    refine aw_icmp_eq (tgt := 32) C dX9_isGoodAlone_17 (by decide) rfl (fun c17 => ?_) (fun c17 => ?_)
    · refine aw_aload_n C dX9_isGoodAlone_32 rfl rfl rfl ?_
      refine aw_getf C f_X9_65 hM.1 rfl dX9_isGoodAlone_33 rfl ?_
      refine aw_iload_n C dX9_isGoodAlone_36 rfl rfl rfl ?_
      refine mw_iald (k := 22) (N := 60) C hM rfl rfl rfl (by omega) dX9_isGoodAlone_37 rfl ?_
      refine aw_iconst (v := 2) C dX9_isGoodAlone_38 rfl rfl ?_
      refine aw_icmp_ne (tgt := 72) C dX9_isGoodAlone_39 (by decide) rfl (fun c39 => ?_) (fun c39 => ?_)
      · refine aw_aload_n C dX9_isGoodAlone_72 rfl rfl rfl ?_
        refine aw_getf C f_X9_50 hM.1 rfl dX9_isGoodAlone_73 rfl ?_
        refine aw_iload_n C dX9_isGoodAlone_76 rfl rfl rfl ?_
        refine mw_iald (k := 17) (N := 60) C hM rfl rfl rfl (by omega) dX9_isGoodAlone_77 rfl ?_
        refine aw_istore_n (ls' := [(2, _), (0, _), (1, _)]) C dX9_isGoodAlone_78 rfl (by decide) rfl rfl ?_
        refine aw_aload_n C dX9_isGoodAlone_79 rfl rfl rfl ?_
        refine aw_getf C f_X9_134 hM.1 rfl dX9_isGoodAlone_80 rfl ?_
        refine aw_iload_n C dX9_isGoodAlone_83 rfl rfl rfl ?_
        refine aw_icmp_gt (tgt := 123) C dX9_isGoodAlone_84 (by decide) rfl (fun c84 => ?_) (fun c84 => ?_)
        · refine aw_iconst (v := 0) C dX9_isGoodAlone_123 rfl rfl ?_
          exact aw_iret C (by decide) (Nat.le_refl _) (Nat.le_refl _) (PP.of (by simp [goodA, goodEnd, b2i, ea, hac, c7, c17, c39, c84])) dX9_isGoodAlone_124
        · refine aw_aload_n C dX9_isGoodAlone_87 rfl rfl rfl ?_
          refine aw_getf C f_X9_77 hM.1 rfl dX9_isGoodAlone_88 rfl ?_
          refine aw_iload_n C dX9_isGoodAlone_91 rfl rfl rfl ?_
          refine mw_zald (k := 26) (N := 60) C hM rfl rfl rfl (by omega) dX9_isGoodAlone_92 rfl ?_
          refine aw_if_eq (tgt := 105) C dX9_isGoodAlone_93 (by decide) rfl (fun c93 => ?_) (fun c93 => ?_)
          · refine aw_aload_n C dX9_isGoodAlone_105 rfl rfl rfl ?_
            refine aw_getf C f_X9_20 hM.1 rfl dX9_isGoodAlone_106 rfl ?_
            refine aw_aload_n C dX9_isGoodAlone_109 rfl rfl rfl ?_
            refine aw_getf C f_X9_35 hM.1 rfl dX9_isGoodAlone_110 rfl ?_
            refine aw_iload_n C dX9_isGoodAlone_113 rfl rfl rfl ?_
            refine mw_iald (k := 12) (N := 60) C hM rfl rfl rfl (by omega) dX9_isGoodAlone_114 rfl ?_
            refine mw_zald (k := 6) (N := 12) C hM rfl rfl ea ha dX9_isGoodAlone_115 rfl ?_
            refine aw_if_ne (tgt := 123) C dX9_isGoodAlone_116 (by decide) rfl (fun c116 => ?_) (fun c116 => ?_)
            · refine aw_iconst (v := 0) C dX9_isGoodAlone_123 rfl rfl ?_
              exact aw_iret C (by decide) (Nat.le_refl _) (Nat.le_refl _) (PP.of (by simp [goodA, goodEnd, b2i, ea, hac, c7, c17, c39, c84, c93, c116])) dX9_isGoodAlone_124
            · refine aw_iconst (v := 1) C dX9_isGoodAlone_119 rfl rfl ?_
              refine aw_goto (tgt := 124) C dX9_isGoodAlone_120 (by decide) ?_
              exact aw_iret C (by decide) (Nat.le_refl _) (Nat.le_refl _) (PP.of (by simp [goodA, goodEnd, b2i, ea, hac, c7, c17, c39, c84, c93, c116])) dX9_isGoodAlone_124
          · refine aw_aload_n C dX9_isGoodAlone_96 rfl rfl rfl ?_
            refine aw_getf C f_X9_80 hM.1 rfl dX9_isGoodAlone_97 rfl ?_
            refine aw_iload_n C dX9_isGoodAlone_100 rfl rfl rfl ?_
            refine mw_zald (k := 27) (N := 60) C hM rfl rfl rfl (by omega) dX9_isGoodAlone_101 rfl ?_
            refine aw_if_ne (tgt := 123) C dX9_isGoodAlone_102 (by decide) rfl (fun c102 => ?_) (fun c102 => ?_)
            · refine aw_iconst (v := 0) C dX9_isGoodAlone_123 rfl rfl ?_
              exact aw_iret C (by decide) (Nat.le_refl _) (Nat.le_refl _) (PP.of (by simp [goodA, goodEnd, b2i, ea, hac, c7, c17, c39, c84, c93, c102])) dX9_isGoodAlone_124
            · refine aw_aload_n C dX9_isGoodAlone_105 rfl rfl rfl ?_
              refine aw_getf C f_X9_20 hM.1 rfl dX9_isGoodAlone_106 rfl ?_
              refine aw_aload_n C dX9_isGoodAlone_109 rfl rfl rfl ?_
              refine aw_getf C f_X9_35 hM.1 rfl dX9_isGoodAlone_110 rfl ?_
              refine aw_iload_n C dX9_isGoodAlone_113 rfl rfl rfl ?_
              refine mw_iald (k := 12) (N := 60) C hM rfl rfl rfl (by omega) dX9_isGoodAlone_114 rfl ?_
              refine mw_zald (k := 6) (N := 12) C hM rfl rfl ea ha dX9_isGoodAlone_115 rfl ?_
              refine aw_if_ne (tgt := 123) C dX9_isGoodAlone_116 (by decide) rfl (fun c116 => ?_) (fun c116 => ?_)
              · refine aw_iconst (v := 0) C dX9_isGoodAlone_123 rfl rfl ?_
                exact aw_iret C (by decide) (Nat.le_refl _) (Nat.le_refl _) (PP.of (by simp [goodA, goodEnd, b2i, ea, hac, c7, c17, c39, c84, c93, c102, c116])) dX9_isGoodAlone_124
              · refine aw_iconst (v := 1) C dX9_isGoodAlone_119 rfl rfl ?_
                refine aw_goto (tgt := 124) C dX9_isGoodAlone_120 (by decide) ?_
                exact aw_iret C (by decide) (Nat.le_refl _) (Nat.le_refl _) (PP.of (by simp [goodA, goodEnd, b2i, ea, hac, c7, c17, c39, c84, c93, c102, c116])) dX9_isGoodAlone_124
      · exact absurd (c17.symm.trans c39) (by decide)
    · refine aw_aload_n C dX9_isGoodAlone_20 rfl rfl rfl ?_
      refine aw_getf C f_X9_65 hM.1 rfl dX9_isGoodAlone_21 rfl ?_
      refine aw_iload_n C dX9_isGoodAlone_24 rfl rfl rfl ?_
      refine mw_iald (k := 22) (N := 60) C hM rfl rfl rfl (by omega) dX9_isGoodAlone_25 rfl ?_
      refine aw_iconst (v := 2) C dX9_isGoodAlone_26 rfl rfl ?_
      refine aw_icmp_eq (tgt := 32) C dX9_isGoodAlone_27 (by decide) rfl (fun c27 => ?_) (fun c27 => ?_)
      · refine aw_aload_n C dX9_isGoodAlone_32 rfl rfl rfl ?_
        refine aw_getf C f_X9_65 hM.1 rfl dX9_isGoodAlone_33 rfl ?_
        refine aw_iload_n C dX9_isGoodAlone_36 rfl rfl rfl ?_
        refine mw_iald (k := 22) (N := 60) C hM rfl rfl rfl (by omega) dX9_isGoodAlone_37 rfl ?_
        refine aw_iconst (v := 2) C dX9_isGoodAlone_38 rfl rfl ?_
        refine aw_icmp_ne (tgt := 72) C dX9_isGoodAlone_39 (by decide) rfl (fun c39 => ?_) (fun c39 => ?_)
        · exact absurd c27 c39
        · refine aw_aload_n C dX9_isGoodAlone_42 rfl rfl rfl ?_
          refine aw_getf C f_X9_71 hM.1 rfl dX9_isGoodAlone_43 rfl ?_
          refine aw_iload_n C dX9_isGoodAlone_46 rfl rfl rfl ?_
          refine mw_iald (k := 24) (N := 60) C hM rfl rfl rfl (by omega) dX9_isGoodAlone_47 rfl ?_
          refine aw_bipush (v := 30) C dX9_isGoodAlone_48 rfl rfl ?_
          refine aw_iadd C dX9_isGoodAlone_50 rfl ?_
          refine aw_aload_n C dX9_isGoodAlone_51 rfl rfl rfl ?_
          refine aw_getf C f_X9_50 hM.1 rfl dX9_isGoodAlone_52 rfl ?_
          refine aw_iload_n C dX9_isGoodAlone_55 rfl rfl rfl ?_
          refine mw_iald (k := 17) (N := 60) C hM rfl rfl rfl (by omega) dX9_isGoodAlone_56 rfl ?_
          refine aw_icmp_ge (tgt := 72) C dX9_isGoodAlone_57 (by decide) rfl (fun c57 => ?_) (fun c57 => ?_)
          · refine aw_aload_n C dX9_isGoodAlone_72 rfl rfl rfl ?_
            refine aw_getf C f_X9_50 hM.1 rfl dX9_isGoodAlone_73 rfl ?_
            refine aw_iload_n C dX9_isGoodAlone_76 rfl rfl rfl ?_
            refine mw_iald (k := 17) (N := 60) C hM rfl rfl rfl (by omega) dX9_isGoodAlone_77 rfl ?_
            refine aw_istore_n (ls' := [(2, _), (0, _), (1, _)]) C dX9_isGoodAlone_78 rfl (by decide) rfl rfl ?_
            refine aw_aload_n C dX9_isGoodAlone_79 rfl rfl rfl ?_
            refine aw_getf C f_X9_134 hM.1 rfl dX9_isGoodAlone_80 rfl ?_
            refine aw_iload_n C dX9_isGoodAlone_83 rfl rfl rfl ?_
            refine aw_icmp_gt (tgt := 123) C dX9_isGoodAlone_84 (by decide) rfl (fun c84 => ?_) (fun c84 => ?_)
            · refine aw_iconst (v := 0) C dX9_isGoodAlone_123 rfl rfl ?_
              exact aw_iret C (by decide) (Nat.le_refl _) (Nat.le_refl _) (PP.of (by simp [goodA, goodEnd, b2i, ea, hac, c7, c17, c27, c39, c57, c84])) dX9_isGoodAlone_124
            · refine aw_aload_n C dX9_isGoodAlone_87 rfl rfl rfl ?_
              refine aw_getf C f_X9_77 hM.1 rfl dX9_isGoodAlone_88 rfl ?_
              refine aw_iload_n C dX9_isGoodAlone_91 rfl rfl rfl ?_
              refine mw_zald (k := 26) (N := 60) C hM rfl rfl rfl (by omega) dX9_isGoodAlone_92 rfl ?_
              refine aw_if_eq (tgt := 105) C dX9_isGoodAlone_93 (by decide) rfl (fun c93 => ?_) (fun c93 => ?_)
              · refine aw_aload_n C dX9_isGoodAlone_105 rfl rfl rfl ?_
                refine aw_getf C f_X9_20 hM.1 rfl dX9_isGoodAlone_106 rfl ?_
                refine aw_aload_n C dX9_isGoodAlone_109 rfl rfl rfl ?_
                refine aw_getf C f_X9_35 hM.1 rfl dX9_isGoodAlone_110 rfl ?_
                refine aw_iload_n C dX9_isGoodAlone_113 rfl rfl rfl ?_
                refine mw_iald (k := 12) (N := 60) C hM rfl rfl rfl (by omega) dX9_isGoodAlone_114 rfl ?_
                refine mw_zald (k := 6) (N := 12) C hM rfl rfl ea ha dX9_isGoodAlone_115 rfl ?_
                refine aw_if_ne (tgt := 123) C dX9_isGoodAlone_116 (by decide) rfl (fun c116 => ?_) (fun c116 => ?_)
                · refine aw_iconst (v := 0) C dX9_isGoodAlone_123 rfl rfl ?_
                  exact aw_iret C (by decide) (Nat.le_refl _) (Nat.le_refl _) (PP.of (by simp [goodA, goodEnd, b2i, ea, hac, c7, c17, c27, c39, c57, c84, c93, c116])) dX9_isGoodAlone_124
                · refine aw_iconst (v := 1) C dX9_isGoodAlone_119 rfl rfl ?_
                  refine aw_goto (tgt := 124) C dX9_isGoodAlone_120 (by decide) ?_
                  exact aw_iret C (by decide) (Nat.le_refl _) (Nat.le_refl _) (PP.of (by simp [goodA, goodEnd, b2i, ea, hac, c7, c17, c27, c39, c57, c84, c93, c116])) dX9_isGoodAlone_124
              · refine aw_aload_n C dX9_isGoodAlone_96 rfl rfl rfl ?_
                refine aw_getf C f_X9_80 hM.1 rfl dX9_isGoodAlone_97 rfl ?_
                refine aw_iload_n C dX9_isGoodAlone_100 rfl rfl rfl ?_
                refine mw_zald (k := 27) (N := 60) C hM rfl rfl rfl (by omega) dX9_isGoodAlone_101 rfl ?_
                refine aw_if_ne (tgt := 123) C dX9_isGoodAlone_102 (by decide) rfl (fun c102 => ?_) (fun c102 => ?_)
                · refine aw_iconst (v := 0) C dX9_isGoodAlone_123 rfl rfl ?_
                  exact aw_iret C (by decide) (Nat.le_refl _) (Nat.le_refl _) (PP.of (by simp [goodA, goodEnd, b2i, ea, hac, c7, c17, c27, c39, c57, c84, c93, c102])) dX9_isGoodAlone_124
                · refine aw_aload_n C dX9_isGoodAlone_105 rfl rfl rfl ?_
                  refine aw_getf C f_X9_20 hM.1 rfl dX9_isGoodAlone_106 rfl ?_
                  refine aw_aload_n C dX9_isGoodAlone_109 rfl rfl rfl ?_
                  refine aw_getf C f_X9_35 hM.1 rfl dX9_isGoodAlone_110 rfl ?_
                  refine aw_iload_n C dX9_isGoodAlone_113 rfl rfl rfl ?_
                  refine mw_iald (k := 12) (N := 60) C hM rfl rfl rfl (by omega) dX9_isGoodAlone_114 rfl ?_
                  refine mw_zald (k := 6) (N := 12) C hM rfl rfl ea ha dX9_isGoodAlone_115 rfl ?_
                  refine aw_if_ne (tgt := 123) C dX9_isGoodAlone_116 (by decide) rfl (fun c116 => ?_) (fun c116 => ?_)
                  · refine aw_iconst (v := 0) C dX9_isGoodAlone_123 rfl rfl ?_
                    exact aw_iret C (by decide) (Nat.le_refl _) (Nat.le_refl _) (PP.of (by simp [goodA, goodEnd, b2i, ea, hac, c7, c17, c27, c39, c57, c84, c93, c102, c116])) dX9_isGoodAlone_124
                  · refine aw_iconst (v := 1) C dX9_isGoodAlone_119 rfl rfl ?_
                    refine aw_goto (tgt := 124) C dX9_isGoodAlone_120 (by decide) ?_
                    exact aw_iret C (by decide) (Nat.le_refl _) (Nat.le_refl _) (PP.of (by simp [goodA, goodEnd, b2i, ea, hac, c7, c17, c27, c39, c57, c84, c93, c102, c116])) dX9_isGoodAlone_124
          · refine aw_aload_n C dX9_isGoodAlone_60 rfl rfl rfl ?_
            refine aw_getf C f_X9_71 hM.1 rfl dX9_isGoodAlone_61 rfl ?_
            refine aw_iload_n C dX9_isGoodAlone_64 rfl rfl rfl ?_
            refine mw_iald (k := 24) (N := 60) C hM rfl rfl rfl (by omega) dX9_isGoodAlone_65 rfl ?_
            refine aw_bipush (v := 30) C dX9_isGoodAlone_66 rfl rfl ?_
            refine aw_iadd C dX9_isGoodAlone_68 rfl ?_
            refine aw_goto (tgt := 78) C dX9_isGoodAlone_69 (by decide) ?_
            refine aw_istore_n (ls' := [(2, _), (0, _), (1, _)]) C dX9_isGoodAlone_78 rfl (by decide) rfl rfl ?_
            refine aw_aload_n C dX9_isGoodAlone_79 rfl rfl rfl ?_
            refine aw_getf C f_X9_134 hM.1 rfl dX9_isGoodAlone_80 rfl ?_
            refine aw_iload_n C dX9_isGoodAlone_83 rfl rfl rfl ?_
            refine aw_icmp_gt (tgt := 123) C dX9_isGoodAlone_84 (by decide) rfl (fun c84 => ?_) (fun c84 => ?_)
            · refine aw_iconst (v := 0) C dX9_isGoodAlone_123 rfl rfl ?_
              exact aw_iret C (by decide) (Nat.le_refl _) (Nat.le_refl _) (PP.of (by simp [goodA, goodEnd, b2i, ea, hac, c7, c17, c27, c39, c57, c84])) dX9_isGoodAlone_124
            · refine aw_aload_n C dX9_isGoodAlone_87 rfl rfl rfl ?_
              refine aw_getf C f_X9_77 hM.1 rfl dX9_isGoodAlone_88 rfl ?_
              refine aw_iload_n C dX9_isGoodAlone_91 rfl rfl rfl ?_
              refine mw_zald (k := 26) (N := 60) C hM rfl rfl rfl (by omega) dX9_isGoodAlone_92 rfl ?_
              refine aw_if_eq (tgt := 105) C dX9_isGoodAlone_93 (by decide) rfl (fun c93 => ?_) (fun c93 => ?_)
              · refine aw_aload_n C dX9_isGoodAlone_105 rfl rfl rfl ?_
                refine aw_getf C f_X9_20 hM.1 rfl dX9_isGoodAlone_106 rfl ?_
                refine aw_aload_n C dX9_isGoodAlone_109 rfl rfl rfl ?_
                refine aw_getf C f_X9_35 hM.1 rfl dX9_isGoodAlone_110 rfl ?_
                refine aw_iload_n C dX9_isGoodAlone_113 rfl rfl rfl ?_
                refine mw_iald (k := 12) (N := 60) C hM rfl rfl rfl (by omega) dX9_isGoodAlone_114 rfl ?_
                refine mw_zald (k := 6) (N := 12) C hM rfl rfl ea ha dX9_isGoodAlone_115 rfl ?_
                refine aw_if_ne (tgt := 123) C dX9_isGoodAlone_116 (by decide) rfl (fun c116 => ?_) (fun c116 => ?_)
                · refine aw_iconst (v := 0) C dX9_isGoodAlone_123 rfl rfl ?_
                  exact aw_iret C (by decide) (Nat.le_refl _) (Nat.le_refl _) (PP.of (by simp [goodA, goodEnd, b2i, ea, hac, c7, c17, c27, c39, c57, c84, c93, c116])) dX9_isGoodAlone_124
                · refine aw_iconst (v := 1) C dX9_isGoodAlone_119 rfl rfl ?_
                  refine aw_goto (tgt := 124) C dX9_isGoodAlone_120 (by decide) ?_
                  exact aw_iret C (by decide) (Nat.le_refl _) (Nat.le_refl _) (PP.of (by simp [goodA, goodEnd, b2i, ea, hac, c7, c17, c27, c39, c57, c84, c93, c116])) dX9_isGoodAlone_124
              · refine aw_aload_n C dX9_isGoodAlone_96 rfl rfl rfl ?_
                refine aw_getf C f_X9_80 hM.1 rfl dX9_isGoodAlone_97 rfl ?_
                refine aw_iload_n C dX9_isGoodAlone_100 rfl rfl rfl ?_
                refine mw_zald (k := 27) (N := 60) C hM rfl rfl rfl (by omega) dX9_isGoodAlone_101 rfl ?_
                refine aw_if_ne (tgt := 123) C dX9_isGoodAlone_102 (by decide) rfl (fun c102 => ?_) (fun c102 => ?_)
                · refine aw_iconst (v := 0) C dX9_isGoodAlone_123 rfl rfl ?_
                  exact aw_iret C (by decide) (Nat.le_refl _) (Nat.le_refl _) (PP.of (by simp [goodA, goodEnd, b2i, ea, hac, c7, c17, c27, c39, c57, c84, c93, c102])) dX9_isGoodAlone_124
                · refine aw_aload_n C dX9_isGoodAlone_105 rfl rfl rfl ?_
                  refine aw_getf C f_X9_20 hM.1 rfl dX9_isGoodAlone_106 rfl ?_
                  refine aw_aload_n C dX9_isGoodAlone_109 rfl rfl rfl ?_
                  refine aw_getf C f_X9_35 hM.1 rfl dX9_isGoodAlone_110 rfl ?_
                  refine aw_iload_n C dX9_isGoodAlone_113 rfl rfl rfl ?_
                  refine mw_iald (k := 12) (N := 60) C hM rfl rfl rfl (by omega) dX9_isGoodAlone_114 rfl ?_
                  refine mw_zald (k := 6) (N := 12) C hM rfl rfl ea ha dX9_isGoodAlone_115 rfl ?_
                  refine aw_if_ne (tgt := 123) C dX9_isGoodAlone_116 (by decide) rfl (fun c116 => ?_) (fun c116 => ?_)
                  · refine aw_iconst (v := 0) C dX9_isGoodAlone_123 rfl rfl ?_
                    exact aw_iret C (by decide) (Nat.le_refl _) (Nat.le_refl _) (PP.of (by simp [goodA, goodEnd, b2i, ea, hac, c7, c17, c27, c39, c57, c84, c93, c102, c116])) dX9_isGoodAlone_124
                  · refine aw_iconst (v := 1) C dX9_isGoodAlone_119 rfl rfl ?_
                    refine aw_goto (tgt := 124) C dX9_isGoodAlone_120 (by decide) ?_
                    exact aw_iret C (by decide) (Nat.le_refl _) (Nat.le_refl _) (PP.of (by simp [goodA, goodEnd, b2i, ea, hac, c7, c17, c27, c39, c57, c84, c93, c102, c116])) dX9_isGoodAlone_124
      · refine aw_iconst (v := 0) C dX9_isGoodAlone_30 rfl rfl ?_
        exact aw_iret C (by decide) (Nat.le_refl _) (Nat.le_refl _) (PP.of (by simp [goodA, goodEnd, b2i, ea, hac, c7, c17, c27])) dX9_isGoodAlone_31
set_option maxRecDepth 100000 in
theorem M_good {g : Gx} {l : Launch} (hl : l.flags = flags0) (hst : g.Stable) {ad : Nat → Nat} {th : Int32} {u : MU} {sg : Sg} (hM : MS g ad th u sg) (hD : WD u) (hB : WB u) {d : Nat} (hd : d < 60) : MM g l yX9_good cX9_good 4 (some .boolean) (rmM 2) sg [.ref (ad 0), .int (nI d)] (PP sg (.int (b2i (good u d)))) noX := by
  refine MM.of hl hst (by decide) (Nat.le_of_ble_eq_true rfl) (fun x hg hlx C hin hout hargs => ?_)
  subst hg; subst hlx
  have C : AWC x cX9_good 4 RX9 (rmM 2) (some .boolean) := C
  have hF : MF ad sg sg := MF.rf
  show AW x (RQ x _ _ _ _) 0 0 sg 0 [(0, .ref (ad 0)), (1, .int (nI d))] []
  have loop : ∀ (n k : Nat) (b : Bool), k < 60 → nm u k < n → (b = true → ¬ u.1 22 k = 0) → goodC u n k b = good u d → AW x (RQ x (PP sg (.int (b2i (good u d)))) noX (rmM 2).cells (rmM 2).slots) 0 0 sg 8 [(0, .ref (ad 0)), (1, .int (nI d)), (2, .int (nI k)), (3, .int (b2i b))] [] := by
    intro n
    induction n with
    | zero => intro k b hk hn; omega
    | succ n ih =>
      intro k b hk hn hs hg
      refine aw_iload_n C dX9_good_8 rfl rfl rfl ?_
      refine aw_if_eq (tgt := 55) C dX9_good_9 (by decide) rfl (fun c9 => ?_) (fun c9 => ?_)
      · have c9 := fa_of c9
        refine aw_iload_n C dX9_good_55 rfl rfl rfl ?_
        exact aw_iret C (by first | decide | exact nrw_b2i _) (Nat.le_refl _) (Nat.le_refl _) (PP.of (by rw [← hg, goodC]; simp [c9, b2i])) dX9_good_56
      · have c9 := tr_of c9
        refine aw_aload_n C dX9_good_12 rfl rfl rfl ?_
        refine aw_getf C f_X9_56 hM.1 rfl dX9_good_13 rfl ?_
        refine aw_iload_n C dX9_good_16 rfl rfl rfl ?_
        refine mw_iald (k := 19) (N := 60) C hM rfl rfl rfl hk dX9_good_17 rfl ?_
        refine aw_iconst (v := -1) C dX9_good_18 rfl rfl ?_
        refine aw_icmp_eq (tgt := 55) C dX9_good_19 (by decide) rfl (fun c19 => ?_) (fun c19 => ?_)
        · refine aw_iload_n C dX9_good_55 rfl rfl rfl ?_
          exact aw_iret C (by first | decide | exact nrw_b2i _) (Nat.le_refl _) (Nat.le_refl _) (PP.of (by rw [← hg, goodC]; simp [c9, c19, b2i])) dX9_good_56
        · obtain ⟨j, hj, ej, hlt⟩ := ((hB k hk).2).resolve_left c19
          have hjl := hlt (hs c9)
          have c19 : ¬ nI j = -1 := by rw [← ej]; exact c19
          refine aw_aload_n C dX9_good_22 rfl rfl rfl ?_
          refine aw_getf C f_X9_56 hM.1 rfl dX9_good_23 rfl ?_
          refine aw_iload_n C dX9_good_26 rfl rfl rfl ?_
          refine mw_iald (k := 19) (N := 60) C hM rfl rfl rfl hk dX9_good_27 rfl ?_
          rw [ej]
          refine aw_istore_n (ls' := [(2, _), (0, _), (1, _), (3, _)]) C dX9_good_28 rfl (by decide) rfl rfl ?_
          refine aw_aload_n C dX9_good_29 rfl rfl rfl ?_
          refine aw_iload_n C dX9_good_30 rfl rfl rfl ?_
          refine mw_callVp C k_X9_159 hM (M_isGoodAlone hl hst hM hD hj) ⟨by decide, by decide⟩ rfl rfl rfl (Nat.le_of_ble_eq_true rfl) dX9_good_31 rfl ?_
          refine aw_if_eq (tgt := 50) C dX9_good_34 (by decide) rfl (fun c34 => ?_) (fun c34 => ?_)
          · have c34 := fa_of c34
            refine aw_iconst (v := 0) C dX9_good_50 rfl rfl ?_
            refine aw_istore_n (ls' := [(3, _), (2, _), (0, _), (1, _)]) C dX9_good_51 rfl (by decide) rfl rfl ?_
            refine aw_goto (tgt := 8) C dX9_good_52 (by decide) ?_
            refine aw_pick (ls' := [(0, _), (1, _), (2, _), (3, _)]) [2, 3, 1, 0] rfl ?_
            exact ih j false hj (by omega) (fun h => by cases h) (by rw [← hg, goodC]; simp [c9, c19, c34, ej, clampI (show j < 2 ^ 31 by omega)])
          · have c34 := tr_of c34
            refine aw_aload_n C dX9_good_37 rfl rfl rfl ?_
            refine aw_getf C f_X9_53 hM.1 rfl dX9_good_38 rfl ?_
            refine aw_iload_n C dX9_good_41 rfl rfl rfl ?_
            refine mw_zald (k := 18) (N := 60) C hM rfl rfl rfl hj dX9_good_42 rfl ?_
            refine aw_if_eq (tgt := 50) C dX9_good_43 (by decide) rfl (fun c43 => ?_) (fun c43 => ?_)
            · refine aw_iconst (v := 0) C dX9_good_50 rfl rfl ?_
              refine aw_istore_n (ls' := [(3, _), (2, _), (0, _), (1, _)]) C dX9_good_51 rfl (by decide) rfl rfl ?_
              refine aw_goto (tgt := 8) C dX9_good_52 (by decide) ?_
              refine aw_pick (ls' := [(0, _), (1, _), (2, _), (3, _)]) [2, 3, 1, 0] rfl ?_
              exact ih j false hj (by omega) (fun h => by cases h) (by rw [← hg, goodC]; simp [c9, c19, c34, c43, ej, clampI (show j < 2 ^ 31 by omega)])
            · refine aw_iconst (v := 1) C dX9_good_46 rfl rfl ?_
              refine aw_goto (tgt := 51) C dX9_good_47 (by decide) ?_
              refine aw_istore_n (ls' := [(3, _), (2, _), (0, _), (1, _)]) C dX9_good_51 rfl (by decide) rfl rfl ?_
              refine aw_goto (tgt := 8) C dX9_good_52 (by decide) ?_
              refine aw_pick (ls' := [(0, _), (1, _), (2, _), (3, _)]) [2, 3, 1, 0] rfl ?_
              exact ih j true hj (by omega) (fun _ => goodA_state c34) (by rw [← hg, goodC]; simp [c9, c19, c34, c43, ej, clampI (show j < 2 ^ 31 by omega)])
  refine aw_iload_n C dX9_good_0 rfl rfl rfl ?_
  refine aw_istore_n (ls' := [(2, _), (0, _), (1, _)]) C dX9_good_1 rfl (by decide) rfl rfl ?_
  refine aw_aload_n C dX9_good_2 rfl rfl rfl ?_
  refine aw_iload_n C dX9_good_3 rfl rfl rfl ?_
  refine mw_callVp C k_X9_159 hM (M_isGoodAlone hl hst hM hD hd) ⟨by decide, by decide⟩ rfl rfl rfl (Nat.le_of_ble_eq_true rfl) dX9_good_4 rfl ?_
  refine aw_istore_n (ls' := [(3, _), (2, _), (0, _), (1, _)]) C dX9_good_7 rfl (by decide) rfl rfl ?_
  refine aw_pick (ls' := [(0, _), (1, _), (2, _), (3, _)]) [2, 3, 1, 0] rfl ?_
  exact loop 61 d (goodA u d) hd (by have := (hB d hd).1; omega) goodA_state rfl
set_option maxRecDepth 100000 in
theorem M_isGuardian {g : Gx} {l : Launch} (hl : l.flags = flags0) (hst : g.Stable) {ad : Nat → Nat} {th : Int32} {u : MU} {sg : Sg} (hM : MS g ad th u sg) {o p : Nat} (ho : o < 12) (hp : p < 12) : MM g l yX9_isGuardian cX9_isGuardian 3 (some .boolean) (rmM 2) sg [.ref (ad 0), .int (nI o), .int (nI p)] (PP sg (.int (b2i (isGuard u o p)))) noX := by
  refine MM.of hl hst (by decide) (Nat.le_of_ble_eq_true rfl) (fun x hg hlx C hin hout hargs => ?_)
  subst hg; subst hlx
  have C : AWC x cX9_isGuardian 3 RX9 (rmM 2) (some .boolean) := C
  have hF : MF ad sg sg := MF.rf
  show AW x (RQ x _ _ _ _) 0 0 sg 0 [(0, .ref (ad 0)), (1, .int (nI o)), (2, .int (nI p))] []
  refine aw_aload_n C dX9_isGuardian_0 rfl rfl rfl ?_
  refine aw_getf C f_X9_20 hM.1 rfl dX9_isGuardian_1 rfl ?_
  refine aw_iload_n C dX9_isGuardian_4 rfl rfl rfl ?_
  refine mw_zald (k := 6) (N := 12) C hM rfl rfl rfl (by omega) dX9_isGuardian_5 rfl ?_
  refine aw_if_ne (tgt := 31) C dX9_isGuardian_6 (by decide) rfl (fun c6 => ?_) (fun c6 => ?_)
  · refine aw_iconst (v := 0) C dX9_isGuardian_31 rfl rfl ?_
    exact aw_iret C (by decide) (Nat.le_refl _) (Nat.le_refl _) (PP.of (by simp [isGuard, b2i, c6])) dX9_isGuardian_32
  · refine aw_aload_n C dX9_isGuardian_9 rfl rfl rfl ?_
    refine aw_getf C f_X9_29 hM.1 rfl dX9_isGuardian_10 rfl ?_
    refine aw_iload_n C dX9_isGuardian_13 rfl rfl rfl ?_
    refine mw_iald (k := 9) (N := 12) C hM rfl rfl rfl (by omega) dX9_isGuardian_14 rfl ?_
    refine aw_iload_n C dX9_isGuardian_15 rfl rfl rfl ?_
    refine aw_icmp_ne (tgt := 31) C dX9_isGuardian_16 (by decide) rfl (fun c16 => ?_) (fun c16 => ?_)
    · refine aw_iconst (v := 0) C dX9_isGuardian_31 rfl rfl ?_
      exact aw_iret C (by decide) (Nat.le_refl _) (Nat.le_refl _) (PP.of (by simp [isGuard, b2i, c6, c16])) dX9_isGuardian_32
    · refine aw_aload_n C dX9_isGuardian_19 rfl rfl rfl ?_
      refine aw_iload_n C dX9_isGuardian_20 rfl rfl rfl ?_
      refine mw_callVp C k_X9_146 hM (M_able hl hst hM ho) ⟨by decide, by decide⟩ rfl rfl rfl (Nat.le_of_ble_eq_true rfl) dX9_isGuardian_21 rfl ?_
      refine aw_if_eq (tgt := 31) C dX9_isGuardian_24 (by decide) rfl (fun c24 => ?_) (fun c24 => ?_)
      · have c24 := fa_of c24
        refine aw_iconst (v := 0) C dX9_isGuardian_31 rfl rfl ?_
        exact aw_iret C (by decide) (Nat.le_refl _) (Nat.le_refl _) (PP.of (by simp [isGuard, b2i, c6, c16, c24])) dX9_isGuardian_32
      · have c24 := tr_of c24
        refine aw_iconst (v := 1) C dX9_isGuardian_27 rfl rfl ?_
        refine aw_goto (tgt := 32) C dX9_isGuardian_28 (by decide) ?_
        exact aw_iret C (by decide) (Nat.le_refl _) (Nat.le_refl _) (PP.of (by simp [isGuard, b2i, c6, c16, c24])) dX9_isGuardian_32
set_option maxRecDepth 100000 in
theorem M_signsBy {g : Gx} {l : Launch} (hl : l.flags = flags0) (hst : g.Stable) {ad : Nat → Nat} {th : Int32} {u : MU} {sg : Sg} (hM : MS g ad th u sg) (hD : WD u) (hB : WB u) {d o p : Nat} {k : Int32} (hd : d < 60) (ho : o < 12) (hp : p < 12) (hk : ¬ k = -1 → ∃ j, j < 60 ∧ k = nI j) : MM g l yX9_signsBy cX9_signsBy 5 (some .boolean) (rmM 3) sg [.ref (ad 0), .int (nI d), .int (nI o), .int (nI p), .int k] (PP sg (.int (b2i (signsBy u d o p k)))) noX := by
  refine MM.of hl hst (by decide) (Nat.le_of_ble_eq_true rfl) (fun x hg hlx C hin hout hargs => ?_)
  subst hg; subst hlx
  have C : AWC x cX9_signsBy 5 RX9 (rmM 3) (some .boolean) := C
  have hF : MF ad sg sg := MF.rf
  show AW x (RQ x _ _ _ _) 0 0 sg 0 [(0, .ref (ad 0)), (1, .int (nI d)), (2, .int (nI o)), (3, .int (nI p)), (4, .int k)] []
  refine aw_iload C dX9_signsBy_0 rfl rfl ?_
  refine aw_iconst (v := -1) C dX9_signsBy_2 rfl rfl ?_
  refine aw_icmp_eq (tgt := 32) C dX9_signsBy_3 (by decide) rfl (fun c3 => ?_) (fun c3 => ?_)
  · refine aw_iconst (v := 0) C dX9_signsBy_32 rfl rfl ?_
    exact aw_iret C (by decide) (Nat.le_refl _) (Nat.le_refl _) (PP.of (by simp [signsBy, b2i, c3])) dX9_signsBy_33
  · obtain ⟨j, hj, rfl⟩ := hk c3
    have hjc := clampI (n := j) (by omega)
    refine aw_aload_n C dX9_signsBy_6 rfl rfl rfl ?_
    refine aw_getf C f_X9_20 hM.1 rfl dX9_signsBy_7 rfl ?_
    refine aw_iload_n C dX9_signsBy_10 rfl rfl rfl ?_
    refine mw_zald (k := 6) (N := 12) C hM rfl rfl rfl (by omega) dX9_signsBy_11 rfl ?_
    refine aw_if_ne (tgt := 32) C dX9_signsBy_12 (by decide) rfl (fun c12 => ?_) (fun c12 => ?_)
    · refine aw_iconst (v := 0) C dX9_signsBy_32 rfl rfl ?_
      exact aw_iret C (by decide) (Nat.le_refl _) (Nat.le_refl _) (PP.of (by simp [signsBy, b2i, c3, c12, hjc])) dX9_signsBy_33
    · refine aw_aload_n C dX9_signsBy_15 rfl rfl rfl ?_
      refine aw_iload_n C dX9_signsBy_16 rfl rfl rfl ?_
      refine mw_callVp C k_X9_146 hM (M_able hl hst hM ho) ⟨by decide, by decide⟩ rfl rfl rfl (Nat.le_of_ble_eq_true rfl) dX9_signsBy_17 rfl ?_
      refine aw_if_eq (tgt := 32) C dX9_signsBy_20 (by decide) rfl (fun c20 => ?_) (fun c20 => ?_)
      · have c20 := fa_of c20
        refine aw_iconst (v := 0) C dX9_signsBy_32 rfl rfl ?_
        exact aw_iret C (by decide) (Nat.le_refl _) (Nat.le_refl _) (PP.of (by simp [signsBy, b2i, c3, c12, c20, hjc])) dX9_signsBy_33
      · have c20 := tr_of c20
        refine aw_aload_n C dX9_signsBy_23 rfl rfl rfl ?_
        refine aw_iload C dX9_signsBy_24 rfl rfl ?_
        refine mw_callVp C k_X9_162 hM (M_good hl hst hM hD hB hj) ⟨by decide, by decide⟩ rfl rfl rfl (Nat.le_of_ble_eq_true rfl) dX9_signsBy_26 rfl ?_
        refine aw_if_ne (tgt := 34) C dX9_signsBy_29 (by decide) rfl (fun c29 => ?_) (fun c29 => ?_)
        · have c29 := tr_of c29
          refine aw_aload_n C dX9_signsBy_34 rfl rfl rfl ?_
          refine aw_getf C f_X9_35 hM.1 rfl dX9_signsBy_35 rfl ?_
          refine aw_iload C dX9_signsBy_38 rfl rfl ?_
          refine mw_iald (k := 12) (N := 60) C hM rfl rfl rfl (by omega) dX9_signsBy_40 rfl ?_
          refine aw_iload_n C dX9_signsBy_41 rfl rfl rfl ?_
          refine aw_icmp_ne (tgt := 87) C dX9_signsBy_42 (by decide) rfl (fun c42 => ?_) (fun c42 => ?_)
          · refine aw_iconst (v := 0) C dX9_signsBy_87 rfl rfl ?_
            exact aw_iret C (by decide) (Nat.le_refl _) (Nat.le_refl _) (PP.of (by simp [signsBy, b2i, c3, c12, c20, c29, c42, hjc])) dX9_signsBy_88
          · refine aw_aload_n C dX9_signsBy_45 rfl rfl rfl ?_
            refine aw_getf C f_X9_38 hM.1 rfl dX9_signsBy_46 rfl ?_
            refine aw_iload C dX9_signsBy_49 rfl rfl ?_
            refine mw_iald (k := 13) (N := 60) C hM rfl rfl rfl (by omega) dX9_signsBy_51 rfl ?_
            refine aw_iload_n C dX9_signsBy_52 rfl rfl rfl ?_
            refine aw_icmp_ne (tgt := 87) C dX9_signsBy_53 (by decide) rfl (fun c53 => ?_) (fun c53 => ?_)
            · refine aw_iconst (v := 0) C dX9_signsBy_87 rfl rfl ?_
              exact aw_iret C (by decide) (Nat.le_refl _) (Nat.le_refl _) (PP.of (by simp [signsBy, b2i, c3, c12, c20, c29, c42, c53, hjc])) dX9_signsBy_88
            · refine aw_aload_n C dX9_signsBy_56 rfl rfl rfl ?_
              refine aw_getf C f_X9_41 hM.1 rfl dX9_signsBy_57 rfl ?_
              refine aw_iload C dX9_signsBy_60 rfl rfl ?_
              refine mw_iald (k := 14) (N := 60) C hM rfl rfl rfl (by omega) dX9_signsBy_62 rfl ?_
              refine aw_iconst (v := -1) C dX9_signsBy_63 rfl rfl ?_
              refine aw_icmp_eq (tgt := 83) C dX9_signsBy_64 (by decide) rfl (fun c64 => ?_) (fun c64 => ?_)
              · refine aw_iconst (v := 1) C dX9_signsBy_83 rfl rfl ?_
                refine aw_goto (tgt := 88) C dX9_signsBy_84 (by decide) ?_
                exact aw_iret C (by decide) (Nat.le_refl _) (Nat.le_refl _) (PP.of (by simp [signsBy, b2i, c3, c12, c20, c29, c42, c53, c64, hjc])) dX9_signsBy_88
              · refine aw_aload_n C dX9_signsBy_67 rfl rfl rfl ?_
                refine aw_getf C f_X9_41 hM.1 rfl dX9_signsBy_68 rfl ?_
                refine aw_iload C dX9_signsBy_71 rfl rfl ?_
                refine mw_iald (k := 14) (N := 60) C hM rfl rfl rfl (by omega) dX9_signsBy_73 rfl ?_
                refine aw_aload_n C dX9_signsBy_74 rfl rfl rfl ?_
                refine aw_getf C f_X9_41 hM.1 rfl dX9_signsBy_75 rfl ?_
                refine aw_iload_n C dX9_signsBy_78 rfl rfl rfl ?_
                refine mw_iald (k := 14) (N := 60) C hM rfl rfl rfl (by omega) dX9_signsBy_79 rfl ?_
                refine aw_icmp_ne (tgt := 87) C dX9_signsBy_80 (by decide) rfl (fun c80 => ?_) (fun c80 => ?_)
                · refine aw_iconst (v := 0) C dX9_signsBy_87 rfl rfl ?_
                  exact aw_iret C (by decide) (Nat.le_refl _) (Nat.le_refl _) (PP.of (by simp [signsBy, b2i, c3, c12, c20, c29, c42, c53, c64, c80, hjc])) dX9_signsBy_88
                · refine aw_iconst (v := 1) C dX9_signsBy_83 rfl rfl ?_
                  refine aw_goto (tgt := 88) C dX9_signsBy_84 (by decide) ?_
                  exact aw_iret C (by decide) (Nat.le_refl _) (Nat.le_refl _) (PP.of (by simp [signsBy, b2i, c3, c12, c20, c29, c42, c53, c64, c80, hjc])) dX9_signsBy_88
        · have c29 := fa_of c29
          refine aw_iconst (v := 0) C dX9_signsBy_32 rfl rfl ?_
          exact aw_iret C (by decide) (Nat.le_refl _) (Nat.le_refl _) (PP.of (by simp [signsBy, b2i, c3, c12, c20, c29, hjc])) dX9_signsBy_33
set_option maxRecDepth 100000 in
theorem M_add {g : Gx} {l : Launch} (hl : l.flags = flags0) (hst : g.Stable) {ad : Nat → Nat} {th : Int32} {u : MU} {sg : Sg} (hM : MS g ad th u sg) (hW : WN u) {v w : Int32} : MM g l yX9_add cX9_add 3 (some .int) (rmM 3) sg [.ref (ad 0), .int v, .int w] (PO g ad sg (opAdd u v w)) noX := by
  refine MM.of hl hst (by decide) (Nat.le_of_ble_eq_true rfl) (fun x hg hlx C hin hout hargs => ?_)
  subst hg; subst hlx
  have C : AWC x cX9_add 3 RX9 (rmM 3) (some .int) := C
  have hF : MF ad sg sg := MF.rf
  show AW x (RQ x _ _ _ _) 0 0 sg 0 [(0, .ref (ad 0)), (1, .int v), (2, .int w)] []
  refine aw_aload_n C dX9_add_0 rfl rfl rfl ?_
  refine aw_aload_n C dX9_add_1 rfl rfl rfl ?_
  refine aw_iload_n C dX9_add_2 rfl rfl rfl ?_
  refine mw_callVp C k_X9_165 hM (M_isDeed hl hst hM) ⟨by decide, by decide⟩ rfl rfl rfl (Nat.le_of_ble_eq_true rfl) dX9_add_3 rfl ?_
  refine aw_if_ne (tgt := 13) C dX9_add_6 (by decide) rfl (fun c6 => ?_) (fun c6 => ?_)
  · have c6 := tr_of c6
    obtain ⟨p, hp, rfl⟩ := isDd_of hW c6
    have hp60 : p < 60 := by have := hW.2.1; omega
    have hpc := clampI (n := p) (by omega)
    refine aw_iload_n C dX9_add_13 rfl rfl rfl ?_
    refine aw_iconst (v := 4) C dX9_add_14 rfl rfl ?_
    refine aw_icmp_eq (tgt := 28) C dX9_add_15 (by decide) rfl (fun c15 => ?_) (fun c15 => ?_)
    · refine aw_aload_n C dX9_add_28 rfl rfl rfl ?_
      refine aw_getf C f_X9_65 hM.1 rfl dX9_add_29 rfl ?_
      refine aw_iload_n C dX9_add_32 rfl rfl rfl ?_
      refine mw_iald (k := 22) (N := 60) C hM rfl rfl rfl (by omega) dX9_add_33 rfl ?_
      refine aw_if_ne (tgt := 48) C dX9_add_34 (by decide) rfl (fun c34 => ?_) (fun c34 => ?_)
      · refine aw_iconst (v := 3) C dX9_add_48 rfl rfl ?_
        refine aw_goto (tgt := 53) C dX9_add_49 (by decide) ?_
        refine mw_put (th' := _) (u' := _) C hM hF f_X9_117 rfl rfl rfl rfl rfl rfl dX9_add_53 rfl (fun sg hM hF => ?_)
        refine aw_aload_n C dX9_add_56 rfl rfl rfl ?_
        refine aw_getf C f_X9_117 hM.1 rfl dX9_add_57 rfl ?_
        refine aw_if_le (tgt := 65) C dX9_add_60 (by decide) rfl (fun h => by first | exact absurd h (by decide) | exact absurd (by decide) h) (fun _ => ?_)
        refine aw_iconst (v := 0) C dX9_add_63 rfl rfl ?_
        exact aw_iret C rfl (Nat.le_refl _) (Nat.le_refl _) (PO.of (by simp [opAdd, uI_I, c6, c15, c34, hpc]) hM hF) dX9_add_64
      · refine aw_aload_n C dX9_add_37 rfl rfl rfl ?_
        refine aw_getf C f_X9_59 hM.1 rfl dX9_add_38 rfl ?_
        refine aw_iload_n C dX9_add_41 rfl rfl rfl ?_
        refine mw_iald (k := 20) (N := 60) C hM rfl rfl rfl (by omega) dX9_add_42 rfl ?_
        refine aw_iload_n C dX9_add_43 rfl rfl rfl ?_
        refine aw_iand C dX9_add_44 rfl ?_
        refine aw_if_le (tgt := 52) C dX9_add_45 (by decide) rfl (fun c45 => ?_) (fun c45 => ?_)
        · refine aw_iconst (v := 0) C dX9_add_52 rfl rfl ?_
          refine mw_put (th' := _) (u' := _) C hM hF f_X9_117 rfl rfl rfl rfl rfl rfl dX9_add_53 rfl (fun sg hM hF => ?_)
          refine aw_aload_n C dX9_add_56 rfl rfl rfl ?_
          refine aw_getf C f_X9_117 hM.1 rfl dX9_add_57 rfl ?_
          refine aw_if_le (tgt := 65) C dX9_add_60 (by decide) rfl (fun _ => ?_) (fun h => by first | exact absurd h (by decide) | exact absurd (by decide) h)
          refine aw_aload_n C dX9_add_65 rfl rfl rfl ?_
          refine aw_getf C f_X9_59 hM.1 rfl dX9_add_66 rfl ?_
          refine aw_iload_n C dX9_add_69 rfl rfl rfl ?_
          refine aw_dup2 C dX9_add_70 rfl rfl rfl ?_
          refine mw_iald (k := 20) (N := 60) C hM rfl rfl rfl (by omega) dX9_add_71 rfl ?_
          refine aw_iload_n C dX9_add_72 rfl rfl rfl ?_
          refine aw_ior C dX9_add_73 rfl ?_
          refine mw_iast (k := 20) (N := 60) C hM hF rfl rfl rfl (by omega) dX9_add_74 rfl (fun sg hM hF => ?_)
          refine aw_aload_n C dX9_add_75 rfl rfl rfl ?_
          refine aw_getf C f_X9_59 hM.1 rfl dX9_add_76 rfl ?_
          refine aw_iload_n C dX9_add_79 rfl rfl rfl ?_
          refine mw_iald (k := 20) (N := 60) C hM rfl rfl rfl (by omega) dX9_add_80 rfl ?_
          exact aw_iret C rfl (Nat.le_refl _) (Nat.le_refl _) (PO.of (by have h45 := c45; simp only [c15] at h45; simp [opAdd, uI_I, c6, c15, c34, h45, hpc]) hM hF) dX9_add_81
        · refine aw_iconst (v := 3) C dX9_add_48 rfl rfl ?_
          refine aw_goto (tgt := 53) C dX9_add_49 (by decide) ?_
          refine mw_put (th' := _) (u' := _) C hM hF f_X9_117 rfl rfl rfl rfl rfl rfl dX9_add_53 rfl (fun sg hM hF => ?_)
          refine aw_aload_n C dX9_add_56 rfl rfl rfl ?_
          refine aw_getf C f_X9_117 hM.1 rfl dX9_add_57 rfl ?_
          refine aw_if_le (tgt := 65) C dX9_add_60 (by decide) rfl (fun h => by first | exact absurd h (by decide) | exact absurd (by decide) h) (fun _ => ?_)
          refine aw_iconst (v := 0) C dX9_add_63 rfl rfl ?_
          exact aw_iret C rfl (Nat.le_refl _) (Nat.le_refl _) (PO.of (by have h45 := c45; simp only [c15] at h45; simp [opAdd, uI_I, c6, c15, c34, h45, hpc]) hM hF) dX9_add_64
    · refine aw_iload_n C dX9_add_18 rfl rfl rfl ?_
      refine aw_bipush (v := 16) C dX9_add_19 rfl rfl ?_
      refine aw_icmp_eq (tgt := 28) C dX9_add_21 (by decide) rfl (fun c21 => ?_) (fun c21 => ?_)
      · refine aw_aload_n C dX9_add_28 rfl rfl rfl ?_
        refine aw_getf C f_X9_65 hM.1 rfl dX9_add_29 rfl ?_
        refine aw_iload_n C dX9_add_32 rfl rfl rfl ?_
        refine mw_iald (k := 22) (N := 60) C hM rfl rfl rfl (by omega) dX9_add_33 rfl ?_
        refine aw_if_ne (tgt := 48) C dX9_add_34 (by decide) rfl (fun c34 => ?_) (fun c34 => ?_)
        · refine aw_iconst (v := 3) C dX9_add_48 rfl rfl ?_
          refine aw_goto (tgt := 53) C dX9_add_49 (by decide) ?_
          refine mw_put (th' := _) (u' := _) C hM hF f_X9_117 rfl rfl rfl rfl rfl rfl dX9_add_53 rfl (fun sg hM hF => ?_)
          refine aw_aload_n C dX9_add_56 rfl rfl rfl ?_
          refine aw_getf C f_X9_117 hM.1 rfl dX9_add_57 rfl ?_
          refine aw_if_le (tgt := 65) C dX9_add_60 (by decide) rfl (fun h => by first | exact absurd h (by decide) | exact absurd (by decide) h) (fun _ => ?_)
          refine aw_iconst (v := 0) C dX9_add_63 rfl rfl ?_
          exact aw_iret C rfl (Nat.le_refl _) (Nat.le_refl _) (PO.of (by simp [opAdd, uI_I, c6, c15, c21, c34, hpc]) hM hF) dX9_add_64
        · refine aw_aload_n C dX9_add_37 rfl rfl rfl ?_
          refine aw_getf C f_X9_59 hM.1 rfl dX9_add_38 rfl ?_
          refine aw_iload_n C dX9_add_41 rfl rfl rfl ?_
          refine mw_iald (k := 20) (N := 60) C hM rfl rfl rfl (by omega) dX9_add_42 rfl ?_
          refine aw_iload_n C dX9_add_43 rfl rfl rfl ?_
          refine aw_iand C dX9_add_44 rfl ?_
          refine aw_if_le (tgt := 52) C dX9_add_45 (by decide) rfl (fun c45 => ?_) (fun c45 => ?_)
          · refine aw_iconst (v := 0) C dX9_add_52 rfl rfl ?_
            refine mw_put (th' := _) (u' := _) C hM hF f_X9_117 rfl rfl rfl rfl rfl rfl dX9_add_53 rfl (fun sg hM hF => ?_)
            refine aw_aload_n C dX9_add_56 rfl rfl rfl ?_
            refine aw_getf C f_X9_117 hM.1 rfl dX9_add_57 rfl ?_
            refine aw_if_le (tgt := 65) C dX9_add_60 (by decide) rfl (fun _ => ?_) (fun h => by first | exact absurd h (by decide) | exact absurd (by decide) h)
            refine aw_aload_n C dX9_add_65 rfl rfl rfl ?_
            refine aw_getf C f_X9_59 hM.1 rfl dX9_add_66 rfl ?_
            refine aw_iload_n C dX9_add_69 rfl rfl rfl ?_
            refine aw_dup2 C dX9_add_70 rfl rfl rfl ?_
            refine mw_iald (k := 20) (N := 60) C hM rfl rfl rfl (by omega) dX9_add_71 rfl ?_
            refine aw_iload_n C dX9_add_72 rfl rfl rfl ?_
            refine aw_ior C dX9_add_73 rfl ?_
            refine mw_iast (k := 20) (N := 60) C hM hF rfl rfl rfl (by omega) dX9_add_74 rfl (fun sg hM hF => ?_)
            refine aw_aload_n C dX9_add_75 rfl rfl rfl ?_
            refine aw_getf C f_X9_59 hM.1 rfl dX9_add_76 rfl ?_
            refine aw_iload_n C dX9_add_79 rfl rfl rfl ?_
            refine mw_iald (k := 20) (N := 60) C hM rfl rfl rfl (by omega) dX9_add_80 rfl ?_
            exact aw_iret C rfl (Nat.le_refl _) (Nat.le_refl _) (PO.of (by have h45 := c45; simp only [c21] at h45; simp [opAdd, uI_I, c6, c15, c21, c34, h45, hpc]) hM hF) dX9_add_81
          · refine aw_iconst (v := 3) C dX9_add_48 rfl rfl ?_
            refine aw_goto (tgt := 53) C dX9_add_49 (by decide) ?_
            refine mw_put (th' := _) (u' := _) C hM hF f_X9_117 rfl rfl rfl rfl rfl rfl dX9_add_53 rfl (fun sg hM hF => ?_)
            refine aw_aload_n C dX9_add_56 rfl rfl rfl ?_
            refine aw_getf C f_X9_117 hM.1 rfl dX9_add_57 rfl ?_
            refine aw_if_le (tgt := 65) C dX9_add_60 (by decide) rfl (fun h => by first | exact absurd h (by decide) | exact absurd (by decide) h) (fun _ => ?_)
            refine aw_iconst (v := 0) C dX9_add_63 rfl rfl ?_
            exact aw_iret C rfl (Nat.le_refl _) (Nat.le_refl _) (PO.of (by have h45 := c45; simp only [c21] at h45; simp [opAdd, uI_I, c6, c15, c21, c34, h45, hpc]) hM hF) dX9_add_64
      · refine aw_iconst (v := 2) C dX9_add_24 rfl rfl ?_
        refine aw_goto (tgt := 53) C dX9_add_25 (by decide) ?_
        refine mw_put (th' := _) (u' := _) C hM hF f_X9_117 rfl rfl rfl rfl rfl rfl dX9_add_53 rfl (fun sg hM hF => ?_)
        refine aw_aload_n C dX9_add_56 rfl rfl rfl ?_
        refine aw_getf C f_X9_117 hM.1 rfl dX9_add_57 rfl ?_
        refine aw_if_le (tgt := 65) C dX9_add_60 (by decide) rfl (fun h => by first | exact absurd h (by decide) | exact absurd (by decide) h) (fun _ => ?_)
        refine aw_iconst (v := 0) C dX9_add_63 rfl rfl ?_
        exact aw_iret C rfl (Nat.le_refl _) (Nat.le_refl _) (PO.of (by simp [opAdd, uI_I, c6, c15, c21, hpc]) hM hF) dX9_add_64
  · have c6 := fa_of c6
    refine aw_iconst (v := 1) C dX9_add_9 rfl rfl ?_
    refine aw_goto (tgt := 53) C dX9_add_10 (by decide) ?_
    refine mw_put (th' := _) (u' := _) C hM hF f_X9_117 rfl rfl rfl rfl rfl rfl dX9_add_53 rfl (fun sg hM hF => ?_)
    refine aw_aload_n C dX9_add_56 rfl rfl rfl ?_
    refine aw_getf C f_X9_117 hM.1 rfl dX9_add_57 rfl ?_
    refine aw_if_le (tgt := 65) C dX9_add_60 (by decide) rfl (fun h => by first | exact absurd h (by decide) | exact absurd (by decide) h) (fun _ => ?_)
    refine aw_iconst (v := 0) C dX9_add_63 rfl rfl ?_
    exact aw_iret C rfl (Nat.le_refl _) (Nat.le_refl _) (PO.of (by simp [opAdd, uI_I, c6]) hM hF) dX9_add_64
set_option maxRecDepth 100000 in
theorem M_letter {g : Gx} {l : Launch} (hl : l.flags = flags0) (hst : g.Stable) {sg : Sg} {s : Int32} : MM g l yX9_letter cX9_letter 1 (some .char) (rmM 1) sg [.int s] (PP sg (.int (letter s))) noX := by
  refine MM.of hl hst (by decide) (Nat.le_of_ble_eq_true rfl) (fun x hg hlx C hin hout hargs => ?_)
  subst hg; subst hlx
  have C : AWC x cX9_letter 1 RX9 (rmM 1) (some .char) := C

  show AW x (RQ x _ _ _ _) 0 0 sg 0 [(0, .int s)] []
  refine aw_iload_n C dX9_letter_0 rfl rfl rfl ?_
  refine aw_if_ne (tgt := 9) C dX9_letter_1 (by decide) rfl (fun c1 => ?_) (fun c1 => ?_)
  · refine aw_iload_n C dX9_letter_9 rfl rfl rfl ?_
    refine aw_iconst (v := 1) C dX9_letter_10 rfl rfl ?_
    refine aw_icmp_ne (tgt := 19) C dX9_letter_11 (by decide) rfl (fun c11 => ?_) (fun c11 => ?_)
    · refine aw_iload_n C dX9_letter_19 rfl rfl rfl ?_
      refine aw_iconst (v := 2) C dX9_letter_20 rfl rfl ?_
      refine aw_icmp_ne (tgt := 29) C dX9_letter_21 (by decide) rfl (fun c21 => ?_) (fun c21 => ?_)
      · refine aw_iload_n C dX9_letter_29 rfl rfl rfl ?_
        refine aw_iconst (v := 3) C dX9_letter_30 rfl rfl ?_
        refine aw_icmp_ne (tgt := 39) C dX9_letter_31 (by decide) rfl (fun c31 => ?_) (fun c31 => ?_)
        · refine aw_bipush (v := 87) C dX9_letter_39 rfl rfl ?_
          exact aw_iret C (by decide) (Nat.le_refl _) (Nat.le_refl _) (PP.of (by simp [letter, c1, c11, c21, c31])) dX9_letter_41
        · refine aw_bipush (v := 65) C dX9_letter_34 rfl rfl ?_
          refine aw_goto (tgt := 41) C dX9_letter_36 (by decide) ?_
          exact aw_iret C (by decide) (Nat.le_refl _) (Nat.le_refl _) (PP.of (by simp [letter, c1, c11, c21, c31])) dX9_letter_41
      · refine aw_bipush (v := 80) C dX9_letter_24 rfl rfl ?_
        refine aw_goto (tgt := 41) C dX9_letter_26 (by decide) ?_
        exact aw_iret C (by decide) (Nat.le_refl _) (Nat.le_refl _) (PP.of (by simp [letter, c1, c11, c21])) dX9_letter_41
    · refine aw_bipush (v := 71) C dX9_letter_14 rfl rfl ?_
      refine aw_goto (tgt := 41) C dX9_letter_16 (by decide) ?_
      exact aw_iret C (by decide) (Nat.le_refl _) (Nat.le_refl _) (PP.of (by simp [letter, c1, c11])) dX9_letter_41
  · refine aw_bipush (v := 83) C dX9_letter_4 rfl rfl ?_
    refine aw_goto (tgt := 41) C dX9_letter_6 (by decide) ?_
    exact aw_iret C (by decide) (Nat.le_refl _) (Nat.le_refl _) (PP.of (by simp [letter, c1])) dX9_letter_41
