set_option maxRecDepth 100000 in
theorem M_canEnter {g : Gx} {l : Launch} (hl : l.flags = flags0) (hst : g.Stable) {ad : Nat → Nat} {th : Int32} {u : MU} {sg : Sg} (hM : MS g ad th u sg) (hD : WD u) (hS : WS1 u) (hT8 : u.2.2.1 31 ≤ 8) (hK : WK u) {d : Nat} (hd : d < 60) (hdd : d < u.2.2.1 10) : MM g l yX9_canEnter cX9_canEnter 5 (some .boolean) (rmM 3) sg [.ref (ad 0), .int (nI d)] (PU g ad sg th (some (.int (b2i (ent u d).1))) (ent u d).2) noX := by
  refine MM.of hl hst (by decide) (Nat.le_of_ble_eq_true rfl) (fun x hg hlx C hin hout hargs => ?_)
  subst hg; subst hlx
  have C : AWC x cX9_canEnter 5 RX9 (rmM 3) (some .boolean) := C
  have hF : MF ad sg sg := MF.rf
  show AW x (RQ x _ _ _ _) 0 0 sg 0 [(0, .ref (ad 0)), (1, .int (nI d))] []
  obtain ⟨⟨a, ha, ea⟩, b, hb, eb⟩ := hD d hd
  have hac := clampI (n := a) (by omega)
  have hbc := clampI (n := b) (by omega)
  refine aw_aload_n C dX9_canEnter_0 rfl rfl rfl ?_
  refine aw_iload_n C dX9_canEnter_1 rfl rfl rfl ?_
  refine mw_callVp C k_X9_192 hM (M_least hl hst hM hd) ⟨by decide, by decide⟩ rfl rfl rfl (Nat.le_of_ble_eq_true rfl) dX9_canEnter_2 rfl ?_
  refine aw_istore_n (ls' := [(2, _), (0, _), (1, _)]) C dX9_canEnter_5 rfl (by decide) rfl rfl ?_
  refine aw_aload_n C dX9_canEnter_6 rfl rfl rfl ?_
  refine aw_iload_n C dX9_canEnter_7 rfl rfl rfl ?_
  refine mw_callVp C k_X9_178 hM (M_isOfThing hl hst hM hd) ⟨by decide, by decide⟩ rfl rfl rfl (Nat.le_of_ble_eq_true rfl) dX9_canEnter_8 rfl ?_
  refine aw_if_eq (tgt := 81) C dX9_canEnter_11 (by decide) rfl (fun c11 => ?_) (fun c11 => ?_)
  · have c11 := fa_of c11
    refine aw_iconst (v := 0) C dX9_canEnter_81 rfl rfl ?_
    exact aw_iret C (by first | decide | exact nrw_b2i _) (Nat.le_refl _) (Nat.le_refl _) (PU.of (by rw [ent, entX, if_pos (by simp [ready, c11])]; rfl) (by rw [ent, entX, if_pos (by simp [ready, c11])]; exact hM) hF) dX9_canEnter_82
  · have c11 := tr_of c11
    obtain ⟨hab, t, x1, y1, ht, e14, e15, e16, hx1, hxy, hy1⟩ := hK d hdd c11
    have ht8 : t < 8 := by omega
    have htc := clampI (n := t) (by omega)
    have hxc := clampI (n := x1) (by omega)
    have hyc := clampI (n := y1) (by omega)
    obtain ⟨A, B, eA, eB, hB0, hB6, hAB⟩ := hS t ht a (by omega)
    obtain ⟨A2, B2, eA2, eB2, hB20, hB26, hAB2⟩ := hS t ht b (by omega)
    have hA6 : A * y1 ≤ 1000000 * 100 := Nat.mul_le_mul (by omega) (by omega)
    have hx6 : x1 * B ≤ 100 * 1000000 := Nat.mul_le_mul (by omega) (by omega)
    have hBy : B * y1 ≤ 1000000 * 100 := Nat.mul_le_mul (by omega) (by omega)
    have hBy0 : 0 < B * y1 := Nat.mul_pos hB0 (by omega)
    have hA26 : A2 * y1 ≤ 1000000 * 100 := Nat.mul_le_mul (by omega) (by omega)
    have hx26 : x1 * B2 ≤ 100 * 1000000 := Nat.mul_le_mul (by omega) (by omega)
    have hBy2 : B2 * y1 ≤ 1000000 * 100 := Nat.mul_le_mul (by omega) (by omega)
    have hBy20 : 0 < B2 * y1 := Nat.mul_pos hB20 (by omega)
    have vA : vN (u.2.1 33 (13 * t + a)) = A := by rw [eA]; exact vN_lN (by omega)
    have vB : vN (u.2.1 34 (13 * t + a)) = B := by rw [eB]; exact vN_lN (by omega)
    have hent : ent u d = entX u d t x1 y1 a b := by rw [ent, e14, e15, e16, ea, eb, htc, hxc, hyc, hac, hbc]
    have hne : a ≠ b := fun z => hab (by rw [ea, eb, z])
    refine aw_aload_n C dX9_canEnter_14 rfl rfl rfl ?_
    refine aw_getf C f_X9_65 hM.1 rfl dX9_canEnter_15 rfl ?_
    refine aw_iload_n C dX9_canEnter_18 rfl rfl rfl ?_
    refine mw_iald (k := 22) (N := 60) C hM rfl rfl rfl (by omega) dX9_canEnter_19 rfl ?_
    refine aw_iconst (v := 1) C dX9_canEnter_20 rfl rfl ?_
    refine aw_icmp_ne (tgt := 81) C dX9_canEnter_21 (by decide) rfl (fun c21 => ?_) (fun c21 => ?_)
    · refine aw_iconst (v := 0) C dX9_canEnter_81 rfl rfl ?_
      exact aw_iret C (by first | decide | exact nrw_b2i _) (Nat.le_refl _) (Nat.le_refl _) (PU.of (by rw [hent, entX, if_pos (by simp [ready, ea, eb, hac, hbc, c11, c21])]; rfl) (by rw [hent, entX, if_pos (by simp [ready, ea, eb, hac, hbc, c11, c21])]; exact hM) hF) dX9_canEnter_82
    · refine aw_iload_n C dX9_canEnter_24 rfl rfl rfl ?_
      refine aw_iconst (v := -1) C dX9_canEnter_25 rfl rfl ?_
      refine aw_icmp_eq (tgt := 81) C dX9_canEnter_26 (by decide) rfl (fun c26 => ?_) (fun c26 => ?_)
      · refine aw_iconst (v := 0) C dX9_canEnter_81 rfl rfl ?_
        exact aw_iret C (by first | decide | exact nrw_b2i _) (Nat.le_refl _) (Nat.le_refl _) (PU.of (by rw [hent, entX, if_pos (by simp [ready, ea, eb, hac, hbc, c11, c21, c26])]; rfl) (by rw [hent, entX, if_pos (by simp [ready, ea, eb, hac, hbc, c11, c21, c26])]; exact hM) hF) dX9_canEnter_82
      · refine aw_iload_n C dX9_canEnter_29 rfl rfl rfl ?_
        refine aw_iconst (v := 1) C dX9_canEnter_30 rfl rfl ?_
        refine aw_icmp_gt (tgt := 81) C dX9_canEnter_31 (by decide) rfl (fun c31 => ?_) (fun c31 => ?_)
        · refine aw_iconst (v := 0) C dX9_canEnter_81 rfl rfl ?_
          exact aw_iret C (by first | decide | exact nrw_b2i _) (Nat.le_refl _) (Nat.le_refl _) (PU.of (by rw [hent, entX, if_pos (by simp [ready, ea, eb, hac, hbc, c11, c21, c26, c31])]; rfl) (by rw [hent, entX, if_pos (by simp [ready, ea, eb, hac, hbc, c11, c21, c26, c31])]; exact hM) hF) dX9_canEnter_82
        · refine aw_aload_n C dX9_canEnter_34 rfl rfl rfl ?_
          refine aw_getf C f_X9_74 hM.1 rfl dX9_canEnter_35 rfl ?_
          refine aw_iload_n C dX9_canEnter_38 rfl rfl rfl ?_
          refine mw_iald (k := 25) (N := 60) C hM rfl rfl rfl (by omega) dX9_canEnter_39 rfl ?_
          refine aw_iconst (v := -1) C dX9_canEnter_40 rfl rfl ?_
          refine aw_icmp_ne (tgt := 81) C dX9_canEnter_41 (by decide) rfl (fun c41 => ?_) (fun c41 => ?_)
          · refine aw_iconst (v := 0) C dX9_canEnter_81 rfl rfl ?_
            exact aw_iret C (by first | decide | exact nrw_b2i _) (Nat.le_refl _) (Nat.le_refl _) (PU.of (by rw [hent, entX, if_pos (by simp [ready, ea, eb, hac, hbc, c11, c21, c26, c31, c41])]; rfl) (by rw [hent, entX, if_pos (by simp [ready, ea, eb, hac, hbc, c11, c21, c26, c31, c41])]; exact hM) hF) dX9_canEnter_82
          · refine aw_aload_n C dX9_canEnter_44 rfl rfl rfl ?_
            refine aw_getf C f_X9_201 hM.1 rfl dX9_canEnter_45 rfl ?_
            refine aw_bipush (v := 100) C dX9_canEnter_48 rfl rfl ?_
            refine aw_icmp_eq (tgt := 81) C dX9_canEnter_50 (by decide) rfl (fun c50 => ?_) (fun c50 => ?_)
            · refine aw_iconst (v := 0) C dX9_canEnter_81 rfl rfl ?_
              exact aw_iret C (by first | decide | exact nrw_b2i _) (Nat.le_refl _) (Nat.le_refl _) (PU.of (by rw [hent, entX, if_pos (by simp [ready, ea, eb, hac, hbc, c11, c21, c26, c31, c41, c50])]; rfl) (by rw [hent, entX, if_pos (by simp [ready, ea, eb, hac, hbc, c11, c21, c26, c31, c41, c50])]; exact hM) hF) dX9_canEnter_82
            · refine aw_aload_n C dX9_canEnter_53 rfl rfl rfl ?_
              refine aw_getf C f_X9_20 hM.1 rfl dX9_canEnter_54 rfl ?_
              refine aw_aload_n C dX9_canEnter_57 rfl rfl rfl ?_
              refine aw_getf C f_X9_35 hM.1 rfl dX9_canEnter_58 rfl ?_
              refine aw_iload_n C dX9_canEnter_61 rfl rfl rfl ?_
              refine mw_iald (k := 12) (N := 60) C hM rfl rfl rfl (by omega) dX9_canEnter_62 rfl ?_
              refine mw_zald (k := 6) (N := 12) C hM rfl rfl ea ha dX9_canEnter_63 rfl ?_
              refine aw_if_ne (tgt := 81) C dX9_canEnter_64 (by decide) rfl (fun c64 => ?_) (fun c64 => ?_)
              · refine aw_iconst (v := 0) C dX9_canEnter_81 rfl rfl ?_
                exact aw_iret C (by first | decide | exact nrw_b2i _) (Nat.le_refl _) (Nat.le_refl _) (PU.of (by rw [hent, entX, if_pos (by simp [ready, ea, eb, hac, hbc, c11, c21, c26, c31, c41, c50, c64])]; rfl) (by rw [hent, entX, if_pos (by simp [ready, ea, eb, hac, hbc, c11, c21, c26, c31, c41, c50, c64])]; exact hM) hF) dX9_canEnter_82
              · refine aw_aload_n C dX9_canEnter_67 rfl rfl rfl ?_
                refine aw_getf C f_X9_20 hM.1 rfl dX9_canEnter_68 rfl ?_
                refine aw_aload_n C dX9_canEnter_71 rfl rfl rfl ?_
                refine aw_getf C f_X9_38 hM.1 rfl dX9_canEnter_72 rfl ?_
                refine aw_iload_n C dX9_canEnter_75 rfl rfl rfl ?_
                refine mw_iald (k := 13) (N := 60) C hM rfl rfl rfl (by omega) dX9_canEnter_76 rfl ?_
                refine mw_zald (k := 6) (N := 12) C hM rfl rfl eb hb dX9_canEnter_77 rfl ?_
                refine aw_if_eq (tgt := 83) C dX9_canEnter_78 (by decide) rfl (fun c78 => ?_) (fun c78 => ?_)
                · refine aw_bipush (v := 13) C dX9_canEnter_83 rfl rfl ?_
                  refine aw_aload_n C dX9_canEnter_85 rfl rfl rfl ?_
                  refine aw_getf C f_X9_41 hM.1 rfl dX9_canEnter_86 rfl ?_
                  refine aw_iload_n C dX9_canEnter_89 rfl rfl rfl ?_
                  refine mw_iald (k := 14) (N := 60) C hM rfl rfl rfl (by omega) dX9_canEnter_90 rfl ?_
                  rw [e14]
                  refine aw_imul C dX9_canEnter_91 rfl ?_
                  refine aw_aload_n C dX9_canEnter_92 rfl rfl rfl ?_
                  refine aw_getf C f_X9_35 hM.1 rfl dX9_canEnter_93 rfl ?_
                  refine aw_iload_n C dX9_canEnter_96 rfl rfl rfl ?_
                  refine mw_iald (k := 12) (N := 60) C hM rfl rfl rfl (by omega) dX9_canEnter_97 rfl ?_
                  rw [ea]
                  refine aw_iadd C dX9_canEnter_98 rfl ?_
                  refine aw_istore_n (ls' := [(3, _), (2, _), (0, _), (1, _)]) C dX9_canEnter_99 rfl (by decide) rfl rfl ?_
                  refine aw_aload_n C dX9_canEnter_100 rfl rfl rfl ?_
                  refine aw_getf C f_X9_92 hM.1 rfl dX9_canEnter_101 rfl ?_
                  refine aw_iload_n C dX9_canEnter_104 rfl rfl rfl ?_
                  refine mw_lald (k := 33) (N := 104) C hM rfl rfl (i := 13 * t + a) (by rw [show (13 : Int32) = nI 13 from rfl, pk_mul, nI_add]) (by omega) dX9_canEnter_105 rfl ?_
                  refine aw_aload_n C dX9_canEnter_106 rfl rfl rfl ?_
                  refine aw_getf C f_X9_47 hM.1 rfl dX9_canEnter_107 rfl ?_
                  refine aw_iload_n C dX9_canEnter_110 rfl rfl rfl ?_
                  refine mw_iald (k := 16) (N := 60) C hM rfl rfl rfl (by omega) dX9_canEnter_111 rfl ?_
                  refine aw_i2l C dX9_canEnter_112 rfl ?_
                  rw [e16, nI_l (by omega), eA]
                  refine aw_lmul C dX9_canEnter_113 rfl ?_
                  rw [lN_mul]
                  refine aw_aload_n C dX9_canEnter_114 rfl rfl rfl ?_
                  refine aw_getf C f_X9_44 hM.1 rfl dX9_canEnter_115 rfl ?_
                  refine aw_iload_n C dX9_canEnter_118 rfl rfl rfl ?_
                  refine mw_iald (k := 15) (N := 60) C hM rfl rfl rfl (by omega) dX9_canEnter_119 rfl ?_
                  refine aw_i2l C dX9_canEnter_120 rfl ?_
                  refine aw_aload_n C dX9_canEnter_121 rfl rfl rfl ?_
                  refine aw_getf C f_X9_96 hM.1 rfl dX9_canEnter_122 rfl ?_
                  refine aw_iload_n C dX9_canEnter_125 rfl rfl rfl ?_
                  refine mw_lald (k := 34) (N := 104) C hM rfl rfl (i := 13 * t + a) (by rw [show (13 : Int32) = nI 13 from rfl, pk_mul, nI_add]) (by omega) dX9_canEnter_126 rfl ?_
                  rw [e15, nI_l (by omega), eB]
                  refine aw_lmul C dX9_canEnter_127 rfl ?_
                  rw [lN_mul]
                  refine aw_lcmp C dX9_canEnter_128 rfl ?_
                  refine aw_if_ge (tgt := 134) C dX9_canEnter_129 (by decide) rfl (fun c129 => ?_) (fun c129 => ?_)
                  · have hlt : ¬ A * y1 < x1 * B := by
                      have h9 := lgc_ge.mp c129
                      rw [pk_lLT (by omega) (by omega)] at h9
                      exact h9
                    have hle : x1 * B ≤ A * y1 := by omega
                    rw [← vA, ← vB] at hlt
                    refine aw_aload_n C dX9_canEnter_134 rfl rfl rfl ?_
                    refine mw_callV C k_X9_204 hM (M_laysNew hl hst hM) ⟨by decide, by decide⟩ rfl rfl rfl (Nat.le_of_ble_eq_true rfl) dX9_canEnter_135 rfl (fun v sg1 hq => ?_)
                    obtain ⟨rfl, hM, hF1⟩ := hq
                    have hF := MF.tr hF hF1
                    have E11 : (lay u).1 11 d = u.1 11 d := rfl
                    have E14 : (lay u).1 14 d = nI t := e14
                    have E15 : (lay u).1 15 d = nI x1 := e15
                    have E16 : (lay u).1 16 d = nI y1 := e16
                    have E13 : (lay u).1 13 d = nI b := eb
                    refine aw_iconst (v := 1) C dX9_canEnter_138 rfl rfl ?_
                    refine aw_istore (ls' := [(4, _), (3, _), (2, _), (0, _), (1, _)]) C dX9_canEnter_139 (by decide) rfl rfl ?_
                    refine aw_aload_n C dX9_canEnter_141 rfl rfl rfl ?_
                    refine aw_getf C f_X9_32 hM.1 rfl dX9_canEnter_142 rfl ?_
                    refine aw_iload_n C dX9_canEnter_145 rfl rfl rfl ?_
                    refine mw_iald (k := 11) (N := 60) C hM rfl rfl rfl (by omega) dX9_canEnter_146 rfl ?_
                    refine aw_iconst (v := 2) C dX9_canEnter_147 rfl rfl ?_
                    refine aw_icmp_eq (tgt := 222) C dX9_canEnter_148 (by decide) rfl (fun c148 => ?_) (fun c148 => ?_)
                    · have c148 : u.1 11 d = 2 := c148
                      refine aw_iload C dX9_canEnter_222 rfl rfl ?_
                      exact aw_iret C (by first | decide | exact nrw_b2i _) (Nat.le_refl _) (Nat.le_refl _) (PU.of (by rw [hent, entX, if_neg (by simp [ready, ea, eb, hac, hbc, c11, c21, c26, c31, c41, c50, c64, c78]), if_neg hlt, if_pos c148]; rfl) (by rw [hent, entX, if_neg (by simp [ready, ea, eb, hac, hbc, c11, c21, c26, c31, c41, c50, c64, c78]), if_neg hlt, if_pos c148]; exact hM) hF) dX9_canEnter_224
                    · have c148 : ¬ u.1 11 d = 2 := c148
                      refine aw_aload_n C dX9_canEnter_151 rfl rfl rfl ?_
                      refine aw_iload_n C dX9_canEnter_152 rfl rfl rfl ?_
                      refine aw_aload_n C dX9_canEnter_153 rfl rfl rfl ?_
                      refine aw_getf C f_X9_44 hM.1 rfl dX9_canEnter_154 rfl ?_
                      refine aw_iload_n C dX9_canEnter_157 rfl rfl rfl ?_
                      refine mw_iald (k := 15) (N := 60) C hM rfl rfl rfl (by omega) dX9_canEnter_158 rfl ?_
                      rw [E15]
                      refine aw_ineg C dX9_canEnter_159 rfl ?_
                      refine aw_i2l C dX9_canEnter_160 rfl ?_
                      rw [neg_x (by omega)]
                      refine aw_aload_n C dX9_canEnter_161 rfl rfl rfl ?_
                      refine aw_getf C f_X9_47 hM.1 rfl dX9_canEnter_162 rfl ?_
                      refine aw_iload_n C dX9_canEnter_165 rfl rfl rfl ?_
                      refine mw_iald (k := 16) (N := 60) C hM rfl rfl rfl (by omega) dX9_canEnter_166 rfl ?_
                      refine aw_i2l C dX9_canEnter_167 rfl ?_
                      rw [E16, nI_l (by omega), show (13 : Int32) * nI t + nI a = nI (13 * t + a) by rw [show (13 : Int32) = nI 13 from rfl, pk_mul, nI_add]]
                      refine mw_callV C k_X9_207 hM (M_adds hl hst hM (t := A) (n := B) (U := A * y1 - x1 * B) (D := B * y1) (i := 13 * t + a) (by omega) (by rw [lay_41 (by omega), eA]) (by rw [lay_42 (by omega), eB]) (sub_U hle) rfl (by omega) (by omega) hBy0) ⟨by decide, by decide⟩ rfl rfl rfl (Nat.le_of_ble_eq_true rfl) dX9_canEnter_168 rfl (fun v sg1 hq => ?_)
                      obtain ⟨rfl, hM1, hF1⟩ := hq
                      have hM : MS x.g ad th (fPut (lay u) (13 * t + a) x1 y1 false) sg1 := by
                        unfold fPut
                        rw [lay_41 (by omega), lay_42 (by omega), vA, vB]
                        exact hM1
                      have hF := MF.tr hF hF1
                      have F14 : (fPut (lay u) (13 * t + a) x1 y1 false).1 14 d = nI t := e14
                      have F15 : (fPut (lay u) (13 * t + a) x1 y1 false).1 15 d = nI x1 := e15
                      have F16 : (fPut (lay u) (13 * t + a) x1 y1 false).1 16 d = nI y1 := e16
                      have F13 : (fPut (lay u) (13 * t + a) x1 y1 false).1 13 d = nI b := eb
                      have G41 : (fPut (lay u) (13 * t + a) x1 y1 false).2.1 41 (13 * t + b) = lN A2 := by rw [fPut_n (by omega), lay_41 (by omega), eA2]
                      have G42 : (fPut (lay u) (13 * t + a) x1 y1 false).2.1 42 (13 * t + b) = lN B2 := by rw [fPut_n (by omega), lay_42 (by omega), eB2]
                      refine aw_istore (ls' := [(4, _), (3, _), (2, _), (0, _), (1, _)]) C dX9_canEnter_171 (by decide) rfl rfl ?_
                      refine aw_aload_n C dX9_canEnter_173 rfl rfl rfl ?_
                      refine aw_bipush (v := 13) C dX9_canEnter_174 rfl rfl ?_
                      refine aw_aload_n C dX9_canEnter_176 rfl rfl rfl ?_
                      refine aw_getf C f_X9_41 hM.1 rfl dX9_canEnter_177 rfl ?_
                      refine aw_iload_n C dX9_canEnter_180 rfl rfl rfl ?_
                      refine mw_iald (k := 14) (N := 60) C hM rfl rfl rfl (by omega) dX9_canEnter_181 rfl ?_
                      rw [F14]
                      refine aw_imul C dX9_canEnter_182 rfl ?_
                      refine aw_aload_n C dX9_canEnter_183 rfl rfl rfl ?_
                      refine aw_getf C f_X9_38 hM.1 rfl dX9_canEnter_184 rfl ?_
                      refine aw_iload_n C dX9_canEnter_187 rfl rfl rfl ?_
                      refine mw_iald (k := 13) (N := 60) C hM rfl rfl rfl (by omega) dX9_canEnter_188 rfl ?_
                      rw [F13, show (13 : Int32) = nI 13 from rfl, pk_mul]
                      refine aw_iadd C dX9_canEnter_189 rfl ?_
                      refine aw_aload_n C dX9_canEnter_190 rfl rfl rfl ?_
                      refine aw_getf C f_X9_44 hM.1 rfl dX9_canEnter_191 rfl ?_
                      refine aw_iload_n C dX9_canEnter_194 rfl rfl rfl ?_
                      refine mw_iald (k := 15) (N := 60) C hM rfl rfl rfl (by omega) dX9_canEnter_195 rfl ?_
                      rw [F15]
                      refine aw_i2l C dX9_canEnter_196 rfl ?_
                      rw [nI_l (by omega)]
                      refine aw_aload_n C dX9_canEnter_197 rfl rfl rfl ?_
                      refine aw_getf C f_X9_47 hM.1 rfl dX9_canEnter_198 rfl ?_
                      refine aw_iload_n C dX9_canEnter_201 rfl rfl rfl ?_
                      refine mw_iald (k := 16) (N := 60) C hM rfl rfl rfl (by omega) dX9_canEnter_202 rfl ?_
                      rw [F16]
                      refine aw_i2l C dX9_canEnter_203 rfl ?_
                      rw [nI_l (by omega), nI_add]
                      refine mw_callV C k_X9_207 hM (M_adds hl hst hM (t := A2) (n := B2) (U := A2 * y1 + x1 * B2) (D := B2 * y1) (i := 13 * t + b) (by omega) G41 G42 add_U rfl (by omega) (by omega) hBy20) ⟨by decide, by decide⟩ rfl rfl rfl (Nat.le_of_ble_eq_true rfl) dX9_canEnter_204 rfl (fun v sg1 hq => ?_)
                      obtain ⟨rfl, hM1, hF1⟩ := hq
                      have hM : MS x.g ad th (fPut (fPut (lay u) (13 * t + a) x1 y1 false) (13 * t + b) x1 y1 true) sg1 := by
                        rw [fPut, G41, G42, vN_lN (by omega), vN_lN (by omega)]
                        exact hM1
                      have hF := MF.tr hF hF1
                      have o1 : fOk (lay u) (13 * t + a) x1 y1 false = decide (B * y1 / Nat.gcd (A * y1 - x1 * B) (B * y1) ≤ 1000000) := by
                        rw [fOk, lay_41 (by omega), lay_42 (by omega), vA, vB]; rfl
                      have o2 : fOk (fPut (lay u) (13 * t + a) x1 y1 false) (13 * t + b) x1 y1 true = decide (B2 * y1 / Nat.gcd (A2 * y1 + x1 * B2) (B2 * y1) ≤ 1000000) := by
                        rw [fOk, G41, G42, vN_lN (by omega), vN_lN (by omega)]; rfl
                      refine aw_if_eq (tgt := 219) C dX9_canEnter_207 (by decide) rfl (fun c207 => ?_) (fun c207 => ?_)
                      · have c207 := fa_of c207
                        refine aw_iconst (v := 0) C dX9_canEnter_219 rfl rfl ?_
                        refine aw_istore (ls' := [(4, _), (3, _), (2, _), (0, _), (1, _)]) C dX9_canEnter_220 (by decide) rfl rfl ?_
                        have c207 := c207
                        refine aw_iload C dX9_canEnter_222 rfl rfl ?_
                        exact aw_iret C (by first | decide | exact nrw_b2i _) (Nat.le_refl _) (Nat.le_refl _) (PU.of (by rw [hent, entX, if_neg (by simp [ready, ea, eb, hac, hbc, c11, c21, c26, c31, c41, c50, c64, c78]), if_neg hlt, if_neg c148, o1, o2]; simp [b2i, c207]) (by rw [hent, entX, if_neg (by simp [ready, ea, eb, hac, hbc, c11, c21, c26, c31, c41, c50, c64, c78]), if_neg hlt, if_neg c148]; exact hM) hF) dX9_canEnter_224
                      · have c207 := tr_of c207
                        refine aw_iload C dX9_canEnter_210 rfl rfl ?_
                        refine aw_if_eq (tgt := 219) C dX9_canEnter_212 (by decide) rfl (fun c212 => ?_) (fun c212 => ?_)
                        · have c212 := fa_of c212
                          refine aw_iconst (v := 0) C dX9_canEnter_219 rfl rfl ?_
                          refine aw_istore (ls' := [(4, _), (3, _), (2, _), (0, _), (1, _)]) C dX9_canEnter_220 (by decide) rfl rfl ?_
                          have c207 := c207
                          refine aw_iload C dX9_canEnter_222 rfl rfl ?_
                          exact aw_iret C (by first | decide | exact nrw_b2i _) (Nat.le_refl _) (Nat.le_refl _) (PU.of (by rw [hent, entX, if_neg (by simp [ready, ea, eb, hac, hbc, c11, c21, c26, c31, c41, c50, c64, c78]), if_neg hlt, if_neg c148, o1, o2]; simp [b2i, c207, c212]) (by rw [hent, entX, if_neg (by simp [ready, ea, eb, hac, hbc, c11, c21, c26, c31, c41, c50, c64, c78]), if_neg hlt, if_neg c148]; exact hM) hF) dX9_canEnter_224
                        · have c212 := tr_of c212
                          refine aw_iconst (v := 1) C dX9_canEnter_215 rfl rfl ?_
                          refine aw_goto (tgt := 220) C dX9_canEnter_216 (by decide) ?_
                          refine aw_istore (ls' := [(4, _), (3, _), (2, _), (0, _), (1, _)]) C dX9_canEnter_220 (by decide) rfl rfl ?_
                          have c207 := c207
                          refine aw_iload C dX9_canEnter_222 rfl rfl ?_
                          exact aw_iret C (by first | decide | exact nrw_b2i _) (Nat.le_refl _) (Nat.le_refl _) (PU.of (by rw [hent, entX, if_neg (by simp [ready, ea, eb, hac, hbc, c11, c21, c26, c31, c41, c50, c64, c78]), if_neg hlt, if_neg c148, o1, o2]; simp [b2i, c207, c212]) (by rw [hent, entX, if_neg (by simp [ready, ea, eb, hac, hbc, c11, c21, c26, c31, c41, c50, c64, c78]), if_neg hlt, if_neg c148]; exact hM) hF) dX9_canEnter_224
                  · have hlt : A * y1 < x1 * B := by
                      have h9 := Classical.byContradiction (fun q => c129 (lgc_ge.mpr q))
                      rw [pk_lLT (by omega) (by omega)] at h9
                      exact h9
                    rw [← vA, ← vB] at hlt
                    refine aw_iconst (v := 0) C dX9_canEnter_132 rfl rfl ?_
                    exact aw_iret C (by first | decide | exact nrw_b2i _) (Nat.le_refl _) (Nat.le_refl _) (PU.of (by rw [hent, entX, if_neg (by simp [ready, ea, eb, hac, hbc, c11, c21, c26, c31, c41, c50, c64, c78]), if_pos hlt]; rfl) (by rw [hent, entX, if_neg (by simp [ready, ea, eb, hac, hbc, c11, c21, c26, c31, c41, c50, c64, c78]), if_pos hlt]; exact hM) hF) dX9_canEnter_133
                · refine aw_iconst (v := 0) C dX9_canEnter_81 rfl rfl ?_
                  exact aw_iret C (by first | decide | exact nrw_b2i _) (Nat.le_refl _) (Nat.le_refl _) (PU.of (by rw [hent, entX, if_pos (by simp [ready, ea, eb, hac, hbc, c11, c21, c26, c31, c41, c50, c64, c78])]; rfl) (by rw [hent, entX, if_pos (by simp [ready, ea, eb, hac, hbc, c11, c21, c26, c31, c41, c50, c64, c78])]; exact hM) hF) dX9_canEnter_82
