set_option maxRecDepth 100000 in
theorem M_enter {g : Gx} {l : Launch} (hl : l.flags = flags0) (hst : g.Stable) {ad : Nat → Nat} {th : Int32} {u : MU} {sg : Sg} (hM : MS g ad th u sg) (hW : WN u) (hP : WP u) (hD : WD u) (hS : WS1 u) (hK : WK u) (hV : WV u) {v : Int32} : MM g l yX9_enter cX9_enter 5 (some .int) (rmM 4) sg [.ref (ad 0), .int v] (PO g ad sg (opEnter u v)) noX := by
  refine MM.of hl hst (by decide) (Nat.le_of_ble_eq_true rfl) (fun x hg hlx C hin hout hargs => ?_)
  subst hg; subst hlx
  have C : AWC x cX9_enter 5 RX9 (rmM 4) (some .int) := C
  have hF : MF ad sg sg := MF.rf
  show AW x (RQ x _ _ _ _) 0 0 sg 0 [(0, .ref (ad 0)), (1, .int v)] []
  refine aw_aload_n C dX9_enter_0 rfl rfl rfl ?_
  refine aw_aload_n C dX9_enter_1 rfl rfl rfl ?_
  refine aw_iload_n C dX9_enter_2 rfl rfl rfl ?_
  refine mw_callVp C k_X9_165 hM (M_isDeed hl hst hM) ⟨by decide, by decide⟩ rfl rfl rfl (Nat.le_of_ble_eq_true rfl) dX9_enter_3 rfl ?_
  refine aw_if_ne (tgt := 13) C dX9_enter_6 (by decide) rfl (fun c6 => ?_) (fun c6 => ?_)
  · have c6 := tr_of c6
    obtain ⟨p, hp, rfl⟩ := isDd_of hW c6
    have hp60 : p < 60 := by have := hW.2.1; omega
    have hpc := clampI (n := p) (by omega)
    refine aw_aload_n C dX9_enter_13 rfl rfl rfl ?_
    refine aw_iload_n C dX9_enter_14 rfl rfl rfl ?_
    refine mw_callV C k_X9_211 hM (M_canEnter hl hst hM hD hS hW.2.2.2.1 hK hp60 hp) ⟨by decide, by decide⟩ rfl rfl rfl (Nat.le_of_ble_eq_true rfl) dX9_enter_15 rfl (fun v sg1 hq => ?_)
    obtain ⟨rfl, hM, hF1⟩ := hq
    have hF := MF.tr hF hF1
    refine aw_if_ne (tgt := 25) C dX9_enter_18 (by decide) rfl (fun c18 => ?_) (fun c18 => ?_)
    · have c18 := tr_of c18
      refine aw_iconst (v := 0) C dX9_enter_25 rfl rfl ?_
      refine mw_put (th' := _) (u' := _) C hM hF f_X9_117 rfl rfl rfl rfl rfl rfl dX9_enter_26 rfl (fun sg hM hF => ?_)
      refine aw_aload_n C dX9_enter_29 rfl rfl rfl ?_
      refine aw_getf C f_X9_117 hM.1 rfl dX9_enter_30 rfl ?_
      refine aw_if_le (tgt := 38) C dX9_enter_33 (by decide) rfl (fun _ => ?_) (fun h => by first | exact absurd h (by decide) | exact absurd (by decide) h)
      refine aw_aload_n C dX9_enter_38 rfl rfl rfl ?_
      refine mw_callV C k_X9_214 hM (M_takesNew hl hst hM) ⟨by decide, by decide⟩ rfl rfl rfl (Nat.le_of_ble_eq_true rfl) dX9_enter_39 rfl (fun v sg1 hq => ?_)
      obtain ⟨rfl, hM, hF1⟩ := hq
      have hF := MF.tr hF hF1
      obtain ⟨hof, -, h35⟩ := ready_of (ent_r c18)
      obtain ⟨⟨a, ha, ea⟩, b, hb, eb⟩ := hD p hp60
      obtain ⟨hab, t, x1, y1, ht, e14, e15, e16, hx1, hxy, hy1⟩ := hK p hp hof
      have hN := hW.2.2.2.1
      have ht8 : t < 8 := by omega
      obtain ⟨wv, hw6, ew⟩ := hV t ht
      have hI : (tak (ent u p).2).1 = u.1 := ent_I
      have W11 : (tak (ent u p).2).1 11 p = u.1 11 p := by rw [hI]
      have W12 : (tak (ent u p).2).1 12 p = nI a := by rw [hI, ea]
      have W13 : (tak (ent u p).2).1 13 p = nI b := by rw [hI, eb]
      have W14 : (tak (ent u p).2).1 14 p = nI t := by rw [hI, e14]
      have W15 : (tak (ent u p).2).1 15 p = nI x1 := by rw [hI, e15]
      have W16 : (tak (ent u p).2).1 16 p = nI y1 := by rw [hI, e16]
      have W32 : (tak (ent u p).2).1 32 t = nI wv := by rw [hI, ew]
      have hPw : WP (tak (ent u p).2) := fun q hq => by rw [hI]; exact hP q hq
      have hN35 : (tak (ent u p).2).2.2.1 35 = u.2.2.1 35 := by show (ent u p).2.2.2.1 35 = _; rw [ent_N]
      have h35b : u.2.2.1 35 < 100 := n100_of hW.2.2.2.2 h35
      have hwx : wv * x1 ≤ 1000000 * 100 := Nat.mul_le_mul (by omega) (by omega)
      have hwo : worth u p = wv * x1 / y1 := by rw [worth, e14, e15, e16, clampI (by omega), ew, clampI (by omega), clampI (by omega), clampI (by omega)]
      have hwd : wv * x1 / y1 ≤ wv * x1 := Nat.div_le_self _ _
      refine aw_aload_n C dX9_enter_42 rfl rfl rfl ?_
      refine aw_getf C f_X9_89 hM.1 rfl dX9_enter_43 rfl ?_
      refine aw_aload_n C dX9_enter_46 rfl rfl rfl ?_
      refine aw_getf C f_X9_41 hM.1 rfl dX9_enter_47 rfl ?_
      refine aw_iload_n C dX9_enter_50 rfl rfl rfl ?_
      refine mw_iald (k := 14) (N := 60) C hM rfl rfl rfl (by omega) dX9_enter_51 rfl ?_
      refine mw_iald (k := 32) (N := 8) C hM rfl rfl (i := t) W14 ht8 dX9_enter_52 rfl ?_
      refine aw_i2l C dX9_enter_53 rfl ?_
      rw [W32, nI_l (by omega)]
      refine aw_aload_n C dX9_enter_54 rfl rfl rfl ?_
      refine aw_getf C f_X9_44 hM.1 rfl dX9_enter_55 rfl ?_
      refine aw_iload_n C dX9_enter_58 rfl rfl rfl ?_
      refine mw_iald (k := 15) (N := 60) C hM rfl rfl rfl (by omega) dX9_enter_59 rfl ?_
      refine aw_i2l C dX9_enter_60 rfl ?_
      rw [W15, nI_l (by omega)]
      refine aw_lmul C dX9_enter_61 rfl ?_
      rw [lN_mul]
      refine aw_aload_n C dX9_enter_62 rfl rfl rfl ?_
      refine aw_getf C f_X9_47 hM.1 rfl dX9_enter_63 rfl ?_
      refine aw_iload_n C dX9_enter_66 rfl rfl rfl ?_
      refine mw_iald (k := 16) (N := 60) C hM rfl rfl rfl (by omega) dX9_enter_67 rfl ?_
      refine aw_i2l C dX9_enter_68 rfl ?_
      rw [W16, nI_l (by omega)]
      refine aw_ldiv C dX9_enter_69 (by intro e; rw [show (0 : Int64) = lN 0 from rfl, pk_lEQ (by omega) (by decide)] at e; omega) rfl ?_
      rw [pk_lDiv (by omega) (by omega) (by omega)]
      refine aw_lstore_n (ls' := [(2, _), (0, _), (1, _)]) C dX9_enter_70 rfl (by decide) rfl rfl ?_
      refine aw_aload_n C dX9_enter_71 rfl rfl rfl ?_
      refine aw_getf C f_X9_32 hM.1 rfl dX9_enter_72 rfl ?_
      refine aw_iload_n C dX9_enter_75 rfl rfl rfl ?_
      refine mw_iald (k := 11) (N := 60) C hM rfl rfl rfl (by omega) dX9_enter_76 rfl ?_
      refine aw_if_ne (tgt := 85) C dX9_enter_77 (by decide) rfl (fun c77 => ?_) (fun c77 => ?_)
      · have c77 : ¬ u.1 11 p = 0 := W11 ▸ c77
        refine aw_aload_n C dX9_enter_85 rfl rfl rfl ?_
        refine aw_getf C f_X9_32 hM.1 rfl dX9_enter_86 rfl ?_
        refine aw_iload_n C dX9_enter_89 rfl rfl rfl ?_
        refine mw_iald (k := 11) (N := 60) C hM rfl rfl rfl (by omega) dX9_enter_90 rfl ?_
        refine aw_iconst (v := 2) C dX9_enter_91 rfl rfl ?_
        refine aw_icmp_ne (tgt := 100) C dX9_enter_92 (by decide) rfl (fun c92 => ?_) (fun c92 => ?_)
        · have c92 : ¬ u.1 11 p = 2 := W11 ▸ c92
          refine aw_aload_n C dX9_enter_100 rfl rfl rfl ?_
          refine aw_aload_n C dX9_enter_101 rfl rfl rfl ?_
          refine aw_getf C f_X9_35 hM.1 rfl dX9_enter_102 rfl ?_
          refine aw_iload_n C dX9_enter_105 rfl rfl rfl ?_
          refine mw_iald (k := 12) (N := 60) C hM rfl rfl rfl (by omega) dX9_enter_106 rfl ?_
          rw [W12]
          refine aw_aload_n C dX9_enter_107 rfl rfl rfl ?_
          refine aw_getf C f_X9_38 hM.1 rfl dX9_enter_108 rfl ?_
          refine aw_iload_n C dX9_enter_111 rfl rfl rfl ?_
          refine mw_iald (k := 13) (N := 60) C hM rfl rfl rfl (by omega) dX9_enter_112 rfl ?_
          rw [W13]
          refine mw_callVp C k_X9_175 hM (M_isKin hl hst hM hPw ha hb) ⟨by decide, by decide⟩ rfl rfl rfl (Nat.le_of_ble_eq_true rfl) dX9_enter_113 rfl ?_
          refine aw_if_eq (tgt := 124) C dX9_enter_116 (by decide) rfl (fun c116 => ?_) (fun c116 => ?_)
          · have c116 := fa_of c116
            refine aw_bipush (v := 10) C dX9_enter_124 rfl rfl ?_
            refine aw_istore (ls' := [(4, _), (2, _), (0, _), (1, _)]) C dX9_enter_126 (by decide) rfl rfl ?_
            refine aw_aload_n C dX9_enter_128 rfl rfl rfl ?_
            refine aw_dup C dX9_enter_129 rfl rfl ?_
            refine aw_getf C f_X9_217 hM.1 rfl dX9_enter_130 rfl ?_
            refine aw_lload_n C dX9_enter_133 rfl rfl rfl ?_
            refine aw_iload C dX9_enter_134 rfl rfl ?_
            refine aw_i2l C dX9_enter_136 rfl ?_
            rw [show (10 : Int32).toInt64 = lN 10 from rfl]
            refine aw_ldiv C dX9_enter_137 (by decide) rfl ?_
            rw [pk_lDiv (by omega) (by decide) (by decide)]
            refine aw_ladd C dX9_enter_138 rfl ?_
            refine mw_put (th' := _) (u' := (uT (tak (ent u p).2) ((tak (ent u p).2).2.2.2.2 + lN (wv * x1 / y1 / 10)))) C hM hF f_X9_217 rfl rfl rfl rfl rfl rfl dX9_enter_139 rfl (fun sg hM hF => ?_)
            refine aw_aload_n C dX9_enter_142 rfl rfl rfl ?_
            refine aw_getf C f_X9_74 hM.1 rfl dX9_enter_143 rfl ?_
            refine aw_iload_n C dX9_enter_146 rfl rfl rfl ?_
            refine aw_aload_n C dX9_enter_147 rfl rfl rfl ?_
            refine aw_aload_n C dX9_enter_148 rfl rfl rfl ?_
            refine aw_getf C f_X9_32 hM.1 rfl dX9_enter_149 rfl ?_
            refine aw_iload_n C dX9_enter_152 rfl rfl rfl ?_
            refine mw_iald (k := 11) (N := 60) C hM rfl rfl rfl (by omega) dX9_enter_153 rfl ?_
            refine aw_iload_n C dX9_enter_154 rfl rfl rfl ?_
            refine aw_aload_n C dX9_enter_155 rfl rfl rfl ?_
            refine aw_getf C f_X9_41 hM.1 rfl dX9_enter_156 rfl ?_
            refine aw_iload_n C dX9_enter_159 rfl rfl rfl ?_
            refine mw_iald (k := 14) (N := 60) C hM rfl rfl rfl (by omega) dX9_enter_160 rfl ?_
            refine mw_callV C k_X9_221 hM (M_comes hl hst hM (by exact hN35.symm ▸ h35b)) ⟨by decide, by decide⟩ rfl rfl rfl (Nat.le_of_ble_eq_true rfl) dX9_enter_161 rfl (fun v sg1 hq => ?_)
            obtain ⟨rfl, hM, hF1⟩ := hq
            have hF := MF.tr hF hF1
            refine mw_iast (k := 25) (N := 60) C hM hF rfl rfl rfl (by omega) dX9_enter_164 rfl (fun sg hM hF => ?_)
            refine aw_aload_n C dX9_enter_165 rfl rfl rfl ?_
            refine aw_getf C f_X9_74 hM.1 rfl dX9_enter_166 rfl ?_
            refine aw_iload_n C dX9_enter_169 rfl rfl rfl ?_
            refine mw_iald (k := 25) (N := 60) C hM rfl rfl rfl (by omega) dX9_enter_170 rfl ?_
            exact aw_iret C rfl (Nat.le_refl _) (Nat.le_refl _) (PO.of (by
    have hk : isKin u a b = false := by rw [← isKin_I hI]; exact c116
    have hdp : dutyPart u p = 10 := by simp [dutyPart, ea, eb, clampI (show a < 2 ^ 31 by omega), clampI (show b < 2 ^ 31 by omega), c77, c92, hk]
    rw [opEnter, if_neg (by simp [c6]), hpc, if_neg (by simp [c18]), hwo, hdp]
    refine Prod.ext rfl (Prod.ext ?_ ?_)
    · show nI (u.2.2.1 35) = (uI _ 25 p _).1 25 p
      rw [uI_I, if_pos rfl, if_pos rfl]
      exact congrArg nI hN35.symm
    · exact enter_eq.symm) hM hF) dX9_enter_171
          · have c116 := tr_of c116
            refine aw_bipush (v := 50) C dX9_enter_119 rfl rfl ?_
            refine aw_goto (tgt := 126) C dX9_enter_121 (by decide) ?_
            refine aw_istore (ls' := [(4, _), (2, _), (0, _), (1, _)]) C dX9_enter_126 (by decide) rfl rfl ?_
            refine aw_aload_n C dX9_enter_128 rfl rfl rfl ?_
            refine aw_dup C dX9_enter_129 rfl rfl ?_
            refine aw_getf C f_X9_217 hM.1 rfl dX9_enter_130 rfl ?_
            refine aw_lload_n C dX9_enter_133 rfl rfl rfl ?_
            refine aw_iload C dX9_enter_134 rfl rfl ?_
            refine aw_i2l C dX9_enter_136 rfl ?_
            rw [show (50 : Int32).toInt64 = lN 50 from rfl]
            refine aw_ldiv C dX9_enter_137 (by decide) rfl ?_
            rw [pk_lDiv (by omega) (by decide) (by decide)]
            refine aw_ladd C dX9_enter_138 rfl ?_
            refine mw_put (th' := _) (u' := (uT (tak (ent u p).2) ((tak (ent u p).2).2.2.2.2 + lN (wv * x1 / y1 / 50)))) C hM hF f_X9_217 rfl rfl rfl rfl rfl rfl dX9_enter_139 rfl (fun sg hM hF => ?_)
            refine aw_aload_n C dX9_enter_142 rfl rfl rfl ?_
            refine aw_getf C f_X9_74 hM.1 rfl dX9_enter_143 rfl ?_
            refine aw_iload_n C dX9_enter_146 rfl rfl rfl ?_
            refine aw_aload_n C dX9_enter_147 rfl rfl rfl ?_
            refine aw_aload_n C dX9_enter_148 rfl rfl rfl ?_
            refine aw_getf C f_X9_32 hM.1 rfl dX9_enter_149 rfl ?_
            refine aw_iload_n C dX9_enter_152 rfl rfl rfl ?_
            refine mw_iald (k := 11) (N := 60) C hM rfl rfl rfl (by omega) dX9_enter_153 rfl ?_
            refine aw_iload_n C dX9_enter_154 rfl rfl rfl ?_
            refine aw_aload_n C dX9_enter_155 rfl rfl rfl ?_
            refine aw_getf C f_X9_41 hM.1 rfl dX9_enter_156 rfl ?_
            refine aw_iload_n C dX9_enter_159 rfl rfl rfl ?_
            refine mw_iald (k := 14) (N := 60) C hM rfl rfl rfl (by omega) dX9_enter_160 rfl ?_
            refine mw_callV C k_X9_221 hM (M_comes hl hst hM (by exact hN35.symm ▸ h35b)) ⟨by decide, by decide⟩ rfl rfl rfl (Nat.le_of_ble_eq_true rfl) dX9_enter_161 rfl (fun v sg1 hq => ?_)
            obtain ⟨rfl, hM, hF1⟩ := hq
            have hF := MF.tr hF hF1
            refine mw_iast (k := 25) (N := 60) C hM hF rfl rfl rfl (by omega) dX9_enter_164 rfl (fun sg hM hF => ?_)
            refine aw_aload_n C dX9_enter_165 rfl rfl rfl ?_
            refine aw_getf C f_X9_74 hM.1 rfl dX9_enter_166 rfl ?_
            refine aw_iload_n C dX9_enter_169 rfl rfl rfl ?_
            refine mw_iald (k := 25) (N := 60) C hM rfl rfl rfl (by omega) dX9_enter_170 rfl ?_
            exact aw_iret C rfl (Nat.le_refl _) (Nat.le_refl _) (PO.of (by
    have hk : isKin u a b = true := by rw [← isKin_I hI]; exact c116
    have hdp : dutyPart u p = 50 := by simp [dutyPart, ea, eb, clampI (show a < 2 ^ 31 by omega), clampI (show b < 2 ^ 31 by omega), c77, c92, hk]
    rw [opEnter, if_neg (by simp [c6]), hpc, if_neg (by simp [c18]), hwo, hdp]
    refine Prod.ext rfl (Prod.ext ?_ ?_)
    · show nI (u.2.2.1 35) = (uI _ 25 p _).1 25 p
      rw [uI_I, if_pos rfl, if_pos rfl]
      exact congrArg nI hN35.symm
    · exact enter_eq.symm) hM hF) dX9_enter_171
        · have c92 : u.1 11 p = 2 := W11 ▸ c92
          refine aw_bipush (v := 100) C dX9_enter_95 rfl rfl ?_
          refine aw_goto (tgt := 126) C dX9_enter_97 (by decide) ?_
          refine aw_istore (ls' := [(4, _), (2, _), (0, _), (1, _)]) C dX9_enter_126 (by decide) rfl rfl ?_
          refine aw_aload_n C dX9_enter_128 rfl rfl rfl ?_
          refine aw_dup C dX9_enter_129 rfl rfl ?_
          refine aw_getf C f_X9_217 hM.1 rfl dX9_enter_130 rfl ?_
          refine aw_lload_n C dX9_enter_133 rfl rfl rfl ?_
          refine aw_iload C dX9_enter_134 rfl rfl ?_
          refine aw_i2l C dX9_enter_136 rfl ?_
          rw [show (100 : Int32).toInt64 = lN 100 from rfl]
          refine aw_ldiv C dX9_enter_137 (by decide) rfl ?_
          rw [pk_lDiv (by omega) (by decide) (by decide)]
          refine aw_ladd C dX9_enter_138 rfl ?_
          refine mw_put (th' := _) (u' := (uT (tak (ent u p).2) ((tak (ent u p).2).2.2.2.2 + lN (wv * x1 / y1 / 100)))) C hM hF f_X9_217 rfl rfl rfl rfl rfl rfl dX9_enter_139 rfl (fun sg hM hF => ?_)
          refine aw_aload_n C dX9_enter_142 rfl rfl rfl ?_
          refine aw_getf C f_X9_74 hM.1 rfl dX9_enter_143 rfl ?_
          refine aw_iload_n C dX9_enter_146 rfl rfl rfl ?_
          refine aw_aload_n C dX9_enter_147 rfl rfl rfl ?_
          refine aw_aload_n C dX9_enter_148 rfl rfl rfl ?_
          refine aw_getf C f_X9_32 hM.1 rfl dX9_enter_149 rfl ?_
          refine aw_iload_n C dX9_enter_152 rfl rfl rfl ?_
          refine mw_iald (k := 11) (N := 60) C hM rfl rfl rfl (by omega) dX9_enter_153 rfl ?_
          refine aw_iload_n C dX9_enter_154 rfl rfl rfl ?_
          refine aw_aload_n C dX9_enter_155 rfl rfl rfl ?_
          refine aw_getf C f_X9_41 hM.1 rfl dX9_enter_156 rfl ?_
          refine aw_iload_n C dX9_enter_159 rfl rfl rfl ?_
          refine mw_iald (k := 14) (N := 60) C hM rfl rfl rfl (by omega) dX9_enter_160 rfl ?_
          refine mw_callV C k_X9_221 hM (M_comes hl hst hM (by exact hN35.symm ▸ h35b)) ⟨by decide, by decide⟩ rfl rfl rfl (Nat.le_of_ble_eq_true rfl) dX9_enter_161 rfl (fun v sg1 hq => ?_)
          obtain ⟨rfl, hM, hF1⟩ := hq
          have hF := MF.tr hF hF1
          refine mw_iast (k := 25) (N := 60) C hM hF rfl rfl rfl (by omega) dX9_enter_164 rfl (fun sg hM hF => ?_)
          refine aw_aload_n C dX9_enter_165 rfl rfl rfl ?_
          refine aw_getf C f_X9_74 hM.1 rfl dX9_enter_166 rfl ?_
          refine aw_iload_n C dX9_enter_169 rfl rfl rfl ?_
          refine mw_iald (k := 25) (N := 60) C hM rfl rfl rfl (by omega) dX9_enter_170 rfl ?_
          exact aw_iret C rfl (Nat.le_refl _) (Nat.le_refl _) (PO.of (by
    have hdp : dutyPart u p = 100 := by simp [dutyPart, ea, eb, clampI (show a < 2 ^ 31 by omega), clampI (show b < 2 ^ 31 by omega), c77, c92]
    rw [opEnter, if_neg (by simp [c6]), hpc, if_neg (by simp [c18]), hwo, hdp]
    refine Prod.ext rfl (Prod.ext ?_ ?_)
    · show nI (u.2.2.1 35) = (uI _ 25 p _).1 25 p
      rw [uI_I, if_pos rfl, if_pos rfl]
      exact congrArg nI hN35.symm
    · exact enter_eq.symm) hM hF) dX9_enter_171
      · have c77 : u.1 11 p = 0 := W11 ▸ c77
        refine aw_bipush (v := 20) C dX9_enter_80 rfl rfl ?_
        refine aw_goto (tgt := 126) C dX9_enter_82 (by decide) ?_
        refine aw_istore (ls' := [(4, _), (2, _), (0, _), (1, _)]) C dX9_enter_126 (by decide) rfl rfl ?_
        refine aw_aload_n C dX9_enter_128 rfl rfl rfl ?_
        refine aw_dup C dX9_enter_129 rfl rfl ?_
        refine aw_getf C f_X9_217 hM.1 rfl dX9_enter_130 rfl ?_
        refine aw_lload_n C dX9_enter_133 rfl rfl rfl ?_
        refine aw_iload C dX9_enter_134 rfl rfl ?_
        refine aw_i2l C dX9_enter_136 rfl ?_
        rw [show (20 : Int32).toInt64 = lN 20 from rfl]
        refine aw_ldiv C dX9_enter_137 (by decide) rfl ?_
        rw [pk_lDiv (by omega) (by decide) (by decide)]
        refine aw_ladd C dX9_enter_138 rfl ?_
        refine mw_put (th' := _) (u' := (uT (tak (ent u p).2) ((tak (ent u p).2).2.2.2.2 + lN (wv * x1 / y1 / 20)))) C hM hF f_X9_217 rfl rfl rfl rfl rfl rfl dX9_enter_139 rfl (fun sg hM hF => ?_)
        refine aw_aload_n C dX9_enter_142 rfl rfl rfl ?_
        refine aw_getf C f_X9_74 hM.1 rfl dX9_enter_143 rfl ?_
        refine aw_iload_n C dX9_enter_146 rfl rfl rfl ?_
        refine aw_aload_n C dX9_enter_147 rfl rfl rfl ?_
        refine aw_aload_n C dX9_enter_148 rfl rfl rfl ?_
        refine aw_getf C f_X9_32 hM.1 rfl dX9_enter_149 rfl ?_
        refine aw_iload_n C dX9_enter_152 rfl rfl rfl ?_
        refine mw_iald (k := 11) (N := 60) C hM rfl rfl rfl (by omega) dX9_enter_153 rfl ?_
        refine aw_iload_n C dX9_enter_154 rfl rfl rfl ?_
        refine aw_aload_n C dX9_enter_155 rfl rfl rfl ?_
        refine aw_getf C f_X9_41 hM.1 rfl dX9_enter_156 rfl ?_
        refine aw_iload_n C dX9_enter_159 rfl rfl rfl ?_
        refine mw_iald (k := 14) (N := 60) C hM rfl rfl rfl (by omega) dX9_enter_160 rfl ?_
        refine mw_callV C k_X9_221 hM (M_comes hl hst hM (by exact hN35.symm ▸ h35b)) ⟨by decide, by decide⟩ rfl rfl rfl (Nat.le_of_ble_eq_true rfl) dX9_enter_161 rfl (fun v sg1 hq => ?_)
        obtain ⟨rfl, hM, hF1⟩ := hq
        have hF := MF.tr hF hF1
        refine mw_iast (k := 25) (N := 60) C hM hF rfl rfl rfl (by omega) dX9_enter_164 rfl (fun sg hM hF => ?_)
        refine aw_aload_n C dX9_enter_165 rfl rfl rfl ?_
        refine aw_getf C f_X9_74 hM.1 rfl dX9_enter_166 rfl ?_
        refine aw_iload_n C dX9_enter_169 rfl rfl rfl ?_
        refine mw_iald (k := 25) (N := 60) C hM rfl rfl rfl (by omega) dX9_enter_170 rfl ?_
        exact aw_iret C rfl (Nat.le_refl _) (Nat.le_refl _) (PO.of (by
    have hdp : dutyPart u p = 20 := by simp [dutyPart, ea, eb, clampI (show a < 2 ^ 31 by omega), clampI (show b < 2 ^ 31 by omega), c77]
    rw [opEnter, if_neg (by simp [c6]), hpc, if_neg (by simp [c18]), hwo, hdp]
    refine Prod.ext rfl (Prod.ext ?_ ?_)
    · show nI (u.2.2.1 35) = (uI _ 25 p _).1 25 p
      rw [uI_I, if_pos rfl, if_pos rfl]
      exact congrArg nI hN35.symm
    · exact enter_eq.symm) hM hF) dX9_enter_171
    · have c18 := fa_of c18
      refine aw_iconst (v := 2) C dX9_enter_21 rfl rfl ?_
      refine aw_goto (tgt := 26) C dX9_enter_22 (by decide) ?_
      refine mw_put (th' := _) (u' := _) C hM hF f_X9_117 rfl rfl rfl rfl rfl rfl dX9_enter_26 rfl (fun sg hM hF => ?_)
      refine aw_aload_n C dX9_enter_29 rfl rfl rfl ?_
      refine aw_getf C f_X9_117 hM.1 rfl dX9_enter_30 rfl ?_
      refine aw_if_le (tgt := 38) C dX9_enter_33 (by decide) rfl (fun h => by first | exact absurd h (by decide) | exact absurd (by decide) h) (fun _ => ?_)
      refine aw_iconst (v := 0) C dX9_enter_36 rfl rfl ?_
      exact aw_iret C rfl (Nat.le_refl _) (Nat.le_refl _) (PO.of (by rw [opEnter, if_neg (by simp [c6]), hpc, if_pos c18]) hM hF) dX9_enter_37
  · have c6 := fa_of c6
    refine aw_iconst (v := 1) C dX9_enter_9 rfl rfl ?_
    refine aw_goto (tgt := 26) C dX9_enter_10 (by decide) ?_
    refine mw_put (th' := _) (u' := _) C hM hF f_X9_117 rfl rfl rfl rfl rfl rfl dX9_enter_26 rfl (fun sg hM hF => ?_)
    refine aw_aload_n C dX9_enter_29 rfl rfl rfl ?_
    refine aw_getf C f_X9_117 hM.1 rfl dX9_enter_30 rfl ?_
    refine aw_if_le (tgt := 38) C dX9_enter_33 (by decide) rfl (fun h => by first | exact absurd h (by decide) | exact absurd (by decide) h) (fun _ => ?_)
    refine aw_iconst (v := 0) C dX9_enter_36 rfl rfl ?_
    exact aw_iret C rfl (Nat.le_refl _) (Nat.le_refl _) (PO.of (by simp [opEnter, c6]) hM hF) dX9_enter_37
