set_option maxRecDepth 100000 in
theorem M_revoke {g : Gx} {l : Launch} (hl : l.flags = flags0) (hst : g.Stable) {ad : Nat → Nat} {th : Int32} {u : MU} {sg : Sg} (hM : MS g ad th u sg) (hW : WN u) (hz6 : ∀ d, d < 60 → narrow .boolean (.int (u.1 26 d)) = .int (u.1 26 d)) {v : Int32} {t : Bool} : MM g l yX9_revoke cX9_revoke 4 (some .boolean) (rmM 3) sg [.ref (ad 0), .int v, .int (b2i t)] (PO g ad sg (opRevoke u v t)) noX := by
  refine MM.of hl hst (by decide) (Nat.le_of_ble_eq_true rfl) (fun x hg hlx C hin hout hargs => ?_)
  subst hg; subst hlx
  have C : AWC x cX9_revoke 4 RX9 (rmM 3) (some .boolean) := C
  have hF : MF ad sg sg := MF.rf
  show AW x (RQ x _ _ _ _) 0 0 sg 0 [(0, .ref (ad 0)), (1, .int v), (2, .int (b2i t))] []
  refine aw_aload_n C dX9_revoke_0 rfl rfl rfl ?_
  refine aw_aload_n C dX9_revoke_1 rfl rfl rfl ?_
  refine aw_iload_n C dX9_revoke_2 rfl rfl rfl ?_
  refine mw_callVp C k_X9_165 hM (M_isDeed hl hst hM) ⟨by decide, by decide⟩ rfl rfl rfl (Nat.le_of_ble_eq_true rfl) dX9_revoke_3 rfl ?_
  refine aw_if_ne (tgt := 13) C dX9_revoke_6 (by decide) rfl (fun c6 => ?_) (fun c6 => ?_)
  · have c6 := tr_of c6
    obtain ⟨p, hp, rfl⟩ := isDd_of hW c6
    have hp60 : p < 60 := by have := hW.2.1; omega
    have hpc := clampI (n := p) (by omega)
    refine aw_aload_n C dX9_revoke_13 rfl rfl rfl ?_
    refine aw_getf C f_X9_32 hM.1 rfl dX9_revoke_14 rfl ?_
    refine aw_iload_n C dX9_revoke_17 rfl rfl rfl ?_
    refine mw_iald (k := 11) (N := 60) C hM rfl rfl rfl (by omega) dX9_revoke_18 rfl ?_
    refine aw_iconst (v := 3) C dX9_revoke_19 rfl rfl ?_
    refine aw_icmp_ne (tgt := 32) C dX9_revoke_20 (by decide) rfl (fun c20 => ?_) (fun c20 => ?_)
    · refine aw_iconst (v := 2) C dX9_revoke_32 rfl rfl ?_
      refine aw_goto (tgt := 37) C dX9_revoke_33 (by decide) ?_
      refine mw_put (th' := _) (u' := _) C hM hF f_X9_117 rfl rfl rfl rfl rfl rfl dX9_revoke_37 rfl (fun sg hM hF => ?_)
      refine aw_aload_n C dX9_revoke_40 rfl rfl rfl ?_
      refine aw_getf C f_X9_117 hM.1 rfl dX9_revoke_41 rfl ?_
      refine aw_if_le (tgt := 49) C dX9_revoke_44 (by decide) rfl (fun h => by first | exact absurd h (by decide) | exact absurd (by decide) h) (fun _ => ?_)
      refine aw_iconst (v := 0) C dX9_revoke_47 rfl rfl ?_
      exact aw_iret C (by first | decide | exact hz6 _ hp60) (Nat.le_refl _) (Nat.le_refl _) (PO.of (by simp [opRevoke, b2i, uI_I, c6, c20, hpc]) hM hF) dX9_revoke_48
    · refine aw_aload_n C dX9_revoke_23 rfl rfl rfl ?_
      refine aw_getf C f_X9_65 hM.1 rfl dX9_revoke_24 rfl ?_
      refine aw_iload_n C dX9_revoke_27 rfl rfl rfl ?_
      refine mw_iald (k := 22) (N := 60) C hM rfl rfl rfl (by omega) dX9_revoke_28 rfl ?_
      refine aw_if_ne (tgt := 36) C dX9_revoke_29 (by decide) rfl (fun c29 => ?_) (fun c29 => ?_)
      · refine aw_iconst (v := 0) C dX9_revoke_36 rfl rfl ?_
        refine mw_put (th' := _) (u' := _) C hM hF f_X9_117 rfl rfl rfl rfl rfl rfl dX9_revoke_37 rfl (fun sg hM hF => ?_)
        refine aw_aload_n C dX9_revoke_40 rfl rfl rfl ?_
        refine aw_getf C f_X9_117 hM.1 rfl dX9_revoke_41 rfl ?_
        refine aw_if_le (tgt := 49) C dX9_revoke_44 (by decide) rfl (fun _ => ?_) (fun h => by first | exact absurd h (by decide) | exact absurd (by decide) h)
        refine aw_aload_n C dX9_revoke_49 rfl rfl rfl ?_
        refine aw_getf C f_X9_77 hM.1 rfl dX9_revoke_50 rfl ?_
        refine aw_iload_n C dX9_revoke_53 rfl rfl rfl ?_
        refine mw_zald (k := 26) (N := 60) C hM rfl rfl rfl (by omega) dX9_revoke_54 rfl ?_
        refine aw_istore_n (ls' := [(3, _), (0, _), (1, _), (2, _)]) C dX9_revoke_55 rfl (by decide) rfl rfl ?_
        refine aw_aload_n C dX9_revoke_56 rfl rfl rfl ?_
        refine aw_getf C f_X9_77 hM.1 rfl dX9_revoke_57 rfl ?_
        refine aw_iload_n C dX9_revoke_60 rfl rfl rfl ?_
        refine aw_iconst (v := 1) C dX9_revoke_61 rfl rfl ?_
        refine mw_zast (k := 26) (N := 60) C hM hF rfl rfl rfl (by omega) (by decide) dX9_revoke_62 rfl (fun sg hM hF => ?_)
        refine aw_aload_n C dX9_revoke_63 rfl rfl rfl ?_
        refine aw_getf C f_X9_80 hM.1 rfl dX9_revoke_64 rfl ?_
        refine aw_iload_n C dX9_revoke_67 rfl rfl rfl ?_
        refine aw_aload_n C dX9_revoke_68 rfl rfl rfl ?_
        refine aw_getf C f_X9_80 hM.1 rfl dX9_revoke_69 rfl ?_
        refine aw_iload_n C dX9_revoke_72 rfl rfl rfl ?_
        refine mw_zald (k := 27) (N := 60) C hM rfl rfl rfl (by omega) dX9_revoke_73 rfl ?_
        refine aw_if_ne (tgt := 81) C dX9_revoke_74 (by decide) rfl (fun c74 => ?_) (fun c74 => ?_)
        · refine aw_iconst (v := 1) C dX9_revoke_81 rfl rfl ?_
          refine aw_goto (tgt := 86) C dX9_revoke_82 (by decide) ?_
          refine mw_zast (k := 27) (N := 60) C hM hF rfl rfl rfl (by omega) (by decide) dX9_revoke_86 rfl (fun sg hM hF => ?_)
          refine aw_iload_n C dX9_revoke_87 rfl rfl rfl ?_
          exact aw_iret C (by first | decide | exact hz6 _ hp60) (Nat.le_refl _) (Nat.le_refl _) (PO.of (by have h74 := c74; simp [uI_I] at h74; simp [opRevoke, b2i, uI_I, c6, c20, c29, h74, hpc]) hM hF) dX9_revoke_88
        · refine aw_iload_n C dX9_revoke_77 rfl rfl rfl ?_
          refine aw_if_eq (tgt := 85) C dX9_revoke_78 (by decide) rfl (fun c78 => ?_) (fun c78 => ?_)
          · have c78 := fa_of c78
            refine aw_iconst (v := 0) C dX9_revoke_85 rfl rfl ?_
            refine mw_zast (k := 27) (N := 60) C hM hF rfl rfl rfl (by omega) (by decide) dX9_revoke_86 rfl (fun sg hM hF => ?_)
            refine aw_iload_n C dX9_revoke_87 rfl rfl rfl ?_
            exact aw_iret C (by first | decide | exact hz6 _ hp60) (Nat.le_refl _) (Nat.le_refl _) (PO.of (by have h74 := c74; simp [uI_I] at h74; simp [opRevoke, b2i, uI_I, c6, c20, c29, h74, c78, hpc]) hM hF) dX9_revoke_88
          · have c78 := tr_of c78
            refine aw_iconst (v := 1) C dX9_revoke_81 rfl rfl ?_
            refine aw_goto (tgt := 86) C dX9_revoke_82 (by decide) ?_
            refine mw_zast (k := 27) (N := 60) C hM hF rfl rfl rfl (by omega) (by decide) dX9_revoke_86 rfl (fun sg hM hF => ?_)
            refine aw_iload_n C dX9_revoke_87 rfl rfl rfl ?_
            exact aw_iret C (by first | decide | exact hz6 _ hp60) (Nat.le_refl _) (Nat.le_refl _) (PO.of (by have h74 := c74; simp [uI_I] at h74; simp [opRevoke, b2i, uI_I, c6, c20, c29, h74, c78, hpc]) hM hF) dX9_revoke_88
      · refine aw_iconst (v := 2) C dX9_revoke_32 rfl rfl ?_
        refine aw_goto (tgt := 37) C dX9_revoke_33 (by decide) ?_
        refine mw_put (th' := _) (u' := _) C hM hF f_X9_117 rfl rfl rfl rfl rfl rfl dX9_revoke_37 rfl (fun sg hM hF => ?_)
        refine aw_aload_n C dX9_revoke_40 rfl rfl rfl ?_
        refine aw_getf C f_X9_117 hM.1 rfl dX9_revoke_41 rfl ?_
        refine aw_if_le (tgt := 49) C dX9_revoke_44 (by decide) rfl (fun h => by first | exact absurd h (by decide) | exact absurd (by decide) h) (fun _ => ?_)
        refine aw_iconst (v := 0) C dX9_revoke_47 rfl rfl ?_
        exact aw_iret C (by first | decide | exact hz6 _ hp60) (Nat.le_refl _) (Nat.le_refl _) (PO.of (by simp [opRevoke, b2i, uI_I, c6, c20, c29, hpc]) hM hF) dX9_revoke_48
  · have c6 := fa_of c6
    refine aw_iconst (v := 1) C dX9_revoke_9 rfl rfl ?_
    refine aw_goto (tgt := 37) C dX9_revoke_10 (by decide) ?_
    refine mw_put (th' := _) (u' := _) C hM hF f_X9_117 rfl rfl rfl rfl rfl rfl dX9_revoke_37 rfl (fun sg hM hF => ?_)
    refine aw_aload_n C dX9_revoke_40 rfl rfl rfl ?_
    refine aw_getf C f_X9_117 hM.1 rfl dX9_revoke_41 rfl ?_
    refine aw_if_le (tgt := 49) C dX9_revoke_44 (by decide) rfl (fun h => by first | exact absurd h (by decide) | exact absurd (by decide) h) (fun _ => ?_)
    refine aw_iconst (v := 0) C dX9_revoke_47 rfl rfl ?_
    exact aw_iret C (by first | decide | exact hz6 _ hp60) (Nat.le_refl _) (Nat.le_refl _) (PO.of (by simp [opRevoke, b2i, uI_I, c6]) hM hF) dX9_revoke_48
set_option maxRecDepth 100000 in
theorem M_witness {g : Gx} {l : Launch} (hl : l.flags = flags0) (hst : g.Stable) {ad : Nat → Nat} {th : Int32} {u : MU} {sg : Sg} (hM : MS g ad th u sg) (hW : WN u) (hP : WP u) (hD : WD u) {v w : Int32} : MM g l yX9_witness cX9_witness 4 (some .int) (rmM 4) sg [.ref (ad 0), .int v, .int w] (PO g ad sg (opWitness u v w)) noX := by
  refine MM.of hl hst (by decide) (Nat.le_of_ble_eq_true rfl) (fun x hg hlx C hin hout hargs => ?_)
  subst hg; subst hlx
  have C : AWC x cX9_witness 4 RX9 (rmM 4) (some .int) := C
  have hF : MF ad sg sg := MF.rf
  show AW x (RQ x _ _ _ _) 0 0 sg 0 [(0, .ref (ad 0)), (1, .int v), (2, .int w)] []
  obtain ⟨sg0, hsg0⟩ : ∃ s, s = sg := ⟨_, rfl⟩
  have hF : MF ad sg0 sg := by rw [hsg0]; exact hF
  show AW x (RQ x (PO x.g ad sg (opWitness u v w)) noX (rmM 4).cells (rmM 4).slots) 0 0 sg 0 [(0, .ref (ad 0)), (1, .int v), (2, .int w)] []
  rw [show PO x.g ad sg = PO x.g ad sg0 by rw [hsg0]]
  have k96 : ∀ (p q : Nat) (z : Bool) (sg : Sg), MS x.g ad 0 u sg → MF ad sg0 sg → p < 60 → q < 12 → isDd u (nI p) = true → isP u (nI q) = true → v = nI p → w = nI q → z = (able u q && (!decide (nI q = u.1 12 p) && (!decide (nI q = u.1 13 p) && (!isKin u q (u.1 12 p).toNatClampNeg && !isKin u q (u.1 13 p).toNatClampNeg)))) → AW x (RQ x (PO x.g ad sg0 (opWitness u v w)) noX (rmM 4).cells (rmM 4).slots) 0 0 sg 96 [(0, .ref (ad 0)), (1, .int (nI p)), (2, .int (nI q)), (3, .int (b2i z))] [] := by
    intro p q z sg hM hF hp60 hq12 ip iq ev ew hz
    subst ev; subst ew
    have hpc := clampI (n := p) (by omega)
    have hqc := clampI (n := q) (by omega)
    refine aw_aload_n C dX9_witness_96 rfl rfl rfl ?_
    refine aw_aload_n C dX9_witness_97 rfl rfl rfl ?_
    refine aw_getf C f_X9_65 hM.1 rfl dX9_witness_98 rfl ?_
    refine aw_iload_n C dX9_witness_101 rfl rfl rfl ?_
    refine mw_iald (k := 22) (N := 60) C hM rfl rfl rfl (by omega) dX9_witness_102 rfl ?_
    refine aw_if_ne (tgt := 124) C dX9_witness_103 (by decide) rfl (fun c103 => ?_) (fun c103 => ?_)
    · refine aw_iconst (v := 2) C dX9_witness_124 rfl rfl ?_
      refine aw_goto (tgt := 129) C dX9_witness_125 (by decide) ?_
      refine mw_put (th' := _) (u' := _) C hM hF f_X9_117 rfl rfl rfl rfl rfl rfl dX9_witness_129 rfl (fun sg hM hF => ?_)
      refine aw_aload_n C dX9_witness_132 rfl rfl rfl ?_
      refine aw_getf C f_X9_117 hM.1 rfl dX9_witness_133 rfl ?_
      refine aw_if_le (tgt := 141) C dX9_witness_136 (by decide) rfl (fun h => by first | exact absurd h (by decide) | exact absurd (by decide) h) (fun _ => ?_)
      refine aw_iconst (v := 0) C dX9_witness_139 rfl rfl ?_
      exact aw_iret C rfl (Nat.le_refl _) (Nat.le_refl _) (PO.of (by rw [opWitness, if_neg (by simp [ip, iq]), hpc, hqc, if_pos (by rw [← hz]; simp [c103])]) hM hF) dX9_witness_140
    · refine aw_aload_n C dX9_witness_106 rfl rfl rfl ?_
      refine aw_getf C f_X9_62 hM.1 rfl dX9_witness_107 rfl ?_
      refine aw_iload_n C dX9_witness_110 rfl rfl rfl ?_
      refine mw_iald (k := 21) (N := 60) C hM rfl rfl rfl (by omega) dX9_witness_111 rfl ?_
      refine aw_iload_n C dX9_witness_112 rfl rfl rfl ?_
      refine aw_ishr C dX9_witness_113 rfl ?_
      refine aw_iconst (v := 1) C dX9_witness_114 rfl rfl ?_
      refine aw_iand C dX9_witness_115 rfl ?_
      refine aw_iconst (v := 1) C dX9_witness_116 rfl rfl ?_
      refine aw_icmp_eq (tgt := 124) C dX9_witness_117 (by decide) rfl (fun c117 => ?_) (fun c117 => ?_)
      · refine aw_iconst (v := 2) C dX9_witness_124 rfl rfl ?_
        refine aw_goto (tgt := 129) C dX9_witness_125 (by decide) ?_
        refine mw_put (th' := _) (u' := _) C hM hF f_X9_117 rfl rfl rfl rfl rfl rfl dX9_witness_129 rfl (fun sg hM hF => ?_)
        refine aw_aload_n C dX9_witness_132 rfl rfl rfl ?_
        refine aw_getf C f_X9_117 hM.1 rfl dX9_witness_133 rfl ?_
        refine aw_if_le (tgt := 141) C dX9_witness_136 (by decide) rfl (fun h => by first | exact absurd h (by decide) | exact absurd (by decide) h) (fun _ => ?_)
        refine aw_iconst (v := 0) C dX9_witness_139 rfl rfl ?_
        exact aw_iret C rfl (Nat.le_refl _) (Nat.le_refl _) (PO.of (by rw [opWitness, if_neg (by simp [ip, iq]), hpc, hqc, if_pos (by rw [← hz]; simp [c103, c117])]) hM hF) dX9_witness_140
      · refine aw_iload_n C dX9_witness_120 rfl rfl rfl ?_
        refine aw_if_ne (tgt := 128) C dX9_witness_121 (by decide) rfl (fun c121 => ?_) (fun c121 => ?_)
        · have c121 := tr_of c121
          refine aw_iconst (v := 0) C dX9_witness_128 rfl rfl ?_
          refine mw_put (th' := _) (u' := _) C hM hF f_X9_117 rfl rfl rfl rfl rfl rfl dX9_witness_129 rfl (fun sg hM hF => ?_)
          refine aw_aload_n C dX9_witness_132 rfl rfl rfl ?_
          refine aw_getf C f_X9_117 hM.1 rfl dX9_witness_133 rfl ?_
          refine aw_if_le (tgt := 141) C dX9_witness_136 (by decide) rfl (fun _ => ?_) (fun h => by first | exact absurd h (by decide) | exact absurd (by decide) h)
          refine aw_aload_n C dX9_witness_141 rfl rfl rfl ?_
          refine aw_getf C f_X9_59 hM.1 rfl dX9_witness_142 rfl ?_
          refine aw_iload_n C dX9_witness_145 rfl rfl rfl ?_
          refine aw_dup2 C dX9_witness_146 rfl rfl rfl ?_
          refine mw_iald (k := 20) (N := 60) C hM rfl rfl rfl (by omega) dX9_witness_147 rfl ?_
          refine aw_aload_n C dX9_witness_148 rfl rfl rfl ?_
          refine aw_getf C f_X9_62 hM.1 rfl dX9_witness_149 rfl ?_
          refine aw_iload_n C dX9_witness_152 rfl rfl rfl ?_
          refine mw_iald (k := 21) (N := 60) C hM rfl rfl rfl (by omega) dX9_witness_153 rfl ?_
          refine aw_if_eq (tgt := 162) C dX9_witness_154 (by decide) rfl (fun c154 => ?_) (fun c154 => ?_)
          · refine aw_iconst (v := 0) C dX9_witness_162 rfl rfl ?_
            refine aw_ior C dX9_witness_163 rfl ?_
            refine mw_iast (k := 20) (N := 60) C hM hF rfl rfl rfl (by omega) dX9_witness_164 rfl (fun sg hM hF => ?_)
            refine aw_aload_n C dX9_witness_165 rfl rfl rfl ?_
            refine aw_getf C f_X9_62 hM.1 rfl dX9_witness_166 rfl ?_
            refine aw_iload_n C dX9_witness_169 rfl rfl rfl ?_
            refine aw_dup2 C dX9_witness_170 rfl rfl rfl ?_
            refine mw_iald (k := 21) (N := 60) C hM rfl rfl rfl (by omega) dX9_witness_171 rfl ?_
            refine aw_iconst (v := 1) C dX9_witness_172 rfl rfl ?_
            refine aw_iload_n C dX9_witness_173 rfl rfl rfl ?_
            refine aw_ishl C dX9_witness_174 rfl ?_
            refine aw_ior C dX9_witness_175 rfl ?_
            refine mw_iast (k := 21) (N := 60) C hM hF rfl rfl rfl (by omega) dX9_witness_176 rfl (fun sg hM hF => ?_)
            refine aw_aload_n C dX9_witness_177 rfl rfl rfl ?_
            refine aw_getf C f_X9_59 hM.1 rfl dX9_witness_178 rfl ?_
            refine aw_iload_n C dX9_witness_181 rfl rfl rfl ?_
            refine mw_iald (k := 20) (N := 60) C hM rfl rfl rfl (by omega) dX9_witness_182 rfl ?_
            exact aw_iret C rfl (Nat.le_refl _) (Nat.le_refl _) (PO.of (by rw [opWitness, if_neg (by simp [ip, iq]), hpc, hqc, if_neg (by rw [← hz]; simp [c103, c117, c121])]; simp [uI_I, uI_N, c154]) hM hF) dX9_witness_183
          · refine aw_bipush (v := 8) C dX9_witness_157 rfl rfl ?_
            refine aw_goto (tgt := 163) C dX9_witness_159 (by decide) ?_
            refine aw_ior C dX9_witness_163 rfl ?_
            refine mw_iast (k := 20) (N := 60) C hM hF rfl rfl rfl (by omega) dX9_witness_164 rfl (fun sg hM hF => ?_)
            refine aw_aload_n C dX9_witness_165 rfl rfl rfl ?_
            refine aw_getf C f_X9_62 hM.1 rfl dX9_witness_166 rfl ?_
            refine aw_iload_n C dX9_witness_169 rfl rfl rfl ?_
            refine aw_dup2 C dX9_witness_170 rfl rfl rfl ?_
            refine mw_iald (k := 21) (N := 60) C hM rfl rfl rfl (by omega) dX9_witness_171 rfl ?_
            refine aw_iconst (v := 1) C dX9_witness_172 rfl rfl ?_
            refine aw_iload_n C dX9_witness_173 rfl rfl rfl ?_
            refine aw_ishl C dX9_witness_174 rfl ?_
            refine aw_ior C dX9_witness_175 rfl ?_
            refine mw_iast (k := 21) (N := 60) C hM hF rfl rfl rfl (by omega) dX9_witness_176 rfl (fun sg hM hF => ?_)
            refine aw_aload_n C dX9_witness_177 rfl rfl rfl ?_
            refine aw_getf C f_X9_59 hM.1 rfl dX9_witness_178 rfl ?_
            refine aw_iload_n C dX9_witness_181 rfl rfl rfl ?_
            refine mw_iald (k := 20) (N := 60) C hM rfl rfl rfl (by omega) dX9_witness_182 rfl ?_
            exact aw_iret C rfl (Nat.le_refl _) (Nat.le_refl _) (PO.of (by rw [opWitness, if_neg (by simp [ip, iq]), hpc, hqc, if_neg (by rw [← hz]; simp [c103, c117, c121])]; simp [uI_I, uI_N, c154]) hM hF) dX9_witness_183
        · have c121 := fa_of c121
          refine aw_iconst (v := 2) C dX9_witness_124 rfl rfl ?_
          refine aw_goto (tgt := 129) C dX9_witness_125 (by decide) ?_
          refine mw_put (th' := _) (u' := _) C hM hF f_X9_117 rfl rfl rfl rfl rfl rfl dX9_witness_129 rfl (fun sg hM hF => ?_)
          refine aw_aload_n C dX9_witness_132 rfl rfl rfl ?_
          refine aw_getf C f_X9_117 hM.1 rfl dX9_witness_133 rfl ?_
          refine aw_if_le (tgt := 141) C dX9_witness_136 (by decide) rfl (fun h => by first | exact absurd h (by decide) | exact absurd (by decide) h) (fun _ => ?_)
          refine aw_iconst (v := 0) C dX9_witness_139 rfl rfl ?_
          exact aw_iret C rfl (Nat.le_refl _) (Nat.le_refl _) (PO.of (by rw [opWitness, if_neg (by simp [ip, iq]), hpc, hqc, if_pos (by rw [← hz]; simp [c103, c117, c121])]) hM hF) dX9_witness_140
  refine aw_aload_n C dX9_witness_0 rfl rfl rfl ?_
  refine aw_aload_n C dX9_witness_1 rfl rfl rfl ?_
  refine aw_iload_n C dX9_witness_2 rfl rfl rfl ?_
  refine mw_callVp C k_X9_165 hM (M_isDeed hl hst hM) ⟨by decide, by decide⟩ rfl rfl rfl (Nat.le_of_ble_eq_true rfl) dX9_witness_3 rfl ?_
  refine aw_if_eq (tgt := 21) C dX9_witness_6 (by decide) rfl (fun c6 => ?_) (fun c6 => ?_)
  · have c6 := fa_of c6
    refine aw_iconst (v := 1) C dX9_witness_21 rfl rfl ?_
    refine mw_put (th' := _) (u' := _) C hM hF f_X9_117 rfl rfl rfl rfl rfl rfl dX9_witness_22 rfl (fun sg hM hF => ?_)
    refine aw_aload_n C dX9_witness_25 rfl rfl rfl ?_
    refine aw_getf C f_X9_117 hM.1 rfl dX9_witness_26 rfl ?_
    refine aw_if_le (tgt := 34) C dX9_witness_29 (by decide) rfl (fun h => by first | exact absurd h (by decide) | exact absurd (by decide) h) (fun _ => ?_)
    refine aw_iconst (v := 0) C dX9_witness_32 rfl rfl ?_
    exact aw_iret C rfl (Nat.le_refl _) (Nat.le_refl _) (PO.of (by simp [opWitness, c6]) hM hF) dX9_witness_33
  · have c6 := tr_of c6
    refine aw_aload_n C dX9_witness_9 rfl rfl rfl ?_
    refine aw_iload_n C dX9_witness_10 rfl rfl rfl ?_
    refine mw_callVp C k_X9_137 hM (M_isPerson hl hst hM) ⟨by decide, by decide⟩ rfl rfl rfl (Nat.le_of_ble_eq_true rfl) dX9_witness_11 rfl ?_
    refine aw_if_eq (tgt := 21) C dX9_witness_14 (by decide) rfl (fun c14 => ?_) (fun c14 => ?_)
    · have c14 := fa_of c14
      refine aw_iconst (v := 1) C dX9_witness_21 rfl rfl ?_
      refine mw_put (th' := _) (u' := _) C hM hF f_X9_117 rfl rfl rfl rfl rfl rfl dX9_witness_22 rfl (fun sg hM hF => ?_)
      refine aw_aload_n C dX9_witness_25 rfl rfl rfl ?_
      refine aw_getf C f_X9_117 hM.1 rfl dX9_witness_26 rfl ?_
      refine aw_if_le (tgt := 34) C dX9_witness_29 (by decide) rfl (fun h => by first | exact absurd h (by decide) | exact absurd (by decide) h) (fun _ => ?_)
      refine aw_iconst (v := 0) C dX9_witness_32 rfl rfl ?_
      exact aw_iret C rfl (Nat.le_refl _) (Nat.le_refl _) (PO.of (by simp [opWitness, c6, c14]) hM hF) dX9_witness_33
    · have c14 := tr_of c14
      refine aw_iconst (v := 0) C dX9_witness_17 rfl rfl ?_
      refine aw_goto (tgt := 22) C dX9_witness_18 (by decide) ?_
      refine mw_put (th' := _) (u' := _) C hM hF f_X9_117 rfl rfl rfl rfl rfl rfl dX9_witness_22 rfl (fun sg hM hF => ?_)
      refine aw_aload_n C dX9_witness_25 rfl rfl rfl ?_
      refine aw_getf C f_X9_117 hM.1 rfl dX9_witness_26 rfl ?_
      refine aw_if_le (tgt := 34) C dX9_witness_29 (by decide) rfl (fun _ => ?_) (fun h => by first | exact absurd h (by decide) | exact absurd (by decide) h)
      obtain ⟨p, hp, rfl⟩ := isDd_of hW c6
      have hp60 : p < 60 := by have := hW.2.1; omega
      have hpc := clampI (n := p) (by omega)
      obtain ⟨q, hq, rfl⟩ := isP_of hW c14
      have hq12 : q < 12 := by have := hW.1; omega
      have hqc := clampI (n := q) (by omega)
      obtain ⟨⟨a, ha, ea⟩, b, hb, eb⟩ := hD p hp60
      have hac := clampI (n := a) (by omega)
      have hbc := clampI (n := b) (by omega)
      refine aw_aload_n C dX9_witness_34 rfl rfl rfl ?_
      refine aw_iload_n C dX9_witness_35 rfl rfl rfl ?_
      refine mw_callVp C k_X9_146 hM (M_able hl hst hM hq12) ⟨by decide, by decide⟩ rfl rfl rfl (Nat.le_of_ble_eq_true rfl) dX9_witness_36 rfl ?_
      refine aw_if_eq (tgt := 94) C dX9_witness_39 (by decide) rfl (fun c39 => ?_) (fun c39 => ?_)
      · have c39 := fa_of c39
        refine aw_iconst (v := 0) C dX9_witness_94 rfl rfl ?_
        refine aw_istore_n (ls' := [(3, _), (0, _), (1, _), (2, _)]) C dX9_witness_95 rfl (by decide) rfl rfl ?_
        refine aw_pick (ls' := [(0, _), (1, _), (2, _), (3, _)]) [1, 2, 3, 0] rfl ?_
        exact k96 p q false sg hM hF hp60 hq12 c6 c14 rfl rfl (by simp [ea, eb, hac, hbc, c39])
      · have c39 := tr_of c39
        refine aw_iload_n C dX9_witness_42 rfl rfl rfl ?_
        refine aw_aload_n C dX9_witness_43 rfl rfl rfl ?_
        refine aw_getf C f_X9_35 hM.1 rfl dX9_witness_44 rfl ?_
        refine aw_iload_n C dX9_witness_47 rfl rfl rfl ?_
        refine mw_iald (k := 12) (N := 60) C hM rfl rfl rfl (by omega) dX9_witness_48 rfl ?_
        refine aw_icmp_eq (tgt := 94) C dX9_witness_49 (by decide) rfl (fun c49 => ?_) (fun c49 => ?_)
        · refine aw_iconst (v := 0) C dX9_witness_94 rfl rfl ?_
          refine aw_istore_n (ls' := [(3, _), (0, _), (1, _), (2, _)]) C dX9_witness_95 rfl (by decide) rfl rfl ?_
          refine aw_pick (ls' := [(0, _), (1, _), (2, _), (3, _)]) [1, 2, 3, 0] rfl ?_
          exact k96 p q false sg hM hF hp60 hq12 c6 c14 rfl rfl (by simp [ea, eb, hac, hbc, c39, c49])
        · refine aw_iload_n C dX9_witness_52 rfl rfl rfl ?_
          refine aw_aload_n C dX9_witness_53 rfl rfl rfl ?_
          refine aw_getf C f_X9_38 hM.1 rfl dX9_witness_54 rfl ?_
          refine aw_iload_n C dX9_witness_57 rfl rfl rfl ?_
          refine mw_iald (k := 13) (N := 60) C hM rfl rfl rfl (by omega) dX9_witness_58 rfl ?_
          refine aw_icmp_eq (tgt := 94) C dX9_witness_59 (by decide) rfl (fun c59 => ?_) (fun c59 => ?_)
          · refine aw_iconst (v := 0) C dX9_witness_94 rfl rfl ?_
            refine aw_istore_n (ls' := [(3, _), (0, _), (1, _), (2, _)]) C dX9_witness_95 rfl (by decide) rfl rfl ?_
            refine aw_pick (ls' := [(0, _), (1, _), (2, _), (3, _)]) [1, 2, 3, 0] rfl ?_
            exact k96 p q false sg hM hF hp60 hq12 c6 c14 rfl rfl (by simp [ea, eb, hac, hbc, c39, (ea ▸ c49), c59])
          · refine aw_aload_n C dX9_witness_62 rfl rfl rfl ?_
            refine aw_iload_n C dX9_witness_63 rfl rfl rfl ?_
            refine aw_aload_n C dX9_witness_64 rfl rfl rfl ?_
            refine aw_getf C f_X9_35 hM.1 rfl dX9_witness_65 rfl ?_
            refine aw_iload_n C dX9_witness_68 rfl rfl rfl ?_
            refine mw_iald (k := 12) (N := 60) C hM rfl rfl rfl (by omega) dX9_witness_69 rfl ?_
            rw [ea]
            refine mw_callVp C k_X9_175 hM (M_isKin hl hst hM hP hq12 ha) ⟨by decide, by decide⟩ rfl rfl rfl (Nat.le_of_ble_eq_true rfl) dX9_witness_70 rfl ?_
            refine aw_if_ne (tgt := 94) C dX9_witness_73 (by decide) rfl (fun c73 => ?_) (fun c73 => ?_)
            · have c73 := tr_of c73
              refine aw_iconst (v := 0) C dX9_witness_94 rfl rfl ?_
              refine aw_istore_n (ls' := [(3, _), (0, _), (1, _), (2, _)]) C dX9_witness_95 rfl (by decide) rfl rfl ?_
              refine aw_pick (ls' := [(0, _), (1, _), (2, _), (3, _)]) [1, 2, 3, 0] rfl ?_
              exact k96 p q false sg hM hF hp60 hq12 c6 c14 rfl rfl (by simp [ea, eb, hac, hbc, c39, (ea ▸ c49), (eb ▸ c59), c73])
            · have c73 := fa_of c73
              refine aw_aload_n C dX9_witness_76 rfl rfl rfl ?_
              refine aw_iload_n C dX9_witness_77 rfl rfl rfl ?_
              refine aw_aload_n C dX9_witness_78 rfl rfl rfl ?_
              refine aw_getf C f_X9_38 hM.1 rfl dX9_witness_79 rfl ?_
              refine aw_iload_n C dX9_witness_82 rfl rfl rfl ?_
              refine mw_iald (k := 13) (N := 60) C hM rfl rfl rfl (by omega) dX9_witness_83 rfl ?_
              rw [eb]
              refine mw_callVp C k_X9_175 hM (M_isKin hl hst hM hP hq12 hb) ⟨by decide, by decide⟩ rfl rfl rfl (Nat.le_of_ble_eq_true rfl) dX9_witness_84 rfl ?_
              refine aw_if_ne (tgt := 94) C dX9_witness_87 (by decide) rfl (fun c87 => ?_) (fun c87 => ?_)
              · have c87 := tr_of c87
                refine aw_iconst (v := 0) C dX9_witness_94 rfl rfl ?_
                refine aw_istore_n (ls' := [(3, _), (0, _), (1, _), (2, _)]) C dX9_witness_95 rfl (by decide) rfl rfl ?_
                refine aw_pick (ls' := [(0, _), (1, _), (2, _), (3, _)]) [1, 2, 3, 0] rfl ?_
                exact k96 p q false sg hM hF hp60 hq12 c6 c14 rfl rfl (by simp [ea, eb, hac, hbc, c39, (ea ▸ c49), (eb ▸ c59), c73, c87])
              · have c87 := fa_of c87
                refine aw_iconst (v := 1) C dX9_witness_90 rfl rfl ?_
                refine aw_goto (tgt := 95) C dX9_witness_91 (by decide) ?_
                refine aw_istore_n (ls' := [(3, _), (0, _), (1, _), (2, _)]) C dX9_witness_95 rfl (by decide) rfl rfl ?_
                refine aw_pick (ls' := [(0, _), (1, _), (2, _), (3, _)]) [1, 2, 3, 0] rfl ?_
                exact k96 p q true sg hM hF hp60 hq12 c6 c14 rfl rfl (by simp [ea, eb, hac, hbc, c39, (ea ▸ c49), (eb ▸ c59), c73, c87])
set_option maxRecDepth 100000 in
set_option maxHeartbeats 4000000 in
theorem M_sign {g : Gx} {l : Launch} (hl : l.flags = flags0) (hst : g.Stable) {ad : Nat → Nat} {th : Int32} {u : MU} {sg : Sg} (hM : MS g ad th u sg) (hW : WN u) (hD : WD u) (hB : WB u) {v w k : Int32} {ig : Bool} : MM g l yX9_sign cX9_sign 13 (some .int) (rmM 4) sg [.ref (ad 0), .int v, .int w, .int (b2i ig), .int k] (PO g ad sg (opSign u v w ig k)) noX := by
  refine MM.of hl hst (by decide) (Nat.le_of_ble_eq_true rfl) (fun x hg hlx C hin hout hargs => ?_)
  subst hg; subst hlx
  have C : AWC x cX9_sign 13 RX9 (rmM 4) (some .int) := C
  have hF : MF ad sg sg := MF.rf
  show AW x (RQ x _ _ _ _) 0 0 sg 0 [(0, .ref (ad 0)), (1, .int v), (2, .int w), (3, .int (b2i ig)), (4, .int k)] []
  obtain ⟨sg0, hsg0⟩ : ∃ s, s = sg := ⟨_, rfl⟩
  have hF : MF ad sg0 sg := by rw [hsg0]; exact hF
  show AW x (RQ x (PO x.g ad sg (opSign u v w ig k)) noX (rmM 4).cells (rmM 4).slots) 0 0 sg 0 [(0, .ref (ad 0)), (1, .int v), (2, .int w), (3, .int (b2i ig)), (4, .int k)] []
  rw [show PO x.g ad sg = PO x.g ad sg0 by rw [hsg0]]
  have k50 : ∀ (d o : Nat), d < 60 → o < 12 → isDd u (nI d) = true → isP u (nI o) = true → v = nI d → w = nI o → (¬ k = -1 → isDd u k = true) → AW x (RQ x (PO x.g ad sg0 (opSign u v w ig k)) noX (rmM 4).cells (rmM 4).slots) 0 0 sg 50 [(0, .ref (ad 0)), (1, .int v), (2, .int w), (3, .int (b2i ig)), (4, .int k)] [] := by
    intro d o hd ho id io ev ew ik
    subst ev; subst ew
    have hdc := clampI (n := d) (by omega)
    have hoc := clampI (n := o) (by omega)
    have hk : ¬ k = -1 → ∃ j, j < 60 ∧ k = nI j := fun h => by
      obtain ⟨j, hj, e⟩ := isDd_of hW (ik h)
      exact ⟨j, by have := hW.2.1; omega, e⟩
    obtain ⟨⟨a, ha, ea⟩, b, hb, eb⟩ := hD d hd
    have hac := clampI (n := a) (by omega)
    have hbc := clampI (n := b) (by omega)
    have hno : ¬ (isDd u (nI d) = false ∨ isP u (nI o) = false ∨ (¬ k = -1 ∧ isDd u k = false)) := by
      rintro (h | h | ⟨h1, h2⟩)
      · rw [id] at h; cases h
      · rw [io] at h; cases h
      · rw [ik h1] at h2; cases h2
    cases ig with
    | true =>
      have k230 : ∀ (xa xg xc : Bool), xa = sgAlone u d o true → xg = sgGuards u d o true → xc = sgCan u d o true k → AW x (RQ x (PO x.g ad sg0 (opSign u (nI d) (nI o) true k)) noX (rmM 4).cells (rmM 4).slots) 0 0 sg 230 [(0, .ref (ad 0)), (1, .int (nI d)), (2, .int (nI o)), (3, .int (b2i true)), (4, .int k), (6, .int 1), (7, .int (nI a)), (8, .int (nI b)), (9, .int (b2i xa)), (10, .int (b2i xg)), (12, .int (b2i xc))] [] := by
        intro xa xg xc ha1 hg1 hz
        refine aw_aload_n C dX9_sign_230 rfl rfl rfl ?_
        refine aw_aload_n C dX9_sign_231 rfl rfl rfl ?_
        refine aw_getf C f_X9_65 hM.1 rfl dX9_sign_232 rfl ?_
        refine aw_iload_n C dX9_sign_235 rfl rfl rfl ?_
        refine mw_iald (k := 22) (N := 60) C hM rfl rfl rfl (by omega) dX9_sign_236 rfl ?_
        refine aw_if_ne (tgt := 257) C dX9_sign_237 (by decide) rfl (fun c237 => ?_) (fun c237 => ?_)
        · refine aw_iconst (v := 2) C dX9_sign_257 rfl rfl ?_
          refine aw_goto (tgt := 262) C dX9_sign_258 (by decide) ?_
          refine mw_put (th' := _) (u' := _) C hM hF f_X9_117 rfl rfl rfl rfl rfl rfl dX9_sign_262 rfl (fun sg hM hF => ?_)
          refine aw_aload_n C dX9_sign_265 rfl rfl rfl ?_
          refine aw_getf C f_X9_117 hM.1 rfl dX9_sign_266 rfl ?_
          refine aw_if_le (tgt := 274) C dX9_sign_269 (by decide) rfl (fun h => by first | exact absurd h (by decide) | exact absurd (by decide) h) (fun _ => ?_)
          refine aw_iconst (v := 0) C dX9_sign_272 rfl rfl ?_
          exact aw_iret C rfl (Nat.le_refl _) (Nat.le_refl _) (PO.of (by rw [opSign, if_neg hno, hdc, hoc, if_pos (by rw [← hz]; simp [prt, c237])]) hM hF) dX9_sign_273
        · refine aw_aload_n C dX9_sign_240 rfl rfl rfl ?_
          refine aw_getf C f_X9_59 hM.1 rfl dX9_sign_241 rfl ?_
          refine aw_iload_n C dX9_sign_244 rfl rfl rfl ?_
          refine mw_iald (k := 20) (N := 60) C hM rfl rfl rfl (by omega) dX9_sign_245 rfl ?_
          refine aw_iload C dX9_sign_246 rfl rfl ?_
          refine aw_iand C dX9_sign_248 rfl ?_
          refine aw_if_gt (tgt := 257) C dX9_sign_249 (by decide) rfl (fun c249 => ?_) (fun c249 => ?_)
          · refine aw_iconst (v := 2) C dX9_sign_257 rfl rfl ?_
            refine aw_goto (tgt := 262) C dX9_sign_258 (by decide) ?_
            refine mw_put (th' := _) (u' := _) C hM hF f_X9_117 rfl rfl rfl rfl rfl rfl dX9_sign_262 rfl (fun sg hM hF => ?_)
            refine aw_aload_n C dX9_sign_265 rfl rfl rfl ?_
            refine aw_getf C f_X9_117 hM.1 rfl dX9_sign_266 rfl ?_
            refine aw_if_le (tgt := 274) C dX9_sign_269 (by decide) rfl (fun h => by first | exact absurd h (by decide) | exact absurd (by decide) h) (fun _ => ?_)
            refine aw_iconst (v := 0) C dX9_sign_272 rfl rfl ?_
            exact aw_iret C rfl (Nat.le_refl _) (Nat.le_refl _) (PO.of (by rw [opSign, if_neg hno, hdc, hoc, if_pos (by rw [← hz]; simp [prt, c237, c249])]) hM hF) dX9_sign_273
          · refine aw_iload C dX9_sign_252 rfl rfl ?_
            refine aw_if_ne (tgt := 261) C dX9_sign_254 (by decide) rfl (fun c254 => ?_) (fun c254 => ?_)
            · have c254 := tr_of c254
              refine aw_iconst (v := 0) C dX9_sign_261 rfl rfl ?_
              refine mw_put (th' := _) (u' := _) C hM hF f_X9_117 rfl rfl rfl rfl rfl rfl dX9_sign_262 rfl (fun sg hM hF => ?_)
              refine aw_aload_n C dX9_sign_265 rfl rfl rfl ?_
              refine aw_getf C f_X9_117 hM.1 rfl dX9_sign_266 rfl ?_
              refine aw_if_le (tgt := 274) C dX9_sign_269 (by decide) rfl (fun _ => ?_) (fun h => by first | exact absurd h (by decide) | exact absurd (by decide) h)
              refine aw_aload_n C dX9_sign_274 rfl rfl rfl ?_
              refine aw_getf C f_X9_59 hM.1 rfl dX9_sign_275 rfl ?_
              refine aw_iload_n C dX9_sign_278 rfl rfl rfl ?_
              refine aw_dup2 C dX9_sign_279 rfl rfl rfl ?_
              refine mw_iald (k := 20) (N := 60) C hM rfl rfl rfl (by omega) dX9_sign_280 rfl ?_
              refine aw_iload C dX9_sign_281 rfl rfl ?_
              refine aw_ior C dX9_sign_283 rfl ?_
              refine mw_iast (k := 20) (N := 60) C hM hF rfl rfl rfl (by omega) dX9_sign_284 rfl (fun sg hM hF => ?_)
              refine aw_iload_n C dX9_sign_285 rfl rfl rfl ?_
              refine aw_if_eq (tgt := 307) C dX9_sign_286 (by decide) rfl (fun h => by first | exact absurd h (by decide) | exact absurd (by decide) h) (fun _ => ?_)
              refine aw_iload C dX9_sign_289 rfl rfl ?_
              refine aw_if_ne (tgt := 307) C dX9_sign_291 (by decide) rfl (fun c291 => ?_) (fun c291 => ?_)
              · have c291 := tr_of c291
                refine aw_aload_n C dX9_sign_307 rfl rfl rfl ?_
                refine aw_getf C f_X9_59 hM.1 rfl dX9_sign_308 rfl ?_
                refine aw_iload_n C dX9_sign_311 rfl rfl rfl ?_
                refine mw_iald (k := 20) (N := 60) C hM rfl rfl rfl (by omega) dX9_sign_312 rfl ?_
                exact aw_iret C rfl (Nat.le_refl _) (Nat.le_refl _) (PO.of (by rw [opSign, if_neg hno, hdc, hoc, if_neg (by rw [← hz]; simp [prt, c237, c249, c254])]; simp [prt, uI_I, uI_N, ← ha1, ← hg1, c291]) hM hF) dX9_sign_313
              · have c291 := fa_of c291
                refine aw_iload C dX9_sign_294 rfl rfl ?_
                refine aw_if_ne (tgt := 307) C dX9_sign_296 (by decide) rfl (fun c296 => ?_) (fun c296 => ?_)
                · have c296 := tr_of c296
                  refine aw_aload_n C dX9_sign_307 rfl rfl rfl ?_
                  refine aw_getf C f_X9_59 hM.1 rfl dX9_sign_308 rfl ?_
                  refine aw_iload_n C dX9_sign_311 rfl rfl rfl ?_
                  refine mw_iald (k := 20) (N := 60) C hM rfl rfl rfl (by omega) dX9_sign_312 rfl ?_
                  exact aw_iret C rfl (Nat.le_refl _) (Nat.le_refl _) (PO.of (by rw [opSign, if_neg hno, hdc, hoc, if_neg (by rw [← hz]; simp [prt, c237, c249, c254])]; simp [prt, uI_I, uI_N, ← ha1, ← hg1, c291, c296]) hM hF) dX9_sign_313
                · have c296 := fa_of c296
                  refine aw_aload_n C dX9_sign_299 rfl rfl rfl ?_
                  refine aw_getf C f_X9_56 hM.1 rfl dX9_sign_300 rfl ?_
                  refine aw_iload_n C dX9_sign_303 rfl rfl rfl ?_
                  refine aw_iload C dX9_sign_304 rfl rfl ?_
                  refine mw_iast (k := 19) (N := 60) C hM hF rfl rfl rfl (by omega) dX9_sign_306 rfl (fun sg hM hF => ?_)
                  refine aw_aload_n C dX9_sign_307 rfl rfl rfl ?_
                  refine aw_getf C f_X9_59 hM.1 rfl dX9_sign_308 rfl ?_
                  refine aw_iload_n C dX9_sign_311 rfl rfl rfl ?_
                  refine mw_iald (k := 20) (N := 60) C hM rfl rfl rfl (by omega) dX9_sign_312 rfl ?_
                  exact aw_iret C rfl (Nat.le_refl _) (Nat.le_refl _) (PO.of (by rw [opSign, if_neg hno, hdc, hoc, if_neg (by rw [← hz]; simp [prt, c237, c249, c254])]; simp [prt, uI_I, uI_N, ← ha1, ← hg1, c291, c296]) hM hF) dX9_sign_313
            · have c254 := fa_of c254
              refine aw_iconst (v := 2) C dX9_sign_257 rfl rfl ?_
              refine aw_goto (tgt := 262) C dX9_sign_258 (by decide) ?_
              refine mw_put (th' := _) (u' := _) C hM hF f_X9_117 rfl rfl rfl rfl rfl rfl dX9_sign_262 rfl (fun sg hM hF => ?_)
              refine aw_aload_n C dX9_sign_265 rfl rfl rfl ?_
              refine aw_getf C f_X9_117 hM.1 rfl dX9_sign_266 rfl ?_
              refine aw_if_le (tgt := 274) C dX9_sign_269 (by decide) rfl (fun h => by first | exact absurd h (by decide) | exact absurd (by decide) h) (fun _ => ?_)
              refine aw_iconst (v := 0) C dX9_sign_272 rfl rfl ?_
              exact aw_iret C rfl (Nat.le_refl _) (Nat.le_refl _) (PO.of (by rw [opSign, if_neg hno, hdc, hoc, if_pos (by rw [← hz]; simp [prt, c237, c249, c254])]) hM hF) dX9_sign_273
      have k194 : ∀ (xa xg xs : Bool), xa = sgAlone u d o true → xg = sgGuards u d o true → xs = sgSigns u d o true k → AW x (RQ x (PO x.g ad sg0 (opSign u (nI d) (nI o) true k)) noX (rmM 4).cells (rmM 4).slots) 0 0 sg 194 [(0, .ref (ad 0)), (1, .int (nI d)), (2, .int (nI o)), (3, .int (b2i true)), (4, .int k), (6, .int 1), (7, .int (nI a)), (8, .int (nI b)), (9, .int (b2i xa)), (10, .int (b2i xg)), (11, .int (b2i xs))] [] := by
        intro xa xg xs ha1 hg1 hs1
        refine aw_iload C dX9_sign_194 rfl rfl ?_
        refine aw_if_ne (tgt := 209) C dX9_sign_196 (by decide) rfl (fun c196 => ?_) (fun c196 => ?_)
        · have c196 := tr_of c196
          refine aw_aload_n C dX9_sign_209 rfl rfl rfl ?_
          refine aw_getf C f_X9_32 hM.1 rfl dX9_sign_210 rfl ?_
          refine aw_iload_n C dX9_sign_213 rfl rfl rfl ?_
          refine mw_iald (k := 11) (N := 60) C hM rfl rfl rfl (by omega) dX9_sign_214 rfl ?_
          refine aw_iconst (v := 4) C dX9_sign_215 rfl rfl ?_
          refine aw_icmp_ne (tgt := 223) C dX9_sign_216 (by decide) rfl (fun c216 => ?_) (fun c216 => ?_)
          · refine aw_iconst (v := 1) C dX9_sign_223 rfl rfl ?_
            refine aw_goto (tgt := 228) C dX9_sign_224 (by decide) ?_
            refine aw_istore (ls' := [(12, _), (0, _), (1, _), (2, _), (3, _), (4, _), (6, _), (7, _), (8, _), (9, _), (10, _), (11, _)]) C dX9_sign_228 (by decide) rfl rfl ?_
            refine aw_pick (ls' := [(0, _), (1, _), (2, _), (3, _), (4, _), (6, _), (7, _), (8, _), (9, _), (10, _), (12, _)]) [1, 2, 3, 4, 5, 6, 7, 8, 9, 10, 0] rfl ?_
            exact k230 xa xg true ha1 hg1 (by rw [sgCan, ← ha1, ← hg1, ← hs1]; simp [c196, c216])
          · refine aw_iload_n C dX9_sign_219 rfl rfl rfl ?_
            refine aw_if_eq (tgt := 227) C dX9_sign_220 (by decide) rfl (fun h => by first | exact absurd h (by decide) | exact absurd (by decide) h) (fun _ => ?_)
            refine aw_iconst (v := 1) C dX9_sign_223 rfl rfl ?_
            refine aw_goto (tgt := 228) C dX9_sign_224 (by decide) ?_
            refine aw_istore (ls' := [(12, _), (0, _), (1, _), (2, _), (3, _), (4, _), (6, _), (7, _), (8, _), (9, _), (10, _), (11, _)]) C dX9_sign_228 (by decide) rfl rfl ?_
            refine aw_pick (ls' := [(0, _), (1, _), (2, _), (3, _), (4, _), (6, _), (7, _), (8, _), (9, _), (10, _), (12, _)]) [1, 2, 3, 4, 5, 6, 7, 8, 9, 10, 0] rfl ?_
            exact k230 xa xg true ha1 hg1 (by rw [sgCan, ← ha1, ← hg1, ← hs1]; simp [c196, c216])
        · have c196 := fa_of c196
          refine aw_iload C dX9_sign_199 rfl rfl ?_
          refine aw_if_ne (tgt := 209) C dX9_sign_201 (by decide) rfl (fun c201 => ?_) (fun c201 => ?_)
          · have c201 := tr_of c201
            refine aw_aload_n C dX9_sign_209 rfl rfl rfl ?_
            refine aw_getf C f_X9_32 hM.1 rfl dX9_sign_210 rfl ?_
            refine aw_iload_n C dX9_sign_213 rfl rfl rfl ?_
            refine mw_iald (k := 11) (N := 60) C hM rfl rfl rfl (by omega) dX9_sign_214 rfl ?_
            refine aw_iconst (v := 4) C dX9_sign_215 rfl rfl ?_
            refine aw_icmp_ne (tgt := 223) C dX9_sign_216 (by decide) rfl (fun c216 => ?_) (fun c216 => ?_)
            · refine aw_iconst (v := 1) C dX9_sign_223 rfl rfl ?_
              refine aw_goto (tgt := 228) C dX9_sign_224 (by decide) ?_
              refine aw_istore (ls' := [(12, _), (0, _), (1, _), (2, _), (3, _), (4, _), (6, _), (7, _), (8, _), (9, _), (10, _), (11, _)]) C dX9_sign_228 (by decide) rfl rfl ?_
              refine aw_pick (ls' := [(0, _), (1, _), (2, _), (3, _), (4, _), (6, _), (7, _), (8, _), (9, _), (10, _), (12, _)]) [1, 2, 3, 4, 5, 6, 7, 8, 9, 10, 0] rfl ?_
              exact k230 xa xg true ha1 hg1 (by rw [sgCan, ← ha1, ← hg1, ← hs1]; simp [c196, c201, c216])
            · refine aw_iload_n C dX9_sign_219 rfl rfl rfl ?_
              refine aw_if_eq (tgt := 227) C dX9_sign_220 (by decide) rfl (fun h => by first | exact absurd h (by decide) | exact absurd (by decide) h) (fun _ => ?_)
              refine aw_iconst (v := 1) C dX9_sign_223 rfl rfl ?_
              refine aw_goto (tgt := 228) C dX9_sign_224 (by decide) ?_
              refine aw_istore (ls' := [(12, _), (0, _), (1, _), (2, _), (3, _), (4, _), (6, _), (7, _), (8, _), (9, _), (10, _), (11, _)]) C dX9_sign_228 (by decide) rfl rfl ?_
              refine aw_pick (ls' := [(0, _), (1, _), (2, _), (3, _), (4, _), (6, _), (7, _), (8, _), (9, _), (10, _), (12, _)]) [1, 2, 3, 4, 5, 6, 7, 8, 9, 10, 0] rfl ?_
              exact k230 xa xg true ha1 hg1 (by rw [sgCan, ← ha1, ← hg1, ← hs1]; simp [c196, c201, c216])
          · have c201 := fa_of c201
            refine aw_iload C dX9_sign_204 rfl rfl ?_
            refine aw_if_eq (tgt := 227) C dX9_sign_206 (by decide) rfl (fun c206 => ?_) (fun c206 => ?_)
            · have c206 := fa_of c206
              refine aw_iconst (v := 0) C dX9_sign_227 rfl rfl ?_
              refine aw_istore (ls' := [(12, _), (0, _), (1, _), (2, _), (3, _), (4, _), (6, _), (7, _), (8, _), (9, _), (10, _), (11, _)]) C dX9_sign_228 (by decide) rfl rfl ?_
              refine aw_pick (ls' := [(0, _), (1, _), (2, _), (3, _), (4, _), (6, _), (7, _), (8, _), (9, _), (10, _), (12, _)]) [1, 2, 3, 4, 5, 6, 7, 8, 9, 10, 0] rfl ?_
              exact k230 xa xg false ha1 hg1 (by rw [sgCan, ← ha1, ← hg1, ← hs1]; simp [c196, c201, c206])
            · have c206 := tr_of c206
              refine aw_aload_n C dX9_sign_209 rfl rfl rfl ?_
              refine aw_getf C f_X9_32 hM.1 rfl dX9_sign_210 rfl ?_
              refine aw_iload_n C dX9_sign_213 rfl rfl rfl ?_
              refine mw_iald (k := 11) (N := 60) C hM rfl rfl rfl (by omega) dX9_sign_214 rfl ?_
              refine aw_iconst (v := 4) C dX9_sign_215 rfl rfl ?_
              refine aw_icmp_ne (tgt := 223) C dX9_sign_216 (by decide) rfl (fun c216 => ?_) (fun c216 => ?_)
              · refine aw_iconst (v := 1) C dX9_sign_223 rfl rfl ?_
                refine aw_goto (tgt := 228) C dX9_sign_224 (by decide) ?_
                refine aw_istore (ls' := [(12, _), (0, _), (1, _), (2, _), (3, _), (4, _), (6, _), (7, _), (8, _), (9, _), (10, _), (11, _)]) C dX9_sign_228 (by decide) rfl rfl ?_
                refine aw_pick (ls' := [(0, _), (1, _), (2, _), (3, _), (4, _), (6, _), (7, _), (8, _), (9, _), (10, _), (12, _)]) [1, 2, 3, 4, 5, 6, 7, 8, 9, 10, 0] rfl ?_
                exact k230 xa xg true ha1 hg1 (by rw [sgCan, ← ha1, ← hg1, ← hs1]; simp [c196, c201, c206, c216])
              · refine aw_iload_n C dX9_sign_219 rfl rfl rfl ?_
                refine aw_if_eq (tgt := 227) C dX9_sign_220 (by decide) rfl (fun h => by first | exact absurd h (by decide) | exact absurd (by decide) h) (fun _ => ?_)
                refine aw_iconst (v := 1) C dX9_sign_223 rfl rfl ?_
                refine aw_goto (tgt := 228) C dX9_sign_224 (by decide) ?_
                refine aw_istore (ls' := [(12, _), (0, _), (1, _), (2, _), (3, _), (4, _), (6, _), (7, _), (8, _), (9, _), (10, _), (11, _)]) C dX9_sign_228 (by decide) rfl rfl ?_
                refine aw_pick (ls' := [(0, _), (1, _), (2, _), (3, _), (4, _), (6, _), (7, _), (8, _), (9, _), (10, _), (12, _)]) [1, 2, 3, 4, 5, 6, 7, 8, 9, 10, 0] rfl ?_
                exact k230 xa xg true ha1 hg1 (by rw [sgCan, ← ha1, ← hg1, ← hs1]; simp [c196, c201, c206, c216])
      have k158 : ∀ (xa xg : Bool), xa = sgAlone u d o true → xg = sgGuards u d o true → AW x (RQ x (PO x.g ad sg0 (opSign u (nI d) (nI o) true k)) noX (rmM 4).cells (rmM 4).slots) 0 0 sg 158 [(0, .ref (ad 0)), (1, .int (nI d)), (2, .int (nI o)), (3, .int (b2i true)), (4, .int k), (6, .int 1), (7, .int (nI a)), (8, .int (nI b)), (9, .int (b2i xa)), (10, .int (b2i xg))] [] := by
        intro xa xg ha1 hg1
        refine aw_iload_n C dX9_sign_158 rfl rfl rfl ?_
        refine aw_iload C dX9_sign_159 rfl rfl ?_
        refine aw_icmp_eq (tgt := 191) C dX9_sign_161 (by decide) rfl (fun c161 => ?_) (fun c161 => ?_)
        · refine aw_iconst (v := 0) C dX9_sign_191 rfl rfl ?_
          refine aw_istore (ls' := [(11, _), (0, _), (1, _), (2, _), (3, _), (4, _), (6, _), (7, _), (8, _), (9, _), (10, _)]) C dX9_sign_192 (by decide) rfl rfl ?_
          refine aw_pick (ls' := [(0, _), (1, _), (2, _), (3, _), (4, _), (6, _), (7, _), (8, _), (9, _), (10, _), (11, _)]) [1, 2, 3, 4, 5, 6, 7, 8, 9, 10, 0] rfl ?_
          exact k194 xa xg false ha1 hg1 (by simp [sgSigns, gv, ea, eb, hac, hbc, c161])
        · refine aw_aload_n C dX9_sign_164 rfl rfl rfl ?_
          refine aw_iload_n C dX9_sign_165 rfl rfl rfl ?_
          refine aw_iload_n C dX9_sign_166 rfl rfl rfl ?_
          refine aw_iload C dX9_sign_167 rfl rfl ?_
          refine aw_iload C dX9_sign_169 rfl rfl ?_
          refine mw_callVp C k_X9_171 hM (M_signsBy hl hst hM hD hB hd ho ha hk) ⟨by decide, by decide⟩ rfl rfl rfl (Nat.le_of_ble_eq_true rfl) dX9_sign_171 rfl ?_
          refine aw_if_eq (tgt := 191) C dX9_sign_174 (by decide) rfl (fun c174 => ?_) (fun c174 => ?_)
          · have c174 := fa_of c174
            refine aw_iconst (v := 0) C dX9_sign_191 rfl rfl ?_
            refine aw_istore (ls' := [(11, _), (0, _), (1, _), (2, _), (3, _), (4, _), (6, _), (7, _), (8, _), (9, _), (10, _)]) C dX9_sign_192 (by decide) rfl rfl ?_
            refine aw_pick (ls' := [(0, _), (1, _), (2, _), (3, _), (4, _), (6, _), (7, _), (8, _), (9, _), (10, _), (11, _)]) [1, 2, 3, 4, 5, 6, 7, 8, 9, 10, 0] rfl ?_
            exact k194 xa xg false ha1 hg1 (by simp [sgSigns, gv, ea, eb, hac, hbc, c161, c174])
          · have c174 := tr_of c174
            refine aw_aload_n C dX9_sign_177 rfl rfl rfl ?_
            refine aw_getf C f_X9_32 hM.1 rfl dX9_sign_178 rfl ?_
            refine aw_iload_n C dX9_sign_181 rfl rfl rfl ?_
            refine mw_iald (k := 11) (N := 60) C hM rfl rfl rfl (by omega) dX9_sign_182 rfl ?_
            refine aw_iconst (v := 4) C dX9_sign_183 rfl rfl ?_
            refine aw_icmp_eq (tgt := 191) C dX9_sign_184 (by decide) rfl (fun c184 => ?_) (fun c184 => ?_)
            · refine aw_iconst (v := 0) C dX9_sign_191 rfl rfl ?_
              refine aw_istore (ls' := [(11, _), (0, _), (1, _), (2, _), (3, _), (4, _), (6, _), (7, _), (8, _), (9, _), (10, _)]) C dX9_sign_192 (by decide) rfl rfl ?_
              refine aw_pick (ls' := [(0, _), (1, _), (2, _), (3, _), (4, _), (6, _), (7, _), (8, _), (9, _), (10, _), (11, _)]) [1, 2, 3, 4, 5, 6, 7, 8, 9, 10, 0] rfl ?_
              exact k194 xa xg false ha1 hg1 (by simp [sgSigns, gv, ea, eb, hac, hbc, c161, c174, c184])
            · refine aw_iconst (v := 1) C dX9_sign_187 rfl rfl ?_
              refine aw_goto (tgt := 192) C dX9_sign_188 (by decide) ?_
              refine aw_istore (ls' := [(11, _), (0, _), (1, _), (2, _), (3, _), (4, _), (6, _), (7, _), (8, _), (9, _), (10, _)]) C dX9_sign_192 (by decide) rfl rfl ?_
              refine aw_pick (ls' := [(0, _), (1, _), (2, _), (3, _), (4, _), (6, _), (7, _), (8, _), (9, _), (10, _), (11, _)]) [1, 2, 3, 4, 5, 6, 7, 8, 9, 10, 0] rfl ?_
              exact k194 xa xg true ha1 hg1 (by simp [sgSigns, gv, ea, eb, hac, hbc, c161, c174, c184])
      have k125 : ∀ (xa : Bool), xa = sgAlone u d o true → AW x (RQ x (PO x.g ad sg0 (opSign u (nI d) (nI o) true k)) noX (rmM 4).cells (rmM 4).slots) 0 0 sg 125 [(0, .ref (ad 0)), (1, .int (nI d)), (2, .int (nI o)), (3, .int (b2i true)), (4, .int k), (6, .int 1), (7, .int (nI a)), (8, .int (nI b)), (9, .int (b2i xa))] [] := by
        intro xa ha1
        refine aw_iload_n C dX9_sign_125 rfl rfl rfl ?_
        refine aw_iload C dX9_sign_126 rfl rfl ?_
        refine aw_icmp_eq (tgt := 155) C dX9_sign_128 (by decide) rfl (fun c128 => ?_) (fun c128 => ?_)
        · refine aw_iconst (v := 0) C dX9_sign_155 rfl rfl ?_
          refine aw_istore (ls' := [(10, _), (0, _), (1, _), (2, _), (3, _), (4, _), (6, _), (7, _), (8, _), (9, _)]) C dX9_sign_156 (by decide) rfl rfl ?_
          refine aw_pick (ls' := [(0, _), (1, _), (2, _), (3, _), (4, _), (6, _), (7, _), (8, _), (9, _), (10, _)]) [1, 2, 3, 4, 5, 6, 7, 8, 9, 0] rfl ?_
          exact k158 xa false ha1 (by simp [sgGuards, gv, ea, eb, hac, hbc, c128])
        · refine aw_aload_n C dX9_sign_131 rfl rfl rfl ?_
          refine aw_iload_n C dX9_sign_132 rfl rfl rfl ?_
          refine aw_iload C dX9_sign_133 rfl rfl ?_
          refine mw_callVp C k_X9_168 hM (M_isGuardian hl hst hM ho ha) ⟨by decide, by decide⟩ rfl rfl rfl (Nat.le_of_ble_eq_true rfl) dX9_sign_135 rfl ?_
          refine aw_if_eq (tgt := 155) C dX9_sign_138 (by decide) rfl (fun c138 => ?_) (fun c138 => ?_)
          · have c138 := fa_of c138
            refine aw_iconst (v := 0) C dX9_sign_155 rfl rfl ?_
            refine aw_istore (ls' := [(10, _), (0, _), (1, _), (2, _), (3, _), (4, _), (6, _), (7, _), (8, _), (9, _)]) C dX9_sign_156 (by decide) rfl rfl ?_
            refine aw_pick (ls' := [(0, _), (1, _), (2, _), (3, _), (4, _), (6, _), (7, _), (8, _), (9, _), (10, _)]) [1, 2, 3, 4, 5, 6, 7, 8, 9, 0] rfl ?_
            exact k158 xa false ha1 (by simp [sgGuards, gv, ea, eb, hac, hbc, c128, c138])
          · have c138 := tr_of c138
            refine aw_aload_n C dX9_sign_141 rfl rfl rfl ?_
            refine aw_getf C f_X9_32 hM.1 rfl dX9_sign_142 rfl ?_
            refine aw_iload_n C dX9_sign_145 rfl rfl rfl ?_
            refine mw_iald (k := 11) (N := 60) C hM rfl rfl rfl (by omega) dX9_sign_146 rfl ?_
            refine aw_iconst (v := 4) C dX9_sign_147 rfl rfl ?_
            refine aw_icmp_eq (tgt := 155) C dX9_sign_148 (by decide) rfl (fun c148 => ?_) (fun c148 => ?_)
            · refine aw_iconst (v := 0) C dX9_sign_155 rfl rfl ?_
              refine aw_istore (ls' := [(10, _), (0, _), (1, _), (2, _), (3, _), (4, _), (6, _), (7, _), (8, _), (9, _)]) C dX9_sign_156 (by decide) rfl rfl ?_
              refine aw_pick (ls' := [(0, _), (1, _), (2, _), (3, _), (4, _), (6, _), (7, _), (8, _), (9, _), (10, _)]) [1, 2, 3, 4, 5, 6, 7, 8, 9, 0] rfl ?_
              exact k158 xa false ha1 (by simp [sgGuards, gv, ea, eb, hac, hbc, c128, c138, c148])
            · refine aw_iconst (v := 1) C dX9_sign_151 rfl rfl ?_
              refine aw_goto (tgt := 156) C dX9_sign_152 (by decide) ?_
              refine aw_istore (ls' := [(10, _), (0, _), (1, _), (2, _), (3, _), (4, _), (6, _), (7, _), (8, _), (9, _)]) C dX9_sign_156 (by decide) rfl rfl ?_
              refine aw_pick (ls' := [(0, _), (1, _), (2, _), (3, _), (4, _), (6, _), (7, _), (8, _), (9, _), (10, _)]) [1, 2, 3, 4, 5, 6, 7, 8, 9, 0] rfl ?_
              exact k158 xa true ha1 (by simp [sgGuards, gv, ea, eb, hac, hbc, c128, c138, c148])
      refine aw_iload_n C dX9_sign_50 rfl rfl rfl ?_
      refine aw_if_eq (tgt := 58) C dX9_sign_51 (by decide) rfl (fun h => by first | exact absurd h (by decide) | exact absurd (by decide) h) (fun _ => ?_)
      refine aw_iconst (v := 1) C dX9_sign_54 rfl rfl ?_
      refine aw_goto (tgt := 59) C dX9_sign_55 (by decide) ?_
      refine aw_istore (ls' := [(6, _), (0, _), (1, _), (2, _), (3, _), (4, _)]) C dX9_sign_59 (by decide) rfl rfl ?_
      refine aw_iload_n C dX9_sign_61 rfl rfl rfl ?_
      refine aw_if_eq (tgt := 74) C dX9_sign_62 (by decide) rfl (fun h => by first | exact absurd h (by decide) | exact absurd (by decide) h) (fun _ => ?_)
      refine aw_aload_n C dX9_sign_65 rfl rfl rfl ?_
      refine aw_getf C f_X9_35 hM.1 rfl dX9_sign_66 rfl ?_
      refine aw_iload_n C dX9_sign_69 rfl rfl rfl ?_
      refine mw_iald (k := 12) (N := 60) C hM rfl rfl rfl (by omega) dX9_sign_70 rfl ?_
      refine aw_goto (tgt := 80) C dX9_sign_71 (by decide) ?_
      rw [ea]
      refine aw_istore (ls' := [(7, _), (6, _), (0, _), (1, _), (2, _), (3, _), (4, _)]) C dX9_sign_80 (by decide) rfl rfl ?_
      refine aw_iload_n C dX9_sign_82 rfl rfl rfl ?_
      refine aw_if_eq (tgt := 95) C dX9_sign_83 (by decide) rfl (fun h => by first | exact absurd h (by decide) | exact absurd (by decide) h) (fun _ => ?_)
      refine aw_aload_n C dX9_sign_86 rfl rfl rfl ?_
      refine aw_getf C f_X9_38 hM.1 rfl dX9_sign_87 rfl ?_
      refine aw_iload_n C dX9_sign_90 rfl rfl rfl ?_
      refine mw_iald (k := 13) (N := 60) C hM rfl rfl rfl (by omega) dX9_sign_91 rfl ?_
      refine aw_goto (tgt := 101) C dX9_sign_92 (by decide) ?_
      rw [eb]
      refine aw_istore (ls' := [(8, _), (7, _), (6, _), (0, _), (1, _), (2, _), (3, _), (4, _)]) C dX9_sign_101 (by decide) rfl rfl ?_
      refine aw_iload_n C dX9_sign_103 rfl rfl rfl ?_
      refine aw_iload C dX9_sign_104 rfl rfl ?_
      refine aw_icmp_ne (tgt := 122) C dX9_sign_106 (by decide) rfl (fun c106 => ?_) (fun c106 => ?_)
      · refine aw_iconst (v := 0) C dX9_sign_122 rfl rfl ?_
        refine aw_istore (ls' := [(9, _), (8, _), (7, _), (6, _), (0, _), (1, _), (2, _), (3, _), (4, _)]) C dX9_sign_123 (by decide) rfl rfl ?_
        refine aw_pick (ls' := [(0, _), (1, _), (2, _), (3, _), (4, _), (6, _), (7, _), (8, _), (9, _)]) [4, 5, 6, 7, 8, 3, 2, 1, 0] rfl ?_
        exact k125 false (by simp [sgAlone, gv, ea, eb, hac, hbc, c106])
      · refine aw_aload_n C dX9_sign_109 rfl rfl rfl ?_
        refine aw_iload C dX9_sign_110 rfl rfl ?_
        refine mw_callVp C k_X9_146 hM (M_able hl hst hM ha) ⟨by decide, by decide⟩ rfl rfl rfl (Nat.le_of_ble_eq_true rfl) dX9_sign_112 rfl ?_
        refine aw_if_eq (tgt := 122) C dX9_sign_115 (by decide) rfl (fun c115 => ?_) (fun c115 => ?_)
        · have c115 := fa_of c115
          refine aw_iconst (v := 0) C dX9_sign_122 rfl rfl ?_
          refine aw_istore (ls' := [(9, _), (8, _), (7, _), (6, _), (0, _), (1, _), (2, _), (3, _), (4, _)]) C dX9_sign_123 (by decide) rfl rfl ?_
          refine aw_pick (ls' := [(0, _), (1, _), (2, _), (3, _), (4, _), (6, _), (7, _), (8, _), (9, _)]) [4, 5, 6, 7, 8, 3, 2, 1, 0] rfl ?_
          exact k125 false (by simp [sgAlone, gv, ea, eb, hac, hbc, c106, c115])
        · have c115 := tr_of c115
          refine aw_iconst (v := 1) C dX9_sign_118 rfl rfl ?_
          refine aw_goto (tgt := 123) C dX9_sign_119 (by decide) ?_
          refine aw_istore (ls' := [(9, _), (8, _), (7, _), (6, _), (0, _), (1, _), (2, _), (3, _), (4, _)]) C dX9_sign_123 (by decide) rfl rfl ?_
          refine aw_pick (ls' := [(0, _), (1, _), (2, _), (3, _), (4, _), (6, _), (7, _), (8, _), (9, _)]) [4, 5, 6, 7, 8, 3, 2, 1, 0] rfl ?_
          exact k125 true (by simp [sgAlone, gv, ea, eb, hac, hbc, c106, c115])
    | false =>
      have k230 : ∀ (xa xg xc : Bool), xa = sgAlone u d o false → xg = sgGuards u d o false → xc = sgCan u d o false k → AW x (RQ x (PO x.g ad sg0 (opSign u (nI d) (nI o) false k)) noX (rmM 4).cells (rmM 4).slots) 0 0 sg 230 [(0, .ref (ad 0)), (1, .int (nI d)), (2, .int (nI o)), (3, .int (b2i false)), (4, .int k), (6, .int 2), (7, .int (nI b)), (8, .int (nI a)), (9, .int (b2i xa)), (10, .int (b2i xg)), (12, .int (b2i xc))] [] := by
        intro xa xg xc ha1 hg1 hz
        refine aw_aload_n C dX9_sign_230 rfl rfl rfl ?_
        refine aw_aload_n C dX9_sign_231 rfl rfl rfl ?_
        refine aw_getf C f_X9_65 hM.1 rfl dX9_sign_232 rfl ?_
        refine aw_iload_n C dX9_sign_235 rfl rfl rfl ?_
        refine mw_iald (k := 22) (N := 60) C hM rfl rfl rfl (by omega) dX9_sign_236 rfl ?_
        refine aw_if_ne (tgt := 257) C dX9_sign_237 (by decide) rfl (fun c237 => ?_) (fun c237 => ?_)
        · refine aw_iconst (v := 2) C dX9_sign_257 rfl rfl ?_
          refine aw_goto (tgt := 262) C dX9_sign_258 (by decide) ?_
          refine mw_put (th' := _) (u' := _) C hM hF f_X9_117 rfl rfl rfl rfl rfl rfl dX9_sign_262 rfl (fun sg hM hF => ?_)
          refine aw_aload_n C dX9_sign_265 rfl rfl rfl ?_
          refine aw_getf C f_X9_117 hM.1 rfl dX9_sign_266 rfl ?_
          refine aw_if_le (tgt := 274) C dX9_sign_269 (by decide) rfl (fun h => by first | exact absurd h (by decide) | exact absurd (by decide) h) (fun _ => ?_)
          refine aw_iconst (v := 0) C dX9_sign_272 rfl rfl ?_
          exact aw_iret C rfl (Nat.le_refl _) (Nat.le_refl _) (PO.of (by rw [opSign, if_neg hno, hdc, hoc, if_pos (by rw [← hz]; simp [prt, c237])]) hM hF) dX9_sign_273
        · refine aw_aload_n C dX9_sign_240 rfl rfl rfl ?_
          refine aw_getf C f_X9_59 hM.1 rfl dX9_sign_241 rfl ?_
          refine aw_iload_n C dX9_sign_244 rfl rfl rfl ?_
          refine mw_iald (k := 20) (N := 60) C hM rfl rfl rfl (by omega) dX9_sign_245 rfl ?_
          refine aw_iload C dX9_sign_246 rfl rfl ?_
          refine aw_iand C dX9_sign_248 rfl ?_
          refine aw_if_gt (tgt := 257) C dX9_sign_249 (by decide) rfl (fun c249 => ?_) (fun c249 => ?_)
          · refine aw_iconst (v := 2) C dX9_sign_257 rfl rfl ?_
            refine aw_goto (tgt := 262) C dX9_sign_258 (by decide) ?_
            refine mw_put (th' := _) (u' := _) C hM hF f_X9_117 rfl rfl rfl rfl rfl rfl dX9_sign_262 rfl (fun sg hM hF => ?_)
            refine aw_aload_n C dX9_sign_265 rfl rfl rfl ?_
            refine aw_getf C f_X9_117 hM.1 rfl dX9_sign_266 rfl ?_
            refine aw_if_le (tgt := 274) C dX9_sign_269 (by decide) rfl (fun h => by first | exact absurd h (by decide) | exact absurd (by decide) h) (fun _ => ?_)
            refine aw_iconst (v := 0) C dX9_sign_272 rfl rfl ?_
            exact aw_iret C rfl (Nat.le_refl _) (Nat.le_refl _) (PO.of (by rw [opSign, if_neg hno, hdc, hoc, if_pos (by rw [← hz]; simp [prt, c237, c249])]) hM hF) dX9_sign_273
          · refine aw_iload C dX9_sign_252 rfl rfl ?_
            refine aw_if_ne (tgt := 261) C dX9_sign_254 (by decide) rfl (fun c254 => ?_) (fun c254 => ?_)
            · have c254 := tr_of c254
              refine aw_iconst (v := 0) C dX9_sign_261 rfl rfl ?_
              refine mw_put (th' := _) (u' := _) C hM hF f_X9_117 rfl rfl rfl rfl rfl rfl dX9_sign_262 rfl (fun sg hM hF => ?_)
              refine aw_aload_n C dX9_sign_265 rfl rfl rfl ?_
              refine aw_getf C f_X9_117 hM.1 rfl dX9_sign_266 rfl ?_
              refine aw_if_le (tgt := 274) C dX9_sign_269 (by decide) rfl (fun _ => ?_) (fun h => by first | exact absurd h (by decide) | exact absurd (by decide) h)
              refine aw_aload_n C dX9_sign_274 rfl rfl rfl ?_
              refine aw_getf C f_X9_59 hM.1 rfl dX9_sign_275 rfl ?_
              refine aw_iload_n C dX9_sign_278 rfl rfl rfl ?_
              refine aw_dup2 C dX9_sign_279 rfl rfl rfl ?_
              refine mw_iald (k := 20) (N := 60) C hM rfl rfl rfl (by omega) dX9_sign_280 rfl ?_
              refine aw_iload C dX9_sign_281 rfl rfl ?_
              refine aw_ior C dX9_sign_283 rfl ?_
              refine mw_iast (k := 20) (N := 60) C hM hF rfl rfl rfl (by omega) dX9_sign_284 rfl (fun sg hM hF => ?_)
              refine aw_iload_n C dX9_sign_285 rfl rfl rfl ?_
              refine aw_if_eq (tgt := 307) C dX9_sign_286 (by decide) rfl (fun _ => ?_) (fun h => by first | exact absurd h (by decide) | exact absurd (by decide) h)
              refine aw_aload_n C dX9_sign_307 rfl rfl rfl ?_
              refine aw_getf C f_X9_59 hM.1 rfl dX9_sign_308 rfl ?_
              refine aw_iload_n C dX9_sign_311 rfl rfl rfl ?_
              refine mw_iald (k := 20) (N := 60) C hM rfl rfl rfl (by omega) dX9_sign_312 rfl ?_
              exact aw_iret C rfl (Nat.le_refl _) (Nat.le_refl _) (PO.of (by rw [opSign, if_neg hno, hdc, hoc, if_neg (by rw [← hz]; simp [prt, c237, c249, c254])]; simp [prt, uI_I, uI_N, ← ha1, ← hg1, ]) hM hF) dX9_sign_313
            · have c254 := fa_of c254
              refine aw_iconst (v := 2) C dX9_sign_257 rfl rfl ?_
              refine aw_goto (tgt := 262) C dX9_sign_258 (by decide) ?_
              refine mw_put (th' := _) (u' := _) C hM hF f_X9_117 rfl rfl rfl rfl rfl rfl dX9_sign_262 rfl (fun sg hM hF => ?_)
              refine aw_aload_n C dX9_sign_265 rfl rfl rfl ?_
              refine aw_getf C f_X9_117 hM.1 rfl dX9_sign_266 rfl ?_
              refine aw_if_le (tgt := 274) C dX9_sign_269 (by decide) rfl (fun h => by first | exact absurd h (by decide) | exact absurd (by decide) h) (fun _ => ?_)
              refine aw_iconst (v := 0) C dX9_sign_272 rfl rfl ?_
              exact aw_iret C rfl (Nat.le_refl _) (Nat.le_refl _) (PO.of (by rw [opSign, if_neg hno, hdc, hoc, if_pos (by rw [← hz]; simp [prt, c237, c249, c254])]) hM hF) dX9_sign_273
      have k194 : ∀ (xa xg xs : Bool), xa = sgAlone u d o false → xg = sgGuards u d o false → xs = sgSigns u d o false k → AW x (RQ x (PO x.g ad sg0 (opSign u (nI d) (nI o) false k)) noX (rmM 4).cells (rmM 4).slots) 0 0 sg 194 [(0, .ref (ad 0)), (1, .int (nI d)), (2, .int (nI o)), (3, .int (b2i false)), (4, .int k), (6, .int 2), (7, .int (nI b)), (8, .int (nI a)), (9, .int (b2i xa)), (10, .int (b2i xg)), (11, .int (b2i xs))] [] := by
        intro xa xg xs ha1 hg1 hs1
        refine aw_iload C dX9_sign_194 rfl rfl ?_
        refine aw_if_ne (tgt := 209) C dX9_sign_196 (by decide) rfl (fun c196 => ?_) (fun c196 => ?_)
        · have c196 := tr_of c196
          refine aw_aload_n C dX9_sign_209 rfl rfl rfl ?_
          refine aw_getf C f_X9_32 hM.1 rfl dX9_sign_210 rfl ?_
          refine aw_iload_n C dX9_sign_213 rfl rfl rfl ?_
          refine mw_iald (k := 11) (N := 60) C hM rfl rfl rfl (by omega) dX9_sign_214 rfl ?_
          refine aw_iconst (v := 4) C dX9_sign_215 rfl rfl ?_
          refine aw_icmp_ne (tgt := 223) C dX9_sign_216 (by decide) rfl (fun c216 => ?_) (fun c216 => ?_)
          · refine aw_iconst (v := 1) C dX9_sign_223 rfl rfl ?_
            refine aw_goto (tgt := 228) C dX9_sign_224 (by decide) ?_
            refine aw_istore (ls' := [(12, _), (0, _), (1, _), (2, _), (3, _), (4, _), (6, _), (7, _), (8, _), (9, _), (10, _), (11, _)]) C dX9_sign_228 (by decide) rfl rfl ?_
            refine aw_pick (ls' := [(0, _), (1, _), (2, _), (3, _), (4, _), (6, _), (7, _), (8, _), (9, _), (10, _), (12, _)]) [1, 2, 3, 4, 5, 6, 7, 8, 9, 10, 0] rfl ?_
            exact k230 xa xg true ha1 hg1 (by rw [sgCan, ← ha1, ← hg1, ← hs1]; simp [c196, c216])
          · refine aw_iload_n C dX9_sign_219 rfl rfl rfl ?_
            refine aw_if_eq (tgt := 227) C dX9_sign_220 (by decide) rfl (fun _ => ?_) (fun h => by first | exact absurd h (by decide) | exact absurd (by decide) h)
            refine aw_iconst (v := 0) C dX9_sign_227 rfl rfl ?_
            refine aw_istore (ls' := [(12, _), (0, _), (1, _), (2, _), (3, _), (4, _), (6, _), (7, _), (8, _), (9, _), (10, _), (11, _)]) C dX9_sign_228 (by decide) rfl rfl ?_
            refine aw_pick (ls' := [(0, _), (1, _), (2, _), (3, _), (4, _), (6, _), (7, _), (8, _), (9, _), (10, _), (12, _)]) [1, 2, 3, 4, 5, 6, 7, 8, 9, 10, 0] rfl ?_
            exact k230 xa xg false ha1 hg1 (by rw [sgCan, ← ha1, ← hg1, ← hs1]; simp [c196, c216])
        · have c196 := fa_of c196
          refine aw_iload C dX9_sign_199 rfl rfl ?_
          refine aw_if_ne (tgt := 209) C dX9_sign_201 (by decide) rfl (fun c201 => ?_) (fun c201 => ?_)
          · have c201 := tr_of c201
            refine aw_aload_n C dX9_sign_209 rfl rfl rfl ?_
            refine aw_getf C f_X9_32 hM.1 rfl dX9_sign_210 rfl ?_
            refine aw_iload_n C dX9_sign_213 rfl rfl rfl ?_
            refine mw_iald (k := 11) (N := 60) C hM rfl rfl rfl (by omega) dX9_sign_214 rfl ?_
            refine aw_iconst (v := 4) C dX9_sign_215 rfl rfl ?_
            refine aw_icmp_ne (tgt := 223) C dX9_sign_216 (by decide) rfl (fun c216 => ?_) (fun c216 => ?_)
            · refine aw_iconst (v := 1) C dX9_sign_223 rfl rfl ?_
              refine aw_goto (tgt := 228) C dX9_sign_224 (by decide) ?_
              refine aw_istore (ls' := [(12, _), (0, _), (1, _), (2, _), (3, _), (4, _), (6, _), (7, _), (8, _), (9, _), (10, _), (11, _)]) C dX9_sign_228 (by decide) rfl rfl ?_
              refine aw_pick (ls' := [(0, _), (1, _), (2, _), (3, _), (4, _), (6, _), (7, _), (8, _), (9, _), (10, _), (12, _)]) [1, 2, 3, 4, 5, 6, 7, 8, 9, 10, 0] rfl ?_
              exact k230 xa xg true ha1 hg1 (by rw [sgCan, ← ha1, ← hg1, ← hs1]; simp [c196, c201, c216])
            · refine aw_iload_n C dX9_sign_219 rfl rfl rfl ?_
              refine aw_if_eq (tgt := 227) C dX9_sign_220 (by decide) rfl (fun _ => ?_) (fun h => by first | exact absurd h (by decide) | exact absurd (by decide) h)
              refine aw_iconst (v := 0) C dX9_sign_227 rfl rfl ?_
              refine aw_istore (ls' := [(12, _), (0, _), (1, _), (2, _), (3, _), (4, _), (6, _), (7, _), (8, _), (9, _), (10, _), (11, _)]) C dX9_sign_228 (by decide) rfl rfl ?_
              refine aw_pick (ls' := [(0, _), (1, _), (2, _), (3, _), (4, _), (6, _), (7, _), (8, _), (9, _), (10, _), (12, _)]) [1, 2, 3, 4, 5, 6, 7, 8, 9, 10, 0] rfl ?_
              exact k230 xa xg false ha1 hg1 (by rw [sgCan, ← ha1, ← hg1, ← hs1]; simp [c196, c201, c216])
          · have c201 := fa_of c201
            refine aw_iload C dX9_sign_204 rfl rfl ?_
            refine aw_if_eq (tgt := 227) C dX9_sign_206 (by decide) rfl (fun c206 => ?_) (fun c206 => ?_)
            · have c206 := fa_of c206
              refine aw_iconst (v := 0) C dX9_sign_227 rfl rfl ?_
              refine aw_istore (ls' := [(12, _), (0, _), (1, _), (2, _), (3, _), (4, _), (6, _), (7, _), (8, _), (9, _), (10, _), (11, _)]) C dX9_sign_228 (by decide) rfl rfl ?_
              refine aw_pick (ls' := [(0, _), (1, _), (2, _), (3, _), (4, _), (6, _), (7, _), (8, _), (9, _), (10, _), (12, _)]) [1, 2, 3, 4, 5, 6, 7, 8, 9, 10, 0] rfl ?_
              exact k230 xa xg false ha1 hg1 (by rw [sgCan, ← ha1, ← hg1, ← hs1]; simp [c196, c201, c206])
            · have c206 := tr_of c206
              refine aw_aload_n C dX9_sign_209 rfl rfl rfl ?_
              refine aw_getf C f_X9_32 hM.1 rfl dX9_sign_210 rfl ?_
              refine aw_iload_n C dX9_sign_213 rfl rfl rfl ?_
              refine mw_iald (k := 11) (N := 60) C hM rfl rfl rfl (by omega) dX9_sign_214 rfl ?_
              refine aw_iconst (v := 4) C dX9_sign_215 rfl rfl ?_
              refine aw_icmp_ne (tgt := 223) C dX9_sign_216 (by decide) rfl (fun c216 => ?_) (fun c216 => ?_)
              · refine aw_iconst (v := 1) C dX9_sign_223 rfl rfl ?_
                refine aw_goto (tgt := 228) C dX9_sign_224 (by decide) ?_
                refine aw_istore (ls' := [(12, _), (0, _), (1, _), (2, _), (3, _), (4, _), (6, _), (7, _), (8, _), (9, _), (10, _), (11, _)]) C dX9_sign_228 (by decide) rfl rfl ?_
                refine aw_pick (ls' := [(0, _), (1, _), (2, _), (3, _), (4, _), (6, _), (7, _), (8, _), (9, _), (10, _), (12, _)]) [1, 2, 3, 4, 5, 6, 7, 8, 9, 10, 0] rfl ?_
                exact k230 xa xg true ha1 hg1 (by rw [sgCan, ← ha1, ← hg1, ← hs1]; simp [c196, c201, c206, c216])
              · refine aw_iload_n C dX9_sign_219 rfl rfl rfl ?_
                refine aw_if_eq (tgt := 227) C dX9_sign_220 (by decide) rfl (fun _ => ?_) (fun h => by first | exact absurd h (by decide) | exact absurd (by decide) h)
                refine aw_iconst (v := 0) C dX9_sign_227 rfl rfl ?_
                refine aw_istore (ls' := [(12, _), (0, _), (1, _), (2, _), (3, _), (4, _), (6, _), (7, _), (8, _), (9, _), (10, _), (11, _)]) C dX9_sign_228 (by decide) rfl rfl ?_
                refine aw_pick (ls' := [(0, _), (1, _), (2, _), (3, _), (4, _), (6, _), (7, _), (8, _), (9, _), (10, _), (12, _)]) [1, 2, 3, 4, 5, 6, 7, 8, 9, 10, 0] rfl ?_
                exact k230 xa xg false ha1 hg1 (by rw [sgCan, ← ha1, ← hg1, ← hs1]; simp [c196, c201, c206, c216])
      have k158 : ∀ (xa xg : Bool), xa = sgAlone u d o false → xg = sgGuards u d o false → AW x (RQ x (PO x.g ad sg0 (opSign u (nI d) (nI o) false k)) noX (rmM 4).cells (rmM 4).slots) 0 0 sg 158 [(0, .ref (ad 0)), (1, .int (nI d)), (2, .int (nI o)), (3, .int (b2i false)), (4, .int k), (6, .int 2), (7, .int (nI b)), (8, .int (nI a)), (9, .int (b2i xa)), (10, .int (b2i xg))] [] := by
        intro xa xg ha1 hg1
        refine aw_iload_n C dX9_sign_158 rfl rfl rfl ?_
        refine aw_iload C dX9_sign_159 rfl rfl ?_
        refine aw_icmp_eq (tgt := 191) C dX9_sign_161 (by decide) rfl (fun c161 => ?_) (fun c161 => ?_)
        · refine aw_iconst (v := 0) C dX9_sign_191 rfl rfl ?_
          refine aw_istore (ls' := [(11, _), (0, _), (1, _), (2, _), (3, _), (4, _), (6, _), (7, _), (8, _), (9, _), (10, _)]) C dX9_sign_192 (by decide) rfl rfl ?_
          refine aw_pick (ls' := [(0, _), (1, _), (2, _), (3, _), (4, _), (6, _), (7, _), (8, _), (9, _), (10, _), (11, _)]) [1, 2, 3, 4, 5, 6, 7, 8, 9, 10, 0] rfl ?_
          exact k194 xa xg false ha1 hg1 (by simp [sgSigns, gv, ea, eb, hac, hbc, c161])
        · refine aw_aload_n C dX9_sign_164 rfl rfl rfl ?_
          refine aw_iload_n C dX9_sign_165 rfl rfl rfl ?_
          refine aw_iload_n C dX9_sign_166 rfl rfl rfl ?_
          refine aw_iload C dX9_sign_167 rfl rfl ?_
          refine aw_iload C dX9_sign_169 rfl rfl ?_
          refine mw_callVp C k_X9_171 hM (M_signsBy hl hst hM hD hB hd ho hb hk) ⟨by decide, by decide⟩ rfl rfl rfl (Nat.le_of_ble_eq_true rfl) dX9_sign_171 rfl ?_
          refine aw_if_eq (tgt := 191) C dX9_sign_174 (by decide) rfl (fun c174 => ?_) (fun c174 => ?_)
          · have c174 := fa_of c174
            refine aw_iconst (v := 0) C dX9_sign_191 rfl rfl ?_
            refine aw_istore (ls' := [(11, _), (0, _), (1, _), (2, _), (3, _), (4, _), (6, _), (7, _), (8, _), (9, _), (10, _)]) C dX9_sign_192 (by decide) rfl rfl ?_
            refine aw_pick (ls' := [(0, _), (1, _), (2, _), (3, _), (4, _), (6, _), (7, _), (8, _), (9, _), (10, _), (11, _)]) [1, 2, 3, 4, 5, 6, 7, 8, 9, 10, 0] rfl ?_
            exact k194 xa xg false ha1 hg1 (by simp [sgSigns, gv, ea, eb, hac, hbc, c161, c174])
          · have c174 := tr_of c174
            refine aw_aload_n C dX9_sign_177 rfl rfl rfl ?_
            refine aw_getf C f_X9_32 hM.1 rfl dX9_sign_178 rfl ?_
            refine aw_iload_n C dX9_sign_181 rfl rfl rfl ?_
            refine mw_iald (k := 11) (N := 60) C hM rfl rfl rfl (by omega) dX9_sign_182 rfl ?_
            refine aw_iconst (v := 4) C dX9_sign_183 rfl rfl ?_
            refine aw_icmp_eq (tgt := 191) C dX9_sign_184 (by decide) rfl (fun c184 => ?_) (fun c184 => ?_)
            · refine aw_iconst (v := 0) C dX9_sign_191 rfl rfl ?_
              refine aw_istore (ls' := [(11, _), (0, _), (1, _), (2, _), (3, _), (4, _), (6, _), (7, _), (8, _), (9, _), (10, _)]) C dX9_sign_192 (by decide) rfl rfl ?_
              refine aw_pick (ls' := [(0, _), (1, _), (2, _), (3, _), (4, _), (6, _), (7, _), (8, _), (9, _), (10, _), (11, _)]) [1, 2, 3, 4, 5, 6, 7, 8, 9, 10, 0] rfl ?_
              exact k194 xa xg false ha1 hg1 (by simp [sgSigns, gv, ea, eb, hac, hbc, c161, c174, c184])
            · refine aw_iconst (v := 1) C dX9_sign_187 rfl rfl ?_
              refine aw_goto (tgt := 192) C dX9_sign_188 (by decide) ?_
              refine aw_istore (ls' := [(11, _), (0, _), (1, _), (2, _), (3, _), (4, _), (6, _), (7, _), (8, _), (9, _), (10, _)]) C dX9_sign_192 (by decide) rfl rfl ?_
              refine aw_pick (ls' := [(0, _), (1, _), (2, _), (3, _), (4, _), (6, _), (7, _), (8, _), (9, _), (10, _), (11, _)]) [1, 2, 3, 4, 5, 6, 7, 8, 9, 10, 0] rfl ?_
              exact k194 xa xg true ha1 hg1 (by simp [sgSigns, gv, ea, eb, hac, hbc, c161, c174, c184])
      have k125 : ∀ (xa : Bool), xa = sgAlone u d o false → AW x (RQ x (PO x.g ad sg0 (opSign u (nI d) (nI o) false k)) noX (rmM 4).cells (rmM 4).slots) 0 0 sg 125 [(0, .ref (ad 0)), (1, .int (nI d)), (2, .int (nI o)), (3, .int (b2i false)), (4, .int k), (6, .int 2), (7, .int (nI b)), (8, .int (nI a)), (9, .int (b2i xa))] [] := by
        intro xa ha1
        refine aw_iload_n C dX9_sign_125 rfl rfl rfl ?_
        refine aw_iload C dX9_sign_126 rfl rfl ?_
        refine aw_icmp_eq (tgt := 155) C dX9_sign_128 (by decide) rfl (fun c128 => ?_) (fun c128 => ?_)
        · refine aw_iconst (v := 0) C dX9_sign_155 rfl rfl ?_
          refine aw_istore (ls' := [(10, _), (0, _), (1, _), (2, _), (3, _), (4, _), (6, _), (7, _), (8, _), (9, _)]) C dX9_sign_156 (by decide) rfl rfl ?_
          refine aw_pick (ls' := [(0, _), (1, _), (2, _), (3, _), (4, _), (6, _), (7, _), (8, _), (9, _), (10, _)]) [1, 2, 3, 4, 5, 6, 7, 8, 9, 0] rfl ?_
          exact k158 xa false ha1 (by simp [sgGuards, gv, ea, eb, hac, hbc, c128])
        · refine aw_aload_n C dX9_sign_131 rfl rfl rfl ?_
          refine aw_iload_n C dX9_sign_132 rfl rfl rfl ?_
          refine aw_iload C dX9_sign_133 rfl rfl ?_
          refine mw_callVp C k_X9_168 hM (M_isGuardian hl hst hM ho hb) ⟨by decide, by decide⟩ rfl rfl rfl (Nat.le_of_ble_eq_true rfl) dX9_sign_135 rfl ?_
          refine aw_if_eq (tgt := 155) C dX9_sign_138 (by decide) rfl (fun c138 => ?_) (fun c138 => ?_)
          · have c138 := fa_of c138
            refine aw_iconst (v := 0) C dX9_sign_155 rfl rfl ?_
            refine aw_istore (ls' := [(10, _), (0, _), (1, _), (2, _), (3, _), (4, _), (6, _), (7, _), (8, _), (9, _)]) C dX9_sign_156 (by decide) rfl rfl ?_
            refine aw_pick (ls' := [(0, _), (1, _), (2, _), (3, _), (4, _), (6, _), (7, _), (8, _), (9, _), (10, _)]) [1, 2, 3, 4, 5, 6, 7, 8, 9, 0] rfl ?_
            exact k158 xa false ha1 (by simp [sgGuards, gv, ea, eb, hac, hbc, c128, c138])
          · have c138 := tr_of c138
            refine aw_aload_n C dX9_sign_141 rfl rfl rfl ?_
            refine aw_getf C f_X9_32 hM.1 rfl dX9_sign_142 rfl ?_
            refine aw_iload_n C dX9_sign_145 rfl rfl rfl ?_
            refine mw_iald (k := 11) (N := 60) C hM rfl rfl rfl (by omega) dX9_sign_146 rfl ?_
            refine aw_iconst (v := 4) C dX9_sign_147 rfl rfl ?_
            refine aw_icmp_eq (tgt := 155) C dX9_sign_148 (by decide) rfl (fun c148 => ?_) (fun c148 => ?_)
            · refine aw_iconst (v := 0) C dX9_sign_155 rfl rfl ?_
              refine aw_istore (ls' := [(10, _), (0, _), (1, _), (2, _), (3, _), (4, _), (6, _), (7, _), (8, _), (9, _)]) C dX9_sign_156 (by decide) rfl rfl ?_
              refine aw_pick (ls' := [(0, _), (1, _), (2, _), (3, _), (4, _), (6, _), (7, _), (8, _), (9, _), (10, _)]) [1, 2, 3, 4, 5, 6, 7, 8, 9, 0] rfl ?_
              exact k158 xa false ha1 (by simp [sgGuards, gv, ea, eb, hac, hbc, c128, c138, c148])
            · refine aw_iconst (v := 1) C dX9_sign_151 rfl rfl ?_
              refine aw_goto (tgt := 156) C dX9_sign_152 (by decide) ?_
              refine aw_istore (ls' := [(10, _), (0, _), (1, _), (2, _), (3, _), (4, _), (6, _), (7, _), (8, _), (9, _)]) C dX9_sign_156 (by decide) rfl rfl ?_
              refine aw_pick (ls' := [(0, _), (1, _), (2, _), (3, _), (4, _), (6, _), (7, _), (8, _), (9, _), (10, _)]) [1, 2, 3, 4, 5, 6, 7, 8, 9, 0] rfl ?_
              exact k158 xa true ha1 (by simp [sgGuards, gv, ea, eb, hac, hbc, c128, c138, c148])
      refine aw_iload_n C dX9_sign_50 rfl rfl rfl ?_
      refine aw_if_eq (tgt := 58) C dX9_sign_51 (by decide) rfl (fun _ => ?_) (fun h => by first | exact absurd h (by decide) | exact absurd (by decide) h)
      refine aw_iconst (v := 2) C dX9_sign_58 rfl rfl ?_
      refine aw_istore (ls' := [(6, _), (0, _), (1, _), (2, _), (3, _), (4, _)]) C dX9_sign_59 (by decide) rfl rfl ?_
      refine aw_iload_n C dX9_sign_61 rfl rfl rfl ?_
      refine aw_if_eq (tgt := 74) C dX9_sign_62 (by decide) rfl (fun _ => ?_) (fun h => by first | exact absurd h (by decide) | exact absurd (by decide) h)
      refine aw_aload_n C dX9_sign_74 rfl rfl rfl ?_
      refine aw_getf C f_X9_38 hM.1 rfl dX9_sign_75 rfl ?_
      refine aw_iload_n C dX9_sign_78 rfl rfl rfl ?_
      refine mw_iald (k := 13) (N := 60) C hM rfl rfl rfl (by omega) dX9_sign_79 rfl ?_
      rw [eb]
      refine aw_istore (ls' := [(7, _), (6, _), (0, _), (1, _), (2, _), (3, _), (4, _)]) C dX9_sign_80 (by decide) rfl rfl ?_
      refine aw_iload_n C dX9_sign_82 rfl rfl rfl ?_
      refine aw_if_eq (tgt := 95) C dX9_sign_83 (by decide) rfl (fun _ => ?_) (fun h => by first | exact absurd h (by decide) | exact absurd (by decide) h)
      refine aw_aload_n C dX9_sign_95 rfl rfl rfl ?_
      refine aw_getf C f_X9_35 hM.1 rfl dX9_sign_96 rfl ?_
      refine aw_iload_n C dX9_sign_99 rfl rfl rfl ?_
      refine mw_iald (k := 12) (N := 60) C hM rfl rfl rfl (by omega) dX9_sign_100 rfl ?_
      rw [ea]
      refine aw_istore (ls' := [(8, _), (7, _), (6, _), (0, _), (1, _), (2, _), (3, _), (4, _)]) C dX9_sign_101 (by decide) rfl rfl ?_
      refine aw_iload_n C dX9_sign_103 rfl rfl rfl ?_
      refine aw_iload C dX9_sign_104 rfl rfl ?_
      refine aw_icmp_ne (tgt := 122) C dX9_sign_106 (by decide) rfl (fun c106 => ?_) (fun c106 => ?_)
      · refine aw_iconst (v := 0) C dX9_sign_122 rfl rfl ?_
        refine aw_istore (ls' := [(9, _), (8, _), (7, _), (6, _), (0, _), (1, _), (2, _), (3, _), (4, _)]) C dX9_sign_123 (by decide) rfl rfl ?_
        refine aw_pick (ls' := [(0, _), (1, _), (2, _), (3, _), (4, _), (6, _), (7, _), (8, _), (9, _)]) [4, 5, 6, 7, 8, 3, 2, 1, 0] rfl ?_
        exact k125 false (by simp [sgAlone, gv, ea, eb, hac, hbc, c106])
      · refine aw_aload_n C dX9_sign_109 rfl rfl rfl ?_
        refine aw_iload C dX9_sign_110 rfl rfl ?_
        refine mw_callVp C k_X9_146 hM (M_able hl hst hM hb) ⟨by decide, by decide⟩ rfl rfl rfl (Nat.le_of_ble_eq_true rfl) dX9_sign_112 rfl ?_
        refine aw_if_eq (tgt := 122) C dX9_sign_115 (by decide) rfl (fun c115 => ?_) (fun c115 => ?_)
        · have c115 := fa_of c115
          refine aw_iconst (v := 0) C dX9_sign_122 rfl rfl ?_
          refine aw_istore (ls' := [(9, _), (8, _), (7, _), (6, _), (0, _), (1, _), (2, _), (3, _), (4, _)]) C dX9_sign_123 (by decide) rfl rfl ?_
          refine aw_pick (ls' := [(0, _), (1, _), (2, _), (3, _), (4, _), (6, _), (7, _), (8, _), (9, _)]) [4, 5, 6, 7, 8, 3, 2, 1, 0] rfl ?_
          exact k125 false (by simp [sgAlone, gv, ea, eb, hac, hbc, c106, c115])
        · have c115 := tr_of c115
          refine aw_iconst (v := 1) C dX9_sign_118 rfl rfl ?_
          refine aw_goto (tgt := 123) C dX9_sign_119 (by decide) ?_
          refine aw_istore (ls' := [(9, _), (8, _), (7, _), (6, _), (0, _), (1, _), (2, _), (3, _), (4, _)]) C dX9_sign_123 (by decide) rfl rfl ?_
          refine aw_pick (ls' := [(0, _), (1, _), (2, _), (3, _), (4, _), (6, _), (7, _), (8, _), (9, _)]) [4, 5, 6, 7, 8, 3, 2, 1, 0] rfl ?_
          exact k125 true (by simp [sgAlone, gv, ea, eb, hac, hbc, c106, c115])
  refine aw_aload_n C dX9_sign_0 rfl rfl rfl ?_
  refine aw_iload_n C dX9_sign_1 rfl rfl rfl ?_
  refine mw_callVp C k_X9_165 hM (M_isDeed hl hst hM) ⟨by decide, by decide⟩ rfl rfl rfl (Nat.le_of_ble_eq_true rfl) dX9_sign_2 rfl ?_
  refine aw_if_eq (tgt := 35) C dX9_sign_5 (by decide) rfl (fun c5 => ?_) (fun c5 => ?_)
  · have c5 := fa_of c5
    refine aw_iconst (v := 0) C dX9_sign_35 rfl rfl ?_
    refine aw_istore (ls' := [(5, _), (0, _), (1, _), (2, _), (3, _), (4, _)]) C dX9_sign_36 (by decide) rfl rfl ?_
    refine aw_iload C dX9_sign_38 rfl rfl ?_
    refine aw_if_ne (tgt := 50) C dX9_sign_40 (by decide) rfl (fun h => by first | exact absurd h (by decide) | exact absurd (by decide) h) (fun _ => ?_)
    refine aw_aload_n C dX9_sign_43 rfl rfl rfl ?_
    refine aw_iconst (v := 1) C dX9_sign_44 rfl rfl ?_
    refine mw_put (th' := _) (u' := _) C hM hF f_X9_117 rfl rfl rfl rfl rfl rfl dX9_sign_45 rfl (fun sg hM hF => ?_)
    refine aw_iconst (v := 0) C dX9_sign_48 rfl rfl ?_
    exact aw_iret C rfl (Nat.le_refl _) (Nat.le_refl _) (PO.of (by simp [opSign, c5]) hM hF) dX9_sign_49
  · have c5 := tr_of c5
    refine aw_aload_n C dX9_sign_8 rfl rfl rfl ?_
    refine aw_iload_n C dX9_sign_9 rfl rfl rfl ?_
    refine mw_callVp C k_X9_137 hM (M_isPerson hl hst hM) ⟨by decide, by decide⟩ rfl rfl rfl (Nat.le_of_ble_eq_true rfl) dX9_sign_10 rfl ?_
    refine aw_if_eq (tgt := 35) C dX9_sign_13 (by decide) rfl (fun c13 => ?_) (fun c13 => ?_)
    · have c13 := fa_of c13
      refine aw_iconst (v := 0) C dX9_sign_35 rfl rfl ?_
      refine aw_istore (ls' := [(5, _), (0, _), (1, _), (2, _), (3, _), (4, _)]) C dX9_sign_36 (by decide) rfl rfl ?_
      refine aw_iload C dX9_sign_38 rfl rfl ?_
      refine aw_if_ne (tgt := 50) C dX9_sign_40 (by decide) rfl (fun h => by first | exact absurd h (by decide) | exact absurd (by decide) h) (fun _ => ?_)
      refine aw_aload_n C dX9_sign_43 rfl rfl rfl ?_
      refine aw_iconst (v := 1) C dX9_sign_44 rfl rfl ?_
      refine mw_put (th' := _) (u' := _) C hM hF f_X9_117 rfl rfl rfl rfl rfl rfl dX9_sign_45 rfl (fun sg hM hF => ?_)
      refine aw_iconst (v := 0) C dX9_sign_48 rfl rfl ?_
      exact aw_iret C rfl (Nat.le_refl _) (Nat.le_refl _) (PO.of (by simp [opSign, c5, c13]) hM hF) dX9_sign_49
    · have c13 := tr_of c13
      obtain ⟨p, hp, rfl⟩ := isDd_of hW c5
      have hp60 : p < 60 := by have := hW.2.1; omega
      have hpc := clampI (n := p) (by omega)
      obtain ⟨q, hq, rfl⟩ := isP_of hW c13
      have hq12 : q < 12 := by have := hW.1; omega
      have hqc := clampI (n := q) (by omega)
      refine aw_iload C dX9_sign_16 rfl rfl ?_
      refine aw_iconst (v := -1) C dX9_sign_18 rfl rfl ?_
      refine aw_icmp_eq (tgt := 31) C dX9_sign_19 (by decide) rfl (fun c19 => ?_) (fun c19 => ?_)
      · refine aw_iconst (v := 1) C dX9_sign_31 rfl rfl ?_
        refine aw_goto (tgt := 36) C dX9_sign_32 (by decide) ?_
        refine aw_istore (ls' := [(5, _), (0, _), (1, _), (2, _), (3, _), (4, _)]) C dX9_sign_36 (by decide) rfl rfl ?_
        refine aw_iload C dX9_sign_38 rfl rfl ?_
        refine aw_if_ne (tgt := 50) C dX9_sign_40 (by decide) rfl (fun _ => ?_) (fun h => by first | exact absurd h (by decide) | exact absurd (by decide) h)
        refine aw_pick (ls' := [(0, _), (1, _), (2, _), (3, _), (4, _)]) [1, 2, 3, 4, 5] rfl ?_
        exact k50 p q hp60 hq12 c5 c13 rfl rfl (fun h => absurd c19 h)
      · refine aw_aload_n C dX9_sign_22 rfl rfl rfl ?_
        refine aw_iload C dX9_sign_23 rfl rfl ?_
        refine mw_callVp C k_X9_165 hM (M_isDeed hl hst hM) ⟨by decide, by decide⟩ rfl rfl rfl (Nat.le_of_ble_eq_true rfl) dX9_sign_25 rfl ?_
        refine aw_if_eq (tgt := 35) C dX9_sign_28 (by decide) rfl (fun c28 => ?_) (fun c28 => ?_)
        · have c28 := fa_of c28
          refine aw_iconst (v := 0) C dX9_sign_35 rfl rfl ?_
          refine aw_istore (ls' := [(5, _), (0, _), (1, _), (2, _), (3, _), (4, _)]) C dX9_sign_36 (by decide) rfl rfl ?_
          refine aw_iload C dX9_sign_38 rfl rfl ?_
          refine aw_if_ne (tgt := 50) C dX9_sign_40 (by decide) rfl (fun h => by first | exact absurd h (by decide) | exact absurd (by decide) h) (fun _ => ?_)
          refine aw_aload_n C dX9_sign_43 rfl rfl rfl ?_
          refine aw_iconst (v := 1) C dX9_sign_44 rfl rfl ?_
          refine mw_put (th' := _) (u' := _) C hM hF f_X9_117 rfl rfl rfl rfl rfl rfl dX9_sign_45 rfl (fun sg hM hF => ?_)
          refine aw_iconst (v := 0) C dX9_sign_48 rfl rfl ?_
          exact aw_iret C rfl (Nat.le_refl _) (Nat.le_refl _) (PO.of (by simp [opSign, c5, c13, c19, c28]) hM hF) dX9_sign_49
        · have c28 := tr_of c28
          refine aw_iconst (v := 1) C dX9_sign_31 rfl rfl ?_
          refine aw_goto (tgt := 36) C dX9_sign_32 (by decide) ?_
          refine aw_istore (ls' := [(5, _), (0, _), (1, _), (2, _), (3, _), (4, _)]) C dX9_sign_36 (by decide) rfl rfl ?_
          refine aw_iload C dX9_sign_38 rfl rfl ?_
          refine aw_if_ne (tgt := 50) C dX9_sign_40 (by decide) rfl (fun _ => ?_) (fun h => by first | exact absurd h (by decide) | exact absurd (by decide) h)
          refine aw_pick (ls' := [(0, _), (1, _), (2, _), (3, _), (4, _)]) [1, 2, 3, 4, 5] rfl ?_
          exact k50 p q hp60 hq12 c5 c13 rfl rfl (fun _ => c28)
