set_option maxRecDepth 100000 in
set_option maxHeartbeats 4000000 in
theorem M_die {g : Gx} {l : Launch} (hl : l.flags = flags0) (hst : g.Stable) {ad : Nat → Nat} {th : Int32} {u : MU} {sg : Sg} (hM : MS g ad th u sg) (hW : WN u) (hP : WP u) (hD : WD u) (hL : WL u) (hS : WS1 u) {v : Int32} : MM g l yX9_die cX9_die 5 (some .int) (rmM 6) sg [.ref (ad 0), .int v] (PO g ad sg (opDie u v)) noX := by
  refine MM.of hl hst (by decide) (Nat.le_of_ble_eq_true rfl) (fun x hg hlx C hin hout hargs => ?_)
  subst hg; subst hlx
  have C : AWC x cX9_die 5 RX9 (rmM 6) (some .int) := C
  have hF : MF ad sg sg := MF.rf
  show AW x (RQ x _ _ _ _) 0 0 sg 0 [(0, .ref (ad 0)), (1, .int v)] []
  obtain ⟨sg0, hsg0⟩ : ∃ s, s = sg := ⟨_, rfl⟩
  have hF : MF ad sg0 sg := by rw [hsg0]; exact hF
  show AW x (RQ x (PO x.g ad sg (opDie u v)) noX (rmM 6).cells (rmM 6).slots) 0 0 sg 0 [(0, .ref (ad 0)), (1, .int v)] []
  rw [show PO x.g ad sg = PO x.g ad sg0 by rw [hsg0]]
  have hT8 : (u.2.2.1 31) ≤ 8 := hW.2.2.2.1
  have h35 := hW.2.2.2.2
  have h12 := hW.1
  have body : ∀ p, p < u.2.2.1 2 → v = nI p → isP u (nI p) = true → u.1 6 p = 0 → ∀ sg, MS x.g ad 0 (lay u) sg → MF ad sg0 sg → AW x (RQ x (PO x.g ad sg0 (opDie u v)) noX (rmM 6).cells (rmM 6).slots) 0 0 sg 50 [(4, .int (nI 0)), (3, .int (b2i true)), (2, .int (nI 0)), (0, .ref (ad 0)), (1, .int (nI p))] [] := by
    intro p hp hv c6 c19 sg hM hF
    subst hv
    have hp12 : p < 12 := by omega
    have hpc := clampI (n := p) (by omega)
    have hop : opDie u (nI p) = if (dieN u p (u.2.2.1 31)).1 = false ∨ 100 < u.2.2.1 35 + dieC u p (u.2.2.1 31) then (2, 0, (dieN u p (u.2.2.1 31)).2) else (0, nI (dieC u p (u.2.2.1 31)), dieG (uI (tak (dieE (dieN u p (u.2.2.1 31)).2 p (u.2.2.1 31))) 6 p 1) p (u.2.2.1 2)) := by
      rw [opDie, if_neg (by simp [c6]), hpc, if_neg (by simp [c19])]
    have wI : ∀ m, (dieN u p m).2.1 = u.1 := fun m => dieN_I
    have wN : ∀ m, (dieN u p m).2.2.2 = u.2.2 := fun m => dieN_N
    have w33 : ∀ m, (dieN u p m).2.2.1 33 = u.2.1 33 := fun m => dieN_k (by decide) (by decide)
    have eE : ∀ m, (dieE (dieN u p (u.2.2.1 31)).2 p m).2.1 33 = u.2.1 33 := fun m => by rw [dieE_J]; exact w33 _
    have eN : ∀ m k, k ≠ 35 → (dieE (dieN u p (u.2.2.1 31)).2 p m).2.2.1 k = u.2.2.1 k := fun m k hk => by rw [dieE_N hk, wN]
    have e35 : ∀ m, (dieE (dieN u p (u.2.2.1 31)).2 p m).2.2.1 35 = u.2.2.1 35 + dieC u p m := fun m => by rw [dieE_35, dieC_I (w33 _), wN]
    have cT := dieC_le (u := u) (p := p) (m := (u.2.2.1 31))
    have loop3 : ¬ ((dieN u p (u.2.2.1 31)).1 = false ∨ 100 < u.2.2.1 35 + dieC u p (u.2.2.1 31)) → ∀ (r m : Nat), m + r = u.2.2.1 2 → ∀ sg, MS x.g ad 0 (dieG (uI (tak (dieE (dieN u p (u.2.2.1 31)).2 p (u.2.2.1 31))) 6 p 1) p m) sg → MF ad sg0 sg → AW x (RQ x (PO x.g ad sg0 (opDie u (nI p))) noX (rmM 6).cells (rmM 6).slots) 0 0 sg 185 [(0, .ref (ad 0)), (1, .int (nI p)), (2, .int (nI (dieC u p (u.2.2.1 31)))), (4, .int (nI m))] [] := by
      intro hgo r
      induction r with
      | zero =>
        intro m hm sg hM hF
        obtain rfl : m = u.2.2.1 2 := by omega
        have hP2 : (dieG (uI (tak (dieE (dieN u p (u.2.2.1 31)).2 p (u.2.2.1 31))) 6 p 1) p (u.2.2.1 2)).2.2.1 2 = u.2.2.1 2 := by rw [dieG_N]; exact eN _ 2 (by decide)
        refine aw_iload C dX9_die_185 rfl rfl ?_
        refine aw_aload_n C dX9_die_187 rfl rfl rfl ?_
        refine aw_getf C f_X9_121 hM.1 rfl dX9_die_188 rfl ?_
        refine aw_icmp_ge (tgt := 229) C dX9_die_191 (by decide) rfl (fun c191 => ?_) (fun c191 => ?_)
        · refine aw_iload_n C dX9_die_229 rfl rfl rfl ?_
          exact aw_iret C rfl (Nat.le_refl _) (Nat.le_refl _) (PO.of (by rw [hop, if_neg hgo]) hM hF) dX9_die_230
        · exact absurd (by rw [hP2, nI_leI (by omega) (by omega)] <;> omega) c191
      | succ r ih =>
        intro m hm sg hM hF
        have hP2 : (dieG (uI (tak (dieE (dieN u p (u.2.2.1 31)).2 p (u.2.2.1 31))) 6 p 1) p m).2.2.1 2 = u.2.2.1 2 := by rw [dieG_N]; exact eN _ 2 (by decide)
        refine aw_iload C dX9_die_185 rfl rfl ?_
        refine aw_aload_n C dX9_die_187 rfl rfl rfl ?_
        refine aw_getf C f_X9_121 hM.1 rfl dX9_die_188 rfl ?_
        refine aw_icmp_ge (tgt := 229) C dX9_die_191 (by decide) rfl (fun c191 => ?_) (fun c191 => ?_)
        · exact absurd c191 (by rw [hP2, nI_leI (by omega) (by omega)] <;> omega)
        · refine aw_aload_n C dX9_die_194 rfl rfl rfl ?_
          refine aw_getf C f_X9_29 hM.1 rfl dX9_die_195 rfl ?_
          refine aw_iload C dX9_die_198 rfl rfl ?_
          refine aw_aload_n C dX9_die_200 rfl rfl rfl ?_
          refine aw_getf C f_X9_29 hM.1 rfl dX9_die_201 rfl ?_
          refine aw_iload C dX9_die_204 rfl rfl ?_
          refine mw_iald (k := 9) (N := 12) C hM rfl rfl (i := m) rfl (by omega) dX9_die_206 rfl ?_
          refine aw_iload_n C dX9_die_207 rfl rfl rfl ?_
          refine aw_icmp_ne (tgt := 215) C dX9_die_208 (by decide) rfl (fun c208 => ?_) (fun c208 => ?_)
          · refine aw_aload_n C dX9_die_215 rfl rfl rfl ?_
            refine aw_getf C f_X9_29 hM.1 rfl dX9_die_216 rfl ?_
            refine aw_iload C dX9_die_219 rfl rfl ?_
            refine mw_iald (k := 9) (N := 12) C hM rfl rfl (i := m) rfl (by omega) dX9_die_221 rfl ?_
            refine mw_iast (k := 9) (N := 12) C hM hF rfl rfl (i := m) rfl (by omega) dX9_die_222 rfl (fun sg hM hF => ?_)
            refine aw_iinc (v' := nI (m + 1)) (ls' := [(4, _), (0, _), (1, _), (2, _)]) C dX9_die_223 rfl (by decide) (nI_1 m) rfl rfl ?_
            refine aw_goto (tgt := 185) C dX9_die_226 (by decide) ?_
            refine aw_pick (ls' := [(0, _), (1, _), (2, _), (4, _)]) [1, 2, 3, 0] rfl ?_
            exact ih (m + 1) (by omega) sg (by rw [dieG, if_neg c208]; exact hM) hF
          · refine aw_iconst (v := -1) C dX9_die_211 rfl rfl ?_
            refine aw_goto (tgt := 222) C dX9_die_212 (by decide) ?_
            refine mw_iast (k := 9) (N := 12) C hM hF rfl rfl (i := m) rfl (by omega) dX9_die_222 rfl (fun sg hM hF => ?_)
            refine aw_iinc (v' := nI (m + 1)) (ls' := [(4, _), (0, _), (1, _), (2, _)]) C dX9_die_223 rfl (by decide) (nI_1 m) rfl rfl ?_
            refine aw_goto (tgt := 185) C dX9_die_226 (by decide) ?_
            refine aw_pick (ls' := [(0, _), (1, _), (2, _), (4, _)]) [1, 2, 3, 0] rfl ?_
            exact ih (m + 1) (by omega) sg (by rw [dieG, if_pos c208]; exact hM) hF
    have loop2 : ¬ ((dieN u p (u.2.2.1 31)).1 = false ∨ 100 < u.2.2.1 35 + dieC u p (u.2.2.1 31)) → ∀ (r m : Nat), m + r = (u.2.2.1 31) → ∀ sg, MS x.g ad 0 (dieE (dieN u p (u.2.2.1 31)).2 p m) sg → MF ad sg0 sg → AW x (RQ x (PO x.g ad sg0 (opDie u (nI p))) noX (rmM 6).cells (rmM 6).slots) 0 0 sg 130 [(0, .ref (ad 0)), (1, .int (nI p)), (2, .int (nI (dieC u p (u.2.2.1 31)))), (4, .int (nI m))] [] := by
      intro hgo r
      induction r with
      | zero =>
        intro m hm sg hM hF
        obtain rfl : m = (u.2.2.1 31) := by omega
        have h31 : (dieE (dieN u p (u.2.2.1 31)).2 p (u.2.2.1 31)).2.2.1 31 = (u.2.2.1 31) := eN _ 31 (by decide)
        refine aw_iload C dX9_die_130 rfl rfl ?_
        refine aw_aload_n C dX9_die_132 rfl rfl rfl ?_
        refine aw_getf C f_X9_131 hM.1 rfl dX9_die_133 rfl ?_
        refine aw_icmp_ge (tgt := 171) C dX9_die_136 (by decide) rfl (fun c136 => ?_) (fun c136 => ?_)
        · refine aw_aload_n C dX9_die_171 rfl rfl rfl ?_
          refine mw_callV C k_X9_214 hM (M_takesNew hl hst hM) ⟨by decide, by decide⟩ rfl rfl rfl (Nat.le_of_ble_eq_true rfl) dX9_die_172 rfl (fun v sg1 hq => ?_)
          obtain ⟨rfl, hM, hF1⟩ := hq
          have hF := MF.tr hF hF1
          refine aw_aload_n C dX9_die_175 rfl rfl rfl ?_
          refine aw_getf C f_X9_20 hM.1 rfl dX9_die_176 rfl ?_
          refine aw_iload_n C dX9_die_179 rfl rfl rfl ?_
          refine aw_iconst (v := 1) C dX9_die_180 rfl rfl ?_
          refine mw_zast (k := 6) (N := 12) C hM hF rfl rfl (i := p) rfl hp12 (by decide) dX9_die_181 rfl (fun sg hM hF => ?_)
          refine aw_iconst (v := 0) C dX9_die_182 rfl rfl ?_
          refine aw_istore (ls' := [(4, _), (0, _), (1, _), (2, _)]) C dX9_die_183 (by decide) rfl rfl ?_
          refine aw_pick (ls' := [(0, _), (1, _), (2, _), (4, _)]) [1, 2, 3, 0] rfl ?_
          exact loop3 hgo (u.2.2.1 2) 0 (by omega) _ hM hF
        · exact absurd (by rw [h31, nI_leI (by omega) (by omega)] <;> omega) c136
      | succ r ih =>
        intro m hm sg hM hF
        have h31 : (dieE (dieN u p (u.2.2.1 31)).2 p m).2.2.1 31 = (u.2.2.1 31) := eN _ 31 (by decide)
        refine aw_iload C dX9_die_130 rfl rfl ?_
        refine aw_aload_n C dX9_die_132 rfl rfl rfl ?_
        refine aw_getf C f_X9_131 hM.1 rfl dX9_die_133 rfl ?_
        refine aw_icmp_ge (tgt := 171) C dX9_die_136 (by decide) rfl (fun c136 => ?_) (fun c136 => ?_)
        · exact absurd c136 (by rw [h31, nI_leI (by omega) (by omega)] <;> omega)
        · refine aw_aload_n C dX9_die_139 rfl rfl rfl ?_
          refine aw_getf C f_X9_92 hM.1 rfl dX9_die_140 rfl ?_
          refine aw_bipush (v := 13) C dX9_die_143 rfl rfl ?_
          refine aw_iload C dX9_die_145 rfl rfl ?_
          refine aw_imul C dX9_die_147 rfl ?_
          refine aw_iload_n C dX9_die_148 rfl rfl rfl ?_
          refine aw_iadd C dX9_die_149 rfl ?_
          refine mw_lald (k := 33) (N := 104) C hM rfl rfl (i := 13 * m + p) (by rw [show (13 : Int32) = nI 13 from rfl, pk_mul, nI_add]) (by omega) dX9_die_150 rfl ?_
          refine aw_lconst (v := 0) C dX9_die_151 rfl rfl ?_
          refine aw_lcmp C dX9_die_152 rfl ?_
          refine aw_if_le (tgt := 165) C dX9_die_153 (by decide) rfl (fun c153 => ?_) (fun c153 => ?_)
          · refine aw_iinc (v' := nI (m + 1)) (ls' := [(4, _), (0, _), (1, _), (2, _)]) C dX9_die_165 rfl (by decide) (nI_1 m) rfl rfl ?_
            refine aw_goto (tgt := 130) C dX9_die_168 (by decide) ?_
            refine aw_pick (ls' := [(0, _), (1, _), (2, _), (4, _)]) [1, 2, 3, 0] rfl ?_
            exact ih (m + 1) (by omega) _ (by rw [dieE, if_neg (by rw [w33, ← eE m]; exact lgc_le.mp c153)]; exact hM) hF
          · have hpos : 0 < u.2.1 33 (13 * m + p) := by
              have h9 := Classical.byContradiction (fun q => c153 (lgc_le.mpr q))
              rw [eE m] at h9
              exact h9
            have hroom : (dieE (dieN u p (u.2.2.1 31)).2 p m).2.2.1 35 < 100 := by
              have h8 : dieC u p (m + 1) = dieC u p m + 1 := by rw [dieC, if_pos hpos]
              have h7 := dieC_mono (u := u) (p := p) (m := m + 1) (k := (u.2.2.1 31)) (by omega)
              have h6 : ¬ 100 < u.2.2.1 35 + dieC u p (u.2.2.1 31) := fun q => hgo (Or.inr q)
              rw [e35 m]
              omega
            refine aw_aload_n C dX9_die_156 rfl rfl rfl ?_
            refine aw_iconst (v := 5) C dX9_die_157 rfl rfl ?_
            refine aw_iload_n C dX9_die_158 rfl rfl rfl ?_
            refine aw_iload C dX9_die_159 rfl rfl ?_
            refine mw_callV C k_X9_221 hM (M_comes hl hst hM hroom) ⟨by decide, by decide⟩ rfl rfl rfl (Nat.le_of_ble_eq_true rfl) dX9_die_161 rfl (fun v sg1 hq => ?_)
            obtain ⟨rfl, hM, hF1⟩ := hq
            have hF := MF.tr hF hF1
            refine aw_pop C dX9_die_164 rfl rfl ?_
            refine aw_iinc (v' := nI (m + 1)) (ls' := [(4, _), (0, _), (1, _), (2, _)]) C dX9_die_165 rfl (by decide) (nI_1 m) rfl rfl ?_
            refine aw_goto (tgt := 130) C dX9_die_168 (by decide) ?_
            refine aw_pick (ls' := [(0, _), (1, _), (2, _), (4, _)]) [1, 2, 3, 0] rfl ?_
            exact ih (m + 1) (by omega) _ (by rw [dieE, if_pos (by rw [w33]; exact hpos)]; exact hM) hF
    have k105 : ∀ sg, MS x.g ad 0 (dieN u p (u.2.2.1 31)).2 sg → MF ad sg0 sg → AW x (RQ x (PO x.g ad sg0 (opDie u (nI p))) noX (rmM 6).cells (rmM 6).slots) 0 0 sg 105 [(0, .ref (ad 0)), (1, .int (nI p)), (2, .int (nI (dieC u p (u.2.2.1 31)))), (3, .int (b2i (dieN u p (u.2.2.1 31)).1)), (4, .int (nI (u.2.2.1 31)))] [] := by
      intro sg hM hF
      refine aw_iload_n C dX9_die_105 rfl rfl rfl ?_
      refine aw_if_eq (tgt := 120) C dX9_die_106 (by decide) rfl (fun c106 => ?_) (fun c106 => ?_)
      · have c106 := fa_of c106
        skip
        refine aw_aload_n C dX9_die_120 rfl rfl rfl ?_
        refine aw_iconst (v := 2) C dX9_die_121 rfl rfl ?_
        refine mw_put (th' := _) (u' := (dieN u p (u.2.2.1 31)).2) C hM hF f_X9_117 rfl rfl rfl rfl rfl rfl dX9_die_122 rfl (fun sg hM hF => ?_)
        refine aw_iconst (v := 0) C dX9_die_125 rfl rfl ?_
        exact aw_iret C rfl (Nat.le_refl _) (Nat.le_refl _) (PO.of (by rw [hop, if_pos (Or.inl c106)]) hM hF) dX9_die_126
      · have c106 := tr_of c106
        refine aw_aload_n C dX9_die_109 rfl rfl rfl ?_
        refine aw_getf C f_X9_201 hM.1 rfl dX9_die_110 rfl ?_
        refine aw_iload_n C dX9_die_113 rfl rfl rfl ?_
        refine aw_iadd C dX9_die_114 rfl ?_
        refine aw_bipush (v := 100) C dX9_die_115 rfl rfl ?_
        refine aw_icmp_le (tgt := 127) C dX9_die_117 (by decide) rfl (fun c117 => ?_) (fun c117 => ?_)
        · have hsm : ¬ 100 < u.2.2.1 35 + dieC u p (u.2.2.1 31) := by
            rw [show (dieN u p (u.2.2.1 31)).2.2.2.1 35 = u.2.2.1 35 by rw [wN], nI_add, show (100 : Int32) = nI 100 from rfl, nI_leI (by omega) (by decide)] at c117
            omega
          refine aw_iconst (v := 0) C dX9_die_127 rfl rfl ?_
          refine aw_istore (ls' := [(4, _), (0, _), (1, _), (2, _), (3, _)]) C dX9_die_128 (by decide) rfl rfl ?_
          refine aw_pick (ls' := [(0, _), (1, _), (2, _), (4, _)]) [1, 2, 3, 0] rfl ?_
          exact loop2 (by rintro (q | q); exact Bool.noConfusion (c106.symm.trans q); exact hsm q) (u.2.2.1 31) 0 (by omega) _ hM hF
        · have hbig : 100 < u.2.2.1 35 + dieC u p (u.2.2.1 31) := by
            rw [show (dieN u p (u.2.2.1 31)).2.2.2.1 35 = u.2.2.1 35 by rw [wN], nI_add, show (100 : Int32) = nI 100 from rfl, nI_leI (by omega) (by decide)] at c117
            omega
          refine aw_aload_n C dX9_die_120 rfl rfl rfl ?_
          refine aw_iconst (v := 2) C dX9_die_121 rfl rfl ?_
          refine mw_put (th' := _) (u' := (dieN u p (u.2.2.1 31)).2) C hM hF f_X9_117 rfl rfl rfl rfl rfl rfl dX9_die_122 rfl (fun sg hM hF => ?_)
          refine aw_iconst (v := 0) C dX9_die_125 rfl rfl ?_
          exact aw_iret C rfl (Nat.le_refl _) (Nat.le_refl _) (PO.of (by rw [hop, if_pos (Or.inr hbig)]) hM hF) dX9_die_126
    have loop1 : ∀ (r m : Nat) (z : Int32) (b : Bool), m + r = (u.2.2.1 31) → z = nI (dieC u p m) → b = (dieN u p m).1 → ∀ sg, MS x.g ad 0 (dieN u p m).2 sg → MF ad sg0 sg → AW x (RQ x (PO x.g ad sg0 (opDie u (nI p))) noX (rmM 6).cells (rmM 6).slots) 0 0 sg 50 [(0, .ref (ad 0)), (1, .int (nI p)), (2, .int z), (3, .int (b2i b)), (4, .int (nI m))] [] := by
      intro r
      induction r with
      | zero =>
        intro m z b hm hz hb sg hM hF
        subst hz; subst hb
        obtain rfl : m = (u.2.2.1 31) := by omega
        have h31 : (dieN u p (u.2.2.1 31)).2.2.2.1 31 = (u.2.2.1 31) := by rw [wN]
        refine aw_iload C dX9_die_50 rfl rfl ?_
        refine aw_aload_n C dX9_die_52 rfl rfl rfl ?_
        refine aw_getf C f_X9_131 hM.1 rfl dX9_die_53 rfl ?_
        refine aw_icmp_ge (tgt := 105) C dX9_die_56 (by decide) rfl (fun c56 => ?_) (fun c56 => ?_)
        · exact k105 _ hM hF
        · exact absurd (by rw [h31, nI_leI (by omega) (by omega)] <;> omega) c56
      | succ r ih =>
        intro m z b hm hz hb sg hM hF
        have h31 : (dieN u p m).2.2.2.1 31 = (u.2.2.1 31) := by rw [wN]
        have hWw : WN (dieN u p m).2 := by unfold WN; rw [wN]; exact hW
        have hPw : WP (dieN u p m).2 := fun q hq => by rw [wI]; exact hP q hq
        have hDw : WD (dieN u p m).2 := fun q hq => by rw [wI]; exact hD q hq
        have hLw : WL (dieN u p m).2 := fun q hq => by rw [wI]; rw [wN] at hq; exact hL q hq
        have hRw : WR (dieN u p m).2 m := dieN_R (by omega) (by omega) (hS m (by omega))
        refine aw_iload C dX9_die_50 rfl rfl ?_
        refine aw_aload_n C dX9_die_52 rfl rfl rfl ?_
        refine aw_getf C f_X9_131 hM.1 rfl dX9_die_53 rfl ?_
        refine aw_icmp_ge (tgt := 105) C dX9_die_56 (by decide) rfl (fun c56 => ?_) (fun c56 => ?_)
        · exact absurd c56 (by rw [h31, nI_leI (by omega) (by omega)] <;> omega)
        · refine aw_aload_n C dX9_die_59 rfl rfl rfl ?_
          refine aw_getf C f_X9_92 hM.1 rfl dX9_die_60 rfl ?_
          refine aw_bipush (v := 13) C dX9_die_63 rfl rfl ?_
          refine aw_iload C dX9_die_65 rfl rfl ?_
          refine aw_imul C dX9_die_67 rfl ?_
          refine aw_iload_n C dX9_die_68 rfl rfl rfl ?_
          refine aw_iadd C dX9_die_69 rfl ?_
          refine mw_lald (k := 33) (N := 104) C hM rfl rfl (i := 13 * m + p) (by rw [show (13 : Int32) = nI 13 from rfl, pk_mul, nI_add]) (by omega) dX9_die_70 rfl ?_
          refine aw_lconst (v := 0) C dX9_die_71 rfl rfl ?_
          refine aw_lcmp C dX9_die_72 rfl ?_
          refine aw_if_le (tgt := 99) C dX9_die_73 (by decide) rfl (fun c73 => ?_) (fun c73 => ?_)
          · refine aw_iinc (v' := nI (m + 1)) (ls' := [(4, _), (0, _), (1, _), (2, _), (3, _)]) C dX9_die_99 rfl (by decide) (nI_1 m) rfl rfl ?_
            refine aw_goto (tgt := 50) C dX9_die_102 (by decide) ?_
            have hneg : ¬ 0 < u.2.1 33 (13 * m + p) := by rw [← w33 m]; exact lgc_le.mp c73
            refine aw_pick (ls' := [(0, _), (1, _), (2, _), (3, _), (4, _)]) [1, 2, 3, 4, 0] rfl ?_
            exact ih (m + 1) z b (by omega) (by rw [hz, dieC, if_neg hneg, Nat.add_zero]) (by rw [hb, dieN, if_neg hneg]) _ (by rw [dieN, if_neg hneg]; exact hM) hF
          · have hpos : 0 < u.2.1 33 (13 * m + p) := by
              have h9 := Classical.byContradiction (fun q => c73 (lgc_le.mpr q))
              rw [w33 m] at h9
              exact h9
            refine aw_aload_n C dX9_die_76 rfl rfl rfl ?_
            refine aw_iload_n C dX9_die_77 rfl rfl rfl ?_
            refine aw_iload C dX9_die_78 rfl rfl ?_
            refine mw_callV C k_X9_237 hM (M_leaves hl hst hM hWw hPw hDw hLw hp12 (by omega) hRw) ⟨by decide, by decide⟩ rfl rfl rfl (Nat.le_of_ble_eq_true rfl) dX9_die_80 rfl (fun v sg1 hq => ?_)
            obtain ⟨rfl, hM, hF1⟩ := hq
            have hF := MF.tr hF hF1
            refine aw_if_eq (tgt := 94) C dX9_die_83 (by decide) rfl (fun c83 => ?_) (fun c83 => ?_)
            · have c83 := fa_of c83
              refine aw_iconst (v := 0) C dX9_die_94 rfl rfl ?_
              refine aw_istore_n (ls' := [(3, _), (0, _), (1, _), (2, _), (4, _)]) C dX9_die_95 rfl (by decide) rfl rfl ?_
              refine aw_iinc (v' := _) (ls' := [(2, _), (3, _), (0, _), (1, _), (4, _)]) C dX9_die_96 rfl (by decide) rfl rfl rfl ?_
              refine aw_iinc (v' := nI (m + 1)) (ls' := [(4, _), (2, _), (3, _), (0, _), (1, _)]) C dX9_die_99 rfl (by decide) (nI_1 m) rfl rfl ?_
              refine aw_goto (tgt := 50) C dX9_die_102 (by decide) ?_
              refine aw_pick (ls' := [(0, _), (1, _), (2, _), (3, _), (4, _)]) [3, 4, 1, 2, 0] rfl ?_
              exact ih (m + 1) _ false (by omega) (by rw [hz, dieC, if_pos hpos]; exact nI_1 _) (by rw [dieN, if_pos hpos]; simp [c83]) _ (by rw [dieN, if_pos hpos]; exact hM) hF
            · have c83 := tr_of c83
              refine aw_iload_n C dX9_die_86 rfl rfl rfl ?_
              refine aw_if_eq (tgt := 94) C dX9_die_87 (by decide) rfl (fun c87 => ?_) (fun c87 => ?_)
              · have c87 := fa_of c87
                refine aw_iconst (v := 0) C dX9_die_94 rfl rfl ?_
                refine aw_istore_n (ls' := [(3, _), (0, _), (1, _), (2, _), (4, _)]) C dX9_die_95 rfl (by decide) rfl rfl ?_
                refine aw_iinc (v' := _) (ls' := [(2, _), (3, _), (0, _), (1, _), (4, _)]) C dX9_die_96 rfl (by decide) rfl rfl rfl ?_
                refine aw_iinc (v' := nI (m + 1)) (ls' := [(4, _), (2, _), (3, _), (0, _), (1, _)]) C dX9_die_99 rfl (by decide) (nI_1 m) rfl rfl ?_
                refine aw_goto (tgt := 50) C dX9_die_102 (by decide) ?_
                refine aw_pick (ls' := [(0, _), (1, _), (2, _), (3, _), (4, _)]) [3, 4, 1, 2, 0] rfl ?_
                exact ih (m + 1) _ false (by omega) (by rw [hz, dieC, if_pos hpos]; exact nI_1 _) (by rw [dieN, if_pos hpos]; simp [c83, ← hb, c87]) _ (by rw [dieN, if_pos hpos]; exact hM) hF
              · have c87 := tr_of c87
                refine aw_iconst (v := 1) C dX9_die_90 rfl rfl ?_
                refine aw_goto (tgt := 95) C dX9_die_91 (by decide) ?_
                refine aw_istore_n (ls' := [(3, _), (0, _), (1, _), (2, _), (4, _)]) C dX9_die_95 rfl (by decide) rfl rfl ?_
                refine aw_iinc (v' := _) (ls' := [(2, _), (3, _), (0, _), (1, _), (4, _)]) C dX9_die_96 rfl (by decide) rfl rfl rfl ?_
                refine aw_iinc (v' := nI (m + 1)) (ls' := [(4, _), (2, _), (3, _), (0, _), (1, _)]) C dX9_die_99 rfl (by decide) (nI_1 m) rfl rfl ?_
                refine aw_goto (tgt := 50) C dX9_die_102 (by decide) ?_
                refine aw_pick (ls' := [(0, _), (1, _), (2, _), (3, _), (4, _)]) [3, 4, 1, 2, 0] rfl ?_
                exact ih (m + 1) _ true (by omega) (by rw [hz, dieC, if_pos hpos]; exact nI_1 _) (by rw [dieN, if_pos hpos]; simp [c83, ← hb, c87]) _ (by rw [dieN, if_pos hpos]; exact hM) hF
    refine aw_pick (ls' := [(0, _), (1, _), (2, _), (3, _), (4, _)]) [3, 4, 2, 1, 0] rfl ?_
    exact loop1 (u.2.2.1 31) 0 (nI 0) true (by omega) rfl rfl sg hM hF
  refine aw_aload_n C dX9_die_0 rfl rfl rfl ?_
  refine aw_aload_n C dX9_die_1 rfl rfl rfl ?_
  refine aw_iload_n C dX9_die_2 rfl rfl rfl ?_
  refine mw_callVp C k_X9_137 hM (M_isPerson hl hst hM) ⟨by decide, by decide⟩ rfl rfl rfl (Nat.le_of_ble_eq_true rfl) dX9_die_3 rfl ?_
  refine aw_if_ne (tgt := 13) C dX9_die_6 (by decide) rfl (fun c6 => ?_) (fun c6 => ?_)
  · have c6 := tr_of c6
    obtain ⟨p, hp, rfl⟩ := isP_of hW c6
    have hp12 : p < 12 := by have := hW.1; omega
    have hpc := clampI (n := p) (by omega)
    refine aw_aload_n C dX9_die_13 rfl rfl rfl ?_
    refine aw_getf C f_X9_20 hM.1 rfl dX9_die_14 rfl ?_
    refine aw_iload_n C dX9_die_17 rfl rfl rfl ?_
    refine mw_zald (k := 6) (N := 12) C hM rfl rfl (i := p) rfl hp12 dX9_die_18 rfl ?_
    refine aw_if_eq (tgt := 26) C dX9_die_19 (by decide) rfl (fun c19 => ?_) (fun c19 => ?_)
    · refine aw_iconst (v := 0) C dX9_die_26 rfl rfl ?_
      refine mw_put (th' := _) (u' := _) C hM hF f_X9_117 rfl rfl rfl rfl rfl rfl dX9_die_27 rfl (fun sg hM hF => ?_)
      refine aw_aload_n C dX9_die_30 rfl rfl rfl ?_
      refine aw_getf C f_X9_117 hM.1 rfl dX9_die_31 rfl ?_
      refine aw_if_le (tgt := 39) C dX9_die_34 (by decide) rfl (fun _ => ?_) (fun h => by first | exact absurd h (by decide) | exact absurd (by decide) h)
      refine aw_iconst (v := 0) C dX9_die_39 rfl rfl ?_
      refine aw_istore_n (ls' := [(2, _), (0, _), (1, _)]) C dX9_die_40 rfl (by decide) rfl rfl ?_
      refine aw_iconst (v := 1) C dX9_die_41 rfl rfl ?_
      refine aw_istore_n (ls' := [(3, _), (2, _), (0, _), (1, _)]) C dX9_die_42 rfl (by decide) rfl rfl ?_
      refine aw_aload_n C dX9_die_43 rfl rfl rfl ?_
      refine mw_callV C k_X9_204 hM (M_laysNew hl hst hM) ⟨by decide, by decide⟩ rfl rfl rfl (Nat.le_of_ble_eq_true rfl) dX9_die_44 rfl (fun v sg1 hq => ?_)
      obtain ⟨rfl, hM, hF1⟩ := hq
      have hF := MF.tr hF hF1
      refine aw_iconst (v := 0) C dX9_die_47 rfl rfl ?_
      refine aw_istore (ls' := [(4, _), (3, _), (2, _), (0, _), (1, _)]) C dX9_die_48 (by decide) rfl rfl ?_
      exact body p hp rfl c6 c19 _ hM hF
    · refine aw_iconst (v := 2) C dX9_die_22 rfl rfl ?_
      refine aw_goto (tgt := 27) C dX9_die_23 (by decide) ?_
      refine mw_put (th' := _) (u' := _) C hM hF f_X9_117 rfl rfl rfl rfl rfl rfl dX9_die_27 rfl (fun sg hM hF => ?_)
      refine aw_aload_n C dX9_die_30 rfl rfl rfl ?_
      refine aw_getf C f_X9_117 hM.1 rfl dX9_die_31 rfl ?_
      refine aw_if_le (tgt := 39) C dX9_die_34 (by decide) rfl (fun h => by first | exact absurd h (by decide) | exact absurd (by decide) h) (fun _ => ?_)
      refine aw_iconst (v := 0) C dX9_die_37 rfl rfl ?_
      exact aw_iret C rfl (Nat.le_refl _) (Nat.le_refl _) (PO.of (by rw [opDie, if_neg (by simp [c6]), hpc, if_pos c19]) hM hF) dX9_die_38
  · have c6 := fa_of c6
    refine aw_iconst (v := 1) C dX9_die_9 rfl rfl ?_
    refine aw_goto (tgt := 27) C dX9_die_10 (by decide) ?_
    refine mw_put (th' := _) (u' := _) C hM hF f_X9_117 rfl rfl rfl rfl rfl rfl dX9_die_27 rfl (fun sg hM hF => ?_)
    refine aw_aload_n C dX9_die_30 rfl rfl rfl ?_
    refine aw_getf C f_X9_117 hM.1 rfl dX9_die_31 rfl ?_
    refine aw_if_le (tgt := 39) C dX9_die_34 (by decide) rfl (fun h => by first | exact absurd h (by decide) | exact absurd (by decide) h) (fun _ => ?_)
    refine aw_iconst (v := 0) C dX9_die_37 rfl rfl ?_
    exact aw_iret C rfl (Nat.le_refl _) (Nat.le_refl _) (PO.of (by simp [opDie, c6]) hM hF) dX9_die_38
