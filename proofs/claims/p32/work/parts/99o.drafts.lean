/-! drafts -/
set_option maxRecDepth 100000 in
theorem D_0 {x : Cx} {ez : Nat} (G : GOK x.g x.l ez) (C : AWC x cL_drafts 16 RL rmA (some .boolean)) {ad : Nat → Nat → Nat} {u : MU} {Y : GS} {L : ZU} {al : Nat → Nat} {sg0 : Sg} {m : Nat} (hS : CS x.g ez ad u Y sg0) (hM : ZS x.g al L sg0) (hZ : CZ m u) (hR : ZR L u) (hK : ZKu u) (hT0 : L.1 10 0 ≤ 400 * m) (hT4 : L.1 10 4 ≤ 6000 * m) (hm : m ≤ 130) (hlt : L.1 10 1 < 24) {zz : Int32} : AW x (RQ x (ZA x.g ez al (ad 0 0) (m + 1)) noX 60 12000) 0 0 sg0 30 [(0, .ref ((ad 0 0))), (1, .int (zz)), (2, .ref (al 0)), (3, .ref (al 1)), (4, .ref (al 2)), (5, .ref (al 10)), (6, .int (nI ((L.1 10 1))))] [.int (nI (0))] := by
  have hl := G.1
  have hst := G.2.1
  have hB := hR.B
  have hM0 := hM
  have hF : ZFr al sg0 sg0 := ZFr.rf
  have hI := hZ.1
  refine aw_istore (ls' := [(7, _), (0, _), (1, _), (2, _), (3, _), (4, _), (5, _), (6, _)]) C dL_drafts_30 (by decide) rfl rfl ?_
  refine aw_pick (ls' := [(0, _), (1, _), (2, _), (3, _), (4, _), (5, _), (6, _), (7, _)]) [1, 2, 3, 4, 5, 6, 7, 0] rfl ?_
  refine aw_iload_n C dL_drafts_32 rfl rfl rfl ?_
  refine aw_iconst (v := nI 3) C dL_drafts_33 rfl rfl ?_
  refine aw_ishr C dL_drafts_34 rfl ?_
  refine aw_bipush (v := nI 6) C dL_drafts_35 rfl rfl ?_
  refine cw_callSp C k_L_98 (N_low hl hst (v := (zz >>> (nI 3 &&& 31))) (N := 6) (by decide) (by decide)) ⟨by decide, by decide⟩ rfl rfl (Nat.le_of_ble_eq_true rfl) (Nat.le_of_ble_eq_true rfl) (Nat.le_of_ble_eq_true rfl) dL_drafts_37 rfl ?_
  obtain ⟨g, eg⟩ : ∃ q, q = n_low (zz >>> (nI 3 &&& 31)) 6 := ⟨_, rfl⟩
  rw [← eg]
  have hg : g < 6 := by rw [eg]; exact n_low_lt (by decide)
  refine aw_istore (ls' := [(8, _), (0, _), (1, _), (2, _), (3, _), (4, _), (5, _), (6, _), (7, _)]) C dL_drafts_40 (by decide) rfl rfl ?_
  refine aw_pick (ls' := [(0, _), (1, _), (2, _), (3, _), (4, _), (5, _), (6, _), (7, _), (8, _)]) [1, 2, 3, 4, 5, 6, 7, 8, 0] rfl ?_
  refine aw_iload_n C dL_drafts_42 rfl rfl rfl ?_
  refine aw_bipush (v := nI 6) C dL_drafts_43 rfl rfl ?_
  refine aw_ishr C dL_drafts_45 rfl ?_
  refine aw_bipush (v := nI 6) C dL_drafts_46 rfl rfl ?_
  refine cw_callSp C k_L_98 (N_low hl hst (v := (zz >>> (nI 6 &&& 31))) (N := 6) (by decide) (by decide)) ⟨by decide, by decide⟩ rfl rfl (Nat.le_of_ble_eq_true rfl) (Nat.le_of_ble_eq_true rfl) (Nat.le_of_ble_eq_true rfl) dL_drafts_48 rfl ?_
  obtain ⟨t, et⟩ : ∃ q, q = n_low (zz >>> (nI 6 &&& 31)) 6 := ⟨_, rfl⟩
  rw [← et]
  have ht : t < 6 := by rw [et]; exact n_low_lt (by decide)
  refine aw_istore (ls' := [(9, _), (0, _), (1, _), (2, _), (3, _), (4, _), (5, _), (6, _), (7, _), (8, _)]) C dL_drafts_51 (by decide) rfl rfl ?_
  refine aw_pick (ls' := [(0, _), (1, _), (2, _), (3, _), (4, _), (5, _), (6, _), (7, _), (8, _), (9, _)]) [1, 2, 3, 4, 5, 6, 7, 8, 9, 0] rfl ?_
  refine aw_iload_n C dL_drafts_53 rfl rfl rfl ?_
  refine aw_bipush (v := nI 9) C dL_drafts_54 rfl rfl ?_
  refine aw_ishr C dL_drafts_56 rfl ?_
  refine aw_iconst (v := nI 2) C dL_drafts_57 rfl rfl ?_
  refine cw_callSp C k_L_98 (N_low hl hst (v := (zz >>> (nI 9 &&& 31))) (N := 2) (by decide) (by decide)) ⟨by decide, by decide⟩ rfl rfl (Nat.le_of_ble_eq_true rfl) (Nat.le_of_ble_eq_true rfl) (Nat.le_of_ble_eq_true rfl) dL_drafts_58 rfl ?_
  obtain ⟨th, eth⟩ : ∃ q, q = n_low (zz >>> (nI 9 &&& 31)) 2 := ⟨_, rfl⟩
  rw [← eth]
  have hth : th < 2 := by rw [eth]; exact n_low_lt (by decide)
  refine aw_istore (ls' := [(10, _), (0, _), (1, _), (2, _), (3, _), (4, _), (5, _), (6, _), (7, _), (8, _), (9, _)]) C dL_drafts_61 (by decide) rfl rfl ?_
  refine aw_pick (ls' := [(0, _), (1, _), (2, _), (3, _), (4, _), (5, _), (6, _), (7, _), (8, _), (9, _), (10, _)]) [1, 2, 3, 4, 5, 6, 7, 8, 9, 10, 0] rfl ?_
  refine aw_iconst (v := nI 1) C dL_drafts_63 rfl rfl ?_
  refine aw_iload_n C dL_drafts_64 rfl rfl rfl ?_
  refine aw_bipush (v := nI 10) C dL_drafts_65 rfl rfl ?_
  refine aw_ishr C dL_drafts_67 rfl ?_
  refine aw_iconst (v := nI 4) C dL_drafts_68 rfl rfl ?_
  refine cw_callSp C k_L_98 (N_low hl hst (v := (zz >>> (nI 10 &&& 31))) (N := 4) (by decide) (by decide)) ⟨by decide, by decide⟩ rfl rfl (Nat.le_of_ble_eq_true rfl) (Nat.le_of_ble_eq_true rfl) (Nat.le_of_ble_eq_true rfl) dL_drafts_69 rfl ?_
  obtain ⟨q4, eq4⟩ : ∃ q, q = n_low (zz >>> (nI 10 &&& 31)) 4 := ⟨_, rfl⟩
  rw [← eq4]
  have hq4 : q4 < 4 := by rw [eq4]; exact n_low_lt (by decide)
  refine aw_iconst (v := nI 3) C dL_drafts_72 rfl rfl ?_
  refine an_div C (by omega) (by decide) (by decide) dL_drafts_73 rfl ?_
  refine an_add C dL_drafts_74 rfl ?_
  refine aw_istore (ls' := [(11, _), (0, _), (1, _), (2, _), (3, _), (4, _), (5, _), (6, _), (7, _), (8, _), (9, _), (10, _)]) C dL_drafts_75 (by decide) rfl rfl ?_
  refine aw_pick (ls' := [(0, _), (1, _), (2, _), (3, _), (4, _), (5, _), (6, _), (7, _), (8, _), (9, _), (10, _), (11, _)]) [1, 2, 3, 4, 5, 6, 7, 8, 9, 10, 11, 0] rfl ?_
  refine aw_iload C dL_drafts_77 rfl rfl ?_
  refine aw_iconst (v := nI 2) C dL_drafts_79 rfl rfl ?_
  refine an_icmp_ne (a := 1 + (q4 / 3)) (b := 2) (tgt := 87) C dL_drafts_80 (by omega) (by decide) (by decide) rfl (fun c80 => ?_) (fun c80 => ?_)
  · refine aw_iconst (v := nI 1) C dL_drafts_87 rfl rfl ?_
    refine aw_iload_n C dL_drafts_88 rfl rfl rfl ?_
    refine aw_bipush (v := nI 12) C dL_drafts_89 rfl rfl ?_
    refine aw_ishr C dL_drafts_91 rfl ?_
    refine aw_iconst (v := nI 4) C dL_drafts_92 rfl rfl ?_
    refine cw_callSp C k_L_98 (N_low hl hst (v := (zz >>> (nI 12 &&& 31))) (N := 4) (by decide) (by decide)) ⟨by decide, by decide⟩ rfl rfl (Nat.le_of_ble_eq_true rfl) (Nat.le_of_ble_eq_true rfl) (Nat.le_of_ble_eq_true rfl) dL_drafts_93 rfl ?_
    obtain ⟨q5, eq5⟩ : ∃ q, q = n_low (zz >>> (nI 12 &&& 31)) 4 := ⟨_, rfl⟩
    rw [← eq5]
    have hq5 : q5 < 4 := by rw [eq5]; exact n_low_lt (by decide)
    refine an_add C dL_drafts_96 rfl ?_
    refine aw_istore (ls' := [(12, _), (0, _), (1, _), (2, _), (3, _), (4, _), (5, _), (6, _), (7, _), (8, _), (9, _), (10, _), (11, _)]) C dL_drafts_97 (by decide) rfl rfl ?_
    refine aw_pick (ls' := [(0, _), (1, _), (2, _), (3, _), (4, _), (5, _), (6, _), (7, _), (8, _), (9, _), (10, _), (11, _), (12, _)]) [1, 2, 3, 4, 5, 6, 7, 8, 9, 10, 11, 12, 0] rfl ?_
    refine aw_iload C dL_drafts_99 rfl rfl ?_
    refine aw_iload C dL_drafts_101 rfl rfl ?_
    refine an_icmp_ne (a := g) (b := t) (tgt := 108) C dL_drafts_103 (by omega) (by omega) (by decide) rfl (fun c103 => ?_) (fun c103 => ?_)
    · refine aw_aload_n C dL_drafts_108 rfl rfl rfl ?_
      refine aw_bipush (v := nI 16) C dL_drafts_109 rfl rfl ?_
      refine aw_iload C dL_drafts_111 rfl rfl ?_
      refine an_add C dL_drafts_113 rfl ?_
      refine an_iald (k := 0) (i := 16 + g) (N := 40) (v := (L.1 0 (16 + g))) C hM rfl rfl (by omega) rfl dL_drafts_114 rfl ?_
      refine aw_aload_n C dL_drafts_115 rfl rfl rfl ?_
      refine aw_bipush (v := nI 16) C dL_drafts_116 rfl rfl ?_
      refine aw_iload C dL_drafts_118 rfl rfl ?_
      refine an_add C dL_drafts_120 rfl ?_
      refine an_iald (k := 0) (i := 16 + t) (N := 40) (v := (L.1 0 (16 + t))) C hM rfl rfl (by omega) rfl dL_drafts_121 rfl ?_
      refine an_add C dL_drafts_122 rfl ?_
      refine an_if_ne (a := (L.1 0 (16 + g)) + (L.1 0 (16 + t))) (tgt := 130) C dL_drafts_123 (by have := hB 0 (16 + g); have := hB 0 (16 + t); omega) (by decide) rfl (fun c123 => ?_) (fun c123 => ?_)
      · refine aw_iconst (v := nI 0) C dL_drafts_130 rfl rfl ?_
        refine aw_istore (ls' := [(13, _), (0, _), (1, _), (2, _), (3, _), (4, _), (5, _), (6, _), (7, _), (8, _), (9, _), (10, _), (11, _), (12, _)]) C dL_drafts_131 (by decide) rfl rfl ?_
        refine aw_pick (ls' := [(0, _), (1, _), (2, _), (3, _), (4, _), (5, _), (6, _), (7, _), (8, _), (9, _), (10, _), (11, _), (12, _), (13, _)]) [1, 2, 3, 4, 5, 6, 7, 8, 9, 10, 11, 12, 13, 0] rfl ?_
        refine aw_iload C dL_drafts_133 rfl rfl ?_
        refine an_if_eq (a := 0) (tgt := 143) C dL_drafts_135 (by decide) (by decide) rfl (fun _ => ?_) (fun q => absurd (by decide) q)
        refine aw_sipush (v := -1003) C dL_drafts_143 rfl rfl ?_
        refine aw_istore (ls' := [(14, _), (0, _), (1, _), (2, _), (3, _), (4, _), (5, _), (6, _), (7, _), (8, _), (9, _), (10, _), (11, _), (12, _), (13, _)]) C dL_drafts_146 (by decide) rfl rfl ?_
        refine aw_pick (ls' := [(0, _), (1, _), (2, _), (3, _), (4, _), (5, _), (6, _), (7, _), (8, _), (9, _), (10, _), (11, _), (12, _), (13, _), (14, _)]) [1, 2, 3, 4, 5, 6, 7, 8, 9, 10, 11, 12, 13, 14, 0] rfl ?_
        refine aw_iload C dL_drafts_148 rfl rfl ?_
        refine aw_iconst (v := nI 3) C dL_drafts_150 rfl rfl ?_
        refine an_icmp_ge (a := 0) (b := 3) (tgt := 186) C dL_drafts_151 (by decide) (by decide) (by decide) rfl (fun q => absurd (by decide) q) (fun _ => ?_)
        refine aw_aload_n C dL_drafts_154 rfl rfl rfl ?_
        refine aw_iconst (v := nI 0) C dL_drafts_155 rfl rfl ?_
        refine aw_iload C dL_drafts_156 rfl rfl ?_
        refine aw_iload C dL_drafts_158 rfl rfl ?_
        refine aw_iload C dL_drafts_160 rfl rfl ?_
        refine aw_iload C dL_drafts_162 rfl rfl ?_
        refine aw_iload C dL_drafts_164 rfl rfl ?_
        refine aw_iload C dL_drafts_166 rfl rfl ?_
        have hdr := r_draft hZ hR hlt (kd := 0) (g := g) (t := t) (th := th) (ab := 1 + (q4 / 3)) (be := 1 + q5) (by decide) hg ht c103 hth (by omega) (by omega) (by omega)
        refine aw_callSW C kL_calls (H_draft G hS hI (a := nI (0)) (b := nI (g)) (c := nI (t)) (d := nI (th)) (e := nI (1 + (q4 / 3))) (f := nI (1 + q5)) hdr.1) ⟨by decide, by decide⟩ rfl rfl (Nat.le_of_ble_eq_true rfl) (Nat.le_of_ble_eq_true rfl) (Nat.le_of_ble_eq_true rfl) dL_drafts_168 rfl (fun _ _ q => ax_no q) (fun v1 sg hq => ?_)
        obtain ⟨rfl, hC⟩ := hq
        have hM := hM.keepC hS hC.fr
        obtain ⟨ad', Y', hS1, e0, -, -, -⟩ := hC
        have hF : ZFr al sg sg := ZFr.rf
        have hMc := hM
        refine aw_iload C dL_drafts_171 rfl rfl ?_
        refine aw_icmp_ne (tgt := 180) C dL_drafts_173 (by decide) rfl (fun q => absurd (hdr.2.2 c123).1 q) (fun _ => ?_)
        refine aw_iconst (v := nI 1) C dL_drafts_176 rfl rfl ?_
        refine aw_goto (tgt := 181) C dL_drafts_177 (by decide) ?_
        refine aw_istore (ls' := [(15, _), (0, _), (1, _), (2, _), (3, _), (4, _), (5, _), (6, _), (7, _), (8, _), (9, _), (10, _), (11, _), (12, _), (13, _), (14, _)]) C dL_drafts_181 (by decide) rfl rfl ?_
        refine aw_pick (ls' := [(0, _), (1, _), (2, _), (3, _), (4, _), (5, _), (6, _), (7, _), (8, _), (9, _), (10, _), (11, _), (12, _), (13, _), (14, _), (15, _)]) [1, 2, 3, 4, 5, 6, 7, 8, 9, 10, 11, 12, 13, 14, 15, 0] rfl ?_
        refine aw_goto (tgt := 284) C dL_drafts_183 (by decide) ?_
        refine aw_iload C dL_drafts_284 rfl rfl ?_
        refine an_if_eq (a := 0) (tgt := 369) C dL_drafts_286 (by decide) (by decide) rfl (fun _ => ?_) (fun q => absurd (by decide) q)
        refine aw_iload C dL_drafts_369 rfl rfl ?_
        have hu := (hdr.2.2 c123).2
        exact aw_iret C rfl (Nat.le_of_ble_eq_true rfl) (Nat.le_of_ble_eq_true rfl) ⟨rfl, ad', u, Y', L, (by rw [hu] at hS1; exact hS1), e0, hM, hZ.next, hR, hK, by omega, by omega⟩ dL_drafts_371
      · refine aw_iconst (v := nI 1) C dL_drafts_126 rfl rfl ?_
        refine aw_goto (tgt := 131) C dL_drafts_127 (by decide) ?_
        refine aw_istore (ls' := [(13, _), (0, _), (1, _), (2, _), (3, _), (4, _), (5, _), (6, _), (7, _), (8, _), (9, _), (10, _), (11, _), (12, _)]) C dL_drafts_131 (by decide) rfl rfl ?_
        refine aw_pick (ls' := [(0, _), (1, _), (2, _), (3, _), (4, _), (5, _), (6, _), (7, _), (8, _), (9, _), (10, _), (11, _), (12, _), (13, _)]) [1, 2, 3, 4, 5, 6, 7, 8, 9, 10, 11, 12, 13, 0] rfl ?_
        refine aw_iload C dL_drafts_133 rfl rfl ?_
        refine an_if_eq (a := 1) (tgt := 143) C dL_drafts_135 (by decide) (by decide) rfl (fun q => absurd q (by decide)) (fun _ => ?_)
        refine aw_iload C dL_drafts_138 rfl rfl ?_
        refine aw_goto (tgt := 146) C dL_drafts_140 (by decide) ?_
        refine aw_istore (ls' := [(14, _), (0, _), (1, _), (2, _), (3, _), (4, _), (5, _), (6, _), (7, _), (8, _), (9, _), (10, _), (11, _), (12, _), (13, _)]) C dL_drafts_146 (by decide) rfl rfl ?_
        refine aw_pick (ls' := [(0, _), (1, _), (2, _), (3, _), (4, _), (5, _), (6, _), (7, _), (8, _), (9, _), (10, _), (11, _), (12, _), (13, _), (14, _)]) [1, 2, 3, 4, 5, 6, 7, 8, 9, 10, 11, 12, 13, 14, 0] rfl ?_
        refine aw_iload C dL_drafts_148 rfl rfl ?_
        refine aw_iconst (v := nI 3) C dL_drafts_150 rfl rfl ?_
        refine an_icmp_ge (a := 0) (b := 3) (tgt := 186) C dL_drafts_151 (by decide) (by decide) (by decide) rfl (fun q => absurd (by decide) q) (fun _ => ?_)
        refine aw_aload_n C dL_drafts_154 rfl rfl rfl ?_
        refine aw_iconst (v := nI 0) C dL_drafts_155 rfl rfl ?_
        refine aw_iload C dL_drafts_156 rfl rfl ?_
        refine aw_iload C dL_drafts_158 rfl rfl ?_
        refine aw_iload C dL_drafts_160 rfl rfl ?_
        refine aw_iload C dL_drafts_162 rfl rfl ?_
        refine aw_iload C dL_drafts_164 rfl rfl ?_
        refine aw_iload C dL_drafts_166 rfl rfl ?_
        have hdr := r_draft hZ hR hlt (kd := 0) (g := g) (t := t) (th := th) (ab := 1 + (q4 / 3)) (be := 1 + q5) (by decide) hg ht c103 hth (by omega) (by omega) (by omega)
        refine aw_callSW C kL_calls (H_draft G hS hI (a := nI (0)) (b := nI (g)) (c := nI (t)) (d := nI (th)) (e := nI (1 + (q4 / 3))) (f := nI (1 + q5)) hdr.1) ⟨by decide, by decide⟩ rfl rfl (Nat.le_of_ble_eq_true rfl) (Nat.le_of_ble_eq_true rfl) (Nat.le_of_ble_eq_true rfl) dL_drafts_168 rfl (fun _ _ q => ax_no q) (fun v1 sg hq => ?_)
        obtain ⟨rfl, hC⟩ := hq
        have hM := hM.keepC hS hC.fr
        obtain ⟨ad', Y', hS1, e0, -, -, -⟩ := hC
        have hF : ZFr al sg sg := ZFr.rf
        have hMc := hM
        refine aw_iload C dL_drafts_171 rfl rfl ?_
        refine aw_icmp_ne (tgt := 180) C dL_drafts_173 (by decide) rfl (fun q => absurd (hdr.2.1 c123).1 q) (fun _ => ?_)
        refine aw_iconst (v := nI 1) C dL_drafts_176 rfl rfl ?_
        refine aw_goto (tgt := 181) C dL_drafts_177 (by decide) ?_
        refine aw_istore (ls' := [(15, _), (0, _), (1, _), (2, _), (3, _), (4, _), (5, _), (6, _), (7, _), (8, _), (9, _), (10, _), (11, _), (12, _), (13, _), (14, _)]) C dL_drafts_181 (by decide) rfl rfl ?_
        refine aw_pick (ls' := [(0, _), (1, _), (2, _), (3, _), (4, _), (5, _), (6, _), (7, _), (8, _), (9, _), (10, _), (11, _), (12, _), (13, _), (14, _), (15, _)]) [1, 2, 3, 4, 5, 6, 7, 8, 9, 10, 11, 12, 13, 14, 15, 0] rfl ?_
        refine aw_goto (tgt := 284) C dL_drafts_183 (by decide) ?_
        refine aw_iload C dL_drafts_284 rfl rfl ?_
        refine an_if_eq (a := 1) (tgt := 369) C dL_drafts_286 (by decide) (by decide) rfl (fun q => absurd q (by decide)) (fun _ => ?_)
        refine aw_aload_n C dL_drafts_289 rfl rfl rfl ?_
        refine aw_iload C dL_drafts_290 rfl rfl ?_
        refine aw_iload C dL_drafts_292 rfl rfl ?_
        refine aw_bipush (v := nI 8) C dL_drafts_294 rfl rfl ?_
        refine aw_iload C dL_drafts_296 rfl rfl ?_
        refine an_mul C dL_drafts_298 rfl ?_
        refine an_add C dL_drafts_299 rfl ?_
        refine aw_bipush (v := nI 64) C dL_drafts_300 rfl rfl ?_
        refine aw_iload C dL_drafts_302 rfl rfl ?_
        refine an_mul C dL_drafts_304 rfl ?_
        refine an_add C dL_drafts_305 rfl ?_
        refine aw_sipush (v := nI 512) C dL_drafts_306 rfl rfl ?_
        refine aw_iload C dL_drafts_309 rfl rfl ?_
        refine aw_iconst (v := nI 4) C dL_drafts_311 rfl rfl ?_
        refine an_icmp_ne (a := 0) (b := 4) (tgt := 319) C dL_drafts_312 (by decide) (by decide) (by decide) rfl (fun _ => ?_) (fun q => absurd q (by decide))
        refine aw_iload C dL_drafts_319 rfl rfl ?_
        refine aw_iconst (v := nI 1) C dL_drafts_321 rfl rfl ?_
        refine an_add C dL_drafts_322 rfl ?_
        refine an_mul C dL_drafts_323 rfl ?_
        refine an_add C dL_drafts_324 rfl ?_
        refine an_iast (k := 1) (i := (L.1 10 1)) (N := 24) (v := ((0 + (8 * g)) + (64 * t)) + (512 * (th + 1))) C hM hF rfl rfl (by have := hB 10 1; omega) dL_drafts_325 rfl (fun sg hM hF => ?_)
        refine aw_aload C dL_drafts_326 rfl rfl ?_
        refine aw_iload C dL_drafts_328 rfl rfl ?_
        refine aw_iload C dL_drafts_330 rfl rfl ?_
        refine aw_iconst (v := nI 3) C dL_drafts_332 rfl rfl ?_
        refine an_icmp_ne (a := 0) (b := 3) (tgt := 351) C dL_drafts_333 (by decide) (by decide) (by decide) rfl (fun _ => ?_) (fun q => absurd q (by decide))
        refine aw_sipush (v := nI 128) C dL_drafts_351 rfl rfl ?_
        refine aw_iload C dL_drafts_354 rfl rfl ?_
        refine an_mul C dL_drafts_356 rfl ?_
        refine aw_iload C dL_drafts_357 rfl rfl ?_
        refine an_add C dL_drafts_359 rfl ?_
        refine an_iast (k := 2) (i := (L.1 10 1)) (N := 24) (v := (128 * (1 + (q4 / 3))) + (1 + q5)) C hM hF rfl rfl (by have := hB 10 1; omega) dL_drafts_360 rfl (fun sg hM hF => ?_)
        refine aw_aload C dL_drafts_361 rfl rfl ?_
        refine aw_iconst (v := nI 1) C dL_drafts_363 rfl rfl ?_
        refine aw_dup2 C dL_drafts_364 rfl rfl rfl ?_
        refine an_iald (k := 10) (i := 1) (N := 5) (v := (L.1 10 1)) C hM rfl rfl (by decide) (by rw [zI_k (by decide)]; exact (by rw [zI_k (by decide)])) dL_drafts_365 rfl ?_
        refine aw_iconst (v := nI 1) C dL_drafts_366 rfl rfl ?_
        refine an_add C dL_drafts_367 rfl ?_
        refine an_iast (k := 10) (i := 1) (N := 5) (v := (L.1 10 1) + 1) C hM hF rfl rfl (by decide) dL_drafts_368 rfl (fun sg hM hF => ?_)
        refine aw_iload C dL_drafts_369 rfl rfl ?_
        exact aw_iret C rfl (Nat.le_of_ble_eq_true rfl) (Nat.le_of_ble_eq_true rfl) ⟨rfl, ad', _, Y', _, (hS1.keepZ hMc hF), e0, hM, hZ.draft.next, (hdr.2.1 c123).2, hK.draft, (by rw [zI_n (by decide), zI_k (by decide), zI_k (by decide)]; omega), (by rw [zI_n (by decide), zI_k (by decide), zI_k (by decide)]; omega)⟩ dL_drafts_371
    · refine aw_iconst (v := nI 1) C dL_drafts_106 rfl rfl ?_
      exact aw_iret C rfl (Nat.le_of_ble_eq_true rfl) (Nat.le_of_ble_eq_true rfl) ⟨rfl, ad, _, Y, _, hS, rfl, hM, hZ.next, hR, hK, by omega, by omega⟩ dL_drafts_107
  · refine aw_iconst (v := nI 3) C dL_drafts_83 rfl rfl ?_
    refine aw_goto (tgt := 97) C dL_drafts_84 (by decide) ?_
    refine aw_istore (ls' := [(12, _), (0, _), (1, _), (2, _), (3, _), (4, _), (5, _), (6, _), (7, _), (8, _), (9, _), (10, _), (11, _)]) C dL_drafts_97 (by decide) rfl rfl ?_
    refine aw_pick (ls' := [(0, _), (1, _), (2, _), (3, _), (4, _), (5, _), (6, _), (7, _), (8, _), (9, _), (10, _), (11, _), (12, _)]) [1, 2, 3, 4, 5, 6, 7, 8, 9, 10, 11, 12, 0] rfl ?_
    refine aw_iload C dL_drafts_99 rfl rfl ?_
    refine aw_iload C dL_drafts_101 rfl rfl ?_
    refine an_icmp_ne (a := g) (b := t) (tgt := 108) C dL_drafts_103 (by omega) (by omega) (by decide) rfl (fun c103 => ?_) (fun c103 => ?_)
    · refine aw_aload_n C dL_drafts_108 rfl rfl rfl ?_
      refine aw_bipush (v := nI 16) C dL_drafts_109 rfl rfl ?_
      refine aw_iload C dL_drafts_111 rfl rfl ?_
      refine an_add C dL_drafts_113 rfl ?_
      refine an_iald (k := 0) (i := 16 + g) (N := 40) (v := (L.1 0 (16 + g))) C hM rfl rfl (by omega) rfl dL_drafts_114 rfl ?_
      refine aw_aload_n C dL_drafts_115 rfl rfl rfl ?_
      refine aw_bipush (v := nI 16) C dL_drafts_116 rfl rfl ?_
      refine aw_iload C dL_drafts_118 rfl rfl ?_
      refine an_add C dL_drafts_120 rfl ?_
      refine an_iald (k := 0) (i := 16 + t) (N := 40) (v := (L.1 0 (16 + t))) C hM rfl rfl (by omega) rfl dL_drafts_121 rfl ?_
      refine an_add C dL_drafts_122 rfl ?_
      refine an_if_ne (a := (L.1 0 (16 + g)) + (L.1 0 (16 + t))) (tgt := 130) C dL_drafts_123 (by have := hB 0 (16 + g); have := hB 0 (16 + t); omega) (by decide) rfl (fun c123 => ?_) (fun c123 => ?_)
      · refine aw_iconst (v := nI 0) C dL_drafts_130 rfl rfl ?_
        refine aw_istore (ls' := [(13, _), (0, _), (1, _), (2, _), (3, _), (4, _), (5, _), (6, _), (7, _), (8, _), (9, _), (10, _), (11, _), (12, _)]) C dL_drafts_131 (by decide) rfl rfl ?_
        refine aw_pick (ls' := [(0, _), (1, _), (2, _), (3, _), (4, _), (5, _), (6, _), (7, _), (8, _), (9, _), (10, _), (11, _), (12, _), (13, _)]) [1, 2, 3, 4, 5, 6, 7, 8, 9, 10, 11, 12, 13, 0] rfl ?_
        refine aw_iload C dL_drafts_133 rfl rfl ?_
        refine an_if_eq (a := 0) (tgt := 143) C dL_drafts_135 (by decide) (by decide) rfl (fun _ => ?_) (fun q => absurd (by decide) q)
        refine aw_sipush (v := -1003) C dL_drafts_143 rfl rfl ?_
        refine aw_istore (ls' := [(14, _), (0, _), (1, _), (2, _), (3, _), (4, _), (5, _), (6, _), (7, _), (8, _), (9, _), (10, _), (11, _), (12, _), (13, _)]) C dL_drafts_146 (by decide) rfl rfl ?_
        refine aw_pick (ls' := [(0, _), (1, _), (2, _), (3, _), (4, _), (5, _), (6, _), (7, _), (8, _), (9, _), (10, _), (11, _), (12, _), (13, _), (14, _)]) [1, 2, 3, 4, 5, 6, 7, 8, 9, 10, 11, 12, 13, 14, 0] rfl ?_
        refine aw_iload C dL_drafts_148 rfl rfl ?_
        refine aw_iconst (v := nI 3) C dL_drafts_150 rfl rfl ?_
        refine an_icmp_ge (a := 0) (b := 3) (tgt := 186) C dL_drafts_151 (by decide) (by decide) (by decide) rfl (fun q => absurd (by decide) q) (fun _ => ?_)
        refine aw_aload_n C dL_drafts_154 rfl rfl rfl ?_
        refine aw_iconst (v := nI 0) C dL_drafts_155 rfl rfl ?_
        refine aw_iload C dL_drafts_156 rfl rfl ?_
        refine aw_iload C dL_drafts_158 rfl rfl ?_
        refine aw_iload C dL_drafts_160 rfl rfl ?_
        refine aw_iload C dL_drafts_162 rfl rfl ?_
        refine aw_iload C dL_drafts_164 rfl rfl ?_
        refine aw_iload C dL_drafts_166 rfl rfl ?_
        have hdr := r_draft hZ hR hlt (kd := 0) (g := g) (t := t) (th := th) (ab := 1 + (q4 / 3)) (be := 3) (by decide) hg ht c103 hth (by omega) (by omega) (by omega)
        refine aw_callSW C kL_calls (H_draft G hS hI (a := nI (0)) (b := nI (g)) (c := nI (t)) (d := nI (th)) (e := nI (1 + (q4 / 3))) (f := nI (3)) hdr.1) ⟨by decide, by decide⟩ rfl rfl (Nat.le_of_ble_eq_true rfl) (Nat.le_of_ble_eq_true rfl) (Nat.le_of_ble_eq_true rfl) dL_drafts_168 rfl (fun _ _ q => ax_no q) (fun v1 sg hq => ?_)
        obtain ⟨rfl, hC⟩ := hq
        have hM := hM.keepC hS hC.fr
        obtain ⟨ad', Y', hS1, e0, -, -, -⟩ := hC
        have hF : ZFr al sg sg := ZFr.rf
        have hMc := hM
        refine aw_iload C dL_drafts_171 rfl rfl ?_
        refine aw_icmp_ne (tgt := 180) C dL_drafts_173 (by decide) rfl (fun q => absurd (hdr.2.2 c123).1 q) (fun _ => ?_)
        refine aw_iconst (v := nI 1) C dL_drafts_176 rfl rfl ?_
        refine aw_goto (tgt := 181) C dL_drafts_177 (by decide) ?_
        refine aw_istore (ls' := [(15, _), (0, _), (1, _), (2, _), (3, _), (4, _), (5, _), (6, _), (7, _), (8, _), (9, _), (10, _), (11, _), (12, _), (13, _), (14, _)]) C dL_drafts_181 (by decide) rfl rfl ?_
        refine aw_pick (ls' := [(0, _), (1, _), (2, _), (3, _), (4, _), (5, _), (6, _), (7, _), (8, _), (9, _), (10, _), (11, _), (12, _), (13, _), (14, _), (15, _)]) [1, 2, 3, 4, 5, 6, 7, 8, 9, 10, 11, 12, 13, 14, 15, 0] rfl ?_
        refine aw_goto (tgt := 284) C dL_drafts_183 (by decide) ?_
        refine aw_iload C dL_drafts_284 rfl rfl ?_
        refine an_if_eq (a := 0) (tgt := 369) C dL_drafts_286 (by decide) (by decide) rfl (fun _ => ?_) (fun q => absurd (by decide) q)
        refine aw_iload C dL_drafts_369 rfl rfl ?_
        have hu := (hdr.2.2 c123).2
        exact aw_iret C rfl (Nat.le_of_ble_eq_true rfl) (Nat.le_of_ble_eq_true rfl) ⟨rfl, ad', u, Y', L, (by rw [hu] at hS1; exact hS1), e0, hM, hZ.next, hR, hK, by omega, by omega⟩ dL_drafts_371
      · refine aw_iconst (v := nI 1) C dL_drafts_126 rfl rfl ?_
        refine aw_goto (tgt := 131) C dL_drafts_127 (by decide) ?_
        refine aw_istore (ls' := [(13, _), (0, _), (1, _), (2, _), (3, _), (4, _), (5, _), (6, _), (7, _), (8, _), (9, _), (10, _), (11, _), (12, _)]) C dL_drafts_131 (by decide) rfl rfl ?_
        refine aw_pick (ls' := [(0, _), (1, _), (2, _), (3, _), (4, _), (5, _), (6, _), (7, _), (8, _), (9, _), (10, _), (11, _), (12, _), (13, _)]) [1, 2, 3, 4, 5, 6, 7, 8, 9, 10, 11, 12, 13, 0] rfl ?_
        refine aw_iload C dL_drafts_133 rfl rfl ?_
        refine an_if_eq (a := 1) (tgt := 143) C dL_drafts_135 (by decide) (by decide) rfl (fun q => absurd q (by decide)) (fun _ => ?_)
        refine aw_iload C dL_drafts_138 rfl rfl ?_
        refine aw_goto (tgt := 146) C dL_drafts_140 (by decide) ?_
        refine aw_istore (ls' := [(14, _), (0, _), (1, _), (2, _), (3, _), (4, _), (5, _), (6, _), (7, _), (8, _), (9, _), (10, _), (11, _), (12, _), (13, _)]) C dL_drafts_146 (by decide) rfl rfl ?_
        refine aw_pick (ls' := [(0, _), (1, _), (2, _), (3, _), (4, _), (5, _), (6, _), (7, _), (8, _), (9, _), (10, _), (11, _), (12, _), (13, _), (14, _)]) [1, 2, 3, 4, 5, 6, 7, 8, 9, 10, 11, 12, 13, 14, 0] rfl ?_
        refine aw_iload C dL_drafts_148 rfl rfl ?_
        refine aw_iconst (v := nI 3) C dL_drafts_150 rfl rfl ?_
        refine an_icmp_ge (a := 0) (b := 3) (tgt := 186) C dL_drafts_151 (by decide) (by decide) (by decide) rfl (fun q => absurd (by decide) q) (fun _ => ?_)
        refine aw_aload_n C dL_drafts_154 rfl rfl rfl ?_
        refine aw_iconst (v := nI 0) C dL_drafts_155 rfl rfl ?_
        refine aw_iload C dL_drafts_156 rfl rfl ?_
        refine aw_iload C dL_drafts_158 rfl rfl ?_
        refine aw_iload C dL_drafts_160 rfl rfl ?_
        refine aw_iload C dL_drafts_162 rfl rfl ?_
        refine aw_iload C dL_drafts_164 rfl rfl ?_
        refine aw_iload C dL_drafts_166 rfl rfl ?_
        have hdr := r_draft hZ hR hlt (kd := 0) (g := g) (t := t) (th := th) (ab := 1 + (q4 / 3)) (be := 3) (by decide) hg ht c103 hth (by omega) (by omega) (by omega)
        refine aw_callSW C kL_calls (H_draft G hS hI (a := nI (0)) (b := nI (g)) (c := nI (t)) (d := nI (th)) (e := nI (1 + (q4 / 3))) (f := nI (3)) hdr.1) ⟨by decide, by decide⟩ rfl rfl (Nat.le_of_ble_eq_true rfl) (Nat.le_of_ble_eq_true rfl) (Nat.le_of_ble_eq_true rfl) dL_drafts_168 rfl (fun _ _ q => ax_no q) (fun v1 sg hq => ?_)
        obtain ⟨rfl, hC⟩ := hq
        have hM := hM.keepC hS hC.fr
        obtain ⟨ad', Y', hS1, e0, -, -, -⟩ := hC
        have hF : ZFr al sg sg := ZFr.rf
        have hMc := hM
        refine aw_iload C dL_drafts_171 rfl rfl ?_
        refine aw_icmp_ne (tgt := 180) C dL_drafts_173 (by decide) rfl (fun q => absurd (hdr.2.1 c123).1 q) (fun _ => ?_)
        refine aw_iconst (v := nI 1) C dL_drafts_176 rfl rfl ?_
        refine aw_goto (tgt := 181) C dL_drafts_177 (by decide) ?_
        refine aw_istore (ls' := [(15, _), (0, _), (1, _), (2, _), (3, _), (4, _), (5, _), (6, _), (7, _), (8, _), (9, _), (10, _), (11, _), (12, _), (13, _), (14, _)]) C dL_drafts_181 (by decide) rfl rfl ?_
        refine aw_pick (ls' := [(0, _), (1, _), (2, _), (3, _), (4, _), (5, _), (6, _), (7, _), (8, _), (9, _), (10, _), (11, _), (12, _), (13, _), (14, _), (15, _)]) [1, 2, 3, 4, 5, 6, 7, 8, 9, 10, 11, 12, 13, 14, 15, 0] rfl ?_
        refine aw_goto (tgt := 284) C dL_drafts_183 (by decide) ?_
        refine aw_iload C dL_drafts_284 rfl rfl ?_
        refine an_if_eq (a := 1) (tgt := 369) C dL_drafts_286 (by decide) (by decide) rfl (fun q => absurd q (by decide)) (fun _ => ?_)
        refine aw_aload_n C dL_drafts_289 rfl rfl rfl ?_
        refine aw_iload C dL_drafts_290 rfl rfl ?_
        refine aw_iload C dL_drafts_292 rfl rfl ?_
        refine aw_bipush (v := nI 8) C dL_drafts_294 rfl rfl ?_
        refine aw_iload C dL_drafts_296 rfl rfl ?_
        refine an_mul C dL_drafts_298 rfl ?_
        refine an_add C dL_drafts_299 rfl ?_
        refine aw_bipush (v := nI 64) C dL_drafts_300 rfl rfl ?_
        refine aw_iload C dL_drafts_302 rfl rfl ?_
        refine an_mul C dL_drafts_304 rfl ?_
        refine an_add C dL_drafts_305 rfl ?_
        refine aw_sipush (v := nI 512) C dL_drafts_306 rfl rfl ?_
        refine aw_iload C dL_drafts_309 rfl rfl ?_
        refine aw_iconst (v := nI 4) C dL_drafts_311 rfl rfl ?_
        refine an_icmp_ne (a := 0) (b := 4) (tgt := 319) C dL_drafts_312 (by decide) (by decide) (by decide) rfl (fun _ => ?_) (fun q => absurd q (by decide))
        refine aw_iload C dL_drafts_319 rfl rfl ?_
        refine aw_iconst (v := nI 1) C dL_drafts_321 rfl rfl ?_
        refine an_add C dL_drafts_322 rfl ?_
        refine an_mul C dL_drafts_323 rfl ?_
        refine an_add C dL_drafts_324 rfl ?_
        refine an_iast (k := 1) (i := (L.1 10 1)) (N := 24) (v := ((0 + (8 * g)) + (64 * t)) + (512 * (th + 1))) C hM hF rfl rfl (by have := hB 10 1; omega) dL_drafts_325 rfl (fun sg hM hF => ?_)
        refine aw_aload C dL_drafts_326 rfl rfl ?_
        refine aw_iload C dL_drafts_328 rfl rfl ?_
        refine aw_iload C dL_drafts_330 rfl rfl ?_
        refine aw_iconst (v := nI 3) C dL_drafts_332 rfl rfl ?_
        refine an_icmp_ne (a := 0) (b := 3) (tgt := 351) C dL_drafts_333 (by decide) (by decide) (by decide) rfl (fun _ => ?_) (fun q => absurd q (by decide))
        refine aw_sipush (v := nI 128) C dL_drafts_351 rfl rfl ?_
        refine aw_iload C dL_drafts_354 rfl rfl ?_
        refine an_mul C dL_drafts_356 rfl ?_
        refine aw_iload C dL_drafts_357 rfl rfl ?_
        refine an_add C dL_drafts_359 rfl ?_
        refine an_iast (k := 2) (i := (L.1 10 1)) (N := 24) (v := (128 * (1 + (q4 / 3))) + 3) C hM hF rfl rfl (by have := hB 10 1; omega) dL_drafts_360 rfl (fun sg hM hF => ?_)
        refine aw_aload C dL_drafts_361 rfl rfl ?_
        refine aw_iconst (v := nI 1) C dL_drafts_363 rfl rfl ?_
        refine aw_dup2 C dL_drafts_364 rfl rfl rfl ?_
        refine an_iald (k := 10) (i := 1) (N := 5) (v := (L.1 10 1)) C hM rfl rfl (by decide) (by rw [zI_k (by decide)]; exact (by rw [zI_k (by decide)])) dL_drafts_365 rfl ?_
        refine aw_iconst (v := nI 1) C dL_drafts_366 rfl rfl ?_
        refine an_add C dL_drafts_367 rfl ?_
        refine an_iast (k := 10) (i := 1) (N := 5) (v := (L.1 10 1) + 1) C hM hF rfl rfl (by decide) dL_drafts_368 rfl (fun sg hM hF => ?_)
        refine aw_iload C dL_drafts_369 rfl rfl ?_
        exact aw_iret C rfl (Nat.le_of_ble_eq_true rfl) (Nat.le_of_ble_eq_true rfl) ⟨rfl, ad', _, Y', _, (hS1.keepZ hMc hF), e0, hM, hZ.draft.next, (hdr.2.1 c123).2, hK.draft, (by rw [zI_n (by decide), zI_k (by decide), zI_k (by decide)]; omega), (by rw [zI_n (by decide), zI_k (by decide), zI_k (by decide)]; omega)⟩ dL_drafts_371
    · refine aw_iconst (v := nI 1) C dL_drafts_106 rfl rfl ?_
      exact aw_iret C rfl (Nat.le_of_ble_eq_true rfl) (Nat.le_of_ble_eq_true rfl) ⟨rfl, ad, _, Y, _, hS, rfl, hM, hZ.next, hR, hK, by omega, by omega⟩ dL_drafts_107
set_option maxRecDepth 100000 in
theorem D_1 {x : Cx} {ez : Nat} (G : GOK x.g x.l ez) (C : AWC x cL_drafts 16 RL rmA (some .boolean)) {ad : Nat → Nat → Nat} {u : MU} {Y : GS} {L : ZU} {al : Nat → Nat} {sg0 : Sg} {m : Nat} (hS : CS x.g ez ad u Y sg0) (hM : ZS x.g al L sg0) (hZ : CZ m u) (hR : ZR L u) (hK : ZKu u) (hT0 : L.1 10 0 ≤ 400 * m) (hT4 : L.1 10 4 ≤ 6000 * m) (hm : m ≤ 130) (hlt : L.1 10 1 < 24) {zz : Int32} : AW x (RQ x (ZA x.g ez al (ad 0 0) (m + 1)) noX 60 12000) 0 0 sg0 30 [(0, .ref ((ad 0 0))), (1, .int (zz)), (2, .ref (al 0)), (3, .ref (al 1)), (4, .ref (al 2)), (5, .ref (al 10)), (6, .int (nI ((L.1 10 1))))] [.int (nI (1))] := by
  have hl := G.1
  have hst := G.2.1
  have hB := hR.B
  have hM0 := hM
  have hF : ZFr al sg0 sg0 := ZFr.rf
  have hI := hZ.1
  refine aw_istore (ls' := [(7, _), (0, _), (1, _), (2, _), (3, _), (4, _), (5, _), (6, _)]) C dL_drafts_30 (by decide) rfl rfl ?_
  refine aw_pick (ls' := [(0, _), (1, _), (2, _), (3, _), (4, _), (5, _), (6, _), (7, _)]) [1, 2, 3, 4, 5, 6, 7, 0] rfl ?_
  refine aw_iload_n C dL_drafts_32 rfl rfl rfl ?_
  refine aw_iconst (v := nI 3) C dL_drafts_33 rfl rfl ?_
  refine aw_ishr C dL_drafts_34 rfl ?_
  refine aw_bipush (v := nI 6) C dL_drafts_35 rfl rfl ?_
  refine cw_callSp C k_L_98 (N_low hl hst (v := (zz >>> (nI 3 &&& 31))) (N := 6) (by decide) (by decide)) ⟨by decide, by decide⟩ rfl rfl (Nat.le_of_ble_eq_true rfl) (Nat.le_of_ble_eq_true rfl) (Nat.le_of_ble_eq_true rfl) dL_drafts_37 rfl ?_
  obtain ⟨g, eg⟩ : ∃ q, q = n_low (zz >>> (nI 3 &&& 31)) 6 := ⟨_, rfl⟩
  rw [← eg]
  have hg : g < 6 := by rw [eg]; exact n_low_lt (by decide)
  refine aw_istore (ls' := [(8, _), (0, _), (1, _), (2, _), (3, _), (4, _), (5, _), (6, _), (7, _)]) C dL_drafts_40 (by decide) rfl rfl ?_
  refine aw_pick (ls' := [(0, _), (1, _), (2, _), (3, _), (4, _), (5, _), (6, _), (7, _), (8, _)]) [1, 2, 3, 4, 5, 6, 7, 8, 0] rfl ?_
  refine aw_iload_n C dL_drafts_42 rfl rfl rfl ?_
  refine aw_bipush (v := nI 6) C dL_drafts_43 rfl rfl ?_
  refine aw_ishr C dL_drafts_45 rfl ?_
  refine aw_bipush (v := nI 6) C dL_drafts_46 rfl rfl ?_
  refine cw_callSp C k_L_98 (N_low hl hst (v := (zz >>> (nI 6 &&& 31))) (N := 6) (by decide) (by decide)) ⟨by decide, by decide⟩ rfl rfl (Nat.le_of_ble_eq_true rfl) (Nat.le_of_ble_eq_true rfl) (Nat.le_of_ble_eq_true rfl) dL_drafts_48 rfl ?_
  obtain ⟨t, et⟩ : ∃ q, q = n_low (zz >>> (nI 6 &&& 31)) 6 := ⟨_, rfl⟩
  rw [← et]
  have ht : t < 6 := by rw [et]; exact n_low_lt (by decide)
  refine aw_istore (ls' := [(9, _), (0, _), (1, _), (2, _), (3, _), (4, _), (5, _), (6, _), (7, _), (8, _)]) C dL_drafts_51 (by decide) rfl rfl ?_
  refine aw_pick (ls' := [(0, _), (1, _), (2, _), (3, _), (4, _), (5, _), (6, _), (7, _), (8, _), (9, _)]) [1, 2, 3, 4, 5, 6, 7, 8, 9, 0] rfl ?_
  refine aw_iload_n C dL_drafts_53 rfl rfl rfl ?_
  refine aw_bipush (v := nI 9) C dL_drafts_54 rfl rfl ?_
  refine aw_ishr C dL_drafts_56 rfl ?_
  refine aw_iconst (v := nI 2) C dL_drafts_57 rfl rfl ?_
  refine cw_callSp C k_L_98 (N_low hl hst (v := (zz >>> (nI 9 &&& 31))) (N := 2) (by decide) (by decide)) ⟨by decide, by decide⟩ rfl rfl (Nat.le_of_ble_eq_true rfl) (Nat.le_of_ble_eq_true rfl) (Nat.le_of_ble_eq_true rfl) dL_drafts_58 rfl ?_
  obtain ⟨th, eth⟩ : ∃ q, q = n_low (zz >>> (nI 9 &&& 31)) 2 := ⟨_, rfl⟩
  rw [← eth]
  have hth : th < 2 := by rw [eth]; exact n_low_lt (by decide)
  refine aw_istore (ls' := [(10, _), (0, _), (1, _), (2, _), (3, _), (4, _), (5, _), (6, _), (7, _), (8, _), (9, _)]) C dL_drafts_61 (by decide) rfl rfl ?_
  refine aw_pick (ls' := [(0, _), (1, _), (2, _), (3, _), (4, _), (5, _), (6, _), (7, _), (8, _), (9, _), (10, _)]) [1, 2, 3, 4, 5, 6, 7, 8, 9, 10, 0] rfl ?_
  refine aw_iconst (v := nI 1) C dL_drafts_63 rfl rfl ?_
  refine aw_iload_n C dL_drafts_64 rfl rfl rfl ?_
  refine aw_bipush (v := nI 10) C dL_drafts_65 rfl rfl ?_
  refine aw_ishr C dL_drafts_67 rfl ?_
  refine aw_iconst (v := nI 4) C dL_drafts_68 rfl rfl ?_
  refine cw_callSp C k_L_98 (N_low hl hst (v := (zz >>> (nI 10 &&& 31))) (N := 4) (by decide) (by decide)) ⟨by decide, by decide⟩ rfl rfl (Nat.le_of_ble_eq_true rfl) (Nat.le_of_ble_eq_true rfl) (Nat.le_of_ble_eq_true rfl) dL_drafts_69 rfl ?_
  obtain ⟨q4, eq4⟩ : ∃ q, q = n_low (zz >>> (nI 10 &&& 31)) 4 := ⟨_, rfl⟩
  rw [← eq4]
  have hq4 : q4 < 4 := by rw [eq4]; exact n_low_lt (by decide)
  refine aw_iconst (v := nI 3) C dL_drafts_72 rfl rfl ?_
  refine an_div C (by omega) (by decide) (by decide) dL_drafts_73 rfl ?_
  refine an_add C dL_drafts_74 rfl ?_
  refine aw_istore (ls' := [(11, _), (0, _), (1, _), (2, _), (3, _), (4, _), (5, _), (6, _), (7, _), (8, _), (9, _), (10, _)]) C dL_drafts_75 (by decide) rfl rfl ?_
  refine aw_pick (ls' := [(0, _), (1, _), (2, _), (3, _), (4, _), (5, _), (6, _), (7, _), (8, _), (9, _), (10, _), (11, _)]) [1, 2, 3, 4, 5, 6, 7, 8, 9, 10, 11, 0] rfl ?_
  refine aw_iload C dL_drafts_77 rfl rfl ?_
  refine aw_iconst (v := nI 2) C dL_drafts_79 rfl rfl ?_
  refine an_icmp_ne (a := 1 + (q4 / 3)) (b := 2) (tgt := 87) C dL_drafts_80 (by omega) (by decide) (by decide) rfl (fun c80 => ?_) (fun c80 => ?_)
  · refine aw_iconst (v := nI 1) C dL_drafts_87 rfl rfl ?_
    refine aw_iload_n C dL_drafts_88 rfl rfl rfl ?_
    refine aw_bipush (v := nI 12) C dL_drafts_89 rfl rfl ?_
    refine aw_ishr C dL_drafts_91 rfl ?_
    refine aw_iconst (v := nI 4) C dL_drafts_92 rfl rfl ?_
    refine cw_callSp C k_L_98 (N_low hl hst (v := (zz >>> (nI 12 &&& 31))) (N := 4) (by decide) (by decide)) ⟨by decide, by decide⟩ rfl rfl (Nat.le_of_ble_eq_true rfl) (Nat.le_of_ble_eq_true rfl) (Nat.le_of_ble_eq_true rfl) dL_drafts_93 rfl ?_
    obtain ⟨q5, eq5⟩ : ∃ q, q = n_low (zz >>> (nI 12 &&& 31)) 4 := ⟨_, rfl⟩
    rw [← eq5]
    have hq5 : q5 < 4 := by rw [eq5]; exact n_low_lt (by decide)
    refine an_add C dL_drafts_96 rfl ?_
    refine aw_istore (ls' := [(12, _), (0, _), (1, _), (2, _), (3, _), (4, _), (5, _), (6, _), (7, _), (8, _), (9, _), (10, _), (11, _)]) C dL_drafts_97 (by decide) rfl rfl ?_
    refine aw_pick (ls' := [(0, _), (1, _), (2, _), (3, _), (4, _), (5, _), (6, _), (7, _), (8, _), (9, _), (10, _), (11, _), (12, _)]) [1, 2, 3, 4, 5, 6, 7, 8, 9, 10, 11, 12, 0] rfl ?_
    refine aw_iload C dL_drafts_99 rfl rfl ?_
    refine aw_iload C dL_drafts_101 rfl rfl ?_
    refine an_icmp_ne (a := g) (b := t) (tgt := 108) C dL_drafts_103 (by omega) (by omega) (by decide) rfl (fun c103 => ?_) (fun c103 => ?_)
    · refine aw_aload_n C dL_drafts_108 rfl rfl rfl ?_
      refine aw_bipush (v := nI 16) C dL_drafts_109 rfl rfl ?_
      refine aw_iload C dL_drafts_111 rfl rfl ?_
      refine an_add C dL_drafts_113 rfl ?_
      refine an_iald (k := 0) (i := 16 + g) (N := 40) (v := (L.1 0 (16 + g))) C hM rfl rfl (by omega) rfl dL_drafts_114 rfl ?_
      refine aw_aload_n C dL_drafts_115 rfl rfl rfl ?_
      refine aw_bipush (v := nI 16) C dL_drafts_116 rfl rfl ?_
      refine aw_iload C dL_drafts_118 rfl rfl ?_
      refine an_add C dL_drafts_120 rfl ?_
      refine an_iald (k := 0) (i := 16 + t) (N := 40) (v := (L.1 0 (16 + t))) C hM rfl rfl (by omega) rfl dL_drafts_121 rfl ?_
      refine an_add C dL_drafts_122 rfl ?_
      refine an_if_ne (a := (L.1 0 (16 + g)) + (L.1 0 (16 + t))) (tgt := 130) C dL_drafts_123 (by have := hB 0 (16 + g); have := hB 0 (16 + t); omega) (by decide) rfl (fun c123 => ?_) (fun c123 => ?_)
      · refine aw_iconst (v := nI 0) C dL_drafts_130 rfl rfl ?_
        refine aw_istore (ls' := [(13, _), (0, _), (1, _), (2, _), (3, _), (4, _), (5, _), (6, _), (7, _), (8, _), (9, _), (10, _), (11, _), (12, _)]) C dL_drafts_131 (by decide) rfl rfl ?_
        refine aw_pick (ls' := [(0, _), (1, _), (2, _), (3, _), (4, _), (5, _), (6, _), (7, _), (8, _), (9, _), (10, _), (11, _), (12, _), (13, _)]) [1, 2, 3, 4, 5, 6, 7, 8, 9, 10, 11, 12, 13, 0] rfl ?_
        refine aw_iload C dL_drafts_133 rfl rfl ?_
        refine an_if_eq (a := 0) (tgt := 143) C dL_drafts_135 (by decide) (by decide) rfl (fun _ => ?_) (fun q => absurd (by decide) q)
        refine aw_sipush (v := -1003) C dL_drafts_143 rfl rfl ?_
        refine aw_istore (ls' := [(14, _), (0, _), (1, _), (2, _), (3, _), (4, _), (5, _), (6, _), (7, _), (8, _), (9, _), (10, _), (11, _), (12, _), (13, _)]) C dL_drafts_146 (by decide) rfl rfl ?_
        refine aw_pick (ls' := [(0, _), (1, _), (2, _), (3, _), (4, _), (5, _), (6, _), (7, _), (8, _), (9, _), (10, _), (11, _), (12, _), (13, _), (14, _)]) [1, 2, 3, 4, 5, 6, 7, 8, 9, 10, 11, 12, 13, 14, 0] rfl ?_
        refine aw_iload C dL_drafts_148 rfl rfl ?_
        refine aw_iconst (v := nI 3) C dL_drafts_150 rfl rfl ?_
        refine an_icmp_ge (a := 1) (b := 3) (tgt := 186) C dL_drafts_151 (by decide) (by decide) (by decide) rfl (fun q => absurd (by decide) q) (fun _ => ?_)
        refine aw_aload_n C dL_drafts_154 rfl rfl rfl ?_
        refine aw_iconst (v := nI 0) C dL_drafts_155 rfl rfl ?_
        refine aw_iload C dL_drafts_156 rfl rfl ?_
        refine aw_iload C dL_drafts_158 rfl rfl ?_
        refine aw_iload C dL_drafts_160 rfl rfl ?_
        refine aw_iload C dL_drafts_162 rfl rfl ?_
        refine aw_iload C dL_drafts_164 rfl rfl ?_
        refine aw_iload C dL_drafts_166 rfl rfl ?_
        have hdr := r_draft hZ hR hlt (kd := 1) (g := g) (t := t) (th := th) (ab := 1 + (q4 / 3)) (be := 1 + q5) (by decide) hg ht c103 hth (by omega) (by omega) (by omega)
        refine aw_callSW C kL_calls (H_draft G hS hI (a := nI (1)) (b := nI (g)) (c := nI (t)) (d := nI (th)) (e := nI (1 + (q4 / 3))) (f := nI (1 + q5)) hdr.1) ⟨by decide, by decide⟩ rfl rfl (Nat.le_of_ble_eq_true rfl) (Nat.le_of_ble_eq_true rfl) (Nat.le_of_ble_eq_true rfl) dL_drafts_168 rfl (fun _ _ q => ax_no q) (fun v1 sg hq => ?_)
        obtain ⟨rfl, hC⟩ := hq
        have hM := hM.keepC hS hC.fr
        obtain ⟨ad', Y', hS1, e0, -, -, -⟩ := hC
        have hF : ZFr al sg sg := ZFr.rf
        have hMc := hM
        refine aw_iload C dL_drafts_171 rfl rfl ?_
        refine aw_icmp_ne (tgt := 180) C dL_drafts_173 (by decide) rfl (fun q => absurd (hdr.2.2 c123).1 q) (fun _ => ?_)
        refine aw_iconst (v := nI 1) C dL_drafts_176 rfl rfl ?_
        refine aw_goto (tgt := 181) C dL_drafts_177 (by decide) ?_
        refine aw_istore (ls' := [(15, _), (0, _), (1, _), (2, _), (3, _), (4, _), (5, _), (6, _), (7, _), (8, _), (9, _), (10, _), (11, _), (12, _), (13, _), (14, _)]) C dL_drafts_181 (by decide) rfl rfl ?_
        refine aw_pick (ls' := [(0, _), (1, _), (2, _), (3, _), (4, _), (5, _), (6, _), (7, _), (8, _), (9, _), (10, _), (11, _), (12, _), (13, _), (14, _), (15, _)]) [1, 2, 3, 4, 5, 6, 7, 8, 9, 10, 11, 12, 13, 14, 15, 0] rfl ?_
        refine aw_goto (tgt := 284) C dL_drafts_183 (by decide) ?_
        refine aw_iload C dL_drafts_284 rfl rfl ?_
        refine an_if_eq (a := 0) (tgt := 369) C dL_drafts_286 (by decide) (by decide) rfl (fun _ => ?_) (fun q => absurd (by decide) q)
        refine aw_iload C dL_drafts_369 rfl rfl ?_
        have hu := (hdr.2.2 c123).2
        exact aw_iret C rfl (Nat.le_of_ble_eq_true rfl) (Nat.le_of_ble_eq_true rfl) ⟨rfl, ad', u, Y', L, (by rw [hu] at hS1; exact hS1), e0, hM, hZ.next, hR, hK, by omega, by omega⟩ dL_drafts_371
      · refine aw_iconst (v := nI 1) C dL_drafts_126 rfl rfl ?_
        refine aw_goto (tgt := 131) C dL_drafts_127 (by decide) ?_
        refine aw_istore (ls' := [(13, _), (0, _), (1, _), (2, _), (3, _), (4, _), (5, _), (6, _), (7, _), (8, _), (9, _), (10, _), (11, _), (12, _)]) C dL_drafts_131 (by decide) rfl rfl ?_
        refine aw_pick (ls' := [(0, _), (1, _), (2, _), (3, _), (4, _), (5, _), (6, _), (7, _), (8, _), (9, _), (10, _), (11, _), (12, _), (13, _)]) [1, 2, 3, 4, 5, 6, 7, 8, 9, 10, 11, 12, 13, 0] rfl ?_
        refine aw_iload C dL_drafts_133 rfl rfl ?_
        refine an_if_eq (a := 1) (tgt := 143) C dL_drafts_135 (by decide) (by decide) rfl (fun q => absurd q (by decide)) (fun _ => ?_)
        refine aw_iload C dL_drafts_138 rfl rfl ?_
        refine aw_goto (tgt := 146) C dL_drafts_140 (by decide) ?_
        refine aw_istore (ls' := [(14, _), (0, _), (1, _), (2, _), (3, _), (4, _), (5, _), (6, _), (7, _), (8, _), (9, _), (10, _), (11, _), (12, _), (13, _)]) C dL_drafts_146 (by decide) rfl rfl ?_
        refine aw_pick (ls' := [(0, _), (1, _), (2, _), (3, _), (4, _), (5, _), (6, _), (7, _), (8, _), (9, _), (10, _), (11, _), (12, _), (13, _), (14, _)]) [1, 2, 3, 4, 5, 6, 7, 8, 9, 10, 11, 12, 13, 14, 0] rfl ?_
        refine aw_iload C dL_drafts_148 rfl rfl ?_
        refine aw_iconst (v := nI 3) C dL_drafts_150 rfl rfl ?_
        refine an_icmp_ge (a := 1) (b := 3) (tgt := 186) C dL_drafts_151 (by decide) (by decide) (by decide) rfl (fun q => absurd (by decide) q) (fun _ => ?_)
        refine aw_aload_n C dL_drafts_154 rfl rfl rfl ?_
        refine aw_iconst (v := nI 0) C dL_drafts_155 rfl rfl ?_
        refine aw_iload C dL_drafts_156 rfl rfl ?_
        refine aw_iload C dL_drafts_158 rfl rfl ?_
        refine aw_iload C dL_drafts_160 rfl rfl ?_
        refine aw_iload C dL_drafts_162 rfl rfl ?_
        refine aw_iload C dL_drafts_164 rfl rfl ?_
        refine aw_iload C dL_drafts_166 rfl rfl ?_
        have hdr := r_draft hZ hR hlt (kd := 1) (g := g) (t := t) (th := th) (ab := 1 + (q4 / 3)) (be := 1 + q5) (by decide) hg ht c103 hth (by omega) (by omega) (by omega)
        refine aw_callSW C kL_calls (H_draft G hS hI (a := nI (1)) (b := nI (g)) (c := nI (t)) (d := nI (th)) (e := nI (1 + (q4 / 3))) (f := nI (1 + q5)) hdr.1) ⟨by decide, by decide⟩ rfl rfl (Nat.le_of_ble_eq_true rfl) (Nat.le_of_ble_eq_true rfl) (Nat.le_of_ble_eq_true rfl) dL_drafts_168 rfl (fun _ _ q => ax_no q) (fun v1 sg hq => ?_)
        obtain ⟨rfl, hC⟩ := hq
        have hM := hM.keepC hS hC.fr
        obtain ⟨ad', Y', hS1, e0, -, -, -⟩ := hC
        have hF : ZFr al sg sg := ZFr.rf
        have hMc := hM
        refine aw_iload C dL_drafts_171 rfl rfl ?_
        refine aw_icmp_ne (tgt := 180) C dL_drafts_173 (by decide) rfl (fun q => absurd (hdr.2.1 c123).1 q) (fun _ => ?_)
        refine aw_iconst (v := nI 1) C dL_drafts_176 rfl rfl ?_
        refine aw_goto (tgt := 181) C dL_drafts_177 (by decide) ?_
        refine aw_istore (ls' := [(15, _), (0, _), (1, _), (2, _), (3, _), (4, _), (5, _), (6, _), (7, _), (8, _), (9, _), (10, _), (11, _), (12, _), (13, _), (14, _)]) C dL_drafts_181 (by decide) rfl rfl ?_
        refine aw_pick (ls' := [(0, _), (1, _), (2, _), (3, _), (4, _), (5, _), (6, _), (7, _), (8, _), (9, _), (10, _), (11, _), (12, _), (13, _), (14, _), (15, _)]) [1, 2, 3, 4, 5, 6, 7, 8, 9, 10, 11, 12, 13, 14, 15, 0] rfl ?_
        refine aw_goto (tgt := 284) C dL_drafts_183 (by decide) ?_
        refine aw_iload C dL_drafts_284 rfl rfl ?_
        refine an_if_eq (a := 1) (tgt := 369) C dL_drafts_286 (by decide) (by decide) rfl (fun q => absurd q (by decide)) (fun _ => ?_)
        refine aw_aload_n C dL_drafts_289 rfl rfl rfl ?_
        refine aw_iload C dL_drafts_290 rfl rfl ?_
        refine aw_iload C dL_drafts_292 rfl rfl ?_
        refine aw_bipush (v := nI 8) C dL_drafts_294 rfl rfl ?_
        refine aw_iload C dL_drafts_296 rfl rfl ?_
        refine an_mul C dL_drafts_298 rfl ?_
        refine an_add C dL_drafts_299 rfl ?_
        refine aw_bipush (v := nI 64) C dL_drafts_300 rfl rfl ?_
        refine aw_iload C dL_drafts_302 rfl rfl ?_
        refine an_mul C dL_drafts_304 rfl ?_
        refine an_add C dL_drafts_305 rfl ?_
        refine aw_sipush (v := nI 512) C dL_drafts_306 rfl rfl ?_
        refine aw_iload C dL_drafts_309 rfl rfl ?_
        refine aw_iconst (v := nI 4) C dL_drafts_311 rfl rfl ?_
        refine an_icmp_ne (a := 1) (b := 4) (tgt := 319) C dL_drafts_312 (by decide) (by decide) (by decide) rfl (fun _ => ?_) (fun q => absurd q (by decide))
        refine aw_iload C dL_drafts_319 rfl rfl ?_
        refine aw_iconst (v := nI 1) C dL_drafts_321 rfl rfl ?_
        refine an_add C dL_drafts_322 rfl ?_
        refine an_mul C dL_drafts_323 rfl ?_
        refine an_add C dL_drafts_324 rfl ?_
        refine an_iast (k := 1) (i := (L.1 10 1)) (N := 24) (v := ((1 + (8 * g)) + (64 * t)) + (512 * (th + 1))) C hM hF rfl rfl (by have := hB 10 1; omega) dL_drafts_325 rfl (fun sg hM hF => ?_)
        refine aw_aload C dL_drafts_326 rfl rfl ?_
        refine aw_iload C dL_drafts_328 rfl rfl ?_
        refine aw_iload C dL_drafts_330 rfl rfl ?_
        refine aw_iconst (v := nI 3) C dL_drafts_332 rfl rfl ?_
        refine an_icmp_ne (a := 1) (b := 3) (tgt := 351) C dL_drafts_333 (by decide) (by decide) (by decide) rfl (fun _ => ?_) (fun q => absurd q (by decide))
        refine aw_sipush (v := nI 128) C dL_drafts_351 rfl rfl ?_
        refine aw_iload C dL_drafts_354 rfl rfl ?_
        refine an_mul C dL_drafts_356 rfl ?_
        refine aw_iload C dL_drafts_357 rfl rfl ?_
        refine an_add C dL_drafts_359 rfl ?_
        refine an_iast (k := 2) (i := (L.1 10 1)) (N := 24) (v := (128 * (1 + (q4 / 3))) + (1 + q5)) C hM hF rfl rfl (by have := hB 10 1; omega) dL_drafts_360 rfl (fun sg hM hF => ?_)
        refine aw_aload C dL_drafts_361 rfl rfl ?_
        refine aw_iconst (v := nI 1) C dL_drafts_363 rfl rfl ?_
        refine aw_dup2 C dL_drafts_364 rfl rfl rfl ?_
        refine an_iald (k := 10) (i := 1) (N := 5) (v := (L.1 10 1)) C hM rfl rfl (by decide) (by rw [zI_k (by decide)]; exact (by rw [zI_k (by decide)])) dL_drafts_365 rfl ?_
        refine aw_iconst (v := nI 1) C dL_drafts_366 rfl rfl ?_
        refine an_add C dL_drafts_367 rfl ?_
        refine an_iast (k := 10) (i := 1) (N := 5) (v := (L.1 10 1) + 1) C hM hF rfl rfl (by decide) dL_drafts_368 rfl (fun sg hM hF => ?_)
        refine aw_iload C dL_drafts_369 rfl rfl ?_
        exact aw_iret C rfl (Nat.le_of_ble_eq_true rfl) (Nat.le_of_ble_eq_true rfl) ⟨rfl, ad', _, Y', _, (hS1.keepZ hMc hF), e0, hM, hZ.draft.next, (hdr.2.1 c123).2, hK.draft, (by rw [zI_n (by decide), zI_k (by decide), zI_k (by decide)]; omega), (by rw [zI_n (by decide), zI_k (by decide), zI_k (by decide)]; omega)⟩ dL_drafts_371
    · refine aw_iconst (v := nI 1) C dL_drafts_106 rfl rfl ?_
      exact aw_iret C rfl (Nat.le_of_ble_eq_true rfl) (Nat.le_of_ble_eq_true rfl) ⟨rfl, ad, _, Y, _, hS, rfl, hM, hZ.next, hR, hK, by omega, by omega⟩ dL_drafts_107
  · refine aw_iconst (v := nI 3) C dL_drafts_83 rfl rfl ?_
    refine aw_goto (tgt := 97) C dL_drafts_84 (by decide) ?_
    refine aw_istore (ls' := [(12, _), (0, _), (1, _), (2, _), (3, _), (4, _), (5, _), (6, _), (7, _), (8, _), (9, _), (10, _), (11, _)]) C dL_drafts_97 (by decide) rfl rfl ?_
    refine aw_pick (ls' := [(0, _), (1, _), (2, _), (3, _), (4, _), (5, _), (6, _), (7, _), (8, _), (9, _), (10, _), (11, _), (12, _)]) [1, 2, 3, 4, 5, 6, 7, 8, 9, 10, 11, 12, 0] rfl ?_
    refine aw_iload C dL_drafts_99 rfl rfl ?_
    refine aw_iload C dL_drafts_101 rfl rfl ?_
    refine an_icmp_ne (a := g) (b := t) (tgt := 108) C dL_drafts_103 (by omega) (by omega) (by decide) rfl (fun c103 => ?_) (fun c103 => ?_)
    · refine aw_aload_n C dL_drafts_108 rfl rfl rfl ?_
      refine aw_bipush (v := nI 16) C dL_drafts_109 rfl rfl ?_
      refine aw_iload C dL_drafts_111 rfl rfl ?_
      refine an_add C dL_drafts_113 rfl ?_
      refine an_iald (k := 0) (i := 16 + g) (N := 40) (v := (L.1 0 (16 + g))) C hM rfl rfl (by omega) rfl dL_drafts_114 rfl ?_
      refine aw_aload_n C dL_drafts_115 rfl rfl rfl ?_
      refine aw_bipush (v := nI 16) C dL_drafts_116 rfl rfl ?_
      refine aw_iload C dL_drafts_118 rfl rfl ?_
      refine an_add C dL_drafts_120 rfl ?_
      refine an_iald (k := 0) (i := 16 + t) (N := 40) (v := (L.1 0 (16 + t))) C hM rfl rfl (by omega) rfl dL_drafts_121 rfl ?_
      refine an_add C dL_drafts_122 rfl ?_
      refine an_if_ne (a := (L.1 0 (16 + g)) + (L.1 0 (16 + t))) (tgt := 130) C dL_drafts_123 (by have := hB 0 (16 + g); have := hB 0 (16 + t); omega) (by decide) rfl (fun c123 => ?_) (fun c123 => ?_)
      · refine aw_iconst (v := nI 0) C dL_drafts_130 rfl rfl ?_
        refine aw_istore (ls' := [(13, _), (0, _), (1, _), (2, _), (3, _), (4, _), (5, _), (6, _), (7, _), (8, _), (9, _), (10, _), (11, _), (12, _)]) C dL_drafts_131 (by decide) rfl rfl ?_
        refine aw_pick (ls' := [(0, _), (1, _), (2, _), (3, _), (4, _), (5, _), (6, _), (7, _), (8, _), (9, _), (10, _), (11, _), (12, _), (13, _)]) [1, 2, 3, 4, 5, 6, 7, 8, 9, 10, 11, 12, 13, 0] rfl ?_
        refine aw_iload C dL_drafts_133 rfl rfl ?_
        refine an_if_eq (a := 0) (tgt := 143) C dL_drafts_135 (by decide) (by decide) rfl (fun _ => ?_) (fun q => absurd (by decide) q)
        refine aw_sipush (v := -1003) C dL_drafts_143 rfl rfl ?_
        refine aw_istore (ls' := [(14, _), (0, _), (1, _), (2, _), (3, _), (4, _), (5, _), (6, _), (7, _), (8, _), (9, _), (10, _), (11, _), (12, _), (13, _)]) C dL_drafts_146 (by decide) rfl rfl ?_
        refine aw_pick (ls' := [(0, _), (1, _), (2, _), (3, _), (4, _), (5, _), (6, _), (7, _), (8, _), (9, _), (10, _), (11, _), (12, _), (13, _), (14, _)]) [1, 2, 3, 4, 5, 6, 7, 8, 9, 10, 11, 12, 13, 14, 0] rfl ?_
        refine aw_iload C dL_drafts_148 rfl rfl ?_
        refine aw_iconst (v := nI 3) C dL_drafts_150 rfl rfl ?_
        refine an_icmp_ge (a := 1) (b := 3) (tgt := 186) C dL_drafts_151 (by decide) (by decide) (by decide) rfl (fun q => absurd (by decide) q) (fun _ => ?_)
        refine aw_aload_n C dL_drafts_154 rfl rfl rfl ?_
        refine aw_iconst (v := nI 0) C dL_drafts_155 rfl rfl ?_
        refine aw_iload C dL_drafts_156 rfl rfl ?_
        refine aw_iload C dL_drafts_158 rfl rfl ?_
        refine aw_iload C dL_drafts_160 rfl rfl ?_
        refine aw_iload C dL_drafts_162 rfl rfl ?_
        refine aw_iload C dL_drafts_164 rfl rfl ?_
        refine aw_iload C dL_drafts_166 rfl rfl ?_
        have hdr := r_draft hZ hR hlt (kd := 1) (g := g) (t := t) (th := th) (ab := 1 + (q4 / 3)) (be := 3) (by decide) hg ht c103 hth (by omega) (by omega) (by omega)
        refine aw_callSW C kL_calls (H_draft G hS hI (a := nI (1)) (b := nI (g)) (c := nI (t)) (d := nI (th)) (e := nI (1 + (q4 / 3))) (f := nI (3)) hdr.1) ⟨by decide, by decide⟩ rfl rfl (Nat.le_of_ble_eq_true rfl) (Nat.le_of_ble_eq_true rfl) (Nat.le_of_ble_eq_true rfl) dL_drafts_168 rfl (fun _ _ q => ax_no q) (fun v1 sg hq => ?_)
        obtain ⟨rfl, hC⟩ := hq
        have hM := hM.keepC hS hC.fr
        obtain ⟨ad', Y', hS1, e0, -, -, -⟩ := hC
        have hF : ZFr al sg sg := ZFr.rf
        have hMc := hM
        refine aw_iload C dL_drafts_171 rfl rfl ?_
        refine aw_icmp_ne (tgt := 180) C dL_drafts_173 (by decide) rfl (fun q => absurd (hdr.2.2 c123).1 q) (fun _ => ?_)
        refine aw_iconst (v := nI 1) C dL_drafts_176 rfl rfl ?_
        refine aw_goto (tgt := 181) C dL_drafts_177 (by decide) ?_
        refine aw_istore (ls' := [(15, _), (0, _), (1, _), (2, _), (3, _), (4, _), (5, _), (6, _), (7, _), (8, _), (9, _), (10, _), (11, _), (12, _), (13, _), (14, _)]) C dL_drafts_181 (by decide) rfl rfl ?_
        refine aw_pick (ls' := [(0, _), (1, _), (2, _), (3, _), (4, _), (5, _), (6, _), (7, _), (8, _), (9, _), (10, _), (11, _), (12, _), (13, _), (14, _), (15, _)]) [1, 2, 3, 4, 5, 6, 7, 8, 9, 10, 11, 12, 13, 14, 15, 0] rfl ?_
        refine aw_goto (tgt := 284) C dL_drafts_183 (by decide) ?_
        refine aw_iload C dL_drafts_284 rfl rfl ?_
        refine an_if_eq (a := 0) (tgt := 369) C dL_drafts_286 (by decide) (by decide) rfl (fun _ => ?_) (fun q => absurd (by decide) q)
        refine aw_iload C dL_drafts_369 rfl rfl ?_
        have hu := (hdr.2.2 c123).2
        exact aw_iret C rfl (Nat.le_of_ble_eq_true rfl) (Nat.le_of_ble_eq_true rfl) ⟨rfl, ad', u, Y', L, (by rw [hu] at hS1; exact hS1), e0, hM, hZ.next, hR, hK, by omega, by omega⟩ dL_drafts_371
      · refine aw_iconst (v := nI 1) C dL_drafts_126 rfl rfl ?_
        refine aw_goto (tgt := 131) C dL_drafts_127 (by decide) ?_
        refine aw_istore (ls' := [(13, _), (0, _), (1, _), (2, _), (3, _), (4, _), (5, _), (6, _), (7, _), (8, _), (9, _), (10, _), (11, _), (12, _)]) C dL_drafts_131 (by decide) rfl rfl ?_
        refine aw_pick (ls' := [(0, _), (1, _), (2, _), (3, _), (4, _), (5, _), (6, _), (7, _), (8, _), (9, _), (10, _), (11, _), (12, _), (13, _)]) [1, 2, 3, 4, 5, 6, 7, 8, 9, 10, 11, 12, 13, 0] rfl ?_
        refine aw_iload C dL_drafts_133 rfl rfl ?_
        refine an_if_eq (a := 1) (tgt := 143) C dL_drafts_135 (by decide) (by decide) rfl (fun q => absurd q (by decide)) (fun _ => ?_)
        refine aw_iload C dL_drafts_138 rfl rfl ?_
        refine aw_goto (tgt := 146) C dL_drafts_140 (by decide) ?_
        refine aw_istore (ls' := [(14, _), (0, _), (1, _), (2, _), (3, _), (4, _), (5, _), (6, _), (7, _), (8, _), (9, _), (10, _), (11, _), (12, _), (13, _)]) C dL_drafts_146 (by decide) rfl rfl ?_
        refine aw_pick (ls' := [(0, _), (1, _), (2, _), (3, _), (4, _), (5, _), (6, _), (7, _), (8, _), (9, _), (10, _), (11, _), (12, _), (13, _), (14, _)]) [1, 2, 3, 4, 5, 6, 7, 8, 9, 10, 11, 12, 13, 14, 0] rfl ?_
        refine aw_iload C dL_drafts_148 rfl rfl ?_
        refine aw_iconst (v := nI 3) C dL_drafts_150 rfl rfl ?_
        refine an_icmp_ge (a := 1) (b := 3) (tgt := 186) C dL_drafts_151 (by decide) (by decide) (by decide) rfl (fun q => absurd (by decide) q) (fun _ => ?_)
        refine aw_aload_n C dL_drafts_154 rfl rfl rfl ?_
        refine aw_iconst (v := nI 0) C dL_drafts_155 rfl rfl ?_
        refine aw_iload C dL_drafts_156 rfl rfl ?_
        refine aw_iload C dL_drafts_158 rfl rfl ?_
        refine aw_iload C dL_drafts_160 rfl rfl ?_
        refine aw_iload C dL_drafts_162 rfl rfl ?_
        refine aw_iload C dL_drafts_164 rfl rfl ?_
        refine aw_iload C dL_drafts_166 rfl rfl ?_
        have hdr := r_draft hZ hR hlt (kd := 1) (g := g) (t := t) (th := th) (ab := 1 + (q4 / 3)) (be := 3) (by decide) hg ht c103 hth (by omega) (by omega) (by omega)
        refine aw_callSW C kL_calls (H_draft G hS hI (a := nI (1)) (b := nI (g)) (c := nI (t)) (d := nI (th)) (e := nI (1 + (q4 / 3))) (f := nI (3)) hdr.1) ⟨by decide, by decide⟩ rfl rfl (Nat.le_of_ble_eq_true rfl) (Nat.le_of_ble_eq_true rfl) (Nat.le_of_ble_eq_true rfl) dL_drafts_168 rfl (fun _ _ q => ax_no q) (fun v1 sg hq => ?_)
        obtain ⟨rfl, hC⟩ := hq
        have hM := hM.keepC hS hC.fr
        obtain ⟨ad', Y', hS1, e0, -, -, -⟩ := hC
        have hF : ZFr al sg sg := ZFr.rf
        have hMc := hM
        refine aw_iload C dL_drafts_171 rfl rfl ?_
        refine aw_icmp_ne (tgt := 180) C dL_drafts_173 (by decide) rfl (fun q => absurd (hdr.2.1 c123).1 q) (fun _ => ?_)
        refine aw_iconst (v := nI 1) C dL_drafts_176 rfl rfl ?_
        refine aw_goto (tgt := 181) C dL_drafts_177 (by decide) ?_
        refine aw_istore (ls' := [(15, _), (0, _), (1, _), (2, _), (3, _), (4, _), (5, _), (6, _), (7, _), (8, _), (9, _), (10, _), (11, _), (12, _), (13, _), (14, _)]) C dL_drafts_181 (by decide) rfl rfl ?_
        refine aw_pick (ls' := [(0, _), (1, _), (2, _), (3, _), (4, _), (5, _), (6, _), (7, _), (8, _), (9, _), (10, _), (11, _), (12, _), (13, _), (14, _), (15, _)]) [1, 2, 3, 4, 5, 6, 7, 8, 9, 10, 11, 12, 13, 14, 15, 0] rfl ?_
        refine aw_goto (tgt := 284) C dL_drafts_183 (by decide) ?_
        refine aw_iload C dL_drafts_284 rfl rfl ?_
        refine an_if_eq (a := 1) (tgt := 369) C dL_drafts_286 (by decide) (by decide) rfl (fun q => absurd q (by decide)) (fun _ => ?_)
        refine aw_aload_n C dL_drafts_289 rfl rfl rfl ?_
        refine aw_iload C dL_drafts_290 rfl rfl ?_
        refine aw_iload C dL_drafts_292 rfl rfl ?_
        refine aw_bipush (v := nI 8) C dL_drafts_294 rfl rfl ?_
        refine aw_iload C dL_drafts_296 rfl rfl ?_
        refine an_mul C dL_drafts_298 rfl ?_
        refine an_add C dL_drafts_299 rfl ?_
        refine aw_bipush (v := nI 64) C dL_drafts_300 rfl rfl ?_
        refine aw_iload C dL_drafts_302 rfl rfl ?_
        refine an_mul C dL_drafts_304 rfl ?_
        refine an_add C dL_drafts_305 rfl ?_
        refine aw_sipush (v := nI 512) C dL_drafts_306 rfl rfl ?_
        refine aw_iload C dL_drafts_309 rfl rfl ?_
        refine aw_iconst (v := nI 4) C dL_drafts_311 rfl rfl ?_
        refine an_icmp_ne (a := 1) (b := 4) (tgt := 319) C dL_drafts_312 (by decide) (by decide) (by decide) rfl (fun _ => ?_) (fun q => absurd q (by decide))
        refine aw_iload C dL_drafts_319 rfl rfl ?_
        refine aw_iconst (v := nI 1) C dL_drafts_321 rfl rfl ?_
        refine an_add C dL_drafts_322 rfl ?_
        refine an_mul C dL_drafts_323 rfl ?_
        refine an_add C dL_drafts_324 rfl ?_
        refine an_iast (k := 1) (i := (L.1 10 1)) (N := 24) (v := ((1 + (8 * g)) + (64 * t)) + (512 * (th + 1))) C hM hF rfl rfl (by have := hB 10 1; omega) dL_drafts_325 rfl (fun sg hM hF => ?_)
        refine aw_aload C dL_drafts_326 rfl rfl ?_
        refine aw_iload C dL_drafts_328 rfl rfl ?_
        refine aw_iload C dL_drafts_330 rfl rfl ?_
        refine aw_iconst (v := nI 3) C dL_drafts_332 rfl rfl ?_
        refine an_icmp_ne (a := 1) (b := 3) (tgt := 351) C dL_drafts_333 (by decide) (by decide) (by decide) rfl (fun _ => ?_) (fun q => absurd q (by decide))
        refine aw_sipush (v := nI 128) C dL_drafts_351 rfl rfl ?_
        refine aw_iload C dL_drafts_354 rfl rfl ?_
        refine an_mul C dL_drafts_356 rfl ?_
        refine aw_iload C dL_drafts_357 rfl rfl ?_
        refine an_add C dL_drafts_359 rfl ?_
        refine an_iast (k := 2) (i := (L.1 10 1)) (N := 24) (v := (128 * (1 + (q4 / 3))) + 3) C hM hF rfl rfl (by have := hB 10 1; omega) dL_drafts_360 rfl (fun sg hM hF => ?_)
        refine aw_aload C dL_drafts_361 rfl rfl ?_
        refine aw_iconst (v := nI 1) C dL_drafts_363 rfl rfl ?_
        refine aw_dup2 C dL_drafts_364 rfl rfl rfl ?_
        refine an_iald (k := 10) (i := 1) (N := 5) (v := (L.1 10 1)) C hM rfl rfl (by decide) (by rw [zI_k (by decide)]; exact (by rw [zI_k (by decide)])) dL_drafts_365 rfl ?_
        refine aw_iconst (v := nI 1) C dL_drafts_366 rfl rfl ?_
        refine an_add C dL_drafts_367 rfl ?_
        refine an_iast (k := 10) (i := 1) (N := 5) (v := (L.1 10 1) + 1) C hM hF rfl rfl (by decide) dL_drafts_368 rfl (fun sg hM hF => ?_)
        refine aw_iload C dL_drafts_369 rfl rfl ?_
        exact aw_iret C rfl (Nat.le_of_ble_eq_true rfl) (Nat.le_of_ble_eq_true rfl) ⟨rfl, ad', _, Y', _, (hS1.keepZ hMc hF), e0, hM, hZ.draft.next, (hdr.2.1 c123).2, hK.draft, (by rw [zI_n (by decide), zI_k (by decide), zI_k (by decide)]; omega), (by rw [zI_n (by decide), zI_k (by decide), zI_k (by decide)]; omega)⟩ dL_drafts_371
    · refine aw_iconst (v := nI 1) C dL_drafts_106 rfl rfl ?_
      exact aw_iret C rfl (Nat.le_of_ble_eq_true rfl) (Nat.le_of_ble_eq_true rfl) ⟨rfl, ad, _, Y, _, hS, rfl, hM, hZ.next, hR, hK, by omega, by omega⟩ dL_drafts_107
set_option maxRecDepth 100000 in
theorem D_2 {x : Cx} {ez : Nat} (G : GOK x.g x.l ez) (C : AWC x cL_drafts 16 RL rmA (some .boolean)) {ad : Nat → Nat → Nat} {u : MU} {Y : GS} {L : ZU} {al : Nat → Nat} {sg0 : Sg} {m : Nat} (hS : CS x.g ez ad u Y sg0) (hM : ZS x.g al L sg0) (hZ : CZ m u) (hR : ZR L u) (hK : ZKu u) (hT0 : L.1 10 0 ≤ 400 * m) (hT4 : L.1 10 4 ≤ 6000 * m) (hm : m ≤ 130) (hlt : L.1 10 1 < 24) {zz : Int32} : AW x (RQ x (ZA x.g ez al (ad 0 0) (m + 1)) noX 60 12000) 0 0 sg0 30 [(0, .ref ((ad 0 0))), (1, .int (zz)), (2, .ref (al 0)), (3, .ref (al 1)), (4, .ref (al 2)), (5, .ref (al 10)), (6, .int (nI ((L.1 10 1))))] [.int (nI (2))] := by
  have hl := G.1
  have hst := G.2.1
  have hB := hR.B
  have hM0 := hM
  have hF : ZFr al sg0 sg0 := ZFr.rf
  have hI := hZ.1
  refine aw_istore (ls' := [(7, _), (0, _), (1, _), (2, _), (3, _), (4, _), (5, _), (6, _)]) C dL_drafts_30 (by decide) rfl rfl ?_
  refine aw_pick (ls' := [(0, _), (1, _), (2, _), (3, _), (4, _), (5, _), (6, _), (7, _)]) [1, 2, 3, 4, 5, 6, 7, 0] rfl ?_
  refine aw_iload_n C dL_drafts_32 rfl rfl rfl ?_
  refine aw_iconst (v := nI 3) C dL_drafts_33 rfl rfl ?_
  refine aw_ishr C dL_drafts_34 rfl ?_
  refine aw_bipush (v := nI 6) C dL_drafts_35 rfl rfl ?_
  refine cw_callSp C k_L_98 (N_low hl hst (v := (zz >>> (nI 3 &&& 31))) (N := 6) (by decide) (by decide)) ⟨by decide, by decide⟩ rfl rfl (Nat.le_of_ble_eq_true rfl) (Nat.le_of_ble_eq_true rfl) (Nat.le_of_ble_eq_true rfl) dL_drafts_37 rfl ?_
  obtain ⟨g, eg⟩ : ∃ q, q = n_low (zz >>> (nI 3 &&& 31)) 6 := ⟨_, rfl⟩
  rw [← eg]
  have hg : g < 6 := by rw [eg]; exact n_low_lt (by decide)
  refine aw_istore (ls' := [(8, _), (0, _), (1, _), (2, _), (3, _), (4, _), (5, _), (6, _), (7, _)]) C dL_drafts_40 (by decide) rfl rfl ?_
  refine aw_pick (ls' := [(0, _), (1, _), (2, _), (3, _), (4, _), (5, _), (6, _), (7, _), (8, _)]) [1, 2, 3, 4, 5, 6, 7, 8, 0] rfl ?_
  refine aw_iload_n C dL_drafts_42 rfl rfl rfl ?_
  refine aw_bipush (v := nI 6) C dL_drafts_43 rfl rfl ?_
  refine aw_ishr C dL_drafts_45 rfl ?_
  refine aw_bipush (v := nI 6) C dL_drafts_46 rfl rfl ?_
  refine cw_callSp C k_L_98 (N_low hl hst (v := (zz >>> (nI 6 &&& 31))) (N := 6) (by decide) (by decide)) ⟨by decide, by decide⟩ rfl rfl (Nat.le_of_ble_eq_true rfl) (Nat.le_of_ble_eq_true rfl) (Nat.le_of_ble_eq_true rfl) dL_drafts_48 rfl ?_
  obtain ⟨t, et⟩ : ∃ q, q = n_low (zz >>> (nI 6 &&& 31)) 6 := ⟨_, rfl⟩
  rw [← et]
  have ht : t < 6 := by rw [et]; exact n_low_lt (by decide)
  refine aw_istore (ls' := [(9, _), (0, _), (1, _), (2, _), (3, _), (4, _), (5, _), (6, _), (7, _), (8, _)]) C dL_drafts_51 (by decide) rfl rfl ?_
  refine aw_pick (ls' := [(0, _), (1, _), (2, _), (3, _), (4, _), (5, _), (6, _), (7, _), (8, _), (9, _)]) [1, 2, 3, 4, 5, 6, 7, 8, 9, 0] rfl ?_
  refine aw_iload_n C dL_drafts_53 rfl rfl rfl ?_
  refine aw_bipush (v := nI 9) C dL_drafts_54 rfl rfl ?_
  refine aw_ishr C dL_drafts_56 rfl ?_
  refine aw_iconst (v := nI 2) C dL_drafts_57 rfl rfl ?_
  refine cw_callSp C k_L_98 (N_low hl hst (v := (zz >>> (nI 9 &&& 31))) (N := 2) (by decide) (by decide)) ⟨by decide, by decide⟩ rfl rfl (Nat.le_of_ble_eq_true rfl) (Nat.le_of_ble_eq_true rfl) (Nat.le_of_ble_eq_true rfl) dL_drafts_58 rfl ?_
  obtain ⟨th, eth⟩ : ∃ q, q = n_low (zz >>> (nI 9 &&& 31)) 2 := ⟨_, rfl⟩
  rw [← eth]
  have hth : th < 2 := by rw [eth]; exact n_low_lt (by decide)
  refine aw_istore (ls' := [(10, _), (0, _), (1, _), (2, _), (3, _), (4, _), (5, _), (6, _), (7, _), (8, _), (9, _)]) C dL_drafts_61 (by decide) rfl rfl ?_
  refine aw_pick (ls' := [(0, _), (1, _), (2, _), (3, _), (4, _), (5, _), (6, _), (7, _), (8, _), (9, _), (10, _)]) [1, 2, 3, 4, 5, 6, 7, 8, 9, 10, 0] rfl ?_
  refine aw_iconst (v := nI 1) C dL_drafts_63 rfl rfl ?_
  refine aw_iload_n C dL_drafts_64 rfl rfl rfl ?_
  refine aw_bipush (v := nI 10) C dL_drafts_65 rfl rfl ?_
  refine aw_ishr C dL_drafts_67 rfl ?_
  refine aw_iconst (v := nI 4) C dL_drafts_68 rfl rfl ?_
  refine cw_callSp C k_L_98 (N_low hl hst (v := (zz >>> (nI 10 &&& 31))) (N := 4) (by decide) (by decide)) ⟨by decide, by decide⟩ rfl rfl (Nat.le_of_ble_eq_true rfl) (Nat.le_of_ble_eq_true rfl) (Nat.le_of_ble_eq_true rfl) dL_drafts_69 rfl ?_
  obtain ⟨q4, eq4⟩ : ∃ q, q = n_low (zz >>> (nI 10 &&& 31)) 4 := ⟨_, rfl⟩
  rw [← eq4]
  have hq4 : q4 < 4 := by rw [eq4]; exact n_low_lt (by decide)
  refine aw_iconst (v := nI 3) C dL_drafts_72 rfl rfl ?_
  refine an_div C (by omega) (by decide) (by decide) dL_drafts_73 rfl ?_
  refine an_add C dL_drafts_74 rfl ?_
  refine aw_istore (ls' := [(11, _), (0, _), (1, _), (2, _), (3, _), (4, _), (5, _), (6, _), (7, _), (8, _), (9, _), (10, _)]) C dL_drafts_75 (by decide) rfl rfl ?_
  refine aw_pick (ls' := [(0, _), (1, _), (2, _), (3, _), (4, _), (5, _), (6, _), (7, _), (8, _), (9, _), (10, _), (11, _)]) [1, 2, 3, 4, 5, 6, 7, 8, 9, 10, 11, 0] rfl ?_
  refine aw_iload C dL_drafts_77 rfl rfl ?_
  refine aw_iconst (v := nI 2) C dL_drafts_79 rfl rfl ?_
  refine an_icmp_ne (a := 1 + (q4 / 3)) (b := 2) (tgt := 87) C dL_drafts_80 (by omega) (by decide) (by decide) rfl (fun c80 => ?_) (fun c80 => ?_)
  · refine aw_iconst (v := nI 1) C dL_drafts_87 rfl rfl ?_
    refine aw_iload_n C dL_drafts_88 rfl rfl rfl ?_
    refine aw_bipush (v := nI 12) C dL_drafts_89 rfl rfl ?_
    refine aw_ishr C dL_drafts_91 rfl ?_
    refine aw_iconst (v := nI 4) C dL_drafts_92 rfl rfl ?_
    refine cw_callSp C k_L_98 (N_low hl hst (v := (zz >>> (nI 12 &&& 31))) (N := 4) (by decide) (by decide)) ⟨by decide, by decide⟩ rfl rfl (Nat.le_of_ble_eq_true rfl) (Nat.le_of_ble_eq_true rfl) (Nat.le_of_ble_eq_true rfl) dL_drafts_93 rfl ?_
    obtain ⟨q5, eq5⟩ : ∃ q, q = n_low (zz >>> (nI 12 &&& 31)) 4 := ⟨_, rfl⟩
    rw [← eq5]
    have hq5 : q5 < 4 := by rw [eq5]; exact n_low_lt (by decide)
    refine an_add C dL_drafts_96 rfl ?_
    refine aw_istore (ls' := [(12, _), (0, _), (1, _), (2, _), (3, _), (4, _), (5, _), (6, _), (7, _), (8, _), (9, _), (10, _), (11, _)]) C dL_drafts_97 (by decide) rfl rfl ?_
    refine aw_pick (ls' := [(0, _), (1, _), (2, _), (3, _), (4, _), (5, _), (6, _), (7, _), (8, _), (9, _), (10, _), (11, _), (12, _)]) [1, 2, 3, 4, 5, 6, 7, 8, 9, 10, 11, 12, 0] rfl ?_
    refine aw_iload C dL_drafts_99 rfl rfl ?_
    refine aw_iload C dL_drafts_101 rfl rfl ?_
    refine an_icmp_ne (a := g) (b := t) (tgt := 108) C dL_drafts_103 (by omega) (by omega) (by decide) rfl (fun c103 => ?_) (fun c103 => ?_)
    · refine aw_aload_n C dL_drafts_108 rfl rfl rfl ?_
      refine aw_bipush (v := nI 16) C dL_drafts_109 rfl rfl ?_
      refine aw_iload C dL_drafts_111 rfl rfl ?_
      refine an_add C dL_drafts_113 rfl ?_
      refine an_iald (k := 0) (i := 16 + g) (N := 40) (v := (L.1 0 (16 + g))) C hM rfl rfl (by omega) rfl dL_drafts_114 rfl ?_
      refine aw_aload_n C dL_drafts_115 rfl rfl rfl ?_
      refine aw_bipush (v := nI 16) C dL_drafts_116 rfl rfl ?_
      refine aw_iload C dL_drafts_118 rfl rfl ?_
      refine an_add C dL_drafts_120 rfl ?_
      refine an_iald (k := 0) (i := 16 + t) (N := 40) (v := (L.1 0 (16 + t))) C hM rfl rfl (by omega) rfl dL_drafts_121 rfl ?_
      refine an_add C dL_drafts_122 rfl ?_
      refine an_if_ne (a := (L.1 0 (16 + g)) + (L.1 0 (16 + t))) (tgt := 130) C dL_drafts_123 (by have := hB 0 (16 + g); have := hB 0 (16 + t); omega) (by decide) rfl (fun c123 => ?_) (fun c123 => ?_)
      · refine aw_iconst (v := nI 0) C dL_drafts_130 rfl rfl ?_
        refine aw_istore (ls' := [(13, _), (0, _), (1, _), (2, _), (3, _), (4, _), (5, _), (6, _), (7, _), (8, _), (9, _), (10, _), (11, _), (12, _)]) C dL_drafts_131 (by decide) rfl rfl ?_
        refine aw_pick (ls' := [(0, _), (1, _), (2, _), (3, _), (4, _), (5, _), (6, _), (7, _), (8, _), (9, _), (10, _), (11, _), (12, _), (13, _)]) [1, 2, 3, 4, 5, 6, 7, 8, 9, 10, 11, 12, 13, 0] rfl ?_
        refine aw_iload C dL_drafts_133 rfl rfl ?_
        refine an_if_eq (a := 0) (tgt := 143) C dL_drafts_135 (by decide) (by decide) rfl (fun _ => ?_) (fun q => absurd (by decide) q)
        refine aw_sipush (v := -1003) C dL_drafts_143 rfl rfl ?_
        refine aw_istore (ls' := [(14, _), (0, _), (1, _), (2, _), (3, _), (4, _), (5, _), (6, _), (7, _), (8, _), (9, _), (10, _), (11, _), (12, _), (13, _)]) C dL_drafts_146 (by decide) rfl rfl ?_
        refine aw_pick (ls' := [(0, _), (1, _), (2, _), (3, _), (4, _), (5, _), (6, _), (7, _), (8, _), (9, _), (10, _), (11, _), (12, _), (13, _), (14, _)]) [1, 2, 3, 4, 5, 6, 7, 8, 9, 10, 11, 12, 13, 14, 0] rfl ?_
        refine aw_iload C dL_drafts_148 rfl rfl ?_
        refine aw_iconst (v := nI 3) C dL_drafts_150 rfl rfl ?_
        refine an_icmp_ge (a := 2) (b := 3) (tgt := 186) C dL_drafts_151 (by decide) (by decide) (by decide) rfl (fun q => absurd (by decide) q) (fun _ => ?_)
        refine aw_aload_n C dL_drafts_154 rfl rfl rfl ?_
        refine aw_iconst (v := nI 0) C dL_drafts_155 rfl rfl ?_
        refine aw_iload C dL_drafts_156 rfl rfl ?_
        refine aw_iload C dL_drafts_158 rfl rfl ?_
        refine aw_iload C dL_drafts_160 rfl rfl ?_
        refine aw_iload C dL_drafts_162 rfl rfl ?_
        refine aw_iload C dL_drafts_164 rfl rfl ?_
        refine aw_iload C dL_drafts_166 rfl rfl ?_
        have hdr := r_draft hZ hR hlt (kd := 2) (g := g) (t := t) (th := th) (ab := 1 + (q4 / 3)) (be := 1 + q5) (by decide) hg ht c103 hth (by omega) (by omega) (by omega)
        refine aw_callSW C kL_calls (H_draft G hS hI (a := nI (2)) (b := nI (g)) (c := nI (t)) (d := nI (th)) (e := nI (1 + (q4 / 3))) (f := nI (1 + q5)) hdr.1) ⟨by decide, by decide⟩ rfl rfl (Nat.le_of_ble_eq_true rfl) (Nat.le_of_ble_eq_true rfl) (Nat.le_of_ble_eq_true rfl) dL_drafts_168 rfl (fun _ _ q => ax_no q) (fun v1 sg hq => ?_)
        obtain ⟨rfl, hC⟩ := hq
        have hM := hM.keepC hS hC.fr
        obtain ⟨ad', Y', hS1, e0, -, -, -⟩ := hC
        have hF : ZFr al sg sg := ZFr.rf
        have hMc := hM
        refine aw_iload C dL_drafts_171 rfl rfl ?_
        refine aw_icmp_ne (tgt := 180) C dL_drafts_173 (by decide) rfl (fun q => absurd (hdr.2.2 c123).1 q) (fun _ => ?_)
        refine aw_iconst (v := nI 1) C dL_drafts_176 rfl rfl ?_
        refine aw_goto (tgt := 181) C dL_drafts_177 (by decide) ?_
        refine aw_istore (ls' := [(15, _), (0, _), (1, _), (2, _), (3, _), (4, _), (5, _), (6, _), (7, _), (8, _), (9, _), (10, _), (11, _), (12, _), (13, _), (14, _)]) C dL_drafts_181 (by decide) rfl rfl ?_
        refine aw_pick (ls' := [(0, _), (1, _), (2, _), (3, _), (4, _), (5, _), (6, _), (7, _), (8, _), (9, _), (10, _), (11, _), (12, _), (13, _), (14, _), (15, _)]) [1, 2, 3, 4, 5, 6, 7, 8, 9, 10, 11, 12, 13, 14, 15, 0] rfl ?_
        refine aw_goto (tgt := 284) C dL_drafts_183 (by decide) ?_
        refine aw_iload C dL_drafts_284 rfl rfl ?_
        refine an_if_eq (a := 0) (tgt := 369) C dL_drafts_286 (by decide) (by decide) rfl (fun _ => ?_) (fun q => absurd (by decide) q)
        refine aw_iload C dL_drafts_369 rfl rfl ?_
        have hu := (hdr.2.2 c123).2
        exact aw_iret C rfl (Nat.le_of_ble_eq_true rfl) (Nat.le_of_ble_eq_true rfl) ⟨rfl, ad', u, Y', L, (by rw [hu] at hS1; exact hS1), e0, hM, hZ.next, hR, hK, by omega, by omega⟩ dL_drafts_371
      · refine aw_iconst (v := nI 1) C dL_drafts_126 rfl rfl ?_
        refine aw_goto (tgt := 131) C dL_drafts_127 (by decide) ?_
        refine aw_istore (ls' := [(13, _), (0, _), (1, _), (2, _), (3, _), (4, _), (5, _), (6, _), (7, _), (8, _), (9, _), (10, _), (11, _), (12, _)]) C dL_drafts_131 (by decide) rfl rfl ?_
        refine aw_pick (ls' := [(0, _), (1, _), (2, _), (3, _), (4, _), (5, _), (6, _), (7, _), (8, _), (9, _), (10, _), (11, _), (12, _), (13, _)]) [1, 2, 3, 4, 5, 6, 7, 8, 9, 10, 11, 12, 13, 0] rfl ?_
        refine aw_iload C dL_drafts_133 rfl rfl ?_
        refine an_if_eq (a := 1) (tgt := 143) C dL_drafts_135 (by decide) (by decide) rfl (fun q => absurd q (by decide)) (fun _ => ?_)
        refine aw_iload C dL_drafts_138 rfl rfl ?_
        refine aw_goto (tgt := 146) C dL_drafts_140 (by decide) ?_
        refine aw_istore (ls' := [(14, _), (0, _), (1, _), (2, _), (3, _), (4, _), (5, _), (6, _), (7, _), (8, _), (9, _), (10, _), (11, _), (12, _), (13, _)]) C dL_drafts_146 (by decide) rfl rfl ?_
        refine aw_pick (ls' := [(0, _), (1, _), (2, _), (3, _), (4, _), (5, _), (6, _), (7, _), (8, _), (9, _), (10, _), (11, _), (12, _), (13, _), (14, _)]) [1, 2, 3, 4, 5, 6, 7, 8, 9, 10, 11, 12, 13, 14, 0] rfl ?_
        refine aw_iload C dL_drafts_148 rfl rfl ?_
        refine aw_iconst (v := nI 3) C dL_drafts_150 rfl rfl ?_
        refine an_icmp_ge (a := 2) (b := 3) (tgt := 186) C dL_drafts_151 (by decide) (by decide) (by decide) rfl (fun q => absurd (by decide) q) (fun _ => ?_)
        refine aw_aload_n C dL_drafts_154 rfl rfl rfl ?_
        refine aw_iconst (v := nI 0) C dL_drafts_155 rfl rfl ?_
        refine aw_iload C dL_drafts_156 rfl rfl ?_
        refine aw_iload C dL_drafts_158 rfl rfl ?_
        refine aw_iload C dL_drafts_160 rfl rfl ?_
        refine aw_iload C dL_drafts_162 rfl rfl ?_
        refine aw_iload C dL_drafts_164 rfl rfl ?_
        refine aw_iload C dL_drafts_166 rfl rfl ?_
        have hdr := r_draft hZ hR hlt (kd := 2) (g := g) (t := t) (th := th) (ab := 1 + (q4 / 3)) (be := 1 + q5) (by decide) hg ht c103 hth (by omega) (by omega) (by omega)
        refine aw_callSW C kL_calls (H_draft G hS hI (a := nI (2)) (b := nI (g)) (c := nI (t)) (d := nI (th)) (e := nI (1 + (q4 / 3))) (f := nI (1 + q5)) hdr.1) ⟨by decide, by decide⟩ rfl rfl (Nat.le_of_ble_eq_true rfl) (Nat.le_of_ble_eq_true rfl) (Nat.le_of_ble_eq_true rfl) dL_drafts_168 rfl (fun _ _ q => ax_no q) (fun v1 sg hq => ?_)
        obtain ⟨rfl, hC⟩ := hq
        have hM := hM.keepC hS hC.fr
        obtain ⟨ad', Y', hS1, e0, -, -, -⟩ := hC
        have hF : ZFr al sg sg := ZFr.rf
        have hMc := hM
        refine aw_iload C dL_drafts_171 rfl rfl ?_
        refine aw_icmp_ne (tgt := 180) C dL_drafts_173 (by decide) rfl (fun q => absurd (hdr.2.1 c123).1 q) (fun _ => ?_)
        refine aw_iconst (v := nI 1) C dL_drafts_176 rfl rfl ?_
        refine aw_goto (tgt := 181) C dL_drafts_177 (by decide) ?_
        refine aw_istore (ls' := [(15, _), (0, _), (1, _), (2, _), (3, _), (4, _), (5, _), (6, _), (7, _), (8, _), (9, _), (10, _), (11, _), (12, _), (13, _), (14, _)]) C dL_drafts_181 (by decide) rfl rfl ?_
        refine aw_pick (ls' := [(0, _), (1, _), (2, _), (3, _), (4, _), (5, _), (6, _), (7, _), (8, _), (9, _), (10, _), (11, _), (12, _), (13, _), (14, _), (15, _)]) [1, 2, 3, 4, 5, 6, 7, 8, 9, 10, 11, 12, 13, 14, 15, 0] rfl ?_
        refine aw_goto (tgt := 284) C dL_drafts_183 (by decide) ?_
        refine aw_iload C dL_drafts_284 rfl rfl ?_
        refine an_if_eq (a := 1) (tgt := 369) C dL_drafts_286 (by decide) (by decide) rfl (fun q => absurd q (by decide)) (fun _ => ?_)
        refine aw_aload_n C dL_drafts_289 rfl rfl rfl ?_
        refine aw_iload C dL_drafts_290 rfl rfl ?_
        refine aw_iload C dL_drafts_292 rfl rfl ?_
        refine aw_bipush (v := nI 8) C dL_drafts_294 rfl rfl ?_
        refine aw_iload C dL_drafts_296 rfl rfl ?_
        refine an_mul C dL_drafts_298 rfl ?_
        refine an_add C dL_drafts_299 rfl ?_
        refine aw_bipush (v := nI 64) C dL_drafts_300 rfl rfl ?_
        refine aw_iload C dL_drafts_302 rfl rfl ?_
        refine an_mul C dL_drafts_304 rfl ?_
        refine an_add C dL_drafts_305 rfl ?_
        refine aw_sipush (v := nI 512) C dL_drafts_306 rfl rfl ?_
        refine aw_iload C dL_drafts_309 rfl rfl ?_
        refine aw_iconst (v := nI 4) C dL_drafts_311 rfl rfl ?_
        refine an_icmp_ne (a := 2) (b := 4) (tgt := 319) C dL_drafts_312 (by decide) (by decide) (by decide) rfl (fun _ => ?_) (fun q => absurd q (by decide))
        refine aw_iload C dL_drafts_319 rfl rfl ?_
        refine aw_iconst (v := nI 1) C dL_drafts_321 rfl rfl ?_
        refine an_add C dL_drafts_322 rfl ?_
        refine an_mul C dL_drafts_323 rfl ?_
        refine an_add C dL_drafts_324 rfl ?_
        refine an_iast (k := 1) (i := (L.1 10 1)) (N := 24) (v := ((2 + (8 * g)) + (64 * t)) + (512 * (th + 1))) C hM hF rfl rfl (by have := hB 10 1; omega) dL_drafts_325 rfl (fun sg hM hF => ?_)
        refine aw_aload C dL_drafts_326 rfl rfl ?_
        refine aw_iload C dL_drafts_328 rfl rfl ?_
        refine aw_iload C dL_drafts_330 rfl rfl ?_
        refine aw_iconst (v := nI 3) C dL_drafts_332 rfl rfl ?_
        refine an_icmp_ne (a := 2) (b := 3) (tgt := 351) C dL_drafts_333 (by decide) (by decide) (by decide) rfl (fun _ => ?_) (fun q => absurd q (by decide))
        refine aw_sipush (v := nI 128) C dL_drafts_351 rfl rfl ?_
        refine aw_iload C dL_drafts_354 rfl rfl ?_
        refine an_mul C dL_drafts_356 rfl ?_
        refine aw_iload C dL_drafts_357 rfl rfl ?_
        refine an_add C dL_drafts_359 rfl ?_
        refine an_iast (k := 2) (i := (L.1 10 1)) (N := 24) (v := (128 * (1 + (q4 / 3))) + (1 + q5)) C hM hF rfl rfl (by have := hB 10 1; omega) dL_drafts_360 rfl (fun sg hM hF => ?_)
        refine aw_aload C dL_drafts_361 rfl rfl ?_
        refine aw_iconst (v := nI 1) C dL_drafts_363 rfl rfl ?_
        refine aw_dup2 C dL_drafts_364 rfl rfl rfl ?_
        refine an_iald (k := 10) (i := 1) (N := 5) (v := (L.1 10 1)) C hM rfl rfl (by decide) (by rw [zI_k (by decide)]; exact (by rw [zI_k (by decide)])) dL_drafts_365 rfl ?_
        refine aw_iconst (v := nI 1) C dL_drafts_366 rfl rfl ?_
        refine an_add C dL_drafts_367 rfl ?_
        refine an_iast (k := 10) (i := 1) (N := 5) (v := (L.1 10 1) + 1) C hM hF rfl rfl (by decide) dL_drafts_368 rfl (fun sg hM hF => ?_)
        refine aw_iload C dL_drafts_369 rfl rfl ?_
        exact aw_iret C rfl (Nat.le_of_ble_eq_true rfl) (Nat.le_of_ble_eq_true rfl) ⟨rfl, ad', _, Y', _, (hS1.keepZ hMc hF), e0, hM, hZ.draft.next, (hdr.2.1 c123).2, hK.draft, (by rw [zI_n (by decide), zI_k (by decide), zI_k (by decide)]; omega), (by rw [zI_n (by decide), zI_k (by decide), zI_k (by decide)]; omega)⟩ dL_drafts_371
    · refine aw_iconst (v := nI 1) C dL_drafts_106 rfl rfl ?_
      exact aw_iret C rfl (Nat.le_of_ble_eq_true rfl) (Nat.le_of_ble_eq_true rfl) ⟨rfl, ad, _, Y, _, hS, rfl, hM, hZ.next, hR, hK, by omega, by omega⟩ dL_drafts_107
  · refine aw_iconst (v := nI 3) C dL_drafts_83 rfl rfl ?_
    refine aw_goto (tgt := 97) C dL_drafts_84 (by decide) ?_
    refine aw_istore (ls' := [(12, _), (0, _), (1, _), (2, _), (3, _), (4, _), (5, _), (6, _), (7, _), (8, _), (9, _), (10, _), (11, _)]) C dL_drafts_97 (by decide) rfl rfl ?_
    refine aw_pick (ls' := [(0, _), (1, _), (2, _), (3, _), (4, _), (5, _), (6, _), (7, _), (8, _), (9, _), (10, _), (11, _), (12, _)]) [1, 2, 3, 4, 5, 6, 7, 8, 9, 10, 11, 12, 0] rfl ?_
    refine aw_iload C dL_drafts_99 rfl rfl ?_
    refine aw_iload C dL_drafts_101 rfl rfl ?_
    refine an_icmp_ne (a := g) (b := t) (tgt := 108) C dL_drafts_103 (by omega) (by omega) (by decide) rfl (fun c103 => ?_) (fun c103 => ?_)
    · refine aw_aload_n C dL_drafts_108 rfl rfl rfl ?_
      refine aw_bipush (v := nI 16) C dL_drafts_109 rfl rfl ?_
      refine aw_iload C dL_drafts_111 rfl rfl ?_
      refine an_add C dL_drafts_113 rfl ?_
      refine an_iald (k := 0) (i := 16 + g) (N := 40) (v := (L.1 0 (16 + g))) C hM rfl rfl (by omega) rfl dL_drafts_114 rfl ?_
      refine aw_aload_n C dL_drafts_115 rfl rfl rfl ?_
      refine aw_bipush (v := nI 16) C dL_drafts_116 rfl rfl ?_
      refine aw_iload C dL_drafts_118 rfl rfl ?_
      refine an_add C dL_drafts_120 rfl ?_
      refine an_iald (k := 0) (i := 16 + t) (N := 40) (v := (L.1 0 (16 + t))) C hM rfl rfl (by omega) rfl dL_drafts_121 rfl ?_
      refine an_add C dL_drafts_122 rfl ?_
      refine an_if_ne (a := (L.1 0 (16 + g)) + (L.1 0 (16 + t))) (tgt := 130) C dL_drafts_123 (by have := hB 0 (16 + g); have := hB 0 (16 + t); omega) (by decide) rfl (fun c123 => ?_) (fun c123 => ?_)
      · refine aw_iconst (v := nI 0) C dL_drafts_130 rfl rfl ?_
        refine aw_istore (ls' := [(13, _), (0, _), (1, _), (2, _), (3, _), (4, _), (5, _), (6, _), (7, _), (8, _), (9, _), (10, _), (11, _), (12, _)]) C dL_drafts_131 (by decide) rfl rfl ?_
        refine aw_pick (ls' := [(0, _), (1, _), (2, _), (3, _), (4, _), (5, _), (6, _), (7, _), (8, _), (9, _), (10, _), (11, _), (12, _), (13, _)]) [1, 2, 3, 4, 5, 6, 7, 8, 9, 10, 11, 12, 13, 0] rfl ?_
        refine aw_iload C dL_drafts_133 rfl rfl ?_
        refine an_if_eq (a := 0) (tgt := 143) C dL_drafts_135 (by decide) (by decide) rfl (fun _ => ?_) (fun q => absurd (by decide) q)
        refine aw_sipush (v := -1003) C dL_drafts_143 rfl rfl ?_
        refine aw_istore (ls' := [(14, _), (0, _), (1, _), (2, _), (3, _), (4, _), (5, _), (6, _), (7, _), (8, _), (9, _), (10, _), (11, _), (12, _), (13, _)]) C dL_drafts_146 (by decide) rfl rfl ?_
        refine aw_pick (ls' := [(0, _), (1, _), (2, _), (3, _), (4, _), (5, _), (6, _), (7, _), (8, _), (9, _), (10, _), (11, _), (12, _), (13, _), (14, _)]) [1, 2, 3, 4, 5, 6, 7, 8, 9, 10, 11, 12, 13, 14, 0] rfl ?_
        refine aw_iload C dL_drafts_148 rfl rfl ?_
        refine aw_iconst (v := nI 3) C dL_drafts_150 rfl rfl ?_
        refine an_icmp_ge (a := 2) (b := 3) (tgt := 186) C dL_drafts_151 (by decide) (by decide) (by decide) rfl (fun q => absurd (by decide) q) (fun _ => ?_)
        refine aw_aload_n C dL_drafts_154 rfl rfl rfl ?_
        refine aw_iconst (v := nI 0) C dL_drafts_155 rfl rfl ?_
        refine aw_iload C dL_drafts_156 rfl rfl ?_
        refine aw_iload C dL_drafts_158 rfl rfl ?_
        refine aw_iload C dL_drafts_160 rfl rfl ?_
        refine aw_iload C dL_drafts_162 rfl rfl ?_
        refine aw_iload C dL_drafts_164 rfl rfl ?_
        refine aw_iload C dL_drafts_166 rfl rfl ?_
        have hdr := r_draft hZ hR hlt (kd := 2) (g := g) (t := t) (th := th) (ab := 1 + (q4 / 3)) (be := 3) (by decide) hg ht c103 hth (by omega) (by omega) (by omega)
        refine aw_callSW C kL_calls (H_draft G hS hI (a := nI (2)) (b := nI (g)) (c := nI (t)) (d := nI (th)) (e := nI (1 + (q4 / 3))) (f := nI (3)) hdr.1) ⟨by decide, by decide⟩ rfl rfl (Nat.le_of_ble_eq_true rfl) (Nat.le_of_ble_eq_true rfl) (Nat.le_of_ble_eq_true rfl) dL_drafts_168 rfl (fun _ _ q => ax_no q) (fun v1 sg hq => ?_)
        obtain ⟨rfl, hC⟩ := hq
        have hM := hM.keepC hS hC.fr
        obtain ⟨ad', Y', hS1, e0, -, -, -⟩ := hC
        have hF : ZFr al sg sg := ZFr.rf
        have hMc := hM
        refine aw_iload C dL_drafts_171 rfl rfl ?_
        refine aw_icmp_ne (tgt := 180) C dL_drafts_173 (by decide) rfl (fun q => absurd (hdr.2.2 c123).1 q) (fun _ => ?_)
        refine aw_iconst (v := nI 1) C dL_drafts_176 rfl rfl ?_
        refine aw_goto (tgt := 181) C dL_drafts_177 (by decide) ?_
        refine aw_istore (ls' := [(15, _), (0, _), (1, _), (2, _), (3, _), (4, _), (5, _), (6, _), (7, _), (8, _), (9, _), (10, _), (11, _), (12, _), (13, _), (14, _)]) C dL_drafts_181 (by decide) rfl rfl ?_
        refine aw_pick (ls' := [(0, _), (1, _), (2, _), (3, _), (4, _), (5, _), (6, _), (7, _), (8, _), (9, _), (10, _), (11, _), (12, _), (13, _), (14, _), (15, _)]) [1, 2, 3, 4, 5, 6, 7, 8, 9, 10, 11, 12, 13, 14, 15, 0] rfl ?_
        refine aw_goto (tgt := 284) C dL_drafts_183 (by decide) ?_
        refine aw_iload C dL_drafts_284 rfl rfl ?_
        refine an_if_eq (a := 0) (tgt := 369) C dL_drafts_286 (by decide) (by decide) rfl (fun _ => ?_) (fun q => absurd (by decide) q)
        refine aw_iload C dL_drafts_369 rfl rfl ?_
        have hu := (hdr.2.2 c123).2
        exact aw_iret C rfl (Nat.le_of_ble_eq_true rfl) (Nat.le_of_ble_eq_true rfl) ⟨rfl, ad', u, Y', L, (by rw [hu] at hS1; exact hS1), e0, hM, hZ.next, hR, hK, by omega, by omega⟩ dL_drafts_371
      · refine aw_iconst (v := nI 1) C dL_drafts_126 rfl rfl ?_
        refine aw_goto (tgt := 131) C dL_drafts_127 (by decide) ?_
        refine aw_istore (ls' := [(13, _), (0, _), (1, _), (2, _), (3, _), (4, _), (5, _), (6, _), (7, _), (8, _), (9, _), (10, _), (11, _), (12, _)]) C dL_drafts_131 (by decide) rfl rfl ?_
        refine aw_pick (ls' := [(0, _), (1, _), (2, _), (3, _), (4, _), (5, _), (6, _), (7, _), (8, _), (9, _), (10, _), (11, _), (12, _), (13, _)]) [1, 2, 3, 4, 5, 6, 7, 8, 9, 10, 11, 12, 13, 0] rfl ?_
        refine aw_iload C dL_drafts_133 rfl rfl ?_
        refine an_if_eq (a := 1) (tgt := 143) C dL_drafts_135 (by decide) (by decide) rfl (fun q => absurd q (by decide)) (fun _ => ?_)
        refine aw_iload C dL_drafts_138 rfl rfl ?_
        refine aw_goto (tgt := 146) C dL_drafts_140 (by decide) ?_
        refine aw_istore (ls' := [(14, _), (0, _), (1, _), (2, _), (3, _), (4, _), (5, _), (6, _), (7, _), (8, _), (9, _), (10, _), (11, _), (12, _), (13, _)]) C dL_drafts_146 (by decide) rfl rfl ?_
        refine aw_pick (ls' := [(0, _), (1, _), (2, _), (3, _), (4, _), (5, _), (6, _), (7, _), (8, _), (9, _), (10, _), (11, _), (12, _), (13, _), (14, _)]) [1, 2, 3, 4, 5, 6, 7, 8, 9, 10, 11, 12, 13, 14, 0] rfl ?_
        refine aw_iload C dL_drafts_148 rfl rfl ?_
        refine aw_iconst (v := nI 3) C dL_drafts_150 rfl rfl ?_
        refine an_icmp_ge (a := 2) (b := 3) (tgt := 186) C dL_drafts_151 (by decide) (by decide) (by decide) rfl (fun q => absurd (by decide) q) (fun _ => ?_)
        refine aw_aload_n C dL_drafts_154 rfl rfl rfl ?_
        refine aw_iconst (v := nI 0) C dL_drafts_155 rfl rfl ?_
        refine aw_iload C dL_drafts_156 rfl rfl ?_
        refine aw_iload C dL_drafts_158 rfl rfl ?_
        refine aw_iload C dL_drafts_160 rfl rfl ?_
        refine aw_iload C dL_drafts_162 rfl rfl ?_
        refine aw_iload C dL_drafts_164 rfl rfl ?_
        refine aw_iload C dL_drafts_166 rfl rfl ?_
        have hdr := r_draft hZ hR hlt (kd := 2) (g := g) (t := t) (th := th) (ab := 1 + (q4 / 3)) (be := 3) (by decide) hg ht c103 hth (by omega) (by omega) (by omega)
        refine aw_callSW C kL_calls (H_draft G hS hI (a := nI (2)) (b := nI (g)) (c := nI (t)) (d := nI (th)) (e := nI (1 + (q4 / 3))) (f := nI (3)) hdr.1) ⟨by decide, by decide⟩ rfl rfl (Nat.le_of_ble_eq_true rfl) (Nat.le_of_ble_eq_true rfl) (Nat.le_of_ble_eq_true rfl) dL_drafts_168 rfl (fun _ _ q => ax_no q) (fun v1 sg hq => ?_)
        obtain ⟨rfl, hC⟩ := hq
        have hM := hM.keepC hS hC.fr
        obtain ⟨ad', Y', hS1, e0, -, -, -⟩ := hC
        have hF : ZFr al sg sg := ZFr.rf
        have hMc := hM
        refine aw_iload C dL_drafts_171 rfl rfl ?_
        refine aw_icmp_ne (tgt := 180) C dL_drafts_173 (by decide) rfl (fun q => absurd (hdr.2.1 c123).1 q) (fun _ => ?_)
        refine aw_iconst (v := nI 1) C dL_drafts_176 rfl rfl ?_
        refine aw_goto (tgt := 181) C dL_drafts_177 (by decide) ?_
        refine aw_istore (ls' := [(15, _), (0, _), (1, _), (2, _), (3, _), (4, _), (5, _), (6, _), (7, _), (8, _), (9, _), (10, _), (11, _), (12, _), (13, _), (14, _)]) C dL_drafts_181 (by decide) rfl rfl ?_
        refine aw_pick (ls' := [(0, _), (1, _), (2, _), (3, _), (4, _), (5, _), (6, _), (7, _), (8, _), (9, _), (10, _), (11, _), (12, _), (13, _), (14, _), (15, _)]) [1, 2, 3, 4, 5, 6, 7, 8, 9, 10, 11, 12, 13, 14, 15, 0] rfl ?_
        refine aw_goto (tgt := 284) C dL_drafts_183 (by decide) ?_
        refine aw_iload C dL_drafts_284 rfl rfl ?_
        refine an_if_eq (a := 1) (tgt := 369) C dL_drafts_286 (by decide) (by decide) rfl (fun q => absurd q (by decide)) (fun _ => ?_)
        refine aw_aload_n C dL_drafts_289 rfl rfl rfl ?_
        refine aw_iload C dL_drafts_290 rfl rfl ?_
        refine aw_iload C dL_drafts_292 rfl rfl ?_
        refine aw_bipush (v := nI 8) C dL_drafts_294 rfl rfl ?_
        refine aw_iload C dL_drafts_296 rfl rfl ?_
        refine an_mul C dL_drafts_298 rfl ?_
        refine an_add C dL_drafts_299 rfl ?_
        refine aw_bipush (v := nI 64) C dL_drafts_300 rfl rfl ?_
        refine aw_iload C dL_drafts_302 rfl rfl ?_
        refine an_mul C dL_drafts_304 rfl ?_
        refine an_add C dL_drafts_305 rfl ?_
        refine aw_sipush (v := nI 512) C dL_drafts_306 rfl rfl ?_
        refine aw_iload C dL_drafts_309 rfl rfl ?_
        refine aw_iconst (v := nI 4) C dL_drafts_311 rfl rfl ?_
        refine an_icmp_ne (a := 2) (b := 4) (tgt := 319) C dL_drafts_312 (by decide) (by decide) (by decide) rfl (fun _ => ?_) (fun q => absurd q (by decide))
        refine aw_iload C dL_drafts_319 rfl rfl ?_
        refine aw_iconst (v := nI 1) C dL_drafts_321 rfl rfl ?_
        refine an_add C dL_drafts_322 rfl ?_
        refine an_mul C dL_drafts_323 rfl ?_
        refine an_add C dL_drafts_324 rfl ?_
        refine an_iast (k := 1) (i := (L.1 10 1)) (N := 24) (v := ((2 + (8 * g)) + (64 * t)) + (512 * (th + 1))) C hM hF rfl rfl (by have := hB 10 1; omega) dL_drafts_325 rfl (fun sg hM hF => ?_)
        refine aw_aload C dL_drafts_326 rfl rfl ?_
        refine aw_iload C dL_drafts_328 rfl rfl ?_
        refine aw_iload C dL_drafts_330 rfl rfl ?_
        refine aw_iconst (v := nI 3) C dL_drafts_332 rfl rfl ?_
        refine an_icmp_ne (a := 2) (b := 3) (tgt := 351) C dL_drafts_333 (by decide) (by decide) (by decide) rfl (fun _ => ?_) (fun q => absurd q (by decide))
        refine aw_sipush (v := nI 128) C dL_drafts_351 rfl rfl ?_
        refine aw_iload C dL_drafts_354 rfl rfl ?_
        refine an_mul C dL_drafts_356 rfl ?_
        refine aw_iload C dL_drafts_357 rfl rfl ?_
        refine an_add C dL_drafts_359 rfl ?_
        refine an_iast (k := 2) (i := (L.1 10 1)) (N := 24) (v := (128 * (1 + (q4 / 3))) + 3) C hM hF rfl rfl (by have := hB 10 1; omega) dL_drafts_360 rfl (fun sg hM hF => ?_)
        refine aw_aload C dL_drafts_361 rfl rfl ?_
        refine aw_iconst (v := nI 1) C dL_drafts_363 rfl rfl ?_
        refine aw_dup2 C dL_drafts_364 rfl rfl rfl ?_
        refine an_iald (k := 10) (i := 1) (N := 5) (v := (L.1 10 1)) C hM rfl rfl (by decide) (by rw [zI_k (by decide)]; exact (by rw [zI_k (by decide)])) dL_drafts_365 rfl ?_
        refine aw_iconst (v := nI 1) C dL_drafts_366 rfl rfl ?_
        refine an_add C dL_drafts_367 rfl ?_
        refine an_iast (k := 10) (i := 1) (N := 5) (v := (L.1 10 1) + 1) C hM hF rfl rfl (by decide) dL_drafts_368 rfl (fun sg hM hF => ?_)
        refine aw_iload C dL_drafts_369 rfl rfl ?_
        exact aw_iret C rfl (Nat.le_of_ble_eq_true rfl) (Nat.le_of_ble_eq_true rfl) ⟨rfl, ad', _, Y', _, (hS1.keepZ hMc hF), e0, hM, hZ.draft.next, (hdr.2.1 c123).2, hK.draft, (by rw [zI_n (by decide), zI_k (by decide), zI_k (by decide)]; omega), (by rw [zI_n (by decide), zI_k (by decide), zI_k (by decide)]; omega)⟩ dL_drafts_371
    · refine aw_iconst (v := nI 1) C dL_drafts_106 rfl rfl ?_
      exact aw_iret C rfl (Nat.le_of_ble_eq_true rfl) (Nat.le_of_ble_eq_true rfl) ⟨rfl, ad, _, Y, _, hS, rfl, hM, hZ.next, hR, hK, by omega, by omega⟩ dL_drafts_107
set_option maxRecDepth 100000 in
theorem D_3 {x : Cx} {ez : Nat} (G : GOK x.g x.l ez) (C : AWC x cL_drafts 16 RL rmA (some .boolean)) {ad : Nat → Nat → Nat} {u : MU} {Y : GS} {L : ZU} {al : Nat → Nat} {sg0 : Sg} {m : Nat} (hS : CS x.g ez ad u Y sg0) (hM : ZS x.g al L sg0) (hZ : CZ m u) (hR : ZR L u) (hK : ZKu u) (hT0 : L.1 10 0 ≤ 400 * m) (hT4 : L.1 10 4 ≤ 6000 * m) (hm : m ≤ 130) (hlt : L.1 10 1 < 24) {zz : Int32} : AW x (RQ x (ZA x.g ez al (ad 0 0) (m + 1)) noX 60 12000) 0 0 sg0 30 [(0, .ref ((ad 0 0))), (1, .int (zz)), (2, .ref (al 0)), (3, .ref (al 1)), (4, .ref (al 2)), (5, .ref (al 10)), (6, .int (nI ((L.1 10 1))))] [.int (nI (3))] := by
  have hl := G.1
  have hst := G.2.1
  have hB := hR.B
  have hM0 := hM
  have hF : ZFr al sg0 sg0 := ZFr.rf
  have hI := hZ.1
  refine aw_istore (ls' := [(7, _), (0, _), (1, _), (2, _), (3, _), (4, _), (5, _), (6, _)]) C dL_drafts_30 (by decide) rfl rfl ?_
  refine aw_pick (ls' := [(0, _), (1, _), (2, _), (3, _), (4, _), (5, _), (6, _), (7, _)]) [1, 2, 3, 4, 5, 6, 7, 0] rfl ?_
  refine aw_iload_n C dL_drafts_32 rfl rfl rfl ?_
  refine aw_iconst (v := nI 3) C dL_drafts_33 rfl rfl ?_
  refine aw_ishr C dL_drafts_34 rfl ?_
  refine aw_bipush (v := nI 6) C dL_drafts_35 rfl rfl ?_
  refine cw_callSp C k_L_98 (N_low hl hst (v := (zz >>> (nI 3 &&& 31))) (N := 6) (by decide) (by decide)) ⟨by decide, by decide⟩ rfl rfl (Nat.le_of_ble_eq_true rfl) (Nat.le_of_ble_eq_true rfl) (Nat.le_of_ble_eq_true rfl) dL_drafts_37 rfl ?_
  obtain ⟨g, eg⟩ : ∃ q, q = n_low (zz >>> (nI 3 &&& 31)) 6 := ⟨_, rfl⟩
  rw [← eg]
  have hg : g < 6 := by rw [eg]; exact n_low_lt (by decide)
  refine aw_istore (ls' := [(8, _), (0, _), (1, _), (2, _), (3, _), (4, _), (5, _), (6, _), (7, _)]) C dL_drafts_40 (by decide) rfl rfl ?_
  refine aw_pick (ls' := [(0, _), (1, _), (2, _), (3, _), (4, _), (5, _), (6, _), (7, _), (8, _)]) [1, 2, 3, 4, 5, 6, 7, 8, 0] rfl ?_
  refine aw_iload_n C dL_drafts_42 rfl rfl rfl ?_
  refine aw_bipush (v := nI 6) C dL_drafts_43 rfl rfl ?_
  refine aw_ishr C dL_drafts_45 rfl ?_
  refine aw_bipush (v := nI 6) C dL_drafts_46 rfl rfl ?_
  refine cw_callSp C k_L_98 (N_low hl hst (v := (zz >>> (nI 6 &&& 31))) (N := 6) (by decide) (by decide)) ⟨by decide, by decide⟩ rfl rfl (Nat.le_of_ble_eq_true rfl) (Nat.le_of_ble_eq_true rfl) (Nat.le_of_ble_eq_true rfl) dL_drafts_48 rfl ?_
  obtain ⟨t, et⟩ : ∃ q, q = n_low (zz >>> (nI 6 &&& 31)) 6 := ⟨_, rfl⟩
  rw [← et]
  have ht : t < 6 := by rw [et]; exact n_low_lt (by decide)
  refine aw_istore (ls' := [(9, _), (0, _), (1, _), (2, _), (3, _), (4, _), (5, _), (6, _), (7, _), (8, _)]) C dL_drafts_51 (by decide) rfl rfl ?_
  refine aw_pick (ls' := [(0, _), (1, _), (2, _), (3, _), (4, _), (5, _), (6, _), (7, _), (8, _), (9, _)]) [1, 2, 3, 4, 5, 6, 7, 8, 9, 0] rfl ?_
  refine aw_iload_n C dL_drafts_53 rfl rfl rfl ?_
  refine aw_bipush (v := nI 9) C dL_drafts_54 rfl rfl ?_
  refine aw_ishr C dL_drafts_56 rfl ?_
  refine aw_iconst (v := nI 2) C dL_drafts_57 rfl rfl ?_
  refine cw_callSp C k_L_98 (N_low hl hst (v := (zz >>> (nI 9 &&& 31))) (N := 2) (by decide) (by decide)) ⟨by decide, by decide⟩ rfl rfl (Nat.le_of_ble_eq_true rfl) (Nat.le_of_ble_eq_true rfl) (Nat.le_of_ble_eq_true rfl) dL_drafts_58 rfl ?_
  obtain ⟨th, eth⟩ : ∃ q, q = n_low (zz >>> (nI 9 &&& 31)) 2 := ⟨_, rfl⟩
  rw [← eth]
  have hth : th < 2 := by rw [eth]; exact n_low_lt (by decide)
  refine aw_istore (ls' := [(10, _), (0, _), (1, _), (2, _), (3, _), (4, _), (5, _), (6, _), (7, _), (8, _), (9, _)]) C dL_drafts_61 (by decide) rfl rfl ?_
  refine aw_pick (ls' := [(0, _), (1, _), (2, _), (3, _), (4, _), (5, _), (6, _), (7, _), (8, _), (9, _), (10, _)]) [1, 2, 3, 4, 5, 6, 7, 8, 9, 10, 0] rfl ?_
  refine aw_iconst (v := nI 1) C dL_drafts_63 rfl rfl ?_
  refine aw_iload_n C dL_drafts_64 rfl rfl rfl ?_
  refine aw_bipush (v := nI 10) C dL_drafts_65 rfl rfl ?_
  refine aw_ishr C dL_drafts_67 rfl ?_
  refine aw_iconst (v := nI 4) C dL_drafts_68 rfl rfl ?_
  refine cw_callSp C k_L_98 (N_low hl hst (v := (zz >>> (nI 10 &&& 31))) (N := 4) (by decide) (by decide)) ⟨by decide, by decide⟩ rfl rfl (Nat.le_of_ble_eq_true rfl) (Nat.le_of_ble_eq_true rfl) (Nat.le_of_ble_eq_true rfl) dL_drafts_69 rfl ?_
  obtain ⟨q4, eq4⟩ : ∃ q, q = n_low (zz >>> (nI 10 &&& 31)) 4 := ⟨_, rfl⟩
  rw [← eq4]
  have hq4 : q4 < 4 := by rw [eq4]; exact n_low_lt (by decide)
  refine aw_iconst (v := nI 3) C dL_drafts_72 rfl rfl ?_
  refine an_div C (by omega) (by decide) (by decide) dL_drafts_73 rfl ?_
  refine an_add C dL_drafts_74 rfl ?_
  refine aw_istore (ls' := [(11, _), (0, _), (1, _), (2, _), (3, _), (4, _), (5, _), (6, _), (7, _), (8, _), (9, _), (10, _)]) C dL_drafts_75 (by decide) rfl rfl ?_
  refine aw_pick (ls' := [(0, _), (1, _), (2, _), (3, _), (4, _), (5, _), (6, _), (7, _), (8, _), (9, _), (10, _), (11, _)]) [1, 2, 3, 4, 5, 6, 7, 8, 9, 10, 11, 0] rfl ?_
  refine aw_iload C dL_drafts_77 rfl rfl ?_
  refine aw_iconst (v := nI 2) C dL_drafts_79 rfl rfl ?_
  refine an_icmp_ne (a := 1 + (q4 / 3)) (b := 2) (tgt := 87) C dL_drafts_80 (by omega) (by decide) (by decide) rfl (fun c80 => ?_) (fun c80 => ?_)
  · refine aw_iconst (v := nI 1) C dL_drafts_87 rfl rfl ?_
    refine aw_iload_n C dL_drafts_88 rfl rfl rfl ?_
    refine aw_bipush (v := nI 12) C dL_drafts_89 rfl rfl ?_
    refine aw_ishr C dL_drafts_91 rfl ?_
    refine aw_iconst (v := nI 4) C dL_drafts_92 rfl rfl ?_
    refine cw_callSp C k_L_98 (N_low hl hst (v := (zz >>> (nI 12 &&& 31))) (N := 4) (by decide) (by decide)) ⟨by decide, by decide⟩ rfl rfl (Nat.le_of_ble_eq_true rfl) (Nat.le_of_ble_eq_true rfl) (Nat.le_of_ble_eq_true rfl) dL_drafts_93 rfl ?_
    obtain ⟨q5, eq5⟩ : ∃ q, q = n_low (zz >>> (nI 12 &&& 31)) 4 := ⟨_, rfl⟩
    rw [← eq5]
    have hq5 : q5 < 4 := by rw [eq5]; exact n_low_lt (by decide)
    refine an_add C dL_drafts_96 rfl ?_
    refine aw_istore (ls' := [(12, _), (0, _), (1, _), (2, _), (3, _), (4, _), (5, _), (6, _), (7, _), (8, _), (9, _), (10, _), (11, _)]) C dL_drafts_97 (by decide) rfl rfl ?_
    refine aw_pick (ls' := [(0, _), (1, _), (2, _), (3, _), (4, _), (5, _), (6, _), (7, _), (8, _), (9, _), (10, _), (11, _), (12, _)]) [1, 2, 3, 4, 5, 6, 7, 8, 9, 10, 11, 12, 0] rfl ?_
    refine aw_iload C dL_drafts_99 rfl rfl ?_
    refine aw_iload C dL_drafts_101 rfl rfl ?_
    refine an_icmp_ne (a := g) (b := t) (tgt := 108) C dL_drafts_103 (by omega) (by omega) (by decide) rfl (fun c103 => ?_) (fun c103 => ?_)
    · refine aw_aload_n C dL_drafts_108 rfl rfl rfl ?_
      refine aw_bipush (v := nI 16) C dL_drafts_109 rfl rfl ?_
      refine aw_iload C dL_drafts_111 rfl rfl ?_
      refine an_add C dL_drafts_113 rfl ?_
      refine an_iald (k := 0) (i := 16 + g) (N := 40) (v := (L.1 0 (16 + g))) C hM rfl rfl (by omega) rfl dL_drafts_114 rfl ?_
      refine aw_aload_n C dL_drafts_115 rfl rfl rfl ?_
      refine aw_bipush (v := nI 16) C dL_drafts_116 rfl rfl ?_
      refine aw_iload C dL_drafts_118 rfl rfl ?_
      refine an_add C dL_drafts_120 rfl ?_
      refine an_iald (k := 0) (i := 16 + t) (N := 40) (v := (L.1 0 (16 + t))) C hM rfl rfl (by omega) rfl dL_drafts_121 rfl ?_
      refine an_add C dL_drafts_122 rfl ?_
      refine an_if_ne (a := (L.1 0 (16 + g)) + (L.1 0 (16 + t))) (tgt := 130) C dL_drafts_123 (by have := hB 0 (16 + g); have := hB 0 (16 + t); omega) (by decide) rfl (fun c123 => ?_) (fun c123 => ?_)
      · refine aw_iconst (v := nI 0) C dL_drafts_130 rfl rfl ?_
        refine aw_istore (ls' := [(13, _), (0, _), (1, _), (2, _), (3, _), (4, _), (5, _), (6, _), (7, _), (8, _), (9, _), (10, _), (11, _), (12, _)]) C dL_drafts_131 (by decide) rfl rfl ?_
        refine aw_pick (ls' := [(0, _), (1, _), (2, _), (3, _), (4, _), (5, _), (6, _), (7, _), (8, _), (9, _), (10, _), (11, _), (12, _), (13, _)]) [1, 2, 3, 4, 5, 6, 7, 8, 9, 10, 11, 12, 13, 0] rfl ?_
        refine aw_iload C dL_drafts_133 rfl rfl ?_
        refine an_if_eq (a := 0) (tgt := 143) C dL_drafts_135 (by decide) (by decide) rfl (fun _ => ?_) (fun q => absurd (by decide) q)
        refine aw_sipush (v := -1003) C dL_drafts_143 rfl rfl ?_
        refine aw_istore (ls' := [(14, _), (0, _), (1, _), (2, _), (3, _), (4, _), (5, _), (6, _), (7, _), (8, _), (9, _), (10, _), (11, _), (12, _), (13, _)]) C dL_drafts_146 (by decide) rfl rfl ?_
        refine aw_pick (ls' := [(0, _), (1, _), (2, _), (3, _), (4, _), (5, _), (6, _), (7, _), (8, _), (9, _), (10, _), (11, _), (12, _), (13, _), (14, _)]) [1, 2, 3, 4, 5, 6, 7, 8, 9, 10, 11, 12, 13, 14, 0] rfl ?_
        refine aw_iload C dL_drafts_148 rfl rfl ?_
        refine aw_iconst (v := nI 3) C dL_drafts_150 rfl rfl ?_
        refine an_icmp_ge (a := 3) (b := 3) (tgt := 186) C dL_drafts_151 (by decide) (by decide) (by decide) rfl (fun _ => ?_) (fun q => absurd q (by decide))
        refine aw_iload C dL_drafts_186 rfl rfl ?_
        refine aw_iconst (v := nI 3) C dL_drafts_188 rfl rfl ?_
        refine an_icmp_ne (a := 3) (b := 3) (tgt := 257) C dL_drafts_189 (by decide) (by decide) (by decide) rfl (fun q => absurd (by decide) q) (fun _ => ?_)
        refine aw_iload_n C dL_drafts_192 rfl rfl rfl ?_
        refine aw_bipush (v := nI 9) C dL_drafts_193 rfl rfl ?_
        refine aw_ishr C dL_drafts_195 rfl ?_
        refine aw_iconst (v := nI 3) C dL_drafts_196 rfl rfl ?_
        refine cw_callSp C k_L_98 (N_low hl hst (v := (zz >>> (nI 9 &&& 31))) (N := 3) (by decide) (by decide)) ⟨by decide, by decide⟩ rfl rfl (Nat.le_of_ble_eq_true rfl) (Nat.le_of_ble_eq_true rfl) (Nat.le_of_ble_eq_true rfl) dL_drafts_197 rfl ?_
        obtain ⟨t3, et3⟩ : ∃ q, q = n_low (zz >>> (nI 9 &&& 31)) 3 := ⟨_, rfl⟩
        rw [← et3]
        have ht3 : t3 < 3 := by rw [et3]; exact n_low_lt (by decide)
        refine aw_iconst (v := nI 1) C dL_drafts_200 rfl rfl ?_
        refine aw_isub C dL_drafts_201 rfl ?_
        rw [show nI t3 - nI 1 = nI t3 - 1 from rfl]
        refine aw_istore (ls' := [(10, _), (0, _), (1, _), (2, _), (3, _), (4, _), (5, _), (6, _), (7, _), (8, _), (9, _), (11, _), (12, _), (13, _), (14, _)]) C dL_drafts_202 (by decide) rfl rfl ?_
        refine aw_pick (ls' := [(0, _), (1, _), (2, _), (3, _), (4, _), (5, _), (6, _), (7, _), (8, _), (9, _), (10, _), (11, _), (12, _), (13, _), (14, _)]) [1, 2, 3, 4, 5, 6, 7, 8, 9, 10, 0, 11, 12, 13, 14] rfl ?_
        refine aw_iconst (v := nI 1) C dL_drafts_204 rfl rfl ?_
        refine aw_iload_n C dL_drafts_205 rfl rfl rfl ?_
        refine aw_bipush (v := nI 11) C dL_drafts_206 rfl rfl ?_
        refine aw_ishr C dL_drafts_208 rfl ?_
        refine aw_bipush (v := nI 60) C dL_drafts_209 rfl rfl ?_
        refine cw_callSp C k_L_98 (N_low hl hst (v := (zz >>> (nI 11 &&& 31))) (N := 60) (by decide) (by decide)) ⟨by decide, by decide⟩ rfl rfl (Nat.le_of_ble_eq_true rfl) (Nat.le_of_ble_eq_true rfl) (Nat.le_of_ble_eq_true rfl) dL_drafts_211 rfl ?_
        obtain ⟨q60, eq60⟩ : ∃ q, q = n_low (zz >>> (nI 11 &&& 31)) 60 := ⟨_, rfl⟩
        rw [← eq60]
        have hq60 : q60 < 60 := by rw [eq60]; exact n_low_lt (by decide)
        refine an_add C dL_drafts_214 rfl ?_
        refine aw_istore (ls' := [(11, _), (0, _), (1, _), (2, _), (3, _), (4, _), (5, _), (6, _), (7, _), (8, _), (9, _), (10, _), (12, _), (13, _), (14, _)]) C dL_drafts_215 (by decide) rfl rfl ?_
        refine aw_pick (ls' := [(0, _), (1, _), (2, _), (3, _), (4, _), (5, _), (6, _), (7, _), (8, _), (9, _), (10, _), (11, _), (12, _), (13, _), (14, _)]) [1, 2, 3, 4, 5, 6, 7, 8, 9, 10, 11, 0, 12, 13, 14] rfl ?_
        refine aw_iload_n C dL_drafts_217 rfl rfl rfl ?_
        refine aw_iconst (v := nI 4) C dL_drafts_218 rfl rfl ?_
        refine aw_ishr C dL_drafts_219 rfl ?_
        refine aw_iconst (v := nI 2) C dL_drafts_220 rfl rfl ?_
        refine cw_callSp C k_L_98 (N_low hl hst (v := (zz >>> (nI 4 &&& 31))) (N := 2) (by decide) (by decide)) ⟨by decide, by decide⟩ rfl rfl (Nat.le_of_ble_eq_true rfl) (Nat.le_of_ble_eq_true rfl) (Nat.le_of_ble_eq_true rfl) dL_drafts_221 rfl ?_
        obtain ⟨q2, eq2⟩ : ∃ q, q = n_low (zz >>> (nI 4 &&& 31)) 2 := ⟨_, rfl⟩
        rw [← eq2]
        have hq2 : q2 < 2 := by rw [eq2]; exact n_low_lt (by decide)
        refine aw_istore (ls' := [(12, _), (0, _), (1, _), (2, _), (3, _), (4, _), (5, _), (6, _), (7, _), (8, _), (9, _), (10, _), (11, _), (13, _), (14, _)]) C dL_drafts_224 (by decide) rfl rfl ?_
        refine aw_pick (ls' := [(0, _), (1, _), (2, _), (3, _), (4, _), (5, _), (6, _), (7, _), (8, _), (9, _), (10, _), (11, _), (12, _), (13, _), (14, _)]) [1, 2, 3, 4, 5, 6, 7, 8, 9, 10, 11, 12, 0, 13, 14] rfl ?_
        refine aw_aload_n C dL_drafts_226 rfl rfl rfl ?_
        refine aw_iconst (v := nI 1) C dL_drafts_227 rfl rfl ?_
        refine aw_iload C dL_drafts_228 rfl rfl ?_
        refine aw_iload C dL_drafts_230 rfl rfl ?_
        refine aw_iload C dL_drafts_232 rfl rfl ?_
        refine aw_iload C dL_drafts_234 rfl rfl ?_
        refine aw_iload C dL_drafts_236 rfl rfl ?_
        refine aw_iconst (v := nI 0) C dL_drafts_238 rfl rfl ?_
        have hdr := r_power hZ hR hlt (by omega) (g := g) (t := t) (th := t3) (dd := 1 + q60) (on := q2) hg ht c103 ht3 (by omega) (by omega) hq2
        refine aw_callSW C kL_calls (H_power G hS hI (a := nI (g)) (b := nI (t)) (c := nI (t3) - 1) (d := nI (1 + q60)) (e := nI (q2)) (f := nI (0)) hdr.1) ⟨by decide, by decide⟩ rfl rfl (Nat.le_of_ble_eq_true rfl) (Nat.le_of_ble_eq_true rfl) (Nat.le_of_ble_eq_true rfl) dL_drafts_239 rfl (fun _ _ q => ax_no q) (fun v1 sg hq => ?_)
        obtain ⟨rfl, hC⟩ := hq
        have hM := hM.keepC hS hC.fr
        obtain ⟨ad', Y', hS1, e0, -, -, -⟩ := hC
        have hF : ZFr al sg sg := ZFr.rf
        have hMc := hM
        refine aw_iload C dL_drafts_242 rfl rfl ?_
        refine aw_icmp_ne (tgt := 251) C dL_drafts_244 (by decide) rfl (fun q => absurd (hdr.2.2 c123).1 q) (fun _ => ?_)
        refine aw_iconst (v := nI 1) C dL_drafts_247 rfl rfl ?_
        refine aw_goto (tgt := 252) C dL_drafts_248 (by decide) ?_
        refine aw_istore (ls' := [(15, _), (0, _), (1, _), (2, _), (3, _), (4, _), (5, _), (6, _), (7, _), (8, _), (9, _), (10, _), (11, _), (12, _), (13, _), (14, _)]) C dL_drafts_252 (by decide) rfl rfl ?_
        refine aw_pick (ls' := [(0, _), (1, _), (2, _), (3, _), (4, _), (5, _), (6, _), (7, _), (8, _), (9, _), (10, _), (11, _), (12, _), (13, _), (14, _), (15, _)]) [1, 2, 3, 4, 5, 6, 7, 8, 9, 10, 11, 12, 13, 14, 15, 0] rfl ?_
        refine aw_goto (tgt := 284) C dL_drafts_254 (by decide) ?_
        refine aw_iload C dL_drafts_284 rfl rfl ?_
        refine an_if_eq (a := 0) (tgt := 369) C dL_drafts_286 (by decide) (by decide) rfl (fun _ => ?_) (fun q => absurd (by decide) q)
        refine aw_iload C dL_drafts_369 rfl rfl ?_
        have hu := (hdr.2.2 c123).2
        exact aw_iret C rfl (Nat.le_of_ble_eq_true rfl) (Nat.le_of_ble_eq_true rfl) ⟨rfl, ad', u, Y', L, (by rw [hu] at hS1; exact hS1), e0, hM, hZ.next, hR, hK, by omega, by omega⟩ dL_drafts_371
      · refine aw_iconst (v := nI 1) C dL_drafts_126 rfl rfl ?_
        refine aw_goto (tgt := 131) C dL_drafts_127 (by decide) ?_
        refine aw_istore (ls' := [(13, _), (0, _), (1, _), (2, _), (3, _), (4, _), (5, _), (6, _), (7, _), (8, _), (9, _), (10, _), (11, _), (12, _)]) C dL_drafts_131 (by decide) rfl rfl ?_
        refine aw_pick (ls' := [(0, _), (1, _), (2, _), (3, _), (4, _), (5, _), (6, _), (7, _), (8, _), (9, _), (10, _), (11, _), (12, _), (13, _)]) [1, 2, 3, 4, 5, 6, 7, 8, 9, 10, 11, 12, 13, 0] rfl ?_
        refine aw_iload C dL_drafts_133 rfl rfl ?_
        refine an_if_eq (a := 1) (tgt := 143) C dL_drafts_135 (by decide) (by decide) rfl (fun q => absurd q (by decide)) (fun _ => ?_)
        refine aw_iload C dL_drafts_138 rfl rfl ?_
        refine aw_goto (tgt := 146) C dL_drafts_140 (by decide) ?_
        refine aw_istore (ls' := [(14, _), (0, _), (1, _), (2, _), (3, _), (4, _), (5, _), (6, _), (7, _), (8, _), (9, _), (10, _), (11, _), (12, _), (13, _)]) C dL_drafts_146 (by decide) rfl rfl ?_
        refine aw_pick (ls' := [(0, _), (1, _), (2, _), (3, _), (4, _), (5, _), (6, _), (7, _), (8, _), (9, _), (10, _), (11, _), (12, _), (13, _), (14, _)]) [1, 2, 3, 4, 5, 6, 7, 8, 9, 10, 11, 12, 13, 14, 0] rfl ?_
        refine aw_iload C dL_drafts_148 rfl rfl ?_
        refine aw_iconst (v := nI 3) C dL_drafts_150 rfl rfl ?_
        refine an_icmp_ge (a := 3) (b := 3) (tgt := 186) C dL_drafts_151 (by decide) (by decide) (by decide) rfl (fun _ => ?_) (fun q => absurd q (by decide))
        refine aw_iload C dL_drafts_186 rfl rfl ?_
        refine aw_iconst (v := nI 3) C dL_drafts_188 rfl rfl ?_
        refine an_icmp_ne (a := 3) (b := 3) (tgt := 257) C dL_drafts_189 (by decide) (by decide) (by decide) rfl (fun q => absurd (by decide) q) (fun _ => ?_)
        refine aw_iload_n C dL_drafts_192 rfl rfl rfl ?_
        refine aw_bipush (v := nI 9) C dL_drafts_193 rfl rfl ?_
        refine aw_ishr C dL_drafts_195 rfl ?_
        refine aw_iconst (v := nI 3) C dL_drafts_196 rfl rfl ?_
        refine cw_callSp C k_L_98 (N_low hl hst (v := (zz >>> (nI 9 &&& 31))) (N := 3) (by decide) (by decide)) ⟨by decide, by decide⟩ rfl rfl (Nat.le_of_ble_eq_true rfl) (Nat.le_of_ble_eq_true rfl) (Nat.le_of_ble_eq_true rfl) dL_drafts_197 rfl ?_
        obtain ⟨t3, et3⟩ : ∃ q, q = n_low (zz >>> (nI 9 &&& 31)) 3 := ⟨_, rfl⟩
        rw [← et3]
        have ht3 : t3 < 3 := by rw [et3]; exact n_low_lt (by decide)
        refine aw_iconst (v := nI 1) C dL_drafts_200 rfl rfl ?_
        refine aw_isub C dL_drafts_201 rfl ?_
        rw [show nI t3 - nI 1 = nI t3 - 1 from rfl]
        refine aw_istore (ls' := [(10, _), (0, _), (1, _), (2, _), (3, _), (4, _), (5, _), (6, _), (7, _), (8, _), (9, _), (11, _), (12, _), (13, _), (14, _)]) C dL_drafts_202 (by decide) rfl rfl ?_
        refine aw_pick (ls' := [(0, _), (1, _), (2, _), (3, _), (4, _), (5, _), (6, _), (7, _), (8, _), (9, _), (10, _), (11, _), (12, _), (13, _), (14, _)]) [1, 2, 3, 4, 5, 6, 7, 8, 9, 10, 0, 11, 12, 13, 14] rfl ?_
        refine aw_iconst (v := nI 1) C dL_drafts_204 rfl rfl ?_
        refine aw_iload_n C dL_drafts_205 rfl rfl rfl ?_
        refine aw_bipush (v := nI 11) C dL_drafts_206 rfl rfl ?_
        refine aw_ishr C dL_drafts_208 rfl ?_
        refine aw_bipush (v := nI 60) C dL_drafts_209 rfl rfl ?_
        refine cw_callSp C k_L_98 (N_low hl hst (v := (zz >>> (nI 11 &&& 31))) (N := 60) (by decide) (by decide)) ⟨by decide, by decide⟩ rfl rfl (Nat.le_of_ble_eq_true rfl) (Nat.le_of_ble_eq_true rfl) (Nat.le_of_ble_eq_true rfl) dL_drafts_211 rfl ?_
        obtain ⟨q60, eq60⟩ : ∃ q, q = n_low (zz >>> (nI 11 &&& 31)) 60 := ⟨_, rfl⟩
        rw [← eq60]
        have hq60 : q60 < 60 := by rw [eq60]; exact n_low_lt (by decide)
        refine an_add C dL_drafts_214 rfl ?_
        refine aw_istore (ls' := [(11, _), (0, _), (1, _), (2, _), (3, _), (4, _), (5, _), (6, _), (7, _), (8, _), (9, _), (10, _), (12, _), (13, _), (14, _)]) C dL_drafts_215 (by decide) rfl rfl ?_
        refine aw_pick (ls' := [(0, _), (1, _), (2, _), (3, _), (4, _), (5, _), (6, _), (7, _), (8, _), (9, _), (10, _), (11, _), (12, _), (13, _), (14, _)]) [1, 2, 3, 4, 5, 6, 7, 8, 9, 10, 11, 0, 12, 13, 14] rfl ?_
        refine aw_iload_n C dL_drafts_217 rfl rfl rfl ?_
        refine aw_iconst (v := nI 4) C dL_drafts_218 rfl rfl ?_
        refine aw_ishr C dL_drafts_219 rfl ?_
        refine aw_iconst (v := nI 2) C dL_drafts_220 rfl rfl ?_
        refine cw_callSp C k_L_98 (N_low hl hst (v := (zz >>> (nI 4 &&& 31))) (N := 2) (by decide) (by decide)) ⟨by decide, by decide⟩ rfl rfl (Nat.le_of_ble_eq_true rfl) (Nat.le_of_ble_eq_true rfl) (Nat.le_of_ble_eq_true rfl) dL_drafts_221 rfl ?_
        obtain ⟨q2, eq2⟩ : ∃ q, q = n_low (zz >>> (nI 4 &&& 31)) 2 := ⟨_, rfl⟩
        rw [← eq2]
        have hq2 : q2 < 2 := by rw [eq2]; exact n_low_lt (by decide)
        refine aw_istore (ls' := [(12, _), (0, _), (1, _), (2, _), (3, _), (4, _), (5, _), (6, _), (7, _), (8, _), (9, _), (10, _), (11, _), (13, _), (14, _)]) C dL_drafts_224 (by decide) rfl rfl ?_
        refine aw_pick (ls' := [(0, _), (1, _), (2, _), (3, _), (4, _), (5, _), (6, _), (7, _), (8, _), (9, _), (10, _), (11, _), (12, _), (13, _), (14, _)]) [1, 2, 3, 4, 5, 6, 7, 8, 9, 10, 11, 12, 0, 13, 14] rfl ?_
        refine aw_aload_n C dL_drafts_226 rfl rfl rfl ?_
        refine aw_iconst (v := nI 1) C dL_drafts_227 rfl rfl ?_
        refine aw_iload C dL_drafts_228 rfl rfl ?_
        refine aw_iload C dL_drafts_230 rfl rfl ?_
        refine aw_iload C dL_drafts_232 rfl rfl ?_
        refine aw_iload C dL_drafts_234 rfl rfl ?_
        refine aw_iload C dL_drafts_236 rfl rfl ?_
        refine aw_iconst (v := nI 0) C dL_drafts_238 rfl rfl ?_
        have hdr := r_power hZ hR hlt (by omega) (g := g) (t := t) (th := t3) (dd := 1 + q60) (on := q2) hg ht c103 ht3 (by omega) (by omega) hq2
        refine aw_callSW C kL_calls (H_power G hS hI (a := nI (g)) (b := nI (t)) (c := nI (t3) - 1) (d := nI (1 + q60)) (e := nI (q2)) (f := nI (0)) hdr.1) ⟨by decide, by decide⟩ rfl rfl (Nat.le_of_ble_eq_true rfl) (Nat.le_of_ble_eq_true rfl) (Nat.le_of_ble_eq_true rfl) dL_drafts_239 rfl (fun _ _ q => ax_no q) (fun v1 sg hq => ?_)
        obtain ⟨rfl, hC⟩ := hq
        have hM := hM.keepC hS hC.fr
        obtain ⟨ad', Y', hS1, e0, -, -, -⟩ := hC
        have hF : ZFr al sg sg := ZFr.rf
        have hMc := hM
        refine aw_iload C dL_drafts_242 rfl rfl ?_
        refine aw_icmp_ne (tgt := 251) C dL_drafts_244 (by decide) rfl (fun q => absurd (hdr.2.1 c123).1 q) (fun _ => ?_)
        refine aw_iconst (v := nI 1) C dL_drafts_247 rfl rfl ?_
        refine aw_goto (tgt := 252) C dL_drafts_248 (by decide) ?_
        refine aw_istore (ls' := [(15, _), (0, _), (1, _), (2, _), (3, _), (4, _), (5, _), (6, _), (7, _), (8, _), (9, _), (10, _), (11, _), (12, _), (13, _), (14, _)]) C dL_drafts_252 (by decide) rfl rfl ?_
        refine aw_pick (ls' := [(0, _), (1, _), (2, _), (3, _), (4, _), (5, _), (6, _), (7, _), (8, _), (9, _), (10, _), (11, _), (12, _), (13, _), (14, _), (15, _)]) [1, 2, 3, 4, 5, 6, 7, 8, 9, 10, 11, 12, 13, 14, 15, 0] rfl ?_
        refine aw_goto (tgt := 284) C dL_drafts_254 (by decide) ?_
        refine aw_iload C dL_drafts_284 rfl rfl ?_
        refine an_if_eq (a := 1) (tgt := 369) C dL_drafts_286 (by decide) (by decide) rfl (fun q => absurd q (by decide)) (fun _ => ?_)
        refine aw_aload_n C dL_drafts_289 rfl rfl rfl ?_
        refine aw_iload C dL_drafts_290 rfl rfl ?_
        refine aw_iload C dL_drafts_292 rfl rfl ?_
        refine aw_bipush (v := nI 8) C dL_drafts_294 rfl rfl ?_
        refine aw_iload C dL_drafts_296 rfl rfl ?_
        refine an_mul C dL_drafts_298 rfl ?_
        refine an_add C dL_drafts_299 rfl ?_
        refine aw_bipush (v := nI 64) C dL_drafts_300 rfl rfl ?_
        refine aw_iload C dL_drafts_302 rfl rfl ?_
        refine an_mul C dL_drafts_304 rfl ?_
        refine an_add C dL_drafts_305 rfl ?_
        refine aw_sipush (v := nI 512) C dL_drafts_306 rfl rfl ?_
        refine aw_iload C dL_drafts_309 rfl rfl ?_
        refine aw_iconst (v := nI 4) C dL_drafts_311 rfl rfl ?_
        refine an_icmp_ne (a := 3) (b := 4) (tgt := 319) C dL_drafts_312 (by decide) (by decide) (by decide) rfl (fun _ => ?_) (fun q => absurd q (by decide))
        refine aw_iload C dL_drafts_319 rfl rfl ?_
        refine aw_iconst (v := nI 1) C dL_drafts_321 rfl rfl ?_
        refine aw_iadd C dL_drafts_322 rfl ?_
        rw [nI_k1]
        refine an_mul C dL_drafts_323 rfl ?_
        refine an_add C dL_drafts_324 rfl ?_
        refine an_iast (k := 1) (i := (L.1 10 1)) (N := 24) (v := ((3 + (8 * g)) + (64 * t)) + (512 * t3)) C hM hF rfl rfl (by have := hB 10 1; omega) dL_drafts_325 rfl (fun sg hM hF => ?_)
        refine aw_aload C dL_drafts_326 rfl rfl ?_
        refine aw_iload C dL_drafts_328 rfl rfl ?_
        refine aw_iload C dL_drafts_330 rfl rfl ?_
        refine aw_iconst (v := nI 3) C dL_drafts_332 rfl rfl ?_
        refine an_icmp_ne (a := 3) (b := 3) (tgt := 351) C dL_drafts_333 (by decide) (by decide) (by decide) rfl (fun q => absurd (by decide) q) (fun _ => ?_)
        refine aw_iconst (v := nI 2) C dL_drafts_336 rfl rfl ?_
        refine aw_aload C dL_drafts_337 rfl rfl ?_
        refine aw_iconst (v := nI 0) C dL_drafts_339 rfl rfl ?_
        refine an_iald (k := 10) (i := 0) (N := 5) (v := (L.1 10 0)) C hM rfl rfl (by decide) (by rw [zI_k (by decide)]) dL_drafts_340 rfl ?_
        refine aw_iload C dL_drafts_341 rfl rfl ?_
        refine an_add C dL_drafts_343 rfl ?_
        refine an_mul C dL_drafts_344 rfl ?_
        refine aw_iload C dL_drafts_345 rfl rfl ?_
        refine an_add C dL_drafts_347 rfl ?_
        refine aw_goto (tgt := 360) C dL_drafts_348 (by decide) ?_
        refine an_iast (k := 2) (i := (L.1 10 1)) (N := 24) (v := (2 * ((L.1 10 0) + (1 + q60))) + q2) C hM hF rfl rfl (by have := hB 10 1; omega) dL_drafts_360 rfl (fun sg hM hF => ?_)
        refine aw_aload C dL_drafts_361 rfl rfl ?_
        refine aw_iconst (v := nI 1) C dL_drafts_363 rfl rfl ?_
        refine aw_dup2 C dL_drafts_364 rfl rfl rfl ?_
        refine an_iald (k := 10) (i := 1) (N := 5) (v := (L.1 10 1)) C hM rfl rfl (by decide) (by rw [zI_k (by decide)]; exact (by rw [zI_k (by decide)])) dL_drafts_365 rfl ?_
        refine aw_iconst (v := nI 1) C dL_drafts_366 rfl rfl ?_
        refine an_add C dL_drafts_367 rfl ?_
        refine an_iast (k := 10) (i := 1) (N := 5) (v := (L.1 10 1) + 1) C hM hF rfl rfl (by decide) dL_drafts_368 rfl (fun sg hM hF => ?_)
        refine aw_iload C dL_drafts_369 rfl rfl ?_
        exact aw_iret C rfl (Nat.le_of_ble_eq_true rfl) (Nat.le_of_ble_eq_true rfl) ⟨rfl, ad', _, Y', _, (hS1.keepZ hMc hF), e0, hM, hZ.power.next, (hdr.2.1 c123).2, hK.power, (by rw [zI_n (by decide), zI_k (by decide), zI_k (by decide)]; omega), (by rw [zI_n (by decide), zI_k (by decide), zI_k (by decide)]; omega)⟩ dL_drafts_371
    · refine aw_iconst (v := nI 1) C dL_drafts_106 rfl rfl ?_
      exact aw_iret C rfl (Nat.le_of_ble_eq_true rfl) (Nat.le_of_ble_eq_true rfl) ⟨rfl, ad, _, Y, _, hS, rfl, hM, hZ.next, hR, hK, by omega, by omega⟩ dL_drafts_107
  · refine aw_iconst (v := nI 3) C dL_drafts_83 rfl rfl ?_
    refine aw_goto (tgt := 97) C dL_drafts_84 (by decide) ?_
    refine aw_istore (ls' := [(12, _), (0, _), (1, _), (2, _), (3, _), (4, _), (5, _), (6, _), (7, _), (8, _), (9, _), (10, _), (11, _)]) C dL_drafts_97 (by decide) rfl rfl ?_
    refine aw_pick (ls' := [(0, _), (1, _), (2, _), (3, _), (4, _), (5, _), (6, _), (7, _), (8, _), (9, _), (10, _), (11, _), (12, _)]) [1, 2, 3, 4, 5, 6, 7, 8, 9, 10, 11, 12, 0] rfl ?_
    refine aw_iload C dL_drafts_99 rfl rfl ?_
    refine aw_iload C dL_drafts_101 rfl rfl ?_
    refine an_icmp_ne (a := g) (b := t) (tgt := 108) C dL_drafts_103 (by omega) (by omega) (by decide) rfl (fun c103 => ?_) (fun c103 => ?_)
    · refine aw_aload_n C dL_drafts_108 rfl rfl rfl ?_
      refine aw_bipush (v := nI 16) C dL_drafts_109 rfl rfl ?_
      refine aw_iload C dL_drafts_111 rfl rfl ?_
      refine an_add C dL_drafts_113 rfl ?_
      refine an_iald (k := 0) (i := 16 + g) (N := 40) (v := (L.1 0 (16 + g))) C hM rfl rfl (by omega) rfl dL_drafts_114 rfl ?_
      refine aw_aload_n C dL_drafts_115 rfl rfl rfl ?_
      refine aw_bipush (v := nI 16) C dL_drafts_116 rfl rfl ?_
      refine aw_iload C dL_drafts_118 rfl rfl ?_
      refine an_add C dL_drafts_120 rfl ?_
      refine an_iald (k := 0) (i := 16 + t) (N := 40) (v := (L.1 0 (16 + t))) C hM rfl rfl (by omega) rfl dL_drafts_121 rfl ?_
      refine an_add C dL_drafts_122 rfl ?_
      refine an_if_ne (a := (L.1 0 (16 + g)) + (L.1 0 (16 + t))) (tgt := 130) C dL_drafts_123 (by have := hB 0 (16 + g); have := hB 0 (16 + t); omega) (by decide) rfl (fun c123 => ?_) (fun c123 => ?_)
      · refine aw_iconst (v := nI 0) C dL_drafts_130 rfl rfl ?_
        refine aw_istore (ls' := [(13, _), (0, _), (1, _), (2, _), (3, _), (4, _), (5, _), (6, _), (7, _), (8, _), (9, _), (10, _), (11, _), (12, _)]) C dL_drafts_131 (by decide) rfl rfl ?_
        refine aw_pick (ls' := [(0, _), (1, _), (2, _), (3, _), (4, _), (5, _), (6, _), (7, _), (8, _), (9, _), (10, _), (11, _), (12, _), (13, _)]) [1, 2, 3, 4, 5, 6, 7, 8, 9, 10, 11, 12, 13, 0] rfl ?_
        refine aw_iload C dL_drafts_133 rfl rfl ?_
        refine an_if_eq (a := 0) (tgt := 143) C dL_drafts_135 (by decide) (by decide) rfl (fun _ => ?_) (fun q => absurd (by decide) q)
        refine aw_sipush (v := -1003) C dL_drafts_143 rfl rfl ?_
        refine aw_istore (ls' := [(14, _), (0, _), (1, _), (2, _), (3, _), (4, _), (5, _), (6, _), (7, _), (8, _), (9, _), (10, _), (11, _), (12, _), (13, _)]) C dL_drafts_146 (by decide) rfl rfl ?_
        refine aw_pick (ls' := [(0, _), (1, _), (2, _), (3, _), (4, _), (5, _), (6, _), (7, _), (8, _), (9, _), (10, _), (11, _), (12, _), (13, _), (14, _)]) [1, 2, 3, 4, 5, 6, 7, 8, 9, 10, 11, 12, 13, 14, 0] rfl ?_
        refine aw_iload C dL_drafts_148 rfl rfl ?_
        refine aw_iconst (v := nI 3) C dL_drafts_150 rfl rfl ?_
        refine an_icmp_ge (a := 3) (b := 3) (tgt := 186) C dL_drafts_151 (by decide) (by decide) (by decide) rfl (fun _ => ?_) (fun q => absurd q (by decide))
        refine aw_iload C dL_drafts_186 rfl rfl ?_
        refine aw_iconst (v := nI 3) C dL_drafts_188 rfl rfl ?_
        refine an_icmp_ne (a := 3) (b := 3) (tgt := 257) C dL_drafts_189 (by decide) (by decide) (by decide) rfl (fun q => absurd (by decide) q) (fun _ => ?_)
        refine aw_iload_n C dL_drafts_192 rfl rfl rfl ?_
        refine aw_bipush (v := nI 9) C dL_drafts_193 rfl rfl ?_
        refine aw_ishr C dL_drafts_195 rfl ?_
        refine aw_iconst (v := nI 3) C dL_drafts_196 rfl rfl ?_
        refine cw_callSp C k_L_98 (N_low hl hst (v := (zz >>> (nI 9 &&& 31))) (N := 3) (by decide) (by decide)) ⟨by decide, by decide⟩ rfl rfl (Nat.le_of_ble_eq_true rfl) (Nat.le_of_ble_eq_true rfl) (Nat.le_of_ble_eq_true rfl) dL_drafts_197 rfl ?_
        obtain ⟨t3, et3⟩ : ∃ q, q = n_low (zz >>> (nI 9 &&& 31)) 3 := ⟨_, rfl⟩
        rw [← et3]
        have ht3 : t3 < 3 := by rw [et3]; exact n_low_lt (by decide)
        refine aw_iconst (v := nI 1) C dL_drafts_200 rfl rfl ?_
        refine aw_isub C dL_drafts_201 rfl ?_
        rw [show nI t3 - nI 1 = nI t3 - 1 from rfl]
        refine aw_istore (ls' := [(10, _), (0, _), (1, _), (2, _), (3, _), (4, _), (5, _), (6, _), (7, _), (8, _), (9, _), (11, _), (12, _), (13, _), (14, _)]) C dL_drafts_202 (by decide) rfl rfl ?_
        refine aw_pick (ls' := [(0, _), (1, _), (2, _), (3, _), (4, _), (5, _), (6, _), (7, _), (8, _), (9, _), (10, _), (11, _), (12, _), (13, _), (14, _)]) [1, 2, 3, 4, 5, 6, 7, 8, 9, 10, 0, 11, 12, 13, 14] rfl ?_
        refine aw_iconst (v := nI 1) C dL_drafts_204 rfl rfl ?_
        refine aw_iload_n C dL_drafts_205 rfl rfl rfl ?_
        refine aw_bipush (v := nI 11) C dL_drafts_206 rfl rfl ?_
        refine aw_ishr C dL_drafts_208 rfl ?_
        refine aw_bipush (v := nI 60) C dL_drafts_209 rfl rfl ?_
        refine cw_callSp C k_L_98 (N_low hl hst (v := (zz >>> (nI 11 &&& 31))) (N := 60) (by decide) (by decide)) ⟨by decide, by decide⟩ rfl rfl (Nat.le_of_ble_eq_true rfl) (Nat.le_of_ble_eq_true rfl) (Nat.le_of_ble_eq_true rfl) dL_drafts_211 rfl ?_
        obtain ⟨q60, eq60⟩ : ∃ q, q = n_low (zz >>> (nI 11 &&& 31)) 60 := ⟨_, rfl⟩
        rw [← eq60]
        have hq60 : q60 < 60 := by rw [eq60]; exact n_low_lt (by decide)
        refine an_add C dL_drafts_214 rfl ?_
        refine aw_istore (ls' := [(11, _), (0, _), (1, _), (2, _), (3, _), (4, _), (5, _), (6, _), (7, _), (8, _), (9, _), (10, _), (12, _), (13, _), (14, _)]) C dL_drafts_215 (by decide) rfl rfl ?_
        refine aw_pick (ls' := [(0, _), (1, _), (2, _), (3, _), (4, _), (5, _), (6, _), (7, _), (8, _), (9, _), (10, _), (11, _), (12, _), (13, _), (14, _)]) [1, 2, 3, 4, 5, 6, 7, 8, 9, 10, 11, 0, 12, 13, 14] rfl ?_
        refine aw_iload_n C dL_drafts_217 rfl rfl rfl ?_
        refine aw_iconst (v := nI 4) C dL_drafts_218 rfl rfl ?_
        refine aw_ishr C dL_drafts_219 rfl ?_
        refine aw_iconst (v := nI 2) C dL_drafts_220 rfl rfl ?_
        refine cw_callSp C k_L_98 (N_low hl hst (v := (zz >>> (nI 4 &&& 31))) (N := 2) (by decide) (by decide)) ⟨by decide, by decide⟩ rfl rfl (Nat.le_of_ble_eq_true rfl) (Nat.le_of_ble_eq_true rfl) (Nat.le_of_ble_eq_true rfl) dL_drafts_221 rfl ?_
        obtain ⟨q2, eq2⟩ : ∃ q, q = n_low (zz >>> (nI 4 &&& 31)) 2 := ⟨_, rfl⟩
        rw [← eq2]
        have hq2 : q2 < 2 := by rw [eq2]; exact n_low_lt (by decide)
        refine aw_istore (ls' := [(12, _), (0, _), (1, _), (2, _), (3, _), (4, _), (5, _), (6, _), (7, _), (8, _), (9, _), (10, _), (11, _), (13, _), (14, _)]) C dL_drafts_224 (by decide) rfl rfl ?_
        refine aw_pick (ls' := [(0, _), (1, _), (2, _), (3, _), (4, _), (5, _), (6, _), (7, _), (8, _), (9, _), (10, _), (11, _), (12, _), (13, _), (14, _)]) [1, 2, 3, 4, 5, 6, 7, 8, 9, 10, 11, 12, 0, 13, 14] rfl ?_
        refine aw_aload_n C dL_drafts_226 rfl rfl rfl ?_
        refine aw_iconst (v := nI 1) C dL_drafts_227 rfl rfl ?_
        refine aw_iload C dL_drafts_228 rfl rfl ?_
        refine aw_iload C dL_drafts_230 rfl rfl ?_
        refine aw_iload C dL_drafts_232 rfl rfl ?_
        refine aw_iload C dL_drafts_234 rfl rfl ?_
        refine aw_iload C dL_drafts_236 rfl rfl ?_
        refine aw_iconst (v := nI 0) C dL_drafts_238 rfl rfl ?_
        have hdr := r_power hZ hR hlt (by omega) (g := g) (t := t) (th := t3) (dd := 1 + q60) (on := q2) hg ht c103 ht3 (by omega) (by omega) hq2
        refine aw_callSW C kL_calls (H_power G hS hI (a := nI (g)) (b := nI (t)) (c := nI (t3) - 1) (d := nI (1 + q60)) (e := nI (q2)) (f := nI (0)) hdr.1) ⟨by decide, by decide⟩ rfl rfl (Nat.le_of_ble_eq_true rfl) (Nat.le_of_ble_eq_true rfl) (Nat.le_of_ble_eq_true rfl) dL_drafts_239 rfl (fun _ _ q => ax_no q) (fun v1 sg hq => ?_)
        obtain ⟨rfl, hC⟩ := hq
        have hM := hM.keepC hS hC.fr
        obtain ⟨ad', Y', hS1, e0, -, -, -⟩ := hC
        have hF : ZFr al sg sg := ZFr.rf
        have hMc := hM
        refine aw_iload C dL_drafts_242 rfl rfl ?_
        refine aw_icmp_ne (tgt := 251) C dL_drafts_244 (by decide) rfl (fun q => absurd (hdr.2.2 c123).1 q) (fun _ => ?_)
        refine aw_iconst (v := nI 1) C dL_drafts_247 rfl rfl ?_
        refine aw_goto (tgt := 252) C dL_drafts_248 (by decide) ?_
        refine aw_istore (ls' := [(15, _), (0, _), (1, _), (2, _), (3, _), (4, _), (5, _), (6, _), (7, _), (8, _), (9, _), (10, _), (11, _), (12, _), (13, _), (14, _)]) C dL_drafts_252 (by decide) rfl rfl ?_
        refine aw_pick (ls' := [(0, _), (1, _), (2, _), (3, _), (4, _), (5, _), (6, _), (7, _), (8, _), (9, _), (10, _), (11, _), (12, _), (13, _), (14, _), (15, _)]) [1, 2, 3, 4, 5, 6, 7, 8, 9, 10, 11, 12, 13, 14, 15, 0] rfl ?_
        refine aw_goto (tgt := 284) C dL_drafts_254 (by decide) ?_
        refine aw_iload C dL_drafts_284 rfl rfl ?_
        refine an_if_eq (a := 0) (tgt := 369) C dL_drafts_286 (by decide) (by decide) rfl (fun _ => ?_) (fun q => absurd (by decide) q)
        refine aw_iload C dL_drafts_369 rfl rfl ?_
        have hu := (hdr.2.2 c123).2
        exact aw_iret C rfl (Nat.le_of_ble_eq_true rfl) (Nat.le_of_ble_eq_true rfl) ⟨rfl, ad', u, Y', L, (by rw [hu] at hS1; exact hS1), e0, hM, hZ.next, hR, hK, by omega, by omega⟩ dL_drafts_371
      · refine aw_iconst (v := nI 1) C dL_drafts_126 rfl rfl ?_
        refine aw_goto (tgt := 131) C dL_drafts_127 (by decide) ?_
        refine aw_istore (ls' := [(13, _), (0, _), (1, _), (2, _), (3, _), (4, _), (5, _), (6, _), (7, _), (8, _), (9, _), (10, _), (11, _), (12, _)]) C dL_drafts_131 (by decide) rfl rfl ?_
        refine aw_pick (ls' := [(0, _), (1, _), (2, _), (3, _), (4, _), (5, _), (6, _), (7, _), (8, _), (9, _), (10, _), (11, _), (12, _), (13, _)]) [1, 2, 3, 4, 5, 6, 7, 8, 9, 10, 11, 12, 13, 0] rfl ?_
        refine aw_iload C dL_drafts_133 rfl rfl ?_
        refine an_if_eq (a := 1) (tgt := 143) C dL_drafts_135 (by decide) (by decide) rfl (fun q => absurd q (by decide)) (fun _ => ?_)
        refine aw_iload C dL_drafts_138 rfl rfl ?_
        refine aw_goto (tgt := 146) C dL_drafts_140 (by decide) ?_
        refine aw_istore (ls' := [(14, _), (0, _), (1, _), (2, _), (3, _), (4, _), (5, _), (6, _), (7, _), (8, _), (9, _), (10, _), (11, _), (12, _), (13, _)]) C dL_drafts_146 (by decide) rfl rfl ?_
        refine aw_pick (ls' := [(0, _), (1, _), (2, _), (3, _), (4, _), (5, _), (6, _), (7, _), (8, _), (9, _), (10, _), (11, _), (12, _), (13, _), (14, _)]) [1, 2, 3, 4, 5, 6, 7, 8, 9, 10, 11, 12, 13, 14, 0] rfl ?_
        refine aw_iload C dL_drafts_148 rfl rfl ?_
        refine aw_iconst (v := nI 3) C dL_drafts_150 rfl rfl ?_
        refine an_icmp_ge (a := 3) (b := 3) (tgt := 186) C dL_drafts_151 (by decide) (by decide) (by decide) rfl (fun _ => ?_) (fun q => absurd q (by decide))
        refine aw_iload C dL_drafts_186 rfl rfl ?_
        refine aw_iconst (v := nI 3) C dL_drafts_188 rfl rfl ?_
        refine an_icmp_ne (a := 3) (b := 3) (tgt := 257) C dL_drafts_189 (by decide) (by decide) (by decide) rfl (fun q => absurd (by decide) q) (fun _ => ?_)
        refine aw_iload_n C dL_drafts_192 rfl rfl rfl ?_
        refine aw_bipush (v := nI 9) C dL_drafts_193 rfl rfl ?_
        refine aw_ishr C dL_drafts_195 rfl ?_
        refine aw_iconst (v := nI 3) C dL_drafts_196 rfl rfl ?_
        refine cw_callSp C k_L_98 (N_low hl hst (v := (zz >>> (nI 9 &&& 31))) (N := 3) (by decide) (by decide)) ⟨by decide, by decide⟩ rfl rfl (Nat.le_of_ble_eq_true rfl) (Nat.le_of_ble_eq_true rfl) (Nat.le_of_ble_eq_true rfl) dL_drafts_197 rfl ?_
        obtain ⟨t3, et3⟩ : ∃ q, q = n_low (zz >>> (nI 9 &&& 31)) 3 := ⟨_, rfl⟩
        rw [← et3]
        have ht3 : t3 < 3 := by rw [et3]; exact n_low_lt (by decide)
        refine aw_iconst (v := nI 1) C dL_drafts_200 rfl rfl ?_
        refine aw_isub C dL_drafts_201 rfl ?_
        rw [show nI t3 - nI 1 = nI t3 - 1 from rfl]
        refine aw_istore (ls' := [(10, _), (0, _), (1, _), (2, _), (3, _), (4, _), (5, _), (6, _), (7, _), (8, _), (9, _), (11, _), (12, _), (13, _), (14, _)]) C dL_drafts_202 (by decide) rfl rfl ?_
        refine aw_pick (ls' := [(0, _), (1, _), (2, _), (3, _), (4, _), (5, _), (6, _), (7, _), (8, _), (9, _), (10, _), (11, _), (12, _), (13, _), (14, _)]) [1, 2, 3, 4, 5, 6, 7, 8, 9, 10, 0, 11, 12, 13, 14] rfl ?_
        refine aw_iconst (v := nI 1) C dL_drafts_204 rfl rfl ?_
        refine aw_iload_n C dL_drafts_205 rfl rfl rfl ?_
        refine aw_bipush (v := nI 11) C dL_drafts_206 rfl rfl ?_
        refine aw_ishr C dL_drafts_208 rfl ?_
        refine aw_bipush (v := nI 60) C dL_drafts_209 rfl rfl ?_
        refine cw_callSp C k_L_98 (N_low hl hst (v := (zz >>> (nI 11 &&& 31))) (N := 60) (by decide) (by decide)) ⟨by decide, by decide⟩ rfl rfl (Nat.le_of_ble_eq_true rfl) (Nat.le_of_ble_eq_true rfl) (Nat.le_of_ble_eq_true rfl) dL_drafts_211 rfl ?_
        obtain ⟨q60, eq60⟩ : ∃ q, q = n_low (zz >>> (nI 11 &&& 31)) 60 := ⟨_, rfl⟩
        rw [← eq60]
        have hq60 : q60 < 60 := by rw [eq60]; exact n_low_lt (by decide)
        refine an_add C dL_drafts_214 rfl ?_
        refine aw_istore (ls' := [(11, _), (0, _), (1, _), (2, _), (3, _), (4, _), (5, _), (6, _), (7, _), (8, _), (9, _), (10, _), (12, _), (13, _), (14, _)]) C dL_drafts_215 (by decide) rfl rfl ?_
        refine aw_pick (ls' := [(0, _), (1, _), (2, _), (3, _), (4, _), (5, _), (6, _), (7, _), (8, _), (9, _), (10, _), (11, _), (12, _), (13, _), (14, _)]) [1, 2, 3, 4, 5, 6, 7, 8, 9, 10, 11, 0, 12, 13, 14] rfl ?_
        refine aw_iload_n C dL_drafts_217 rfl rfl rfl ?_
        refine aw_iconst (v := nI 4) C dL_drafts_218 rfl rfl ?_
        refine aw_ishr C dL_drafts_219 rfl ?_
        refine aw_iconst (v := nI 2) C dL_drafts_220 rfl rfl ?_
        refine cw_callSp C k_L_98 (N_low hl hst (v := (zz >>> (nI 4 &&& 31))) (N := 2) (by decide) (by decide)) ⟨by decide, by decide⟩ rfl rfl (Nat.le_of_ble_eq_true rfl) (Nat.le_of_ble_eq_true rfl) (Nat.le_of_ble_eq_true rfl) dL_drafts_221 rfl ?_
        obtain ⟨q2, eq2⟩ : ∃ q, q = n_low (zz >>> (nI 4 &&& 31)) 2 := ⟨_, rfl⟩
        rw [← eq2]
        have hq2 : q2 < 2 := by rw [eq2]; exact n_low_lt (by decide)
        refine aw_istore (ls' := [(12, _), (0, _), (1, _), (2, _), (3, _), (4, _), (5, _), (6, _), (7, _), (8, _), (9, _), (10, _), (11, _), (13, _), (14, _)]) C dL_drafts_224 (by decide) rfl rfl ?_
        refine aw_pick (ls' := [(0, _), (1, _), (2, _), (3, _), (4, _), (5, _), (6, _), (7, _), (8, _), (9, _), (10, _), (11, _), (12, _), (13, _), (14, _)]) [1, 2, 3, 4, 5, 6, 7, 8, 9, 10, 11, 12, 0, 13, 14] rfl ?_
        refine aw_aload_n C dL_drafts_226 rfl rfl rfl ?_
        refine aw_iconst (v := nI 1) C dL_drafts_227 rfl rfl ?_
        refine aw_iload C dL_drafts_228 rfl rfl ?_
        refine aw_iload C dL_drafts_230 rfl rfl ?_
        refine aw_iload C dL_drafts_232 rfl rfl ?_
        refine aw_iload C dL_drafts_234 rfl rfl ?_
        refine aw_iload C dL_drafts_236 rfl rfl ?_
        refine aw_iconst (v := nI 0) C dL_drafts_238 rfl rfl ?_
        have hdr := r_power hZ hR hlt (by omega) (g := g) (t := t) (th := t3) (dd := 1 + q60) (on := q2) hg ht c103 ht3 (by omega) (by omega) hq2
        refine aw_callSW C kL_calls (H_power G hS hI (a := nI (g)) (b := nI (t)) (c := nI (t3) - 1) (d := nI (1 + q60)) (e := nI (q2)) (f := nI (0)) hdr.1) ⟨by decide, by decide⟩ rfl rfl (Nat.le_of_ble_eq_true rfl) (Nat.le_of_ble_eq_true rfl) (Nat.le_of_ble_eq_true rfl) dL_drafts_239 rfl (fun _ _ q => ax_no q) (fun v1 sg hq => ?_)
        obtain ⟨rfl, hC⟩ := hq
        have hM := hM.keepC hS hC.fr
        obtain ⟨ad', Y', hS1, e0, -, -, -⟩ := hC
        have hF : ZFr al sg sg := ZFr.rf
        have hMc := hM
        refine aw_iload C dL_drafts_242 rfl rfl ?_
        refine aw_icmp_ne (tgt := 251) C dL_drafts_244 (by decide) rfl (fun q => absurd (hdr.2.1 c123).1 q) (fun _ => ?_)
        refine aw_iconst (v := nI 1) C dL_drafts_247 rfl rfl ?_
        refine aw_goto (tgt := 252) C dL_drafts_248 (by decide) ?_
        refine aw_istore (ls' := [(15, _), (0, _), (1, _), (2, _), (3, _), (4, _), (5, _), (6, _), (7, _), (8, _), (9, _), (10, _), (11, _), (12, _), (13, _), (14, _)]) C dL_drafts_252 (by decide) rfl rfl ?_
        refine aw_pick (ls' := [(0, _), (1, _), (2, _), (3, _), (4, _), (5, _), (6, _), (7, _), (8, _), (9, _), (10, _), (11, _), (12, _), (13, _), (14, _), (15, _)]) [1, 2, 3, 4, 5, 6, 7, 8, 9, 10, 11, 12, 13, 14, 15, 0] rfl ?_
        refine aw_goto (tgt := 284) C dL_drafts_254 (by decide) ?_
        refine aw_iload C dL_drafts_284 rfl rfl ?_
        refine an_if_eq (a := 1) (tgt := 369) C dL_drafts_286 (by decide) (by decide) rfl (fun q => absurd q (by decide)) (fun _ => ?_)
        refine aw_aload_n C dL_drafts_289 rfl rfl rfl ?_
        refine aw_iload C dL_drafts_290 rfl rfl ?_
        refine aw_iload C dL_drafts_292 rfl rfl ?_
        refine aw_bipush (v := nI 8) C dL_drafts_294 rfl rfl ?_
        refine aw_iload C dL_drafts_296 rfl rfl ?_
        refine an_mul C dL_drafts_298 rfl ?_
        refine an_add C dL_drafts_299 rfl ?_
        refine aw_bipush (v := nI 64) C dL_drafts_300 rfl rfl ?_
        refine aw_iload C dL_drafts_302 rfl rfl ?_
        refine an_mul C dL_drafts_304 rfl ?_
        refine an_add C dL_drafts_305 rfl ?_
        refine aw_sipush (v := nI 512) C dL_drafts_306 rfl rfl ?_
        refine aw_iload C dL_drafts_309 rfl rfl ?_
        refine aw_iconst (v := nI 4) C dL_drafts_311 rfl rfl ?_
        refine an_icmp_ne (a := 3) (b := 4) (tgt := 319) C dL_drafts_312 (by decide) (by decide) (by decide) rfl (fun _ => ?_) (fun q => absurd q (by decide))
        refine aw_iload C dL_drafts_319 rfl rfl ?_
        refine aw_iconst (v := nI 1) C dL_drafts_321 rfl rfl ?_
        refine aw_iadd C dL_drafts_322 rfl ?_
        rw [nI_k1]
        refine an_mul C dL_drafts_323 rfl ?_
        refine an_add C dL_drafts_324 rfl ?_
        refine an_iast (k := 1) (i := (L.1 10 1)) (N := 24) (v := ((3 + (8 * g)) + (64 * t)) + (512 * t3)) C hM hF rfl rfl (by have := hB 10 1; omega) dL_drafts_325 rfl (fun sg hM hF => ?_)
        refine aw_aload C dL_drafts_326 rfl rfl ?_
        refine aw_iload C dL_drafts_328 rfl rfl ?_
        refine aw_iload C dL_drafts_330 rfl rfl ?_
        refine aw_iconst (v := nI 3) C dL_drafts_332 rfl rfl ?_
        refine an_icmp_ne (a := 3) (b := 3) (tgt := 351) C dL_drafts_333 (by decide) (by decide) (by decide) rfl (fun q => absurd (by decide) q) (fun _ => ?_)
        refine aw_iconst (v := nI 2) C dL_drafts_336 rfl rfl ?_
        refine aw_aload C dL_drafts_337 rfl rfl ?_
        refine aw_iconst (v := nI 0) C dL_drafts_339 rfl rfl ?_
        refine an_iald (k := 10) (i := 0) (N := 5) (v := (L.1 10 0)) C hM rfl rfl (by decide) (by rw [zI_k (by decide)]) dL_drafts_340 rfl ?_
        refine aw_iload C dL_drafts_341 rfl rfl ?_
        refine an_add C dL_drafts_343 rfl ?_
        refine an_mul C dL_drafts_344 rfl ?_
        refine aw_iload C dL_drafts_345 rfl rfl ?_
        refine an_add C dL_drafts_347 rfl ?_
        refine aw_goto (tgt := 360) C dL_drafts_348 (by decide) ?_
        refine an_iast (k := 2) (i := (L.1 10 1)) (N := 24) (v := (2 * ((L.1 10 0) + (1 + q60))) + q2) C hM hF rfl rfl (by have := hB 10 1; omega) dL_drafts_360 rfl (fun sg hM hF => ?_)
        refine aw_aload C dL_drafts_361 rfl rfl ?_
        refine aw_iconst (v := nI 1) C dL_drafts_363 rfl rfl ?_
        refine aw_dup2 C dL_drafts_364 rfl rfl rfl ?_
        refine an_iald (k := 10) (i := 1) (N := 5) (v := (L.1 10 1)) C hM rfl rfl (by decide) (by rw [zI_k (by decide)]; exact (by rw [zI_k (by decide)])) dL_drafts_365 rfl ?_
        refine aw_iconst (v := nI 1) C dL_drafts_366 rfl rfl ?_
        refine an_add C dL_drafts_367 rfl ?_
        refine an_iast (k := 10) (i := 1) (N := 5) (v := (L.1 10 1) + 1) C hM hF rfl rfl (by decide) dL_drafts_368 rfl (fun sg hM hF => ?_)
        refine aw_iload C dL_drafts_369 rfl rfl ?_
        exact aw_iret C rfl (Nat.le_of_ble_eq_true rfl) (Nat.le_of_ble_eq_true rfl) ⟨rfl, ad', _, Y', _, (hS1.keepZ hMc hF), e0, hM, hZ.power.next, (hdr.2.1 c123).2, hK.power, (by rw [zI_n (by decide), zI_k (by decide), zI_k (by decide)]; omega), (by rw [zI_n (by decide), zI_k (by decide), zI_k (by decide)]; omega)⟩ dL_drafts_371
    · refine aw_iconst (v := nI 1) C dL_drafts_106 rfl rfl ?_
      exact aw_iret C rfl (Nat.le_of_ble_eq_true rfl) (Nat.le_of_ble_eq_true rfl) ⟨rfl, ad, _, Y, _, hS, rfl, hM, hZ.next, hR, hK, by omega, by omega⟩ dL_drafts_107
set_option maxRecDepth 100000 in
theorem D_4 {x : Cx} {ez : Nat} (G : GOK x.g x.l ez) (C : AWC x cL_drafts 16 RL rmA (some .boolean)) {ad : Nat → Nat → Nat} {u : MU} {Y : GS} {L : ZU} {al : Nat → Nat} {sg0 : Sg} {m : Nat} (hS : CS x.g ez ad u Y sg0) (hM : ZS x.g al L sg0) (hZ : CZ m u) (hR : ZR L u) (hK : ZKu u) (hT0 : L.1 10 0 ≤ 400 * m) (hT4 : L.1 10 4 ≤ 6000 * m) (hm : m ≤ 130) (hlt : L.1 10 1 < 24) {zz : Int32} : AW x (RQ x (ZA x.g ez al (ad 0 0) (m + 1)) noX 60 12000) 0 0 sg0 30 [(0, .ref ((ad 0 0))), (1, .int (zz)), (2, .ref (al 0)), (3, .ref (al 1)), (4, .ref (al 2)), (5, .ref (al 10)), (6, .int (nI ((L.1 10 1))))] [.int (nI (4))] := by
  have hl := G.1
  have hst := G.2.1
  have hB := hR.B
  have hM0 := hM
  have hF : ZFr al sg0 sg0 := ZFr.rf
  have hI := hZ.1
  refine aw_istore (ls' := [(7, _), (0, _), (1, _), (2, _), (3, _), (4, _), (5, _), (6, _)]) C dL_drafts_30 (by decide) rfl rfl ?_
  refine aw_pick (ls' := [(0, _), (1, _), (2, _), (3, _), (4, _), (5, _), (6, _), (7, _)]) [1, 2, 3, 4, 5, 6, 7, 0] rfl ?_
  refine aw_iload_n C dL_drafts_32 rfl rfl rfl ?_
  refine aw_iconst (v := nI 3) C dL_drafts_33 rfl rfl ?_
  refine aw_ishr C dL_drafts_34 rfl ?_
  refine aw_bipush (v := nI 6) C dL_drafts_35 rfl rfl ?_
  refine cw_callSp C k_L_98 (N_low hl hst (v := (zz >>> (nI 3 &&& 31))) (N := 6) (by decide) (by decide)) ⟨by decide, by decide⟩ rfl rfl (Nat.le_of_ble_eq_true rfl) (Nat.le_of_ble_eq_true rfl) (Nat.le_of_ble_eq_true rfl) dL_drafts_37 rfl ?_
  obtain ⟨g, eg⟩ : ∃ q, q = n_low (zz >>> (nI 3 &&& 31)) 6 := ⟨_, rfl⟩
  rw [← eg]
  have hg : g < 6 := by rw [eg]; exact n_low_lt (by decide)
  refine aw_istore (ls' := [(8, _), (0, _), (1, _), (2, _), (3, _), (4, _), (5, _), (6, _), (7, _)]) C dL_drafts_40 (by decide) rfl rfl ?_
  refine aw_pick (ls' := [(0, _), (1, _), (2, _), (3, _), (4, _), (5, _), (6, _), (7, _), (8, _)]) [1, 2, 3, 4, 5, 6, 7, 8, 0] rfl ?_
  refine aw_iload_n C dL_drafts_42 rfl rfl rfl ?_
  refine aw_bipush (v := nI 6) C dL_drafts_43 rfl rfl ?_
  refine aw_ishr C dL_drafts_45 rfl ?_
  refine aw_bipush (v := nI 6) C dL_drafts_46 rfl rfl ?_
  refine cw_callSp C k_L_98 (N_low hl hst (v := (zz >>> (nI 6 &&& 31))) (N := 6) (by decide) (by decide)) ⟨by decide, by decide⟩ rfl rfl (Nat.le_of_ble_eq_true rfl) (Nat.le_of_ble_eq_true rfl) (Nat.le_of_ble_eq_true rfl) dL_drafts_48 rfl ?_
  obtain ⟨t, et⟩ : ∃ q, q = n_low (zz >>> (nI 6 &&& 31)) 6 := ⟨_, rfl⟩
  rw [← et]
  have ht : t < 6 := by rw [et]; exact n_low_lt (by decide)
  refine aw_istore (ls' := [(9, _), (0, _), (1, _), (2, _), (3, _), (4, _), (5, _), (6, _), (7, _), (8, _)]) C dL_drafts_51 (by decide) rfl rfl ?_
  refine aw_pick (ls' := [(0, _), (1, _), (2, _), (3, _), (4, _), (5, _), (6, _), (7, _), (8, _), (9, _)]) [1, 2, 3, 4, 5, 6, 7, 8, 9, 0] rfl ?_
  refine aw_iload_n C dL_drafts_53 rfl rfl rfl ?_
  refine aw_bipush (v := nI 9) C dL_drafts_54 rfl rfl ?_
  refine aw_ishr C dL_drafts_56 rfl ?_
  refine aw_iconst (v := nI 2) C dL_drafts_57 rfl rfl ?_
  refine cw_callSp C k_L_98 (N_low hl hst (v := (zz >>> (nI 9 &&& 31))) (N := 2) (by decide) (by decide)) ⟨by decide, by decide⟩ rfl rfl (Nat.le_of_ble_eq_true rfl) (Nat.le_of_ble_eq_true rfl) (Nat.le_of_ble_eq_true rfl) dL_drafts_58 rfl ?_
  obtain ⟨th, eth⟩ : ∃ q, q = n_low (zz >>> (nI 9 &&& 31)) 2 := ⟨_, rfl⟩
  rw [← eth]
  have hth : th < 2 := by rw [eth]; exact n_low_lt (by decide)
  refine aw_istore (ls' := [(10, _), (0, _), (1, _), (2, _), (3, _), (4, _), (5, _), (6, _), (7, _), (8, _), (9, _)]) C dL_drafts_61 (by decide) rfl rfl ?_
  refine aw_pick (ls' := [(0, _), (1, _), (2, _), (3, _), (4, _), (5, _), (6, _), (7, _), (8, _), (9, _), (10, _)]) [1, 2, 3, 4, 5, 6, 7, 8, 9, 10, 0] rfl ?_
  refine aw_iconst (v := nI 1) C dL_drafts_63 rfl rfl ?_
  refine aw_iload_n C dL_drafts_64 rfl rfl rfl ?_
  refine aw_bipush (v := nI 10) C dL_drafts_65 rfl rfl ?_
  refine aw_ishr C dL_drafts_67 rfl ?_
  refine aw_iconst (v := nI 4) C dL_drafts_68 rfl rfl ?_
  refine cw_callSp C k_L_98 (N_low hl hst (v := (zz >>> (nI 10 &&& 31))) (N := 4) (by decide) (by decide)) ⟨by decide, by decide⟩ rfl rfl (Nat.le_of_ble_eq_true rfl) (Nat.le_of_ble_eq_true rfl) (Nat.le_of_ble_eq_true rfl) dL_drafts_69 rfl ?_
  obtain ⟨q4, eq4⟩ : ∃ q, q = n_low (zz >>> (nI 10 &&& 31)) 4 := ⟨_, rfl⟩
  rw [← eq4]
  have hq4 : q4 < 4 := by rw [eq4]; exact n_low_lt (by decide)
  refine aw_iconst (v := nI 3) C dL_drafts_72 rfl rfl ?_
  refine an_div C (by omega) (by decide) (by decide) dL_drafts_73 rfl ?_
  refine an_add C dL_drafts_74 rfl ?_
  refine aw_istore (ls' := [(11, _), (0, _), (1, _), (2, _), (3, _), (4, _), (5, _), (6, _), (7, _), (8, _), (9, _), (10, _)]) C dL_drafts_75 (by decide) rfl rfl ?_
  refine aw_pick (ls' := [(0, _), (1, _), (2, _), (3, _), (4, _), (5, _), (6, _), (7, _), (8, _), (9, _), (10, _), (11, _)]) [1, 2, 3, 4, 5, 6, 7, 8, 9, 10, 11, 0] rfl ?_
  refine aw_iload C dL_drafts_77 rfl rfl ?_
  refine aw_iconst (v := nI 2) C dL_drafts_79 rfl rfl ?_
  refine an_icmp_ne (a := 1 + (q4 / 3)) (b := 2) (tgt := 87) C dL_drafts_80 (by omega) (by decide) (by decide) rfl (fun c80 => ?_) (fun c80 => ?_)
  · refine aw_iconst (v := nI 1) C dL_drafts_87 rfl rfl ?_
    refine aw_iload_n C dL_drafts_88 rfl rfl rfl ?_
    refine aw_bipush (v := nI 12) C dL_drafts_89 rfl rfl ?_
    refine aw_ishr C dL_drafts_91 rfl ?_
    refine aw_iconst (v := nI 4) C dL_drafts_92 rfl rfl ?_
    refine cw_callSp C k_L_98 (N_low hl hst (v := (zz >>> (nI 12 &&& 31))) (N := 4) (by decide) (by decide)) ⟨by decide, by decide⟩ rfl rfl (Nat.le_of_ble_eq_true rfl) (Nat.le_of_ble_eq_true rfl) (Nat.le_of_ble_eq_true rfl) dL_drafts_93 rfl ?_
    obtain ⟨q5, eq5⟩ : ∃ q, q = n_low (zz >>> (nI 12 &&& 31)) 4 := ⟨_, rfl⟩
    rw [← eq5]
    have hq5 : q5 < 4 := by rw [eq5]; exact n_low_lt (by decide)
    refine an_add C dL_drafts_96 rfl ?_
    refine aw_istore (ls' := [(12, _), (0, _), (1, _), (2, _), (3, _), (4, _), (5, _), (6, _), (7, _), (8, _), (9, _), (10, _), (11, _)]) C dL_drafts_97 (by decide) rfl rfl ?_
    refine aw_pick (ls' := [(0, _), (1, _), (2, _), (3, _), (4, _), (5, _), (6, _), (7, _), (8, _), (9, _), (10, _), (11, _), (12, _)]) [1, 2, 3, 4, 5, 6, 7, 8, 9, 10, 11, 12, 0] rfl ?_
    refine aw_iload C dL_drafts_99 rfl rfl ?_
    refine aw_iload C dL_drafts_101 rfl rfl ?_
    refine an_icmp_ne (a := g) (b := t) (tgt := 108) C dL_drafts_103 (by omega) (by omega) (by decide) rfl (fun c103 => ?_) (fun c103 => ?_)
    · refine aw_aload_n C dL_drafts_108 rfl rfl rfl ?_
      refine aw_bipush (v := nI 16) C dL_drafts_109 rfl rfl ?_
      refine aw_iload C dL_drafts_111 rfl rfl ?_
      refine an_add C dL_drafts_113 rfl ?_
      refine an_iald (k := 0) (i := 16 + g) (N := 40) (v := (L.1 0 (16 + g))) C hM rfl rfl (by omega) rfl dL_drafts_114 rfl ?_
      refine aw_aload_n C dL_drafts_115 rfl rfl rfl ?_
      refine aw_bipush (v := nI 16) C dL_drafts_116 rfl rfl ?_
      refine aw_iload C dL_drafts_118 rfl rfl ?_
      refine an_add C dL_drafts_120 rfl ?_
      refine an_iald (k := 0) (i := 16 + t) (N := 40) (v := (L.1 0 (16 + t))) C hM rfl rfl (by omega) rfl dL_drafts_121 rfl ?_
      refine an_add C dL_drafts_122 rfl ?_
      refine an_if_ne (a := (L.1 0 (16 + g)) + (L.1 0 (16 + t))) (tgt := 130) C dL_drafts_123 (by have := hB 0 (16 + g); have := hB 0 (16 + t); omega) (by decide) rfl (fun c123 => ?_) (fun c123 => ?_)
      · refine aw_iconst (v := nI 0) C dL_drafts_130 rfl rfl ?_
        refine aw_istore (ls' := [(13, _), (0, _), (1, _), (2, _), (3, _), (4, _), (5, _), (6, _), (7, _), (8, _), (9, _), (10, _), (11, _), (12, _)]) C dL_drafts_131 (by decide) rfl rfl ?_
        refine aw_pick (ls' := [(0, _), (1, _), (2, _), (3, _), (4, _), (5, _), (6, _), (7, _), (8, _), (9, _), (10, _), (11, _), (12, _), (13, _)]) [1, 2, 3, 4, 5, 6, 7, 8, 9, 10, 11, 12, 13, 0] rfl ?_
        refine aw_iload C dL_drafts_133 rfl rfl ?_
        refine an_if_eq (a := 0) (tgt := 143) C dL_drafts_135 (by decide) (by decide) rfl (fun _ => ?_) (fun q => absurd (by decide) q)
        refine aw_sipush (v := -1003) C dL_drafts_143 rfl rfl ?_
        refine aw_istore (ls' := [(14, _), (0, _), (1, _), (2, _), (3, _), (4, _), (5, _), (6, _), (7, _), (8, _), (9, _), (10, _), (11, _), (12, _), (13, _)]) C dL_drafts_146 (by decide) rfl rfl ?_
        refine aw_pick (ls' := [(0, _), (1, _), (2, _), (3, _), (4, _), (5, _), (6, _), (7, _), (8, _), (9, _), (10, _), (11, _), (12, _), (13, _), (14, _)]) [1, 2, 3, 4, 5, 6, 7, 8, 9, 10, 11, 12, 13, 14, 0] rfl ?_
        refine aw_iload C dL_drafts_148 rfl rfl ?_
        refine aw_iconst (v := nI 3) C dL_drafts_150 rfl rfl ?_
        refine an_icmp_ge (a := 4) (b := 3) (tgt := 186) C dL_drafts_151 (by decide) (by decide) (by decide) rfl (fun _ => ?_) (fun q => absurd q (by decide))
        refine aw_iload C dL_drafts_186 rfl rfl ?_
        refine aw_iconst (v := nI 3) C dL_drafts_188 rfl rfl ?_
        refine an_icmp_ne (a := 4) (b := 3) (tgt := 257) C dL_drafts_189 (by decide) (by decide) (by decide) rfl (fun _ => ?_) (fun q => absurd q (by decide))
        refine aw_aload_n C dL_drafts_257 rfl rfl rfl ?_
        refine aw_iconst (v := nI 2) C dL_drafts_258 rfl rfl ?_
        refine aw_iload C dL_drafts_259 rfl rfl ?_
        refine aw_iload C dL_drafts_261 rfl rfl ?_
        refine aw_iload C dL_drafts_263 rfl rfl ?_
        refine aw_iload C dL_drafts_265 rfl rfl ?_
        refine aw_iconst (v := nI 0) C dL_drafts_267 rfl rfl ?_
        refine aw_iconst (v := nI 0) C dL_drafts_268 rfl rfl ?_
        have hdr := r_will hZ hR hlt (g := g) (t := t) (ab := 1 + (q4 / 3)) (be := 1 + q5) hg ht c103 (by omega) (by omega) (by omega)
        refine aw_callSW C kL_calls (H_will G hS hI (a := nI (g)) (b := nI (t)) (c := nI (1 + (q4 / 3))) (d := nI (1 + q5)) (e := nI (0)) (f := nI (0)) hdr.1) ⟨by decide, by decide⟩ rfl rfl (Nat.le_of_ble_eq_true rfl) (Nat.le_of_ble_eq_true rfl) (Nat.le_of_ble_eq_true rfl) dL_drafts_269 rfl (fun _ _ q => ax_no q) (fun v1 sg hq => ?_)
        obtain ⟨rfl, hC⟩ := hq
        have hM := hM.keepC hS hC.fr
        obtain ⟨ad', Y', hS1, e0, -, -, -⟩ := hC
        have hF : ZFr al sg sg := ZFr.rf
        have hMc := hM
        refine aw_iload C dL_drafts_272 rfl rfl ?_
        refine aw_icmp_ne (tgt := 281) C dL_drafts_274 (by decide) rfl (fun q => absurd (hdr.2.2 c123).1 q) (fun _ => ?_)
        refine aw_iconst (v := nI 1) C dL_drafts_277 rfl rfl ?_
        refine aw_goto (tgt := 282) C dL_drafts_278 (by decide) ?_
        refine aw_istore (ls' := [(15, _), (0, _), (1, _), (2, _), (3, _), (4, _), (5, _), (6, _), (7, _), (8, _), (9, _), (10, _), (11, _), (12, _), (13, _), (14, _)]) C dL_drafts_282 (by decide) rfl rfl ?_
        refine aw_pick (ls' := [(0, _), (1, _), (2, _), (3, _), (4, _), (5, _), (6, _), (7, _), (8, _), (9, _), (10, _), (11, _), (12, _), (13, _), (14, _), (15, _)]) [1, 2, 3, 4, 5, 6, 7, 8, 9, 10, 11, 12, 13, 14, 15, 0] rfl ?_
        refine aw_iload C dL_drafts_284 rfl rfl ?_
        refine an_if_eq (a := 0) (tgt := 369) C dL_drafts_286 (by decide) (by decide) rfl (fun _ => ?_) (fun q => absurd (by decide) q)
        refine aw_iload C dL_drafts_369 rfl rfl ?_
        have hu := (hdr.2.2 c123).2
        exact aw_iret C rfl (Nat.le_of_ble_eq_true rfl) (Nat.le_of_ble_eq_true rfl) ⟨rfl, ad', u, Y', L, (by rw [hu] at hS1; exact hS1), e0, hM, hZ.next, hR, hK, by omega, by omega⟩ dL_drafts_371
      · refine aw_iconst (v := nI 1) C dL_drafts_126 rfl rfl ?_
        refine aw_goto (tgt := 131) C dL_drafts_127 (by decide) ?_
        refine aw_istore (ls' := [(13, _), (0, _), (1, _), (2, _), (3, _), (4, _), (5, _), (6, _), (7, _), (8, _), (9, _), (10, _), (11, _), (12, _)]) C dL_drafts_131 (by decide) rfl rfl ?_
        refine aw_pick (ls' := [(0, _), (1, _), (2, _), (3, _), (4, _), (5, _), (6, _), (7, _), (8, _), (9, _), (10, _), (11, _), (12, _), (13, _)]) [1, 2, 3, 4, 5, 6, 7, 8, 9, 10, 11, 12, 13, 0] rfl ?_
        refine aw_iload C dL_drafts_133 rfl rfl ?_
        refine an_if_eq (a := 1) (tgt := 143) C dL_drafts_135 (by decide) (by decide) rfl (fun q => absurd q (by decide)) (fun _ => ?_)
        refine aw_iload C dL_drafts_138 rfl rfl ?_
        refine aw_goto (tgt := 146) C dL_drafts_140 (by decide) ?_
        refine aw_istore (ls' := [(14, _), (0, _), (1, _), (2, _), (3, _), (4, _), (5, _), (6, _), (7, _), (8, _), (9, _), (10, _), (11, _), (12, _), (13, _)]) C dL_drafts_146 (by decide) rfl rfl ?_
        refine aw_pick (ls' := [(0, _), (1, _), (2, _), (3, _), (4, _), (5, _), (6, _), (7, _), (8, _), (9, _), (10, _), (11, _), (12, _), (13, _), (14, _)]) [1, 2, 3, 4, 5, 6, 7, 8, 9, 10, 11, 12, 13, 14, 0] rfl ?_
        refine aw_iload C dL_drafts_148 rfl rfl ?_
        refine aw_iconst (v := nI 3) C dL_drafts_150 rfl rfl ?_
        refine an_icmp_ge (a := 4) (b := 3) (tgt := 186) C dL_drafts_151 (by decide) (by decide) (by decide) rfl (fun _ => ?_) (fun q => absurd q (by decide))
        refine aw_iload C dL_drafts_186 rfl rfl ?_
        refine aw_iconst (v := nI 3) C dL_drafts_188 rfl rfl ?_
        refine an_icmp_ne (a := 4) (b := 3) (tgt := 257) C dL_drafts_189 (by decide) (by decide) (by decide) rfl (fun _ => ?_) (fun q => absurd q (by decide))
        refine aw_aload_n C dL_drafts_257 rfl rfl rfl ?_
        refine aw_iconst (v := nI 2) C dL_drafts_258 rfl rfl ?_
        refine aw_iload C dL_drafts_259 rfl rfl ?_
        refine aw_iload C dL_drafts_261 rfl rfl ?_
        refine aw_iload C dL_drafts_263 rfl rfl ?_
        refine aw_iload C dL_drafts_265 rfl rfl ?_
        refine aw_iconst (v := nI 0) C dL_drafts_267 rfl rfl ?_
        refine aw_iconst (v := nI 0) C dL_drafts_268 rfl rfl ?_
        have hdr := r_will hZ hR hlt (g := g) (t := t) (ab := 1 + (q4 / 3)) (be := 1 + q5) hg ht c103 (by omega) (by omega) (by omega)
        refine aw_callSW C kL_calls (H_will G hS hI (a := nI (g)) (b := nI (t)) (c := nI (1 + (q4 / 3))) (d := nI (1 + q5)) (e := nI (0)) (f := nI (0)) hdr.1) ⟨by decide, by decide⟩ rfl rfl (Nat.le_of_ble_eq_true rfl) (Nat.le_of_ble_eq_true rfl) (Nat.le_of_ble_eq_true rfl) dL_drafts_269 rfl (fun _ _ q => ax_no q) (fun v1 sg hq => ?_)
        obtain ⟨rfl, hC⟩ := hq
        have hM := hM.keepC hS hC.fr
        obtain ⟨ad', Y', hS1, e0, -, -, -⟩ := hC
        have hF : ZFr al sg sg := ZFr.rf
        have hMc := hM
        refine aw_iload C dL_drafts_272 rfl rfl ?_
        refine aw_icmp_ne (tgt := 281) C dL_drafts_274 (by decide) rfl (fun q => absurd (hdr.2.1 c123).1 q) (fun _ => ?_)
        refine aw_iconst (v := nI 1) C dL_drafts_277 rfl rfl ?_
        refine aw_goto (tgt := 282) C dL_drafts_278 (by decide) ?_
        refine aw_istore (ls' := [(15, _), (0, _), (1, _), (2, _), (3, _), (4, _), (5, _), (6, _), (7, _), (8, _), (9, _), (10, _), (11, _), (12, _), (13, _), (14, _)]) C dL_drafts_282 (by decide) rfl rfl ?_
        refine aw_pick (ls' := [(0, _), (1, _), (2, _), (3, _), (4, _), (5, _), (6, _), (7, _), (8, _), (9, _), (10, _), (11, _), (12, _), (13, _), (14, _), (15, _)]) [1, 2, 3, 4, 5, 6, 7, 8, 9, 10, 11, 12, 13, 14, 15, 0] rfl ?_
        refine aw_iload C dL_drafts_284 rfl rfl ?_
        refine an_if_eq (a := 1) (tgt := 369) C dL_drafts_286 (by decide) (by decide) rfl (fun q => absurd q (by decide)) (fun _ => ?_)
        refine aw_aload_n C dL_drafts_289 rfl rfl rfl ?_
        refine aw_iload C dL_drafts_290 rfl rfl ?_
        refine aw_iload C dL_drafts_292 rfl rfl ?_
        refine aw_bipush (v := nI 8) C dL_drafts_294 rfl rfl ?_
        refine aw_iload C dL_drafts_296 rfl rfl ?_
        refine an_mul C dL_drafts_298 rfl ?_
        refine an_add C dL_drafts_299 rfl ?_
        refine aw_bipush (v := nI 64) C dL_drafts_300 rfl rfl ?_
        refine aw_iload C dL_drafts_302 rfl rfl ?_
        refine an_mul C dL_drafts_304 rfl ?_
        refine an_add C dL_drafts_305 rfl ?_
        refine aw_sipush (v := nI 512) C dL_drafts_306 rfl rfl ?_
        refine aw_iload C dL_drafts_309 rfl rfl ?_
        refine aw_iconst (v := nI 4) C dL_drafts_311 rfl rfl ?_
        refine an_icmp_ne (a := 4) (b := 4) (tgt := 319) C dL_drafts_312 (by decide) (by decide) (by decide) rfl (fun q => absurd (by decide) q) (fun _ => ?_)
        refine aw_iconst (v := nI 0) C dL_drafts_315 rfl rfl ?_
        refine aw_goto (tgt := 323) C dL_drafts_316 (by decide) ?_
        refine an_mul C dL_drafts_323 rfl ?_
        refine an_add C dL_drafts_324 rfl ?_
        refine an_iast (k := 1) (i := (L.1 10 1)) (N := 24) (v := ((4 + (8 * g)) + (64 * t)) + (512 * 0)) C hM hF rfl rfl (by have := hB 10 1; omega) dL_drafts_325 rfl (fun sg hM hF => ?_)
        refine aw_aload C dL_drafts_326 rfl rfl ?_
        refine aw_iload C dL_drafts_328 rfl rfl ?_
        refine aw_iload C dL_drafts_330 rfl rfl ?_
        refine aw_iconst (v := nI 3) C dL_drafts_332 rfl rfl ?_
        refine an_icmp_ne (a := 4) (b := 3) (tgt := 351) C dL_drafts_333 (by decide) (by decide) (by decide) rfl (fun _ => ?_) (fun q => absurd q (by decide))
        refine aw_sipush (v := nI 128) C dL_drafts_351 rfl rfl ?_
        refine aw_iload C dL_drafts_354 rfl rfl ?_
        refine an_mul C dL_drafts_356 rfl ?_
        refine aw_iload C dL_drafts_357 rfl rfl ?_
        refine an_add C dL_drafts_359 rfl ?_
        refine an_iast (k := 2) (i := (L.1 10 1)) (N := 24) (v := (128 * (1 + (q4 / 3))) + (1 + q5)) C hM hF rfl rfl (by have := hB 10 1; omega) dL_drafts_360 rfl (fun sg hM hF => ?_)
        refine aw_aload C dL_drafts_361 rfl rfl ?_
        refine aw_iconst (v := nI 1) C dL_drafts_363 rfl rfl ?_
        refine aw_dup2 C dL_drafts_364 rfl rfl rfl ?_
        refine an_iald (k := 10) (i := 1) (N := 5) (v := (L.1 10 1)) C hM rfl rfl (by decide) (by rw [zI_k (by decide)]; exact (by rw [zI_k (by decide)])) dL_drafts_365 rfl ?_
        refine aw_iconst (v := nI 1) C dL_drafts_366 rfl rfl ?_
        refine an_add C dL_drafts_367 rfl ?_
        refine an_iast (k := 10) (i := 1) (N := 5) (v := (L.1 10 1) + 1) C hM hF rfl rfl (by decide) dL_drafts_368 rfl (fun sg hM hF => ?_)
        refine aw_iload C dL_drafts_369 rfl rfl ?_
        exact aw_iret C rfl (Nat.le_of_ble_eq_true rfl) (Nat.le_of_ble_eq_true rfl) ⟨rfl, ad', _, Y', _, (hS1.keepZ hMc hF), e0, hM, hZ.will.next, (hdr.2.1 c123).2, hK.will, (by rw [zI_n (by decide), zI_k (by decide), zI_k (by decide)]; omega), (by rw [zI_n (by decide), zI_k (by decide), zI_k (by decide)]; omega)⟩ dL_drafts_371
    · refine aw_iconst (v := nI 1) C dL_drafts_106 rfl rfl ?_
      exact aw_iret C rfl (Nat.le_of_ble_eq_true rfl) (Nat.le_of_ble_eq_true rfl) ⟨rfl, ad, _, Y, _, hS, rfl, hM, hZ.next, hR, hK, by omega, by omega⟩ dL_drafts_107
  · refine aw_iconst (v := nI 3) C dL_drafts_83 rfl rfl ?_
    refine aw_goto (tgt := 97) C dL_drafts_84 (by decide) ?_
    refine aw_istore (ls' := [(12, _), (0, _), (1, _), (2, _), (3, _), (4, _), (5, _), (6, _), (7, _), (8, _), (9, _), (10, _), (11, _)]) C dL_drafts_97 (by decide) rfl rfl ?_
    refine aw_pick (ls' := [(0, _), (1, _), (2, _), (3, _), (4, _), (5, _), (6, _), (7, _), (8, _), (9, _), (10, _), (11, _), (12, _)]) [1, 2, 3, 4, 5, 6, 7, 8, 9, 10, 11, 12, 0] rfl ?_
    refine aw_iload C dL_drafts_99 rfl rfl ?_
    refine aw_iload C dL_drafts_101 rfl rfl ?_
    refine an_icmp_ne (a := g) (b := t) (tgt := 108) C dL_drafts_103 (by omega) (by omega) (by decide) rfl (fun c103 => ?_) (fun c103 => ?_)
    · refine aw_aload_n C dL_drafts_108 rfl rfl rfl ?_
      refine aw_bipush (v := nI 16) C dL_drafts_109 rfl rfl ?_
      refine aw_iload C dL_drafts_111 rfl rfl ?_
      refine an_add C dL_drafts_113 rfl ?_
      refine an_iald (k := 0) (i := 16 + g) (N := 40) (v := (L.1 0 (16 + g))) C hM rfl rfl (by omega) rfl dL_drafts_114 rfl ?_
      refine aw_aload_n C dL_drafts_115 rfl rfl rfl ?_
      refine aw_bipush (v := nI 16) C dL_drafts_116 rfl rfl ?_
      refine aw_iload C dL_drafts_118 rfl rfl ?_
      refine an_add C dL_drafts_120 rfl ?_
      refine an_iald (k := 0) (i := 16 + t) (N := 40) (v := (L.1 0 (16 + t))) C hM rfl rfl (by omega) rfl dL_drafts_121 rfl ?_
      refine an_add C dL_drafts_122 rfl ?_
      refine an_if_ne (a := (L.1 0 (16 + g)) + (L.1 0 (16 + t))) (tgt := 130) C dL_drafts_123 (by have := hB 0 (16 + g); have := hB 0 (16 + t); omega) (by decide) rfl (fun c123 => ?_) (fun c123 => ?_)
      · refine aw_iconst (v := nI 0) C dL_drafts_130 rfl rfl ?_
        refine aw_istore (ls' := [(13, _), (0, _), (1, _), (2, _), (3, _), (4, _), (5, _), (6, _), (7, _), (8, _), (9, _), (10, _), (11, _), (12, _)]) C dL_drafts_131 (by decide) rfl rfl ?_
        refine aw_pick (ls' := [(0, _), (1, _), (2, _), (3, _), (4, _), (5, _), (6, _), (7, _), (8, _), (9, _), (10, _), (11, _), (12, _), (13, _)]) [1, 2, 3, 4, 5, 6, 7, 8, 9, 10, 11, 12, 13, 0] rfl ?_
        refine aw_iload C dL_drafts_133 rfl rfl ?_
        refine an_if_eq (a := 0) (tgt := 143) C dL_drafts_135 (by decide) (by decide) rfl (fun _ => ?_) (fun q => absurd (by decide) q)
        refine aw_sipush (v := -1003) C dL_drafts_143 rfl rfl ?_
        refine aw_istore (ls' := [(14, _), (0, _), (1, _), (2, _), (3, _), (4, _), (5, _), (6, _), (7, _), (8, _), (9, _), (10, _), (11, _), (12, _), (13, _)]) C dL_drafts_146 (by decide) rfl rfl ?_
        refine aw_pick (ls' := [(0, _), (1, _), (2, _), (3, _), (4, _), (5, _), (6, _), (7, _), (8, _), (9, _), (10, _), (11, _), (12, _), (13, _), (14, _)]) [1, 2, 3, 4, 5, 6, 7, 8, 9, 10, 11, 12, 13, 14, 0] rfl ?_
        refine aw_iload C dL_drafts_148 rfl rfl ?_
        refine aw_iconst (v := nI 3) C dL_drafts_150 rfl rfl ?_
        refine an_icmp_ge (a := 4) (b := 3) (tgt := 186) C dL_drafts_151 (by decide) (by decide) (by decide) rfl (fun _ => ?_) (fun q => absurd q (by decide))
        refine aw_iload C dL_drafts_186 rfl rfl ?_
        refine aw_iconst (v := nI 3) C dL_drafts_188 rfl rfl ?_
        refine an_icmp_ne (a := 4) (b := 3) (tgt := 257) C dL_drafts_189 (by decide) (by decide) (by decide) rfl (fun _ => ?_) (fun q => absurd q (by decide))
        refine aw_aload_n C dL_drafts_257 rfl rfl rfl ?_
        refine aw_iconst (v := nI 2) C dL_drafts_258 rfl rfl ?_
        refine aw_iload C dL_drafts_259 rfl rfl ?_
        refine aw_iload C dL_drafts_261 rfl rfl ?_
        refine aw_iload C dL_drafts_263 rfl rfl ?_
        refine aw_iload C dL_drafts_265 rfl rfl ?_
        refine aw_iconst (v := nI 0) C dL_drafts_267 rfl rfl ?_
        refine aw_iconst (v := nI 0) C dL_drafts_268 rfl rfl ?_
        have hdr := r_will hZ hR hlt (g := g) (t := t) (ab := 1 + (q4 / 3)) (be := 3) hg ht c103 (by omega) (by omega) (by omega)
        refine aw_callSW C kL_calls (H_will G hS hI (a := nI (g)) (b := nI (t)) (c := nI (1 + (q4 / 3))) (d := nI (3)) (e := nI (0)) (f := nI (0)) hdr.1) ⟨by decide, by decide⟩ rfl rfl (Nat.le_of_ble_eq_true rfl) (Nat.le_of_ble_eq_true rfl) (Nat.le_of_ble_eq_true rfl) dL_drafts_269 rfl (fun _ _ q => ax_no q) (fun v1 sg hq => ?_)
        obtain ⟨rfl, hC⟩ := hq
        have hM := hM.keepC hS hC.fr
        obtain ⟨ad', Y', hS1, e0, -, -, -⟩ := hC
        have hF : ZFr al sg sg := ZFr.rf
        have hMc := hM
        refine aw_iload C dL_drafts_272 rfl rfl ?_
        refine aw_icmp_ne (tgt := 281) C dL_drafts_274 (by decide) rfl (fun q => absurd (hdr.2.2 c123).1 q) (fun _ => ?_)
        refine aw_iconst (v := nI 1) C dL_drafts_277 rfl rfl ?_
        refine aw_goto (tgt := 282) C dL_drafts_278 (by decide) ?_
        refine aw_istore (ls' := [(15, _), (0, _), (1, _), (2, _), (3, _), (4, _), (5, _), (6, _), (7, _), (8, _), (9, _), (10, _), (11, _), (12, _), (13, _), (14, _)]) C dL_drafts_282 (by decide) rfl rfl ?_
        refine aw_pick (ls' := [(0, _), (1, _), (2, _), (3, _), (4, _), (5, _), (6, _), (7, _), (8, _), (9, _), (10, _), (11, _), (12, _), (13, _), (14, _), (15, _)]) [1, 2, 3, 4, 5, 6, 7, 8, 9, 10, 11, 12, 13, 14, 15, 0] rfl ?_
        refine aw_iload C dL_drafts_284 rfl rfl ?_
        refine an_if_eq (a := 0) (tgt := 369) C dL_drafts_286 (by decide) (by decide) rfl (fun _ => ?_) (fun q => absurd (by decide) q)
        refine aw_iload C dL_drafts_369 rfl rfl ?_
        have hu := (hdr.2.2 c123).2
        exact aw_iret C rfl (Nat.le_of_ble_eq_true rfl) (Nat.le_of_ble_eq_true rfl) ⟨rfl, ad', u, Y', L, (by rw [hu] at hS1; exact hS1), e0, hM, hZ.next, hR, hK, by omega, by omega⟩ dL_drafts_371
      · refine aw_iconst (v := nI 1) C dL_drafts_126 rfl rfl ?_
        refine aw_goto (tgt := 131) C dL_drafts_127 (by decide) ?_
        refine aw_istore (ls' := [(13, _), (0, _), (1, _), (2, _), (3, _), (4, _), (5, _), (6, _), (7, _), (8, _), (9, _), (10, _), (11, _), (12, _)]) C dL_drafts_131 (by decide) rfl rfl ?_
        refine aw_pick (ls' := [(0, _), (1, _), (2, _), (3, _), (4, _), (5, _), (6, _), (7, _), (8, _), (9, _), (10, _), (11, _), (12, _), (13, _)]) [1, 2, 3, 4, 5, 6, 7, 8, 9, 10, 11, 12, 13, 0] rfl ?_
        refine aw_iload C dL_drafts_133 rfl rfl ?_
        refine an_if_eq (a := 1) (tgt := 143) C dL_drafts_135 (by decide) (by decide) rfl (fun q => absurd q (by decide)) (fun _ => ?_)
        refine aw_iload C dL_drafts_138 rfl rfl ?_
        refine aw_goto (tgt := 146) C dL_drafts_140 (by decide) ?_
        refine aw_istore (ls' := [(14, _), (0, _), (1, _), (2, _), (3, _), (4, _), (5, _), (6, _), (7, _), (8, _), (9, _), (10, _), (11, _), (12, _), (13, _)]) C dL_drafts_146 (by decide) rfl rfl ?_
        refine aw_pick (ls' := [(0, _), (1, _), (2, _), (3, _), (4, _), (5, _), (6, _), (7, _), (8, _), (9, _), (10, _), (11, _), (12, _), (13, _), (14, _)]) [1, 2, 3, 4, 5, 6, 7, 8, 9, 10, 11, 12, 13, 14, 0] rfl ?_
        refine aw_iload C dL_drafts_148 rfl rfl ?_
        refine aw_iconst (v := nI 3) C dL_drafts_150 rfl rfl ?_
        refine an_icmp_ge (a := 4) (b := 3) (tgt := 186) C dL_drafts_151 (by decide) (by decide) (by decide) rfl (fun _ => ?_) (fun q => absurd q (by decide))
        refine aw_iload C dL_drafts_186 rfl rfl ?_
        refine aw_iconst (v := nI 3) C dL_drafts_188 rfl rfl ?_
        refine an_icmp_ne (a := 4) (b := 3) (tgt := 257) C dL_drafts_189 (by decide) (by decide) (by decide) rfl (fun _ => ?_) (fun q => absurd q (by decide))
        refine aw_aload_n C dL_drafts_257 rfl rfl rfl ?_
        refine aw_iconst (v := nI 2) C dL_drafts_258 rfl rfl ?_
        refine aw_iload C dL_drafts_259 rfl rfl ?_
        refine aw_iload C dL_drafts_261 rfl rfl ?_
        refine aw_iload C dL_drafts_263 rfl rfl ?_
        refine aw_iload C dL_drafts_265 rfl rfl ?_
        refine aw_iconst (v := nI 0) C dL_drafts_267 rfl rfl ?_
        refine aw_iconst (v := nI 0) C dL_drafts_268 rfl rfl ?_
        have hdr := r_will hZ hR hlt (g := g) (t := t) (ab := 1 + (q4 / 3)) (be := 3) hg ht c103 (by omega) (by omega) (by omega)
        refine aw_callSW C kL_calls (H_will G hS hI (a := nI (g)) (b := nI (t)) (c := nI (1 + (q4 / 3))) (d := nI (3)) (e := nI (0)) (f := nI (0)) hdr.1) ⟨by decide, by decide⟩ rfl rfl (Nat.le_of_ble_eq_true rfl) (Nat.le_of_ble_eq_true rfl) (Nat.le_of_ble_eq_true rfl) dL_drafts_269 rfl (fun _ _ q => ax_no q) (fun v1 sg hq => ?_)
        obtain ⟨rfl, hC⟩ := hq
        have hM := hM.keepC hS hC.fr
        obtain ⟨ad', Y', hS1, e0, -, -, -⟩ := hC
        have hF : ZFr al sg sg := ZFr.rf
        have hMc := hM
        refine aw_iload C dL_drafts_272 rfl rfl ?_
        refine aw_icmp_ne (tgt := 281) C dL_drafts_274 (by decide) rfl (fun q => absurd (hdr.2.1 c123).1 q) (fun _ => ?_)
        refine aw_iconst (v := nI 1) C dL_drafts_277 rfl rfl ?_
        refine aw_goto (tgt := 282) C dL_drafts_278 (by decide) ?_
        refine aw_istore (ls' := [(15, _), (0, _), (1, _), (2, _), (3, _), (4, _), (5, _), (6, _), (7, _), (8, _), (9, _), (10, _), (11, _), (12, _), (13, _), (14, _)]) C dL_drafts_282 (by decide) rfl rfl ?_
        refine aw_pick (ls' := [(0, _), (1, _), (2, _), (3, _), (4, _), (5, _), (6, _), (7, _), (8, _), (9, _), (10, _), (11, _), (12, _), (13, _), (14, _), (15, _)]) [1, 2, 3, 4, 5, 6, 7, 8, 9, 10, 11, 12, 13, 14, 15, 0] rfl ?_
        refine aw_iload C dL_drafts_284 rfl rfl ?_
        refine an_if_eq (a := 1) (tgt := 369) C dL_drafts_286 (by decide) (by decide) rfl (fun q => absurd q (by decide)) (fun _ => ?_)
        refine aw_aload_n C dL_drafts_289 rfl rfl rfl ?_
        refine aw_iload C dL_drafts_290 rfl rfl ?_
        refine aw_iload C dL_drafts_292 rfl rfl ?_
        refine aw_bipush (v := nI 8) C dL_drafts_294 rfl rfl ?_
        refine aw_iload C dL_drafts_296 rfl rfl ?_
        refine an_mul C dL_drafts_298 rfl ?_
        refine an_add C dL_drafts_299 rfl ?_
        refine aw_bipush (v := nI 64) C dL_drafts_300 rfl rfl ?_
        refine aw_iload C dL_drafts_302 rfl rfl ?_
        refine an_mul C dL_drafts_304 rfl ?_
        refine an_add C dL_drafts_305 rfl ?_
        refine aw_sipush (v := nI 512) C dL_drafts_306 rfl rfl ?_
        refine aw_iload C dL_drafts_309 rfl rfl ?_
        refine aw_iconst (v := nI 4) C dL_drafts_311 rfl rfl ?_
        refine an_icmp_ne (a := 4) (b := 4) (tgt := 319) C dL_drafts_312 (by decide) (by decide) (by decide) rfl (fun q => absurd (by decide) q) (fun _ => ?_)
        refine aw_iconst (v := nI 0) C dL_drafts_315 rfl rfl ?_
        refine aw_goto (tgt := 323) C dL_drafts_316 (by decide) ?_
        refine an_mul C dL_drafts_323 rfl ?_
        refine an_add C dL_drafts_324 rfl ?_
        refine an_iast (k := 1) (i := (L.1 10 1)) (N := 24) (v := ((4 + (8 * g)) + (64 * t)) + (512 * 0)) C hM hF rfl rfl (by have := hB 10 1; omega) dL_drafts_325 rfl (fun sg hM hF => ?_)
        refine aw_aload C dL_drafts_326 rfl rfl ?_
        refine aw_iload C dL_drafts_328 rfl rfl ?_
        refine aw_iload C dL_drafts_330 rfl rfl ?_
        refine aw_iconst (v := nI 3) C dL_drafts_332 rfl rfl ?_
        refine an_icmp_ne (a := 4) (b := 3) (tgt := 351) C dL_drafts_333 (by decide) (by decide) (by decide) rfl (fun _ => ?_) (fun q => absurd q (by decide))
        refine aw_sipush (v := nI 128) C dL_drafts_351 rfl rfl ?_
        refine aw_iload C dL_drafts_354 rfl rfl ?_
        refine an_mul C dL_drafts_356 rfl ?_
        refine aw_iload C dL_drafts_357 rfl rfl ?_
        refine an_add C dL_drafts_359 rfl ?_
        refine an_iast (k := 2) (i := (L.1 10 1)) (N := 24) (v := (128 * (1 + (q4 / 3))) + 3) C hM hF rfl rfl (by have := hB 10 1; omega) dL_drafts_360 rfl (fun sg hM hF => ?_)
        refine aw_aload C dL_drafts_361 rfl rfl ?_
        refine aw_iconst (v := nI 1) C dL_drafts_363 rfl rfl ?_
        refine aw_dup2 C dL_drafts_364 rfl rfl rfl ?_
        refine an_iald (k := 10) (i := 1) (N := 5) (v := (L.1 10 1)) C hM rfl rfl (by decide) (by rw [zI_k (by decide)]; exact (by rw [zI_k (by decide)])) dL_drafts_365 rfl ?_
        refine aw_iconst (v := nI 1) C dL_drafts_366 rfl rfl ?_
        refine an_add C dL_drafts_367 rfl ?_
        refine an_iast (k := 10) (i := 1) (N := 5) (v := (L.1 10 1) + 1) C hM hF rfl rfl (by decide) dL_drafts_368 rfl (fun sg hM hF => ?_)
        refine aw_iload C dL_drafts_369 rfl rfl ?_
        exact aw_iret C rfl (Nat.le_of_ble_eq_true rfl) (Nat.le_of_ble_eq_true rfl) ⟨rfl, ad', _, Y', _, (hS1.keepZ hMc hF), e0, hM, hZ.will.next, (hdr.2.1 c123).2, hK.will, (by rw [zI_n (by decide), zI_k (by decide), zI_k (by decide)]; omega), (by rw [zI_n (by decide), zI_k (by decide), zI_k (by decide)]; omega)⟩ dL_drafts_371
    · refine aw_iconst (v := nI 1) C dL_drafts_106 rfl rfl ?_
      exact aw_iret C rfl (Nat.le_of_ble_eq_true rfl) (Nat.le_of_ble_eq_true rfl) ⟨rfl, ad, _, Y, _, hS, rfl, hM, hZ.next, hR, hK, by omega, by omega⟩ dL_drafts_107
set_option maxRecDepth 100000 in
theorem N_drafts {g : Gx} {l : Launch} {ez : Nat} (G : GOK g l ez) {ad : Nat → Nat → Nat} {u : MU} {Y : GS} {L : ZU} {al : Nat → Nat} {sg0 : Sg} {m : Nat} (hS : CS g ez ad u Y sg0) (hM : ZS g al L sg0) (hZ : CZ m u) (hR : ZR L u) (hK : ZKu u) (hT0 : L.1 10 0 ≤ 400 * m) (hT4 : L.1 10 4 ≤ 6000 * m) (hm : m ≤ 130) (hlt : L.1 10 1 < 24) {zz : Int32} : MM g l yL_drafts cL_drafts 16 (some .boolean) rmA sg0 [.ref ((ad 0 0)), .int (zz), .ref (al 0), .ref (al 1), .ref (al 2), .ref (al 10)] (ZA g ez al (ad 0 0) (m + 1)) noX := by
  refine MM.of G.1 G.2.1 (by decide) (Nat.le_of_ble_eq_true rfl) (fun x hg hlx C hin hout hargs => ?_)
  subst hg; subst hlx
  have C : AWC x cL_drafts 16 RL rmA (some .boolean) := C
  have hl := G.1
  have hst := G.2.1
  have hB := hR.B
  show AW x (RQ x (ZA x.g ez al (ad 0 0) (m + 1)) noX 60 12000) 0 0 sg0 0 [(0, .ref ((ad 0 0))), (1, .int (zz)), (2, .ref (al 0)), (3, .ref (al 1)), (4, .ref (al 2)), (5, .ref (al 10))] []
  have k30 : ∀ kd, kd < 5 → AW x (RQ x (ZA x.g ez al (ad 0 0) (m + 1)) noX 60 12000) 0 0 sg0 30 [(0, .ref ((ad 0 0))), (1, .int (zz)), (2, .ref (al 0)), (3, .ref (al 1)), (4, .ref (al 2)), (5, .ref (al 10)), (6, .int (nI ((L.1 10 1))))] [.int (nI (kd))] := by
    intro kd hkd
    match kd, hkd with
    | 0, _ => exact D_0 G C hS hM hZ hR hK hT0 hT4 hm hlt
    | 1, _ => exact D_1 G C hS hM hZ hR hK hT0 hT4 hm hlt
    | 2, _ => exact D_2 G C hS hM hZ hR hK hT0 hT4 hm hlt
    | 3, _ => exact D_3 G C hS hM hZ hR hK hT0 hT4 hm hlt
    | 4, _ => exact D_4 G C hS hM hZ hR hK hT0 hT4 hm hlt
    | kd + 5, h => exact absurd h (by omega)
  refine aw_aload C dL_drafts_0 rfl rfl ?_
  refine aw_iconst (v := nI 1) C dL_drafts_2 rfl rfl ?_
  refine an_iald (k := 10) (i := 1) (N := 5) (v := (L.1 10 1)) C hM rfl rfl (by decide) rfl dL_drafts_3 rfl ?_
  refine aw_istore (ls' := [(6, _), (0, _), (1, _), (2, _), (3, _), (4, _), (5, _)]) C dL_drafts_4 (by decide) rfl rfl ?_
  refine aw_pick (ls' := [(0, _), (1, _), (2, _), (3, _), (4, _), (5, _), (6, _)]) [1, 2, 3, 4, 5, 6, 0] rfl ?_
  refine aw_iload_n C dL_drafts_6 rfl rfl rfl ?_
  refine aw_bipush (v := nI 8) C dL_drafts_7 rfl rfl ?_
  refine cw_callSp C k_L_98 (N_low hl hst (v := zz) (N := 8) (by decide) (by decide)) ⟨by decide, by decide⟩ rfl rfl (Nat.le_of_ble_eq_true rfl) (Nat.le_of_ble_eq_true rfl) (Nat.le_of_ble_eq_true rfl) dL_drafts_9 rfl ?_
  obtain ⟨q8, eq8⟩ : ∃ q, q = n_low zz 8 := ⟨_, rfl⟩
  rw [← eq8]
  have hq8 : q8 < 8 := by rw [eq8]; exact n_low_lt (by decide)
  refine aw_iconst (v := nI 5) C dL_drafts_12 rfl rfl ?_
  refine an_icmp_ge (a := q8) (b := 5) (tgt := 25) C dL_drafts_13 (by omega) (by decide) (by decide) rfl (fun c13 => ?_) (fun c13 => ?_)
  · refine aw_iload_n C dL_drafts_25 rfl rfl rfl ?_
    refine aw_iconst (v := nI 3) C dL_drafts_26 rfl rfl ?_
    refine cw_callSp C k_L_98 (N_low hl hst (v := zz) (N := 3) (by decide) (by decide)) ⟨by decide, by decide⟩ rfl rfl (Nat.le_of_ble_eq_true rfl) (Nat.le_of_ble_eq_true rfl) (Nat.le_of_ble_eq_true rfl) dL_drafts_27 rfl ?_
    obtain ⟨q3, eq3⟩ : ∃ q, q = n_low zz 3 := ⟨_, rfl⟩
    rw [← eq3]
    have hq3 : q3 < 3 := by rw [eq3]; exact n_low_lt (by decide)
    exact k30 q3 (by omega)
  · refine aw_iload_n C dL_drafts_16 rfl rfl rfl ?_
    refine aw_bipush (v := nI 8) C dL_drafts_17 rfl rfl ?_
    refine cw_callSp C k_L_98 (N_low hl hst (v := zz) (N := 8) (by decide) (by decide)) ⟨by decide, by decide⟩ rfl rfl (Nat.le_of_ble_eq_true rfl) (Nat.le_of_ble_eq_true rfl) (Nat.le_of_ble_eq_true rfl) dL_drafts_19 rfl ?_
    obtain ⟨q8b, eq8b⟩ : ∃ q, q = n_low zz 8 := ⟨_, rfl⟩
    rw [← eq8b]
    have hq8b : q8b < 8 := by rw [eq8b]; exact n_low_lt (by decide)
    refine aw_goto (tgt := 30) C dL_drafts_22 (by decide) ?_
    exact k30 q8b (by rw [eq8b, ← eq8]; exact c13)
