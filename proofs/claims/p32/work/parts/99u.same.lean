/-! same: all that is told -/
def rmS : Room := { frames := 10, cells := 2900, slots := 21800, locals := 428 }
def n_same_167_s0 (k : Nat) : Int32 := (if k < 6 then (nI k) else (-1))
def v_same_531 (L : ZU) (d : Nat) : Int32 := n_same_531_s0 L d
def v_same_610 (L : ZU) (d : Nat) : Bool := n_same_610_s0 L d
def v_same_657 (L : ZU) (d : Nat) : Nat := n_same_657_s0 L d
def v_same_704 (L : ZU) (d : Nat) : Nat := n_same_704_s0 L d
set_option maxRecDepth 100000 in
theorem S_able {x : Cx} {Q : State → Prop} {ez : Nat} (G : GOK x.g x.l ez) (C : AWC x cL_same 21 RL rmS (some .boolean)) {q N : Nat} {u : MU} {L : ZU} {al : Nat → Nat} {zz : Int32} (hZ : CZ N u) (hR : ZR L u) (next : ∀ sg, SV x.g ez al q u L sg → AW x Q (48) (360) sg 76 [(0, .ref (q)), (1, .int (zz)), (2, .ref (al 0)), (3, .ref (al 1)), (4, .ref (al 2)), (5, .ref (al 3)), (6, .ref (al 4)), (7, .ref (al 5)), (8, .ref (al 6)), (9, .ref (al 7)), (10, .ref (al 8)), (11, .ref (al 9)), (12, .ref (al 10)), (13, .ref (al 11)), (14, .ref (al 12)), (15, .int (nI (1)))] []) : ∀ (r k : Nat) (sg : Sg), k + r = 6 → SV x.g ez al q u L sg → AW x Q (8 * k) (60 * k) sg 34 [(0, .ref (q)), (1, .int (zz)), (2, .ref (al 0)), (3, .ref (al 1)), (4, .ref (al 2)), (5, .ref (al 3)), (6, .ref (al 4)), (7, .ref (al 5)), (8, .ref (al 6)), (9, .ref (al 7)), (10, .ref (al 8)), (11, .ref (al 9)), (12, .ref (al 10)), (13, .ref (al 11)), (14, .ref (al 12)), (15, .int (nI (1))), (16, .int (nI (k)))] [] := by
  have hl := G.1
  have hst := G.2.1
  have hB := hR.B
  have hc := hR.hc
  have hn3 := hR.ne.2
  have hn1 := hR.nd.2
  have z1 : (rmZ 1).cells = 0 ∧ (rmZ 1).slots = 0 := ⟨rfl, rfl⟩
  have z2 : (rmZ 2).cells = 0 ∧ (rmZ 2).slots = 0 := ⟨rfl, rfl⟩
  have hJ : ∀ i, L.2 i < 2 ^ 62 := fun i => Nat.lt_of_le_of_lt (hR.bJ hZ i) (by decide)
  intro r
  induction r with
  | zero =>
    intro k sg hk hV
    have c9001 : ¬ k < 6 := by omega
    refine aw_iload C dL_same_34 rfl rfl ?_
    refine aw_bipush (v := nI 6) C dL_same_36 rfl rfl ?_
    refine an_icmp_ge (a := k) (b := 6) (tgt := 76) C dL_same_38 (by omega) (by decide) (by decide) rfl (fun _ => ?_) (fun q => absurd q c9001)
    refine aw_pick (ls' := [(0, _), (1, _), (2, _), (3, _), (4, _), (5, _), (6, _), (7, _), (8, _), (9, _), (10, _), (11, _), (12, _), (13, _), (14, _), (15, _)]) [0, 1, 2, 3, 4, 5, 6, 7, 8, 9, 10, 11, 12, 13, 14, 15] rfl ?_
    exact aw_widen (by omega) (by omega) (next sg hV)
  | succ r ih =>
    intro k sg hk hV
    have hM := hV.M
    have c9001 : k < 6 := by omega
    refine aw_iload C dL_same_34 rfl rfl ?_
    refine aw_bipush (v := nI 6) C dL_same_36 rfl rfl ?_
    refine an_icmp_ge (a := k) (b := 6) (tgt := 76) C dL_same_38 (by omega) (by decide) (by decide) rfl (fun q => absurd c9001 q) (fun _ => ?_)
    refine aw_iload C dL_same_41 rfl rfl ?_
    refine an_if_eq (a := 1) (tgt := 76) C dL_same_43 (by decide) (by decide) rfl (fun q => absurd q (by decide)) (fun _ => ?_)
    refine aw_aload_n C dL_same_46 rfl rfl rfl ?_
    refine aw_iload C dL_same_47 rfl rfl ?_
    refine aw_ro C k_L_128 hV (fun ad Y hS => F_isAble G hS hZ.1 (v := nI (k))) (q_isAble hZ hR c9001) ⟨by decide, by decide⟩ rfl rfl rfl (Nat.le_of_ble_eq_true rfl) (show (8 * k) + 8 ≤ 2900 by omega) (show (60 * k) + 60 ≤ 21800 by omega) dL_same_49 rfl (fun sg hV => ?_)
    have hM := hV.M
    refine aw_iload C dL_same_52 rfl rfl ?_
    refine aw_aload_n C dL_same_54 rfl rfl rfl ?_
    refine aw_aload C dL_same_55 rfl rfl ?_
    refine cw_callSp C k_L_69 (N_able hl hst hM hB (x0 := k) (by omega)) ⟨by decide, by decide⟩ rfl rfl (Nat.le_of_ble_eq_true rfl) (show ((8 * k) + 8) + 0 ≤ 2900 by omega) (show ((60 * k) + 60) + 0 ≤ 21800 by omega) dL_same_57 rfl ?_
    refine aw_icmp_ne (tgt := 67) C dL_same_60 (by decide) rfl (fun q => absurd rfl q) (fun _ => ?_)
    refine aw_iconst (v := nI 1) C dL_same_63 rfl rfl ?_
    refine aw_goto (tgt := 68) C dL_same_64 (by decide) ?_
    refine aw_istore (ls' := [(15, _), (0, _), (1, _), (2, _), (3, _), (4, _), (5, _), (6, _), (7, _), (8, _), (9, _), (10, _), (11, _), (12, _), (13, _), (14, _), (16, _)]) C dL_same_68 (by decide) rfl rfl ?_
    refine aw_pick (ls' := [(0, _), (1, _), (2, _), (3, _), (4, _), (5, _), (6, _), (7, _), (8, _), (9, _), (10, _), (11, _), (12, _), (13, _), (14, _), (15, _), (16, _)]) [1, 2, 3, 4, 5, 6, 7, 8, 9, 10, 11, 12, 13, 14, 15, 0, 16] rfl ?_
    refine aw_iinc (v' := nI (k + 1)) (ls' := [(16, _), (0, _), (1, _), (2, _), (3, _), (4, _), (5, _), (6, _), (7, _), (8, _), (9, _), (10, _), (11, _), (12, _), (13, _), (14, _), (15, _)]) C dL_same_70 rfl (by decide) (nI_add (k) 1) rfl rfl ?_
    refine aw_pick (ls' := [(0, _), (1, _), (2, _), (3, _), (4, _), (5, _), (6, _), (7, _), (8, _), (9, _), (10, _), (11, _), (12, _), (13, _), (14, _), (15, _), (16, _)]) [1, 2, 3, 4, 5, 6, 7, 8, 9, 10, 11, 12, 13, 14, 15, 16, 0] rfl ?_
    refine aw_goto (tgt := 34) C dL_same_73 (by decide) ?_
    exact aw_widen (by omega) (by omega) (ih (k + 1) sg (by omega) hV)
set_option maxRecDepth 100000 in
theorem S_shares {x : Cx} {Q : State → Prop} {ez : Nat} (G : GOK x.g x.l ez) (C : AWC x cL_same 21 RL rmS (some .boolean)) {q N : Nat} {u : MU} {L : ZU} {al : Nat → Nat} {zz : Int32} (hZ : CZ N u) (hR : ZR L u) {t c n : Nat} (ht : t < 2) (hcc : c + 112 ≤ 2900) (hnn : n + 840 ≤ 21800) (next : ∀ sg, SV x.g ez al q u L sg → AW x Q (c + 112) (n + 840) sg 207 [(0, .ref (q)), (1, .int (zz)), (2, .ref (al 0)), (3, .ref (al 1)), (4, .ref (al 2)), (5, .ref (al 3)), (6, .ref (al 4)), (7, .ref (al 5)), (8, .ref (al 6)), (9, .ref (al 7)), (10, .ref (al 8)), (11, .ref (al 9)), (12, .ref (al 10)), (13, .ref (al 11)), (14, .ref (al 12)), (15, .int (nI (1))), (16, .int (nI (t))), (17, .int (nI (0)))] []) : ∀ (r k : Nat) (sg : Sg), k + r = 7 → SV x.g ez al q u L sg → AW x Q (c + 16 * k) (n + 120 * k) sg 96 [(0, .ref (q)), (1, .int (zz)), (2, .ref (al 0)), (3, .ref (al 1)), (4, .ref (al 2)), (5, .ref (al 3)), (6, .ref (al 4)), (7, .ref (al 5)), (8, .ref (al 6)), (9, .ref (al 7)), (10, .ref (al 8)), (11, .ref (al 9)), (12, .ref (al 10)), (13, .ref (al 11)), (14, .ref (al 12)), (15, .int (nI (1))), (16, .int (nI (t))), (17, .int (nI (0))), (18, .int (nI (k)))] [] := by
  have hl := G.1
  have hst := G.2.1
  have hB := hR.B
  have hc := hR.hc
  have hn3 := hR.ne.2
  have hn1 := hR.nd.2
  have z1 : (rmZ 1).cells = 0 ∧ (rmZ 1).slots = 0 := ⟨rfl, rfl⟩
  have z2 : (rmZ 2).cells = 0 ∧ (rmZ 2).slots = 0 := ⟨rfl, rfl⟩
  have hJ : ∀ i, L.2 i < 2 ^ 62 := fun i => Nat.lt_of_le_of_lt (hR.bJ hZ i) (by decide)
  intro r
  induction r with
  | zero =>
    intro k sg hk hV
    have c9001 : ¬ k < 7 := by omega
    refine aw_iload C dL_same_96 rfl rfl ?_
    refine aw_bipush (v := nI 7) C dL_same_98 rfl rfl ?_
    refine an_icmp_ge (a := k) (b := 7) (tgt := 207) C dL_same_100 (by omega) (by decide) (by decide) rfl (fun _ => ?_) (fun q => absurd q c9001)
    refine aw_pick (ls' := [(0, _), (1, _), (2, _), (3, _), (4, _), (5, _), (6, _), (7, _), (8, _), (9, _), (10, _), (11, _), (12, _), (13, _), (14, _), (15, _), (16, _), (17, _)]) [0, 1, 2, 3, 4, 5, 6, 7, 8, 9, 10, 11, 12, 13, 14, 15, 16, 17] rfl ?_
    exact aw_widen (by omega) (by omega) (next sg hV)
  | succ r ih =>
    intro k sg hk hV
    have hM := hV.M
    have c9001 : k < 7 := by omega
    obtain ⟨f1, f2, f3, -⟩ := hR.ff hZ ht c9001
    have hbe := f1.below
    have hnu := f1.num.1
    have hq0 := f1.num.2
    have hp0 : 0 < n_below (L.2 ((7 * t) + k)) := by rw [hbe]; exact f1.2.1
    have hb : n_below (L.2 ((7 * t) + k)) ≤ 1000000 := by rw [hbe]; exact f3
    have hqq : ((L.2 ((7 * t) + k)) / (PARTS / (n_below (L.2 ((7 * t) + k))))) ≤ 1000000 := by rw [hnu]; exact Nat.le_trans f2 f3
    refine aw_iload C dL_same_96 rfl rfl ?_
    refine aw_bipush (v := nI 7) C dL_same_98 rfl rfl ?_
    refine an_icmp_ge (a := k) (b := 7) (tgt := 207) C dL_same_100 (by omega) (by decide) (by decide) rfl (fun q => absurd c9001 q) (fun _ => ?_)
    refine aw_iload C dL_same_103 rfl rfl ?_
    refine an_if_eq (a := 1) (tgt := 207) C dL_same_105 (by decide) (by decide) rfl (fun q => absurd q (by decide)) (fun _ => ?_)
    refine aw_aload C dL_same_108 rfl rfl ?_
    refine aw_bipush (v := nI 7) C dL_same_110 rfl rfl ?_
    refine aw_iload C dL_same_112 rfl rfl ?_
    refine an_mul C dL_same_114 rfl ?_
    refine aw_iload C dL_same_115 rfl rfl ?_
    refine an_add C dL_same_117 rfl ?_
    refine an_lald (i := (7 * t) + k) (v := (L.2 ((7 * t) + k))) C hM (by omega) rfl dL_same_118 rfl ?_
    refine cw_callSp C k_L_82 (N_below hl hst (s := (L.2 ((7 * t) + k))) (by have := hJ ((7 * t) + k); omega)) ⟨by decide, by decide⟩ rfl rfl (Nat.le_of_ble_eq_true rfl) (show (c + 16 * k) + 0 ≤ 2900 by omega) (show (n + 120 * k) + 0 ≤ 21800 by omega) dL_same_119 rfl ?_
    refine aw_lstore (ls' := [(19, _), (0, _), (1, _), (2, _), (3, _), (4, _), (5, _), (6, _), (7, _), (8, _), (9, _), (10, _), (11, _), (12, _), (13, _), (14, _), (15, _), (16, _), (17, _), (18, _)]) C dL_same_122 (by decide) rfl rfl ?_
    refine aw_pick (ls' := [(0, _), (1, _), (2, _), (3, _), (4, _), (5, _), (6, _), (7, _), (8, _), (9, _), (10, _), (11, _), (12, _), (13, _), (14, _), (15, _), (16, _), (17, _), (18, _), (19, _)]) [1, 2, 3, 4, 5, 6, 7, 8, 9, 10, 11, 12, 13, 14, 15, 16, 17, 18, 19, 0] rfl ?_
    refine aw_aload_n C dL_same_124 rfl rfl rfl ?_
    refine aw_iload C dL_same_125 rfl rfl ?_
    refine aw_iload C dL_same_127 rfl rfl ?_
    refine aw_bipush (v := nI 6) C dL_same_129 rfl rfl ?_
    have K140_1 : AW x Q (c + 16 * k) (n + 120 * k) sg 140 [(0, .ref (q)), (1, .int (zz)), (2, .ref (al 0)), (3, .ref (al 1)), (4, .ref (al 2)), (5, .ref (al 3)), (6, .ref (al 4)), (7, .ref (al 5)), (8, .ref (al 6)), (9, .ref (al 7)), (10, .ref (al 8)), (11, .ref (al 9)), (12, .ref (al 10)), (13, .ref (al 11)), (14, .ref (al 12)), (16, .int (nI (t))), (17, .int (nI (0))), (18, .int (nI (k))), (19, .long (lN (n_below (L.2 ((7 * t) + k)))))] [.int ((n_same_140_s0 k)), .int (nI (t)), .ref (q)] := by
      refine aw_iconst (v := nI 1) C dL_same_140 rfl rfl ?_
      refine aw_ro C k_L_132 hV (fun ad Y hS => F_share G hS hZ.1 (v := nI (t)) (w := (n_same_140_s0 k)) (fl := true)) ((q_share hZ hR ht c9001).1) ⟨by decide, by decide⟩ rfl rfl rfl (Nat.le_of_ble_eq_true rfl) (show (c + 16 * k) + 8 ≤ 2900 by omega) (show (n + 120 * k) + 60 ≤ 21800 by omega) dL_same_141 rfl (fun sg hV => ?_)
      have hM := hV.M
      refine an_i2l C (by have := hJ ((7 * t) + k); omega) dL_same_144 rfl ?_
      refine aw_lload C dL_same_145 rfl rfl ?_
      refine an_lc_ne (p1 := 147) (a := (n_below (L.2 ((7 * t) + k)))) (b := n_below (L.2 ((7 * t) + k))) (tgt := 198) C dL_same_147 rfl dL_same_148 (by omega) (by omega) (by decide) rfl (fun q => absurd rfl q) (fun _ => ?_)
      refine aw_aload_n C dL_same_151 rfl rfl rfl ?_
      refine aw_iload C dL_same_152 rfl rfl ?_
      refine aw_iload C dL_same_154 rfl rfl ?_
      refine aw_bipush (v := nI 6) C dL_same_156 rfl rfl ?_
      have K167_2 : AW x Q ((c + 16 * k) + 8) ((n + 120 * k) + 60) sg 167 [(0, .ref (q)), (1, .int (zz)), (2, .ref (al 0)), (3, .ref (al 1)), (4, .ref (al 2)), (5, .ref (al 3)), (6, .ref (al 4)), (7, .ref (al 5)), (8, .ref (al 6)), (9, .ref (al 7)), (10, .ref (al 8)), (11, .ref (al 9)), (12, .ref (al 10)), (13, .ref (al 11)), (14, .ref (al 12)), (16, .int (nI (t))), (17, .int (nI (0))), (18, .int (nI (k))), (19, .long (lN (n_below (L.2 ((7 * t) + k)))))] [.int ((n_same_167_s0 k)), .int (nI (t)), .ref (q)] := by
        refine aw_iconst (v := nI 0) C dL_same_167 rfl rfl ?_
        refine aw_ro C k_L_132 hV (fun ad Y hS => F_share G hS hZ.1 (v := nI (t)) (w := (n_same_167_s0 k)) (fl := false)) ((q_share hZ hR ht c9001).2) ⟨by decide, by decide⟩ rfl rfl rfl (Nat.le_of_ble_eq_true rfl) (show ((c + 16 * k) + 8) + 8 ≤ 2900 by omega) (show ((n + 120 * k) + 60) + 60 ≤ 21800 by omega) dL_same_168 rfl (fun sg hV => ?_)
        have hM := hV.M
        refine an_i2l C (by have := hJ ((7 * t) + k); omega) dL_same_171 rfl ?_
        refine aw_aload C dL_same_172 rfl rfl ?_
        refine aw_bipush (v := nI 7) C dL_same_174 rfl rfl ?_
        refine aw_iload C dL_same_176 rfl rfl ?_
        refine an_mul C dL_same_178 rfl ?_
        refine aw_iload C dL_same_179 rfl rfl ?_
        refine an_add C dL_same_181 rfl ?_
        refine an_lald (i := (7 * t) + k) (v := (L.2 ((7 * t) + k))) C hM (by omega) rfl dL_same_182 rfl ?_
        refine aw_ldc2 (v := lN PARTS) C dL_same_183 q_L_77 rfl ?_
        refine aw_lload C dL_same_186 rfl rfl ?_
        refine an_ldiv C (by decide) hp0 (by omega) dL_same_188 rfl ?_
        refine an_ldiv C (by have := hJ ((7 * t) + k); omega) hq0 (Nat.lt_of_le_of_lt (Nat.div_le_self _ _) (by decide)) dL_same_189 rfl ?_
        refine an_lc_ne (p1 := 190) (a := ((L.2 ((7 * t) + k)) / (PARTS / (n_below (L.2 ((7 * t) + k)))))) (b := (L.2 ((7 * t) + k)) / (PARTS / (n_below (L.2 ((7 * t) + k))))) (tgt := 198) C dL_same_190 rfl dL_same_191 (by omega) (by omega) (by decide) rfl (fun q => absurd rfl q) (fun _ => ?_)
        refine aw_iconst (v := nI 1) C dL_same_194 rfl rfl ?_
        refine aw_goto (tgt := 199) C dL_same_195 (by decide) ?_
        refine aw_istore (ls' := [(15, _), (0, _), (1, _), (2, _), (3, _), (4, _), (5, _), (6, _), (7, _), (8, _), (9, _), (10, _), (11, _), (12, _), (13, _), (14, _), (16, _), (17, _), (18, _), (19, _)]) C dL_same_199 (by decide) rfl rfl ?_
        refine aw_pick (ls' := [(0, _), (1, _), (2, _), (3, _), (4, _), (5, _), (6, _), (7, _), (8, _), (9, _), (10, _), (11, _), (12, _), (13, _), (14, _), (15, _), (16, _), (17, _), (18, _), (19, _)]) [1, 2, 3, 4, 5, 6, 7, 8, 9, 10, 11, 12, 13, 14, 15, 0, 16, 17, 18, 19] rfl ?_
        refine aw_iinc (v' := nI (k + 1)) (ls' := [(18, _), (0, _), (1, _), (2, _), (3, _), (4, _), (5, _), (6, _), (7, _), (8, _), (9, _), (10, _), (11, _), (12, _), (13, _), (14, _), (15, _), (16, _), (17, _), (19, _)]) C dL_same_201 rfl (by decide) (nI_add (k) 1) rfl rfl ?_
        refine aw_pick (ls' := [(0, _), (1, _), (2, _), (3, _), (4, _), (5, _), (6, _), (7, _), (8, _), (9, _), (10, _), (11, _), (12, _), (13, _), (14, _), (15, _), (16, _), (17, _), (18, _), (19, _)]) [1, 2, 3, 4, 5, 6, 7, 8, 9, 10, 11, 12, 13, 14, 15, 16, 17, 18, 0, 19] rfl ?_
        refine aw_goto (tgt := 96) C dL_same_204 (by decide) ?_
        refine aw_pick (ls' := [(0, _), (1, _), (2, _), (3, _), (4, _), (5, _), (6, _), (7, _), (8, _), (9, _), (10, _), (11, _), (12, _), (13, _), (14, _), (15, _), (16, _), (17, _), (18, _)]) [0, 1, 2, 3, 4, 5, 6, 7, 8, 9, 10, 11, 12, 13, 14, 15, 16, 17, 18] rfl ?_
        exact aw_widen (by omega) (by omega) (ih (k + 1) sg (by omega) hV)
      refine an_icmp_ge (a := k) (b := 6) (tgt := 166) C dL_same_158 (by omega) (by decide) (by decide) rfl (fun c158 => ?_) (fun c158 => ?_)
      · refine aw_iconst (v := -1) C dL_same_166 rfl rfl ?_
        have k9 := K167_2
        rw [show (n_same_167_s0 k) = (-1) from by rw [n_same_167_s0, if_neg c158]] at k9
        exact k9
      · refine aw_iload C dL_same_161 rfl rfl ?_
        refine aw_goto (tgt := 167) C dL_same_163 (by decide) ?_
        have k9 := K167_2
        rw [show (n_same_167_s0 k) = (nI k) from by rw [n_same_167_s0, if_pos c158]] at k9
        exact k9
    refine an_icmp_ge (a := k) (b := 6) (tgt := 139) C dL_same_131 (by omega) (by decide) (by decide) rfl (fun c131 => ?_) (fun c131 => ?_)
    · refine aw_iconst (v := -1) C dL_same_139 rfl rfl ?_
      refine aw_pick (ls' := [(0, _), (1, _), (2, _), (3, _), (4, _), (5, _), (6, _), (7, _), (8, _), (9, _), (10, _), (11, _), (12, _), (13, _), (14, _), (16, _), (17, _), (18, _), (19, _)]) [0, 1, 2, 3, 4, 5, 6, 7, 8, 9, 10, 11, 12, 13, 14, 16, 17, 18, 19] rfl ?_
      have k9 := K140_1
      rw [show (n_same_140_s0 k) = (-1) from by rw [n_same_140_s0, if_neg c131]] at k9
      exact k9
    · refine aw_iload C dL_same_134 rfl rfl ?_
      refine aw_goto (tgt := 140) C dL_same_136 (by decide) ?_
      refine aw_pick (ls' := [(0, _), (1, _), (2, _), (3, _), (4, _), (5, _), (6, _), (7, _), (8, _), (9, _), (10, _), (11, _), (12, _), (13, _), (14, _), (16, _), (17, _), (18, _), (19, _)]) [0, 1, 2, 3, 4, 5, 6, 7, 8, 9, 10, 11, 12, 13, 14, 16, 17, 18, 19] rfl ?_
      have k9 := K140_1
      rw [show (n_same_140_s0 k) = (nI k) from by rw [n_same_140_s0, if_pos c131]] at k9
      exact k9
set_option maxRecDepth 100000 in
theorem S_pledges {x : Cx} {Q : State → Prop} {ez : Nat} (G : GOK x.g x.l ez) (C : AWC x cL_same 21 RL rmS (some .boolean)) {q N : Nat} {u : MU} {L : ZU} {al : Nat → Nat} {zz : Int32} (hZ : CZ N u) (hR : ZR L u) {t c n : Nat} (ht : t < 2) (hcc : c + 240 ≤ 2900) (hnn : n + 1800 ≤ 21800) (next : ∀ sg, SV x.g ez al q u L sg → AW x Q (c + 240) (n + 1800) sg 312 [(0, .ref (q)), (1, .int (zz)), (2, .ref (al 0)), (3, .ref (al 1)), (4, .ref (al 2)), (5, .ref (al 3)), (6, .ref (al 4)), (7, .ref (al 5)), (8, .ref (al 6)), (9, .ref (al 7)), (10, .ref (al 8)), (11, .ref (al 9)), (12, .ref (al 10)), (13, .ref (al 11)), (14, .ref (al 12)), (15, .int (nI (1))), (16, .int (nI (t)))] []) : ∀ (r k : Nat) (sg : Sg), k + r = (L.1 10 3) → SV x.g ez al q u L sg → AW x Q (c + 8 * k) (n + 60 * k) sg 210 [(0, .ref (q)), (1, .int (zz)), (2, .ref (al 0)), (3, .ref (al 1)), (4, .ref (al 2)), (5, .ref (al 3)), (6, .ref (al 4)), (7, .ref (al 5)), (8, .ref (al 6)), (9, .ref (al 7)), (10, .ref (al 8)), (11, .ref (al 9)), (12, .ref (al 10)), (13, .ref (al 11)), (14, .ref (al 12)), (15, .int (nI (1))), (16, .int (nI (t))), (17, .int (nI ((rkN L t k)))), (18, .int (nI (k)))] [] := by
  have hl := G.1
  have hst := G.2.1
  have hB := hR.B
  have hc := hR.hc
  have hn3 := hR.ne.2
  have hn1 := hR.nd.2
  have z1 : (rmZ 1).cells = 0 ∧ (rmZ 1).slots = 0 := ⟨rfl, rfl⟩
  have z2 : (rmZ 2).cells = 0 ∧ (rmZ 2).slots = 0 := ⟨rfl, rfl⟩
  have hJ : ∀ i, L.2 i < 2 ^ 62 := fun i => Nat.lt_of_le_of_lt (hR.bJ hZ i) (by decide)
  intro r
  induction r with
  | zero =>
    intro k sg hk hV
    obtain rfl : k = L.1 10 3 := by omega
    have hM := hV.M
    have c9001 : ¬ (L.1 10 3) < (L.1 10 3) := Nat.lt_irrefl _
    refine aw_iload C dL_same_210 rfl rfl ?_
    refine aw_aload C dL_same_212 rfl rfl ?_
    refine aw_iconst (v := nI 3) C dL_same_214 rfl rfl ?_
    refine an_iald (k := 10) (i := 3) (N := 5) (v := (L.1 10 3)) C hM rfl rfl (by decide) rfl dL_same_215 rfl ?_
    refine an_icmp_ge (a := (L.1 10 3)) (b := (L.1 10 3)) (tgt := 288) C dL_same_216 (by have := hB 10 3; omega) (by have := hB 10 3; omega) (by decide) rfl (fun _ => ?_) (fun q => absurd q c9001)
    refine aw_iload C dL_same_288 rfl rfl ?_
    refine an_if_eq (a := 1) (tgt := 309) C dL_same_290 (by decide) (by decide) rfl (fun q => absurd q (by decide)) (fun _ => ?_)
    refine aw_aload_n C dL_same_293 rfl rfl rfl ?_
    refine aw_iload C dL_same_294 rfl rfl ?_
    refine aw_iload C dL_same_296 rfl rfl ?_
    refine aw_ro C k_L_136 hV (fun ad Y hS => F_pledge G hS hZ.1 (v := nI (t)) (w := nI ((rkN L t (L.1 10 3))))) (q_pledge0 hZ hR ht) ⟨by decide, by decide⟩ rfl rfl rfl (Nat.le_of_ble_eq_true rfl) (show (c + 8 * (L.1 10 3)) + 8 ≤ 2900 by omega) (show (n + 60 * (L.1 10 3)) + 60 ≤ 21800 by omega) dL_same_298 rfl (fun sg hV => ?_)
    have hM := hV.M
    refine aw_iconst (v := -1) C dL_same_301 rfl rfl ?_
    refine aw_icmp_ne (tgt := 309) C dL_same_302 (by decide) rfl (fun q => absurd rfl q) (fun _ => ?_)
    refine aw_iconst (v := nI 1) C dL_same_305 rfl rfl ?_
    refine aw_goto (tgt := 310) C dL_same_306 (by decide) ?_
    refine aw_istore (ls' := [(15, _), (0, _), (1, _), (2, _), (3, _), (4, _), (5, _), (6, _), (7, _), (8, _), (9, _), (10, _), (11, _), (12, _), (13, _), (14, _), (16, _), (17, _), (18, _)]) C dL_same_310 (by decide) rfl rfl ?_
    refine aw_pick (ls' := [(0, _), (1, _), (2, _), (3, _), (4, _), (5, _), (6, _), (7, _), (8, _), (9, _), (10, _), (11, _), (12, _), (13, _), (14, _), (15, _), (16, _), (17, _), (18, _)]) [1, 2, 3, 4, 5, 6, 7, 8, 9, 10, 11, 12, 13, 14, 15, 0, 16, 17, 18] rfl ?_
    refine aw_pick (ls' := [(0, _), (1, _), (2, _), (3, _), (4, _), (5, _), (6, _), (7, _), (8, _), (9, _), (10, _), (11, _), (12, _), (13, _), (14, _), (15, _), (16, _)]) [0, 1, 2, 3, 4, 5, 6, 7, 8, 9, 10, 11, 12, 13, 14, 15, 16] rfl ?_
    exact aw_widen (by omega) (by omega) (next sg hV)
  | succ r ih =>
    intro k sg hk hV
    have hM := hV.M
    have c9001 : k < (L.1 10 3) := by omega
    refine aw_iload C dL_same_210 rfl rfl ?_
    refine aw_aload C dL_same_212 rfl rfl ?_
    refine aw_iconst (v := nI 3) C dL_same_214 rfl rfl ?_
    refine an_iald (k := 10) (i := 3) (N := 5) (v := (L.1 10 3)) C hM rfl rfl (by decide) rfl dL_same_215 rfl ?_
    refine an_icmp_ge (a := k) (b := (L.1 10 3)) (tgt := 288) C dL_same_216 (by omega) (by have := hB 10 3; omega) (by decide) rfl (fun q => absurd c9001 q) (fun _ => ?_)
    refine aw_iload C dL_same_219 rfl rfl ?_
    refine an_if_eq (a := 1) (tgt := 288) C dL_same_221 (by decide) (by decide) rfl (fun q => absurd q (by decide)) (fun _ => ?_)
    refine aw_aload C dL_same_224 rfl rfl ?_
    refine aw_iload C dL_same_226 rfl rfl ?_
    refine an_iald (k := 12) (i := k) (N := 32) (v := (L.1 12 k)) C hM rfl rfl (by omega) rfl dL_same_228 rfl ?_
    refine aw_bipush (v := nI 8) C dL_same_229 rfl rfl ?_
    refine an_rem C (by have := hB 12 k; omega) (by decide) (by decide) dL_same_231 rfl ?_
    refine aw_iconst (v := nI 2) C dL_same_232 rfl rfl ?_
    refine an_icmp_ne (a := (L.1 12 k) % 8) (b := 2) (tgt := 282) C dL_same_233 (by have := hB 12 k; omega) (by decide) (by decide) rfl (fun c233 => ?_) (fun c233 => ?_)
    · refine aw_iinc (v' := nI (k + 1)) (ls' := [(18, _), (0, _), (1, _), (2, _), (3, _), (4, _), (5, _), (6, _), (7, _), (8, _), (9, _), (10, _), (11, _), (12, _), (13, _), (14, _), (15, _), (16, _), (17, _)]) C dL_same_282 rfl (by decide) (nI_add (k) 1) rfl rfl ?_
      refine aw_pick (ls' := [(0, _), (1, _), (2, _), (3, _), (4, _), (5, _), (6, _), (7, _), (8, _), (9, _), (10, _), (11, _), (12, _), (13, _), (14, _), (15, _), (16, _), (17, _), (18, _)]) [1, 2, 3, 4, 5, 6, 7, 8, 9, 10, 11, 12, 13, 14, 15, 16, 17, 18, 0] rfl ?_
      refine aw_goto (tgt := 210) C dL_same_285 (by decide) ?_
      have e : rkN L t (k + 1) = rkN L t k := by rw [rkN, if_neg (fun z => c233 z.1), Nat.add_zero]
      have qq := ih (k + 1) sg (by omega) hV
      rw [e] at qq
      exact aw_widen (by omega) (by omega) qq
    · refine aw_aload C dL_same_236 rfl rfl ?_
      refine aw_iload C dL_same_238 rfl rfl ?_
      refine an_iald (k := 12) (i := k) (N := 32) (v := (L.1 12 k)) C hM rfl rfl (by omega) rfl dL_same_240 rfl ?_
      refine aw_sipush (v := nI 512) C dL_same_241 rfl rfl ?_
      refine an_div C (by have := hB 12 k; omega) (by decide) (by decide) dL_same_244 rfl ?_
      refine aw_iload C dL_same_245 rfl rfl ?_
      refine an_icmp_ne (a := (L.1 12 k) / 512) (b := t) (tgt := 282) C dL_same_247 (by have := hB 12 k; omega) (by omega) (by decide) rfl (fun c247 => ?_) (fun c247 => ?_)
      · refine aw_iinc (v' := nI (k + 1)) (ls' := [(18, _), (0, _), (1, _), (2, _), (3, _), (4, _), (5, _), (6, _), (7, _), (8, _), (9, _), (10, _), (11, _), (12, _), (13, _), (14, _), (15, _), (16, _), (17, _)]) C dL_same_282 rfl (by decide) (nI_add (k) 1) rfl rfl ?_
        refine aw_pick (ls' := [(0, _), (1, _), (2, _), (3, _), (4, _), (5, _), (6, _), (7, _), (8, _), (9, _), (10, _), (11, _), (12, _), (13, _), (14, _), (15, _), (16, _), (17, _), (18, _)]) [1, 2, 3, 4, 5, 6, 7, 8, 9, 10, 11, 12, 13, 14, 15, 16, 17, 18, 0] rfl ?_
        refine aw_goto (tgt := 210) C dL_same_285 (by decide) ?_
        have e : rkN L t (k + 1) = rkN L t k := by rw [rkN, if_neg (fun z => c247 z.2), Nat.add_zero]
        have qq := ih (k + 1) sg (by omega) hV
        rw [e] at qq
        exact aw_widen (by omega) (by omega) qq
      · refine aw_aload_n C dL_same_250 rfl rfl rfl ?_
        refine aw_iload C dL_same_251 rfl rfl ?_
        refine aw_iload C dL_same_253 rfl rfl ?_
        refine aw_ro C k_L_136 hV (fun ad Y hS => F_pledge G hS hZ.1 (v := nI (t)) (w := nI ((rkN L t k)))) (q_pledge hZ hR ht c9001 ⟨c233, c247⟩) ⟨by decide, by decide⟩ rfl rfl rfl (Nat.le_of_ble_eq_true rfl) (show (c + 8 * k) + 8 ≤ 2900 by omega) (show (n + 60 * k) + 60 ≤ 21800 by omega) dL_same_255 rfl (fun sg hV => ?_)
        have hM := hV.M
        refine aw_aload C dL_same_258 rfl rfl ?_
        refine aw_iload C dL_same_260 rfl rfl ?_
        refine an_iald (k := 12) (i := k) (N := 32) (v := (L.1 12 k)) C hM rfl rfl (by omega) rfl dL_same_262 rfl ?_
        refine aw_bipush (v := nI 8) C dL_same_263 rfl rfl ?_
        refine an_div C (by have := hB 12 k; omega) (by decide) (by decide) dL_same_265 rfl ?_
        refine aw_bipush (v := nI 64) C dL_same_266 rfl rfl ?_
        refine an_rem C (by have := hB 12 k; omega) (by decide) (by decide) dL_same_268 rfl ?_
        refine aw_icmp_ne (tgt := 276) C dL_same_269 (by decide) rfl (fun q => absurd rfl q) (fun _ => ?_)
        refine aw_iconst (v := nI 1) C dL_same_272 rfl rfl ?_
        refine aw_goto (tgt := 277) C dL_same_273 (by decide) ?_
        refine aw_istore (ls' := [(15, _), (0, _), (1, _), (2, _), (3, _), (4, _), (5, _), (6, _), (7, _), (8, _), (9, _), (10, _), (11, _), (12, _), (13, _), (14, _), (16, _), (17, _), (18, _)]) C dL_same_277 (by decide) rfl rfl ?_
        refine aw_pick (ls' := [(0, _), (1, _), (2, _), (3, _), (4, _), (5, _), (6, _), (7, _), (8, _), (9, _), (10, _), (11, _), (12, _), (13, _), (14, _), (15, _), (16, _), (17, _), (18, _)]) [1, 2, 3, 4, 5, 6, 7, 8, 9, 10, 11, 12, 13, 14, 15, 0, 16, 17, 18] rfl ?_
        refine aw_iinc (v' := nI ((rkN L t k) + 1)) (ls' := [(17, _), (0, _), (1, _), (2, _), (3, _), (4, _), (5, _), (6, _), (7, _), (8, _), (9, _), (10, _), (11, _), (12, _), (13, _), (14, _), (15, _), (16, _), (18, _)]) C dL_same_279 rfl (by decide) (nI_add ((rkN L t k)) 1) rfl rfl ?_
        refine aw_pick (ls' := [(0, _), (1, _), (2, _), (3, _), (4, _), (5, _), (6, _), (7, _), (8, _), (9, _), (10, _), (11, _), (12, _), (13, _), (14, _), (15, _), (16, _), (17, _), (18, _)]) [1, 2, 3, 4, 5, 6, 7, 8, 9, 10, 11, 12, 13, 14, 15, 16, 17, 0, 18] rfl ?_
        refine aw_iinc (v' := nI (k + 1)) (ls' := [(18, _), (0, _), (1, _), (2, _), (3, _), (4, _), (5, _), (6, _), (7, _), (8, _), (9, _), (10, _), (11, _), (12, _), (13, _), (14, _), (15, _), (16, _), (17, _)]) C dL_same_282 rfl (by decide) (nI_add (k) 1) rfl rfl ?_
        refine aw_pick (ls' := [(0, _), (1, _), (2, _), (3, _), (4, _), (5, _), (6, _), (7, _), (8, _), (9, _), (10, _), (11, _), (12, _), (13, _), (14, _), (15, _), (16, _), (17, _), (18, _)]) [1, 2, 3, 4, 5, 6, 7, 8, 9, 10, 11, 12, 13, 14, 15, 16, 17, 18, 0] rfl ?_
        refine aw_goto (tgt := 210) C dL_same_285 (by decide) ?_
        have e : rkN L t (k + 1) = rkN L t k + 1 := by rw [rkN, if_pos ⟨c233, c247⟩]
        have qq := ih (k + 1) sg (by omega) hV
        rw [e] at qq
        exact aw_widen (by omega) (by omega) qq
set_option maxRecDepth 100000 in
theorem S_thing {x : Cx} {Q : State → Prop} {ez : Nat} (G : GOK x.g x.l ez) (C : AWC x cL_same 21 RL rmS (some .boolean)) {q N : Nat} {u : MU} {L : ZU} {al : Nat → Nat} {zz : Int32} (hZ : CZ N u) (hR : ZR L u) {t c n : Nat} (ht : t < 2) (hcc : c + 352 ≤ 2900) (hnn : n + 2640 ≤ 21800) (next : ∀ sg, SV x.g ez al q u L sg → AW x Q (c + 352) (n + 2640) sg 312 [(0, .ref (q)), (1, .int (zz)), (2, .ref (al 0)), (3, .ref (al 1)), (4, .ref (al 2)), (5, .ref (al 3)), (6, .ref (al 4)), (7, .ref (al 5)), (8, .ref (al 6)), (9, .ref (al 7)), (10, .ref (al 8)), (11, .ref (al 9)), (12, .ref (al 10)), (13, .ref (al 11)), (14, .ref (al 12)), (15, .int (nI (1))), (16, .int (nI (t)))] []) (sg : Sg) (hV : SV x.g ez al q u L sg) : AW x Q (c) (n) sg 90 [(0, .ref (q)), (1, .int (zz)), (2, .ref (al 0)), (3, .ref (al 1)), (4, .ref (al 2)), (5, .ref (al 3)), (6, .ref (al 4)), (7, .ref (al 5)), (8, .ref (al 6)), (9, .ref (al 7)), (10, .ref (al 8)), (11, .ref (al 9)), (12, .ref (al 10)), (13, .ref (al 11)), (14, .ref (al 12)), (15, .int (nI (1))), (16, .int (nI (t)))] [] := by
  have hl := G.1
  have hst := G.2.1
  have hB := hR.B
  have hc := hR.hc
  have hn3 := hR.ne.2
  have hn1 := hR.nd.2
  have z1 : (rmZ 1).cells = 0 ∧ (rmZ 1).slots = 0 := ⟨rfl, rfl⟩
  have z2 : (rmZ 2).cells = 0 ∧ (rmZ 2).slots = 0 := ⟨rfl, rfl⟩
  have hJ : ∀ i, L.2 i < 2 ^ 62 := fun i => Nat.lt_of_le_of_lt (hR.bJ hZ i) (by decide)
  have k207 : ∀ sg, SV x.g ez al q u L sg → AW x Q (c + 112) (n + 840) sg 207 [(0, .ref (q)), (1, .int (zz)), (2, .ref (al 0)), (3, .ref (al 1)), (4, .ref (al 2)), (5, .ref (al 3)), (6, .ref (al 4)), (7, .ref (al 5)), (8, .ref (al 6)), (9, .ref (al 7)), (10, .ref (al 8)), (11, .ref (al 9)), (12, .ref (al 10)), (13, .ref (al 11)), (14, .ref (al 12)), (15, .int (nI (1))), (16, .int (nI (t))), (17, .int (nI (0)))] [] := by
    intro sg hV
    refine aw_iconst (v := nI 0) C dL_same_207 rfl rfl ?_
    refine aw_istore (ls' := [(18, _), (0, _), (1, _), (2, _), (3, _), (4, _), (5, _), (6, _), (7, _), (8, _), (9, _), (10, _), (11, _), (12, _), (13, _), (14, _), (15, _), (16, _), (17, _)]) C dL_same_208 (by decide) rfl rfl ?_
    refine aw_pick (ls' := [(0, _), (1, _), (2, _), (3, _), (4, _), (5, _), (6, _), (7, _), (8, _), (9, _), (10, _), (11, _), (12, _), (13, _), (14, _), (15, _), (16, _), (17, _), (18, _)]) [1, 2, 3, 4, 5, 6, 7, 8, 9, 10, 11, 12, 13, 14, 15, 16, 17, 18, 0] rfl ?_
    exact S_pledges G C hZ hR ht (c := c + 112) (n := n + 840) (by omega) (by omega) (fun sg hV => aw_widen (by omega) (by omega) (next sg hV)) (L.1 10 3) 0 sg (by omega) hV
  refine aw_iconst (v := nI 0) C dL_same_90 rfl rfl ?_
  refine aw_istore (ls' := [(17, _), (0, _), (1, _), (2, _), (3, _), (4, _), (5, _), (6, _), (7, _), (8, _), (9, _), (10, _), (11, _), (12, _), (13, _), (14, _), (15, _), (16, _)]) C dL_same_91 (by decide) rfl rfl ?_
  refine aw_pick (ls' := [(0, _), (1, _), (2, _), (3, _), (4, _), (5, _), (6, _), (7, _), (8, _), (9, _), (10, _), (11, _), (12, _), (13, _), (14, _), (15, _), (16, _), (17, _)]) [1, 2, 3, 4, 5, 6, 7, 8, 9, 10, 11, 12, 13, 14, 15, 16, 17, 0] rfl ?_
  refine aw_iconst (v := nI 0) C dL_same_93 rfl rfl ?_
  refine aw_istore (ls' := [(18, _), (0, _), (1, _), (2, _), (3, _), (4, _), (5, _), (6, _), (7, _), (8, _), (9, _), (10, _), (11, _), (12, _), (13, _), (14, _), (15, _), (16, _), (17, _)]) C dL_same_94 (by decide) rfl rfl ?_
  refine aw_pick (ls' := [(0, _), (1, _), (2, _), (3, _), (4, _), (5, _), (6, _), (7, _), (8, _), (9, _), (10, _), (11, _), (12, _), (13, _), (14, _), (15, _), (16, _), (17, _), (18, _)]) [1, 2, 3, 4, 5, 6, 7, 8, 9, 10, 11, 12, 13, 14, 15, 16, 17, 18, 0] rfl ?_
  exact S_shares G C hZ hR ht (c := c) (n := n) (by omega) (by omega) k207 7 0 sg (by omega) hV
set_option maxRecDepth 100000 in
theorem S_deeds {x : Cx} {Q : State → Prop} {ez : Nat} (G : GOK x.g x.l ez) (C : AWC x cL_same 21 RL rmS (some .boolean)) {q N : Nat} {u : MU} {L : ZU} {al : Nat → Nat} {zz : Int32} (hZ : CZ N u) (hR : ZR L u) (next : ∀ sg, SV x.g ez al q u L sg → AW x Q (2888) (21660) sg 720 [(15, .int (nI (1)))] []) : ∀ (r d : Nat) (sg : Sg), d + r = (L.1 10 1) → SV x.g ez al q u L sg → AW x Q (776 + 88 * d) (5820 + 660 * d) sg 408 [(0, .ref (q)), (2, .ref (al 0)), (3, .ref (al 1)), (4, .ref (al 2)), (5, .ref (al 3)), (6, .ref (al 4)), (7, .ref (al 5)), (8, .ref (al 6)), (9, .ref (al 7)), (10, .ref (al 8)), (11, .ref (al 9)), (12, .ref (al 10)), (15, .int (nI (1))), (16, .int (nI (d)))] [] := by
  have hl := G.1
  have hst := G.2.1
  have hB := hR.B
  have hc := hR.hc
  have hn3 := hR.ne.2
  have hn1 := hR.nd.2
  have z1 : (rmZ 1).cells = 0 ∧ (rmZ 1).slots = 0 := ⟨rfl, rfl⟩
  have z2 : (rmZ 2).cells = 0 ∧ (rmZ 2).slots = 0 := ⟨rfl, rfl⟩
  have hJ : ∀ i, L.2 i < 2 ^ 62 := fun i => Nat.lt_of_le_of_lt (hR.bJ hZ i) (by decide)
  intro r
  induction r with
  | zero =>
    intro d sg hd hV
    have hM := hV.M
    have c9001 : ¬ d < (L.1 10 1) := by omega
    refine aw_iload C dL_same_408 rfl rfl ?_
    refine aw_aload C dL_same_410 rfl rfl ?_
    refine aw_iconst (v := nI 1) C dL_same_412 rfl rfl ?_
    refine an_iald (k := 10) (i := 1) (N := 5) (v := (L.1 10 1)) C hM rfl rfl (by decide) rfl dL_same_413 rfl ?_
    refine an_icmp_ge (a := d) (b := (L.1 10 1)) (tgt := 720) C dL_same_414 (by omega) (by have := hB 10 1; omega) (by decide) rfl (fun _ => ?_) (fun q => absurd q c9001)
    refine aw_pick (ls' := [(15, _)]) [12] rfl ?_
    exact aw_widen (by omega) (by omega) (next sg hV)
  | succ r ih =>
    intro d sg hd hV
    have hM := hV.M
    have c9001 : d < (L.1 10 1) := by omega
    have hg12 : n_same_446_s0 L d ≤ 2 := by unfold n_same_446_s0; split <;> omega
    refine aw_iload C dL_same_408 rfl rfl ?_
    refine aw_aload C dL_same_410 rfl rfl ?_
    refine aw_iconst (v := nI 1) C dL_same_412 rfl rfl ?_
    refine an_iald (k := 10) (i := 1) (N := 5) (v := (L.1 10 1)) C hM rfl rfl (by decide) rfl dL_same_413 rfl ?_
    refine an_icmp_ge (a := d) (b := (L.1 10 1)) (tgt := 720) C dL_same_414 (by omega) (by have := hB 10 1; omega) (by decide) rfl (fun q => absurd c9001 q) (fun _ => ?_)
    refine aw_iload C dL_same_417 rfl rfl ?_
    refine an_if_eq (a := 1) (tgt := 720) C dL_same_419 (by decide) (by decide) rfl (fun q => absurd q (by decide)) (fun _ => ?_)
    refine aw_aload C dL_same_422 rfl rfl ?_
    refine aw_iload C dL_same_424 rfl rfl ?_
    refine an_iald (k := 5) (i := d) (N := 24) (v := (L.1 5 d)) C hM rfl rfl (by omega) rfl dL_same_426 rfl ?_
    refine aw_iconst (v := nI 4) C dL_same_427 rfl rfl ?_
    refine an_rem C (by have := hB 5 d; omega) (by decide) (by decide) dL_same_428 rfl ?_
    refine aw_istore (ls' := [(17, _), (0, _), (2, _), (3, _), (4, _), (5, _), (6, _), (7, _), (8, _), (9, _), (10, _), (11, _), (12, _), (15, _), (16, _)]) C dL_same_429 (by decide) rfl rfl ?_
    refine aw_pick (ls' := [(0, _), (2, _), (3, _), (4, _), (5, _), (6, _), (7, _), (8, _), (9, _), (10, _), (11, _), (12, _), (15, _), (16, _), (17, _)]) [1, 2, 3, 4, 5, 6, 7, 8, 9, 10, 11, 12, 13, 14, 0] rfl ?_
    refine aw_aload C dL_same_431 rfl rfl ?_
    refine aw_iload C dL_same_433 rfl rfl ?_
    refine an_iald (k := 6) (i := d) (N := 24) (v := (L.1 6 d)) C hM rfl rfl (by omega) rfl dL_same_435 rfl ?_
    refine aw_bipush (v := nI 9) C dL_same_436 rfl rfl ?_
    have K446_1 : AW x Q (776 + 88 * d) (5820 + 660 * d) sg 446 [(0, .ref (q)), (2, .ref (al 0)), (3, .ref (al 1)), (4, .ref (al 2)), (5, .ref (al 3)), (6, .ref (al 4)), (7, .ref (al 5)), (8, .ref (al 6)), (9, .ref (al 7)), (10, .ref (al 8)), (11, .ref (al 9)), (12, .ref (al 10)), (16, .int (nI (d))), (17, .int (nI ((L.1 5 d) % 4)))] [.int (nI ((n_same_446_s0 L d)))] := by
      refine aw_istore (ls' := [(18, _), (0, _), (2, _), (3, _), (4, _), (5, _), (6, _), (7, _), (8, _), (9, _), (10, _), (11, _), (12, _), (16, _), (17, _)]) C dL_same_446 (by decide) rfl rfl ?_
      refine aw_pick (ls' := [(0, _), (2, _), (3, _), (4, _), (5, _), (6, _), (7, _), (8, _), (9, _), (10, _), (11, _), (12, _), (16, _), (17, _), (18, _)]) [1, 2, 3, 4, 5, 6, 7, 8, 9, 10, 11, 12, 13, 14, 0] rfl ?_
      refine aw_aload_n C dL_same_448 rfl rfl rfl ?_
      refine aw_iload C dL_same_449 rfl rfl ?_
      refine aw_iconst (v := nI 0) C dL_same_451 rfl rfl ?_
      refine aw_ro C k_L_142 hV (fun ad Y hS => F_deed G hS hZ.1 (v := nI (d)) (w := nI (0))) ((q_deed hZ hR c9001).1) ⟨by decide, by decide⟩ rfl rfl rfl (Nat.le_of_ble_eq_true rfl) (show (776 + 88 * d) + 8 ≤ 2900 by omega) (show (5820 + 660 * d) + 60 ≤ 21800 by omega) dL_same_452 rfl (fun sg hV => ?_)
      have hM := hV.M
      refine aw_iload C dL_same_455 rfl rfl ?_
      refine aw_icmp_ne (tgt := 711) C dL_same_457 (by decide) rfl (fun q => absurd rfl q) (fun _ => ?_)
      refine aw_aload_n C dL_same_460 rfl rfl rfl ?_
      refine aw_iload C dL_same_461 rfl rfl ?_
      refine aw_iconst (v := nI 1) C dL_same_463 rfl rfl ?_
      refine aw_ro C k_L_142 hV (fun ad Y hS => F_deed G hS hZ.1 (v := nI (d)) (w := nI (1))) ((q_deed hZ hR c9001).2.1) ⟨by decide, by decide⟩ rfl rfl rfl (Nat.le_of_ble_eq_true rfl) (show ((776 + 88 * d) + 8) + 8 ≤ 2900 by omega) (show ((5820 + 660 * d) + 60) + 60 ≤ 21800 by omega) dL_same_464 rfl (fun sg hV => ?_)
      have hM := hV.M
      refine aw_aload_n C dL_same_467 rfl rfl rfl ?_
      refine aw_iload C dL_same_468 rfl rfl ?_
      refine an_iald (k := 1) (i := d) (N := 24) (v := (L.1 1 d)) C hM rfl rfl (by omega) rfl dL_same_470 rfl ?_
      refine aw_bipush (v := nI 8) C dL_same_471 rfl rfl ?_
      refine an_rem C (by have := hB 1 d; omega) (by decide) (by decide) dL_same_473 rfl ?_
      refine aw_icmp_ne (tgt := 711) C dL_same_474 (by decide) rfl (fun q => absurd rfl q) (fun _ => ?_)
      refine aw_aload_n C dL_same_477 rfl rfl rfl ?_
      refine aw_iload C dL_same_478 rfl rfl ?_
      refine aw_iconst (v := nI 2) C dL_same_480 rfl rfl ?_
      refine aw_ro C k_L_142 hV (fun ad Y hS => F_deed G hS hZ.1 (v := nI (d)) (w := nI (2))) ((q_deed hZ hR c9001).2.2.1) ⟨by decide, by decide⟩ rfl rfl rfl (Nat.le_of_ble_eq_true rfl) (show (((776 + 88 * d) + 8) + 8) + 8 ≤ 2900 by omega) (show (((5820 + 660 * d) + 60) + 60) + 60 ≤ 21800 by omega) dL_same_481 rfl (fun sg hV => ?_)
      have hM := hV.M
      refine aw_aload C dL_same_484 rfl rfl ?_
      refine aw_iload C dL_same_486 rfl rfl ?_
      refine an_iald (k := 4) (i := d) (N := 24) (v := (L.1 4 d)) C hM rfl rfl (by omega) rfl dL_same_488 rfl ?_
      refine aw_bipush (v := nI 32) C dL_same_489 rfl rfl ?_
      refine an_rem C (by have := hB 4 d; omega) (by decide) (by decide) dL_same_491 rfl ?_
      refine aw_icmp_ne (tgt := 711) C dL_same_492 (by decide) rfl (fun q => absurd rfl q) (fun _ => ?_)
      refine aw_aload_n C dL_same_495 rfl rfl rfl ?_
      refine aw_iload C dL_same_496 rfl rfl ?_
      refine aw_iconst (v := nI 3) C dL_same_498 rfl rfl ?_
      refine aw_ro C k_L_142 hV (fun ad Y hS => F_deed G hS hZ.1 (v := nI (d)) (w := nI (3))) ((q_deed hZ hR c9001).2.2.2.1) ⟨by decide, by decide⟩ rfl rfl rfl (Nat.le_of_ble_eq_true rfl) (show ((((776 + 88 * d) + 8) + 8) + 8) + 8 ≤ 2900 by omega) (show ((((5820 + 660 * d) + 60) + 60) + 60) + 60 ≤ 21800 by omega) dL_same_499 rfl (fun sg hV => ?_)
      have hM := hV.M
      refine aw_aload C dL_same_502 rfl rfl ?_
      refine aw_iload C dL_same_504 rfl rfl ?_
      refine an_iald (k := 6) (i := d) (N := 24) (v := (L.1 6 d)) C hM rfl rfl (by omega) rfl dL_same_506 rfl ?_
      refine aw_icmp_ne (tgt := 711) C dL_same_507 (by decide) rfl (fun q => absurd rfl q) (fun _ => ?_)
      refine aw_aload_n C dL_same_510 rfl rfl rfl ?_
      refine aw_iload C dL_same_511 rfl rfl ?_
      refine aw_iconst (v := nI 4) C dL_same_513 rfl rfl ?_
      refine aw_ro (r := (v_same_531 L d)) C k_L_142 hV (fun ad Y hS => F_deed G hS hZ.1 (v := nI (d)) (w := nI (4))) ((q_deed hZ hR c9001).2.2.2.2.1) ⟨by decide, by decide⟩ rfl rfl rfl (Nat.le_of_ble_eq_true rfl) (show (((((776 + 88 * d) + 8) + 8) + 8) + 8) + 8 ≤ 2900 by omega) (show (((((5820 + 660 * d) + 60) + 60) + 60) + 60) + 60 ≤ 21800 by omega) dL_same_514 rfl (fun sg hV => ?_)
      have hM := hV.M
      refine aw_iload C dL_same_517 rfl rfl ?_
      have K531_2 : AW x Q ((((((776 + 88 * d) + 8) + 8) + 8) + 8) + 8) ((((((5820 + 660 * d) + 60) + 60) + 60) + 60) + 60) sg 531 [(0, .ref (q)), (2, .ref (al 0)), (3, .ref (al 1)), (4, .ref (al 2)), (5, .ref (al 3)), (6, .ref (al 4)), (7, .ref (al 5)), (8, .ref (al 6)), (9, .ref (al 7)), (10, .ref (al 8)), (11, .ref (al 9)), (12, .ref (al 10)), (16, .int (nI (d))), (17, .int (nI ((L.1 5 d) % 4))), (18, .int (nI ((n_same_446_s0 L d))))] [.int ((n_same_531_s0 L d)), .int ((v_same_531 L d))] := by
        refine aw_icmp_ne (tgt := 711) C dL_same_531 (by decide) rfl (fun q => absurd rfl q) (fun _ => ?_)
        refine aw_aload_n C dL_same_534 rfl rfl rfl ?_
        refine aw_iload C dL_same_535 rfl rfl ?_
        refine aw_iconst (v := nI 5) C dL_same_537 rfl rfl ?_
        refine aw_ro C k_L_142 hV (fun ad Y hS => F_deed G hS hZ.1 (v := nI (d)) (w := nI (5))) ((q_deed hZ hR c9001).2.2.2.2.2) ⟨by decide, by decide⟩ rfl rfl rfl (Nat.le_of_ble_eq_true rfl) (show ((((((776 + 88 * d) + 8) + 8) + 8) + 8) + 8) + 8 ≤ 2900 by omega) (show ((((((5820 + 660 * d) + 60) + 60) + 60) + 60) + 60) + 60 ≤ 21800 by omega) dL_same_538 rfl (fun sg hV => ?_)
        have hM := hV.M
        refine aw_aload C dL_same_541 rfl rfl ?_
        refine aw_iload C dL_same_543 rfl rfl ?_
        refine an_iald (k := 8) (i := d) (N := 24) (v := (L.1 8 d)) C hM rfl rfl (by omega) rfl dL_same_545 rfl ?_
        refine aw_iconst (v := nI 1) C dL_same_546 rfl rfl ?_
        refine aw_isub C dL_same_547 rfl ?_
        rw [show nI (L.1 8 d) - nI 1 = nI (L.1 8 d) - 1 from rfl]
        refine aw_icmp_ne (tgt := 711) C dL_same_548 (by decide) rfl (fun q => absurd rfl q) (fun _ => ?_)
        refine aw_aload_n C dL_same_551 rfl rfl rfl ?_
        refine aw_iload C dL_same_552 rfl rfl ?_
        refine aw_ro C k_L_145 hV (fun ad Y hS => F_proof G hS hZ.1 (v := nI (d))) (q_proof hZ hR c9001) ⟨by decide, by decide⟩ rfl rfl rfl (Nat.le_of_ble_eq_true rfl) (show (((((((776 + 88 * d) + 8) + 8) + 8) + 8) + 8) + 8) + 8 ≤ 2900 by omega) (show (((((((5820 + 660 * d) + 60) + 60) + 60) + 60) + 60) + 60) + 60 ≤ 21800 by omega) dL_same_554 rfl (fun sg hV => ?_)
        have hM := hV.M
        refine aw_aload C dL_same_557 rfl rfl ?_
        refine aw_iload C dL_same_559 rfl rfl ?_
        refine an_iald (k := 9) (i := d) (N := 24) (v := (L.1 9 d)) C hM rfl rfl (by omega) rfl dL_same_561 rfl ?_
        refine cw_callSp C k_L_79 (N_least hl hst (p := (L.1 9 d)) (by have := hB 9 d; omega)) ⟨by decide, by decide⟩ rfl rfl (Nat.le_of_ble_eq_true rfl) (show ((((((((776 + 88 * d) + 8) + 8) + 8) + 8) + 8) + 8) + 8) + 0 ≤ 2900 by omega) (show ((((((((5820 + 660 * d) + 60) + 60) + 60) + 60) + 60) + 60) + 60) + 0 ≤ 21800 by omega) dL_same_562 rfl ?_
        rw [n_least_k]
        refine aw_icmp_ne (tgt := 711) C dL_same_565 (by decide) rfl (fun q => absurd rfl q) (fun _ => ?_)
        refine aw_aload_n C dL_same_568 rfl rfl rfl ?_
        refine aw_iload C dL_same_569 rfl rfl ?_
        refine aw_ro (r := b2i ((v_same_610 L d))) C k_L_148 hV (fun ad Y hS => F_isGood G hS hZ.1 (v := nI (d))) (q_isGood hZ hR c9001) ⟨by decide, by decide⟩ rfl rfl rfl (Nat.le_of_ble_eq_true rfl) (show ((((((((776 + 88 * d) + 8) + 8) + 8) + 8) + 8) + 8) + 8) + 8 ≤ 2900 by omega) (show ((((((((5820 + 660 * d) + 60) + 60) + 60) + 60) + 60) + 60) + 60) + 60 ≤ 21800 by omega) dL_same_571 rfl (fun sg hV => ?_)
        have hM := hV.M
        refine aw_aload_n C dL_same_574 rfl rfl rfl ?_
        refine aw_iload C dL_same_575 rfl rfl ?_
        refine an_iald (k := 1) (i := d) (N := 24) (v := (L.1 1 d)) C hM rfl rfl (by omega) rfl dL_same_577 rfl ?_
        refine aw_bipush (v := nI 8) C dL_same_578 rfl rfl ?_
        refine an_rem C (by have := hB 1 d; omega) (by decide) (by decide) dL_same_580 rfl ?_
        refine aw_iconst (v := nI 3) C dL_same_581 rfl rfl ?_
        have K610_3 : AW x Q (((((((((776 + 88 * d) + 8) + 8) + 8) + 8) + 8) + 8) + 8) + 8) (((((((((5820 + 660 * d) + 60) + 60) + 60) + 60) + 60) + 60) + 60) + 60) sg 610 [(0, .ref (q)), (2, .ref (al 0)), (3, .ref (al 1)), (4, .ref (al 2)), (5, .ref (al 3)), (6, .ref (al 4)), (7, .ref (al 5)), (8, .ref (al 6)), (9, .ref (al 7)), (10, .ref (al 8)), (11, .ref (al 9)), (12, .ref (al 10)), (16, .int (nI (d))), (17, .int (nI ((L.1 5 d) % 4))), (18, .int (nI ((n_same_446_s0 L d))))] [.int (b2i ((n_same_610_s0 L d))), .int (b2i ((v_same_610 L d)))] := by
          refine aw_icmp_ne (tgt := 711) C dL_same_610 (by decide) rfl (fun q => absurd rfl q) (fun _ => ?_)
          refine aw_aload_n C dL_same_613 rfl rfl rfl ?_
          refine aw_iload C dL_same_614 rfl rfl ?_
          refine aw_iload C dL_same_616 rfl rfl ?_
          refine aw_ro C k_L_151 hV (fun ad Y hS => F_label G hS hZ.1 (v := nI (d)) (w := nI ((n_same_446_s0 L d)))) ((q_label hZ hR c9001).1) ⟨by decide, by decide⟩ rfl rfl rfl (Nat.le_of_ble_eq_true rfl) (show (((((((((776 + 88 * d) + 8) + 8) + 8) + 8) + 8) + 8) + 8) + 8) + 8 ≤ 2900 by omega) (show (((((((((5820 + 660 * d) + 60) + 60) + 60) + 60) + 60) + 60) + 60) + 60) + 60 ≤ 21800 by omega) dL_same_618 rfl (fun sg hV => ?_)
          have hM := hV.M
          refine aw_bipush (v := nI 48) C dL_same_621 rfl rfl ?_
          refine aw_aload C dL_same_623 rfl rfl ?_
          refine aw_iload C dL_same_625 rfl rfl ?_
          refine an_iald (k := 6) (i := d) (N := 24) (v := (L.1 6 d)) C hM rfl rfl (by omega) rfl dL_same_627 rfl ?_
          refine aw_bipush (v := nI 10) C dL_same_628 rfl rfl ?_
          refine an_rem C (by have := hB 6 d; omega) (by decide) (by decide) dL_same_630 rfl ?_
          refine an_add C dL_same_631 rfl ?_
          refine aw_icmp_ne (tgt := 711) C dL_same_632 (by decide) rfl (fun q => absurd rfl q) (fun _ => ?_)
          refine aw_aload_n C dL_same_635 rfl rfl rfl ?_
          refine aw_iload C dL_same_636 rfl rfl ?_
          refine aw_iload C dL_same_638 rfl rfl ?_
          refine aw_iconst (v := nI 1) C dL_same_640 rfl rfl ?_
          refine an_add C dL_same_641 rfl ?_
          refine aw_ro (r := nI ((v_same_657 L d))) C k_L_151 hV (fun ad Y hS => F_label G hS hZ.1 (v := nI (d)) (w := nI ((n_same_446_s0 L d) + 1))) ((q_label hZ hR c9001).2.1) ⟨by decide, by decide⟩ rfl rfl rfl (Nat.le_of_ble_eq_true rfl) (show ((((((((((776 + 88 * d) + 8) + 8) + 8) + 8) + 8) + 8) + 8) + 8) + 8) + 8 ≤ 2900 by omega) (show ((((((((((5820 + 660 * d) + 60) + 60) + 60) + 60) + 60) + 60) + 60) + 60) + 60) + 60 ≤ 21800 by omega) dL_same_642 rfl (fun sg hV => ?_)
          have hM := hV.M
          refine aw_iload C dL_same_645 rfl rfl ?_
          have K657_4 : AW x Q (((((((((((776 + 88 * d) + 8) + 8) + 8) + 8) + 8) + 8) + 8) + 8) + 8) + 8) (((((((((((5820 + 660 * d) + 60) + 60) + 60) + 60) + 60) + 60) + 60) + 60) + 60) + 60) sg 657 [(0, .ref (q)), (2, .ref (al 0)), (3, .ref (al 1)), (4, .ref (al 2)), (5, .ref (al 3)), (6, .ref (al 4)), (7, .ref (al 5)), (8, .ref (al 6)), (9, .ref (al 7)), (10, .ref (al 8)), (11, .ref (al 9)), (12, .ref (al 10)), (16, .int (nI (d))), (17, .int (nI ((L.1 5 d) % 4))), (18, .int (nI ((n_same_446_s0 L d))))] [.int (nI ((n_same_657_s0 L d))), .int (nI ((v_same_657 L d)))] := by
            refine aw_icmp_ne (tgt := 711) C dL_same_657 (by decide) rfl (fun q => absurd rfl q) (fun _ => ?_)
            refine aw_aload_n C dL_same_660 rfl rfl rfl ?_
            refine aw_iload C dL_same_661 rfl rfl ?_
            refine aw_iload C dL_same_663 rfl rfl ?_
            refine aw_iconst (v := nI 2) C dL_same_665 rfl rfl ?_
            refine an_add C dL_same_666 rfl ?_
            refine aw_ro (r := nI ((v_same_704 L d))) C k_L_151 hV (fun ad Y hS => F_label G hS hZ.1 (v := nI (d)) (w := nI ((n_same_446_s0 L d) + 2))) ((q_label hZ hR c9001).2.2) ⟨by decide, by decide⟩ rfl rfl rfl (Nat.le_of_ble_eq_true rfl) (show (((((((((((776 + 88 * d) + 8) + 8) + 8) + 8) + 8) + 8) + 8) + 8) + 8) + 8) + 8 ≤ 2900 by omega) (show (((((((((((5820 + 660 * d) + 60) + 60) + 60) + 60) + 60) + 60) + 60) + 60) + 60) + 60) + 60 ≤ 21800 by omega) dL_same_667 rfl (fun sg hV => ?_)
            have hM := hV.M
            refine aw_iload C dL_same_670 rfl rfl ?_
            have K704_5 : AW x Q ((((((((((((776 + 88 * d) + 8) + 8) + 8) + 8) + 8) + 8) + 8) + 8) + 8) + 8) + 8) ((((((((((((5820 + 660 * d) + 60) + 60) + 60) + 60) + 60) + 60) + 60) + 60) + 60) + 60) + 60) sg 704 [(0, .ref (q)), (2, .ref (al 0)), (3, .ref (al 1)), (4, .ref (al 2)), (5, .ref (al 3)), (6, .ref (al 4)), (7, .ref (al 5)), (8, .ref (al 6)), (9, .ref (al 7)), (10, .ref (al 8)), (11, .ref (al 9)), (12, .ref (al 10)), (16, .int (nI (d)))] [.int (nI ((n_same_704_s0 L d))), .int (nI ((v_same_704 L d)))] := by
              refine aw_icmp_ne (tgt := 711) C dL_same_704 (by decide) rfl (fun q => absurd rfl q) (fun _ => ?_)
              refine aw_iconst (v := nI 1) C dL_same_707 rfl rfl ?_
              refine aw_goto (tgt := 712) C dL_same_708 (by decide) ?_
              refine aw_istore (ls' := [(15, _), (0, _), (2, _), (3, _), (4, _), (5, _), (6, _), (7, _), (8, _), (9, _), (10, _), (11, _), (12, _), (16, _)]) C dL_same_712 (by decide) rfl rfl ?_
              refine aw_pick (ls' := [(0, _), (2, _), (3, _), (4, _), (5, _), (6, _), (7, _), (8, _), (9, _), (10, _), (11, _), (12, _), (15, _), (16, _)]) [1, 2, 3, 4, 5, 6, 7, 8, 9, 10, 11, 12, 0, 13] rfl ?_
              refine aw_iinc (v' := nI (d + 1)) (ls' := [(16, _), (0, _), (2, _), (3, _), (4, _), (5, _), (6, _), (7, _), (8, _), (9, _), (10, _), (11, _), (12, _), (15, _)]) C dL_same_714 rfl (by decide) (nI_add (d) 1) rfl rfl ?_
              refine aw_pick (ls' := [(0, _), (2, _), (3, _), (4, _), (5, _), (6, _), (7, _), (8, _), (9, _), (10, _), (11, _), (12, _), (15, _), (16, _)]) [1, 2, 3, 4, 5, 6, 7, 8, 9, 10, 11, 12, 13, 0] rfl ?_
              refine aw_goto (tgt := 408) C dL_same_717 (by decide) ?_
              exact aw_widen (by omega) (by omega) (ih (d + 1) sg (by omega) hV)
            refine an_if_ne (a := (L.1 5 d) % 4) (tgt := 680) C dL_same_672 (by have := hB 5 d; omega) (by decide) rfl (fun c672 => ?_) (fun c672 => ?_)
            · refine aw_iload C dL_same_680 rfl rfl ?_
              refine aw_iconst (v := nI 1) C dL_same_682 rfl rfl ?_
              refine an_icmp_ne (a := (L.1 5 d) % 4) (b := 1) (tgt := 691) C dL_same_683 (by have := hB 5 d; omega) (by decide) (by decide) rfl (fun c683 => ?_) (fun c683 => ?_)
              · refine aw_iload C dL_same_691 rfl rfl ?_
                refine aw_iconst (v := nI 2) C dL_same_693 rfl rfl ?_
                refine an_icmp_ne (a := (L.1 5 d) % 4) (b := 2) (tgt := 702) C dL_same_694 (by have := hB 5 d; omega) (by decide) (by decide) rfl (fun c694 => ?_) (fun c694 => ?_)
                · refine aw_bipush (v := nI 118) C dL_same_702 rfl rfl ?_
                  refine aw_pick (ls' := [(0, _), (2, _), (3, _), (4, _), (5, _), (6, _), (7, _), (8, _), (9, _), (10, _), (11, _), (12, _), (16, _)]) [0, 1, 2, 3, 4, 5, 6, 7, 8, 9, 10, 11, 12] rfl ?_
                  have k9 := K704_5
                  rw [show (n_same_704_s0 L d) = 118 from by rw [n_same_704_s0, if_neg c672, if_neg c683, if_neg c694]] at k9
                  exact k9
                · refine aw_bipush (v := nI 108) C dL_same_697 rfl rfl ?_
                  refine aw_goto (tgt := 704) C dL_same_699 (by decide) ?_
                  refine aw_pick (ls' := [(0, _), (2, _), (3, _), (4, _), (5, _), (6, _), (7, _), (8, _), (9, _), (10, _), (11, _), (12, _), (16, _)]) [0, 1, 2, 3, 4, 5, 6, 7, 8, 9, 10, 11, 12] rfl ?_
                  have k9 := K704_5
                  rw [show (n_same_704_s0 L d) = 108 from by rw [n_same_704_s0, if_neg c672, if_neg c683, if_pos c694]] at k9
                  exact k9
              · refine aw_bipush (v := nI 102) C dL_same_686 rfl rfl ?_
                refine aw_goto (tgt := 704) C dL_same_688 (by decide) ?_
                refine aw_pick (ls' := [(0, _), (2, _), (3, _), (4, _), (5, _), (6, _), (7, _), (8, _), (9, _), (10, _), (11, _), (12, _), (16, _)]) [0, 1, 2, 3, 4, 5, 6, 7, 8, 9, 10, 11, 12] rfl ?_
                have k9 := K704_5
                rw [show (n_same_704_s0 L d) = 102 from by rw [n_same_704_s0, if_neg c672, if_pos c683]] at k9
                exact k9
            · refine aw_bipush (v := nI 46) C dL_same_675 rfl rfl ?_
              refine aw_goto (tgt := 704) C dL_same_677 (by decide) ?_
              refine aw_pick (ls' := [(0, _), (2, _), (3, _), (4, _), (5, _), (6, _), (7, _), (8, _), (9, _), (10, _), (11, _), (12, _), (16, _)]) [0, 1, 2, 3, 4, 5, 6, 7, 8, 9, 10, 11, 12] rfl ?_
              have k9 := K704_5
              rw [show (n_same_704_s0 L d) = 46 from by rw [n_same_704_s0, if_pos c672]] at k9
              exact k9
          refine an_if_ne (a := (L.1 5 d) % 4) (tgt := 655) C dL_same_647 (by have := hB 5 d; omega) (by decide) rfl (fun c647 => ?_) (fun c647 => ?_)
          · refine aw_bipush (v := nI 44) C dL_same_655 rfl rfl ?_
            have k9 := K657_4
            rw [show (n_same_657_s0 L d) = 44 from by rw [n_same_657_s0, if_neg c647]] at k9
            exact k9
          · refine aw_bipush (v := nI 46) C dL_same_650 rfl rfl ?_
            refine aw_goto (tgt := 657) C dL_same_652 (by decide) ?_
            have k9 := K657_4
            rw [show (n_same_657_s0 L d) = 46 from by rw [n_same_657_s0, if_pos c647]] at k9
            exact k9
        refine an_icmp_ne (a := (L.1 1 d) % 8) (b := 3) (tgt := 609) C dL_same_582 (by have := hB 1 d; omega) (by decide) (by decide) rfl (fun c582 => ?_) (fun c582 => ?_)
        · refine aw_iconst (v := nI 0) C dL_same_609 rfl rfl ?_
          have k9 := K610_3
          rw [show (n_same_610_s0 L d) = false from by rw [n_same_610_s0, if_neg c582]] at k9
          exact k9
        · refine aw_iload C dL_same_585 rfl rfl ?_
          refine aw_aload_n C dL_same_587 rfl rfl rfl ?_
          refine aw_aload_n C dL_same_588 rfl rfl rfl ?_
          refine aw_aload C dL_same_589 rfl rfl ?_
          refine aw_aload C dL_same_591 rfl rfl ?_
          refine aw_aload C dL_same_593 rfl rfl ?_
          refine aw_aload C dL_same_595 rfl rfl ?_
          refine aw_aload C dL_same_597 rfl rfl ?_
          refine cw_callSp C k_L_73 (N_good hl hst hM hB (d := d) (by omega) hc) ⟨by decide, by decide⟩ rfl rfl (Nat.le_of_ble_eq_true rfl) (show (((((((((776 + 88 * d) + 8) + 8) + 8) + 8) + 8) + 8) + 8) + 8) + 0 ≤ 2900 by omega) (show (((((((((5820 + 660 * d) + 60) + 60) + 60) + 60) + 60) + 60) + 60) + 60) + 0 ≤ 21800 by omega) dL_same_599 rfl ?_
          refine an_bif_eq (z := (n_good L d)) (tgt := 609) C dL_same_602 (by decide) rfl (fun c602 => ?_) (fun c602 => ?_)
          · refine aw_iconst (v := nI 0) C dL_same_609 rfl rfl ?_
            have k9 := K610_3
            rw [show (n_same_610_s0 L d) = false from by rw [n_same_610_s0, if_pos c582, if_neg c602]] at k9
            exact k9
          · refine aw_iconst (v := nI 1) C dL_same_605 rfl rfl ?_
            refine aw_goto (tgt := 610) C dL_same_606 (by decide) ?_
            have k9 := K610_3
            rw [show (n_same_610_s0 L d) = true from by rw [n_same_610_s0, if_pos c582, if_pos c602]] at k9
            exact k9
      refine an_if_ne (a := (L.1 5 d) % 4) (tgt := 526) C dL_same_519 (by have := hB 5 d; omega) (by decide) rfl (fun c519 => ?_) (fun c519 => ?_)
      · refine aw_aload C dL_same_526 rfl rfl ?_
        refine aw_iload C dL_same_528 rfl rfl ?_
        refine an_iald (k := 7) (i := d) (N := 24) (v := (L.1 7 d)) C hM rfl rfl (by omega) rfl dL_same_530 rfl ?_
        have k9 := K531_2
        rw [show (n_same_531_s0 L d) = (nI (L.1 7 d)) from by rw [n_same_531_s0, if_neg c519]] at k9
        exact k9
      · refine aw_iconst (v := -1) C dL_same_522 rfl rfl ?_
        refine aw_goto (tgt := 531) C dL_same_523 (by decide) ?_
        have k9 := K531_2
        rw [show (n_same_531_s0 L d) = (-1) from by rw [n_same_531_s0, if_pos c519]] at k9
        exact k9
    refine an_icmp_le (a := (L.1 6 d)) (b := 9) (tgt := 445) C dL_same_438 (by have := hB 6 d; omega) (by decide) (by decide) rfl (fun c438 => ?_) (fun c438 => ?_)
    · refine aw_iconst (v := nI 1) C dL_same_445 rfl rfl ?_
      refine aw_pick (ls' := [(0, _), (2, _), (3, _), (4, _), (5, _), (6, _), (7, _), (8, _), (9, _), (10, _), (11, _), (12, _), (16, _), (17, _)]) [0, 1, 2, 3, 4, 5, 6, 7, 8, 9, 10, 11, 13, 14] rfl ?_
      have k9 := K446_1
      rw [show (n_same_446_s0 L d) = 1 from by rw [n_same_446_s0, if_neg c438]] at k9
      exact k9
    · refine aw_iconst (v := nI 2) C dL_same_441 rfl rfl ?_
      refine aw_goto (tgt := 446) C dL_same_442 (by decide) ?_
      refine aw_pick (ls' := [(0, _), (2, _), (3, _), (4, _), (5, _), (6, _), (7, _), (8, _), (9, _), (10, _), (11, _), (12, _), (16, _), (17, _)]) [0, 1, 2, 3, 4, 5, 6, 7, 8, 9, 10, 11, 13, 14] rfl ?_
      have k9 := K446_1
      rw [show (n_same_446_s0 L d) = 2 from by rw [n_same_446_s0, if_pos c438]] at k9
      exact k9
set_option maxRecDepth 100000 in
theorem N_same {g : Gx} {l : Launch} {ez : Nat} (G : GOK g l ez) {q N : Nat} {u : MU} {L : ZU} {al : Nat → Nat} {sg0 : Sg} (hV : SV g ez al q u L sg0) (hZ : CZ N u) (hR : ZR L u) {zz : Int32} : MM g l yL_same cL_same 21 (some .boolean) rmS sg0 [.ref (q), .int (zz), .ref (al 0), .ref (al 1), .ref (al 2), .ref (al 3), .ref (al 4), .ref (al 5), .ref (al 6), .ref (al 7), .ref (al 8), .ref (al 9), .ref (al 10), .ref (al 11), .ref (al 12)] (fun v s' => v = some (.int 1) ∧ SV g ez al q u L s') noX := by
  refine MM.of G.1 G.2.1 (by decide) (Nat.le_of_ble_eq_true rfl) (fun x hg hlx C hin hout hargs => ?_)
  subst hg; subst hlx
  have C : AWC x cL_same 21 RL rmS (some .boolean) := C
  have hl := G.1
  have hst := G.2.1
  have hB := hR.B
  have hn3 := hR.ne.2
  have hn1 := hR.nd.2
  have hM := hV.M
  have z1 : (rmZ 1).cells = 0 ∧ (rmZ 1).slots = 0 := ⟨rfl, rfl⟩
  show AW x (RQ x (fun v s' => v = some (.int 1) ∧ SV x.g ez al q u L s') noX 2900 21800) 0 0 sg0 0 [(0, .ref (q)), (1, .int (zz)), (2, .ref (al 0)), (3, .ref (al 1)), (4, .ref (al 2)), (5, .ref (al 3)), (6, .ref (al 4)), (7, .ref (al 5)), (8, .ref (al 6)), (9, .ref (al 7)), (10, .ref (al 8)), (11, .ref (al 9)), (12, .ref (al 10)), (13, .ref (al 11)), (14, .ref (al 12))] []
  have k720 : ∀ sg, SV x.g ez al q u L sg → AW x (RQ x (fun v s' => v = some (.int 1) ∧ SV x.g ez al q u L s') noX 2900 21800) (2888) (21660) sg 720 [(15, .int (nI (1)))] [] := by
    intro sg hV
    refine aw_iload C dL_same_720 rfl rfl ?_
    exact aw_iret C rfl (by omega) (by omega) ⟨rfl, hV⟩ dL_same_722
  have k405 : ∀ sg, SV x.g ez al q u L sg → AW x (RQ x (fun v s' => v = some (.int 1) ∧ SV x.g ez al q u L s') noX 2900 21800) (776) (5820) sg 405 [(0, .ref (q)), (2, .ref (al 0)), (3, .ref (al 1)), (4, .ref (al 2)), (5, .ref (al 3)), (6, .ref (al 4)), (7, .ref (al 5)), (8, .ref (al 6)), (9, .ref (al 7)), (10, .ref (al 8)), (11, .ref (al 9)), (12, .ref (al 10)), (15, .int (nI (1)))] [] := by
    intro sg hV
    refine aw_iconst (v := nI 0) C dL_same_405 rfl rfl ?_
    refine aw_istore (ls' := [(16, _), (0, _), (2, _), (3, _), (4, _), (5, _), (6, _), (7, _), (8, _), (9, _), (10, _), (11, _), (12, _), (15, _)]) C dL_same_406 (by decide) rfl rfl ?_
    refine aw_pick (ls' := [(0, _), (2, _), (3, _), (4, _), (5, _), (6, _), (7, _), (8, _), (9, _), (10, _), (11, _), (12, _), (15, _), (16, _)]) [1, 2, 3, 4, 5, 6, 7, 8, 9, 10, 11, 12, 13, 0] rfl ?_
    exact S_deeds (zz := zz) G C hZ hR k720 (L.1 10 1) 0 sg (by omega) hV
  have k318 : ∀ sg, SV x.g ez al q u L sg → AW x (RQ x (fun v s' => v = some (.int 1) ∧ SV x.g ez al q u L s') noX 2900 21800) (752) (5640) sg 318 [(0, .ref (q)), (1, .int (zz)), (2, .ref (al 0)), (3, .ref (al 1)), (4, .ref (al 2)), (5, .ref (al 3)), (6, .ref (al 4)), (7, .ref (al 5)), (8, .ref (al 6)), (9, .ref (al 7)), (10, .ref (al 8)), (11, .ref (al 9)), (12, .ref (al 10)), (14, .ref (al 12)), (15, .int (nI (1)))] [] := by
    intro sg hV
    have hM := hV.M
    refine aw_aload C dL_same_318 rfl rfl ?_
    refine aw_iconst (v := nI 3) C dL_same_320 rfl rfl ?_
    refine an_iald (k := 10) (i := 3) (N := 5) (v := (L.1 10 3)) C hM rfl rfl (by decide) rfl dL_same_321 rfl ?_
    refine an_if_le (a := (L.1 10 3)) (tgt := 405) C dL_same_322 (by have := hB 10 3; omega) (by decide) rfl (fun c322 => ?_) (fun c322 => ?_)
    · refine aw_pick (ls' := [(0, _), (2, _), (3, _), (4, _), (5, _), (6, _), (7, _), (8, _), (9, _), (10, _), (11, _), (12, _), (15, _)]) [0, 2, 3, 4, 5, 6, 7, 8, 9, 10, 11, 12, 14] rfl ?_
      exact aw_widen (by omega) (by omega) (k405 sg hV)
    · refine aw_iload C dL_same_325 rfl rfl ?_
      refine an_if_eq (a := 1) (tgt := 405) C dL_same_327 (by decide) (by decide) rfl (fun q => absurd q (by decide)) (fun _ => ?_)
      refine aw_iload_n C dL_same_330 rfl rfl rfl ?_
      refine aw_aload C dL_same_331 rfl rfl ?_
      refine aw_iconst (v := nI 3) C dL_same_333 rfl rfl ?_
      refine an_iald (k := 10) (i := 3) (N := 5) (v := (L.1 10 3)) C hM rfl rfl (by decide) rfl dL_same_334 rfl ?_
      refine cw_callSp C k_L_98 (N_low hl hst (v := zz) (N := (L.1 10 3)) c322 (by omega)) ⟨by decide, by decide⟩ rfl rfl (Nat.le_of_ble_eq_true rfl) (show 752 + 0 ≤ 2900 by omega) (show 5640 + 0 ≤ 21800 by omega) dL_same_335 rfl ?_
      obtain ⟨e, ee⟩ : ∃ q, q = n_low zz (L.1 10 3) := ⟨_, rfl⟩
      rw [← ee]
      have he : e < (L.1 10 3) := by rw [ee]; exact n_low_lt c322
      refine aw_istore (ls' := [(16, _), (0, _), (1, _), (2, _), (3, _), (4, _), (5, _), (6, _), (7, _), (8, _), (9, _), (10, _), (11, _), (12, _), (14, _), (15, _)]) C dL_same_338 (by decide) rfl rfl ?_
      refine aw_pick (ls' := [(0, _), (1, _), (2, _), (3, _), (4, _), (5, _), (6, _), (7, _), (8, _), (9, _), (10, _), (11, _), (12, _), (14, _), (15, _), (16, _)]) [1, 2, 3, 4, 5, 6, 7, 8, 9, 10, 11, 12, 13, 14, 15, 0] rfl ?_
      refine aw_aload_n C dL_same_340 rfl rfl rfl ?_
      refine aw_iload C dL_same_341 rfl rfl ?_
      refine aw_iconst (v := nI 0) C dL_same_343 rfl rfl ?_
      refine aw_ro C k_L_139 hV (fun ad Y hS => F_entry G hS hZ.1 (v := nI (e)) (w := nI (0))) ((q_entry hZ hR he).1) ⟨by decide, by decide⟩ rfl rfl rfl (Nat.le_of_ble_eq_true rfl) (show 752 + 8 ≤ 2900 by omega) (show 5640 + 60 ≤ 21800 by omega) dL_same_344 rfl (fun sg hV => ?_)
      have hM := hV.M
      refine aw_aload C dL_same_347 rfl rfl ?_
      refine aw_iload C dL_same_349 rfl rfl ?_
      refine an_iald (k := 12) (i := e) (N := 32) (v := (L.1 12 e)) C hM rfl rfl (by omega) rfl dL_same_351 rfl ?_
      refine aw_bipush (v := nI 8) C dL_same_352 rfl rfl ?_
      refine an_rem C (by have := hB 12 e; omega) (by decide) (by decide) dL_same_354 rfl ?_
      refine aw_icmp_ne (tgt := 402) C dL_same_355 (by decide) rfl (fun q => absurd rfl q) (fun _ => ?_)
      refine aw_aload_n C dL_same_358 rfl rfl rfl ?_
      refine aw_iload C dL_same_359 rfl rfl ?_
      refine aw_iconst (v := nI 1) C dL_same_361 rfl rfl ?_
      refine aw_ro C k_L_139 hV (fun ad Y hS => F_entry G hS hZ.1 (v := nI (e)) (w := nI (1))) ((q_entry hZ hR he).2.1) ⟨by decide, by decide⟩ rfl rfl rfl (Nat.le_of_ble_eq_true rfl) (show (752 + 8) + 8 ≤ 2900 by omega) (show (5640 + 60) + 60 ≤ 21800 by omega) dL_same_362 rfl (fun sg hV => ?_)
      have hM := hV.M
      refine aw_aload C dL_same_365 rfl rfl ?_
      refine aw_iload C dL_same_367 rfl rfl ?_
      refine an_iald (k := 12) (i := e) (N := 32) (v := (L.1 12 e)) C hM rfl rfl (by omega) rfl dL_same_369 rfl ?_
      refine aw_bipush (v := nI 8) C dL_same_370 rfl rfl ?_
      refine an_div C (by have := hB 12 e; omega) (by decide) (by decide) dL_same_372 rfl ?_
      refine aw_bipush (v := nI 64) C dL_same_373 rfl rfl ?_
      refine an_rem C (by have := hB 12 e; omega) (by decide) (by decide) dL_same_375 rfl ?_
      refine aw_icmp_ne (tgt := 402) C dL_same_376 (by decide) rfl (fun q => absurd rfl q) (fun _ => ?_)
      refine aw_aload_n C dL_same_379 rfl rfl rfl ?_
      refine aw_iload C dL_same_380 rfl rfl ?_
      refine aw_iconst (v := nI 2) C dL_same_382 rfl rfl ?_
      refine aw_ro C k_L_139 hV (fun ad Y hS => F_entry G hS hZ.1 (v := nI (e)) (w := nI (2))) ((q_entry hZ hR he).2.2) ⟨by decide, by decide⟩ rfl rfl rfl (Nat.le_of_ble_eq_true rfl) (show ((752 + 8) + 8) + 8 ≤ 2900 by omega) (show ((5640 + 60) + 60) + 60 ≤ 21800 by omega) dL_same_383 rfl (fun sg hV => ?_)
      have hM := hV.M
      refine aw_aload C dL_same_386 rfl rfl ?_
      refine aw_iload C dL_same_388 rfl rfl ?_
      refine an_iald (k := 12) (i := e) (N := 32) (v := (L.1 12 e)) C hM rfl rfl (by omega) rfl dL_same_390 rfl ?_
      refine aw_sipush (v := nI 512) C dL_same_391 rfl rfl ?_
      refine an_div C (by have := hB 12 e; omega) (by decide) (by decide) dL_same_394 rfl ?_
      refine aw_icmp_ne (tgt := 402) C dL_same_395 (by decide) rfl (fun q => absurd rfl q) (fun _ => ?_)
      refine aw_iconst (v := nI 1) C dL_same_398 rfl rfl ?_
      refine aw_goto (tgt := 403) C dL_same_399 (by decide) ?_
      refine aw_istore (ls' := [(15, _), (0, _), (1, _), (2, _), (3, _), (4, _), (5, _), (6, _), (7, _), (8, _), (9, _), (10, _), (11, _), (12, _), (14, _), (16, _)]) C dL_same_403 (by decide) rfl rfl ?_
      refine aw_pick (ls' := [(0, _), (1, _), (2, _), (3, _), (4, _), (5, _), (6, _), (7, _), (8, _), (9, _), (10, _), (11, _), (12, _), (14, _), (15, _), (16, _)]) [1, 2, 3, 4, 5, 6, 7, 8, 9, 10, 11, 12, 13, 14, 0, 15] rfl ?_
      refine aw_pick (ls' := [(0, _), (2, _), (3, _), (4, _), (5, _), (6, _), (7, _), (8, _), (9, _), (10, _), (11, _), (12, _), (15, _)]) [0, 2, 3, 4, 5, 6, 7, 8, 9, 10, 11, 12, 14] rfl ?_
      exact aw_widen (by omega) (by omega) (k405 sg hV)
  have k312b : ∀ sg, SV x.g ez al q u L sg → AW x (RQ x (fun v s' => v = some (.int 1) ∧ SV x.g ez al q u L s') noX 2900 21800) (752) (5640) sg 312 [(0, .ref (q)), (1, .int (zz)), (2, .ref (al 0)), (3, .ref (al 1)), (4, .ref (al 2)), (5, .ref (al 3)), (6, .ref (al 4)), (7, .ref (al 5)), (8, .ref (al 6)), (9, .ref (al 7)), (10, .ref (al 8)), (11, .ref (al 9)), (12, .ref (al 10)), (13, .ref (al 11)), (14, .ref (al 12)), (15, .int (nI (1))), (16, .int (nI (1)))] [] := by
    intro sg hV
    have c9001 : ¬ (1 + 1) < 2 := by decide
    refine aw_iinc (v' := nI (1 + 1)) (ls' := [(16, _), (0, _), (1, _), (2, _), (3, _), (4, _), (5, _), (6, _), (7, _), (8, _), (9, _), (10, _), (11, _), (12, _), (13, _), (14, _), (15, _)]) C dL_same_312 rfl (by decide) (nI_add (1) 1) rfl rfl ?_
    refine aw_pick (ls' := [(0, _), (1, _), (2, _), (3, _), (4, _), (5, _), (6, _), (7, _), (8, _), (9, _), (10, _), (11, _), (12, _), (13, _), (14, _), (15, _), (16, _)]) [1, 2, 3, 4, 5, 6, 7, 8, 9, 10, 11, 12, 13, 14, 15, 16, 0] rfl ?_
    refine aw_goto (tgt := 79) C dL_same_315 (by decide) ?_
    refine aw_iload C dL_same_79 rfl rfl ?_
    refine aw_iconst (v := nI 2) C dL_same_81 rfl rfl ?_
    refine an_icmp_ge (a := 1 + 1) (b := 2) (tgt := 318) C dL_same_82 (by omega) (by decide) (by decide) rfl (fun _ => ?_) (fun q => absurd q c9001)
    refine aw_pick (ls' := [(0, _), (1, _), (2, _), (3, _), (4, _), (5, _), (6, _), (7, _), (8, _), (9, _), (10, _), (11, _), (12, _), (14, _), (15, _)]) [0, 1, 2, 3, 4, 5, 6, 7, 8, 9, 10, 11, 12, 14, 15] rfl ?_
    exact k318 sg hV
  have k312a : ∀ sg, SV x.g ez al q u L sg → AW x (RQ x (fun v s' => v = some (.int 1) ∧ SV x.g ez al q u L s') noX 2900 21800) (400) (3000) sg 312 [(0, .ref (q)), (1, .int (zz)), (2, .ref (al 0)), (3, .ref (al 1)), (4, .ref (al 2)), (5, .ref (al 3)), (6, .ref (al 4)), (7, .ref (al 5)), (8, .ref (al 6)), (9, .ref (al 7)), (10, .ref (al 8)), (11, .ref (al 9)), (12, .ref (al 10)), (13, .ref (al 11)), (14, .ref (al 12)), (15, .int (nI (1))), (16, .int (nI (0)))] [] := by
    intro sg hV
    have c9001 : (0 + 1) < 2 := by decide
    refine aw_iinc (v' := nI (0 + 1)) (ls' := [(16, _), (0, _), (1, _), (2, _), (3, _), (4, _), (5, _), (6, _), (7, _), (8, _), (9, _), (10, _), (11, _), (12, _), (13, _), (14, _), (15, _)]) C dL_same_312 rfl (by decide) (nI_add (0) 1) rfl rfl ?_
    refine aw_pick (ls' := [(0, _), (1, _), (2, _), (3, _), (4, _), (5, _), (6, _), (7, _), (8, _), (9, _), (10, _), (11, _), (12, _), (13, _), (14, _), (15, _), (16, _)]) [1, 2, 3, 4, 5, 6, 7, 8, 9, 10, 11, 12, 13, 14, 15, 16, 0] rfl ?_
    refine aw_goto (tgt := 79) C dL_same_315 (by decide) ?_
    refine aw_iload C dL_same_79 rfl rfl ?_
    refine aw_iconst (v := nI 2) C dL_same_81 rfl rfl ?_
    refine an_icmp_ge (a := 0 + 1) (b := 2) (tgt := 318) C dL_same_82 (by omega) (by decide) (by decide) rfl (fun q => absurd c9001 q) (fun _ => ?_)
    refine aw_iload C dL_same_85 rfl rfl ?_
    refine an_if_eq (a := 1) (tgt := 318) C dL_same_87 (by decide) (by decide) rfl (fun q => absurd q (by decide)) (fun _ => ?_)
    exact S_thing G C hZ hR (t := 1) (c := 400) (n := 3000) (by decide) (by decide) (by decide) k312b sg hV
  have k76 : ∀ sg, SV x.g ez al q u L sg → AW x (RQ x (fun v s' => v = some (.int 1) ∧ SV x.g ez al q u L s') noX 2900 21800) (48) (360) sg 76 [(0, .ref (q)), (1, .int (zz)), (2, .ref (al 0)), (3, .ref (al 1)), (4, .ref (al 2)), (5, .ref (al 3)), (6, .ref (al 4)), (7, .ref (al 5)), (8, .ref (al 6)), (9, .ref (al 7)), (10, .ref (al 8)), (11, .ref (al 9)), (12, .ref (al 10)), (13, .ref (al 11)), (14, .ref (al 12)), (15, .int (nI (1)))] [] := by
    intro sg hV
    refine aw_iconst (v := nI 0) C dL_same_76 rfl rfl ?_
    refine aw_istore (ls' := [(16, _), (0, _), (1, _), (2, _), (3, _), (4, _), (5, _), (6, _), (7, _), (8, _), (9, _), (10, _), (11, _), (12, _), (13, _), (14, _), (15, _)]) C dL_same_77 (by decide) rfl rfl ?_
    refine aw_pick (ls' := [(0, _), (1, _), (2, _), (3, _), (4, _), (5, _), (6, _), (7, _), (8, _), (9, _), (10, _), (11, _), (12, _), (13, _), (14, _), (15, _), (16, _)]) [1, 2, 3, 4, 5, 6, 7, 8, 9, 10, 11, 12, 13, 14, 15, 16, 0] rfl ?_
    refine aw_iload C dL_same_79 rfl rfl ?_
    refine aw_iconst (v := nI 2) C dL_same_81 rfl rfl ?_
    refine an_icmp_ge (a := 0) (b := 2) (tgt := 318) C dL_same_82 (by decide) (by decide) (by decide) rfl (fun q => absurd (by decide) q) (fun _ => ?_)
    refine aw_iload C dL_same_85 rfl rfl ?_
    refine an_if_eq (a := 1) (tgt := 318) C dL_same_87 (by decide) (by decide) rfl (fun q => absurd q (by decide)) (fun _ => ?_)
    exact S_thing G C hZ hR (t := 0) (c := 48) (n := 360) (by decide) (by decide) (by decide) k312a sg hV
  refine aw_aload_n C dL_same_0 rfl rfl rfl ?_
  obtain ⟨ad, Y, hS, e0, hM0⟩ := hV
  subst e0
  refine aw_callV C k_L_120 (F_entries G hS hZ.1) ⟨by decide, by decide⟩ (ci := 10) rfl hS.O rfl rfl (Nat.le_of_ble_eq_true rfl) (Nat.le_of_ble_eq_true rfl) (Nat.le_of_ble_eq_true rfl) dL_same_1 rfl (fun _ _ q => ax_no q) (fun v1 sg hq => ?_)
  obtain ⟨rfl, hC⟩ := hq
  rw [hR.ne.1]
  have hM := hM0.keepC hS hC.fr
  obtain ⟨ad', Y', hS1, e1, -⟩ := hC
  rw [← e1]
  refine aw_aload C dL_same_4 rfl rfl ?_
  refine aw_iconst (v := nI 3) C dL_same_6 rfl rfl ?_
  refine an_iald (k := 10) (i := 3) (N := 5) (v := (L.1 10 3)) C hM rfl rfl (by decide) rfl dL_same_7 rfl ?_
  refine aw_icmp_ne (tgt := 28) C dL_same_8 (by decide) rfl (fun q => absurd rfl q) (fun _ => ?_)
  refine aw_aload_n C dL_same_11 rfl rfl rfl ?_
  refine aw_callV C k_L_124 (F_duties G hS1 hZ.1) ⟨by decide, by decide⟩ (ci := 10) rfl hS1.O rfl rfl (Nat.le_of_ble_eq_true rfl) (Nat.le_of_ble_eq_true rfl) (Nat.le_of_ble_eq_true rfl) dL_same_12 rfl (fun _ _ q => ax_no q) (fun v1 sg hq => ?_)
  obtain ⟨rfl, hC⟩ := hq
  rw [hR.du]
  have hM := hM.keepC hS1 hC.fr
  obtain ⟨ad2, Y2, hS2, e2, -⟩ := hC
  have hV : SV x.g ez al (ad 0 0) u L sg := ⟨ad2, Y2, hS2, e2.trans e1, hM⟩
  rw [e1]
  refine aw_aload C dL_same_15 rfl rfl ?_
  refine aw_iconst (v := nI 4) C dL_same_17 rfl rfl ?_
  refine an_iald (k := 10) (i := 4) (N := 5) (v := (L.1 10 4)) C hM rfl rfl (by decide) rfl dL_same_18 rfl ?_
  refine an_i2l C (by have := hB 10 4; omega) dL_same_19 rfl ?_
  refine an_lc_ne (p1 := 20) (a := (L.1 10 4)) (b := (L.1 10 4)) (tgt := 28) C dL_same_20 rfl dL_same_21 (by have := hB 10 4; omega) (by have := hB 10 4; omega) (by decide) rfl (fun q => absurd rfl q) (fun _ => ?_)
  refine aw_iconst (v := nI 1) C dL_same_24 rfl rfl ?_
  refine aw_goto (tgt := 29) C dL_same_25 (by decide) ?_
  refine aw_istore (ls' := [(15, _), (0, _), (1, _), (2, _), (3, _), (4, _), (5, _), (6, _), (7, _), (8, _), (9, _), (10, _), (11, _), (12, _), (13, _), (14, _)]) C dL_same_29 (by decide) rfl rfl ?_
  refine aw_pick (ls' := [(0, _), (1, _), (2, _), (3, _), (4, _), (5, _), (6, _), (7, _), (8, _), (9, _), (10, _), (11, _), (12, _), (13, _), (14, _), (15, _)]) [1, 2, 3, 4, 5, 6, 7, 8, 9, 10, 11, 12, 13, 14, 15, 0] rfl ?_
  refine aw_iconst (v := nI 0) C dL_same_31 rfl rfl ?_
  refine aw_istore (ls' := [(16, _), (0, _), (1, _), (2, _), (3, _), (4, _), (5, _), (6, _), (7, _), (8, _), (9, _), (10, _), (11, _), (12, _), (13, _), (14, _), (15, _)]) C dL_same_32 (by decide) rfl rfl ?_
  refine aw_pick (ls' := [(0, _), (1, _), (2, _), (3, _), (4, _), (5, _), (6, _), (7, _), (8, _), (9, _), (10, _), (11, _), (12, _), (13, _), (14, _), (15, _), (16, _)]) [1, 2, 3, 4, 5, 6, 7, 8, 9, 10, 11, 12, 13, 14, 15, 16, 0] rfl ?_
  exact S_able G C hZ hR k76 6 0 sg (by omega) hV
