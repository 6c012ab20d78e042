/-! the label -/
def dgF (m n : Nat) (f : Nat → Int32) : Nat → Int32 := if m < 10 then upd f n (nI (48 + m)) else upd (upd f (n + 1) (nI (48 + m % 10))) n (nI (48 + m / 10))
def dgN (m : Nat) : Nat := if m < 10 then 1 else 2
theorem w893 : Cond.fieldLink RJ6 83 "java/lang/Integer" "DigitOnes" "[B" ∈ WS := ws_of 1097 (by decide +kernel)
theorem w895 : Cond.fieldLink RJ6 87 "java/lang/Integer" "DigitTens" "[B" ∈ WS := ws_of 1099 (by decide +kernel)
theorem dg_b {d : Nat} (h : d < 10) : vp_nar .byte (nI (48 + d)) = nI (48 + d) := by
  match d, h with
  | 0, _ | 1, _ | 2, _ | 3, _ | 4, _ | 5, _ | 6, _ | 7, _ | 8, _ | 9, _ => decide
  | _ + 10, h => omega
theorem nI_negneg (m : Nat) : -(-nI m) = nI m := Int32.neg_neg
theorem nI_dec {n : Nat} : nI (n + 1) + (-1) = nI n := by
  rw [← Int32.sub_eq_add_neg]
  exact pk_sub (b := 1) (Nat.le_add_left 1 n)
set_option maxRecDepth 100000 in
theorem L_getChars {g : Gx} {l : Launch} {ez : Nat} (G : GOK g l ez) {sg : Sg} {v : Nat} {f : Nat → Int32} (hv : sg v = some (arB g 16 f)) {m n : Nat} (hm : m < 100) (hn : n + dgN m ≤ 16) : MM g l yJ6_getChars_ba4f3 cJ6_getChars_ba4f3 7 (some .int) (rmC 1 0 0) sg [.int (nI m), .int (nI (n + dgN m)), .ref v] (fun w s' => w = some (.int (nI n)) ∧ s' v = some (arB g 16 (dgF m n f)) ∧ ∀ a, a ≠ v → s' a = sg a) (noX) := by
  refine MM.of G.1 G.2.1 (by decide) (Nat.le_of_ble_eq_true rfl) (fun x hg hlx C hin hout hargs => ?_)
  subst hg; subst hlx
  have C : AWC x cJ6_getChars_ba4f3 7 RJ6 (rmC 1 0 0) (some .int) := C
  show AW x (RQ x _ _ _ _) 0 0 sg 0 [(0, .int (nI m)), (1, .int (nI (n + dgN m))), (2, .ref v)] []
  obtain ⟨to, hZo, hTo⟩ := (C.cx G).2.2.2.2.2.2.2.1
  obtain ⟨tt, hZt, hTt⟩ := (C.cx G).2.2.2.2.2.2.2.2.1
  by_cases hs : m < 10
  · have hd1 : dgN m = 1 := if_pos hs
    refine aw_iload_n C dJ6_getChars_ba4f3_0 rfl rfl rfl ?_
    refine aw_istore (ls' := [(5, _), (0, _), (1, _), (2, _)]) C dJ6_getChars_ba4f3_1 (by decide) rfl rfl ?_
    refine aw_iload_n C dJ6_getChars_ba4f3_3 rfl rfl rfl ?_
    refine aw_if_ge (tgt := 11) C dJ6_getChars_ba4f3_4 (by decide) rfl (fun _ => ?_) (fun c => absurd (Int32.not_lt.mp (nI_pos (by omega))) c)
    refine aw_iconst (v := 0) C dJ6_getChars_ba4f3_11 rfl rfl ?_
    refine aw_istore (ls' := [(6, _), (5, _), (0, _), (1, _), (2, _)]) C dJ6_getChars_ba4f3_12 (by decide) rfl rfl ?_
    refine aw_iload C dJ6_getChars_ba4f3_14 rfl rfl ?_
    refine aw_if_ne (tgt := 22) C dJ6_getChars_ba4f3_16 (by decide) rfl (fun c => absurd rfl c) (fun _ => ?_)
    refine aw_iload_n C dJ6_getChars_ba4f3_19 rfl rfl rfl ?_
    refine aw_ineg C dJ6_getChars_ba4f3_20 rfl ?_
    refine aw_istore_n (ls' := [(0, _), (6, _), (5, _), (1, _), (2, _)]) C dJ6_getChars_ba4f3_21 rfl (by decide) rfl rfl ?_
    refine aw_iload_n C dJ6_getChars_ba4f3_22 rfl rfl rfl ?_
    refine aw_bipush (v := -100) C dJ6_getChars_ba4f3_23 rfl rfl ?_
    refine aw_icmp_gt (tgt := 72) C dJ6_getChars_ba4f3_25 (by decide) rfl (fun _ => ?_) (fun c => absurd (Int32.not_le.mp (fun z => by have := (neg_le (a := m) (b := 100) (by omega) (by decide)).mp z; omega)) c)
    refine aw_aload_n C dJ6_getChars_ba4f3_72 rfl rfl rfl ?_
    refine aw_iinc (v' := nI (n)) (ls' := [(5, _), (0, _), (6, _), (1, _), (2, _)]) C dJ6_getChars_ba4f3_73 rfl (by decide) (by rw [show n + dgN m = n + 1 from (by unfold dgN; rw [if_pos hs])]; exact nI_dec) rfl rfl ?_
    refine aw_iload C dJ6_getChars_ba4f3_76 rfl rfl ?_
    refine aw_gets C hZo w893 dJ6_getChars_ba4f3_78 rfl ?_
    refine aw_iload_n C dJ6_getChars_ba4f3_81 rfl rfl rfl ?_
    refine aw_ineg C dJ6_getChars_ba4f3_82 rfl ?_
    rw [nI_negneg]
    refine aw_bldT (v := .int (nI (48 + m % 10))) C hTo (vp_in_nI hm (by decide)) (by show Value.int (nI (48 + (nI m).toNatClampNeg % 10)) = _; rw [nI_clamp (by omega)]) dJ6_getChars_ba4f3_83 rfl ?_
    refine aw_bast C hv (vp_in_nI (by omega) (by decide)) (dg_b (by omega)) dJ6_getChars_ba4f3_84 rfl ?_
    rw [nI_clamp (by omega)]
    refine aw_iload_n C dJ6_getChars_ba4f3_85 rfl rfl rfl ?_
    refine aw_bipush (v := -9) C dJ6_getChars_ba4f3_86 rfl rfl ?_
    refine aw_icmp_ge (tgt := 104) C dJ6_getChars_ba4f3_88 (by decide) rfl (fun _ => ?_) (fun c => absurd ((neg_le (a := 9) (b := m) (by decide) (by omega)).mpr (by omega)) c)
    refine aw_iload C dJ6_getChars_ba4f3_104 rfl rfl ?_
    refine aw_if_eq (tgt := 118) C dJ6_getChars_ba4f3_106 (by decide) rfl (fun _ => ?_) (fun c => absurd rfl c)
    refine aw_iload C dJ6_getChars_ba4f3_118 rfl rfl ?_
    exact aw_iret C rfl (Nat.le_of_ble_eq_true rfl) (Nat.le_of_ble_eq_true rfl) ⟨rfl, sgu_s.trans (by rw [dgF, if_pos hs, show m % 10 = m by omega]), fun a h => sgu_n h⟩ dJ6_getChars_ba4f3_120
  · have hd1 : dgN m = 2 := if_neg hs
    refine aw_iload_n C dJ6_getChars_ba4f3_0 rfl rfl rfl ?_
    refine aw_istore (ls' := [(5, _), (0, _), (1, _), (2, _)]) C dJ6_getChars_ba4f3_1 (by decide) rfl rfl ?_
    refine aw_iload_n C dJ6_getChars_ba4f3_3 rfl rfl rfl ?_
    refine aw_if_ge (tgt := 11) C dJ6_getChars_ba4f3_4 (by decide) rfl (fun _ => ?_) (fun c => absurd (Int32.not_lt.mp (nI_pos (by omega))) c)
    refine aw_iconst (v := 0) C dJ6_getChars_ba4f3_11 rfl rfl ?_
    refine aw_istore (ls' := [(6, _), (5, _), (0, _), (1, _), (2, _)]) C dJ6_getChars_ba4f3_12 (by decide) rfl rfl ?_
    refine aw_iload C dJ6_getChars_ba4f3_14 rfl rfl ?_
    refine aw_if_ne (tgt := 22) C dJ6_getChars_ba4f3_16 (by decide) rfl (fun c => absurd rfl c) (fun _ => ?_)
    refine aw_iload_n C dJ6_getChars_ba4f3_19 rfl rfl rfl ?_
    refine aw_ineg C dJ6_getChars_ba4f3_20 rfl ?_
    refine aw_istore_n (ls' := [(0, _), (6, _), (5, _), (1, _), (2, _)]) C dJ6_getChars_ba4f3_21 rfl (by decide) rfl rfl ?_
    refine aw_iload_n C dJ6_getChars_ba4f3_22 rfl rfl rfl ?_
    refine aw_bipush (v := -100) C dJ6_getChars_ba4f3_23 rfl rfl ?_
    refine aw_icmp_gt (tgt := 72) C dJ6_getChars_ba4f3_25 (by decide) rfl (fun _ => ?_) (fun c => absurd (Int32.not_le.mp (fun z => by have := (neg_le (a := m) (b := 100) (by omega) (by decide)).mp z; omega)) c)
    refine aw_aload_n C dJ6_getChars_ba4f3_72 rfl rfl rfl ?_
    refine aw_iinc (v' := nI (n + 1)) (ls' := [(5, _), (0, _), (6, _), (1, _), (2, _)]) C dJ6_getChars_ba4f3_73 rfl (by decide) (by rw [show n + dgN m = n + 1 + 1 from (by unfold dgN; rw [if_neg hs])]; exact nI_dec) rfl rfl ?_
    refine aw_iload C dJ6_getChars_ba4f3_76 rfl rfl ?_
    refine aw_gets C hZo w893 dJ6_getChars_ba4f3_78 rfl ?_
    refine aw_iload_n C dJ6_getChars_ba4f3_81 rfl rfl rfl ?_
    refine aw_ineg C dJ6_getChars_ba4f3_82 rfl ?_
    rw [nI_negneg]
    refine aw_bldT (v := .int (nI (48 + m % 10))) C hTo (vp_in_nI hm (by decide)) (by show Value.int (nI (48 + (nI m).toNatClampNeg % 10)) = _; rw [nI_clamp (by omega)]) dJ6_getChars_ba4f3_83 rfl ?_
    refine aw_bast C hv (vp_in_nI (by omega) (by decide)) (dg_b (by omega)) dJ6_getChars_ba4f3_84 rfl ?_
    rw [nI_clamp (by omega)]
    refine aw_iload_n C dJ6_getChars_ba4f3_85 rfl rfl rfl ?_
    refine aw_bipush (v := -9) C dJ6_getChars_ba4f3_86 rfl rfl ?_
    refine aw_icmp_ge (tgt := 104) C dJ6_getChars_ba4f3_88 (by decide) rfl (fun c => absurd ((neg_le (a := 9) (b := m) (by decide) (by omega)).mp c) (by omega)) (fun _ => ?_)
    refine aw_aload_n C dJ6_getChars_ba4f3_91 rfl rfl rfl ?_
    refine aw_iinc (v' := nI n) (ls' := [(5, _), (0, _), (6, _), (1, _), (2, _)]) C dJ6_getChars_ba4f3_92 rfl (by decide) nI_dec rfl rfl ?_
    refine aw_iload C dJ6_getChars_ba4f3_95 rfl rfl ?_
    refine aw_gets C hZt w895 dJ6_getChars_ba4f3_97 rfl ?_
    refine aw_iload_n C dJ6_getChars_ba4f3_100 rfl rfl rfl ?_
    refine aw_ineg C dJ6_getChars_ba4f3_101 rfl ?_
    rw [nI_negneg]
    refine aw_bldT (v := .int (nI (48 + m / 10))) C hTt (vp_in_nI hm (by decide)) (by show Value.int (nI (48 + (nI m).toNatClampNeg / 10)) = _; rw [nI_clamp (by omega)]) dJ6_getChars_ba4f3_102 rfl ?_
    refine aw_bast C sgu_s (vp_in_nI (by omega) (by decide)) (dg_b (by omega)) dJ6_getChars_ba4f3_103 rfl ?_
    rw [nI_clamp (by omega)]
    refine aw_iload C dJ6_getChars_ba4f3_104 rfl rfl ?_
    refine aw_if_eq (tgt := 118) C dJ6_getChars_ba4f3_106 (by decide) rfl (fun _ => ?_) (fun c => absurd rfl c)
    refine aw_iload C dJ6_getChars_ba4f3_118 rfl rfl ?_
    exact aw_iret C rfl (Nat.le_of_ble_eq_true rfl) (Nat.le_of_ble_eq_true rfl) ⟨rfl, sgu_s.trans (by rw [dgF, if_neg hs]), fun a h => (sgu_n h).trans (sgu_n h)⟩ dJ6_getChars_ba4f3_120
set_option maxRecDepth 100000 in
theorem L_appI5 {g : Gx} {l : Launch} {ez : Nat} (G : GOK g l ez) {sg : Sg} {q v n : Nat} {f : Nat → Int32} (hB : SB g sg q v n f) {m : Nat} (hm : m < 100) (hn : n + dgN m ≤ 16) : MM g l yJ5_append_c97b9 cJ5_append_c97b9 4 (some (.object "java/lang/AbstractStringBuilder")) (rmC 3 0 0) sg [.ref q, .int (nI m)] (fun w s' => w = some (.ref q) ∧ SB g s' q v (n + dgN m) (dgF m n f) ∧ ∀ a, a ≠ q → a ≠ v → s' a = sg a) (noX) := by
  refine MM.of G.1 G.2.1 (by decide) (Nat.le_of_ble_eq_true rfl) (fun x hg hlx C hin hout hargs => ?_)
  subst hg; subst hlx
  have C : AWC x cJ5_append_c97b9 4 RJ5 (rmC 3 0 0) (some (.object "java/lang/AbstractStringBuilder")) := C
  show AW x (RQ x _ _ _ _) 0 0 sg 0 [(0, .ref q), (1, .int (nI m))] []
  refine aw_aload_n C dJ5_append_c97b9_0 rfl rfl rfl ?_
  refine aw_getf C f_J5_79 hB.1 rfl dJ5_append_c97b9_1 rfl ?_
  refine aw_istore_n (ls' := [(2, _), (0, _), (1, _)]) C dJ5_append_c97b9_4 rfl (by decide) rfl rfl ?_
  refine aw_iload_n C dJ5_append_c97b9_5 rfl rfl rfl ?_
  refine aw_iload_n C dJ5_append_c97b9_6 rfl rfl rfl ?_
  refine cw_callSp C k_J5_245 (L_size10 G hm) ⟨by decide, by decide⟩ rfl rfl (Nat.le_of_ble_eq_true rfl) (Nat.le_of_ble_eq_true rfl) (Nat.le_of_ble_eq_true rfl) dJ5_append_c97b9_7 rfl ?_
  rw [show (if m < 10 then 1 else 2 : Int32) = nI (dgN m) from (by unfold dgN; split <;> rfl)]
  refine aw_iadd C dJ5_append_c97b9_10 rfl ?_
  rw [nI_add]
  refine aw_istore_n (ls' := [(3, _), (2, _), (0, _), (1, _)]) C dJ5_append_c97b9_11 rfl (by decide) rfl rfl ?_
  refine aw_aload_n C dJ5_append_c97b9_12 rfl rfl rfl ?_
  refine aw_iload_n C dJ5_append_c97b9_13 rfl rfl rfl ?_
  refine aw_callC C bJ5_ensureCapacityInternal_d00df w809 biJ5_ensureCapacityInternal_d00df (selE C) (L_ensure G hB (m := n + dgN m) hn) ⟨by decide, by decide⟩ (ci := 0) rfl hB.1 rfl rfl (Nat.le_of_ble_eq_true rfl) (Nat.le_of_ble_eq_true rfl) (Nat.le_of_ble_eq_true rfl) dJ5_append_c97b9_14 rfl (fun _ _ q => ax_no q) (fun v9 s9 hq9 => ?_)
  obtain ⟨rfl, hs9⟩ := hq9
  obtain rfl := hs9.symm
  refine aw_aload_n C dJ5_append_c97b9_17 rfl rfl rfl ?_
  refine aw_callC C bJ5_isLatin1_aae02 w829 w830 (selL C) (L_isLatin1 G hB) ⟨by decide, by decide⟩ (ci := 0) rfl hB.1 rfl rfl (Nat.le_of_ble_eq_true rfl) (Nat.le_of_ble_eq_true rfl) (Nat.le_of_ble_eq_true rfl) dJ5_append_c97b9_18 rfl (fun _ _ q => ax_no q) (fun v8 s8 hq8 => ?_)
  obtain ⟨rfl, hs8⟩ := hq8
  obtain rfl := hs8.symm
  refine aw_if_eq (tgt := 37) C dJ5_append_c97b9_21 (by decide) rfl (fun h => by first | exact absurd h (by decide) | exact absurd (by decide) h) (fun _ => ?_)
  refine aw_iload_n C dJ5_append_c97b9_24 rfl rfl rfl ?_
  refine aw_iload_n C dJ5_append_c97b9_25 rfl rfl rfl ?_
  refine aw_aload_n C dJ5_append_c97b9_26 rfl rfl rfl ?_
  refine aw_getf C f_J5_15 hB.1 rfl dJ5_append_c97b9_27 rfl ?_
  refine aw_callS C k_J5_248 (L_getChars G hB.2 hm hn) ⟨by decide, by decide⟩ rfl rfl (Nat.le_of_ble_eq_true rfl) (Nat.le_of_ble_eq_true rfl) (Nat.le_of_ble_eq_true rfl) dJ5_append_c97b9_30 rfl (fun _ _ q => ax_no q) (fun v1 s1 hq => ?_)
  obtain ⟨rfl, hv1, hfr1⟩ := hq
  refine aw_pop C dJ5_append_c97b9_33 rfl rfl ?_
  refine aw_goto (tgt := 48) C dJ5_append_c97b9_34 (by decide) ?_
  refine aw_aload_n C dJ5_append_c97b9_48 rfl rfl rfl ?_
  refine aw_iload_n C dJ5_append_c97b9_49 rfl rfl rfl ?_
  refine aw_putf (fs' := [.ref v, .int 0, .int 0, .int (nI (n + dgN m))]) C f_J5_79 rfl ((hfr1 q hB.ne).trans hB.1) rfl rfl (Nat.le_of_ble_eq_true rfl) rfl dJ5_append_c97b9_50 rfl ?_
  refine aw_aload_n C dJ5_append_c97b9_53 rfl rfl rfl ?_
  exact aw_aret (r := some _) C (Or.inl ⟨_, rfl⟩) (Nat.le_of_ble_eq_true rfl) (Nat.le_of_ble_eq_true rfl) ⟨rfl, ⟨sgu_s, (sgu_n (Ne.symm hB.ne)).trans hv1⟩, fun a h1 h2 => (sgu_n h1).trans (hfr1 a h2)⟩ dJ5_append_c97b9_54
set_option maxRecDepth 100000 in
theorem L_appI4 {g : Gx} {l : Launch} {ez : Nat} (G : GOK g l ez) {sg : Sg} {q v n : Nat} {f : Nat → Int32} (hB : SB g sg q v n f) {m : Nat} (hm : m < 100) (hn : n + dgN m ≤ 16) : MM g l yJ4_append_bf812 cJ4_append_bf812 2 (some (.object "java/lang/StringBuilder")) (rmC 4 0 0) sg [.ref q, .int (nI m)] (fun w s' => w = some (.ref q) ∧ SB g s' q v (n + dgN m) (dgF m n f) ∧ ∀ a, a ≠ q → a ≠ v → s' a = sg a) (noX) := by
  refine MM.of G.1 G.2.1 (by decide) (Nat.le_of_ble_eq_true rfl) (fun x hg hlx C hin hout hargs => ?_)
  subst hg; subst hlx
  have C : AWC x cJ4_append_bf812 2 RJ4 (rmC 4 0 0) (some (.object "java/lang/StringBuilder")) := C
  show AW x (RQ x _ _ _ _) 0 0 sg 0 [(0, .ref q), (1, .int (nI m))] []
  refine aw_aload_n C dJ4_append_bf812_0 rfl rfl rfl ?_
  refine aw_iload_n C dJ4_append_bf812_1 rfl rfl rfl ?_
  refine aw_callSU (zC := RJ4) (zx := yJ5_isLatin1_aae02) (z := yJ5_isLatin1_aae02) C bJ5_append_c97b9 w884 biJ5_append_c97b9 w798 rfl w832 (by decide) h_new_J4 (L_appI5 G hB hm hn) ⟨by decide, by decide⟩ (ci := 0) rfl hB.1 rfl rfl (Nat.le_of_ble_eq_true rfl) (Nat.le_of_ble_eq_true rfl) (Nat.le_of_ble_eq_true rfl) dJ4_append_bf812_2 rfl (fun _ _ q => ax_no q) (fun v1 s1 hq => ?_)
  obtain ⟨rfl, hB1, hfr⟩ := hq
  refine aw_pop C dJ4_append_bf812_5 rfl rfl ?_
  refine aw_aload_n C dJ4_append_bf812_6 rfl rfl rfl ?_
  exact aw_aret (r := some _) C (Or.inl ⟨_, rfl⟩) (Nat.le_of_ble_eq_true rfl) (Nat.le_of_ble_eq_true rfl) ⟨rfl, hB1, hfr⟩ dJ4_append_bf812_7
