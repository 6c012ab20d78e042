/-! StringBuilder: append, length, charAt -/
theorem SB.ne {g : Gx} {sg : Sg} {q v n : Nat} {f : Nat → Int32} (h : SB g sg q v n f) : q ≠ v := fun z => ob_arB h.1 (z ▸ h.2)
theorem w806 : Cond.methodLink RJ4 50 yJ5_append_3fe6f ∈ WS := ws_of 1010 (by decide +kernel)
theorem w884 : Cond.methodLink RJ4 53 yJ5_append_c97b9 ∈ WS := ws_of 1088 (by decide +kernel)
theorem w921 : Cond.methodLink RJ4 343 yJ5_length_8abf5 ∈ WS := ws_of 1125 (by decide +kernel)
theorem w928 : Cond.methodLink RJ4 329 yJ5_charAt_5068e ∈ WS := ws_of 1132 (by decide +kernel)
theorem w798 : Cond.superclass RJ4 RJ5 ∈ WS := ws_of 1002 (by decide +kernel)
theorem w809 : Cond.methodLink RJ5 100 yJ5_ensureCapacityInternal_d00df ∈ WS := ws_of 1013 (by decide +kernel)
theorem w829 : Cond.methodLink RJ5 83 yJ5_isLatin1_aae02 ∈ WS := ws_of 1033 (by decide +kernel)
theorem w830 : Cond.instanceMethod yJ5_isLatin1_aae02 ∈ WS := ws_of 1034 (by decide +kernel)
set_option maxRecDepth 100000 in
theorem L_app5 {g : Gx} {l : Launch} {ez : Nat} (G : GOK g l ez) {sg : Sg} {q v n : Nat} {f : Nat → Int32} (hB : SB g sg q v n f) (hn : n < 16) {c : Int32} (hc1 : c ≤ 255) (hc2 : c.toInt8.toInt32 = c) (hc3 : vp_nar .byte c = c) : MM g l yJ5_append_3fe6f cJ5_append_3fe6f 2 (some (.object "java/lang/AbstractStringBuilder")) (rmC 3 0 0) sg [.ref q, .int c] (fun w s' => w = some (.ref q) ∧ SB g s' q v (n + 1) (upd f n c) ∧ ∀ a, a ≠ q → a ≠ v → s' a = sg a) (noX) := by
  refine MM.of G.1 G.2.1 (by decide) (Nat.le_of_ble_eq_true rfl) (fun x hg hlx C hin hout hargs => ?_)
  subst hg; subst hlx
  have C : AWC x cJ5_append_3fe6f 2 RJ5 (rmC 3 0 0) (some (.object "java/lang/AbstractStringBuilder")) := C
  show AW x (RQ x _ _ _ _) 0 0 sg 0 [(0, .ref q), (1, .int c)] []
  refine aw_aload_n C dJ5_append_3fe6f_0 rfl rfl rfl ?_
  refine aw_aload_n C dJ5_append_3fe6f_1 rfl rfl rfl ?_
  refine aw_getf C f_J5_79 hB.1 rfl dJ5_append_3fe6f_2 rfl ?_
  refine aw_iconst (v := 1) C dJ5_append_3fe6f_5 rfl rfl ?_
  refine aw_iadd C dJ5_append_3fe6f_6 rfl ?_
  rw [nI_1 n]
  refine aw_callC C bJ5_ensureCapacityInternal_d00df w809 biJ5_ensureCapacityInternal_d00df (selE C) (L_ensure G hB (m := n + 1) (by omega)) ⟨by decide, by decide⟩ (ci := 0) rfl hB.1 rfl rfl (Nat.le_of_ble_eq_true rfl) (Nat.le_of_ble_eq_true rfl) (Nat.le_of_ble_eq_true rfl) dJ5_append_3fe6f_7 rfl (fun _ _ q => ax_no q) (fun v9 s9 hq9 => ?_)
  obtain ⟨rfl, hs9⟩ := hq9
  obtain rfl := hs9.symm
  refine aw_aload_n C dJ5_append_3fe6f_10 rfl rfl rfl ?_
  refine aw_callC C bJ5_isLatin1_aae02 w829 w830 (selL C) (L_isLatin1 G hB) ⟨by decide, by decide⟩ (ci := 0) rfl hB.1 rfl rfl (Nat.le_of_ble_eq_true rfl) (Nat.le_of_ble_eq_true rfl) (Nat.le_of_ble_eq_true rfl) dJ5_append_3fe6f_11 rfl (fun _ _ q => ax_no q) (fun v8 s8 hq8 => ?_)
  obtain ⟨rfl, hs8⟩ := hq8
  obtain rfl := hs8.symm
  refine aw_if_eq (tgt := 45) C dJ5_append_3fe6f_14 (by decide) rfl (fun h => by first | exact absurd h (by decide) | exact absurd (by decide) h) (fun _ => ?_)
  refine aw_iload_n C dJ5_append_3fe6f_17 rfl rfl rfl ?_
  refine cw_callSp C k_J5_191 (L_canEncode G hc1) ⟨by decide, by decide⟩ rfl rfl (Nat.le_of_ble_eq_true rfl) (Nat.le_of_ble_eq_true rfl) (Nat.le_of_ble_eq_true rfl) dJ5_append_3fe6f_18 rfl ?_
  refine aw_if_eq (tgt := 45) C dJ5_append_3fe6f_21 (by decide) rfl (fun h => by first | exact absurd h (by decide) | exact absurd (by decide) h) (fun _ => ?_)
  refine aw_aload_n C dJ5_append_3fe6f_24 rfl rfl rfl ?_
  refine aw_getf C f_J5_15 hB.1 rfl dJ5_append_3fe6f_25 rfl ?_
  refine aw_aload_n C dJ5_append_3fe6f_28 rfl rfl rfl ?_
  refine aw_dup C dJ5_append_3fe6f_29 rfl rfl ?_
  refine aw_getf C f_J5_79 hB.1 rfl dJ5_append_3fe6f_30 rfl ?_
  refine aw_dup_x1 C dJ5_append_3fe6f_33 rfl rfl rfl ?_
  refine aw_iconst (v := 1) C dJ5_append_3fe6f_34 rfl rfl ?_
  refine aw_iadd C dJ5_append_3fe6f_35 rfl ?_
  rw [nI_1 n]
  refine aw_putf (fs' := [.ref v, .int 0, .int 0, .int (nI (n + 1))]) C f_J5_79 rfl hB.1 rfl rfl (Nat.le_of_ble_eq_true rfl) rfl dJ5_append_3fe6f_36 rfl ?_
  refine aw_iload_n C dJ5_append_3fe6f_39 rfl rfl rfl ?_
  refine aw_i2b C dJ5_append_3fe6f_40 rfl ?_
  rw [hc2]
  refine aw_bast C ((sgu_n (Ne.symm hB.ne)).trans hB.2) (vp_in_nI hn (by decide)) hc3 dJ5_append_3fe6f_41 rfl ?_
  rw [nI_clamp (by omega)]
  refine aw_goto (tgt := 75) C dJ5_append_3fe6f_42 (by decide) ?_
  refine aw_aload_n C dJ5_append_3fe6f_75 rfl rfl rfl ?_
  exact aw_aret (r := some _) C (Or.inl ⟨_, rfl⟩) (Nat.le_of_ble_eq_true rfl) (Nat.le_of_ble_eq_true rfl) ⟨rfl, ⟨(sgu_n hB.ne).trans sgu_s, sgu_s⟩, fun a h1 h2 => (sgu_n h2).trans (sgu_n h1)⟩ dJ5_append_3fe6f_76
set_option maxRecDepth 100000 in
theorem L_app4 {g : Gx} {l : Launch} {ez : Nat} (G : GOK g l ez) {sg : Sg} {q v n : Nat} {f : Nat → Int32} (hB : SB g sg q v n f) (hn : n < 16) {c : Int32} (hc1 : c ≤ 255) (hc2 : c.toInt8.toInt32 = c) (hc3 : vp_nar .byte c = c) : MM g l yJ4_append_cf468 cJ4_append_cf468 2 (some (.object "java/lang/StringBuilder")) (rmC 4 0 0) sg [.ref q, .int c] (fun w s' => w = some (.ref q) ∧ SB g s' q v (n + 1) (upd f n c) ∧ ∀ a, a ≠ q → a ≠ v → s' a = sg a) (noX) := by
  refine MM.of G.1 G.2.1 (by decide) (Nat.le_of_ble_eq_true rfl) (fun x hg hlx C hin hout hargs => ?_)
  subst hg; subst hlx
  have C : AWC x cJ4_append_cf468 2 RJ4 (rmC 4 0 0) (some (.object "java/lang/StringBuilder")) := C
  show AW x (RQ x _ _ _ _) 0 0 sg 0 [(0, .ref q), (1, .int c)] []
  refine aw_aload_n C dJ4_append_cf468_0 rfl rfl rfl ?_
  refine aw_iload_n C dJ4_append_cf468_1 rfl rfl rfl ?_
  refine aw_callSU (zC := RJ4) (zx := yJ5_isLatin1_aae02) (z := yJ5_isLatin1_aae02) C bJ5_append_3fe6f w806 biJ5_append_3fe6f w798 rfl w832 (by decide) h_new_J4 (L_app5 G hB hn hc1 hc2 hc3) ⟨by decide, by decide⟩ (ci := 0) rfl hB.1 rfl rfl (Nat.le_of_ble_eq_true rfl) (Nat.le_of_ble_eq_true rfl) (Nat.le_of_ble_eq_true rfl) dJ4_append_cf468_2 rfl (fun _ _ q => ax_no q) (fun v1 s1 hq => ?_)
  obtain ⟨rfl, hB1, hfr⟩ := hq
  refine aw_pop C dJ4_append_cf468_5 rfl rfl ?_
  refine aw_aload_n C dJ4_append_cf468_6 rfl rfl rfl ?_
  exact aw_aret (r := some _) C (Or.inl ⟨_, rfl⟩) (Nat.le_of_ble_eq_true rfl) (Nat.le_of_ble_eq_true rfl) ⟨rfl, hB1, hfr⟩ dJ4_append_cf468_7
theorem neg_le {a b : Nat} (ha : a < 2 ^ 30) (hb : b < 2 ^ 30) : -nI a ≤ -nI b ↔ b ≤ a := by
  rw [Int32.le_iff_toInt_le, Int32.toInt_neg, Int32.toInt_neg, nI_toInt (by omega), nI_toInt (by omega), Int.bmod_eq_of_le (by omega) (by omega), Int.bmod_eq_of_le (by omega) (by omega)]
  omega
set_option maxRecDepth 100000 in
theorem L_size10 {g : Gx} {l : Launch} {ez : Nat} (G : GOK g l ez) {sg : Sg} {m : Nat} (hm : m < 100) : MM g l yJ6_stringSize_0f7a4 cJ6_stringSize_0f7a4 4 (some .int) (rmC 1 0 0) sg [.int (nI m)] (PP sg (.int (if m < 10 then 1 else 2))) (noX) := by
  refine MM.of G.1 G.2.1 (by decide) (Nat.le_of_ble_eq_true rfl) (fun x hg hlx C hin hout hargs => ?_)
  subst hg; subst hlx
  have C : AWC x cJ6_stringSize_0f7a4 4 RJ6 (rmC 1 0 0) (some .int) := C
  show AW x (RQ x _ _ _ _) 0 0 sg 0 [(0, .int (nI m))] []
  refine aw_iconst (v := 1) C dJ6_stringSize_0f7a4_0 rfl rfl ?_
  refine aw_istore_n (ls' := [(1, _), (0, _)]) C dJ6_stringSize_0f7a4_1 rfl (by decide) rfl rfl ?_
  refine aw_iload_n C dJ6_stringSize_0f7a4_2 rfl rfl rfl ?_
  refine aw_if_lt (tgt := 11) C dJ6_stringSize_0f7a4_3 (by decide) rfl (fun c => absurd c (nI_pos (by omega))) (fun _ => ?_)
  refine aw_iconst (v := 0) C dJ6_stringSize_0f7a4_6 rfl rfl ?_
  refine aw_istore_n (ls' := [(1, _), (0, _)]) C dJ6_stringSize_0f7a4_7 rfl (by decide) rfl rfl ?_
  refine aw_iload_n C dJ6_stringSize_0f7a4_8 rfl rfl rfl ?_
  refine aw_ineg C dJ6_stringSize_0f7a4_9 rfl ?_
  refine aw_istore_n (ls' := [(0, _), (1, _)]) C dJ6_stringSize_0f7a4_10 rfl (by decide) rfl rfl ?_
  refine aw_bipush (v := -10) C dJ6_stringSize_0f7a4_11 rfl rfl ?_
  refine aw_istore_n (ls' := [(2, _), (0, _), (1, _)]) C dJ6_stringSize_0f7a4_13 rfl (by decide) rfl rfl ?_
  refine aw_iconst (v := 1) C dJ6_stringSize_0f7a4_14 rfl rfl ?_
  refine aw_istore_n (ls' := [(3, _), (2, _), (0, _), (1, _)]) C dJ6_stringSize_0f7a4_15 rfl (by decide) rfl rfl ?_
  refine aw_iload_n C dJ6_stringSize_0f7a4_16 rfl rfl rfl ?_
  refine aw_bipush (v := 10) C dJ6_stringSize_0f7a4_17 rfl rfl ?_
  refine aw_icmp_ge (tgt := 42) C dJ6_stringSize_0f7a4_19 (by decide) rfl (fun c => absurd c (by decide)) (fun _ => ?_)
  refine aw_iload_n C dJ6_stringSize_0f7a4_22 rfl rfl rfl ?_
  refine aw_iload_n C dJ6_stringSize_0f7a4_23 rfl rfl rfl ?_
  refine aw_icmp_le (tgt := 31) C dJ6_stringSize_0f7a4_24 (by decide) rfl (fun c24 => ?_) (fun c24 => ?_)
  · have h10 : 10 ≤ m := (neg_le (a := m) (b := 10) (by omega) (by decide)).mp c24
    refine aw_bipush (v := 10) C dJ6_stringSize_0f7a4_31 rfl rfl ?_
    refine aw_iload_n C dJ6_stringSize_0f7a4_33 rfl rfl rfl ?_
    refine aw_imul C dJ6_stringSize_0f7a4_34 rfl ?_
    refine aw_istore_n (ls' := [(2, _), (3, _), (0, _), (1, _)]) C dJ6_stringSize_0f7a4_35 rfl (by decide) rfl rfl ?_
    refine aw_iinc (v' := 2) (ls' := [(3, _), (2, _), (0, _), (1, _)]) C dJ6_stringSize_0f7a4_36 rfl (by decide) (by decide) rfl rfl ?_
    refine aw_goto (tgt := 16) C dJ6_stringSize_0f7a4_39 (by decide) ?_
    refine aw_iload_n C dJ6_stringSize_0f7a4_16 rfl rfl rfl ?_
    refine aw_bipush (v := 10) C dJ6_stringSize_0f7a4_17 rfl rfl ?_
    refine aw_icmp_ge (tgt := 42) C dJ6_stringSize_0f7a4_19 (by decide) rfl (fun c => absurd c (by decide)) (fun _ => ?_)
    refine aw_iload_n C dJ6_stringSize_0f7a4_22 rfl rfl rfl ?_
    refine aw_iload_n C dJ6_stringSize_0f7a4_23 rfl rfl rfl ?_
    refine aw_icmp_le (tgt := 31) C dJ6_stringSize_0f7a4_24 (by decide) rfl (fun c2 => absurd ((neg_le (a := m) (b := 100) (by omega) (by decide)).mp c2) (by omega)) (fun _ => ?_)
    refine aw_iload_n C dJ6_stringSize_0f7a4_27 rfl rfl rfl ?_
    refine aw_iload_n C dJ6_stringSize_0f7a4_28 rfl rfl rfl ?_
    refine aw_iadd C dJ6_stringSize_0f7a4_29 rfl ?_
    exact aw_iret C rfl (Nat.le_of_ble_eq_true rfl) (Nat.le_of_ble_eq_true rfl) (PP.of (by rw [if_neg (by omega)]; rfl)) dJ6_stringSize_0f7a4_30
  · have h10 : m < 10 := Nat.lt_of_not_le (fun z => c24 ((neg_le (a := m) (b := 10) (by omega) (by decide)).mpr z))
    refine aw_iload_n C dJ6_stringSize_0f7a4_27 rfl rfl rfl ?_
    refine aw_iload_n C dJ6_stringSize_0f7a4_28 rfl rfl rfl ?_
    refine aw_iadd C dJ6_stringSize_0f7a4_29 rfl ?_
    exact aw_iret C rfl (Nat.le_of_ble_eq_true rfl) (Nat.le_of_ble_eq_true rfl) (PP.of (by rw [if_pos h10]; rfl)) dJ6_stringSize_0f7a4_30
set_option maxRecDepth 100000 in
theorem L_len5 {g : Gx} {l : Launch} {ez : Nat} (G : GOK g l ez) {sg : Sg} {q v n : Nat} {f : Nat → Int32} (hB : SB g sg q v n f) : MM g l yJ5_length_8abf5 cJ5_length_8abf5 1 (some .int) (rmC 1 0 0) sg [.ref q] (PP sg (.int (nI n))) (noX) := by
  refine MM.of G.1 G.2.1 (by decide) (Nat.le_of_ble_eq_true rfl) (fun x hg hlx C hin hout hargs => ?_)
  subst hg; subst hlx
  have C : AWC x cJ5_length_8abf5 1 RJ5 (rmC 1 0 0) (some .int) := C
  show AW x (RQ x _ _ _ _) 0 0 sg 0 [(0, .ref q)] []
  refine aw_aload_n C dJ5_length_8abf5_0 rfl rfl rfl ?_
  refine aw_getf C f_J5_79 hB.1 rfl dJ5_length_8abf5_1 rfl ?_
  exact aw_iret C rfl (Nat.le_of_ble_eq_true rfl) (Nat.le_of_ble_eq_true rfl) (PP.of rfl) dJ5_length_8abf5_4
set_option maxRecDepth 100000 in
theorem L_len4 {g : Gx} {l : Launch} {ez : Nat} (G : GOK g l ez) {sg : Sg} {q v n : Nat} {f : Nat → Int32} (hB : SB g sg q v n f) : MM g l yJ4_length_8abf5 cJ4_length_8abf5 1 (some .int) (rmC 2 0 0) sg [.ref q] (PP sg (.int (nI n))) (noX) := by
  refine MM.of G.1 G.2.1 (by decide) (Nat.le_of_ble_eq_true rfl) (fun x hg hlx C hin hout hargs => ?_)
  subst hg; subst hlx
  have C : AWC x cJ4_length_8abf5 1 RJ4 (rmC 2 0 0) (some .int) := C
  show AW x (RQ x _ _ _ _) 0 0 sg 0 [(0, .ref q)] []
  refine aw_aload_n C dJ4_length_8abf5_0 rfl rfl rfl ?_
  refine aw_callSU (zC := RJ4) (zx := yJ5_isLatin1_aae02) (z := yJ5_isLatin1_aae02) C bJ5_length_8abf5 w921 biJ5_length_8abf5 w798 rfl w832 (by decide) h_new_J4 (L_len5 G hB) ⟨by decide, by decide⟩ (ci := 0) rfl hB.1 rfl rfl (Nat.le_of_ble_eq_true rfl) (Nat.le_of_ble_eq_true rfl) (Nat.le_of_ble_eq_true rfl) dJ4_length_8abf5_1 rfl (fun _ _ q => ax_no q) (fun v1 s1 hq => ?_)
  obtain ⟨rfl, hs1⟩ := hq
  obtain rfl := hs1.symm
  exact aw_iret C rfl (Nat.le_of_ble_eq_true rfl) (Nat.le_of_ble_eq_true rfl) (PP.of rfl) dJ4_length_8abf5_4
