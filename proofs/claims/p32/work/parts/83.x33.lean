/-! StringBuilder, as the label makes it -/
def SB (g : Gx) (sg : Sg) (q v n : Nat) (f : Nat → Int32) : Prop := sg q = some (ob 0 [.ref v, .int 0, .int 0, .int (nI n)]) ∧ sg v = some (arB g 16 f)
theorem w832 : Cond.selects RJ4 yJ5_isLatin1_aae02 yJ5_isLatin1_aae02 ∈ WS := ws_of 1036 (by decide +kernel)
theorem selL {x : Cx} {cc : ByteArray} {nL : Nat} {own : String} {R : Room} {ret : Option FieldType} (C : AWC x cc nL own R ret) : (Cond.selects RJ4 yJ5_isLatin1_aae02 yJ5_isLatin1_aae02).before x.args x.s = true := C.hts _ w832
theorem selE {x : Cx} {cc : ByteArray} {nL : Nat} {own : String} {R : Room} {ret : Option FieldType} (C : AWC x cc nL own R ret) : (Cond.selects RJ4 yJ5_ensureCapacityInternal_d00df yJ5_ensureCapacityInternal_d00df).before x.args x.s = true := C.hts _ List.mem_cons_self
theorem ob_arB {fs : List Value} {c : Nat} {g : Gx} {N : Nat} {f : Nat → Int32} {s : Option va_E} (h1 : s = some (ob c fs)) (h2 : s = some (arB g N f)) : False := by
  rw [h1] at h2
  cases h2
theorem w828 : Cond.fieldLink RJ5 18 "java/lang/String" "COMPACT_STRINGS" "Z" ∈ WS := ws_of 982 (by decide +kernel)
theorem w856 : Cond.fieldLink RJ0 1053 "jdk/internal/util/Preconditions" "SIOOBE_FORMATTER" "Ljava/util/function/BiFunction;" ∈ WS := ws_of 1060 (by decide +kernel)
theorem w879 : KS RJ0 1059 yJ3_checkIndex_8e157 cJ3_checkIndex_8e157 3 (some .int) 3 := ⟨bJ3_checkIndex_8e157, ws_of 1083 (by decide +kernel), bsJ3_checkIndex_8e157⟩
set_option maxRecDepth 100000 in
theorem L_check3q {g : Gx} {l : Launch} {ez : Nat} (G : GOK g l ez) {sg : Sg} {i n : Nat} {r : Option Nat} (hi : i < n) (hn : n < 2 ^ 30) : MM g l yJ3_checkIndex_8e157 cJ3_checkIndex_8e157 3 (some .int) (rmC 1 0 0) sg [.int (nI i), .int (nI n), va_rf r] (PP sg (.int (nI i))) (noX) := by
  refine MM.of G.1 G.2.1 (by decide) (by cases r <;> exact Nat.le_of_ble_eq_true rfl) (fun x hg hlx C hin hout hargs => ?_)
  subst hg; subst hlx
  have C : AWC x cJ3_checkIndex_8e157 3 RJ3 (rmC 1 0 0) (some .int) := C
  show AW x (RQ x _ _ _ _) 0 0 sg 0 [(0, .int (nI i)), (1, .int (nI n)), (2, va_rf r)] []
  refine aw_iload_n C dJ3_checkIndex_8e157_0 rfl rfl rfl ?_
  refine aw_if_lt (tgt := 9) C dJ3_checkIndex_8e157_1 (by decide) rfl (fun c1 => ?_) (fun c1 => ?_)
  · first | exact absurd c1 (nI_pos (by omega)) | exact absurd ((nI_ltI (by omega) (by omega)).mpr hi) c6
  · refine aw_iload_n C dJ3_checkIndex_8e157_4 rfl rfl rfl ?_
    refine aw_iload_n C dJ3_checkIndex_8e157_5 rfl rfl rfl ?_
    refine aw_icmp_lt (tgt := 16) C dJ3_checkIndex_8e157_6 (by decide) rfl (fun c6 => ?_) (fun c6 => ?_)
    · refine aw_iload_n C dJ3_checkIndex_8e157_16 rfl rfl rfl ?_
      exact aw_iret C rfl (Nat.le_of_ble_eq_true rfl) (Nat.le_of_ble_eq_true rfl) (PP.of rfl) dJ3_checkIndex_8e157_17
    · first | exact absurd c1 (nI_pos (by omega)) | exact absurd ((nI_ltI (by omega) (by omega)).mpr hi) c6
set_option maxRecDepth 100000 in
theorem L_check0 {g : Gx} {l : Launch} {ez : Nat} (G : GOK g l ez) {sg : Sg} {i n : Nat} (hi : i < n) (hn : n < 2 ^ 30) : MM g l yJ0_checkIndex_df160 cJ0_checkIndex_df160 2 none (rmC 2 0 0) sg [.int (nI i), .int (nI n)] (PV sg) (noX) := by
  refine MM.of G.1 G.2.1 (by decide) (Nat.le_of_ble_eq_true rfl) (fun x hg hlx C hin hout hargs => ?_)
  subst hg; subst hlx
  have C : AWC x cJ0_checkIndex_df160 2 RJ0 (rmC 2 0 0) none := C
  show AW x (RQ x _ _ _ _) 0 0 sg 0 [(0, .int (nI i)), (1, .int (nI n))] []
  rcases (C.cx G).2.2.2.2.2.2.2.2.2 with hZ | ⟨t, hZ⟩
  · refine aw_iload_n C dJ0_checkIndex_df160_0 rfl rfl rfl ?_
    refine aw_iload_n C dJ0_checkIndex_df160_1 rfl rfl rfl ?_
    refine aw_gets C hZ w856 dJ0_checkIndex_df160_2 rfl ?_
    refine cw_callSp C w879 (L_check3q G (r := none) hi hn) ⟨by decide, by decide⟩ rfl rfl (Nat.le_of_ble_eq_true rfl) (Nat.le_of_ble_eq_true rfl) (Nat.le_of_ble_eq_true rfl) dJ0_checkIndex_df160_5 rfl ?_
    refine aw_pop C dJ0_checkIndex_df160_8 rfl rfl ?_
    exact aw_vret C (Nat.le_of_ble_eq_true rfl) (Nat.le_of_ble_eq_true rfl) ⟨rfl, rfl⟩ dJ0_checkIndex_df160_9
  · refine aw_iload_n C dJ0_checkIndex_df160_0 rfl rfl rfl ?_
    refine aw_iload_n C dJ0_checkIndex_df160_1 rfl rfl rfl ?_
    refine aw_gets C hZ w856 dJ0_checkIndex_df160_2 rfl ?_
    refine cw_callSp C w879 (L_check3q G (r := some t) hi hn) ⟨by decide, by decide⟩ rfl rfl (Nat.le_of_ble_eq_true rfl) (Nat.le_of_ble_eq_true rfl) (Nat.le_of_ble_eq_true rfl) dJ0_checkIndex_df160_5 rfl ?_
    refine aw_pop C dJ0_checkIndex_df160_8 rfl rfl ?_
    exact aw_vret C (Nat.le_of_ble_eq_true rfl) (Nat.le_of_ble_eq_true rfl) ⟨rfl, rfl⟩ dJ0_checkIndex_df160_9
set_option maxRecDepth 100000 in
theorem L_sb5 {g : Gx} {l : Launch} {ez : Nat} (G : GOK g l ez) {sg : Sg} {q : Nat} (hs : sg q = some (ob 0 [.null, .int 0, .int 0, .int 0])) : MM g l yJ5_init_d00df cJ5_init_d00df 2 none (rmC 2 1 16) sg [.ref q, .int 16] (fun w s' => w = none ∧ ∃ v, sg v = none ∧ SB g s' q v 0 (fun _ => 0) ∧ ∀ c, c ≠ q → c ≠ v → s' c = sg c) (noX) := by
  refine MM.of G.1 G.2.1 (by decide) (Nat.le_of_ble_eq_true rfl) (fun x hg hlx C hin hout hargs => ?_)
  subst hg; subst hlx
  have C : AWC x cJ5_init_d00df 2 RJ5 (rmC 2 1 16) none := C
  show AW x (RQ x _ _ _ _) 0 0 sg 0 [(0, .ref q), (1, .int 16)] []
  refine aw_aload_n C dJ5_init_d00df_0 rfl rfl rfl ?_
  refine aw_objI C (ws_of 981 (by decide +kernel)) (ws_of 84 (by decide +kernel)) (ws_of 85 (by decide +kernel)) (Nat.le_of_ble_eq_true rfl) (Nat.le_of_ble_eq_true rfl) dJ5_init_d00df_1 rfl ?_
  refine aw_gets C (C.cx G).2.2.2.2.2.2.1 w828 dJ5_init_d00df_4 rfl ?_
  refine aw_if_eq (tgt := 25) C dJ5_init_d00df_7 (by decide) rfl (fun h => by first | exact absurd h (by decide) | exact absurd (by decide) h) (fun _ => ?_)
  refine aw_aload_n C dJ5_init_d00df_10 rfl rfl rfl ?_
  refine aw_iload_n C dJ5_init_d00df_11 rfl rfl rfl ?_
  refine aw_newarr (atype := .byte) (t0 := 4) (cA0 := x.g.ca 4) (ty := .byte) (N := 16) (a0 := (16, .inl fun _ => 0)) C h_arr_byte rfl rfl (fun o h => by cases h) (fun _ => rfl) (by decide) rfl (by decide) (Nat.le_of_ble_eq_true rfl) (Nat.le_of_ble_eq_true rfl) dJ5_init_d00df_12 rfl (fun v hv => ?_)
  have nqv := no_ne hs hv
  refine aw_putf (fs' := [.ref v, .int 0, .int 0, .int 0]) C f_J5_15 rfl ((sgu_n nqv).trans hs) rfl rfl (Nat.le_of_ble_eq_true rfl) rfl dJ5_init_d00df_14 rfl ?_
  refine aw_aload_n C dJ5_init_d00df_17 rfl rfl rfl ?_
  refine aw_iconst (v := 0) C dJ5_init_d00df_18 rfl rfl ?_
  refine aw_putf (fs' := [.ref v, .int 0, .int 0, .int 0]) C f_J5_22 rfl sgu_s rfl rfl (Nat.le_of_ble_eq_true rfl) rfl dJ5_init_d00df_19 rfl ?_
  refine aw_goto (tgt := 38) C dJ5_init_d00df_22 (by decide) ?_
  exact aw_vret C (Nat.le_of_ble_eq_true rfl) (Nat.le_of_ble_eq_true rfl) ⟨rfl, v, hv, ⟨sgu_s, (sgu_n (Ne.symm nqv)).trans ((sgu_n (Ne.symm nqv)).trans sgu_s)⟩, fun c h1 h2 => (sgu_n h1).trans ((sgu_n h1).trans (sgu_n h2))⟩ dJ5_init_d00df_38
set_option maxRecDepth 100000 in
theorem L_sb4 {g : Gx} {l : Launch} {ez : Nat} (G : GOK g l ez) {sg : Sg} {q : Nat} (hs : sg q = some (ob 0 [.null, .int 0, .int 0, .int 0])) : MM g l yJ4_init_da8c8 cJ4_init_da8c8 1 none (rmC 3 1 16) sg [.ref q] (fun w s' => w = none ∧ ∃ v, sg v = none ∧ SB g s' q v 0 (fun _ => 0) ∧ ∀ c, c ≠ q → c ≠ v → s' c = sg c) (noX) := by
  refine MM.of G.1 G.2.1 (by decide) (Nat.le_of_ble_eq_true rfl) (fun x hg hlx C hin hout hargs => ?_)
  subst hg; subst hlx
  have C : AWC x cJ4_init_da8c8 1 RJ4 (rmC 3 1 16) none := C
  show AW x (RQ x _ _ _ _) 0 0 sg 0 [(0, .ref q)] []
  refine aw_aload_n C dJ4_init_da8c8_0 rfl rfl rfl ?_
  refine aw_bipush (v := 16) C dJ4_init_da8c8_1 rfl rfl ?_
  refine aw_callI C k_J4_1 (L_sb5 G hs) ⟨by decide, by decide⟩ rfl rfl (Nat.le_of_ble_eq_true rfl) (Nat.le_of_ble_eq_true rfl) (Nat.le_of_ble_eq_true rfl) dJ4_init_da8c8_3 rfl (fun _ _ q => ax_no q) (fun v1 s1 hq => ?_)
  obtain ⟨rfl, v, hv, hSB, hfr⟩ := hq
  exact aw_vret C (Nat.le_of_ble_eq_true rfl) (Nat.le_of_ble_eq_true rfl) ⟨rfl, v, hv, hSB, hfr⟩ dJ4_init_da8c8_6
set_option maxRecDepth 100000 in
theorem L_isLatin1 {g : Gx} {l : Launch} {ez : Nat} (G : GOK g l ez) {sg : Sg} {q v n : Nat} {f : Nat → Int32} (hB : SB g sg q v n f) : MM g l yJ5_isLatin1_aae02 cJ5_isLatin1_aae02 1 (some .boolean) (rmC 1 0 0) sg [.ref q] (PP sg (.int 1)) (noX) := by
  refine MM.of G.1 G.2.1 (by decide) (Nat.le_of_ble_eq_true rfl) (fun x hg hlx C hin hout hargs => ?_)
  subst hg; subst hlx
  have C : AWC x cJ5_isLatin1_aae02 1 RJ5 (rmC 1 0 0) (some .boolean) := C
  show AW x (RQ x _ _ _ _) 0 0 sg 0 [(0, .ref q)] []
  refine aw_gets C (C.cx G).2.2.2.2.2.2.1 w828 dJ5_isLatin1_aae02_0 rfl ?_
  refine aw_if_eq (tgt := 17) C dJ5_isLatin1_aae02_3 (by decide) rfl (fun h => by first | exact absurd h (by decide) | exact absurd (by decide) h) (fun _ => ?_)
  refine aw_aload_n C dJ5_isLatin1_aae02_6 rfl rfl rfl ?_
  refine aw_getf C f_J5_22 hB.1 rfl dJ5_isLatin1_aae02_7 rfl ?_
  refine aw_if_ne (tgt := 17) C dJ5_isLatin1_aae02_10 (by decide) rfl (fun h => by first | exact absurd h (by decide) | exact absurd (by decide) h) (fun _ => ?_)
  refine aw_iconst (v := 1) C dJ5_isLatin1_aae02_13 rfl rfl ?_
  refine aw_goto (tgt := 18) C dJ5_isLatin1_aae02_14 (by decide) ?_
  exact aw_iret C (by decide) (Nat.le_of_ble_eq_true rfl) (Nat.le_of_ble_eq_true rfl) (PP.of rfl) dJ5_isLatin1_aae02_18
set_option maxRecDepth 100000 in
theorem L_canEncode {g : Gx} {l : Launch} {ez : Nat} (G : GOK g l ez) {sg : Sg} {c : Int32} (hc : c ≤ 255) : MM g l yJ1_canEncode_fc78d cJ1_canEncode_fc78d 1 (some .boolean) (rmC 1 0 0) sg [.int c] (PP sg (.int 1)) (noX) := by
  refine MM.of G.1 G.2.1 (by decide) (Nat.le_of_ble_eq_true rfl) (fun x hg hlx C hin hout hargs => ?_)
  subst hg; subst hlx
  have C : AWC x cJ1_canEncode_fc78d 1 RJ1 (rmC 1 0 0) (some .boolean) := C
  show AW x (RQ x _ _ _ _) 0 0 sg 0 [(0, .int c)] []
  refine aw_iload_n C dJ1_canEncode_fc78d_0 rfl rfl rfl ?_
  refine aw_sipush (v := 255) C dJ1_canEncode_fc78d_1 rfl rfl ?_
  refine aw_icmp_gt (tgt := 11) C dJ1_canEncode_fc78d_4 (by decide) rfl (fun c4 => ?_) (fun c4 => ?_)
  · exact absurd hc (Int32.not_le.mpr c4)
  · refine aw_iconst (v := 1) C dJ1_canEncode_fc78d_7 rfl rfl ?_
    refine aw_goto (tgt := 12) C dJ1_canEncode_fc78d_8 (by decide) ?_
    exact aw_iret C (by decide) (Nat.le_of_ble_eq_true rfl) (Nat.le_of_ble_eq_true rfl) (PP.of rfl) dJ1_canEncode_fc78d_12
theorem nI_sub_le {a b : Nat} (h : a ≤ b) (hb : b < 2 ^ 30) : nI a - nI b ≤ 0 := by
  rw [Int32.le_iff_toInt_le, Int32.toInt_sub, nI_toInt (by omega), nI_toInt (by omega), Int32.toInt_zero, Int.bmod_eq_of_le (by omega) (by omega)]
  omega
set_option maxRecDepth 100000 in
theorem L_ensure {g : Gx} {l : Launch} {ez : Nat} (G : GOK g l ez) {sg : Sg} {q v n : Nat} {f : Nat → Int32} (hB : SB g sg q v n f) {m : Nat} (hm : m ≤ 16) : MM g l yJ5_ensureCapacityInternal_d00df cJ5_ensureCapacityInternal_d00df 3 none (rmC 1 0 0) sg [.ref q, .int (nI m)] (PV sg) (noX) := by
  refine MM.of G.1 G.2.1 (by decide) (Nat.le_of_ble_eq_true rfl) (fun x hg hlx C hin hout hargs => ?_)
  subst hg; subst hlx
  have C : AWC x cJ5_ensureCapacityInternal_d00df 3 RJ5 (rmC 1 0 0) none := C
  show AW x (RQ x _ _ _ _) 0 0 sg 0 [(0, .ref q), (1, .int (nI m))] []
  refine aw_aload_n C dJ5_ensureCapacityInternal_d00df_0 rfl rfl rfl ?_
  refine aw_getf C f_J5_15 hB.1 rfl dJ5_ensureCapacityInternal_d00df_1 rfl ?_
  refine aw_alenB C hB.2 dJ5_ensureCapacityInternal_d00df_4 rfl ?_
  refine aw_aload_n C dJ5_ensureCapacityInternal_d00df_5 rfl rfl rfl ?_
  refine aw_getf C f_J5_22 hB.1 rfl dJ5_ensureCapacityInternal_d00df_6 rfl ?_
  refine aw_ishr C dJ5_ensureCapacityInternal_d00df_9 rfl ?_
  rw [show nI 16 >>> ((0 : Int32) &&& 31) = nI 16 from by decide]
  refine aw_istore_n (ls' := [(2, _), (0, _), (1, _)]) C dJ5_ensureCapacityInternal_d00df_10 rfl (by decide) rfl rfl ?_
  refine aw_iload_n C dJ5_ensureCapacityInternal_d00df_11 rfl rfl rfl ?_
  refine aw_iload_n C dJ5_ensureCapacityInternal_d00df_12 rfl rfl rfl ?_
  refine aw_isub C dJ5_ensureCapacityInternal_d00df_13 rfl ?_
  refine aw_if_le (tgt := 38) C dJ5_ensureCapacityInternal_d00df_14 (by decide) rfl (fun c14 => ?_) (fun c14 => ?_)
  · exact aw_vret C (Nat.le_of_ble_eq_true rfl) (Nat.le_of_ble_eq_true rfl) ⟨rfl, rfl⟩ dJ5_ensureCapacityInternal_d00df_38
  · exact absurd (show nI m - nI 16 ≤ 0 from (by have h := nI_sub_le (a := m) (b := 16) hm (by decide); exact h)) c14
