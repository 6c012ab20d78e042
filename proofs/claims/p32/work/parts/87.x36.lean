/-! charAt -/
set_option maxRecDepth 100000 in
theorem L_charAt5 {g : Gx} {l : Launch} {ez : Nat} (G : GOK g l ez) {sg : Sg} {q v n : Nat} {f : Nat → Int32} (hB : SB g sg q v n f) (hn : n ≤ 16) {w : Nat} (hw : w < n) {c : Int32} (hc : f w = c) (hc2 : ((c &&& 255).toUInt32 % 65536).toInt32 = c) (hcn : narrow .char (.int c) = .int c) : MM g l yJ5_charAt_5068e cJ5_charAt_5068e 5 (some .char) (rmC 4 0 0) sg [.ref q, .int (nI w)] (PP sg (.int c)) (noX) := by
  refine MM.of G.1 G.2.1 (by decide) (Nat.le_of_ble_eq_true rfl) (fun x hg hlx C hin hout hargs => ?_)
  subst hg; subst hlx
  have C : AWC x cJ5_charAt_5068e 5 RJ5 (rmC 4 0 0) (some .char) := C
  show AW x (RQ x _ _ _ _) 0 0 sg 0 [(0, .ref q), (1, .int (nI w))] []
  refine aw_aload_n C dJ5_charAt_5068e_0 rfl rfl rfl ?_
  refine aw_getf C f_J5_22 hB.1 rfl dJ5_charAt_5068e_1 rfl ?_
  refine aw_istore_n (ls' := [(2, _), (0, _), (1, _)]) C dJ5_charAt_5068e_4 rfl (by decide) rfl rfl ?_
  refine aw_aload_n C dJ5_charAt_5068e_5 rfl rfl rfl ?_
  refine aw_getf C f_J5_15 hB.1 rfl dJ5_charAt_5068e_6 rfl ?_
  refine aw_astore_n (ls' := [(3, _), (2, _), (0, _), (1, _)]) C dJ5_charAt_5068e_9 rfl (by decide) rfl rfl ?_
  refine aw_aload_n C dJ5_charAt_5068e_10 rfl rfl rfl ?_
  refine aw_getf C f_J5_79 hB.1 rfl dJ5_charAt_5068e_11 rfl ?_
  refine aw_aload_n C dJ5_charAt_5068e_14 rfl rfl rfl ?_
  refine aw_alenB C hB.2 dJ5_charAt_5068e_15 rfl ?_
  refine aw_iload_n C dJ5_charAt_5068e_16 rfl rfl rfl ?_
  refine aw_ishr C dJ5_charAt_5068e_17 rfl ?_
  rw [show nI 16 >>> ((0 : Int32) &&& 31) = nI 16 from by decide]
  refine aw_min C (ws_of 1135 (by decide +kernel)) (Nat.le_of_ble_eq_true rfl) (Nat.le_of_ble_eq_true rfl) (Nat.le_of_ble_eq_true rfl) (Nat.le_of_ble_eq_true rfl) dJ5_charAt_5068e_18 rfl ?_
  rw [if_neg (fun z => by have := (nI_ltI (a := 16) (b := n) (by decide) (by omega)).mp z; omega)]
  refine aw_istore (ls' := [(4, _), (3, _), (2, _), (0, _), (1, _)]) C dJ5_charAt_5068e_21 (by decide) rfl rfl ?_
  refine aw_iload_n C dJ5_charAt_5068e_23 rfl rfl rfl ?_
  refine aw_iload C dJ5_charAt_5068e_24 rfl rfl ?_
  refine cw_callSv C k_J5_144 (L_check0 G hw (by omega)) ⟨by decide, by decide⟩ rfl rfl (Nat.le_of_ble_eq_true rfl) (Nat.le_of_ble_eq_true rfl) (Nat.le_of_ble_eq_true rfl) dJ5_charAt_5068e_26 rfl ?_
  refine aw_iload_n C dJ5_charAt_5068e_29 rfl rfl rfl ?_
  refine aw_if_ne (tgt := 42) C dJ5_charAt_5068e_30 (by decide) rfl (fun c => absurd rfl c) (fun _ => ?_)
  refine aw_aload_n C dJ5_charAt_5068e_33 rfl rfl rfl ?_
  refine aw_iload_n C dJ5_charAt_5068e_34 rfl rfl rfl ?_
  refine aw_bald C hB.2 (vp_in_nI (by omega) (by decide)) dJ5_charAt_5068e_35 rfl ?_
  rw [nI_clamp (by omega), hc]
  refine aw_sipush (v := 255) C dJ5_charAt_5068e_36 rfl rfl ?_
  refine aw_iand C dJ5_charAt_5068e_39 rfl ?_
  refine aw_i2c C dJ5_charAt_5068e_40 rfl ?_
  rw [hc2]
  exact aw_iret C hcn (Nat.le_of_ble_eq_true rfl) (Nat.le_of_ble_eq_true rfl) (PP.of rfl) dJ5_charAt_5068e_41
set_option maxRecDepth 100000 in
theorem L_charAt4 {g : Gx} {l : Launch} {ez : Nat} (G : GOK g l ez) {sg : Sg} {q v n : Nat} {f : Nat → Int32} (hB : SB g sg q v n f) (hn : n ≤ 16) {w : Nat} (hw : w < n) {c : Int32} (hc : f w = c) (hc2 : ((c &&& 255).toUInt32 % 65536).toInt32 = c) (hcn : narrow .char (.int c) = .int c) : MM g l yJ4_charAt_5068e cJ4_charAt_5068e 2 (some .char) (rmC 5 0 0) sg [.ref q, .int (nI w)] (PP sg (.int c)) (noX) := by
  refine MM.of G.1 G.2.1 (by decide) (Nat.le_of_ble_eq_true rfl) (fun x hg hlx C hin hout hargs => ?_)
  subst hg; subst hlx
  have C : AWC x cJ4_charAt_5068e 2 RJ4 (rmC 5 0 0) (some .char) := C
  show AW x (RQ x _ _ _ _) 0 0 sg 0 [(0, .ref q), (1, .int (nI w))] []
  refine aw_aload_n C dJ4_charAt_5068e_0 rfl rfl rfl ?_
  refine aw_iload_n C dJ4_charAt_5068e_1 rfl rfl rfl ?_
  refine aw_callSU (zC := RJ4) (zx := yJ5_isLatin1_aae02) (z := yJ5_isLatin1_aae02) C bJ5_charAt_5068e w928 biJ5_charAt_5068e w798 rfl w832 (by decide) h_new_J4 (L_charAt5 G hB hn hw hc hc2 hcn) ⟨by decide, by decide⟩ (ci := 0) rfl hB.1 rfl rfl (Nat.le_of_ble_eq_true rfl) (Nat.le_of_ble_eq_true rfl) (Nat.le_of_ble_eq_true rfl) dJ4_charAt_5068e_2 rfl (fun _ _ q => ax_no q) (fun v1 s1 hq => ?_)
  obtain ⟨rfl, hs1⟩ := hq
  obtain rfl := hs1.symm
  exact aw_iret C hcn (Nat.le_of_ble_eq_true rfl) (Nat.le_of_ble_eq_true rfl) (PP.of rfl) dJ4_charAt_5068e_5
