/-! leaf methods of persons, deeds, papers -/
set_option maxRecDepth 100000 in
theorem L_bitCount {g : Gx} {l : Launch} {ez : Nat} (G : GOK g l ez) {sg : Sg} {m : Nat} (hm : m < 8192) : MM g l yJ6_bitCount_0f7a4 cJ6_bitCount_0f7a4 1 (some .int) (rmC 1 0 0) sg [.int (nI m)] (PP sg (.int (nI (pcn m)))) (noX) := by
  refine MM.of G.1 G.2.1 (by decide) (Nat.le_of_ble_eq_true rfl) (fun x hg hlx C hin hout hargs => ?_)
  subst hg; subst hlx
  have C : AWC x cJ6_bitCount_0f7a4 1 RJ6 (rmC 1 0 0) (some .int) := C
  show AW x (RQ x _ _ _ _) 0 0 sg 0 [(0, .int (nI m))] []
  refine aw_iload_n C dJ6_bitCount_0f7a4_0 rfl rfl rfl ?_
  refine aw_iload_n C dJ6_bitCount_0f7a4_1 rfl rfl rfl ?_
  refine aw_iconst (v := 1) C dJ6_bitCount_0f7a4_2 rfl rfl ?_
  refine aw_iushr C dJ6_bitCount_0f7a4_3 rfl ?_
  refine aw_ldcw C dJ6_bitCount_0f7a4_4 q_J6_265 rfl ?_
  refine aw_iand C dJ6_bitCount_0f7a4_7 rfl ?_
  refine aw_isub C dJ6_bitCount_0f7a4_8 rfl ?_
  refine aw_istore_n (ls' := [(0, _)]) C dJ6_bitCount_0f7a4_9 rfl (by decide) rfl rfl ?_
  refine aw_iload_n C dJ6_bitCount_0f7a4_10 rfl rfl rfl ?_
  refine aw_ldcw C dJ6_bitCount_0f7a4_11 q_J6_266 rfl ?_
  refine aw_iand C dJ6_bitCount_0f7a4_14 rfl ?_
  refine aw_iload_n C dJ6_bitCount_0f7a4_15 rfl rfl rfl ?_
  refine aw_iconst (v := 2) C dJ6_bitCount_0f7a4_16 rfl rfl ?_
  refine aw_iushr C dJ6_bitCount_0f7a4_17 rfl ?_
  refine aw_ldcw C dJ6_bitCount_0f7a4_18 q_J6_266 rfl ?_
  refine aw_iand C dJ6_bitCount_0f7a4_21 rfl ?_
  refine aw_iadd C dJ6_bitCount_0f7a4_22 rfl ?_
  refine aw_istore_n (ls' := [(0, _)]) C dJ6_bitCount_0f7a4_23 rfl (by decide) rfl rfl ?_
  refine aw_iload_n C dJ6_bitCount_0f7a4_24 rfl rfl rfl ?_
  refine aw_iload_n C dJ6_bitCount_0f7a4_25 rfl rfl rfl ?_
  refine aw_iconst (v := 4) C dJ6_bitCount_0f7a4_26 rfl rfl ?_
  refine aw_iushr C dJ6_bitCount_0f7a4_27 rfl ?_
  refine aw_iadd C dJ6_bitCount_0f7a4_28 rfl ?_
  refine aw_ldcw C dJ6_bitCount_0f7a4_29 q_J6_267 rfl ?_
  refine aw_iand C dJ6_bitCount_0f7a4_32 rfl ?_
  refine aw_istore_n (ls' := [(0, _)]) C dJ6_bitCount_0f7a4_33 rfl (by decide) rfl rfl ?_
  refine aw_iload_n C dJ6_bitCount_0f7a4_34 rfl rfl rfl ?_
  refine aw_iload_n C dJ6_bitCount_0f7a4_35 rfl rfl rfl ?_
  refine aw_bipush (v := 8) C dJ6_bitCount_0f7a4_36 rfl rfl ?_
  refine aw_iushr C dJ6_bitCount_0f7a4_38 rfl ?_
  refine aw_iadd C dJ6_bitCount_0f7a4_39 rfl ?_
  refine aw_istore_n (ls' := [(0, _)]) C dJ6_bitCount_0f7a4_40 rfl (by decide) rfl rfl ?_
  refine aw_iload_n C dJ6_bitCount_0f7a4_41 rfl rfl rfl ?_
  refine aw_iload_n C dJ6_bitCount_0f7a4_42 rfl rfl rfl ?_
  refine aw_bipush (v := 16) C dJ6_bitCount_0f7a4_43 rfl rfl ?_
  refine aw_iushr C dJ6_bitCount_0f7a4_45 rfl ?_
  refine aw_iadd C dJ6_bitCount_0f7a4_46 rfl ?_
  refine aw_istore_n (ls' := [(0, _)]) C dJ6_bitCount_0f7a4_47 rfl (by decide) rfl rfl ?_
  refine aw_iload_n C dJ6_bitCount_0f7a4_48 rfl rfl rfl ?_
  refine aw_bipush (v := 63) C dJ6_bitCount_0f7a4_49 rfl rfl ?_
  refine aw_iand C dJ6_bitCount_0f7a4_51 rfl ?_
  exact aw_iret C rfl (Nat.le_of_ble_eq_true rfl) (Nat.le_of_ble_eq_true rfl) (PP.of (by rw [← bcI_eq hm]; rfl)) dJ6_bitCount_0f7a4_52
set_option maxRecDepth 100000 in
theorem C_isAbleOn {g : Gx} {l : Launch} {ez : Nat} (G : GOK g l ez) {sg : Sg} {ad : Nat → Nat → Nat} {u : MU} {Y : GS} (hS : CS g ez ad u Y sg) {p : Nat} (hp : p < u.2.2.1 2) : MM g l yX5_isAbleOn cX5_isAbleOn 3 (some .boolean) (rmC 1 0 0) sg [.ref (ad 3 p), .int u.2.2.2.1] (PP sg (.int (b2i (able u p)))) (noX) := by
  refine MM.of G.1 G.2.1 (by decide) (Nat.le_of_ble_eq_true rfl) (fun x hg hlx C hin hout hargs => ?_)
  subst hg; subst hlx
  have C : AWC x cX5_isAbleOn 3 RX5 (rmC 1 0 0) (some .boolean) := C
  show AW x (RQ x _ _ _ _) 0 0 sg 0 [(0, .ref (ad 3 p)), (1, .int u.2.2.2.1)] []
  refine aw_aload_n C dX5_isAbleOn_0 rfl rfl rfl ?_
  refine aw_getf C f_X5_26 (hS.P hp) rfl dX5_isAbleOn_1 rfl ?_
  refine aw_iload_n C dX5_isAbleOn_4 rfl rfl rfl ?_
  refine aw_aload_n C dX5_isAbleOn_5 rfl rfl rfl ?_
  refine aw_getf C f_X5_29 (hS.P hp) rfl dX5_isAbleOn_6 rfl ?_
  refine aw_isub C dX5_isAbleOn_9 rfl ?_
  refine aw_sipush (v := 360) C dX5_isAbleOn_10 rfl rfl ?_
  refine aw_idiv C dX5_isAbleOn_13 (by decide) rfl ?_
  refine aw_iadd C dX5_isAbleOn_14 rfl ?_
  refine aw_istore_n (ls' := [(2, _), (0, _), (1, _)]) C dX5_isAbleOn_15 rfl (by decide) rfl rfl ?_
  refine aw_aload_n C dX5_isAbleOn_16 rfl rfl rfl ?_
  refine aw_getf C f_X5_9 (hS.P hp) rfl dX5_isAbleOn_17 rfl ?_
  refine aw_if_eq (tgt := 40) C dX5_isAbleOn_20 (by decide) rfl (fun c20 => ?_) (fun c20 => ?_)
  · have c20 := fa_of c20
    refine aw_iconst (v := 0) C dX5_isAbleOn_40 rfl rfl ?_
    exact aw_iret C (by decide) (Nat.le_of_ble_eq_true rfl) (Nat.le_of_ble_eq_true rfl) (PP.of (by simp [able, b2i, c20])) dX5_isAbleOn_41
  · have c20 := tr_of c20
    refine aw_iload_n C dX5_isAbleOn_23 rfl rfl rfl ?_
    refine aw_bipush (v := 18) C dX5_isAbleOn_24 rfl rfl ?_
    refine aw_icmp_lt (tgt := 40) C dX5_isAbleOn_26 (by decide) rfl (fun c26 => ?_) (fun c26 => ?_)
    · refine aw_iconst (v := 0) C dX5_isAbleOn_40 rfl rfl ?_
      exact aw_iret C (by decide) (Nat.le_of_ble_eq_true rfl) (Nat.le_of_ble_eq_true rfl) (PP.of (by simp [able, b2i, c20, c26])) dX5_isAbleOn_41
    · refine aw_aload_n C dX5_isAbleOn_29 rfl rfl rfl ?_
      refine aw_getf C f_X5_15 (hS.P hp) rfl dX5_isAbleOn_30 rfl ?_
      refine aw_ifnonnull (tgt := 40) C dX5_isAbleOn_33 (by decide) rfl (fun r33 c33 => ?_) (fun c33 => ?_)
      · have c33 := rfo_s c33
        refine aw_iconst (v := 0) C dX5_isAbleOn_40 rfl rfl ?_
        exact aw_iret C (by decide) (Nat.le_of_ble_eq_true rfl) (Nat.le_of_ble_eq_true rfl) (PP.of (by simp [able, b2i, c20, c26, c33])) dX5_isAbleOn_41
      · have c33 := rfo_n c33
        refine aw_iconst (v := 1) C dX5_isAbleOn_36 rfl rfl ?_
        refine aw_goto (tgt := 41) C dX5_isAbleOn_37 (by decide) ?_
        exact aw_iret C (by decide) (Nat.le_of_ble_eq_true rfl) (Nat.le_of_ble_eq_true rfl) (PP.of (by simp [able, b2i, c20, c26, c33])) dX5_isAbleOn_41
/-- parents: bits and rows say the same -/
def WPa (u : MU) : Prop := ∀ p, p < 12 → ∃ m, m ≤ 2 ∧ u.1 8 p = nI m ∧ (∀ k, k < m → ∃ j, j < 12 ∧ u.1 7 (2 * p + k) = nI j) ∧ (m = 2 → ¬ u.1 7 (2 * p) = u.1 7 (2 * p + 1))
theorem pbN_bit {u : MU} {p q m : Nat} (hq : q < 12) (h : ∀ k, k < m → ∃ j, j < 12 ∧ u.1 7 (2 * p + k) = nI j) : (pbN u p m).testBit q = isChN u p (nI q) m ∧ pbN u p m < 8192 := by
  induction m with
  | zero => exact ⟨Nat.zero_testBit q, by show 0 < 8192; decide⟩
  | succ m ih =>
    obtain ⟨i1, i2⟩ := ih (fun k hk => h k (by omega))
    obtain ⟨j, hj, e⟩ := h m (by omega)
    rw [pbN, isChN, e, nI_clamp (by omega)]
    refine ⟨?_, or_lt i2 (by omega)⟩
    rw [tb_or, i1]
    congr 1
    exact decide_eq_decide.mpr ⟨fun z => by rw [z], fun z => ((nI_eq (by omega) (by omega)).mp z).symm⟩
theorem pbits_bit {u : MU} (hW : WPa u) {p q : Nat} (hp : p < 12) (hq : q < 12) : (pbits u p).testBit q = isCh u p (nI q) ∧ pbits u p < 8192 := by
  obtain ⟨m, hm, e, h1, -⟩ := hW p hp
  unfold pbits isCh
  rw [e, nI_clamp (by omega)]
  exact pbN_bit hq h1
theorem pbits_cnt {u : MU} (hW : WPa u) {p : Nat} (hp : p < 12) : nI (pcn (pbits u p)) = u.1 8 p := by
  obtain ⟨m, hm, e, h1, h2⟩ := hW p hp
  unfold pbits
  rw [e, nI_clamp (by omega)]
  congr 1
  unfold pcn
  match m, hm, h1, h2 with
  | 0, _, _, _ =>
    show pcb (0 : Nat).testBit 13 = 0
    decide +kernel
  | 1, _, h1, _ =>
    obtain ⟨j, hj, ej⟩ := h1 0 (by omega)
    rw [pbN, pbN, ej, nI_clamp (by omega)]
    rw [pcb_add (f := (0 : Nat).testBit) (p := j) (by omega) (Nat.zero_testBit j) (fun i => tb_or 0 j i)]
    decide +kernel
  | 2, _, h1, h2 =>
    obtain ⟨j, hj, ej⟩ := h1 0 (by omega)
    obtain ⟨k, hk, ek⟩ := h1 1 (by omega)
    have hjk : ¬ j = k := fun z => h2 rfl (by
      have e0 : u.1 7 (2 * p) = nI j := ej
      rw [e0, ek, z])
    rw [pbN, pbN, pbN, ej, ek, nI_clamp (by omega), nI_clamp (by omega)]
    rw [pcb_add (f := (0 ||| 2 ^ j : Nat).testBit) (p := k) (by omega) (by rw [tb_or, Nat.zero_testBit, decide_eq_false (by omega)]; rfl) (fun i => tb_or _ k i)]
    rw [pcb_add (f := (0 : Nat).testBit) (p := j) (by omega) (Nat.zero_testBit j) (fun i => tb_or 0 j i)]
    decide +kernel
  | _ + 3, hm, _, _ => omega
set_option maxRecDepth 100000 in
theorem C_isChildOf {g : Gx} {l : Launch} {ez : Nat} (G : GOK g l ez) {sg : Sg} {ad : Nat → Nat → Nat} {u : MU} {Y : GS} (hS : CS g ez ad u Y sg) (hW : WN u) (hA : WPa u) {p q : Nat} (hp : p < u.2.2.1 2) (hq : q < u.2.2.1 2) : MM g l yX5_isChildOf cX5_isChildOf 2 (some .boolean) (rmC 1 0 0) sg [.ref (ad 3 p), .ref (ad 3 q)] (PP sg (.int (b2i (isCh u p (nI q))))) (noX) := by
  refine MM.of G.1 G.2.1 (by decide) (Nat.le_of_ble_eq_true rfl) (fun x hg hlx C hin hout hargs => ?_)
  subst hg; subst hlx
  have C : AWC x cX5_isChildOf 2 RX5 (rmC 1 0 0) (some .boolean) := C
  show AW x (RQ x _ _ _ _) 0 0 sg 0 [(0, .ref (ad 3 p)), (1, .ref (ad 3 q))] []
  have h12 := hW.1
  have hb := pbits_bit hA (p := p) (q := q) (by omega) (by omega)
  refine aw_aload_n C dX5_isChildOf_0 rfl rfl rfl ?_
  refine aw_getf C f_X5_19 (hS.P hp) rfl dX5_isChildOf_1 rfl ?_
  refine aw_iconst (v := 1) C dX5_isChildOf_4 rfl rfl ?_
  refine aw_aload_n C dX5_isChildOf_5 rfl rfl rfl ?_
  refine aw_getf C f_X5_23 (hS.P hq) rfl dX5_isChildOf_6 rfl ?_
  refine aw_ishl C dX5_isChildOf_9 rfl ?_
  refine aw_iand C dX5_isChildOf_10 rfl ?_
  refine aw_if_eq (tgt := 18) C dX5_isChildOf_11 (by decide) rfl (fun c11 => ?_) (fun c11 => ?_)
  · rw [bit_of hb.2 (by omega)] at c11
    refine aw_iconst (v := 0) C dX5_isChildOf_18 rfl rfl ?_
    exact aw_iret C (by decide) (Nat.le_of_ble_eq_true rfl) (Nat.le_of_ble_eq_true rfl) (PP.of (by rw [← hb.1, c11]; rfl)) dX5_isChildOf_19
  · have c11 : (pbits u p).testBit q = true := by rw [bit_of hb.2 (by omega)] at c11; simpa using c11
    refine aw_iconst (v := 1) C dX5_isChildOf_14 rfl rfl ?_
    refine aw_goto (tgt := 19) C dX5_isChildOf_15 (by decide) ?_
    exact aw_iret C (by decide) (Nat.le_of_ble_eq_true rfl) (Nat.le_of_ble_eq_true rfl) (PP.of (by rw [← hb.1, c11]; rfl)) dX5_isChildOf_19
set_option maxRecDepth 100000 in
theorem C_parentCount {g : Gx} {l : Launch} {ez : Nat} (G : GOK g l ez) {sg : Sg} {ad : Nat → Nat → Nat} {u : MU} {Y : GS} (hS : CS g ez ad u Y sg) (hW : WN u) (hA : WPa u) {p : Nat} (hp : p < u.2.2.1 2) : MM g l yX5_parentCount cX5_parentCount 1 (some .int) (rmC 2 0 0) sg [.ref (ad 3 p)] (PP sg (.int (u.1 8 p))) (noX) := by
  refine MM.of G.1 G.2.1 (by decide) (Nat.le_of_ble_eq_true rfl) (fun x hg hlx C hin hout hargs => ?_)
  subst hg; subst hlx
  have C : AWC x cX5_parentCount 1 RX5 (rmC 2 0 0) (some .int) := C
  show AW x (RQ x _ _ _ _) 0 0 sg 0 [(0, .ref (ad 3 p))] []
  have h12 := hW.1
  refine aw_aload_n C dX5_parentCount_0 rfl rfl rfl ?_
  refine aw_getf C f_X5_19 (hS.P hp) rfl dX5_parentCount_1 rfl ?_
  refine cw_callSp C k_X5_35 (L_bitCount G (pbits_bit hA (p := p) (q := 0) (by omega) (by omega)).2) ⟨by decide, by decide⟩ rfl rfl (Nat.le_of_ble_eq_true rfl) (Nat.le_of_ble_eq_true rfl) (Nat.le_of_ble_eq_true rfl) dX5_parentCount_4 rfl ?_
  exact aw_iret C rfl (Nat.le_of_ble_eq_true rfl) (Nat.le_of_ble_eq_true rfl) (PP.of (by rw [pbits_cnt hA (by omega)])) dX5_parentCount_7
def upPar (u : MU) (p : Nat) (v : Int32) : MU := uI (uI u 7 (2 * p + (u.1 8 p).toNatClampNeg) v) 8 p (u.1 8 p + 1)
theorem pbits_up {u : MU} {p m : Nat} {v : Int32} (hm : m ≤ 1) (e : u.1 8 p = nI m) : pbits (upPar u p v) p = pbits u p ||| 2 ^ v.toNatClampNeg := by
  unfold pbits
  have e8 : (upPar u p v).1 8 p = nI (m + 1) := by unfold upPar; rw [uI_at, e, nI_1]
  have e7 : ∀ j, (upPar u p v).1 7 j = if j = 2 * p + m then v else u.1 7 j := fun j => by
    unfold upPar
    rw [uI_ne (by omega), e, nI_clamp (by omega)]
    by_cases h : j = 2 * p + m
    · rw [if_pos h, h, uI_at]
    · rw [if_neg h, uI_ne (by omega)]
  have hl : ∀ k, k ≤ m → pbN (upPar u p v) p k = pbN u p k := fun k hk => by
    induction k with
    | zero => rfl
    | succ k ih => rw [pbN, pbN, ih (by omega), e7, if_neg (by omega)]
  rw [e8, nI_clamp (by omega), e, nI_clamp (by omega), pbN, hl m (Nat.le_refl _), e7, if_pos rfl]
set_option maxRecDepth 100000 in
theorem C_addParent {g : Gx} {l : Launch} {ez : Nat} (G : GOK g l ez) {sg : Sg} {ad : Nat → Nat → Nat} {u : MU} {Y : GS} (hS : CS g ez ad u Y sg) (hW : WN u) (hP : WP u) {p q m : Nat} (hm : m ≤ 1) (e8 : u.1 8 p = nI m) (hp : p < u.2.2.1 2) (hq : q < u.2.2.1 2) : MM g l yX5_addParent cX5_addParent 2 none (rmC 1 0 0) sg [.ref (ad 3 p), .ref (ad 3 q)] (PS g ez ad u Y sg none (upPar u p (nI q))) (noX) := by
  refine MM.of G.1 G.2.1 (by decide) (Nat.le_of_ble_eq_true rfl) (fun x hg hlx C hin hout hargs => ?_)
  subst hg; subst hlx
  have C : AWC x cX5_addParent 2 RX5 (rmC 1 0 0) none := C
  show AW x (RQ x _ _ _ _) 0 0 sg 0 [(0, .ref (ad 3 p)), (1, .ref (ad 3 q))] []
  have h12 := hW.1
  have hc : cel x.g ez ad u Y 3 p = some (ob 7 (pcl ad u p)) := if_pos hp
  have ho : ∀ a b, ¬ (a = 3 ∧ b = p) → cel x.g ez ad (upPar u p (nI q)) Y a b = cel x.g ez ad u Y a b := fun a b hab => by
    unfold upPar
    rw [e8, nI_clamp (by omega)]
    refine Eq.trans (cel_uI (fun i hi => ?_) hW (by decide) (fun z => hab ⟨z.1.symm, z.2.symm⟩)) (cel_uI hP hW (by decide) (fun z => hab ⟨z.1.symm, ?_⟩))
    · rw [uI_ne (by omega)]
      exact hP i hi
    · refine z.2.symm.trans ?_
      show (2 * p + m) / 2 = p
      omega
  have hc2 : cel x.g ez ad (upPar u p (nI q)) Y 3 p = some (ob 7 [.int (nI p), .int (u.1 3 p), .int (u.1 4 p), .int (u.1 5 p), .int (b2i (decide (u.1 6 p = 0))), va_rf (rfo (ad 3) (u.1 9 p)), .int (nI (pbits u p ||| 2 ^ q))]) := by
    show (if p < u.2.2.1 2 then some (ob 7 (pcl ad (upPar u p (nI q)) p)) else none) = _
    rw [if_pos hp]
    unfold pcl
    rw [pbits_up hm e8, nI_clamp (by omega)]
    rfl
  refine aw_aload_n C dX5_addParent_0 rfl rfl rfl ?_
  refine aw_dup C dX5_addParent_1 rfl rfl ?_
  refine aw_getf C f_X5_19 (hS.P hp) rfl dX5_addParent_2 rfl ?_
  refine aw_iconst (v := 1) C dX5_addParent_5 rfl rfl ?_
  refine aw_aload_n C dX5_addParent_6 rfl rfl rfl ?_
  refine aw_getf C f_X5_23 (hS.P hq) rfl dX5_addParent_7 rfl ?_
  refine aw_ishl C dX5_addParent_10 rfl ?_
  refine aw_ior C dX5_addParent_11 rfl ?_
  rw [sh_one (by omega), nI_or]
  refine cw_put (upPar u p (nI q)) C hS CFr.rf SN.rf f_X5_19 rfl hc (by rw [hc2]; rfl) (fun a b hab => ho a b hab) rfl rfl rfl (Nat.le_of_ble_eq_true rfl) dX5_addParent_12 rfl (fun s1 hS1 hF1 => ?_)
  exact aw_vret C (Nat.le_of_ble_eq_true rfl) (Nat.le_of_ble_eq_true rfl) ⟨rfl, hS1, hF1⟩ dX5_addParent_15
set_option maxRecDepth 100000 in
theorem C_isClosed {g : Gx} {l : Launch} {ez : Nat} (G : GOK g l ez) {sg : Sg} {ad : Nat → Nat → Nat} {u : MU} {Y : GS} (hS : CS g ez ad u Y sg) {d : Nat} (hd : d < u.2.2.1 10) : MM g l yX0_isClosed cX0_isClosed 1 (some .boolean) (rmC 1 0 0) sg [.ref (ad 4 d)] (PP sg (.int (b2i (!decide (u.1 22 d = 0))))) (noX) := by
  refine MM.of G.1 G.2.1 (by decide) (Nat.le_of_ble_eq_true rfl) (fun x hg hlx C hin hout hargs => ?_)
  subst hg; subst hlx
  have C : AWC x cX0_isClosed 1 RX0 (rmC 1 0 0) (some .boolean) := C
  show AW x (RQ x _ _ _ _) 0 0 sg 0 [(0, .ref (ad 4 d))] []
  refine aw_aload_n C dX0_isClosed_0 rfl rfl rfl ?_
  refine aw_getf C f_X0_29 (hS.D hd) rfl dX0_isClosed_1 rfl ?_
  refine aw_if_eq (tgt := 11) C dX0_isClosed_4 (by decide) rfl (fun c4 => ?_) (fun c4 => ?_)
  · refine aw_iconst (v := 0) C dX0_isClosed_11 rfl rfl ?_
    exact aw_iret C (by decide) (Nat.le_of_ble_eq_true rfl) (Nat.le_of_ble_eq_true rfl) (PP.of (by simp [b2i, c4])) dX0_isClosed_12
  · refine aw_iconst (v := 1) C dX0_isClosed_7 rfl rfl ?_
    refine aw_goto (tgt := 12) C dX0_isClosed_8 (by decide) ?_
    exact aw_iret C (by decide) (Nat.le_of_ble_eq_true rfl) (Nat.le_of_ble_eq_true rfl) (PP.of (by simp [b2i, c4])) dX0_isClosed_12
set_option maxRecDepth 100000 in
theorem C_hasAll {g : Gx} {l : Launch} {ez : Nat} (G : GOK g l ez) {sg : Sg} {ad : Nat → Nat → Nat} {u : MU} {Y : GS} (hS : CS g ez ad u Y sg) {d : Nat} (hd : d < u.2.2.1 10) {v : Int32} : MM g l yX0_hasAll cX0_hasAll 2 (some .boolean) (rmC 1 0 0) sg [.ref (ad 4 d), .int v] (PP sg (.int (b2i (decide (u.1 20 d &&& v = v))))) (noX) := by
  refine MM.of G.1 G.2.1 (by decide) (Nat.le_of_ble_eq_true rfl) (fun x hg hlx C hin hout hargs => ?_)
  subst hg; subst hlx
  have C : AWC x cX0_hasAll 2 RX0 (rmC 1 0 0) (some .boolean) := C
  show AW x (RQ x _ _ _ _) 0 0 sg 0 [(0, .ref (ad 4 d)), (1, .int v)] []
  refine aw_aload_n C dX0_hasAll_0 rfl rfl rfl ?_
  refine aw_getf C f_X0_22 (hS.D hd) rfl dX0_hasAll_1 rfl ?_
  refine aw_iload_n C dX0_hasAll_4 rfl rfl rfl ?_
  refine aw_iand C dX0_hasAll_5 rfl ?_
  refine aw_iload_n C dX0_hasAll_6 rfl rfl rfl ?_
  refine aw_icmp_ne (tgt := 14) C dX0_hasAll_7 (by decide) rfl (fun c7 => ?_) (fun c7 => ?_)
  · refine aw_iconst (v := 0) C dX0_hasAll_14 rfl rfl ?_
    exact aw_iret C (by decide) (Nat.le_of_ble_eq_true rfl) (Nat.le_of_ble_eq_true rfl) (PP.of (by simp [b2i, c7])) dX0_hasAll_15
  · refine aw_iconst (v := 1) C dX0_hasAll_10 rfl rfl ?_
    refine aw_goto (tgt := 15) C dX0_hasAll_11 (by decide) ?_
    exact aw_iret C (by decide) (Nat.le_of_ble_eq_true rfl) (Nat.le_of_ble_eq_true rfl) (PP.of (by simp [b2i, c7])) dX0_hasAll_15
set_option maxRecDepth 100000 in
theorem C_side {g : Gx} {l : Launch} {ez : Nat} (G : GOK g l ez) {sg : Sg} {ad : Nat → Nat → Nat} {u : MU} {Y : GS} (hS : CS g ez ad u Y sg) {d : Nat} (hd : d < u.2.2.1 10) {b : Bool} : MM g l yX0_side cX0_side 2 (some (.object "DeedProtocol$Person")) (rmC 1 0 0) sg [.ref (ad 4 d), .int (b2i b)] (PP sg (.ref (ad 3 (if b = true then u.1 12 d else u.1 13 d).toNatClampNeg))) (noX) := by
  refine MM.of G.1 G.2.1 (by decide) (Nat.le_of_ble_eq_true rfl) (fun x hg hlx C hin hout hargs => ?_)
  subst hg; subst hlx
  have C : AWC x cX0_side 2 RX0 (rmC 1 0 0) (some (.object "DeedProtocol$Person")) := C
  show AW x (RQ x _ _ _ _) 0 0 sg 0 [(0, .ref (ad 4 d)), (1, .int (b2i b))] []
  refine aw_iload_n C dX0_side_0 rfl rfl rfl ?_
  refine aw_if_eq (tgt := 11) C dX0_side_1 (by decide) rfl (fun c1 => ?_) (fun c1 => ?_)
  · have c1 := fa_of c1
    refine aw_aload_n C dX0_side_11 rfl rfl rfl ?_
    refine aw_getf C f_X0_51 (hS.D hd) rfl dX0_side_12 rfl ?_
    exact aw_aret (r := some _) C (Or.inl ⟨_, rfl⟩) (Nat.le_of_ble_eq_true rfl) (Nat.le_of_ble_eq_true rfl) (PP.of (by subst c1; rfl)) dX0_side_15
  · have c1 := tr_of c1
    refine aw_aload_n C dX0_side_4 rfl rfl rfl ?_
    refine aw_getf C f_X0_47 (hS.D hd) rfl dX0_side_5 rfl ?_
    refine aw_goto (tgt := 15) C dX0_side_8 (by decide) ?_
    exact aw_aret (r := some _) C (Or.inl ⟨_, rfl⟩) (Nat.le_of_ble_eq_true rfl) (Nat.le_of_ble_eq_true rfl) (PP.of (by subst c1; rfl)) dX0_side_15
set_option maxRecDepth 100000 in
theorem C_hasWitness {g : Gx} {l : Launch} {ez : Nat} (G : GOK g l ez) {sg : Sg} {ad : Nat → Nat → Nat} {u : MU} {Y : GS} (hS : CS g ez ad u Y sg) {d : Nat} (hd : d < u.2.2.1 10) {p : Nat} (hp : p < u.2.2.1 2) : MM g l yX0_hasWitness cX0_hasWitness 2 (some .boolean) (rmC 1 0 0) sg [.ref (ad 4 d), .ref (ad 3 p)] (PP sg (.int (b2i (!decide (u.1 21 d &&& ((1 : Int32) <<< (nI p &&& 31)) = 0))))) (noX) := by
  refine MM.of G.1 G.2.1 (by decide) (Nat.le_of_ble_eq_true rfl) (fun x hg hlx C hin hout hargs => ?_)
  subst hg; subst hlx
  have C : AWC x cX0_hasWitness 2 RX0 (rmC 1 0 0) (some .boolean) := C
  show AW x (RQ x _ _ _ _) 0 0 sg 0 [(0, .ref (ad 4 d)), (1, .ref (ad 3 p))] []
  refine aw_aload_n C dX0_hasWitness_0 rfl rfl rfl ?_
  refine aw_getf C f_X0_26 (hS.D hd) rfl dX0_hasWitness_1 rfl ?_
  refine aw_iconst (v := 1) C dX0_hasWitness_4 rfl rfl ?_
  refine aw_aload_n C dX0_hasWitness_5 rfl rfl rfl ?_
  refine aw_getf C f_X0_64 (hS.P hp) rfl dX0_hasWitness_6 rfl ?_
  refine aw_ishl C dX0_hasWitness_9 rfl ?_
  refine aw_iand C dX0_hasWitness_10 rfl ?_
  refine aw_if_eq (tgt := 18) C dX0_hasWitness_11 (by decide) rfl (fun c11 => ?_) (fun c11 => ?_)
  · refine aw_iconst (v := 0) C dX0_hasWitness_18 rfl rfl ?_
    exact aw_iret C (by decide) (Nat.le_of_ble_eq_true rfl) (Nat.le_of_ble_eq_true rfl) (PP.of (by simp [b2i, c11])) dX0_hasWitness_19
  · refine aw_iconst (v := 1) C dX0_hasWitness_14 rfl rfl ?_
    refine aw_goto (tgt := 19) C dX0_hasWitness_15 (by decide) ?_
    exact aw_iret C (by decide) (Nat.le_of_ble_eq_true rfl) (Nat.le_of_ble_eq_true rfl) (PP.of (by simp [b2i, c11])) dX0_hasWitness_19
theorem cel_u4 {g : Gx} {ez : Nat} {ad : Nat → Nat → Nat} {u : MU} {Y : GS} (hP : WP u) (hW : WN u) {r d : Nat} {v : Int32} (hr : kdOf r = 4) (h11 : r ≠ 11) (hx : ixOf r d = d) : ∀ a b, ¬ (a = 4 ∧ b = d) → cel g ez ad (uI u r d v) Y a b = cel g ez ad u Y a b := fun a b hab => cel_uI hP hW h11 (fun z => hab ⟨z.1.symm.trans hr, z.2.symm.trans hx⟩)
theorem dset20 {ad : Nat → Nat → Nat} {u : MU} {d : Nat} {v : Int32} : dcl ad (uI u 20 d v) d = (dcl ad u d).set 9 (.int v) := by
  have e : (uI u 20 d v).1 20 d = v := uI_at
  unfold dcl
  rw [e]
  rfl
theorem dset21 {ad : Nat → Nat → Nat} {u : MU} {d : Nat} {v : Int32} : dcl ad (uI u 21 d v) d = (dcl ad u d).set 10 (.int v) := by
  have e : (uI u 21 d v).1 21 d = v := uI_at
  unfold dcl
  rw [e]
  rfl
theorem dset22 {ad : Nat → Nat → Nat} {u : MU} {d : Nat} {v : Int32} : dcl ad (uI u 22 d v) d = (dcl ad u d).set 11 (.int v) := by
  have e : (uI u 22 d v).1 22 d = v := uI_at
  unfold dcl
  rw [e]
  rfl
theorem dset23 {ad : Nat → Nat → Nat} {u : MU} {d : Nat} {v : Int32} : dcl ad (uI u 23 d v) d = (dcl ad u d).set 12 (.int v) := by
  have e : (uI u 23 d v).1 23 d = v := uI_at
  unfold dcl
  rw [e]
  rfl
theorem dset24 {ad : Nat → Nat → Nat} {u : MU} {d : Nat} {v : Int32} : dcl ad (uI u 24 d v) d = (dcl ad u d).set 13 (.int v) := by
  have e : (uI u 24 d v).1 24 d = v := uI_at
  unfold dcl
  rw [e]
  rfl
theorem dset25 {ad : Nat → Nat → Nat} {u : MU} {d : Nat} {v : Int32} : dcl ad (uI u 25 d v) d = (dcl ad u d).set 14 (.int v) := by
  have e : (uI u 25 d v).1 25 d = v := uI_at
  unfold dcl
  rw [e]
  rfl
theorem cel_4 {g : Gx} {ez : Nat} {ad : Nat → Nat → Nat} {u : MU} {Y : GS} {d : Nat} (hd : d < u.2.2.1 10) : cel g ez ad u Y 4 d = some (ob 2 (dcl ad u d)) := if_pos hd
theorem WP.u {u : MU} {r i : Nat} {v : Int32} (h : WP u) (hr : r ≠ 8) : WP (uI u r i v) := fun p hp => by rw [uI_ne (by omega)]; exact h p hp
theorem nI_lt0 {n : Nat} (h : n < 2 ^ 30) (c : nI (n + 1) < 2) : n = 0 := by
  have := (nI_ltI (a := n + 1) (b := 2) (by omega) (by decide)).mp c
  omega
theorem nI_ge0 {n : Nat} (h : n < 2 ^ 30) (c : ¬ nI (n + 1) < 2) : ¬ n = 0 := fun z => c (by subst z; decide)
def upWit (u : MU) (d p w : Nat) : MU := if ¬ pcn w = 0 then uI (uI u 21 d (nI (w ||| 2 ^ p))) 20 d (u.1 20 d ||| 8) else uI u 21 d (nI (w ||| 2 ^ p))
set_option maxRecDepth 100000 in
theorem C_addWitness {g : Gx} {l : Launch} {ez : Nat} (G : GOK g l ez) {sg : Sg} {ad : Nat → Nat → Nat} {u : MU} {Y : GS} (hS : CS g ez ad u Y sg) (hW : WN u) (hP : WP u) {d p w : Nat} (hd : d < u.2.2.1 10) (hp : p < u.2.2.1 2) (hw : u.1 21 d = nI w) (hw2 : w < 8192) (hb : w.testBit p = false) : MM g l yX0_addWitness cX0_addWitness 2 none (rmC 2 0 0) sg [.ref (ad 4 d), .ref (ad 3 p)] (PS g ez ad u Y sg none (upWit u d p w)) (noX) := by
  refine MM.of G.1 G.2.1 (by decide) (Nat.le_of_ble_eq_true rfl) (fun x hg hlx C hin hout hargs => ?_)
  subst hg; subst hlx
  have C : AWC x cX0_addWitness 2 RX0 (rmC 2 0 0) none := C
  show AW x (RQ x _ _ _ _) 0 0 sg 0 [(0, .ref (ad 4 d)), (1, .ref (ad 3 p))] []
  have h12 := hW.1
  unfold upWit
  refine aw_aload_n C dX0_addWitness_0 rfl rfl rfl ?_
  refine aw_dup C dX0_addWitness_1 rfl rfl ?_
  refine aw_getf C f_X0_26 (hS.D hd) rfl dX0_addWitness_2 rfl ?_
  refine aw_iconst (v := 1) C dX0_addWitness_5 rfl rfl ?_
  refine aw_aload_n C dX0_addWitness_6 rfl rfl rfl ?_
  refine aw_getf C f_X0_64 (hS.P hp) rfl dX0_addWitness_7 rfl ?_
  refine aw_ishl C dX0_addWitness_10 rfl ?_
  refine aw_ior C dX0_addWitness_11 rfl ?_
  rw [hw, sh_one (by omega), nI_or]
  refine cw_put (uI u 21 d (nI (w ||| 2 ^ p))) C hS CFr.rf SN.rf f_X0_26 rfl (cel_4 hd) (by rw [cel_4 (u := (uI u 21 d (nI (w ||| 2 ^ p)))) hd, dset21] <;> rfl) (cel_u4 hP hW rfl (by decide) rfl) rfl rfl rfl (Nat.le_of_ble_eq_true rfl) dX0_addWitness_12 rfl (fun s1 hS1 hF1 => ?_)
  refine aw_aload_n C dX0_addWitness_15 rfl rfl rfl ?_
  refine aw_getf C f_X0_26 (hS1.D hd) rfl dX0_addWitness_16 rfl ?_
  rw [show (uI u 21 d (nI (w ||| 2 ^ p))).1 21 d = nI (w ||| 2 ^ p) from uI_at]
  refine cw_callSp C k_X0_67 (L_bitCount G (or_lt hw2 (by omega))) ⟨by decide, by decide⟩ rfl rfl (Nat.le_of_ble_eq_true rfl) (Nat.le_of_ble_eq_true rfl) (Nat.le_of_ble_eq_true rfl) dX0_addWitness_19 rfl ?_
  have hpc : pcn (w ||| 2 ^ p) = pcn w + 1 := pcb_add (by omega) hb (fun i => tb_or w p i)
  have h13 : pcn w ≤ 13 := pcb_le
  rw [hpc]
  refine aw_iconst (v := 2) C dX0_addWitness_22 rfl rfl ?_
  refine aw_icmp_lt (tgt := 37) C dX0_addWitness_23 (by decide) rfl (fun c23 => ?_) (fun c23 => ?_)
  · exact aw_vret C (Nat.le_of_ble_eq_true rfl) (Nat.le_of_ble_eq_true rfl) ⟨rfl, by rw [if_neg (fun z => z ((nI_lt0 (by omega) c23)))]; exact hS1, hF1⟩ dX0_addWitness_37
  · refine aw_aload_n C dX0_addWitness_26 rfl rfl rfl ?_
    refine aw_dup C dX0_addWitness_27 rfl rfl ?_
    refine aw_getf C f_X0_22 (hS1.D hd) rfl dX0_addWitness_28 rfl ?_
    refine aw_bipush (v := 8) C dX0_addWitness_31 rfl rfl ?_
    refine aw_ior C dX0_addWitness_33 rfl ?_
    refine cw_put (uI (uI u 21 d (nI (w ||| 2 ^ p))) 20 d (u.1 20 d ||| 8)) C hS1 hF1 ⟨rfl, rfl, rfl, rfl, rfl⟩ f_X0_22 rfl (cel_4 hd) (by rw [cel_4 (u := (uI (uI u 21 d (nI (w ||| 2 ^ p))) 20 d (u.1 20 d ||| 8))) hd, dset20] <;> rfl) (cel_u4 (hP.u (by decide)) hW rfl (by decide) rfl) rfl rfl rfl (Nat.le_of_ble_eq_true rfl) dX0_addWitness_34 rfl (fun s1 hS1 hF1 => ?_)
    exact aw_vret C (Nat.le_of_ble_eq_true rfl) (Nat.le_of_ble_eq_true rfl) ⟨rfl, by rw [if_pos (nI_ge0 (by omega) c23)]; exact hS1, hF1⟩ dX0_addWitness_37
