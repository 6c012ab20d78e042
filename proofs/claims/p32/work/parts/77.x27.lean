/-! the class: heirs and wills -/
/-- the living children of p, or its living parents, as bits -/
def lcN (u : MU) (p : Nat) (cb : Bool) : Nat → Nat
  | 0 => 0
  | m + 1 => if isHr u m p cb = true then lcN u p cb m ||| 2 ^ m else lcN u p cb m
theorem lcN_lt {u : MU} {p : Nat} {cb : Bool} {m : Nat} (h : m ≤ 12) : lcN u p cb m < 4096 := by
  induction m with
  | zero => exact (by decide : 0 < 4096)
  | succ m ih =>
    rw [lcN]
    split
    · exact Nat.or_lt_two_pow (n := 12) (ih (by omega)) (by
        rw [show (2 : Nat) ^ 12 = 4096 from rfl]
        exact Nat.lt_of_lt_of_le (Nat.pow_lt_pow_right (by decide) (Nat.lt_succ_self m)) (by
          have := Nat.pow_le_pow_right (n := 2) (by decide) h
          exact this))
    · exact ih (by omega)
theorem lcN_bit {u : MU} {p j : Nat} {cb : Bool} {m : Nat} : (lcN u p cb m).testBit j = (decide (j < m) && isHr u j p cb) := by
  induction m with
  | zero =>
    rw [lcN, Nat.zero_testBit, decide_eq_false (Nat.not_lt_zero j), Bool.false_and]
  | succ m ih =>
    rw [lcN]
    by_cases e : j = m
    · subst e
      by_cases h : isHr u j p cb = true
      · rw [if_pos h, tb_or, decide_eq_true (rfl : j = j), Bool.or_true, decide_eq_true (Nat.lt_succ_self j), h]
        rfl
      · rw [if_neg h, ih, decide_eq_false (Nat.lt_irrefl j), Bool.false_and]
        simp [h]
    · have e1 : decide (j < m + 1) = decide (j < m) := by
        by_cases q : j < m
        · rw [decide_eq_true q, decide_eq_true (by omega)]
        · rw [decide_eq_false q, decide_eq_false (by omega)]
      rw [e1]
      by_cases h : isHr u m p cb = true
      · rw [if_pos h, tb_or, decide_eq_false e, Bool.or_false, ih]
      · rw [if_neg h, ih]
set_option maxRecDepth 100000 in
theorem C_livingChildren {g : Gx} {l : Launch} {ez : Nat} (G : GOK g l ez) {sg : Sg} {ad : Nat → Nat → Nat} {u : MU} {Y : GS} (hS : CS g ez ad u Y sg) {N : Nat} (hI : CI N u) {p : Nat} (hp : p < u.2.2.1 2) : MM g l yX8_livingChildren cX8_livingChildren 5 (some .int) (rmC 4 0 0) sg [.ref (ad 0 0), .ref (ad 3 p)] (PP sg (.int (nI (lcN u p true (u.2.2.1 2))))) (noX) := by
  refine MM.of G.1 G.2.1 (by decide) (Nat.le_of_ble_eq_true rfl) (fun x hg hlx C hin hout hargs => ?_)
  subst hg; subst hlx
  have C : AWC x cX8_livingChildren 5 RX8 (rmC 4 0 0) (some .int) := C
  show AW x (RQ x _ _ _ _) 0 0 sg 0 [(0, .ref (ad 0 0)), (1, .ref (ad 3 p))] []
  have h12 := hI.n2
  have loop : ∀ (r i : Nat), i + r = u.2.2.1 2 → AW x (RQ x (PP sg (.int (nI (lcN u p true (u.2.2.1 2))))) noX (rmC 4 0 0).cells (rmC 4 0 0).slots) 0 0 sg 4 [(0, .ref (ad 0 0)), (1, .ref (ad 3 p)), (2, .int (nI (lcN u p true i))), (3, .int (nI i))] [] := by
    intro r
    induction r with
    | zero =>
      intro i hi
      refine aw_iload_n C dX8_livingChildren_4 rfl rfl rfl ?_
      refine aw_aload_n C dX8_livingChildren_5 rfl rfl rfl ?_
      refine aw_getf C f_X8_12 hS.O rfl dX8_livingChildren_6 rfl ?_
      refine cw_callVp C k_X8_50 (L_size G (n := u.2.2.1 2) (hS.L (i := 0) (by decide))) ⟨by decide, by decide⟩ (ci := 1) rfl (hS.L (i := 0) (by decide)) rfl rfl (Nat.le_of_ble_eq_true rfl) (Nat.le_of_ble_eq_true rfl) (Nat.le_of_ble_eq_true rfl) dX8_livingChildren_9 rfl ?_
      refine aw_icmp_ge (tgt := 61) C dX8_livingChildren_12 (by decide) rfl (fun c12 => ?_) (fun c12 => ?_)
      · refine aw_iload_n C dX8_livingChildren_61 rfl rfl rfl ?_
        exact aw_iret C rfl (Nat.le_of_ble_eq_true rfl) (Nat.le_of_ble_eq_true rfl) (PP.of (by rw [show i = u.2.2.1 2 by omega])) dX8_livingChildren_62
      · exact absurd (by rw [nI_leI (by omega) (by omega)]; omega) c12
    | succ r ih =>
      intro i hi
      have hi1 : i < u.2.2.1 2 := by omega
      refine aw_iload_n C dX8_livingChildren_4 rfl rfl rfl ?_
      refine aw_aload_n C dX8_livingChildren_5 rfl rfl rfl ?_
      refine aw_getf C f_X8_12 hS.O rfl dX8_livingChildren_6 rfl ?_
      refine cw_callVp C k_X8_50 (L_size G (n := u.2.2.1 2) (hS.L (i := 0) (by decide))) ⟨by decide, by decide⟩ (ci := 1) rfl (hS.L (i := 0) (by decide)) rfl rfl (Nat.le_of_ble_eq_true rfl) (Nat.le_of_ble_eq_true rfl) (Nat.le_of_ble_eq_true rfl) dX8_livingChildren_9 rfl ?_
      refine aw_icmp_ge (tgt := 61) C dX8_livingChildren_12 (by decide) rfl (fun c12 => ?_) (fun c12 => ?_)
      · exact absurd c12 (fun z => by rw [nI_leI (by omega) (by omega)] at z; omega)
      · refine aw_aload_n C dX8_livingChildren_15 rfl rfl rfl ?_
        refine aw_getf C f_X8_12 hS.O rfl dX8_livingChildren_16 rfl ?_
        refine aw_iload_n C dX8_livingChildren_19 rfl rfl rfl ?_
        refine cw_callVp C k_X8_355 (L_get G (hS.H (i := 0) (by decide)) hi1 (by show u.2.2.1 2 ≤ 109; omega)) ⟨by decide, by decide⟩ (ci := 1) rfl (hS.L (i := 0) (by decide)) rfl rfl (Nat.le_of_ble_eq_true rfl) (Nat.le_of_ble_eq_true rfl) (Nat.le_of_ble_eq_true rfl) dX8_livingChildren_20 rfl ?_
        refine aw_cast C h_X8_59 (ci := 7) rfl (hS.P hi1) dX8_livingChildren_23 rfl ?_
        refine aw_astore (ls' := [(4, _), (0, _), (1, _), (2, _), (3, _)]) C dX8_livingChildren_26 (by decide) rfl rfl ?_
        refine aw_aload C dX8_livingChildren_28 rfl rfl ?_
        refine aw_getf C f_X8_96 (hS.P hi1) rfl dX8_livingChildren_30 rfl ?_
        refine aw_if_eq (tgt := 55) C dX8_livingChildren_33 (by decide) rfl (fun c33 => ?_) (fun c33 => ?_)
        · have c33 := fa_of c33
          refine aw_iinc (v' := nI (i + 1)) (ls' := [(3, _), (4, _), (0, _), (1, _), (2, _)]) C dX8_livingChildren_55 rfl (by decide) (nI_1 i) rfl rfl ?_
          refine aw_goto (tgt := 4) C dX8_livingChildren_58 (by decide) ?_
          refine aw_pick (ls' := [(0, _), (1, _), (2, _), (3, _)]) [2, 3, 4, 0] rfl ?_
          have := ih (i + 1) (by omega)
          rw [lcN, if_neg (by rw [isHr, c33, Bool.false_and]; decide)] at this
          exact this
        · have c33 := tr_of c33
          refine aw_aload C dX8_livingChildren_36 rfl rfl ?_
          refine aw_aload_n C dX8_livingChildren_38 rfl rfl rfl ?_
          refine cw_callVNp C k_X8_80 (C_isChildOf G hS hI.W hI.Pa hi1 hp) ⟨by decide, by decide⟩ (ci := 7) rfl (hS.P hi1) rfl rfl (Nat.le_of_ble_eq_true rfl) (Nat.le_of_ble_eq_true rfl) (Nat.le_of_ble_eq_true rfl) dX8_livingChildren_39 rfl ?_
          refine aw_if_eq (tgt := 55) C dX8_livingChildren_42 (by decide) rfl (fun c42 => ?_) (fun c42 => ?_)
          · have c42 := fa_of c42
            refine aw_iinc (v' := nI (i + 1)) (ls' := [(3, _), (4, _), (0, _), (1, _), (2, _)]) C dX8_livingChildren_55 rfl (by decide) (nI_1 i) rfl rfl ?_
            refine aw_goto (tgt := 4) C dX8_livingChildren_58 (by decide) ?_
            refine aw_pick (ls' := [(0, _), (1, _), (2, _), (3, _)]) [2, 3, 4, 0] rfl ?_
            have := ih (i + 1) (by omega)
            rw [lcN, if_neg (by rw [isHr, c33, Bool.true_and]; rw [if_pos rfl, c42]; decide)] at this
            exact this
          · have c42 := tr_of c42
            refine aw_iload_n C dX8_livingChildren_45 rfl rfl rfl ?_
            refine aw_iconst (v := 1) C dX8_livingChildren_46 rfl rfl ?_
            refine aw_aload C dX8_livingChildren_47 rfl rfl ?_
            refine aw_getf C f_X8_68 (hS.P hi1) rfl dX8_livingChildren_49 rfl ?_
            refine aw_ishl C dX8_livingChildren_52 rfl ?_
            rw [sh_one (by omega)]
            refine aw_ior C dX8_livingChildren_53 rfl ?_
            rw [nI_or]
            refine aw_istore_n (ls' := [(2, _), (4, _), (0, _), (1, _), (3, _)]) C dX8_livingChildren_54 rfl (by decide) rfl rfl ?_
            refine aw_iinc (v' := nI (i + 1)) (ls' := [(3, _), (2, _), (4, _), (0, _), (1, _)]) C dX8_livingChildren_55 rfl (by decide) (nI_1 i) rfl rfl ?_
            refine aw_goto (tgt := 4) C dX8_livingChildren_58 (by decide) ?_
            refine aw_pick (ls' := [(0, _), (1, _), (2, _), (3, _)]) [3, 4, 1, 0] rfl ?_
            have := ih (i + 1) (by omega)
            rw [lcN, if_pos (by rw [isHr, c33, Bool.true_and]; first | (rw [if_pos rfl]; exact c42) | (rw [if_neg (by decide)]; exact c42))] at this
            exact this
  refine aw_iconst (v := 0) C dX8_livingChildren_0 rfl rfl ?_
  refine aw_istore_n (ls' := [(2, _), (0, _), (1, _)]) C dX8_livingChildren_1 rfl (by decide) rfl rfl ?_
  refine aw_iconst (v := 0) C dX8_livingChildren_2 rfl rfl ?_
  refine aw_istore_n (ls' := [(3, _), (2, _), (0, _), (1, _)]) C dX8_livingChildren_3 rfl (by decide) rfl rfl ?_
  refine aw_pick (ls' := [(0, _), (1, _), (2, _), (3, _)]) [2, 3, 1, 0] rfl ?_
  exact loop (u.2.2.1 2) 0 (by omega)
set_option maxRecDepth 100000 in
theorem C_livingParents {g : Gx} {l : Launch} {ez : Nat} (G : GOK g l ez) {sg : Sg} {ad : Nat → Nat → Nat} {u : MU} {Y : GS} (hS : CS g ez ad u Y sg) {N : Nat} (hI : CI N u) {p : Nat} (hp : p < u.2.2.1 2) : MM g l yX8_livingParents cX8_livingParents 5 (some .int) (rmC 4 0 0) sg [.ref (ad 0 0), .ref (ad 3 p)] (PP sg (.int (nI (lcN u p false (u.2.2.1 2))))) (noX) := by
  refine MM.of G.1 G.2.1 (by decide) (Nat.le_of_ble_eq_true rfl) (fun x hg hlx C hin hout hargs => ?_)
  subst hg; subst hlx
  have C : AWC x cX8_livingParents 5 RX8 (rmC 4 0 0) (some .int) := C
  show AW x (RQ x _ _ _ _) 0 0 sg 0 [(0, .ref (ad 0 0)), (1, .ref (ad 3 p))] []
  have h12 := hI.n2
  have loop : ∀ (r i : Nat), i + r = u.2.2.1 2 → AW x (RQ x (PP sg (.int (nI (lcN u p false (u.2.2.1 2))))) noX (rmC 4 0 0).cells (rmC 4 0 0).slots) 0 0 sg 4 [(0, .ref (ad 0 0)), (1, .ref (ad 3 p)), (2, .int (nI (lcN u p false i))), (3, .int (nI i))] [] := by
    intro r
    induction r with
    | zero =>
      intro i hi
      refine aw_iload_n C dX8_livingParents_4 rfl rfl rfl ?_
      refine aw_aload_n C dX8_livingParents_5 rfl rfl rfl ?_
      refine aw_getf C f_X8_12 hS.O rfl dX8_livingParents_6 rfl ?_
      refine cw_callVp C k_X8_50 (L_size G (n := u.2.2.1 2) (hS.L (i := 0) (by decide))) ⟨by decide, by decide⟩ (ci := 1) rfl (hS.L (i := 0) (by decide)) rfl rfl (Nat.le_of_ble_eq_true rfl) (Nat.le_of_ble_eq_true rfl) (Nat.le_of_ble_eq_true rfl) dX8_livingParents_9 rfl ?_
      refine aw_icmp_ge (tgt := 61) C dX8_livingParents_12 (by decide) rfl (fun c12 => ?_) (fun c12 => ?_)
      · refine aw_iload_n C dX8_livingParents_61 rfl rfl rfl ?_
        exact aw_iret C rfl (Nat.le_of_ble_eq_true rfl) (Nat.le_of_ble_eq_true rfl) (PP.of (by rw [show i = u.2.2.1 2 by omega])) dX8_livingParents_62
      · exact absurd (by rw [nI_leI (by omega) (by omega)]; omega) c12
    | succ r ih =>
      intro i hi
      have hi1 : i < u.2.2.1 2 := by omega
      refine aw_iload_n C dX8_livingParents_4 rfl rfl rfl ?_
      refine aw_aload_n C dX8_livingParents_5 rfl rfl rfl ?_
      refine aw_getf C f_X8_12 hS.O rfl dX8_livingParents_6 rfl ?_
      refine cw_callVp C k_X8_50 (L_size G (n := u.2.2.1 2) (hS.L (i := 0) (by decide))) ⟨by decide, by decide⟩ (ci := 1) rfl (hS.L (i := 0) (by decide)) rfl rfl (Nat.le_of_ble_eq_true rfl) (Nat.le_of_ble_eq_true rfl) (Nat.le_of_ble_eq_true rfl) dX8_livingParents_9 rfl ?_
      refine aw_icmp_ge (tgt := 61) C dX8_livingParents_12 (by decide) rfl (fun c12 => ?_) (fun c12 => ?_)
      · exact absurd c12 (fun z => by rw [nI_leI (by omega) (by omega)] at z; omega)
      · refine aw_aload_n C dX8_livingParents_15 rfl rfl rfl ?_
        refine aw_getf C f_X8_12 hS.O rfl dX8_livingParents_16 rfl ?_
        refine aw_iload_n C dX8_livingParents_19 rfl rfl rfl ?_
        refine cw_callVp C k_X8_355 (L_get G (hS.H (i := 0) (by decide)) hi1 (by show u.2.2.1 2 ≤ 109; omega)) ⟨by decide, by decide⟩ (ci := 1) rfl (hS.L (i := 0) (by decide)) rfl rfl (Nat.le_of_ble_eq_true rfl) (Nat.le_of_ble_eq_true rfl) (Nat.le_of_ble_eq_true rfl) dX8_livingParents_20 rfl ?_
        refine aw_cast C h_X8_59 (ci := 7) rfl (hS.P hi1) dX8_livingParents_23 rfl ?_
        refine aw_astore (ls' := [(4, _), (0, _), (1, _), (2, _), (3, _)]) C dX8_livingParents_26 (by decide) rfl rfl ?_
        refine aw_aload C dX8_livingParents_28 rfl rfl ?_
        refine aw_getf C f_X8_96 (hS.P hi1) rfl dX8_livingParents_30 rfl ?_
        refine aw_if_eq (tgt := 55) C dX8_livingParents_33 (by decide) rfl (fun c33 => ?_) (fun c33 => ?_)
        · have c33 := fa_of c33
          refine aw_iinc (v' := nI (i + 1)) (ls' := [(3, _), (4, _), (0, _), (1, _), (2, _)]) C dX8_livingParents_55 rfl (by decide) (nI_1 i) rfl rfl ?_
          refine aw_goto (tgt := 4) C dX8_livingParents_58 (by decide) ?_
          refine aw_pick (ls' := [(0, _), (1, _), (2, _), (3, _)]) [2, 3, 4, 0] rfl ?_
          have := ih (i + 1) (by omega)
          rw [lcN, if_neg (by rw [isHr, c33, Bool.false_and]; decide)] at this
          exact this
        · have c33 := tr_of c33
          refine aw_aload_n C dX8_livingParents_36 rfl rfl rfl ?_
          refine aw_aload C dX8_livingParents_37 rfl rfl ?_
          refine cw_callVNp C k_X8_80 (C_isChildOf G hS hI.W hI.Pa hp hi1) ⟨by decide, by decide⟩ (ci := 7) rfl (hS.P hp) rfl rfl (Nat.le_of_ble_eq_true rfl) (Nat.le_of_ble_eq_true rfl) (Nat.le_of_ble_eq_true rfl) dX8_livingParents_39 rfl ?_
          refine aw_if_eq (tgt := 55) C dX8_livingParents_42 (by decide) rfl (fun c42 => ?_) (fun c42 => ?_)
          · have c42 := fa_of c42
            refine aw_iinc (v' := nI (i + 1)) (ls' := [(3, _), (4, _), (0, _), (1, _), (2, _)]) C dX8_livingParents_55 rfl (by decide) (nI_1 i) rfl rfl ?_
            refine aw_goto (tgt := 4) C dX8_livingParents_58 (by decide) ?_
            refine aw_pick (ls' := [(0, _), (1, _), (2, _), (3, _)]) [2, 3, 4, 0] rfl ?_
            have := ih (i + 1) (by omega)
            rw [lcN, if_neg (by rw [isHr, c33, Bool.true_and]; rw [if_neg (by decide), c42]; decide)] at this
            exact this
          · have c42 := tr_of c42
            refine aw_iload_n C dX8_livingParents_45 rfl rfl rfl ?_
            refine aw_iconst (v := 1) C dX8_livingParents_46 rfl rfl ?_
            refine aw_aload C dX8_livingParents_47 rfl rfl ?_
            refine aw_getf C f_X8_68 (hS.P hi1) rfl dX8_livingParents_49 rfl ?_
            refine aw_ishl C dX8_livingParents_52 rfl ?_
            rw [sh_one (by omega)]
            refine aw_ior C dX8_livingParents_53 rfl ?_
            rw [nI_or]
            refine aw_istore_n (ls' := [(2, _), (4, _), (0, _), (1, _), (3, _)]) C dX8_livingParents_54 rfl (by decide) rfl rfl ?_
            refine aw_iinc (v' := nI (i + 1)) (ls' := [(3, _), (2, _), (4, _), (0, _), (1, _)]) C dX8_livingParents_55 rfl (by decide) (nI_1 i) rfl rfl ?_
            refine aw_goto (tgt := 4) C dX8_livingParents_58 (by decide) ?_
            refine aw_pick (ls' := [(0, _), (1, _), (2, _), (3, _)]) [3, 4, 1, 0] rfl ?_
            have := ih (i + 1) (by omega)
            rw [lcN, if_pos (by rw [isHr, c33, Bool.true_and]; first | (rw [if_pos rfl]; exact c42) | (rw [if_neg (by decide)]; exact c42))] at this
            exact this
  refine aw_iconst (v := 0) C dX8_livingParents_0 rfl rfl ?_
  refine aw_istore_n (ls' := [(2, _), (0, _), (1, _)]) C dX8_livingParents_1 rfl (by decide) rfl rfl ?_
  refine aw_iconst (v := 0) C dX8_livingParents_2 rfl rfl ?_
  refine aw_istore_n (ls' := [(3, _), (2, _), (0, _), (1, _)]) C dX8_livingParents_3 rfl (by decide) rfl rfl ?_
  refine aw_pick (ls' := [(0, _), (1, _), (2, _), (3, _)]) [2, 3, 1, 0] rfl ?_
  exact loop (u.2.2.1 2) 0 (by omega)
set_option maxRecDepth 100000 in
theorem C_isStanding {g : Gx} {l : Launch} {ez : Nat} (G : GOK g l ez) {sg : Sg} {ad : Nat → Nat → Nat} {u : MU} {Y : GS} (hS : CS g ez ad u Y sg) {N : Nat} (hI : CI N u) {d : Nat} (hd : d < u.2.2.1 10) {p : Nat} (hp : p < u.2.2.1 2) : MM g l yX8_isStandingWillOf cX8_isStandingWillOf 2 (some .boolean) (rmC 1 0 0) sg [.ref (ad 4 d), .ref (ad 3 p)] (PP sg (.int (b2i (isW u p d)))) (noX) := by
  refine MM.of G.1 G.2.1 (by decide) (Nat.le_of_ble_eq_true rfl) (fun x hg hlx C hin hout hargs => ?_)
  subst hg; subst hlx
  have C : AWC x cX8_isStandingWillOf 2 RX8 (rmC 1 0 0) (some .boolean) := C
  show AW x (RQ x _ _ _ _) 0 0 sg 0 [(0, .ref (ad 4 d)), (1, .ref (ad 3 p))] []
  obtain ⟨⟨a, ha, ea⟩, b, hb, eb⟩ := hI.gt hd
  have h12 := hI.n2
  have ga : (u.1 12 d).toNatClampNeg = a := by rw [ea, nI_clamp (by omega)]
  have gb : (u.1 13 d).toNatClampNeg = b := by rw [eb, nI_clamp (by omega)]
  have e12 : (u.1 12 d = nI p) = (a = p) := propext (by rw [ea]; exact nI_eq (by omega) (by omega))
  refine aw_aload_n C dX8_isStandingWillOf_0 rfl rfl rfl ?_
  refine aw_getf C f_X8_236 (hS.D hd) rfl dX8_isStandingWillOf_1 rfl ?_
  refine aw_iconst (v := 4) C dX8_isStandingWillOf_4 rfl rfl ?_
  refine aw_icmp_ne (tgt := 46) C dX8_isStandingWillOf_5 (by decide) rfl (fun c5 => ?_) (fun c5 => ?_)
  · refine aw_iconst (v := 0) C dX8_isStandingWillOf_46 rfl rfl ?_
    exact aw_iret C (by decide) (Nat.le_of_ble_eq_true rfl) (Nat.le_of_ble_eq_true rfl) (PP.of (by simp [isW, b2i, e12, gb, c5])) dX8_isStandingWillOf_47
  · refine aw_aload_n C dX8_isStandingWillOf_8 rfl rfl rfl ?_
    refine aw_getf C f_X8_206 (hS.D hd) rfl dX8_isStandingWillOf_9 rfl ?_
    rw [ga]
    refine aw_aload_n C dX8_isStandingWillOf_12 rfl rfl rfl ?_
    refine aw_acmp_ne (rx := some (ad 3 a)) (ry := some (ad 3 p)) (tgt := 46) C dX8_isStandingWillOf_13 (by decide) rfl (fun c13 => ?_) (fun c13 => ?_)
    · refine aw_iconst (v := 0) C dX8_isStandingWillOf_46 rfl rfl ?_
      exact aw_iret C (by decide) (Nat.le_of_ble_eq_true rfl) (Nat.le_of_ble_eq_true rfl) (PP.of (by simp [isW, b2i, e12, gb, c5, (show ¬ a = p from fun z => c13 ((hS.pj ha hp).mpr z))])) dX8_isStandingWillOf_47
    · refine aw_aload_n C dX8_isStandingWillOf_16 rfl rfl rfl ?_
      refine aw_getf C f_X8_209 (hS.D hd) rfl dX8_isStandingWillOf_17 rfl ?_
      rw [gb]
      refine aw_getf C f_X8_96 (hS.P hb) rfl dX8_isStandingWillOf_20 rfl ?_
      refine aw_if_eq (tgt := 46) C dX8_isStandingWillOf_23 (by decide) rfl (fun c23 => ?_) (fun c23 => ?_)
      · have c23 := fa_of c23
        refine aw_iconst (v := 0) C dX8_isStandingWillOf_46 rfl rfl ?_
        exact aw_iret C (by decide) (Nat.le_of_ble_eq_true rfl) (Nat.le_of_ble_eq_true rfl) (PP.of (by simp [isW, b2i, e12, gb, c5, (show a = p from (hS.pj ha hp).mp c13), c23])) dX8_isStandingWillOf_47
      · have c23 := tr_of c23
        refine aw_aload_n C dX8_isStandingWillOf_26 rfl rfl rfl ?_
        refine aw_getf C f_X8_221 (hS.D hd) rfl dX8_isStandingWillOf_27 rfl ?_
        refine aw_iconst (v := 1) C dX8_isStandingWillOf_30 rfl rfl ?_
        refine aw_icmp_eq (tgt := 42) C dX8_isStandingWillOf_31 (by decide) rfl (fun c31 => ?_) (fun c31 => ?_)
        · refine aw_iconst (v := 1) C dX8_isStandingWillOf_42 rfl rfl ?_
          refine aw_goto (tgt := 47) C dX8_isStandingWillOf_43 (by decide) ?_
          exact aw_iret C (by decide) (Nat.le_of_ble_eq_true rfl) (Nat.le_of_ble_eq_true rfl) (PP.of (by simp [isW, b2i, e12, gb, c5, (show a = p from (hS.pj ha hp).mp c13), c23, c31])) dX8_isStandingWillOf_47
        · refine aw_aload_n C dX8_isStandingWillOf_34 rfl rfl rfl ?_
          refine aw_getf C f_X8_221 (hS.D hd) rfl dX8_isStandingWillOf_35 rfl ?_
          refine aw_iconst (v := 2) C dX8_isStandingWillOf_38 rfl rfl ?_
          refine aw_icmp_ne (tgt := 46) C dX8_isStandingWillOf_39 (by decide) rfl (fun c39 => ?_) (fun c39 => ?_)
          · refine aw_iconst (v := 0) C dX8_isStandingWillOf_46 rfl rfl ?_
            exact aw_iret C (by decide) (Nat.le_of_ble_eq_true rfl) (Nat.le_of_ble_eq_true rfl) (PP.of (by simp [isW, b2i, e12, gb, c5, (show a = p from (hS.pj ha hp).mp c13), c23, c31, c39])) dX8_isStandingWillOf_47
          · refine aw_iconst (v := 1) C dX8_isStandingWillOf_42 rfl rfl ?_
            refine aw_goto (tgt := 47) C dX8_isStandingWillOf_43 (by decide) ?_
            exact aw_iret C (by decide) (Nat.le_of_ble_eq_true rfl) (Nat.le_of_ble_eq_true rfl) (PP.of (by simp [isW, b2i, e12, gb, c5, (show a = p from (hS.pj ha hp).mp c13), c23, c31, c39])) dX8_isStandingWillOf_47
theorem wBet_12 {u : MU} {d b : Nat} (hb : b < 2 ^ 30) (hd1 : u.1 22 d = 1 ∨ u.1 22 d = 2) (hb1 : u.1 22 b = 1 ∨ u.1 22 b = 2) : wBet u d (nI b) = if u.1 22 d = u.1 22 b then !decide (u.1 23 d ≤ u.1 23 b) else decide (u.1 22 d = 1) := by
  unfold wBet
  rw [decide_eq_false (nI_m1n hb), nI_clamp (by omega), Bool.false_or]
  rcases hd1 with e | e <;> rcases hb1 with e2 | e2 <;> rw [e, e2] <;> simp
set_option maxRecDepth 100000 in
theorem C_goesBefore {g : Gx} {l : Launch} {ez : Nat} (G : GOK g l ez) {sg : Sg} {ad : Nat → Nat → Nat} {u : MU} {Y : GS} (hS : CS g ez ad u Y sg) {N : Nat} (hI : CI N u) {d : Nat} (hd : d < u.2.2.1 10) {b : Nat} (hb : b < u.2.2.1 10) (hd1 : u.1 22 d = 1 ∨ u.1 22 d = 2) (hb1 : u.1 22 b = 1 ∨ u.1 22 b = 2) : MM g l yX8_goesBefore cX8_goesBefore 2 (some .boolean) (rmC 1 0 0) sg [.ref (ad 4 d), .ref (ad 4 b)] (PP sg (.int (b2i (wBet u d (nI b))))) (noX) := by
  refine MM.of G.1 G.2.1 (by decide) (Nat.le_of_ble_eq_true rfl) (fun x hg hlx C hin hout hargs => ?_)
  subst hg; subst hlx
  have C : AWC x cX8_goesBefore 2 RX8 (rmC 1 0 0) (some .boolean) := C
  show AW x (RQ x _ _ _ _) 0 0 sg 0 [(0, .ref (ad 4 d)), (1, .ref (ad 4 b))] []
  refine aw_aload_n C dX8_goesBefore_0 rfl rfl rfl ?_
  refine aw_getf C f_X8_221 (hS.D hd) rfl dX8_goesBefore_1 rfl ?_
  refine aw_aload_n C dX8_goesBefore_4 rfl rfl rfl ?_
  refine aw_getf C f_X8_221 (hS.D hb) rfl dX8_goesBefore_5 rfl ?_
  refine aw_icmp_eq (tgt := 25) C dX8_goesBefore_8 (by decide) rfl (fun c8 => ?_) (fun c8 => ?_)
  · refine aw_aload_n C dX8_goesBefore_25 rfl rfl rfl ?_
    refine aw_getf C f_X8_212 (hS.D hd) rfl dX8_goesBefore_26 rfl ?_
    refine aw_aload_n C dX8_goesBefore_29 rfl rfl rfl ?_
    refine aw_getf C f_X8_212 (hS.D hb) rfl dX8_goesBefore_30 rfl ?_
    refine aw_icmp_le (tgt := 40) C dX8_goesBefore_33 (by decide) rfl (fun c33 => ?_) (fun c33 => ?_)
    · refine aw_iconst (v := 0) C dX8_goesBefore_40 rfl rfl ?_
      exact aw_iret C (by decide) (Nat.le_of_ble_eq_true rfl) (Nat.le_of_ble_eq_true rfl) (PP.of (by rw [wBet_12 (by have := hI.n10; omega) hd1 hb1, if_pos c8]; simp [b2i, c33])) dX8_goesBefore_41
    · refine aw_iconst (v := 1) C dX8_goesBefore_36 rfl rfl ?_
      refine aw_goto (tgt := 41) C dX8_goesBefore_37 (by decide) ?_
      exact aw_iret C (by decide) (Nat.le_of_ble_eq_true rfl) (Nat.le_of_ble_eq_true rfl) (PP.of (by rw [wBet_12 (by have := hI.n10; omega) hd1 hb1, if_pos c8]; simp [b2i, c33])) dX8_goesBefore_41
  · refine aw_aload_n C dX8_goesBefore_11 rfl rfl rfl ?_
    refine aw_getf C f_X8_221 (hS.D hd) rfl dX8_goesBefore_12 rfl ?_
    refine aw_iconst (v := 1) C dX8_goesBefore_15 rfl rfl ?_
    refine aw_icmp_ne (tgt := 23) C dX8_goesBefore_16 (by decide) rfl (fun c16 => ?_) (fun c16 => ?_)
    · refine aw_iconst (v := 0) C dX8_goesBefore_23 rfl rfl ?_
      exact aw_iret C (by decide) (Nat.le_of_ble_eq_true rfl) (Nat.le_of_ble_eq_true rfl) (PP.of (by rw [wBet_12 (by have := hI.n10; omega) hd1 hb1, if_neg c8]; simp [b2i, c16])) dX8_goesBefore_24
    · refine aw_iconst (v := 1) C dX8_goesBefore_19 rfl rfl ?_
      refine aw_goto (tgt := 24) C dX8_goesBefore_20 (by decide) ?_
      exact aw_iret C (by decide) (Nat.le_of_ble_eq_true rfl) (Nat.le_of_ble_eq_true rfl) (PP.of (by rw [wBet_12 (by have := hI.n10; omega) hd1 hb1, if_neg c8]; simp [b2i, c16])) dX8_goesBefore_24
set_option maxRecDepth 100000 in
theorem C_countingWill {g : Gx} {l : Launch} {ez : Nat} (G : GOK g l ez) {sg : Sg} {ad : Nat → Nat → Nat} {u : MU} {Y : GS} (hS : CS g ez ad u Y sg) {N : Nat} (hI : CI N u) {p : Nat} (hp : p < u.2.2.1 2) : MM g l yX8_countingWill cX8_countingWill 5 (some (.object "DeedProtocol$Deed")) (rmC 4 0 0) sg [.ref (ad 0 0), .ref (ad 3 p)] (PP sg (va_rf (rfo (ad 4) (willN u p (u.2.2.1 10))))) (noX) := by
  refine MM.of G.1 G.2.1 (by decide) (Nat.le_of_ble_eq_true rfl) (fun x hg hlx C hin hout hargs => ?_)
  subst hg; subst hlx
  have C : AWC x cX8_countingWill 5 RX8 (rmC 4 0 0) (some (.object "DeedProtocol$Deed")) := C
  show AW x (RQ x _ _ _ _) 0 0 sg 0 [(0, .ref (ad 0 0)), (1, .ref (ad 3 p))] []
  have h60 := hI.n10
  have st : ∀ j, isW u p j = true → u.1 22 j = 1 ∨ u.1 22 j = 2 := fun j z => by
    simp only [isW, Bool.and_eq_true, Bool.or_eq_true, decide_eq_true_eq] at z
    exact z.2.2.1
  have loop : ∀ (r i : Nat), i + r = u.2.2.1 10 → AW x (RQ x (PP sg (va_rf (rfo (ad 4) (willN u p (u.2.2.1 10))))) noX (rmC 4 0 0).cells (rmC 4 0 0).slots) 0 0 sg 4 [(0, .ref (ad 0 0)), (1, .ref (ad 3 p)), (2, va_rf (rfo (ad 4) (willN u p i))), (3, .int (nI i))] [] := by
    intro r
    induction r with
    | zero =>
      intro i hi
      refine aw_iload_n C dX8_countingWill_4 rfl rfl rfl ?_
      refine aw_aload_n C dX8_countingWill_5 rfl rfl rfl ?_
      refine aw_getf C f_X8_19 hS.O rfl dX8_countingWill_6 rfl ?_
      refine cw_callVp C k_X8_50 (L_size G (n := u.2.2.1 10) (hS.L (i := 2) (by decide))) ⟨by decide, by decide⟩ (ci := 1) rfl (hS.L (i := 2) (by decide)) rfl rfl (Nat.le_of_ble_eq_true rfl) (Nat.le_of_ble_eq_true rfl) (Nat.le_of_ble_eq_true rfl) dX8_countingWill_9 rfl ?_
      refine aw_icmp_ge (tgt := 59) C dX8_countingWill_12 (by decide) rfl (fun c12 => ?_) (fun c12 => ?_)
      · refine aw_aload_nq C dX8_countingWill_59 rfl rfl rfl ?_
        exact aw_aret C (Or.inl ⟨_, rfl⟩) (Nat.le_of_ble_eq_true rfl) (Nat.le_of_ble_eq_true rfl) (PP.of (by rw [show i = u.2.2.1 10 by omega])) dX8_countingWill_60
      · exact absurd (by rw [nI_leI (by omega) (by omega)]; omega) c12
    | succ r ih =>
      intro i hi
      have hi1 : i < u.2.2.1 10 := by omega
      have hnx := ih (i + 1) (by omega)
      rcases willN_or (u := u) (p := p) i with ej | ⟨j, hj, ej, hwj⟩
      · rw [ej, rfo_m]
        refine aw_iload_n C dX8_countingWill_4 rfl rfl rfl ?_
        refine aw_aload_n C dX8_countingWill_5 rfl rfl rfl ?_
        refine aw_getf C f_X8_19 hS.O rfl dX8_countingWill_6 rfl ?_
        refine cw_callVp C k_X8_50 (L_size G (n := u.2.2.1 10) (hS.L (i := 2) (by decide))) ⟨by decide, by decide⟩ (ci := 1) rfl (hS.L (i := 2) (by decide)) rfl rfl (Nat.le_of_ble_eq_true rfl) (Nat.le_of_ble_eq_true rfl) (Nat.le_of_ble_eq_true rfl) dX8_countingWill_9 rfl ?_
        refine aw_icmp_ge (tgt := 59) C dX8_countingWill_12 (by decide) rfl (fun c12 => ?_) (fun c12 => ?_)
        · exact absurd c12 (fun z => by rw [nI_leI (by omega) (by omega)] at z; omega)
        · refine aw_aload_n C dX8_countingWill_15 rfl rfl rfl ?_
          refine aw_getf C f_X8_19 hS.O rfl dX8_countingWill_16 rfl ?_
          refine aw_iload_n C dX8_countingWill_19 rfl rfl rfl ?_
          refine cw_callVp C k_X8_355 (L_get G (hS.H (i := 2) (by decide)) hi1 (by show u.2.2.1 10 ≤ 109; omega)) ⟨by decide, by decide⟩ (ci := 1) rfl (hS.L (i := 2) (by decide)) rfl rfl (Nat.le_of_ble_eq_true rfl) (Nat.le_of_ble_eq_true rfl) (Nat.le_of_ble_eq_true rfl) dX8_countingWill_20 rfl ?_
          refine aw_cast C h_X8_137 (ci := 2) rfl (hS.D hi1) dX8_countingWill_23 rfl ?_
          refine aw_astore (ls' := [(4, _), (0, _), (1, _), (2, _), (3, _)]) C dX8_countingWill_26 (by decide) rfl rfl ?_
          refine aw_aload C dX8_countingWill_28 rfl rfl ?_
          refine aw_aload_n C dX8_countingWill_30 rfl rfl rfl ?_
          refine cw_callSp C k_X8_482 (C_isStanding G hS hI hi1 hp) ⟨by decide, by decide⟩ rfl rfl (Nat.le_of_ble_eq_true rfl) (Nat.le_of_ble_eq_true rfl) (Nat.le_of_ble_eq_true rfl) dX8_countingWill_31 rfl ?_
          refine aw_if_eq (tgt := 53) C dX8_countingWill_34 (by decide) rfl (fun c34 => ?_) (fun c34 => ?_)
          · have c34 := fa_of c34
            refine aw_iinc (v' := nI (i + 1)) (ls' := [(3, _), (4, _), (0, _), (1, _), (2, _)]) C dX8_countingWill_53 rfl (by decide) (nI_1 i) rfl rfl ?_
            refine aw_goto (tgt := 4) C dX8_countingWill_56 (by decide) ?_
            refine aw_pick (ls' := [(0, _), (1, _), (2, _), (3, _)]) [2, 3, 4, 0] rfl ?_
            rw [willN, if_neg (by rw [c34, Bool.false_and]; decide), ej, rfo_m] at hnx
            exact hnx
          · have c34 := tr_of c34
            refine aw_aload_nN C dX8_countingWill_37 rfl rfl rfl ?_
            refine aw_ifnull (r := none) (tgt := 50) C dX8_countingWill_38 (by decide) rfl (fun _ => ?_) (fun _ z => nomatch z)
            refine aw_aload C dX8_countingWill_50 rfl rfl ?_
            refine aw_astore_n (ls' := [(2, _), (4, _), (0, _), (1, _), (3, _)]) C dX8_countingWill_52 rfl (by decide) rfl rfl ?_
            refine aw_iinc (v' := nI (i + 1)) (ls' := [(3, _), (2, _), (4, _), (0, _), (1, _)]) C dX8_countingWill_53 rfl (by decide) (nI_1 i) rfl rfl ?_
            refine aw_goto (tgt := 4) C dX8_countingWill_56 (by decide) ?_
            refine aw_pick (ls' := [(0, _), (1, _), (2, _), (3, _)]) [3, 4, 1, 0] rfl ?_
            rw [willN, if_pos (by rw [c34, ej]; rfl), rfo_q (by omega)] at hnx
            exact hnx
      · rw [ej, rfo_q (by omega)]
        refine aw_iload_n C dX8_countingWill_4 rfl rfl rfl ?_
        refine aw_aload_n C dX8_countingWill_5 rfl rfl rfl ?_
        refine aw_getf C f_X8_19 hS.O rfl dX8_countingWill_6 rfl ?_
        refine cw_callVp C k_X8_50 (L_size G (n := u.2.2.1 10) (hS.L (i := 2) (by decide))) ⟨by decide, by decide⟩ (ci := 1) rfl (hS.L (i := 2) (by decide)) rfl rfl (Nat.le_of_ble_eq_true rfl) (Nat.le_of_ble_eq_true rfl) (Nat.le_of_ble_eq_true rfl) dX8_countingWill_9 rfl ?_
        refine aw_icmp_ge (tgt := 59) C dX8_countingWill_12 (by decide) rfl (fun c12 => ?_) (fun c12 => ?_)
        · exact absurd c12 (fun z => by rw [nI_leI (by omega) (by omega)] at z; omega)
        · refine aw_aload_n C dX8_countingWill_15 rfl rfl rfl ?_
          refine aw_getf C f_X8_19 hS.O rfl dX8_countingWill_16 rfl ?_
          refine aw_iload_n C dX8_countingWill_19 rfl rfl rfl ?_
          refine cw_callVp C k_X8_355 (L_get G (hS.H (i := 2) (by decide)) hi1 (by show u.2.2.1 10 ≤ 109; omega)) ⟨by decide, by decide⟩ (ci := 1) rfl (hS.L (i := 2) (by decide)) rfl rfl (Nat.le_of_ble_eq_true rfl) (Nat.le_of_ble_eq_true rfl) (Nat.le_of_ble_eq_true rfl) dX8_countingWill_20 rfl ?_
          refine aw_cast C h_X8_137 (ci := 2) rfl (hS.D hi1) dX8_countingWill_23 rfl ?_
          refine aw_astore (ls' := [(4, _), (0, _), (1, _), (2, _), (3, _)]) C dX8_countingWill_26 (by decide) rfl rfl ?_
          refine aw_aload C dX8_countingWill_28 rfl rfl ?_
          refine aw_aload_n C dX8_countingWill_30 rfl rfl rfl ?_
          refine cw_callSp C k_X8_482 (C_isStanding G hS hI hi1 hp) ⟨by decide, by decide⟩ rfl rfl (Nat.le_of_ble_eq_true rfl) (Nat.le_of_ble_eq_true rfl) (Nat.le_of_ble_eq_true rfl) dX8_countingWill_31 rfl ?_
          refine aw_if_eq (tgt := 53) C dX8_countingWill_34 (by decide) rfl (fun c34 => ?_) (fun c34 => ?_)
          · have c34 := fa_of c34
            refine aw_iinc (v' := nI (i + 1)) (ls' := [(3, _), (4, _), (0, _), (1, _), (2, _)]) C dX8_countingWill_53 rfl (by decide) (nI_1 i) rfl rfl ?_
            refine aw_goto (tgt := 4) C dX8_countingWill_56 (by decide) ?_
            refine aw_pick (ls' := [(0, _), (1, _), (2, _), (3, _)]) [2, 3, 4, 0] rfl ?_
            rw [willN, if_neg (by rw [c34, Bool.false_and]; decide), ej, rfo_q (by omega)] at hnx
            exact hnx
          · have c34 := tr_of c34
            refine aw_aload_n C dX8_countingWill_37 rfl rfl rfl ?_
            refine aw_ifnull (r := some _) (tgt := 50) C dX8_countingWill_38 (by decide) rfl (fun z => nomatch z) (fun _ _ => ?_)
            refine aw_aload C dX8_countingWill_41 rfl rfl ?_
            refine aw_aload_n C dX8_countingWill_43 rfl rfl rfl ?_
            refine cw_callSp C k_X8_485 (C_goesBefore G hS hI hi1 (b := j) (by omega) (st i c34) (st j hwj)) ⟨by decide, by decide⟩ rfl rfl (Nat.le_of_ble_eq_true rfl) (Nat.le_of_ble_eq_true rfl) (Nat.le_of_ble_eq_true rfl) dX8_countingWill_44 rfl ?_
            refine aw_if_eq (tgt := 53) C dX8_countingWill_47 (by decide) rfl (fun c47 => ?_) (fun c47 => ?_)
            · have c47 := fa_of c47
              refine aw_iinc (v' := nI (i + 1)) (ls' := [(3, _), (4, _), (0, _), (1, _), (2, _)]) C dX8_countingWill_53 rfl (by decide) (nI_1 i) rfl rfl ?_
              refine aw_goto (tgt := 4) C dX8_countingWill_56 (by decide) ?_
              refine aw_pick (ls' := [(0, _), (1, _), (2, _), (3, _)]) [2, 3, 4, 0] rfl ?_
              rw [willN, if_neg (by rw [c34, ej, c47]; decide), ej, rfo_q (by omega)] at hnx
              exact hnx
            · have c47 := tr_of c47
              refine aw_aload C dX8_countingWill_50 rfl rfl ?_
              refine aw_astore_n (ls' := [(2, _), (4, _), (0, _), (1, _), (3, _)]) C dX8_countingWill_52 rfl (by decide) rfl rfl ?_
              refine aw_iinc (v' := nI (i + 1)) (ls' := [(3, _), (2, _), (4, _), (0, _), (1, _)]) C dX8_countingWill_53 rfl (by decide) (nI_1 i) rfl rfl ?_
              refine aw_goto (tgt := 4) C dX8_countingWill_56 (by decide) ?_
              refine aw_pick (ls' := [(0, _), (1, _), (2, _), (3, _)]) [3, 4, 1, 0] rfl ?_
              rw [willN, if_pos (by rw [c34, ej, c47]; rfl), rfo_q (by omega)] at hnx
              exact hnx
  refine aw_null C dX8_countingWill_0 rfl ?_
  refine aw_astore_nN (ls' := [(2, _), (0, _), (1, _)]) C dX8_countingWill_1 rfl (by decide) rfl rfl ?_
  refine aw_iconst (v := 0) C dX8_countingWill_2 rfl rfl ?_
  refine aw_istore_n (ls' := [(3, _), (2, _), (0, _), (1, _)]) C dX8_countingWill_3 rfl (by decide) rfl rfl ?_
  refine aw_pick (ls' := [(0, _), (1, _), (2, _), (3, _)]) [2, 3, 1, 0] rfl ?_
  exact loop (u.2.2.1 10) 0 (by omega)
def hrM (u : MU) (p : Nat) : Nat := if lcN u p true (u.2.2.1 2) = 0 then (if lcN u p false (u.2.2.1 2) = 0 then 4096 else lcN u p false (u.2.2.1 2)) else lcN u p true (u.2.2.1 2)
theorem hrM_lt {u : MU} (h : u.2.2.1 2 ≤ 12) {p : Nat} : hrM u p < 8192 := by
  have h1 := lcN_lt (u := u) (p := p) (cb := true) h
  have h2 := lcN_lt (u := u) (p := p) (cb := false) h
  unfold hrM
  split
  · split <;> omega
  · omega
theorem nI_z {n : Nat} (h : n < 2 ^ 30) : (nI n = 0) = (n = 0) := propext (by rw [show (0 : Int32) = nI 0 from rfl]; exact nI_eq (by omega) (by decide))
set_option maxRecDepth 100000 in
theorem C_heirsOf {g : Gx} {l : Launch} {ez : Nat} (G : GOK g l ez) {sg : Sg} {ad : Nat → Nat → Nat} {u : MU} {Y : GS} (hS : CS g ez ad u Y sg) {N : Nat} (hI : CI N u) {p : Nat} (hp : p < u.2.2.1 2) : MM g l yX8_heirsOf cX8_heirsOf 4 (some .int) (rmC 5 0 0) sg [.ref (ad 0 0), .ref (ad 3 p), .int (nI (lcN u p true (u.2.2.1 2)))] (PP sg (.int (nI (hrM u p)))) (noX) := by
  refine MM.of G.1 G.2.1 (by decide) (Nat.le_of_ble_eq_true rfl) (fun x hg hlx C hin hout hargs => ?_)
  subst hg; subst hlx
  have C : AWC x cX8_heirsOf 4 RX8 (rmC 5 0 0) (some .int) := C
  show AW x (RQ x _ _ _ _) 0 0 sg 0 [(0, .ref (ad 0 0)), (1, .ref (ad 3 p)), (2, .int (nI (lcN u p true (u.2.2.1 2))))] []
  have h12 := hI.n2
  have b1 := lcN_lt (u := u) (p := p) (cb := true) h12
  have b2 := lcN_lt (u := u) (p := p) (cb := false) h12
  refine aw_iload_n C dX8_heirsOf_0 rfl rfl rfl ?_
  refine aw_if_eq (tgt := 6) C dX8_heirsOf_1 (by decide) rfl (fun c1 => ?_) (fun c1 => ?_)
  · refine aw_aload_n C dX8_heirsOf_6 rfl rfl rfl ?_
    refine aw_aload_n C dX8_heirsOf_7 rfl rfl rfl ?_
    refine cw_callVp C k_X8_479 (C_livingParents G hS hI hp) ⟨by decide, by decide⟩ (ci := 10) rfl hS.O rfl rfl (Nat.le_of_ble_eq_true rfl) (Nat.le_of_ble_eq_true rfl) (Nat.le_of_ble_eq_true rfl) dX8_heirsOf_8 rfl ?_
    refine aw_istore_n (ls' := [(3, _), (0, _), (1, _), (2, _)]) C dX8_heirsOf_11 rfl (by decide) rfl rfl ?_
    refine aw_iload_n C dX8_heirsOf_12 rfl rfl rfl ?_
    refine aw_if_eq (tgt := 20) C dX8_heirsOf_13 (by decide) rfl (fun c13 => ?_) (fun c13 => ?_)
    · refine aw_sipush (v := 4096) C dX8_heirsOf_20 rfl rfl ?_
      exact aw_iret C rfl (Nat.le_of_ble_eq_true rfl) (Nat.le_of_ble_eq_true rfl) (PP.of (by rw [nI_z (by omega)] at c1 c13; rw [hrM, if_pos c1, if_pos c13]; rfl)) dX8_heirsOf_23
    · refine aw_iload_n C dX8_heirsOf_16 rfl rfl rfl ?_
      refine aw_goto (tgt := 23) C dX8_heirsOf_17 (by decide) ?_
      exact aw_iret C rfl (Nat.le_of_ble_eq_true rfl) (Nat.le_of_ble_eq_true rfl) (PP.of (by rw [nI_z (by omega)] at c1 c13; rw [hrM, if_pos c1, if_neg c13])) dX8_heirsOf_23
  · refine aw_iload_n C dX8_heirsOf_4 rfl rfl rfl ?_
    exact aw_iret C rfl (Nat.le_of_ble_eq_true rfl) (Nat.le_of_ble_eq_true rfl) (PP.of (by rw [nI_z (by omega)] at c1; rw [hrM, if_neg c1])) dX8_heirsOf_5
