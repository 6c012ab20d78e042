/-! the class: powers, who signs -/
theorem goodEnd_2 {u : MU} {d : Nat} (h : u.1 22 d = 2) : goodEnd u d = (if u.1 24 d + 30 < u.1 17 d then u.1 24 d + 30 else u.1 17 d) := by
  unfold goodEnd
  by_cases c : u.1 24 d + 30 < u.1 17 d
  · rw [if_pos ⟨h, fun z => absurd c (Int32.not_lt.mpr z)⟩, if_pos c]
  · rw [if_neg (fun z => z.2 (Int32.not_lt.mp c)), if_neg c]
theorem goodEnd_n {u : MU} {d : Nat} (h : ¬ u.1 22 d = 2) : goodEnd u d = u.1 17 d := if_neg (fun z => h z.1)
set_option maxRecDepth 100000 in
theorem C_goodA {g : Gx} {l : Launch} {ez : Nat} (G : GOK g l ez) {sg : Sg} {ad : Nat → Nat → Nat} {u : MU} {Y : GS} (hS : CS g ez ad u Y sg) {N : Nat} (hI : CI N u) {d : Nat} (hd : d < u.2.2.1 10) (hk : u.1 11 d = 3) : MM g l yX8_isGoodByItself cX8_isGoodByItself 4 (some .boolean) (rmC 2 0 0) sg [.ref (ad 0 0), .ref (ad 4 d), .ref (ad 7 d)] (PP sg (.int (b2i (goodA u d)))) (noX) := by
  refine MM.of G.1 G.2.1 (by decide) (Nat.le_of_ble_eq_true rfl) (fun x hg hlx C hin hout hargs => ?_)
  subst hg; subst hlx
  have C : AWC x cX8_isGoodByItself 4 RX8 (rmC 2 0 0) (some .boolean) := C
  show AW x (RQ x _ _ _ _) 0 0 sg 0 [(0, .ref (ad 0 0)), (1, .ref (ad 4 d)), (2, .ref (ad 7 d))] []
  obtain ⟨⟨a, ha, ea⟩, b, hb, eb⟩ := hI.gt hd
  have h12 := hI.n2
  have ga : (u.1 12 d).toNatClampNeg = a := by rw [ea, nI_clamp (by omega)]
  have gb : (u.1 13 d).toNatClampNeg = b := by rw [eb, nI_clamp (by omega)]
  refine aw_aload_n C dX8_isGoodByItself_0 rfl rfl rfl ?_
  refine aw_getf C f_X8_437 (hS.M hd hk) rfl dX8_isGoodByItself_1 rfl ?_
  refine aw_istore_n (ls' := [(3, _), (0, _), (1, _), (2, _)]) C dX8_isGoodByItself_4 rfl (by decide) rfl rfl ?_
  refine aw_aload_n C dX8_isGoodByItself_5 rfl rfl rfl ?_
  refine aw_getf C f_X8_221 (hS.D hd) rfl dX8_isGoodByItself_6 rfl ?_
  refine aw_iconst (v := 2) C dX8_isGoodByItself_9 rfl rfl ?_
  refine aw_icmp_ne (tgt := 25) C dX8_isGoodByItself_10 (by decide) rfl (fun c10 => ?_) (fun c10 => ?_)
  · rw [← goodEnd_n c10]
    refine aw_aload_n C dX8_isGoodByItself_25 rfl rfl rfl ?_
    refine aw_getf C f_X8_221 (hS.D hd) rfl dX8_isGoodByItself_26 rfl ?_
    refine aw_iconst (v := 1) C dX8_isGoodByItself_29 rfl rfl ?_
    refine aw_icmp_eq (tgt := 41) C dX8_isGoodByItself_30 (by decide) rfl (fun c30 => ?_) (fun c30 => ?_)
    · refine aw_aload_n C dX8_isGoodByItself_41 rfl rfl rfl ?_
      refine aw_getf C f_X8_32 hS.O rfl dX8_isGoodByItself_42 rfl ?_
      refine aw_iload_n C dX8_isGoodByItself_45 rfl rfl rfl ?_
      refine aw_icmp_gt (tgt := 70) C dX8_isGoodByItself_46 (by decide) rfl (fun c46 => ?_) (fun c46 => ?_)
      · refine aw_iconst (v := 0) C dX8_isGoodByItself_70 rfl rfl ?_
        exact aw_iret C (by decide) (Nat.le_of_ble_eq_true rfl) (Nat.le_of_ble_eq_true rfl) (PP.of (by have h1 : (decide (u.1 22 d = 1) || decide (u.1 22 d = 2)) = true := (by rw [c30]; decide); rw [goodA, h1, decide_eq_true c46]; simp [b2i])) dX8_isGoodByItself_71
      · refine aw_aload_n C dX8_isGoodByItself_49 rfl rfl rfl ?_
        refine aw_getf C f_X8_274 (hS.M hd hk) rfl dX8_isGoodByItself_50 rfl ?_
        refine aw_if_ne (tgt := 70) C dX8_isGoodByItself_53 (by decide) rfl (fun c53 => ?_) (fun c53 => ?_)
        · refine aw_iconst (v := 0) C dX8_isGoodByItself_70 rfl rfl ?_
          exact aw_iret C (by decide) (Nat.le_of_ble_eq_true rfl) (Nat.le_of_ble_eq_true rfl) (PP.of (by have h1 : (decide (u.1 22 d = 1) || decide (u.1 22 d = 2)) = true := (by rw [c30]; decide); have h3 : ¬ u.1 26 d = 0 := (hI.rk d).resolve_left c53; rw [goodA, h1, decide_eq_false h3, decide_eq_false c53]; simp [b2i])) dX8_isGoodByItself_71
        · refine aw_aload_n C dX8_isGoodByItself_56 rfl rfl rfl ?_
          refine aw_getf C f_X8_206 (hS.D hd) rfl dX8_isGoodByItself_57 rfl ?_
          rw [ga]
          refine aw_getf C f_X8_96 (hS.P ha) rfl dX8_isGoodByItself_60 rfl ?_
          refine aw_if_eq (tgt := 70) C dX8_isGoodByItself_63 (by decide) rfl (fun c63 => ?_) (fun c63 => ?_)
          · have c63 := fa_of c63
            refine aw_iconst (v := 0) C dX8_isGoodByItself_70 rfl rfl ?_
            exact aw_iret C (by decide) (Nat.le_of_ble_eq_true rfl) (Nat.le_of_ble_eq_true rfl) (PP.of (by have h1 : (decide (u.1 22 d = 1) || decide (u.1 22 d = 2)) = true := (by rw [c30]; decide); rw [goodA, h1, decide_eq_false c46, decide_eq_true c53, ga, decide_eq_false (of_decide_eq_false c63), decide_eq_true hk]; simp [b2i])) dX8_isGoodByItself_71
          · have c63 := tr_of c63
            refine aw_iconst (v := 1) C dX8_isGoodByItself_66 rfl rfl ?_
            refine aw_goto (tgt := 71) C dX8_isGoodByItself_67 (by decide) ?_
            exact aw_iret C (by decide) (Nat.le_of_ble_eq_true rfl) (Nat.le_of_ble_eq_true rfl) (PP.of (by have h1 : (decide (u.1 22 d = 1) || decide (u.1 22 d = 2)) = true := (by rw [c30]; decide); rw [goodA, h1, decide_eq_false c46, decide_eq_true c53, ga, decide_eq_true (of_decide_eq_true c63), decide_eq_true hk]; simp [b2i])) dX8_isGoodByItself_71
    · refine aw_aload_n C dX8_isGoodByItself_33 rfl rfl rfl ?_
      refine aw_getf C f_X8_221 (hS.D hd) rfl dX8_isGoodByItself_34 rfl ?_
      refine aw_iconst (v := 2) C dX8_isGoodByItself_37 rfl rfl ?_
      refine aw_icmp_ne (tgt := 70) C dX8_isGoodByItself_38 (by decide) rfl (fun c38 => ?_) (fun c38 => ?_)
      · refine aw_iconst (v := 0) C dX8_isGoodByItself_70 rfl rfl ?_
        exact aw_iret C (by decide) (Nat.le_of_ble_eq_true rfl) (Nat.le_of_ble_eq_true rfl) (PP.of (by rw [goodA, decide_eq_false c30, decide_eq_false c38, Bool.or_false, Bool.false_and, Bool.and_false]; rfl)) dX8_isGoodByItself_71
      · refine aw_aload_n C dX8_isGoodByItself_41 rfl rfl rfl ?_
        refine aw_getf C f_X8_32 hS.O rfl dX8_isGoodByItself_42 rfl ?_
        refine aw_iload_n C dX8_isGoodByItself_45 rfl rfl rfl ?_
        refine aw_icmp_gt (tgt := 70) C dX8_isGoodByItself_46 (by decide) rfl (fun c46 => ?_) (fun c46 => ?_)
        · refine aw_iconst (v := 0) C dX8_isGoodByItself_70 rfl rfl ?_
          exact aw_iret C (by decide) (Nat.le_of_ble_eq_true rfl) (Nat.le_of_ble_eq_true rfl) (absurd c38 c10) dX8_isGoodByItself_71
        · refine aw_aload_n C dX8_isGoodByItself_49 rfl rfl rfl ?_
          refine aw_getf C f_X8_274 (hS.M hd hk) rfl dX8_isGoodByItself_50 rfl ?_
          refine aw_if_ne (tgt := 70) C dX8_isGoodByItself_53 (by decide) rfl (fun c53 => ?_) (fun c53 => ?_)
          · refine aw_iconst (v := 0) C dX8_isGoodByItself_70 rfl rfl ?_
            exact aw_iret C (by decide) (Nat.le_of_ble_eq_true rfl) (Nat.le_of_ble_eq_true rfl) (absurd c38 c10) dX8_isGoodByItself_71
          · refine aw_aload_n C dX8_isGoodByItself_56 rfl rfl rfl ?_
            refine aw_getf C f_X8_206 (hS.D hd) rfl dX8_isGoodByItself_57 rfl ?_
            rw [ga]
            refine aw_getf C f_X8_96 (hS.P ha) rfl dX8_isGoodByItself_60 rfl ?_
            refine aw_if_eq (tgt := 70) C dX8_isGoodByItself_63 (by decide) rfl (fun c63 => ?_) (fun c63 => ?_)
            · have c63 := fa_of c63
              refine aw_iconst (v := 0) C dX8_isGoodByItself_70 rfl rfl ?_
              exact aw_iret C (by decide) (Nat.le_of_ble_eq_true rfl) (Nat.le_of_ble_eq_true rfl) (absurd c38 c10) dX8_isGoodByItself_71
            · have c63 := tr_of c63
              refine aw_iconst (v := 1) C dX8_isGoodByItself_66 rfl rfl ?_
              refine aw_goto (tgt := 71) C dX8_isGoodByItself_67 (by decide) ?_
              exact aw_iret C (by decide) (Nat.le_of_ble_eq_true rfl) (Nat.le_of_ble_eq_true rfl) (absurd c38 c10) dX8_isGoodByItself_71
  · refine aw_iload_n C dX8_isGoodByItself_13 rfl rfl rfl ?_
    refine aw_aload_n C dX8_isGoodByItself_14 rfl rfl rfl ?_
    refine aw_getf C f_X8_215 (hS.D hd) rfl dX8_isGoodByItself_15 rfl ?_
    refine aw_bipush (v := 30) C dX8_isGoodByItself_18 rfl rfl ?_
    refine aw_iadd C dX8_isGoodByItself_20 rfl ?_
    refine aw_min C (ws_of 620 (by decide +kernel)) (Nat.le_of_ble_eq_true rfl) (Nat.le_of_ble_eq_true rfl) (Nat.le_of_ble_eq_true rfl) (Nat.le_of_ble_eq_true rfl) dX8_isGoodByItself_21 rfl ?_
    rw [← goodEnd_2 c10]
    refine aw_istore_n (ls' := [(3, _), (0, _), (1, _), (2, _)]) C dX8_isGoodByItself_24 rfl (by decide) rfl rfl ?_
    refine aw_aload_n C dX8_isGoodByItself_25 rfl rfl rfl ?_
    refine aw_getf C f_X8_221 (hS.D hd) rfl dX8_isGoodByItself_26 rfl ?_
    refine aw_iconst (v := 1) C dX8_isGoodByItself_29 rfl rfl ?_
    refine aw_icmp_eq (tgt := 41) C dX8_isGoodByItself_30 (by decide) rfl (fun c30 => ?_) (fun c30 => ?_)
    · refine aw_aload_n C dX8_isGoodByItself_41 rfl rfl rfl ?_
      refine aw_getf C f_X8_32 hS.O rfl dX8_isGoodByItself_42 rfl ?_
      refine aw_iload_n C dX8_isGoodByItself_45 rfl rfl rfl ?_
      refine aw_icmp_gt (tgt := 70) C dX8_isGoodByItself_46 (by decide) rfl (fun c46 => ?_) (fun c46 => ?_)
      · refine aw_iconst (v := 0) C dX8_isGoodByItself_70 rfl rfl ?_
        exact aw_iret C (by decide) (Nat.le_of_ble_eq_true rfl) (Nat.le_of_ble_eq_true rfl) (absurd (c10.symm.trans c30) (by decide)) dX8_isGoodByItself_71
      · refine aw_aload_n C dX8_isGoodByItself_49 rfl rfl rfl ?_
        refine aw_getf C f_X8_274 (hS.M hd hk) rfl dX8_isGoodByItself_50 rfl ?_
        refine aw_if_ne (tgt := 70) C dX8_isGoodByItself_53 (by decide) rfl (fun c53 => ?_) (fun c53 => ?_)
        · refine aw_iconst (v := 0) C dX8_isGoodByItself_70 rfl rfl ?_
          exact aw_iret C (by decide) (Nat.le_of_ble_eq_true rfl) (Nat.le_of_ble_eq_true rfl) (absurd (c10.symm.trans c30) (by decide)) dX8_isGoodByItself_71
        · refine aw_aload_n C dX8_isGoodByItself_56 rfl rfl rfl ?_
          refine aw_getf C f_X8_206 (hS.D hd) rfl dX8_isGoodByItself_57 rfl ?_
          rw [ga]
          refine aw_getf C f_X8_96 (hS.P ha) rfl dX8_isGoodByItself_60 rfl ?_
          refine aw_if_eq (tgt := 70) C dX8_isGoodByItself_63 (by decide) rfl (fun c63 => ?_) (fun c63 => ?_)
          · have c63 := fa_of c63
            refine aw_iconst (v := 0) C dX8_isGoodByItself_70 rfl rfl ?_
            exact aw_iret C (by decide) (Nat.le_of_ble_eq_true rfl) (Nat.le_of_ble_eq_true rfl) (absurd (c10.symm.trans c30) (by decide)) dX8_isGoodByItself_71
          · have c63 := tr_of c63
            refine aw_iconst (v := 1) C dX8_isGoodByItself_66 rfl rfl ?_
            refine aw_goto (tgt := 71) C dX8_isGoodByItself_67 (by decide) ?_
            exact aw_iret C (by decide) (Nat.le_of_ble_eq_true rfl) (Nat.le_of_ble_eq_true rfl) (absurd (c10.symm.trans c30) (by decide)) dX8_isGoodByItself_71
    · refine aw_aload_n C dX8_isGoodByItself_33 rfl rfl rfl ?_
      refine aw_getf C f_X8_221 (hS.D hd) rfl dX8_isGoodByItself_34 rfl ?_
      refine aw_iconst (v := 2) C dX8_isGoodByItself_37 rfl rfl ?_
      refine aw_icmp_ne (tgt := 70) C dX8_isGoodByItself_38 (by decide) rfl (fun c38 => ?_) (fun c38 => ?_)
      · refine aw_iconst (v := 0) C dX8_isGoodByItself_70 rfl rfl ?_
        exact aw_iret C (by decide) (Nat.le_of_ble_eq_true rfl) (Nat.le_of_ble_eq_true rfl) (absurd c10 c38) dX8_isGoodByItself_71
      · refine aw_aload_n C dX8_isGoodByItself_41 rfl rfl rfl ?_
        refine aw_getf C f_X8_32 hS.O rfl dX8_isGoodByItself_42 rfl ?_
        refine aw_iload_n C dX8_isGoodByItself_45 rfl rfl rfl ?_
        refine aw_icmp_gt (tgt := 70) C dX8_isGoodByItself_46 (by decide) rfl (fun c46 => ?_) (fun c46 => ?_)
        · refine aw_iconst (v := 0) C dX8_isGoodByItself_70 rfl rfl ?_
          exact aw_iret C (by decide) (Nat.le_of_ble_eq_true rfl) (Nat.le_of_ble_eq_true rfl) (PP.of (by have h1 : (decide (u.1 22 d = 1) || decide (u.1 22 d = 2)) = true := (by rw [c38]; decide); rw [goodA, h1, decide_eq_true c46]; simp [b2i])) dX8_isGoodByItself_71
        · refine aw_aload_n C dX8_isGoodByItself_49 rfl rfl rfl ?_
          refine aw_getf C f_X8_274 (hS.M hd hk) rfl dX8_isGoodByItself_50 rfl ?_
          refine aw_if_ne (tgt := 70) C dX8_isGoodByItself_53 (by decide) rfl (fun c53 => ?_) (fun c53 => ?_)
          · refine aw_iconst (v := 0) C dX8_isGoodByItself_70 rfl rfl ?_
            exact aw_iret C (by decide) (Nat.le_of_ble_eq_true rfl) (Nat.le_of_ble_eq_true rfl) (PP.of (by have h1 : (decide (u.1 22 d = 1) || decide (u.1 22 d = 2)) = true := (by rw [c38]; decide); have h3 : ¬ u.1 26 d = 0 := (hI.rk d).resolve_left c53; rw [goodA, h1, decide_eq_false h3, decide_eq_false c53]; simp [b2i])) dX8_isGoodByItself_71
          · refine aw_aload_n C dX8_isGoodByItself_56 rfl rfl rfl ?_
            refine aw_getf C f_X8_206 (hS.D hd) rfl dX8_isGoodByItself_57 rfl ?_
            rw [ga]
            refine aw_getf C f_X8_96 (hS.P ha) rfl dX8_isGoodByItself_60 rfl ?_
            refine aw_if_eq (tgt := 70) C dX8_isGoodByItself_63 (by decide) rfl (fun c63 => ?_) (fun c63 => ?_)
            · have c63 := fa_of c63
              refine aw_iconst (v := 0) C dX8_isGoodByItself_70 rfl rfl ?_
              exact aw_iret C (by decide) (Nat.le_of_ble_eq_true rfl) (Nat.le_of_ble_eq_true rfl) (PP.of (by have h1 : (decide (u.1 22 d = 1) || decide (u.1 22 d = 2)) = true := (by rw [c38]; decide); rw [goodA, h1, decide_eq_false c46, decide_eq_true c53, ga, decide_eq_false (of_decide_eq_false c63), decide_eq_true hk]; simp [b2i])) dX8_isGoodByItself_71
            · have c63 := tr_of c63
              refine aw_iconst (v := 1) C dX8_isGoodByItself_66 rfl rfl ?_
              refine aw_goto (tgt := 71) C dX8_isGoodByItself_67 (by decide) ?_
              exact aw_iret C (by decide) (Nat.le_of_ble_eq_true rfl) (Nat.le_of_ble_eq_true rfl) (PP.of (by have h1 : (decide (u.1 22 d = 1) || decide (u.1 22 d = 2)) = true := (by rw [c38]; decide); rw [goodA, h1, decide_eq_false c46, decide_eq_true c53, ga, decide_eq_true (of_decide_eq_true c63), decide_eq_true hk]; simp [b2i])) dX8_isGoodByItself_71
set_option maxRecDepth 100000 in
theorem C_good {g : Gx} {l : Launch} {ez : Nat} (G : GOK g l ez) {sg : Sg} {ad : Nat → Nat → Nat} {u : MU} {Y : GS} (hS : CS g ez ad u Y sg) {N : Nat} (hI : CI N u) {d : Nat} (hd : d < u.2.2.1 10) : MM g l yX8_isGoodPower cX8_isGoodPower 5 (some .boolean) (rmC 3 0 0) sg [.ref (ad 0 0), .ref (ad 4 d)] (PP sg (.int (b2i (good u d)))) (noX) := by
  refine MM.of G.1 G.2.1 (by decide) (Nat.le_of_ble_eq_true rfl) (fun x hg hlx C hin hout hargs => ?_)
  subst hg; subst hlx
  have C : AWC x cX8_isGoodPower 5 RX8 (rmC 3 0 0) (some .boolean) := C
  show AW x (RQ x _ _ _ _) 0 0 sg 0 [(0, .ref (ad 0 0)), (1, .ref (ad 4 d))] []
  have h10 := hI.n10
  have goodA3 : ∀ k, goodA u k = true → u.1 11 k = 3 ∧ ¬ u.1 22 k = 0 := fun k h => by
    simp only [goodA, Bool.and_eq_true, Bool.or_eq_true, decide_eq_true_eq] at h
    refine ⟨h.1, fun z => ?_⟩
    rcases h.2.1 with h2 | h2
    · rw [z] at h2; exact absurd h2 (by decide)
    · rw [z] at h2; exact absurd h2 (by decide)
  have gC0 : ∀ n k, goodC u (n + 1) k false = false := fun n k => by rw [goodC, if_pos rfl]
  have loop : ∀ (r i k : Nat), i + r = 60 → k < u.2.2.1 10 → nm u k + i ≤ 60 → (0 < i → ¬ u.1 22 k = 0) → goodC u (61 - i) k (goodA u k) = good u d → AW x (RQ x (PP sg (.int (b2i (good u d)))) noX (rmC 3 0 0).cells (rmC 3 0 0).slots) 0 0 sg 4 [(0, .ref (ad 0 0)), (1, .ref (ad 4 d)), (2, .ref (ad 4 k)), (3, .int (nI i))] [] := by
    intro r
    induction r with
    | zero =>
      intro i k hi hk10 hnm h22 hg
      obtain rfl : i = 60 := by omega
      have := hI.cl (d := k) (by omega) (h22 (by omega))
      omega
    | succ r ih =>
      intro i k hi hk10 hnm h22 hg
      rw [show 61 - i = (60 - i) + 1 by omega] at hg
      by_cases hk : u.1 11 k = 3
      · have hso := hI.so hk10
        have e7 : va_rf (if u.1 11 k = 3 then some (ad 7 k) else none) = .ref (ad 7 k) := by rw [if_pos hk]; rfl
        refine aw_iload_n C dX8_isGoodPower_4 rfl rfl rfl ?_
        refine aw_bipush (v := 60) C dX8_isGoodPower_5 rfl rfl ?_
        refine aw_icmp_ge (tgt := 77) C dX8_isGoodPower_7 (by decide) rfl (fun c7 => ?_) (fun c7 => ?_)
        · exact absurd c7 (fun h => absurd ((nI_leI (a := 60) (b := i) (by decide) (by omega)).mp h) (by omega))
        · refine aw_aload_n C dX8_isGoodPower_10 rfl rfl rfl ?_
          refine aw_getf C f_X8_153 (hS.D hk10) rfl dX8_isGoodPower_11 rfl ?_
          rw [if_pos hk]
          refine aw_ifnull (r := some _) (tgt := 29) C dX8_isGoodPower_14 (by decide) rfl (fun z => nomatch z) (fun _ _ => ?_)
          refine aw_aload_n C dX8_isGoodPower_17 rfl rfl rfl ?_
          refine aw_aload_n C dX8_isGoodPower_18 rfl rfl rfl ?_
          refine aw_aload_n C dX8_isGoodPower_19 rfl rfl rfl ?_
          refine aw_getf C f_X8_153 (hS.D hk10) rfl dX8_isGoodPower_20 rfl ?_
          rw [if_pos hk]
          refine cw_callVp C k_X8_430 (C_goodA G hS hI hk10 hk) ⟨by decide, by decide⟩ (ci := 10) rfl hS.O rfl rfl (Nat.le_of_ble_eq_true rfl) (Nat.le_of_ble_eq_true rfl) (Nat.le_of_ble_eq_true rfl) dX8_isGoodPower_23 rfl ?_
          refine aw_if_ne (tgt := 31) C dX8_isGoodPower_26 (by decide) rfl (fun c26 => ?_) (fun c26 => ?_)
          · have c26 := tr_of c26
            refine aw_aload_n C dX8_isGoodPower_31 rfl rfl rfl ?_
            refine aw_getf C f_X8_153 (hS.D hk10) rfl dX8_isGoodPower_32 rfl ?_
            rw [if_pos hk]
            refine aw_getf C f_X8_178 (hS.M hk10 hk) rfl dX8_isGoodPower_35 rfl ?_
            refine aw_astoreq (ls' := [(4, _), (0, _), (1, _), (2, _), (3, _)]) C dX8_isGoodPower_38 (by decide) rfl rfl ?_
            obtain ⟨g1, g2⟩ := goodA3 k c26
            rcases hso with hz | ⟨b, hb, hz⟩
            · rw [hz, rfo_m]
              refine aw_aloadN C dX8_isGoodPower_40 rfl rfl ?_
              refine aw_ifnonnull (r := none) (tgt := 47) C dX8_isGoodPower_42 (by decide) rfl (fun _ z => nomatch z) (fun _ => ?_)
              refine aw_iconst (v := 1) C dX8_isGoodPower_45 rfl rfl ?_
              exact aw_iret C (by decide) (Nat.le_of_ble_eq_true rfl) (Nat.le_of_ble_eq_true rfl) (PP.of (by rw [← hg, goodC, c26, if_neg (by decide), if_pos hz]; rfl)) dX8_isGoodPower_46
            · have hb0 : ¬ u.1 19 k = -1 := fun z => by
                rw [hz] at z
                have := congrArg Int32.toInt z
                rw [nI_toInt (by omega)] at this
                have h2 : (-1 : Int32).toInt = -1 := by decide
                omega
              rw [rfo_e hb0, hz, nI_clamp (by omega)]
              have hlt : nm u b < nm u k := by
                rcases (hI.I.B k (by omega)).2 with q | ⟨b2, hb2, eb2, hl⟩
                · exact absurd q hb0
                · rw [hz, nI_eq (by omega) (by omega)] at eb2
                  rw [eb2]; exact hl g2
              have h22b : ¬ u.1 22 b = 0 := (hI.I.C k (by omega)).2.2 hk10 b (by omega) hz
              rw [goodC, c26, if_neg (by decide), if_neg hb0, hz, nI_clamp (by omega)] at hg
              rw [show 60 - i = (59 - i) + 1 by omega] at hg
              by_cases hkb : u.1 11 b = 3
              · refine aw_aload C dX8_isGoodPower_40 rfl rfl ?_
                refine aw_ifnonnull (r := some _) (tgt := 47) C dX8_isGoodPower_42 (by decide) rfl (fun _ _ => ?_) (fun z => nomatch z)
                refine aw_aload C dX8_isGoodPower_47 rfl rfl ?_
                refine aw_getf C f_X8_153 (hS.D hb) rfl dX8_isGoodPower_49 rfl ?_
                rw [if_pos hkb]
                refine aw_ifnull (r := some _) (tgt := 66) C dX8_isGoodPower_52 (by decide) rfl (fun z => nomatch z) (fun _ _ => ?_)
                refine aw_aload C dX8_isGoodPower_55 rfl rfl ?_
                refine aw_getf C f_X8_153 (hS.D hb) rfl dX8_isGoodPower_57 rfl ?_
                rw [if_pos hkb]
                refine aw_getf C f_X8_434 (hS.M hb hkb) rfl dX8_isGoodPower_60 rfl ?_
                refine aw_if_ne (tgt := 68) C dX8_isGoodPower_63 (by decide) rfl (fun c63 => ?_) (fun c63 => ?_)
                · refine aw_aload C dX8_isGoodPower_68 rfl rfl ?_
                  refine aw_astore_n (ls' := [(2, _), (4, _), (0, _), (1, _), (3, _)]) C dX8_isGoodPower_70 rfl (by decide) rfl rfl ?_
                  refine aw_iinc (v' := nI (i + 1)) (ls' := [(3, _), (2, _), (4, _), (0, _), (1, _)]) C dX8_isGoodPower_71 rfl (by decide) (nI_1 i) rfl rfl ?_
                  refine aw_goto (tgt := 4) C dX8_isGoodPower_74 (by decide) ?_
                  refine aw_pick (ls' := [(0, _), (1, _), (2, _), (3, _)]) [3, 4, 1, 0] rfl ?_
                  exact ih (i + 1) b (by omega) hb (by omega) (fun _ => h22b) (by rw [show 61 - (i + 1) = (59 - i) + 1 by omega, ← hg, decide_eq_false c63, Bool.not_false, Bool.and_true])
                · refine aw_iconst (v := 0) C dX8_isGoodPower_66 rfl rfl ?_
                  exact aw_iret C (by decide) (Nat.le_of_ble_eq_true rfl) (Nat.le_of_ble_eq_true rfl) (PP.of (by rw [← hg, decide_eq_true c63, Bool.not_true, Bool.and_false, gC0]; rfl)) dX8_isGoodPower_67
              · refine aw_aload C dX8_isGoodPower_40 rfl rfl ?_
                refine aw_ifnonnull (r := some _) (tgt := 47) C dX8_isGoodPower_42 (by decide) rfl (fun _ _ => ?_) (fun z => nomatch z)
                refine aw_aload C dX8_isGoodPower_47 rfl rfl ?_
                refine aw_getf C f_X8_153 (hS.D hb) rfl dX8_isGoodPower_49 rfl ?_
                rw [if_neg hkb]
                refine aw_ifnull (r := none) (tgt := 66) C dX8_isGoodPower_52 (by decide) rfl (fun _ => ?_) (fun _ z => nomatch z)
                refine aw_iconst (v := 0) C dX8_isGoodPower_66 rfl rfl ?_
                exact aw_iret C (by decide) (Nat.le_of_ble_eq_true rfl) (Nat.le_of_ble_eq_true rfl) (PP.of (by rw [← hg, show goodA u b = false from Bool.eq_false_iff.mpr (fun z => hkb (goodA3 b z).1), Bool.false_and, gC0]; rfl)) dX8_isGoodPower_67
          · have c26 := fa_of c26
            refine aw_iconst (v := 0) C dX8_isGoodPower_29 rfl rfl ?_
            exact aw_iret C (by decide) (Nat.le_of_ble_eq_true rfl) (Nat.le_of_ble_eq_true rfl) (PP.of (by rw [← hg, c26, gC0]; rfl)) dX8_isGoodPower_30
      · have hgf : goodA u k = false := Bool.eq_false_iff.mpr (fun z => hk (goodA3 k z).1)
        rw [hgf, gC0] at hg
        refine aw_iload_n C dX8_isGoodPower_4 rfl rfl rfl ?_
        refine aw_bipush (v := 60) C dX8_isGoodPower_5 rfl rfl ?_
        refine aw_icmp_ge (tgt := 77) C dX8_isGoodPower_7 (by decide) rfl (fun c7 => ?_) (fun c7 => ?_)
        · exact absurd c7 (fun h => absurd ((nI_leI (a := 60) (b := i) (by decide) (by omega)).mp h) (by omega))
        · refine aw_aload_n C dX8_isGoodPower_10 rfl rfl rfl ?_
          refine aw_getf C f_X8_153 (hS.D hk10) rfl dX8_isGoodPower_11 rfl ?_
          rw [if_neg hk]
          refine aw_ifnull (r := none) (tgt := 29) C dX8_isGoodPower_14 (by decide) rfl (fun _ => ?_) (fun _ z => nomatch z)
          refine aw_iconst (v := 0) C dX8_isGoodPower_29 rfl rfl ?_
          exact aw_iret C (by decide) (Nat.le_of_ble_eq_true rfl) (Nat.le_of_ble_eq_true rfl) (PP.of (by rw [← hg]; rfl)) dX8_isGoodPower_30
  refine aw_aload_n C dX8_isGoodPower_0 rfl rfl rfl ?_
  refine aw_astore_n (ls' := [(2, _), (0, _), (1, _)]) C dX8_isGoodPower_1 rfl (by decide) rfl rfl ?_
  refine aw_iconst (v := 0) C dX8_isGoodPower_2 rfl rfl ?_
  refine aw_istore_n (ls' := [(3, _), (2, _), (0, _), (1, _)]) C dX8_isGoodPower_3 rfl (by decide) rfl rfl ?_
  refine aw_pick (ls' := [(0, _), (1, _), (2, _), (3, _)]) [2, 3, 1, 0] rfl ?_
  exact loop 60 0 d rfl hd (by have := (hI.I.B d (by omega)).1; omega) (fun h => absurd h (Nat.lt_irrefl 0)) rfl
