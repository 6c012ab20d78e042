set_option maxRecDepth 100000 in
theorem M_comes {g : Gx} {l : Launch} (hl : l.flags = flags0) (hst : g.Stable) {ad : Nat → Nat} {th : Int32} {u : MU} {sg : Sg} (hM : MS g ad th u sg) {s a b : Int32} (hd : u.2.2.1 35 < 100) : MM g l yX9_comes cX9_comes 4 (some .int) (rmM 1) sg [.ref (ad 0), .int s, .int a, .int b] (PU g ad sg th (some (.int (nI (u.2.2.1 35)))) (upComes u s a b)) noX := by
  refine MM.of hl hst (by decide) (Nat.le_of_ble_eq_true rfl) (fun x hg hlx C hin hout hargs => ?_)
  subst hg; subst hlx
  have C : AWC x cX9_comes 4 RX9 (rmM 1) (some .int) := C
  have hF : MF ad sg sg := MF.rf
  show AW x (RQ x _ _ _ _) 0 0 sg 0 [(0, .ref (ad 0)), (1, .int s), (2, .int a), (3, .int b)] []
  refine aw_aload_n C dX9_comes_0 rfl rfl rfl ?_
  refine aw_getf C f_X9_99 hM.1 rfl dX9_comes_1 rfl ?_
  refine aw_aload_n C dX9_comes_4 rfl rfl rfl ?_
  refine aw_getf C f_X9_201 hM.1 rfl dX9_comes_5 rfl ?_
  refine aw_iload_n C dX9_comes_8 rfl rfl rfl ?_
  refine mw_iast (k := 36) (N := 100) C hM hF rfl rfl (i := u.2.2.1 35) rfl hd dX9_comes_9 rfl (fun sg hM hF => ?_)
  refine aw_aload_n C dX9_comes_10 rfl rfl rfl ?_
  refine aw_getf C f_X9_102 hM.1 rfl dX9_comes_11 rfl ?_
  refine aw_aload_n C dX9_comes_14 rfl rfl rfl ?_
  refine aw_getf C f_X9_201 hM.1 rfl dX9_comes_15 rfl ?_
  refine aw_iload_n C dX9_comes_18 rfl rfl rfl ?_
  refine mw_iast (k := 37) (N := 100) C hM hF rfl rfl (i := u.2.2.1 35) rfl hd dX9_comes_19 rfl (fun sg hM hF => ?_)
  refine aw_aload_n C dX9_comes_20 rfl rfl rfl ?_
  refine aw_getf C f_X9_105 hM.1 rfl dX9_comes_21 rfl ?_
  refine aw_aload_n C dX9_comes_24 rfl rfl rfl ?_
  refine aw_getf C f_X9_201 hM.1 rfl dX9_comes_25 rfl ?_
  refine aw_iload_n C dX9_comes_28 rfl rfl rfl ?_
  refine mw_iast (k := 38) (N := 100) C hM hF rfl rfl (i := u.2.2.1 35) rfl hd dX9_comes_29 rfl (fun sg hM hF => ?_)
  refine aw_aload_n C dX9_comes_30 rfl rfl rfl ?_
  refine aw_getf C f_X9_108 hM.1 rfl dX9_comes_31 rfl ?_
  refine aw_aload_n C dX9_comes_34 rfl rfl rfl ?_
  refine aw_getf C f_X9_201 hM.1 rfl dX9_comes_35 rfl ?_
  refine aw_aload_n C dX9_comes_38 rfl rfl rfl ?_
  refine aw_getf C f_X9_134 hM.1 rfl dX9_comes_39 rfl ?_
  refine mw_iast (k := 39) (N := 100) C hM hF rfl rfl (i := u.2.2.1 35) (v := u.2.2.2.1) rfl hd dX9_comes_42 rfl (fun sg hM hF => ?_)
  refine aw_aload_n C dX9_comes_43 rfl rfl rfl ?_
  refine aw_dup C dX9_comes_44 rfl rfl ?_
  refine aw_getf C f_X9_201 hM.1 rfl dX9_comes_45 rfl ?_
  refine aw_iconst (v := 1) C dX9_comes_48 rfl rfl ?_
  refine aw_iadd C dX9_comes_49 rfl ?_
  refine mw_put (th' := _) (u' := uN _ 35 (u.2.2.1 35 + 1)) C hM hF f_X9_201 rfl rfl rfl (by rw [nI_1]; rfl) rfl rfl dX9_comes_50 rfl (fun sg hM hF => ?_)
  refine aw_aload_n C dX9_comes_53 rfl rfl rfl ?_
  refine aw_getf C f_X9_201 hM.1 rfl dX9_comes_54 rfl ?_
  refine aw_iconst (v := 1) C dX9_comes_57 rfl rfl ?_
  refine aw_isub C dX9_comes_58 rfl ?_
  exact aw_iret C rfl (Nat.le_refl _) (Nat.le_refl _) (PU.of (congrArg (fun z => some (Value.int z)) (nI_pred _)) hM hF) dX9_comes_59
set_option maxRecDepth 100000 in
theorem M_laysNew {g : Gx} {l : Launch} (hl : l.flags = flags0) (hst : g.Stable) {ad : Nat → Nat} {th : Int32} {u : MU} {sg : Sg} (hM : MS g ad th u sg) : MM g l yX9_laysNew cX9_laysNew 2 none (rmM 1) sg [.ref (ad 0)] (PU g ad sg th none (lay u)) noX := by
  refine MM.of hl hst (by decide) (Nat.le_of_ble_eq_true rfl) (fun x hg hlx C hin hout hargs => ?_)
  subst hg; subst hlx
  have C : AWC x cX9_laysNew 2 RX9 (rmM 1) none := C
  have hF : MF ad sg sg := MF.rf
  show AW x (RQ x _ _ _ _) 0 0 sg 0 [(0, .ref (ad 0))] []
  obtain ⟨sg0, hsg0⟩ : ∃ s, s = sg := ⟨_, rfl⟩
  have hF : MF ad sg0 sg := by rw [hsg0]; exact hF
  show AW x (RQ x (PU x.g ad sg th none (lay u)) noX (rmM 1).cells (rmM 1).slots) 0 0 sg 0 [(0, .ref (ad 0))] []
  rw [show PU x.g ad sg = PU x.g ad sg0 by rw [hsg0]]
  have loop : ∀ (r k : Nat), k + r = 104 → ∀ sg, MS x.g ad th (layP u k) sg → MF ad sg0 sg → AW x (RQ x (PU x.g ad sg0 th none (lay u)) noX (rmM 1).cells (rmM 1).slots) 0 0 sg 2 [(0, .ref (ad 0)), (1, .int (nI k))] [] := by
    intro r
    induction r with
    | zero =>
      intro k hk sg hM hF
      refine aw_iload_n C dX9_laysNew_2 rfl rfl rfl ?_
      refine aw_bipush (v := 104) C dX9_laysNew_3 rfl rfl ?_
      refine aw_icmp_ge (tgt := 38) C dX9_laysNew_5 (by decide) rfl (fun c5 => ?_) (fun c5 => ?_)
      · exact aw_vret C (Nat.le_refl _) (Nat.le_refl _) (PU.of rfl (by rw [show lay u = layP u k by rw [show k = 104 by omega]; rfl]; exact hM) hF) dX9_laysNew_38
      · exact absurd (by rw [show k = 104 by omega]; decide) c5
    | succ r ih =>
      intro k hk sg hM hF
      refine aw_iload_n C dX9_laysNew_2 rfl rfl rfl ?_
      refine aw_bipush (v := 104) C dX9_laysNew_3 rfl rfl ?_
      refine aw_icmp_ge (tgt := 38) C dX9_laysNew_5 (by decide) rfl (fun c5 => ?_) (fun c5 => ?_)
      · exact absurd c5 (by rw [show (104 : Int32) = nI 104 from rfl, nI_leI (by omega) (by omega)]; omega)
      · refine aw_aload_n C dX9_laysNew_8 rfl rfl rfl ?_
        refine aw_getf C f_X9_111 hM.1 rfl dX9_laysNew_9 rfl ?_
        refine aw_iload_n C dX9_laysNew_12 rfl rfl rfl ?_
        refine aw_aload_n C dX9_laysNew_13 rfl rfl rfl ?_
        refine aw_getf C f_X9_92 hM.1 rfl dX9_laysNew_14 rfl ?_
        refine aw_iload_n C dX9_laysNew_17 rfl rfl rfl ?_
        refine mw_lald (k := 33) (N := 104) C hM rfl rfl rfl (by omega) dX9_laysNew_18 rfl ?_
        refine mw_last (k := 41) (N := 104) C hM hF rfl rfl (i := k) (w := u.2.1 33 k) rfl (by omega) dX9_laysNew_19 rfl (fun sg hM hF => ?_)
        refine aw_aload_n C dX9_laysNew_20 rfl rfl rfl ?_
        refine aw_getf C f_X9_114 hM.1 rfl dX9_laysNew_21 rfl ?_
        refine aw_iload_n C dX9_laysNew_24 rfl rfl rfl ?_
        refine aw_aload_n C dX9_laysNew_25 rfl rfl rfl ?_
        refine aw_getf C f_X9_96 hM.1 rfl dX9_laysNew_26 rfl ?_
        refine aw_iload_n C dX9_laysNew_29 rfl rfl rfl ?_
        refine mw_lald (k := 34) (N := 104) C hM rfl rfl rfl (by omega) dX9_laysNew_30 rfl ?_
        refine mw_last (k := 42) (N := 104) C hM hF rfl rfl (i := k) (w := u.2.1 34 k) rfl (by omega) dX9_laysNew_31 rfl (fun sg hM hF => ?_)
        refine aw_iinc (v' := nI (k + 1)) (ls' := [(1, _), (0, _)]) C dX9_laysNew_32 rfl (by decide) (nI_1 k) rfl rfl ?_
        refine aw_goto (tgt := 2) C dX9_laysNew_35 (by decide) ?_
        refine aw_pick (ls' := [(0, _), (1, _)]) [1, 0] rfl ?_
        exact ih (k + 1) (by omega) _ (layP_s ▸ hM) hF
  refine aw_iconst (v := 0) C dX9_laysNew_0 rfl rfl ?_
  refine aw_istore_n (ls' := [(1, _), (0, _)]) C dX9_laysNew_1 rfl (by decide) rfl rfl ?_
  refine aw_pick (ls' := [(0, _), (1, _)]) [1, 0] rfl ?_
  exact loop 104 0 rfl sg (layP_0.symm ▸ hM) hF
set_option maxRecDepth 100000 in
theorem M_takesNew {g : Gx} {l : Launch} (hl : l.flags = flags0) (hst : g.Stable) {ad : Nat → Nat} {th : Int32} {u : MU} {sg : Sg} (hM : MS g ad th u sg) : MM g l yX9_takesNew cX9_takesNew 2 none (rmM 1) sg [.ref (ad 0)] (PU g ad sg th none (tak u)) noX := by
  refine MM.of hl hst (by decide) (Nat.le_of_ble_eq_true rfl) (fun x hg hlx C hin hout hargs => ?_)
  subst hg; subst hlx
  have C : AWC x cX9_takesNew 2 RX9 (rmM 1) none := C
  have hF : MF ad sg sg := MF.rf
  show AW x (RQ x _ _ _ _) 0 0 sg 0 [(0, .ref (ad 0))] []
  obtain ⟨sg0, hsg0⟩ : ∃ s, s = sg := ⟨_, rfl⟩
  have hF : MF ad sg0 sg := by rw [hsg0]; exact hF
  show AW x (RQ x (PU x.g ad sg th none (tak u)) noX (rmM 1).cells (rmM 1).slots) 0 0 sg 0 [(0, .ref (ad 0))] []
  rw [show PU x.g ad sg = PU x.g ad sg0 by rw [hsg0]]
  have loop : ∀ (r k : Nat), k + r = 104 → ∀ sg, MS x.g ad th (takP u k) sg → MF ad sg0 sg → AW x (RQ x (PU x.g ad sg0 th none (tak u)) noX (rmM 1).cells (rmM 1).slots) 0 0 sg 2 [(0, .ref (ad 0)), (1, .int (nI k))] [] := by
    intro r
    induction r with
    | zero =>
      intro k hk sg hM hF
      refine aw_iload_n C dX9_takesNew_2 rfl rfl rfl ?_
      refine aw_bipush (v := 104) C dX9_takesNew_3 rfl rfl ?_
      refine aw_icmp_ge (tgt := 38) C dX9_takesNew_5 (by decide) rfl (fun c5 => ?_) (fun c5 => ?_)
      · exact aw_vret C (Nat.le_refl _) (Nat.le_refl _) (PU.of rfl (by rw [show tak u = takP u k by rw [show k = 104 by omega]; rfl]; exact hM) hF) dX9_takesNew_38
      · exact absurd (by rw [show k = 104 by omega]; decide) c5
    | succ r ih =>
      intro k hk sg hM hF
      refine aw_iload_n C dX9_takesNew_2 rfl rfl rfl ?_
      refine aw_bipush (v := 104) C dX9_takesNew_3 rfl rfl ?_
      refine aw_icmp_ge (tgt := 38) C dX9_takesNew_5 (by decide) rfl (fun c5 => ?_) (fun c5 => ?_)
      · exact absurd c5 (by rw [show (104 : Int32) = nI 104 from rfl, nI_leI (by omega) (by omega)]; omega)
      · refine aw_aload_n C dX9_takesNew_8 rfl rfl rfl ?_
        refine aw_getf C f_X9_92 hM.1 rfl dX9_takesNew_9 rfl ?_
        refine aw_iload_n C dX9_takesNew_12 rfl rfl rfl ?_
        refine aw_aload_n C dX9_takesNew_13 rfl rfl rfl ?_
        refine aw_getf C f_X9_111 hM.1 rfl dX9_takesNew_14 rfl ?_
        refine aw_iload_n C dX9_takesNew_17 rfl rfl rfl ?_
        refine mw_lald (k := 41) (N := 104) C hM rfl rfl rfl (by omega) dX9_takesNew_18 rfl ?_
        refine mw_last (k := 33) (N := 104) C hM hF rfl rfl (i := k) (w := u.2.1 41 k) rfl (by omega) dX9_takesNew_19 rfl (fun sg hM hF => ?_)
        refine aw_aload_n C dX9_takesNew_20 rfl rfl rfl ?_
        refine aw_getf C f_X9_96 hM.1 rfl dX9_takesNew_21 rfl ?_
        refine aw_iload_n C dX9_takesNew_24 rfl rfl rfl ?_
        refine aw_aload_n C dX9_takesNew_25 rfl rfl rfl ?_
        refine aw_getf C f_X9_114 hM.1 rfl dX9_takesNew_26 rfl ?_
        refine aw_iload_n C dX9_takesNew_29 rfl rfl rfl ?_
        refine mw_lald (k := 42) (N := 104) C hM rfl rfl rfl (by omega) dX9_takesNew_30 rfl ?_
        refine mw_last (k := 34) (N := 104) C hM hF rfl rfl (i := k) (w := u.2.1 42 k) rfl (by omega) dX9_takesNew_31 rfl (fun sg hM hF => ?_)
        refine aw_iinc (v' := nI (k + 1)) (ls' := [(1, _), (0, _)]) C dX9_takesNew_32 rfl (by decide) (nI_1 k) rfl rfl ?_
        refine aw_goto (tgt := 2) C dX9_takesNew_35 (by decide) ?_
        refine aw_pick (ls' := [(0, _), (1, _)]) [1, 0] rfl ?_
        exact ih (k + 1) (by omega) _ (takP_s ▸ hM) hF
  refine aw_iconst (v := 0) C dX9_takesNew_0 rfl rfl ?_
  refine aw_istore_n (ls' := [(1, _), (0, _)]) C dX9_takesNew_1 rfl (by decide) rfl rfl ?_
  refine aw_pick (ls' := [(0, _), (1, _)]) [1, 0] rfl ?_
  exact loop 104 0 rfl sg (takP_0.symm ▸ hM) hF
set_option maxRecDepth 100000 in
theorem M_common {g : Gx} {l : Launch} (hl : l.flags = flags0) (hst : g.Stable) {sg : Sg} {a b : Nat} (ha : a < 2 ^ 63) (hb : b < 2 ^ 63) : MM g l yX9_common cX9_common 10 (some .long) (rmM 1) sg [.long (lN a), .long (lN b)] (PP sg (.long (lN (Nat.gcd a b)))) noX := by
  refine MM.of hl hst (by decide) (Nat.le_of_ble_eq_true rfl) (fun x hg hlx C hin hout hargs => ?_)
  subst hg; subst hlx
  have C : AWC x cX9_common 10 RX9 (rmM 1) (some .long) := C
  show AW x (RQ x _ _ _ _) 0 0 sg 0 [(0, .long (lN a)), (2, .long (lN b))] []
  have loop : ∀ (n y z : Nat), z < n → y < 2 ^ 63 → z < 2 ^ 63 → Nat.gcd y z = Nat.gcd a b → AW x (RQ x (PP sg (.long (lN (Nat.gcd a b)))) noX (rmM 1).cells (rmM 1).slots) 0 0 sg 6 [(0, .long (lN a)), (2, .long (lN b)), (4, .long (lN y)), (6, .long (lN z))] [] := by
    intro n
    induction n with
    | zero => intro y z h; omega
    | succ n ih =>
      intro y z hn hy hz hg
      refine aw_lload C dX9_common_6 rfl rfl ?_
      refine aw_lconst (v := 0) C dX9_common_8 rfl rfl ?_
      refine aw_lcmp C dX9_common_9 rfl ?_
      refine aw_if_le (tgt := 31) C dX9_common_10 (by decide) rfl (fun c10 => ?_) (fun c10 => ?_)
      · refine aw_lload C dX9_common_31 rfl rfl ?_
        exact aw_lret C (Nat.le_refl _) (Nat.le_refl _) (PP.of (by rw [← hg]; have h1 := lgc_le.mp c10; rw [show (0 : Int64) = lN 0 from rfl, pk_lLT (by decide) hz] at h1; rw [show z = 0 by omega, Nat.gcd_zero_right])) dX9_common_33
      · have hz0 : 0 < z := by
          have h1 := (Classical.not_not.mp (mt lgc_le.mpr c10))
          rw [show (0 : Int64) = lN 0 from rfl, pk_lLT (by decide) hz] at h1
          exact h1
        refine aw_lload C dX9_common_13 rfl rfl ?_
        refine aw_lload C dX9_common_15 rfl rfl ?_
        refine aw_lrem C dX9_common_17 (by intro e; rw [show (0 : Int64) = lN 0 from rfl, pk_lEQ hz (by decide)] at e; omega) rfl ?_
        rw [pk_lRem hy hz0 hz]
        refine aw_lstore (ls' := [(8, _), (0, _), (2, _), (4, _), (6, _)]) C dX9_common_18 (by decide) rfl rfl ?_
        refine aw_lload C dX9_common_20 rfl rfl ?_
        refine aw_lstore (ls' := [(4, _), (8, _), (0, _), (2, _), (6, _)]) C dX9_common_22 (by decide) rfl rfl ?_
        refine aw_lload C dX9_common_24 rfl rfl ?_
        refine aw_lstore (ls' := [(6, _), (4, _), (8, _), (0, _), (2, _)]) C dX9_common_26 (by decide) rfl rfl ?_
        refine aw_goto (tgt := 6) C dX9_common_28 (by decide) ?_
        refine aw_pick (ls' := [(0, _), (2, _), (4, _), (6, _)]) [3, 4, 1, 0] rfl ?_
        exact ih z (y % z) (by have := Nat.mod_lt y hz0; omega) hz (by have := Nat.mod_lt y hz0; omega) (by rw [← hg, Nat.gcd_comm y z]; exact (Nat.gcd_rec z y).symm ▸ Nat.gcd_comm _ _)
  refine aw_lload_n C dX9_common_0 rfl rfl rfl ?_
  refine aw_lstore (ls' := [(4, _), (0, _), (2, _)]) C dX9_common_1 (by decide) rfl rfl ?_
  refine aw_lload_n C dX9_common_3 rfl rfl rfl ?_
  refine aw_lstore (ls' := [(6, _), (4, _), (0, _), (2, _)]) C dX9_common_4 (by decide) rfl rfl ?_
  refine aw_pick (ls' := [(0, _), (2, _), (4, _), (6, _)]) [2, 3, 1, 0] rfl ?_
  exact loop (b + 1) a b (Nat.lt_succ_self b) ha hb rfl
set_option maxRecDepth 100000 in
theorem M_adds {g : Gx} {l : Launch} (hl : l.flags = flags0) (hst : g.Stable) {ad : Nat → Nat} {th : Int32} {u : MU} {sg : Sg} (hM : MS g ad th u sg) {i t n m U D : Nat} {a : Int64} (hi : i < 104) (ht : u.2.1 41 i = lN t) (hn : u.2.1 42 i = lN n) (hU : lN t * lN m + a * lN n = lN U) (hD : n * m = D) (hU6 : U < 2 ^ 63) (hD6 : D < 2 ^ 63) (hD0 : 0 < D) : MM g l yX9_adds cX9_adds 12 (some .boolean) (rmM 2) sg [.ref (ad 0), .int (nI i), .long a, .long (lN m)] (PU g ad sg th (some (.int (b2i (decide (D / Nat.gcd U D ≤ 1000000))))) (uJ (uJ u 41 i (lN (U / Nat.gcd U D))) 42 i (lN (D / Nat.gcd U D)))) noX := by
  refine MM.of hl hst (by decide) (Nat.le_of_ble_eq_true rfl) (fun x hg hlx C hin hout hargs => ?_)
  subst hg; subst hlx
  have C : AWC x cX9_adds 12 RX9 (rmM 2) (some .boolean) := C
  have hF : MF ad sg sg := MF.rf
  show AW x (RQ x _ _ _ _) 0 0 sg 0 [(0, .ref (ad 0)), (1, .int (nI i)), (2, .long a), (4, .long (lN m))] []
  refine aw_aload_n C dX9_adds_0 rfl rfl rfl ?_
  refine aw_getf C f_X9_111 hM.1 rfl dX9_adds_1 rfl ?_
  refine aw_iload_n C dX9_adds_4 rfl rfl rfl ?_
  refine mw_lald (k := 41) (N := 104) C hM rfl rfl rfl (by omega) dX9_adds_5 rfl ?_
  refine aw_lload C dX9_adds_6 rfl rfl ?_
  refine aw_lmul C dX9_adds_8 rfl ?_
  refine aw_lload_n C dX9_adds_9 rfl rfl rfl ?_
  refine aw_aload_n C dX9_adds_10 rfl rfl rfl ?_
  refine aw_getf C f_X9_114 hM.1 rfl dX9_adds_11 rfl ?_
  refine aw_iload_n C dX9_adds_14 rfl rfl rfl ?_
  refine mw_lald (k := 42) (N := 104) C hM rfl rfl rfl (by omega) dX9_adds_15 rfl ?_
  refine aw_lmul C dX9_adds_16 rfl ?_
  refine aw_ladd C dX9_adds_17 rfl ?_
  rw [ht, hn, hU]
  have hg0 : 0 < Nat.gcd U D := Nat.gcd_pos_of_pos_right _ hD0
  have hgD : Nat.gcd U D ≤ D := Nat.gcd_le_right _ hD0
  refine aw_lstore (ls' := [(6, _), (0, _), (1, _), (2, _), (4, _)]) C dX9_adds_18 (by decide) rfl rfl ?_
  refine aw_aload_n C dX9_adds_20 rfl rfl rfl ?_
  refine aw_getf C f_X9_114 hM.1 rfl dX9_adds_21 rfl ?_
  refine aw_iload_n C dX9_adds_24 rfl rfl rfl ?_
  refine mw_lald (k := 42) (N := 104) C hM rfl rfl rfl (by omega) dX9_adds_25 rfl ?_
  refine aw_lload C dX9_adds_26 rfl rfl ?_
  refine aw_lmul C dX9_adds_28 rfl ?_
  rw [hn, lN_mul, hD]
  refine aw_lstore (ls' := [(8, _), (6, _), (0, _), (1, _), (2, _), (4, _)]) C dX9_adds_29 (by decide) rfl rfl ?_
  refine aw_lload C dX9_adds_31 rfl rfl ?_
  refine aw_lconst (v := 0) C dX9_adds_33 rfl rfl ?_
  refine aw_lcmp C dX9_adds_34 rfl ?_
  refine aw_if_ge (tgt := 44) C dX9_adds_35 (by decide) rfl (fun c35 => ?_) (fun c35 => ?_)
  · refine aw_lload C dX9_adds_44 rfl rfl ?_
    refine aw_lload C dX9_adds_46 rfl rfl ?_
    refine mw_callSp C k_X9_195 (M_common hl hst hU6 hD6) ⟨by decide, by decide⟩ rfl rfl (Nat.le_of_ble_eq_true rfl) dX9_adds_48 rfl ?_
    refine aw_lstore (ls' := [(10, _), (8, _), (6, _), (0, _), (1, _), (2, _), (4, _)]) C dX9_adds_51 (by decide) rfl rfl ?_
    refine aw_aload_n C dX9_adds_53 rfl rfl rfl ?_
    refine aw_getf C f_X9_111 hM.1 rfl dX9_adds_54 rfl ?_
    refine aw_iload_n C dX9_adds_57 rfl rfl rfl ?_
    refine aw_lload C dX9_adds_58 rfl rfl ?_
    refine aw_lload C dX9_adds_60 rfl rfl ?_
    refine aw_ldiv C dX9_adds_62 (by intro e; rw [show (0 : Int64) = lN 0 from rfl, pk_lEQ (by omega) (by decide)] at e; omega) rfl ?_
    rw [pk_lDiv hU6 hg0 (by omega)]
    refine mw_last (k := 41) (N := 104) C hM hF rfl rfl (w := lN (U / Nat.gcd U D)) rfl hi dX9_adds_63 rfl (fun sg hM hF => ?_)
    refine aw_aload_n C dX9_adds_64 rfl rfl rfl ?_
    refine aw_getf C f_X9_114 hM.1 rfl dX9_adds_65 rfl ?_
    refine aw_iload_n C dX9_adds_68 rfl rfl rfl ?_
    refine aw_lload C dX9_adds_69 rfl rfl ?_
    refine aw_lload C dX9_adds_71 rfl rfl ?_
    refine aw_ldiv C dX9_adds_73 (by intro e; rw [show (0 : Int64) = lN 0 from rfl, pk_lEQ (by omega) (by decide)] at e; omega) rfl ?_
    rw [pk_lDiv hD6 hg0 (by omega)]
    refine mw_last (k := 42) (N := 104) C hM hF rfl rfl (w := lN (D / Nat.gcd U D)) rfl hi dX9_adds_74 rfl (fun sg hM hF => ?_)
    refine aw_aload_n C dX9_adds_75 rfl rfl rfl ?_
    refine aw_getf C f_X9_114 hM.1 rfl dX9_adds_76 rfl ?_
    refine aw_iload_n C dX9_adds_79 rfl rfl rfl ?_
    refine mw_lald (k := 42) (N := 104) C hM rfl rfl rfl (by omega) dX9_adds_80 rfl ?_
    refine aw_ldc2 C dX9_adds_81 q_X9_199 rfl ?_
    refine aw_lcmp C dX9_adds_84 rfl ?_
    refine aw_if_gt (tgt := 92) C dX9_adds_85 (by decide) rfl (fun c85 => ?_) (fun c85 => ?_)
    · refine aw_iconst (v := 0) C dX9_adds_92 rfl rfl ?_
      exact aw_iret C (by decide) (Nat.le_refl _) (Nat.le_refl _) (PU.of (by have h1 := lgc_gt.mp c85; rw [show (1000000 : Int64) = lN 1000000 from rfl] at h1; have h2 : (uJ (uJ u 41 i (lN (U / Nat.gcd U D))) 42 i (lN (D / Nat.gcd U D))).2.1 42 i = lN (D / Nat.gcd U D) := (by simp [uJ, vp_updL]); rw [h2, pk_lLT (by decide) (Nat.lt_of_le_of_lt (Nat.div_le_self _ _) hD6)] at h1; simp [b2i]; omega) hM hF) dX9_adds_93
    · refine aw_iconst (v := 1) C dX9_adds_88 rfl rfl ?_
      refine aw_goto (tgt := 93) C dX9_adds_89 (by decide) ?_
      exact aw_iret C (by decide) (Nat.le_refl _) (Nat.le_refl _) (PU.of (by have h1 := mt lgc_gt.mpr c85; rw [show (1000000 : Int64) = lN 1000000 from rfl] at h1; have h2 : (uJ (uJ u 41 i (lN (U / Nat.gcd U D))) 42 i (lN (D / Nat.gcd U D))).2.1 42 i = lN (D / Nat.gcd U D) := (by simp [uJ, vp_updL]); rw [h2, pk_lLT (by decide) (Nat.lt_of_le_of_lt (Nat.div_le_self _ _) hD6)] at h1; simp [b2i]; omega) hM hF) dX9_adds_93
  · exact absurd (lgc_ge.mpr (by rw [show (0 : Int64) = lN 0 from rfl, pk_lLT hU6 (by decide)]; omega)) c35
