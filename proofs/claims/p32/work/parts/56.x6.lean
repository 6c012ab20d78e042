/-! constructors of the nested classes; papers -/
theorem nrw_rf (o : String) (r : Option Nat) : narrow (.object o) (va_rf r) = va_rf r := by cases r <;> rfl
theorem fit_rf (o : String) (r : Option Nat) : fits (.object o) (va_rf r) = true := by cases r <;> rfl
set_option maxRecDepth 100000 in
theorem C_iPerson {g : Gx} {l : Launch} {ez : Nat} (G : GOK g l ez) {sg : Sg} {q : Nat} {n a d : Int32} {b : Bool} (hs : sg q = some (ob 7 [.int 0, .int 0, .int 0, .int 0, .int 0, .null, .int 0])) : MM g l yX5_init cX5_init 5 none (rmC 2 0 0) sg [.ref q, .int n, .int a, .int d, .int (b2i b)] (fun v s' => v = none ∧ s' q = some (ob 7 [.int n, .int a, .int d, .int (b2i b), .int 1, .null, .int 0]) ∧ ∀ a, a ≠ q → s' a = sg a) (noX) := by
  refine MM.of G.1 G.2.1 (by decide) (Nat.le_of_ble_eq_true rfl) (fun x hg hlx C hin hout hargs => ?_)
  subst hg; subst hlx
  have C : AWC x cX5_init 5 RX5 (rmC 2 0 0) none := C
  show AW x (RQ x _ _ _ _) 0 0 sg 0 [(0, .ref q), (1, .int n), (2, .int a), (3, .int d), (4, .int (b2i b))] []
  refine aw_aload_n C dX5_init_0 rfl rfl rfl ?_
  refine aw_objI C (ws_of 248 (by decide +kernel)) (ws_of 84 (by decide +kernel)) (ws_of 85 (by decide +kernel)) (Nat.le_of_ble_eq_true rfl) (Nat.le_of_ble_eq_true rfl) dX5_init_1 rfl ?_
  refine aw_aload_n C dX5_init_4 rfl rfl rfl ?_
  refine aw_iconst (v := 1) C dX5_init_5 rfl rfl ?_
  refine aw_putf C f_X5_9 rfl hs rfl rfl (Nat.le_of_ble_eq_true rfl) rfl dX5_init_6 rfl ?_
  refine aw_aload_n C dX5_init_9 rfl rfl rfl ?_
  refine aw_null C dX5_init_10 rfl ?_
  refine aw_putf C f_X5_15 rfl sgu_s rfl rfl (Nat.le_of_ble_eq_true rfl) rfl dX5_init_11 rfl ?_
  refine aw_aload_n C dX5_init_14 rfl rfl rfl ?_
  refine aw_iconst (v := 0) C dX5_init_15 rfl rfl ?_
  refine aw_putf C f_X5_19 rfl sgu_s rfl rfl (Nat.le_of_ble_eq_true rfl) rfl dX5_init_16 rfl ?_
  refine aw_aload_n C dX5_init_19 rfl rfl rfl ?_
  refine aw_iload_n C dX5_init_20 rfl rfl rfl ?_
  refine aw_putF (kf := 0) C hin cf_X5 (Nat.le_of_ble_eq_true rfl) (ws_of 249 (by decide +kernel)) rfl rfl sgu_s rfl rfl (Nat.le_of_ble_eq_true rfl) rfl dX5_init_21 rfl ?_
  refine aw_aload_n C dX5_init_24 rfl rfl rfl ?_
  refine aw_iload_n C dX5_init_25 rfl rfl rfl ?_
  refine aw_putF (kf := 1) C hin cf_X5 (Nat.le_of_ble_eq_true rfl) (ws_of 252 (by decide +kernel)) rfl rfl sgu_s rfl rfl (Nat.le_of_ble_eq_true rfl) rfl dX5_init_26 rfl ?_
  refine aw_aload_n C dX5_init_29 rfl rfl rfl ?_
  refine aw_iload_n C dX5_init_30 rfl rfl rfl ?_
  refine aw_putF (kf := 2) C hin cf_X5 (Nat.le_of_ble_eq_true rfl) (ws_of 253 (by decide +kernel)) rfl rfl sgu_s rfl rfl (Nat.le_of_ble_eq_true rfl) rfl dX5_init_31 rfl ?_
  refine aw_aload_n C dX5_init_34 rfl rfl rfl ?_
  refine aw_iload C dX5_init_35 rfl rfl ?_
  refine aw_putF (kf := 3) C hin cf_X5 (Nat.le_of_ble_eq_true rfl) (ws_of 254 (by decide +kernel)) rfl rfl sgu_s (nrw_b2i _) (fit_b2i _) (Nat.le_of_ble_eq_true rfl) rfl dX5_init_37 rfl ?_
  exact aw_vret C (Nat.le_of_ble_eq_true rfl) (Nat.le_of_ble_eq_true rfl) ⟨rfl, sgu_s, fun a ha => (sgu_n ha).trans ((sgu_n ha).trans ((sgu_n ha).trans ((sgu_n ha).trans ((sgu_n ha).trans ((sgu_n ha).trans ((sgu_n ha)))))))⟩ dX5_init_40
set_option maxRecDepth 100000 in
theorem C_iMandate {g : Gx} {l : Launch} {ez : Nat} (G : GOK g l ez) {sg : Sg} {q : Nat} {d : Int32} {b : Bool} (hs : sg q = some (ob 4 [.int 0, .int 0, .int 0, .int 0, .null])) : MM g l yX2_init cX2_init 3 none (rmC 2 0 0) sg [.ref q, .int d, .int (b2i b)] (fun v s' => v = none ∧ s' q = some (ob 4 [.int d, .int (b2i b), .int 0, .int 0, .null]) ∧ ∀ a, a ≠ q → s' a = sg a) (noX) := by
  refine MM.of G.1 G.2.1 (by decide) (Nat.le_of_ble_eq_true rfl) (fun x hg hlx C hin hout hargs => ?_)
  subst hg; subst hlx
  have C : AWC x cX2_init 3 RX2 (rmC 2 0 0) none := C
  show AW x (RQ x _ _ _ _) 0 0 sg 0 [(0, .ref q), (1, .int d), (2, .int (b2i b))] []
  refine aw_aload_n C dX2_init_0 rfl rfl rfl ?_
  refine aw_objI C (ws_of 544 (by decide +kernel)) (ws_of 84 (by decide +kernel)) (ws_of 85 (by decide +kernel)) (Nat.le_of_ble_eq_true rfl) (Nat.le_of_ble_eq_true rfl) dX2_init_1 rfl ?_
  refine aw_aload_n C dX2_init_4 rfl rfl rfl ?_
  refine aw_iconst (v := 0) C dX2_init_5 rfl rfl ?_
  refine aw_putf C f_X2_7 rfl hs rfl rfl (Nat.le_of_ble_eq_true rfl) rfl dX2_init_6 rfl ?_
  refine aw_aload_n C dX2_init_9 rfl rfl rfl ?_
  refine aw_iconst (v := 0) C dX2_init_10 rfl rfl ?_
  refine aw_putf C f_X2_13 rfl sgu_s rfl rfl (Nat.le_of_ble_eq_true rfl) rfl dX2_init_11 rfl ?_
  refine aw_aload_n C dX2_init_14 rfl rfl rfl ?_
  refine aw_null C dX2_init_15 rfl ?_
  refine aw_putf C f_X2_16 rfl sgu_s rfl rfl (Nat.le_of_ble_eq_true rfl) rfl dX2_init_16 rfl ?_
  refine aw_aload_n C dX2_init_19 rfl rfl rfl ?_
  refine aw_iload_n C dX2_init_20 rfl rfl rfl ?_
  refine aw_putF (kf := 0) C hin cf_X2 (Nat.le_of_ble_eq_true rfl) (ws_of 545 (by decide +kernel)) rfl rfl sgu_s rfl rfl (Nat.le_of_ble_eq_true rfl) rfl dX2_init_21 rfl ?_
  refine aw_aload_n C dX2_init_24 rfl rfl rfl ?_
  refine aw_iload_n C dX2_init_25 rfl rfl rfl ?_
  refine aw_putF (kf := 1) C hin cf_X2 (Nat.le_of_ble_eq_true rfl) (ws_of 547 (by decide +kernel)) rfl rfl sgu_s (nrw_b2i _) (fit_b2i _) (Nat.le_of_ble_eq_true rfl) rfl dX2_init_26 rfl ?_
  exact aw_vret C (Nat.le_of_ble_eq_true rfl) (Nat.le_of_ble_eq_true rfl) ⟨rfl, sgu_s, fun a ha => (sgu_n ha).trans ((sgu_n ha).trans ((sgu_n ha).trans ((sgu_n ha).trans ((sgu_n ha)))))⟩ dX2_init_29
set_option maxRecDepth 100000 in
theorem C_iEntry {g : Gx} {l : Launch} {ez : Nat} (G : GOK g l ez) {sg : Sg} {q : Nat} {k a d t : Int32} {th : Nat} {mv : Option Nat} (hs : sg q = some (ob 3 [.int 0, .int 0, .null, .int 0, .null])) : MM g l yX1_init cX1_init 6 none (rmC 2 0 0) sg [.ref q, .int k, .int a, .ref th, .int d, va_rf mv] (fun v s' => v = none ∧ s' q = some (ob 3 [.int k, .int a, .ref th, .int d, va_rf mv]) ∧ ∀ a, a ≠ q → s' a = sg a) (noX) := by
  refine MM.of G.1 G.2.1 (by decide) (by cases mv <;> exact Nat.le_of_ble_eq_true rfl) (fun x hg hlx C hin hout hargs => ?_)
  subst hg; subst hlx
  have C : AWC x cX1_init 6 RX1 (rmC 2 0 0) none := C
  show AW x (RQ x _ _ _ _) 0 0 sg 0 [(0, .ref q), (1, .int k), (2, .int a), (3, .ref th), (4, .int d), (5, va_rf mv)] []
  refine aw_aload_n C dX1_init_0 rfl rfl rfl ?_
  refine aw_objI C (ws_of 781 (by decide +kernel)) (ws_of 84 (by decide +kernel)) (ws_of 85 (by decide +kernel)) (Nat.le_of_ble_eq_true rfl) (Nat.le_of_ble_eq_true rfl) dX1_init_1 rfl ?_
  refine aw_aload_n C dX1_init_4 rfl rfl rfl ?_
  refine aw_iload_n C dX1_init_5 rfl rfl rfl ?_
  refine aw_putF (kf := 0) C hin cf_X1 (Nat.le_of_ble_eq_true rfl) (ws_of 782 (by decide +kernel)) rfl rfl hs rfl rfl (Nat.le_of_ble_eq_true rfl) rfl dX1_init_6 rfl ?_
  refine aw_aload_n C dX1_init_9 rfl rfl rfl ?_
  refine aw_iload_n C dX1_init_10 rfl rfl rfl ?_
  refine aw_putF (kf := 1) C hin cf_X1 (Nat.le_of_ble_eq_true rfl) (ws_of 784 (by decide +kernel)) rfl rfl sgu_s rfl rfl (Nat.le_of_ble_eq_true rfl) rfl dX1_init_11 rfl ?_
  refine aw_aload_n C dX1_init_14 rfl rfl rfl ?_
  refine aw_aload_n C dX1_init_15 rfl rfl rfl ?_
  refine aw_putF (kf := 2) C hin cf_X1 (Nat.le_of_ble_eq_true rfl) (ws_of 786 (by decide +kernel)) rfl rfl sgu_s rfl rfl (Nat.le_of_ble_eq_true rfl) rfl dX1_init_16 rfl ?_
  refine aw_aload_n C dX1_init_19 rfl rfl rfl ?_
  refine aw_iload C dX1_init_20 rfl rfl ?_
  refine aw_putF (kf := 3) C hin cf_X1 (Nat.le_of_ble_eq_true rfl) (ws_of 788 (by decide +kernel)) rfl rfl sgu_s rfl rfl (Nat.le_of_ble_eq_true rfl) rfl dX1_init_22 rfl ?_
  refine aw_aload_n C dX1_init_25 rfl rfl rfl ?_
  refine aw_aloadq C dX1_init_26 rfl rfl ?_
  refine aw_putF (kf := 4) C hin cf_X1 (Nat.le_of_ble_eq_true rfl) (ws_of 790 (by decide +kernel)) rfl rfl sgu_s (nrw_rf _ _) (fit_rf _ _) (Nat.le_of_ble_eq_true rfl) rfl dX1_init_28 rfl ?_
  exact aw_vret C (Nat.le_of_ble_eq_true rfl) (Nat.le_of_ble_eq_true rfl) ⟨rfl, sgu_s, fun a ha => (sgu_n ha).trans ((sgu_n ha).trans ((sgu_n ha).trans ((sgu_n ha).trans ((sgu_n ha)))))⟩ dX1_init_31
set_option maxRecDepth 100000 in
theorem C_iMove {g : Gx} {l : Launch} {ez : Nat} (G : GOK g l ez) {sg : Sg} {q : Nat} {m : Mv} (hs : sg q = some (ob 5 [.int 0, .int 0, .int 0, .int 0, .int 0])) : MM g l yX3_init cX3_init 6 none (rmC 2 0 0) sg [.ref q, .int m.1, .int m.2.1, .int m.2.2.1, .int m.2.2.2.1, .int m.2.2.2.2] (fun v s' => v = none ∧ s' q = some (ob 5 (vcl m)) ∧ ∀ a, a ≠ q → s' a = sg a) (noX) := by
  refine MM.of G.1 G.2.1 (by decide) (Nat.le_of_ble_eq_true rfl) (fun x hg hlx C hin hout hargs => ?_)
  subst hg; subst hlx
  have C : AWC x cX3_init 6 RX3 (rmC 2 0 0) none := C
  show AW x (RQ x _ _ _ _) 0 0 sg 0 [(0, .ref q), (1, .int m.1), (2, .int m.2.1), (3, .int m.2.2.1), (4, .int m.2.2.2.1), (5, .int m.2.2.2.2)] []
  refine aw_aload_n C dX3_init_0 rfl rfl rfl ?_
  refine aw_objI C (ws_of 712 (by decide +kernel)) (ws_of 84 (by decide +kernel)) (ws_of 85 (by decide +kernel)) (Nat.le_of_ble_eq_true rfl) (Nat.le_of_ble_eq_true rfl) dX3_init_1 rfl ?_
  refine aw_aload_n C dX3_init_4 rfl rfl rfl ?_
  refine aw_iload_n C dX3_init_5 rfl rfl rfl ?_
  refine aw_putF (kf := 0) C hin cf_X3 (Nat.le_of_ble_eq_true rfl) (ws_of 713 (by decide +kernel)) rfl rfl hs rfl rfl (Nat.le_of_ble_eq_true rfl) rfl dX3_init_6 rfl ?_
  refine aw_aload_n C dX3_init_9 rfl rfl rfl ?_
  refine aw_iload_n C dX3_init_10 rfl rfl rfl ?_
  refine aw_putF (kf := 1) C hin cf_X3 (Nat.le_of_ble_eq_true rfl) (ws_of 715 (by decide +kernel)) rfl rfl sgu_s rfl rfl (Nat.le_of_ble_eq_true rfl) rfl dX3_init_11 rfl ?_
  refine aw_aload_n C dX3_init_14 rfl rfl rfl ?_
  refine aw_iload_n C dX3_init_15 rfl rfl rfl ?_
  refine aw_putF (kf := 2) C hin cf_X3 (Nat.le_of_ble_eq_true rfl) (ws_of 717 (by decide +kernel)) rfl rfl sgu_s rfl rfl (Nat.le_of_ble_eq_true rfl) rfl dX3_init_16 rfl ?_
  refine aw_aload_n C dX3_init_19 rfl rfl rfl ?_
  refine aw_iload C dX3_init_20 rfl rfl ?_
  refine aw_putF (kf := 3) C hin cf_X3 (Nat.le_of_ble_eq_true rfl) (ws_of 719 (by decide +kernel)) rfl rfl sgu_s rfl rfl (Nat.le_of_ble_eq_true rfl) rfl dX3_init_22 rfl ?_
  refine aw_aload_n C dX3_init_25 rfl rfl rfl ?_
  refine aw_iload C dX3_init_26 rfl rfl ?_
  refine aw_putF (kf := 4) C hin cf_X3 (Nat.le_of_ble_eq_true rfl) (ws_of 721 (by decide +kernel)) rfl rfl sgu_s rfl rfl (Nat.le_of_ble_eq_true rfl) rfl dX3_init_28 rfl ?_
  exact aw_vret C (Nat.le_of_ble_eq_true rfl) (Nat.le_of_ble_eq_true rfl) ⟨rfl, sgu_s, fun a ha => (sgu_n ha).trans ((sgu_n ha).trans ((sgu_n ha).trans ((sgu_n ha).trans ((sgu_n ha)))))⟩ dX3_init_31
set_option maxRecDepth 100000 in
theorem C_iPapers {g : Gx} {l : Launch} {ez : Nat} (G : GOK g l ez) {sg : Sg} {q : Nat} (hs : sg q = some (ob 6 [.null, .int 0])) : MM g l yX4_init cX4_init 1 none (rmC 2 1 4) sg [.ref q] (fun v s' => v = none ∧ ∃ q2, sg q2 = none ∧ s' q2 = some (arI g 4 (fun _ => 0)) ∧ s' q = some (ob 6 [.ref q2, .int 0]) ∧ ∀ a, a ≠ q → a ≠ q2 → s' a = sg a) (noX) := by
  refine MM.of G.1 G.2.1 (by decide) (Nat.le_of_ble_eq_true rfl) (fun x hg hlx C hin hout hargs => ?_)
  subst hg; subst hlx
  have C : AWC x cX4_init 1 RX4 (rmC 2 1 4) none := C
  show AW x (RQ x _ _ _ _) 0 0 sg 0 [(0, .ref q)] []
  refine aw_aload_n C dX4_init_0 rfl rfl rfl ?_
  refine aw_objI C (ws_of 460 (by decide +kernel)) (ws_of 84 (by decide +kernel)) (ws_of 85 (by decide +kernel)) (Nat.le_of_ble_eq_true rfl) (Nat.le_of_ble_eq_true rfl) dX4_init_1 rfl ?_
  refine aw_aload_n C dX4_init_4 rfl rfl rfl ?_
  refine aw_iconst (v := 4) C dX4_init_5 rfl rfl ?_
  refine aw_newarr (atype := .int) (t0 := 0) (cA0 := x.g.ca 0) (ty := .int) (N := 4) (a0 := (4, .inl fun _ => 0)) C h_arr_int rfl rfl (fun o h => by cases h) (fun _ => rfl) (by decide) rfl (by decide) (Nat.le_of_ble_eq_true rfl) (Nat.le_of_ble_eq_true rfl) dX4_init_6 rfl (fun q2 hq2 => ?_)
  have hne : q ≠ q2 := no_ne hs hq2
  refine aw_putF (kf := 0) C hin cf_X4 (Nat.le_of_ble_eq_true rfl) (ws_of 461 (by decide +kernel)) rfl rfl ((sgu_n hne).trans hs) rfl rfl (Nat.le_of_ble_eq_true rfl) rfl dX4_init_8 rfl ?_
  refine aw_aload_n C dX4_init_11 rfl rfl rfl ?_
  refine aw_iconst (v := 0) C dX4_init_12 rfl rfl ?_
  refine aw_putf C f_X4_15 rfl sgu_s rfl rfl (Nat.le_of_ble_eq_true rfl) rfl dX4_init_13 rfl ?_
  exact aw_vret C (Nat.le_of_ble_eq_true rfl) (Nat.le_of_ble_eq_true rfl) ⟨rfl, q2, hq2, (sgu_n (Ne.symm hne)).trans ((sgu_n (Ne.symm hne)).trans sgu_s), sgu_s, fun a h1 h2 => (sgu_n h1).trans ((sgu_n h1).trans (sgu_n h2))⟩ dX4_init_16
set_option maxRecDepth 100000 in
theorem C_iShares {g : Gx} {l : Launch} {ez : Nat} (G : GOK g l ez) {sg : Sg} {q : Nat} (hs : sg q = some (ob 8 [.null, .null])) : MM g l yX6_init cX6_init 1 none (rmC 2 2 26) sg [.ref q] (fun v s' => v = none ∧ ∃ a b, sg a = none ∧ sg b = none ∧ a ≠ b ∧ s' a = some (arJ g 13 (fun _ => 0)) ∧ s' b = some (arJ g 13 (fun _ => 0)) ∧ s' q = some (ob 8 [.ref a, .ref b]) ∧ ∀ p, p ≠ q → p ≠ a → p ≠ b → s' p = sg p) (noX) := by
  refine MM.of G.1 G.2.1 (by decide) (Nat.le_of_ble_eq_true rfl) (fun x hg hlx C hin hout hargs => ?_)
  subst hg; subst hlx
  have C : AWC x cX6_init 1 RX6 (rmC 2 2 26) none := C
  show AW x (RQ x _ _ _ _) 0 0 sg 0 [(0, .ref q)] []
  refine aw_aload_n C dX6_init_0 rfl rfl rfl ?_
  refine aw_objI C (ws_of 117 (by decide +kernel)) (ws_of 84 (by decide +kernel)) (ws_of 85 (by decide +kernel)) (Nat.le_of_ble_eq_true rfl) (Nat.le_of_ble_eq_true rfl) dX6_init_1 rfl ?_
  refine aw_aload_n C dX6_init_4 rfl rfl rfl ?_
  refine aw_bipush (v := 13) C dX6_init_5 rfl rfl ?_
  refine aw_newarr (atype := .long) (t0 := 2) (cA0 := x.g.ca 2) (ty := .long) (N := 13) (a0 := (13, .inr (.inl fun _ => 0))) C h_arr_long rfl rfl (fun o h => by cases h) (fun _ => rfl) (by decide) rfl (by decide) (Nat.le_of_ble_eq_true rfl) (Nat.le_of_ble_eq_true rfl) dX6_init_7 rfl (fun q2 hq2 => ?_)
  have hne : q ≠ q2 := no_ne hs hq2
  refine aw_putF (kf := 0) C hin cf_X6 (Nat.le_of_ble_eq_true rfl) (ws_of 118 (by decide +kernel)) rfl rfl ((sgu_n hne).trans hs) rfl rfl (Nat.le_of_ble_eq_true rfl) rfl dX6_init_9 rfl ?_
  refine aw_aload_n C dX6_init_12 rfl rfl rfl ?_
  refine aw_bipush (v := 13) C dX6_init_13 rfl rfl ?_
  refine aw_newarr (atype := .long) (t0 := 2) (cA0 := x.g.ca 2) (ty := .long) (N := 13) (a0 := (13, .inr (.inl fun _ => 0))) C h_arr_long rfl rfl (fun o h => by cases h) (fun _ => rfl) (by decide) rfl (by decide) (Nat.le_of_ble_eq_true rfl) (Nat.le_of_ble_eq_true rfl) dX6_init_15 rfl (fun q3 hq3 => ?_)
  have hne3 : q ≠ q3 := fun z => by rw [← z, sgu_s] at hq3; cases hq3
  have h32 : q2 ≠ q3 := fun z => by rw [← z, sgu_n (Ne.symm hne), sgu_s] at hq3; cases hq3
  have hq3n : sg q3 = none := by rw [← hq3, sgu_n (Ne.symm hne3), sgu_n (Ne.symm h32)]
  refine aw_putF (kf := 1) C hin cf_X6 (Nat.le_of_ble_eq_true rfl) (ws_of 119 (by decide +kernel)) rfl rfl ((sgu_n hne3).trans sgu_s) rfl rfl (Nat.le_of_ble_eq_true rfl) rfl dX6_init_17 rfl ?_
  exact aw_vret C (Nat.le_of_ble_eq_true rfl) (Nat.le_of_ble_eq_true rfl) ⟨rfl, q2, q3, hq2, hq3n, h32, (sgu_n (Ne.symm hne)).trans ((sgu_n h32).trans ((sgu_n (Ne.symm hne)).trans sgu_s)), (sgu_n (Ne.symm hne3)).trans sgu_s, sgu_s, fun a h1 h2 h3 => (sgu_n h1).trans ((sgu_n h3).trans ((sgu_n h1).trans (sgu_n h2)))⟩ dX6_init_20
set_option maxRecDepth 100000 in
theorem C_least {g : Gx} {l : Launch} {ez : Nat} (G : GOK g l ez) {sg : Sg} {ad : Nat → Nat → Nat} {u : MU} {Y : GS} (hS : CS g ez ad u Y sg) {d : Nat} (hd : d < u.2.2.1 10) : MM g l yX4_leastGrade cX4_leastGrade 1 (some .int) (rmC 1 0 0) sg [.ref (ad 5 d)] (PP sg (.int (least u d))) (noX) := by
  refine MM.of G.1 G.2.1 (by decide) (Nat.le_of_ble_eq_true rfl) (fun x hg hlx C hin hout hargs => ?_)
  subst hg; subst hlx
  have C : AWC x cX4_leastGrade 1 RX4 (rmC 1 0 0) (some .int) := C
  show AW x (RQ x _ _ _ _) 0 0 sg 0 [(0, .ref (ad 5 d))] []
  refine aw_aload_n C dX4_leastGrade_0 rfl rfl rfl ?_
  refine aw_getf C f_X4_15 (hS.Pp hd) rfl dX4_leastGrade_1 rfl ?_
  refine aw_if_ne (tgt := 11) C dX4_leastGrade_4 (by decide) rfl (fun c4 => ?_) (fun c4 => ?_)
  · refine aw_aload_n C dX4_leastGrade_11 rfl rfl rfl ?_
    refine aw_getf C f_X4_9 (hS.Pp hd) rfl dX4_leastGrade_12 rfl ?_
    refine aw_iconst (v := 0) C dX4_leastGrade_15 rfl rfl ?_
    refine aw_iald C (hS.Gr hd) (by rw [← nI_0]; exact vp_in_nI (by decide) (by decide)) dX4_leastGrade_16 rfl ?_
    rw [show (0 : Int32).toNatClampNeg = 0 from rfl, clip_in (by decide)]
    exact aw_iret C rfl (Nat.le_of_ble_eq_true rfl) (Nat.le_of_ble_eq_true rfl) (PP.of (by unfold least; rw [if_neg c4]; rfl)) dX4_leastGrade_17
  · refine aw_iconst (v := -1) C dX4_leastGrade_7 rfl rfl ?_
    refine aw_goto (tgt := 17) C dX4_leastGrade_8 (by decide) ?_
    exact aw_iret C rfl (Nat.le_of_ble_eq_true rfl) (Nat.le_of_ble_eq_true rfl) (PP.of (by unfold least; rw [if_pos c4])) dX4_leastGrade_17
theorem uI_comm {u : MU} {r i r2 i2 : Nat} {v v2 : Int32} (h : r ≠ r2) : uI (uI u r i v) r2 i2 v2 = uI (uI u r2 i2 v2) r i v := by
  unfold uI
  refine Prod.ext (funext fun a => ?_) rfl
  dsimp only
  by_cases h1 : a = r
  · subst h1
    rw [if_pos rfl, if_pos rfl, if_neg h, if_neg h]
  · by_cases h2 : a = r2
    · subst h2
      rw [if_pos rfl, if_neg h1, if_pos rfl, if_neg h1]
    · rw [if_neg h1, if_neg h2, if_neg h1, if_neg h2]
theorem cel_5 {g : Gx} {ez : Nat} {ad : Nat → Nat → Nat} {u : MU} {Y : GS} {d : Nat} (hd : d < u.2.2.1 10) : cel g ez ad u Y 5 d = some (ob 6 [.ref (ad 6 d), .int (u.1 29 d)]) := if_pos hd
theorem cel_6 {g : Gx} {ez : Nat} {ad : Nat → Nat → Nat} {u : MU} {Y : GS} {d : Nat} (hd : d < u.2.2.1 10) : cel g ez ad u Y 6 d = some (arI g 4 (clip 4 0 (fun j => u.1 28 (4 * d + j)))) := if_pos hd
theorem clip_updI {n k : Nat} {f h : Nat → Int32} {v : Int32} (hk : k < n) (e : ∀ j, j ≠ k → h j = f j) (ev : h k = v) : upd (clip n 0 f) k v = clip n 0 h := by
  funext j
  unfold upd clip
  by_cases hj : j = k
  · rw [if_pos hj, if_pos (by omega), hj, ev]
  · rw [if_neg hj, e j hj]
theorem cel_6u {g : Gx} {ez : Nat} {ad : Nat → Nat → Nat} {u : MU} {Y : GS} {d m : Nat} {v : Int32} (hd : d < u.2.2.1 10) (hm : m < 4) : cel g ez ad (uI u 28 (4 * d + m) v) Y 6 d = some (arI g 4 (upd (clip 4 0 (fun j => u.1 28 (4 * d + j))) m v)) := by
  rw [cel_6 (u := uI u 28 (4 * d + m) v) hd]
  congr 2
  exact (clip_updI (h := fun j => (uI u 28 (4 * d + m) v).1 28 (4 * d + j)) hm (fun j hj => uI_ne (by omega)) uI_at).symm
set_option maxRecDepth 100000 in
theorem C_append {g : Gx} {l : Launch} {ez : Nat} (G : GOK g l ez) {sg : Sg} {ad : Nat → Nat → Nat} {u : MU} {Y : GS} (hS : CS g ez ad u Y sg) (hW : WN u) (hP : WP u) {d : Nat} (hd : d < u.2.2.1 10) {m : Nat} {v : Int32} (hm : m < 4) (he : u.1 29 d = nI m) : MM g l yX4_append cX4_append 2 none (rmC 1 0 0) sg [.ref (ad 5 d), .int v] (PS g ez ad u Y sg none (uI (uI u 28 (4 * d + m) v) 29 d (nI (m + 1)))) (noX) := by
  refine MM.of G.1 G.2.1 (by decide) (Nat.le_of_ble_eq_true rfl) (fun x hg hlx C hin hout hargs => ?_)
  subst hg; subst hlx
  have C : AWC x cX4_append 2 RX4 (rmC 1 0 0) none := C
  show AW x (RQ x _ _ _ _) 0 0 sg 0 [(0, .ref (ad 5 d)), (1, .int v)] []
  refine aw_aload_n C dX4_append_0 rfl rfl rfl ?_
  refine aw_getf C f_X4_15 (hS.Pp hd) rfl dX4_append_1 rfl ?_
  refine aw_aload_n C dX4_append_4 rfl rfl rfl ?_
  refine aw_getf C f_X4_9 (hS.Pp hd) rfl dX4_append_5 rfl ?_
  refine aw_alenI C (hS.Gr hd) dX4_append_8 rfl ?_
  refine aw_icmp_ge (tgt := 32) C dX4_append_9 (by decide) rfl (fun c9 => ?_) (fun c9 => ?_)
  · exact absurd c9 (fun z => absurd ((nI_leI (a := 4) (b := m) (by decide) (by omega)).mp (by rw [he] at z; exact z)) (by omega))
  · refine aw_aload_n C dX4_append_12 rfl rfl rfl ?_
    refine aw_getf C f_X4_9 (hS.Pp hd) rfl dX4_append_13 rfl ?_
    refine aw_aload_n C dX4_append_16 rfl rfl rfl ?_
    refine aw_getf C f_X4_15 (hS.Pp hd) rfl dX4_append_17 rfl ?_
    refine aw_iload_n C dX4_append_20 rfl rfl rfl ?_
    rw [he]
    refine cw_iast (m := m) (uI u 28 (4 * d + m) v) C hS CFr.rf SN.rf (cel_6 hd) rfl hm (by decide) (cel_6u hd hm) (fun a b hab => cel_uI hP hW (by decide) (fun z => hab ⟨z.1.symm, z.2.symm.trans (by show (4 * d + m) / 4 = d; omega)⟩)) rfl dX4_append_21 rfl (fun s1 hS1 hF1 => ?_)
    refine aw_aload_n C dX4_append_22 rfl rfl rfl ?_
    refine aw_dup C dX4_append_23 rfl rfl ?_
    refine aw_getf C f_X4_15 (hS1.Pp hd) rfl dX4_append_24 rfl ?_
    refine aw_iconst (v := 1) C dX4_append_27 rfl rfl ?_
    refine aw_iadd C dX4_append_28 rfl ?_
    rw [show (uI u 28 (4 * d + m) v).1 29 d = nI m from he, nI_1]
    refine cw_put (uI (uI u 28 (4 * d + m) v) 29 d (nI (m + 1))) C hS1 hF1 ⟨rfl, rfl, rfl, rfl, rfl⟩ f_X4_15 rfl (cel_5 hd) (by rw [cel_5 (u := (uI (uI u 28 (4 * d + m) v) 29 d (nI (m + 1)))) hd, uI_at] <;> rfl) (fun a b hab => cel_uI (hP.u (by decide)) hW (by decide) (fun z => hab ⟨z.1.symm, z.2.symm⟩)) rfl rfl rfl (Nat.le_of_ble_eq_true rfl) dX4_append_29 rfl (fun s2 hS2 hF2 => ?_)
    exact aw_vret C (Nat.le_of_ble_eq_true rfl) (Nat.le_of_ble_eq_true rfl) ⟨rfl, hS2, hF2⟩ dX4_append_32
theorem loseN_c29 {u : MU} {d m j : Nat} {v : Int32} : loseN (uI u 29 j v) d m = uI (loseN u d m) 29 j v := by
  induction m with
  | zero => rfl
  | succ m ih =>
    rw [loseN, loseN, ih, uI_comm (by decide)]
    rw [uI_ne (by omega)]
theorem loseN_r {u : MU} {d m a j : Nat} (h : a ≠ 28) : (loseN u d m).1 a j = u.1 a j := by
  induction m with
  | zero => rfl
  | succ m ih => rw [loseN, uI_ne (by omega), ih]
set_option maxRecDepth 100000 in
theorem C_dropFirst {g : Gx} {l : Launch} {ez : Nat} (G : GOK g l ez) {sg : Sg} {ad : Nat → Nat → Nat} {u : MU} {Y : GS} (hS : CS g ez ad u Y sg) (hW : WN u) (hP : WP u) {d : Nat} (hd : d < u.2.2.1 10) {m : Nat} (hm0 : 0 < m) (hm : m ≤ 4) (he : u.1 29 d = nI m) : MM g l yX4_dropFirst cX4_dropFirst 2 none (rmC 1 0 0) sg [.ref (ad 5 d)] (PS g ez ad u Y sg none (uI (loseN u d (m - 1)) 29 d (nI (m - 1)))) (noX) := by
  refine MM.of G.1 G.2.1 (by decide) (Nat.le_of_ble_eq_true rfl) (fun x hg hlx C hin hout hargs => ?_)
  subst hg; subst hlx
  have C : AWC x cX4_dropFirst 2 RX4 (rmC 1 0 0) none := C
  show AW x (RQ x _ _ _ _) 0 0 sg 0 [(0, .ref (ad 5 d))] []
  have hPl : ∀ k, WP (loseN u d k) := fun k p hp => by
    rw [loseN_r (by decide)]
    exact hP p hp
  have hNl : ∀ k, SN (loseN u d k) u := fun k => ⟨by rw [loseN_N], by rw [loseN_N], by rw [loseN_N], by rw [loseN_N], funext fun j => loseN_r (by decide)⟩
  have loop : ∀ (r i : Nat) (s1 : Sg), 0 < i → i + r = m → CS x.g ez ad (loseN u d (i - 1)) Y s1 → CFr x.g ez ad u Y sg s1 → AW x (RQ x (PS x.g ez ad u Y sg none (uI (loseN u d (m - 1)) 29 d (nI (m - 1)))) noX (rmC 1 0 0).cells (rmC 1 0 0).slots) 0 0 s1 2 [(0, .ref (ad 5 d)), (1, .int (nI i))] [] := by
    intro r
    induction r with
    | zero =>
      intro i s1 hi0 hi hS1 hF1
      obtain rfl : i = m := by omega
      have hd1 : d < (loseN u d (i - 1)).2.2.1 10 := by rw [loseN_N]; exact hd
      have he1 : (loseN u d (i - 1)).1 29 d = nI i := by rw [loseN_r (by decide), he]
      have hW1 : WN (loseN u d (i - 1)) := by unfold WN at *; rw [loseN_N]; exact hW
      refine aw_iload_n C dX4_dropFirst_2 rfl rfl rfl ?_
      refine aw_aload_n C dX4_dropFirst_3 rfl rfl rfl ?_
      refine aw_getf C f_X4_15 (hS1.Pp hd1) rfl dX4_dropFirst_4 rfl ?_
      refine aw_icmp_ge (tgt := 39) C dX4_dropFirst_7 (by decide) rfl (fun c7 => ?_) (fun c7 => ?_)
      · refine aw_aload_n C dX4_dropFirst_39 rfl rfl rfl ?_
        refine aw_getf C f_X4_15 (hS1.Pp hd1) rfl dX4_dropFirst_40 rfl ?_
        refine aw_if_le (tgt := 56) C dX4_dropFirst_43 (by decide) rfl (fun c43 => ?_) (fun c43 => ?_)
        · exact absurd c43 (by rw [he1]; exact nI_nle hi0 (by omega))
        · refine aw_aload_n C dX4_dropFirst_46 rfl rfl rfl ?_
          refine aw_dup C dX4_dropFirst_47 rfl rfl ?_
          refine aw_getf C f_X4_15 (hS1.Pp hd1) rfl dX4_dropFirst_48 rfl ?_
          refine aw_iconst (v := 1) C dX4_dropFirst_51 rfl rfl ?_
          refine aw_isub C dX4_dropFirst_52 rfl ?_
          rw [he1, show nI i - 1 = nI (i - 1) from pk_sub (b := 1) hi0]
          refine cw_put (uI (loseN u d (i - 1)) 29 d (nI (i - 1))) C hS1 hF1 (hNl _) f_X4_15 rfl (cel_5 hd1) (by rw [cel_5 (u := (uI (loseN u d (i - 1)) 29 d (nI (i - 1)))) hd1, uI_at] <;> rfl) (fun a b hab => cel_uI (hPl _) hW1 (by decide) (fun z => hab ⟨z.1.symm, z.2.symm⟩)) rfl rfl rfl (Nat.le_of_ble_eq_true rfl) dX4_dropFirst_53 rfl (fun s2 hS2 hF2 => ?_)
          exact aw_vret C (Nat.le_of_ble_eq_true rfl) (Nat.le_of_ble_eq_true rfl) ⟨rfl, hS2, hF2⟩ dX4_dropFirst_56
      · exact absurd c7 (by rw [he1]; exact fun z => z (by rw [Int32.le_iff_toInt_le]; omega))
    | succ r ih =>
      intro i s1 hi0 hi hS1 hF1
      have hd1 : d < (loseN u d (i - 1)).2.2.1 10 := by rw [loseN_N]; exact hd
      have he1 : (loseN u d (i - 1)).1 29 d = nI m := by rw [loseN_r (by decide), he]
      have hW1 : WN (loseN u d (i - 1)) := by unfold WN at *; rw [loseN_N]; exact hW
      have hrd : (loseN u d (i - 1)).1 28 (4 * d + i) = (loseN u d (i - 1)).1 28 (4 * d + ((i - 1) + 1)) := by rw [show i - 1 + 1 = i by omega]
      have hst : ∀ k, k ≤ i - 1 → (loseN u d k).1 28 (4 * d + i) = u.1 28 (4 * d + i) := fun k hk => by
        induction k with
        | zero => rfl
        | succ k ih2 => rw [loseN, uI_ne (by omega), ih2 (by omega)]
      refine aw_iload_n C dX4_dropFirst_2 rfl rfl rfl ?_
      refine aw_aload_n C dX4_dropFirst_3 rfl rfl rfl ?_
      refine aw_getf C f_X4_15 (hS1.Pp hd1) rfl dX4_dropFirst_4 rfl ?_
      refine aw_icmp_ge (tgt := 39) C dX4_dropFirst_7 (by decide) rfl (fun c7 => ?_) (fun c7 => ?_)
      · exact absurd c7 (by rw [he1, nI_leI (by omega) (by omega)]; omega)
      · refine aw_iload_n C dX4_dropFirst_10 rfl rfl rfl ?_
        refine aw_aload_n C dX4_dropFirst_11 rfl rfl rfl ?_
        refine aw_getf C f_X4_9 (hS1.Pp hd1) rfl dX4_dropFirst_12 rfl ?_
        refine aw_alenI C (hS1.Gr hd1) dX4_dropFirst_15 rfl ?_
        refine aw_icmp_ge (tgt := 39) C dX4_dropFirst_16 (by decide) rfl (fun c16 => ?_) (fun c16 => ?_)
        · exact absurd c16 (by rw [nI_leI (by omega) (by omega)]; omega)
        · refine aw_aload_n C dX4_dropFirst_19 rfl rfl rfl ?_
          refine aw_getf C f_X4_9 (hS1.Pp hd1) rfl dX4_dropFirst_20 rfl ?_
          refine aw_iload_n C dX4_dropFirst_23 rfl rfl rfl ?_
          refine aw_iconst (v := 1) C dX4_dropFirst_24 rfl rfl ?_
          refine aw_isub C dX4_dropFirst_25 rfl ?_
          rw [show nI i - 1 = nI (i - 1) from pk_sub (b := 1) hi0]
          refine aw_aload_n C dX4_dropFirst_26 rfl rfl rfl ?_
          refine aw_getf C f_X4_9 (hS1.Pp hd1) rfl dX4_dropFirst_27 rfl ?_
          refine aw_iload_n C dX4_dropFirst_30 rfl rfl rfl ?_
          refine aw_iald C (hS1.Gr hd1) (vp_in_nI (by omega) (by decide)) dX4_dropFirst_31 rfl ?_
          rw [nI_clamp (by omega), clip_in (by omega)]
          refine cw_iast (m := i - 1) (loseN u d (i - 1 + 1)) C hS1 hF1 (hNl _) (cel_6 hd1) rfl (by omega) (by decide) (by rw [loseN, cel_6u hd1 (by omega), ← hrd]) (fun a b hab => cel_uI (hPl _) hW1 (by decide) (fun z => hab ⟨z.1.symm, z.2.symm.trans (by show (4 * d + (i - 1)) / 4 = d; omega)⟩)) (by rw [loseN_N, loseN_N]) dX4_dropFirst_32 rfl (fun s2 hS2 hF2 => ?_)
          refine aw_iinc (v' := nI (i + 1)) (ls' := [(1, _), (0, _)]) C dX4_dropFirst_33 rfl (by decide) (nI_1 i) rfl rfl ?_
          refine aw_goto (tgt := 2) C dX4_dropFirst_36 (by decide) ?_
          refine aw_pick (ls' := [(0, _), (1, _)]) [1, 0] rfl ?_
          exact ih (i + 1) s2 (by omega) (by omega) (by rw [show i + 1 - 1 = (i - 1) + 1 by omega]; exact hS2) hF2
  refine aw_iconst (v := 1) C dX4_dropFirst_0 rfl rfl ?_
  refine aw_istore_n (ls' := [(1, _), (0, _)]) C dX4_dropFirst_1 rfl (by decide) rfl rfl ?_
  refine aw_pick (ls' := [(0, _), (1, _)]) [1, 0] rfl ?_
  exact loop (m - 1) 1 sg (by decide) (by omega) hS CFr.rf
