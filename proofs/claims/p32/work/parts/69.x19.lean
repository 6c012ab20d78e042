/-! the class: deeds come about -/
set_option maxRecDepth 100000 in
theorem C_iDeed {g : Gx} {l : Launch} {ez : Nat} (G : GOK g l ez) {sg : Sg} {q gv tk : Nat} {m k ab be : Int32} {th : Option Nat} (hs : sg q = some (ob 2 [.int 0, .int 0, .null, .null, .null, .int 0, .int 0, .null, .null, .int 0, .int 0, .int 0, .int 0, .int 0, .int 0])) : MM g l yX0_init cX0_init 8 none (rmC 4 2 20) sg [.ref q, .int m, .int k, .ref gv, .ref tk, va_rf th, .int ab, .int be] (fun w s' => w = none ∧ ∃ pa ga, sg pa = none ∧ sg ga = none ∧ s' pa = some (ob 6 [.ref ga, .int 0]) ∧ s' ga = some (arI g 4 (fun _ => 0)) ∧ s' q = some (ob 2 [.int m, .int k, .ref gv, .ref tk, va_rf th, .int ab, .int be, .ref pa, .null, .int 0, .int 0, .int 0, .int 0, .int (-1), .int (-1)]) ∧ ∀ c, c ≠ q → c ≠ pa → c ≠ ga → s' c = sg c) (noX) := by
  refine MM.of G.1 G.2.1 (by decide) (by cases th <;> exact Nat.le_of_ble_eq_true rfl) (fun x hg hlx C hin hout hargs => ?_)
  subst hg; subst hlx
  have C : AWC x cX0_init 8 RX0 (rmC 4 2 20) none := C
  have hla : lv_args 0 [.ref q, .int m, .int k, .ref gv, .ref tk, va_rf th, .int ab, .int be] = [(0, .ref q), (1, .int m), (2, .int k), (3, .ref gv), (4, .ref tk), (5, va_rf th), (6, .int ab), (7, .int be)] := by cases th <;> rfl
  show AW x (RQ x _ _ _ _) 0 0 sg 0 (lv_args 0 [.ref q, .int m, .int k, .ref gv, .ref tk, va_rf th, .int ab, .int be]) []
  rw [hla]
  refine aw_aload_n C dX0_init_0 rfl rfl rfl ?_
  refine aw_objI C (ws_of 454 (by decide +kernel)) (ws_of 84 (by decide +kernel)) (ws_of 85 (by decide +kernel)) (Nat.le_of_ble_eq_true rfl) (Nat.le_of_ble_eq_true rfl) dX0_init_1 rfl ?_
  refine aw_aload_n C dX0_init_4 rfl rfl rfl ?_
  refine aw_new (fs := [.null, .int 0]) C cf_X4 h_X0_9 h_new_X4 h_ini_X4 (fun j hj => match j, hj with | 0, _ => rfl | 1, _ => rfl | _ + 2, h => absurd h (by omega)) (Nat.le_of_ble_eq_true rfl) (Nat.le_of_ble_eq_true rfl) dX0_init_5 rfl (fun pa hpa => ?_)
  have npa := no_ne hs hpa
  refine aw_dup C dX0_init_8 rfl rfl ?_
  refine aw_callIN C k_X0_11 (C_iPapers G sgu_s) ⟨by decide, by decide⟩ rfl rfl (Nat.le_of_ble_eq_true rfl) (Nat.le_of_ble_eq_true rfl) (Nat.le_of_ble_eq_true rfl) dX0_init_9 rfl (fun _ _ q => ax_no q) (fun v1 s1 hq => ?_)
  obtain ⟨rfl, ga, hga0, hsg, hsp, hfr1⟩ := hq
  obtain ⟨nga2, hga⟩ := new2 hga0
  have nqg := no_ne hs hga
  have hsq := (hfr1 q npa nqg).trans ((sgu_n npa).trans hs)
  refine aw_putF (kf := 7) C hin cf_X0 (Nat.le_of_ble_eq_true rfl) (ws_of 484 (by decide +kernel)) rfl rfl hsq rfl rfl (Nat.le_of_ble_eq_true rfl) rfl dX0_init_12 rfl ?_
  refine aw_aload_n C dX0_init_15 rfl rfl rfl ?_
  refine aw_null C dX0_init_16 rfl ?_
  refine aw_putf C f_X0_18 rfl sgu_s rfl rfl (Nat.le_of_ble_eq_true rfl) rfl dX0_init_17 rfl ?_
  refine aw_aload_n C dX0_init_20 rfl rfl rfl ?_
  refine aw_iconst (v := 0) C dX0_init_21 rfl rfl ?_
  refine aw_putf C f_X0_22 rfl sgu_s rfl rfl (Nat.le_of_ble_eq_true rfl) rfl dX0_init_22 rfl ?_
  refine aw_aload_n C dX0_init_25 rfl rfl rfl ?_
  refine aw_iconst (v := 0) C dX0_init_26 rfl rfl ?_
  refine aw_putf C f_X0_26 rfl sgu_s rfl rfl (Nat.le_of_ble_eq_true rfl) rfl dX0_init_27 rfl ?_
  refine aw_aload_n C dX0_init_30 rfl rfl rfl ?_
  refine aw_iconst (v := 0) C dX0_init_31 rfl rfl ?_
  refine aw_putf C f_X0_29 rfl sgu_s rfl rfl (Nat.le_of_ble_eq_true rfl) rfl dX0_init_32 rfl ?_
  refine aw_aload_n C dX0_init_35 rfl rfl rfl ?_
  refine aw_iconst (v := 0) C dX0_init_36 rfl rfl ?_
  refine aw_putf C f_X0_32 rfl sgu_s rfl rfl (Nat.le_of_ble_eq_true rfl) rfl dX0_init_37 rfl ?_
  refine aw_aload_n C dX0_init_40 rfl rfl rfl ?_
  refine aw_iconst (v := -1) C dX0_init_41 rfl rfl ?_
  refine aw_putf C f_X0_35 rfl sgu_s rfl rfl (Nat.le_of_ble_eq_true rfl) rfl dX0_init_42 rfl ?_
  refine aw_aload_n C dX0_init_45 rfl rfl rfl ?_
  refine aw_iconst (v := -1) C dX0_init_46 rfl rfl ?_
  refine aw_putf C f_X0_38 rfl sgu_s rfl rfl (Nat.le_of_ble_eq_true rfl) rfl dX0_init_47 rfl ?_
  refine aw_aload_n C dX0_init_50 rfl rfl rfl ?_
  refine aw_iload_n C dX0_init_51 rfl rfl rfl ?_
  refine aw_putF (kf := 0) C hin cf_X0 (Nat.le_of_ble_eq_true rfl) (ws_of 470 (by decide +kernel)) rfl rfl sgu_s rfl rfl (Nat.le_of_ble_eq_true rfl) rfl dX0_init_52 rfl ?_
  refine aw_aload_n C dX0_init_55 rfl rfl rfl ?_
  refine aw_iload_n C dX0_init_56 rfl rfl rfl ?_
  refine aw_putF (kf := 1) C hin cf_X0 (Nat.le_of_ble_eq_true rfl) (ws_of 472 (by decide +kernel)) rfl rfl sgu_s rfl rfl (Nat.le_of_ble_eq_true rfl) rfl dX0_init_57 rfl ?_
  refine aw_aload_n C dX0_init_60 rfl rfl rfl ?_
  refine aw_aload_n C dX0_init_61 rfl rfl rfl ?_
  refine aw_putF (kf := 2) C hin cf_X0 (Nat.le_of_ble_eq_true rfl) (ws_of 474 (by decide +kernel)) rfl rfl sgu_s rfl rfl (Nat.le_of_ble_eq_true rfl) rfl dX0_init_62 rfl ?_
  refine aw_aload_n C dX0_init_65 rfl rfl rfl ?_
  refine aw_aload C dX0_init_66 rfl rfl ?_
  refine aw_putF (kf := 3) C hin cf_X0 (Nat.le_of_ble_eq_true rfl) (ws_of 476 (by decide +kernel)) rfl rfl sgu_s rfl rfl (Nat.le_of_ble_eq_true rfl) rfl dX0_init_68 rfl ?_
  refine aw_aload_n C dX0_init_71 rfl rfl rfl ?_
  refine aw_aloadq C dX0_init_72 rfl rfl ?_
  refine aw_putF (kf := 4) C hin cf_X0 (Nat.le_of_ble_eq_true rfl) (ws_of 478 (by decide +kernel)) rfl rfl sgu_s (nrw_rf _ _) (fit_rf _ _) (Nat.le_of_ble_eq_true rfl) rfl dX0_init_74 rfl ?_
  refine aw_aload_n C dX0_init_77 rfl rfl rfl ?_
  refine aw_iload C dX0_init_78 rfl rfl ?_
  refine aw_putF (kf := 5) C hin cf_X0 (Nat.le_of_ble_eq_true rfl) (ws_of 480 (by decide +kernel)) rfl rfl sgu_s rfl rfl (Nat.le_of_ble_eq_true rfl) rfl dX0_init_80 rfl ?_
  refine aw_aload_n C dX0_init_83 rfl rfl rfl ?_
  refine aw_iload C dX0_init_84 rfl rfl ?_
  refine aw_putF (kf := 6) C hin cf_X0 (Nat.le_of_ble_eq_true rfl) (ws_of 482 (by decide +kernel)) rfl rfl sgu_s rfl rfl (Nat.le_of_ble_eq_true rfl) rfl dX0_init_86 rfl ?_
  exact aw_vret C (Nat.le_of_ble_eq_true rfl) (Nat.le_of_ble_eq_true rfl) ⟨rfl, pa, ga, hpa, hga, (sgu_n (Ne.symm npa)).trans ((sgu_n (Ne.symm npa)).trans ((sgu_n (Ne.symm npa)).trans ((sgu_n (Ne.symm npa)).trans ((sgu_n (Ne.symm npa)).trans ((sgu_n (Ne.symm npa)).trans ((sgu_n (Ne.symm npa)).trans ((sgu_n (Ne.symm npa)).trans ((sgu_n (Ne.symm npa)).trans ((sgu_n (Ne.symm npa)).trans ((sgu_n (Ne.symm npa)).trans ((sgu_n (Ne.symm npa)).trans ((sgu_n (Ne.symm npa)).trans ((sgu_n (Ne.symm npa)).trans ((sgu_n (Ne.symm npa)).trans (hsp))))))))))))))), (sgu_n (Ne.symm nqg)).trans ((sgu_n (Ne.symm nqg)).trans ((sgu_n (Ne.symm nqg)).trans ((sgu_n (Ne.symm nqg)).trans ((sgu_n (Ne.symm nqg)).trans ((sgu_n (Ne.symm nqg)).trans ((sgu_n (Ne.symm nqg)).trans ((sgu_n (Ne.symm nqg)).trans ((sgu_n (Ne.symm nqg)).trans ((sgu_n (Ne.symm nqg)).trans ((sgu_n (Ne.symm nqg)).trans ((sgu_n (Ne.symm nqg)).trans ((sgu_n (Ne.symm nqg)).trans ((sgu_n (Ne.symm nqg)).trans ((sgu_n (Ne.symm nqg)).trans (hsg))))))))))))))), sgu_s, fun c h1 h2 h3 => (sgu_n h1).trans ((sgu_n h1).trans ((sgu_n h1).trans ((sgu_n h1).trans ((sgu_n h1).trans ((sgu_n h1).trans ((sgu_n h1).trans ((sgu_n h1).trans ((sgu_n h1).trans ((sgu_n h1).trans ((sgu_n h1).trans ((sgu_n h1).trans ((sgu_n h1).trans ((sgu_n h1).trans ((sgu_n h1).trans ((hfr1 c h2 h3).trans (sgu_n h2))))))))))))))))⟩ dX0_init_89
set_option maxRecDepth 100000 in
theorem C_keepDeed {g : Gx} {l : Launch} {ez : Nat} (G : GOK g l ez) {sg : Sg} {ad : Nat → Nat → Nat} {u : MU} {Y : GS} (hS : CS g ez ad u Y sg) {N : Nat} (hI : CI N u) {q : Nat} {m : Int32} {fs : List Value} (hq : sg q = some (ob 2 (.int m :: fs))) (hn : u.2.2.1 10 < 60) : MM g l yX8_keepDeed cX8_keepDeed 2 (some .int) (rmC 8 1 1000) sg [.ref (ad 0 0), .ref q] (fun w s' => w = some (.int m) ∧ ∃ qa, (sg qa = none ∨ 0 < ln u 2 ∧ qa = (if ln u 2 = 0 then ez else ad 2 2)) ∧ LH g ez s' (ad 1 2) qa (ln u 2 + 1) (fun j => if j = ln u 2 then q else ad (lk 2) j) ∧ ∀ a, a ≠ qa → a ≠ ad 1 2 → s' a = sg a) (noX) := by
  refine MM.of G.1 G.2.1 (by decide) (Nat.le_of_ble_eq_true rfl) (fun x hg hlx C hin hout hargs => ?_)
  subst hg; subst hlx
  have C : AWC x cX8_keepDeed 2 RX8 (rmC 8 1 1000) (some .int) := C
  show AW x (RQ x _ _ _ _) 0 0 sg 0 [(0, .ref (ad 0 0)), (1, .ref q)] []
  refine aw_aload_n C dX8_keepDeed_0 rfl rfl rfl ?_
  refine aw_getf C f_X8_19 hS.O rfl dX8_keepDeed_1 rfl ?_
  refine aw_aload_n C dX8_keepDeed_4 rfl rfl rfl ?_
  refine aw_callV C k_X8_64 (L_add G (v := q) (hS.H (i := 2) (by decide)) (by show u.2.2.1 10 < 109; omega) (ci := 2) rfl (fun i hi => ⟨_, hS.D hi⟩) hq) ⟨by decide, by decide⟩ (ci := 1) rfl (hS.L (i := 2) (by decide)) rfl rfl (Nat.le_of_ble_eq_true rfl) (Nat.le_of_ble_eq_true rfl) (Nat.le_of_ble_eq_true rfl) dX8_keepDeed_5 rfl (fun _ _ q => ax_no q) (fun v2 s2 hq2 => ?_)
  obtain ⟨rfl, qa, hqa, hL2, hfr2⟩ := hq2
  have nql : q ≠ ad 1 2 := fun z => by have := ob_ob (z ▸ hq) (hS.L (i := 2) (by decide)); omega
  have nqa : qa ≠ q := fun z => by
      rcases hqa with q0 | ⟨q1, q2⟩
      · rw [z, hq] at q0; cases q0
      · rw [if_neg (Nat.ne_of_gt q1)] at q2
        have := hS.E (i := 2) (by decide) q1
        rw [← q2, z, hq] at this
        cases this
  refine aw_pop C dX8_keepDeed_8 rfl rfl ?_
  refine aw_aload_n C dX8_keepDeed_9 rfl rfl rfl ?_
  refine aw_getf C f_X8_332 ((hfr2 q (Ne.symm nqa) nql).trans hq) rfl dX8_keepDeed_10 rfl ?_
  exact aw_iret C rfl (Nat.le_of_ble_eq_true rfl) (Nat.le_of_ble_eq_true rfl) ⟨rfl, qa, hqa, hL2, hfr2⟩ dX8_keepDeed_13
def upD6 (w : MU) (n : Nat) (s a b : Int32) : MU := uI (uI (uI (uI (uI (uI w 11 n s) 12 n a) 13 n b) 19 n (-1)) 24 n (-1)) 25 n (-1)
theorem cel_u11 {g : Gx} {ez : Nat} {ad : Nat → Nat → Nat} {u : MU} {Y : GS} {n k i : Nat} {v : Int32} (h : ¬ (KK 2 k ∧ i = n)) : cel g ez ad (uI u 11 n v) Y k i = cel g ez ad u Y k i := by
  match k with
  | 0 | 1 | 2 | 5 | 6 | 8 | 9 | 10 | 11 | 12 | _ + 13 => rfl
  | 3 =>
    show (if i < u.2.2.1 2 then some (ob 7 (pcl ad (uI u 11 n v) i)) else none) = (if i < u.2.2.1 2 then some (ob 7 (pcl ad u i)) else none)
    have e : pbN (uI u 11 n v) i = pbN u i := funext fun m => by
      induction m with
      | zero => rfl
      | succ m ih =>
        rw [pbN, pbN, ih]
        rfl
    unfold pcl pbits
    rw [e]
    rfl
  | 4 =>
    show (if i < u.2.2.1 10 then some (ob 2 (dcl ad (uI u 11 n v) i)) else none) = (if i < u.2.2.1 10 then some (ob 2 (dcl ad u i)) else none)
    have e : (uI u 11 n v).1 11 i = u.1 11 i := uI_ne (fun z => h ⟨Or.inr (Or.inr (Or.inl ⟨rfl, Or.inl rfl⟩)), z.2.symm⟩)
    unfold dcl
    rw [e]
    rfl
  | 7 =>
    show (if i < u.2.2.1 10 ∧ (uI u 11 n v).1 11 i = 3 then some (ob 4 (ncl ad (uI u 11 n v) i)) else none) = _
    have e : (uI u 11 n v).1 11 i = u.1 11 i := uI_ne (fun z => h ⟨Or.inr (Or.inr (Or.inl ⟨rfl, Or.inr (Or.inr (Or.inr rfl))⟩)), z.2.symm⟩)
    rw [e]
    rfl
theorem WP.u11 {u : MU} {n : Nat} {v : Int32} (h : WP u) : WP (uI u 11 n v) := h.u (by decide)
theorem k4 {k r i n : Nat} (h : ¬ (KK 2 k ∧ i = n)) (hr : kdOf r = 4 ∨ kdOf r = 7) (hx : ixOf r n = n) : ¬ (kdOf r = k ∧ ixOf r n = i) := fun z => h ⟨Or.inr (Or.inr (Or.inl ⟨rfl, by omega⟩)), by omega⟩
theorem upD6_cel {g : Gx} {ez : Nat} {ad : Nat → Nat → Nat} {w : MU} {Y : GS} {n k i : Nat} {s a b : Int32} (hP : WP w) (hW : WN w) (h : ¬ (KK 2 k ∧ i = n)) : cel g ez ad (upD6 w n s a b) Y k i = cel g ez ad w Y k i := by
  unfold upD6
  rw [cel_uI (((((hP.u (by decide)).u (by decide)).u (by decide)).u (by decide)).u (by decide)) hW (by decide) (k4 h (by decide) rfl), cel_uI ((((hP.u (by decide)).u (by decide)).u (by decide)).u (by decide)) hW (by decide) (k4 h (by decide) rfl), cel_uI (((hP.u (by decide)).u (by decide)).u (by decide)) hW (by decide) (k4 h (by decide) rfl), cel_uI ((hP.u (by decide)).u (by decide)) hW (by decide) (k4 h (by decide) rfl), cel_uI (hP.u (by decide)) hW (by decide) (k4 h (by decide) rfl), cel_u11 h]
theorem upD6_o {w : MU} {n r : Nat} {s a b : Int32} (h : ¬ r = 11 ∧ ¬ r = 12 ∧ ¬ r = 13 ∧ ¬ r = 19 ∧ ¬ r = 24 ∧ ¬ r = 25) : (upD6 w n s a b).1 r = w.1 r := by
  obtain ⟨h1, h2, h3, h4, h5, h6⟩ := h
  unfold upD6
  simp [uI, h1, h2, h3, h4, h5, h6]
theorem upD6_i {w : MU} {n : Nat} {s a b : Int32} : (upD6 w n s a b).1 11 n = s ∧ (upD6 w n s a b).1 12 n = a ∧ (upD6 w n s a b).1 13 n = b ∧ (upD6 w n s a b).1 19 n = -1 ∧ (upD6 w n s a b).1 24 n = -1 ∧ (upD6 w n s a b).1 25 n = -1 := by
  unfold upD6
  simp [uI, upd]
theorem ob_arI {fs : List Value} {c : Nat} {g : Gx} {N : Nat} {f : Nat → Int32} {s : Option va_E} (h1 : s = some (ob c fs)) (h2 : s = some (arI g N f)) : False := by
  rw [h1] at h2
  cases h2
theorem adN_k {ad : Nat → Nat → Nat} {l ea n k : Nat} {f : Nat → Nat} (h1 : ¬ k = 2) (h2 : ¬ KK l k) : adN ad l ea n f k = ad k := funext fun _ => adN_o (fun z => h1 z.1) (fun z => h2 z.1)
/-- a deed is kept -/
theorem CS.deed {N : Nat} {g : Gx} {ez : Nat} {ad : Nat → Nat → Nat} {u w : MU} {Y : GS} {sg s1 s2 : Sg} (hI : CI N u) (h : CS g ez ad u Y sg) {n qa q pa ga mq pg pt : Nat} {s : Int32} (hn : n = u.2.2.1 10) (hn60 : n < 60) (hpg : pg < u.2.2.1 2) (hpt : pt < u.2.2.1 2)
    (hw2 : w.2 = u.2) (hwP : WP w) (hwc : ∀ ad k i, ¬ (KK 2 k ∧ i = n) → cel g ez ad w Y k i = cel g ez ad u Y k i) (hwr : ∀ r, 20 ≤ r → w.1 r = u.1 r) (h1 : ∀ a, sg a ≠ none → s1 a = sg a)
    (hqa : s1 qa = none ∨ 0 < ln u 2 ∧ qa = (if ln u 2 = 0 then ez else ad 2 2)) (hL : LH g ez s2 (ad 1 2) qa (ln u 2 + 1) (fun j => if j = ln u 2 then q else ad (lk 2) j)) (hfr2 : ∀ a, a ≠ qa → a ≠ ad 1 2 → s2 a = s1 a)
    (hq0 : sg q = none) (hp0 : sg pa = none) (hg0 : sg ga = none) (hm0 : s = 3 → sg mq = none)
    (hq1 : s1 q = some (ob 2 [.int (nI n), .int s, .ref (ad 3 pg), .ref (ad 3 pt), va_rf (rfo (ad 8) (w.1 14 n)), .int (if s = 3 then 0 else w.1 15 n), .int (if s = 3 then 1 else w.1 16 n), .ref pa, va_rf (if s = 3 then some mq else none), .int 0, .int 0, .int 0, .int 0, .int (-1), .int (-1)]))
    (hp1 : s1 pa = some (ob 6 [.ref ga, .int 0])) (hg1 : s1 ga = some (arI g 4 (fun _ => 0))) (hm1 : s = 3 → s1 mq = some (ob 4 [.int (w.1 17 n), .int (w.1 18 n), .int 0, .int 0, .null])) : CR g ez ad u Y sg (upDrafts w s (nI pg) (nI pt)) s2 := by
  have hu : upDrafts w s (nI pg) (nI pt) = uN (upD6 w n s (nI pg) (nI pt)) (lcn 2) (n + 1) := by
    unfold upDrafts upD6
    rw [show w.2.2.1 10 = n from (by rw [hw2, hn])]
    rfl
  have hln : ln u 2 = n := hn.symm
  rw [hln] at hqa hL
  rw [hu]
  have h12 := hI.n2
  have n1 : q ≠ pa := fun z => by have := ob_ob (z ▸ hq1) hp1; omega
  have n2 : q ≠ ga := fun z => ob_arI (z ▸ hq1) hg1
  have n3 : pa ≠ ga := fun z => ob_arI (z ▸ hp1) hg1
  have m1 : s = 3 → q ≠ mq := fun e z => by have := ob_ob (z ▸ hq1) (hm1 e); omega
  have m2 : s = 3 → pa ≠ mq := fun e z => by have := ob_ob (z ▸ hp1) (hm1 e); omega
  have m3 : s = 3 → mq ≠ ga := fun e z => ob_arI (z ▸ hm1 e) hg1
  obtain ⟨i11, i12, i13, i19, i24, i25⟩ := upD6_i (w := w) (n := n) (s := s) (a := nI pg) (b := nI pt)
  have o : ∀ r, ¬ r = 11 ∧ ¬ r = 12 ∧ ¬ r = 13 ∧ ¬ r = 19 ∧ ¬ r = 24 ∧ ¬ r = 25 → (upD6 w n s (nI pg) (nI pt)).1 r = w.1 r := fun r hr => upD6_o hr
  obtain ⟨f, hf⟩ : ∃ f : Nat → Nat, f = fun k => if k = 4 then q else if k = 5 then pa else if k = 6 then ga else mq := ⟨_, rfl⟩
  have f4 : f 4 = q := by rw [hf]; rfl
  have f5 : f 5 = pa := by rw [hf]; rfl
  have f6 : f 6 = ga := by rw [hf]; rfl
  have f7 : f 7 = mq := by rw [hf]; rfl
  have K4 : KK 2 4 := Or.inr (Or.inr (Or.inl ⟨rfl, Or.inl rfl⟩))
  have K5 : KK 2 5 := Or.inr (Or.inr (Or.inl ⟨rfl, Or.inr (Or.inl rfl)⟩))
  have K6 : KK 2 6 := Or.inr (Or.inr (Or.inl ⟨rfl, Or.inr (Or.inr (Or.inl rfl))⟩))
  have K7 : KK 2 7 := Or.inr (Or.inr (Or.inl ⟨rfl, Or.inr (Or.inr (Or.inr rfl))⟩))
  have z22 : u.1 22 n = 0 := (hI.I.C n hn60).2.1 (by omega)
  obtain ⟨z29, z23, z28⟩ := hI.F n hn60 z22
  obtain ⟨z20, z21, z26, z27⟩ := hI.fd (d := n) (by omega) hn60
  have lt : n < (uN (upD6 w n s (nI pg) (nI pt)) (lcn 2) (n + 1)).2.2.1 10 := by
    rw [show (uN (upD6 w n s (nI pg) (nI pt)) (lcn 2) (n + 1)).2.2.1 10 = n + 1 from uN_at]
    omega
  have e4 : cel g ez (adN ad 2 qa n f) (uN (upD6 w n s (nI pg) (nI pt)) (lcn 2) (n + 1)) Y 4 n = some (ob 2 (dcl (adN ad 2 qa n f) (upD6 w n s (nI pg) (nI pt)) n)) := if_pos lt
  have e5 : cel g ez (adN ad 2 qa n f) (uN (upD6 w n s (nI pg) (nI pt)) (lcn 2) (n + 1)) Y 5 n = some (ob 6 [.ref (adN ad 2 qa n f 6 n), .int ((upD6 w n s (nI pg) (nI pt)).1 29 n)]) := if_pos lt
  have e6 : cel g ez (adN ad 2 qa n f) (uN (upD6 w n s (nI pg) (nI pt)) (lcn 2) (n + 1)) Y 6 n = some (arI g 4 (clip 4 0 (fun j => (upD6 w n s (nI pg) (nI pt)).1 28 (4 * n + j)))) := if_pos lt
  have e7 : cel g ez (adN ad 2 qa n f) (uN (upD6 w n s (nI pg) (nI pt)) (lcn 2) (n + 1)) Y 7 n = if n < (uN (upD6 w n s (nI pg) (nI pt)) (lcn 2) (n + 1)).2.2.1 10 ∧ (upD6 w n s (nI pg) (nI pt)).1 11 n = 3 then some (ob 4 (ncl (adN ad 2 qa n f) (upD6 w n s (nI pg) (nI pt)) n)) else none := rfl
  have d3 : s = 3 ∨ ¬ s = 3 := Classical.em _
  refine CR.of (CS.add (Y' := Y) (w := upD6 w n s (nI pg) (nI pt)) (f := f) hI.v h (l := 2) (n := n) (by decide) hn (fun z => by omega) (by show w.2.2.1 = u.2.2.1; rw [hw2]) (fun ad k i hk => (upD6_cel hwP (by unfold WN; rw [hw2]; exact hI.W) hk).trans (hwc ad k i hk)) h1 (by rw [hln]; exact hqa) (by rw [show f (lk 2) = q from f4]; exact hL) hfr2 (fun k e hk he => ?_) (fun k j hk hj c1 c2 e => ?_) (fun e he => rfl) (fun z => by omega)).1 (fun r => r.fr (by show (upD6 w n s (nI pg) (nI pt)).1 38 = _; rw [o 38 (by decide), hwr 38 (by decide)]) (by show w.2.1 33 = _; rw [hw2]) (by show w.2.1 34 = _; rw [hw2]) (by show w.2.2.1 31 = _; rw [hw2]) (by show w.2.2.1 35 = _; rw [hw2]) rfl rfl)
  · have hk1 : k = 4 ∨ k = 5 ∨ k = 6 ∨ k = 7 := by unfold KK at hk; omega
    rcases hk1 with rfl | rfl | rfl | rfl
    · rw [e4] at he
      rw [f4]
      refine ⟨?_, hq0⟩
      rw [hq1, ← he]
      unfold dcl
      rw [i11, i12, i13, i24, i25, nI_clamp (by omega), nI_clamp (by omega), o 14 (by decide), o 15 (by decide), o 16 (by decide), o 20 (by decide), o 21 (by decide), o 22 (by decide), o 23 (by decide), hwr 20 (by decide), hwr 21 (by decide), hwr 22 (by decide), hwr 23 (by decide), z20, z21, z22, z23, adN_k (k := 3) (by decide) (by decide), adN_k (k := 8) (by decide) (by decide), adN_n K5, f5, adN_n K7, f7]
    · rw [e5] at he
      rw [f5, hp1, ← he, adN_n K6, f6, o 29 (by decide), hwr 29 (by decide), z29]
      exact ⟨rfl, hp0⟩
    · rw [e6] at he
      rw [f6, hg1, ← he]
      refine ⟨congrArg (fun F => some (arI g 4 F)) (funext fun j => ?_), hg0⟩
      unfold clip
      by_cases hj : j < 4
      · rw [if_pos hj, o 28 (by decide), hwr 28 (by decide)]
        exact (z28 j hj).symm
      · rw [if_neg hj]
    · rw [e7] at he
      by_cases c : n < (uN (upD6 w n s (nI pg) (nI pt)) (lcn 2) (n + 1)).2.2.1 10 ∧ (upD6 w n s (nI pg) (nI pt)).1 11 n = 3
      · rw [if_pos c] at he
        have s3 : s = 3 := by rw [← i11]; exact c.2
        rw [f7, hm1 s3, ← he]
        refine ⟨?_, hm0 s3⟩
        unfold ncl
        rw [o 17 (by decide), o 18 (by decide), o 26 (by decide), o 27 (by decide), hwr 26 (by decide), hwr 27 (by decide), z26, z27, i19, rfo_m]
        rfl
      · rw [if_neg c] at he
        cases he
  · have hk1 : k = 4 ∨ k = 5 ∨ k = 6 ∨ k = 7 := by unfold KK at hk; omega
    have hj1 : j = 4 ∨ j = 5 ∨ j = 6 ∨ j = 7 := by unfold KK at hj; omega
    have s3 : ∀ c : Prop, cel g ez (adN ad 2 qa n f) (uN (upD6 w n s (nI pg) (nI pt)) (lcn 2) (n + 1)) Y 7 n ≠ none → s = 3 := fun _ z => by
      rw [e7] at z
      by_cases c : n < (uN (upD6 w n s (nI pg) (nI pt)) (lcn 2) (n + 1)).2.2.1 10 ∧ (upD6 w n s (nI pg) (nI pt)).1 11 n = 3
      · rw [← i11]; exact c.2
      · rw [if_neg c] at z
        exact absurd rfl z
    rcases hk1 with rfl | rfl | rfl | rfl <;> rcases hj1 with rfl | rfl | rfl | rfl
    · rfl
    · rw [f4, f5] at e; exact absurd e n1
    · rw [f4, f6] at e; exact absurd e n2
    · rw [f4, f7] at e; exact absurd e (m1 (s3 True c2))
    · rw [f4, f5] at e; exact absurd e.symm n1
    · rfl
    · rw [f5, f6] at e; exact absurd e n3
    · rw [f5, f7] at e; exact absurd e (m2 (s3 True c2))
    · rw [f4, f6] at e; exact absurd e.symm n2
    · rw [f5, f6] at e; exact absurd e.symm n3
    · rfl
    · rw [f6, f7] at e; exact absurd e.symm (m3 (s3 True c2))
    · rw [f4, f7] at e; exact absurd e.symm (m1 (s3 True c1))
    · rw [f5, f7] at e; exact absurd e.symm (m2 (s3 True c1))
    · rw [f6, f7] at e; exact absurd e (m3 (s3 True c1))
    · rfl
