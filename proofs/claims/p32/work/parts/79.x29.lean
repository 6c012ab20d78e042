/-! the class: succession, the estate, guardianships -/
theorem cap_0 {ch : Bool} : lvCap ch 0 1 = (0, 1) := by cases ch <;> rfl
theorem cap_t {ch : Bool} {s a : Nat} (h1 : ch = true) (h2 : a < 2 * s) : lvCap ch s a = (1, 2) := by
  unfold lvCap
  rw [h1, decide_eq_true h2]
  rfl
theorem cap_n {ch : Bool} {s a : Nat} (h : ch = false ∨ ¬ a < 2 * s) : lvCap ch s a = (s, a) := by
  unfold lvCap
  rcases h with h | h
  · rw [h, Bool.false_and]
    rfl
  · rw [decide_eq_false h, Bool.and_false]
    rfl
set_option maxRecDepth 100000 in
theorem C_successionOf {g : Gx} {l : Launch} {ez : Nat} (G : GOK g l ez) {sg : Sg} {ad : Nat → Nat → Nat} {u : MU} {Y : GS} (hS : CS g ez ad u Y sg) {N : Nat} (hI : CI N u) {p : Nat} (hp : p < u.2.2.1 2) (hNS : isCh u p (nI p) = false) : MM g l yX8_successionOf cX8_successionOf 6 (some (.object "DeedProtocol$Move")) (rmC 6 1 5) sg [.ref (ad 0 0), .ref (ad 3 p)] (fun v s' => ∃ q, v = some (.ref q) ∧ sg q = none ∧ s' q = some (ob 5 (vcl (MV u p))) ∧ ∀ c, c ≠ q → s' c = sg c) (noX) := by
  refine MM.of G.1 G.2.1 (by decide) (Nat.le_of_ble_eq_true rfl) (fun x hg hlx C hin hout hargs => ?_)
  subst hg; subst hlx
  have C : AWC x cX8_successionOf 6 RX8 (rmC 6 1 5) (some (.object "DeedProtocol$Move")) := C
  show AW x (RQ x _ _ _ _) 0 0 sg 0 [(0, .ref (ad 0 0)), (1, .ref (ad 3 p))] []
  have h12 := hI.n2
  have h60 := hI.n10
  have b1 := lcN_lt (u := u) (p := p) (cb := true) h12
  refine aw_aload_n C dX8_successionOf_0 rfl rfl rfl ?_
  refine aw_aload_n C dX8_successionOf_1 rfl rfl rfl ?_
  refine cw_callVp C k_X8_467 (C_livingChildren G hS hI hp) ⟨by decide, by decide⟩ (ci := 10) rfl hS.O rfl rfl (Nat.le_of_ble_eq_true rfl) (Nat.le_of_ble_eq_true rfl) (Nat.le_of_ble_eq_true rfl) dX8_successionOf_2 rfl ?_
  refine aw_istore_n (ls' := [(2, _), (0, _), (1, _)]) C dX8_successionOf_5 rfl (by decide) rfl rfl ?_
  refine aw_aload_n C dX8_successionOf_6 rfl rfl rfl ?_
  refine aw_aload_n C dX8_successionOf_7 rfl rfl rfl ?_
  refine cw_callVp C k_X8_471 (C_countingWill G hS hI hp) ⟨by decide, by decide⟩ (ci := 10) rfl hS.O rfl rfl (Nat.le_of_ble_eq_true rfl) (Nat.le_of_ble_eq_true rfl) (Nat.le_of_ble_eq_true rfl) dX8_successionOf_8 rfl ?_
  refine aw_astore_nq (ls' := [(3, _), (2, _), (0, _), (1, _)]) C dX8_successionOf_11 rfl (by decide) rfl rfl ?_
  rcases wi_facts hI hp with ⟨ew, s0, a0⟩ | ⟨j, x0, y0, b, hj, ej, hwj, e15, e16, hx1, hxy, hy1, hb, eb, hbp, k4, s0, a0⟩
  · have ew2 : willN u p (u.2.2.1 10) = -1 := ew
    rw [ew2, rfo_m]
    refine aw_aload_nN C dX8_successionOf_12 rfl rfl rfl ?_
    refine aw_ifnonnull (r := none) (tgt := 37) C dX8_successionOf_13 (by decide) rfl (fun _ z => nomatch z) (fun _ => ?_)
    refine aw_new (fs := [.int 0, .int 0, .int 0, .int 0, .int 0]) C cf_X3 h_X8_446 h_new_X3 h_ini_X3 (fun j hj => match j, hj with | 0, _ => rfl | 1, _ => rfl | 2, _ => rfl | 3, _ => rfl | 4, _ => rfl | _ + 5, h => absurd h (by omega)) (Nat.le_of_ble_eq_true rfl) (Nat.le_of_ble_eq_true rfl) dX8_successionOf_16 rfl (fun q hq => ?_)
    have hq0 := hq
    have hS0 := hS.ext (fr_new (e := ob 5 [.int 0, .int 0, .int 0, .int 0, .int 0]) hq)
    refine aw_dup C dX8_successionOf_19 rfl rfl ?_
    refine aw_aload_n C dX8_successionOf_20 rfl rfl rfl ?_
    refine aw_getf C f_X8_68 (hS0.P hp) rfl dX8_successionOf_21 rfl ?_
    refine aw_iconst (v := -1) C dX8_successionOf_24 rfl rfl ?_
    refine aw_iconst (v := 0) C dX8_successionOf_25 rfl rfl ?_
    refine aw_iconst (v := 1) C dX8_successionOf_26 rfl rfl ?_
    refine aw_aload_n C dX8_successionOf_27 rfl rfl rfl ?_
    refine aw_aload_n C dX8_successionOf_28 rfl rfl rfl ?_
    refine aw_iload_n C dX8_successionOf_29 rfl rfl rfl ?_
    refine cw_callVp C k_X8_475 (C_heirsOf G hS0 hI hp) ⟨by decide, by decide⟩ (ci := 10) rfl hS0.O rfl rfl (Nat.le_of_ble_eq_true rfl) (Nat.le_of_ble_eq_true rfl) (Nat.le_of_ble_eq_true rfl) dX8_successionOf_30 rfl ?_
    refine aw_callIN C k_X8_448 (C_iMove G (m := (nI p, -1, 0, 1, nI (hrM u p))) sgu_s) ⟨by decide, by decide⟩ rfl rfl (Nat.le_of_ble_eq_true rfl) (Nat.le_of_ble_eq_true rfl) (Nat.le_of_ble_eq_true rfl) dX8_successionOf_33 rfl (fun _ _ q => ax_no q) (fun v1 s1 hq => ?_)
    obtain ⟨rfl, hq1, hfr1⟩ := hq
    exact aw_aret (r := some _) C (Or.inl ⟨_, rfl⟩) (Nat.le_of_ble_eq_true rfl) (Nat.le_of_ble_eq_true rfl) ⟨q, rfl, hq0, (hq1.trans (by rw [MV, show tkX u p = -1 from if_pos ew, show soX u p = 0 from (by rw [soX, s0, a0, cap_0]), show alX u p = 1 from (by rw [alX, s0, a0, cap_0])] <;> rfl)), fun c hc => (hfr1 c hc).trans (sgu_n hc)⟩ dX8_successionOf_36
  · have ej2 : willN u p (u.2.2.1 10) = nI j := ej
    have n3 : ¬ u.1 11 j = 3 := by rw [k4]; decide
    rw [ej2, rfo_q (by omega)]
    refine aw_aload_n C dX8_successionOf_12 rfl rfl rfl ?_
    refine aw_ifnonnull (r := some _) (tgt := 37) C dX8_successionOf_13 (by decide) rfl (fun _ _ => ?_) (fun z => nomatch z)
    refine aw_aload_n C dX8_successionOf_37 rfl rfl rfl ?_
    refine aw_getf C f_X8_310 (hS.D hj) rfl dX8_successionOf_38 rfl ?_
    rw [if_neg n3, e15]
    refine aw_istore (ls' := [(4, _), (3, _), (2, _), (0, _), (1, _)]) C dX8_successionOf_41 (by decide) rfl rfl ?_
    refine aw_aload_n C dX8_successionOf_43 rfl rfl rfl ?_
    refine aw_getf C f_X8_313 (hS.D hj) rfl dX8_successionOf_44 rfl ?_
    rw [if_neg n3, e16]
    refine aw_istore (ls' := [(5, _), (4, _), (3, _), (2, _), (0, _), (1, _)]) C dX8_successionOf_47 (by decide) rfl rfl ?_
    refine aw_iload_n C dX8_successionOf_49 rfl rfl rfl ?_
    refine aw_if_eq (tgt := 68) C dX8_successionOf_50 (by decide) rfl (fun c50 => ?_) (fun c50 => ?_)
    · refine aw_new (fs := [.int 0, .int 0, .int 0, .int 0, .int 0]) C cf_X3 h_X8_446 h_new_X3 h_ini_X3 (fun j hj => match j, hj with | 0, _ => rfl | 1, _ => rfl | 2, _ => rfl | 3, _ => rfl | 4, _ => rfl | _ + 5, h => absurd h (by omega)) (Nat.le_of_ble_eq_true rfl) (Nat.le_of_ble_eq_true rfl) dX8_successionOf_68 rfl (fun q hq => ?_)
      have hq0 := hq
      have hS0 := hS.ext (fr_new (e := ob 5 [.int 0, .int 0, .int 0, .int 0, .int 0]) hq)
      refine aw_dup C dX8_successionOf_71 rfl rfl ?_
      refine aw_aload_n C dX8_successionOf_72 rfl rfl rfl ?_
      refine aw_getf C f_X8_68 (hS0.P hp) rfl dX8_successionOf_73 rfl ?_
      refine aw_aload_n C dX8_successionOf_76 rfl rfl rfl ?_
      refine aw_getf C f_X8_209 (hS0.D hj) rfl dX8_successionOf_77 rfl ?_
      rw [eb, nI_clamp (by omega)]
      refine aw_getf C f_X8_68 (hS0.P hb) rfl dX8_successionOf_80 rfl ?_
      refine aw_iload C dX8_successionOf_83 rfl rfl ?_
      refine aw_iload C dX8_successionOf_85 rfl rfl ?_
      refine aw_aload_n C dX8_successionOf_87 rfl rfl rfl ?_
      refine aw_aload_n C dX8_successionOf_88 rfl rfl rfl ?_
      refine aw_iload_n C dX8_successionOf_89 rfl rfl rfl ?_
      refine cw_callVp C k_X8_475 (C_heirsOf G hS0 hI hp) ⟨by decide, by decide⟩ (ci := 10) rfl hS0.O rfl rfl (Nat.le_of_ble_eq_true rfl) (Nat.le_of_ble_eq_true rfl) (Nat.le_of_ble_eq_true rfl) dX8_successionOf_90 rfl ?_
      refine aw_callIN C k_X8_448 (C_iMove G (m := (nI p, nI b, nI x0, nI y0, nI (hrM u p))) sgu_s) ⟨by decide, by decide⟩ rfl rfl (Nat.le_of_ble_eq_true rfl) (Nat.le_of_ble_eq_true rfl) (Nat.le_of_ble_eq_true rfl) dX8_successionOf_93 rfl (fun _ _ q => ax_no q) (fun v1 s1 hq => ?_)
      obtain ⟨rfl, hq1, hfr1⟩ := hq
      exact aw_aret (r := some _) C (Or.inl ⟨_, rfl⟩) (Nat.le_of_ble_eq_true rfl) (Nat.le_of_ble_eq_true rfl) ⟨q, rfl, hq0, (hq1.trans (by rw [MV, show tkX u p = nI b from (by rw [tkX, if_neg (by rw [ej]; exact nI_m1n (by omega)), ej, nI_clamp (by omega), eb]), show soX u p = x0 from (by rw [soX, s0, a0, cap_n (Or.inl (by rw [lc_ch hNS, decide_eq_true (show lcN u p true (u.2.2.1 2) = 0 from by rw [nI_z (by omega)] at c50; exact c50)]; rfl))]), show alX u p = y0 from (by rw [alX, s0, a0, cap_n (Or.inl (by rw [lc_ch hNS, decide_eq_true (show lcN u p true (u.2.2.1 2) = 0 from by rw [nI_z (by omega)] at c50; exact c50)]; rfl))])] <;> rfl)), fun c hc => (hfr1 c hc).trans (sgu_n hc)⟩ dX8_successionOf_96
    · refine aw_iconst (v := 2) C dX8_successionOf_53 rfl rfl ?_
      refine aw_iload C dX8_successionOf_54 rfl rfl ?_
      refine aw_imul C dX8_successionOf_56 rfl ?_
      refine aw_iload C dX8_successionOf_57 rfl rfl ?_
      refine aw_icmp_le (tgt := 68) C dX8_successionOf_59 (by decide) rfl (fun c59 => ?_) (fun c59 => ?_)
      · refine aw_new (fs := [.int 0, .int 0, .int 0, .int 0, .int 0]) C cf_X3 h_X8_446 h_new_X3 h_ini_X3 (fun j hj => match j, hj with | 0, _ => rfl | 1, _ => rfl | 2, _ => rfl | 3, _ => rfl | 4, _ => rfl | _ + 5, h => absurd h (by omega)) (Nat.le_of_ble_eq_true rfl) (Nat.le_of_ble_eq_true rfl) dX8_successionOf_68 rfl (fun q hq => ?_)
        have hq0 := hq
        have hS0 := hS.ext (fr_new (e := ob 5 [.int 0, .int 0, .int 0, .int 0, .int 0]) hq)
        refine aw_dup C dX8_successionOf_71 rfl rfl ?_
        refine aw_aload_n C dX8_successionOf_72 rfl rfl rfl ?_
        refine aw_getf C f_X8_68 (hS0.P hp) rfl dX8_successionOf_73 rfl ?_
        refine aw_aload_n C dX8_successionOf_76 rfl rfl rfl ?_
        refine aw_getf C f_X8_209 (hS0.D hj) rfl dX8_successionOf_77 rfl ?_
        rw [eb, nI_clamp (by omega)]
        refine aw_getf C f_X8_68 (hS0.P hb) rfl dX8_successionOf_80 rfl ?_
        refine aw_iload C dX8_successionOf_83 rfl rfl ?_
        refine aw_iload C dX8_successionOf_85 rfl rfl ?_
        refine aw_aload_n C dX8_successionOf_87 rfl rfl rfl ?_
        refine aw_aload_n C dX8_successionOf_88 rfl rfl rfl ?_
        refine aw_iload_n C dX8_successionOf_89 rfl rfl rfl ?_
        refine cw_callVp C k_X8_475 (C_heirsOf G hS0 hI hp) ⟨by decide, by decide⟩ (ci := 10) rfl hS0.O rfl rfl (Nat.le_of_ble_eq_true rfl) (Nat.le_of_ble_eq_true rfl) (Nat.le_of_ble_eq_true rfl) dX8_successionOf_90 rfl ?_
        refine aw_callIN C k_X8_448 (C_iMove G (m := (nI p, nI b, nI x0, nI y0, nI (hrM u p))) sgu_s) ⟨by decide, by decide⟩ rfl rfl (Nat.le_of_ble_eq_true rfl) (Nat.le_of_ble_eq_true rfl) (Nat.le_of_ble_eq_true rfl) dX8_successionOf_93 rfl (fun _ _ q => ax_no q) (fun v1 s1 hq => ?_)
        obtain ⟨rfl, hq1, hfr1⟩ := hq
        exact aw_aret (r := some _) C (Or.inl ⟨_, rfl⟩) (Nat.le_of_ble_eq_true rfl) (Nat.le_of_ble_eq_true rfl) ⟨q, rfl, hq0, (hq1.trans (by rw [MV, show tkX u p = nI b from (by rw [tkX, if_neg (by rw [ej]; exact nI_m1n (by omega)), ej, nI_clamp (by omega), eb]), show soX u p = x0 from (by rw [soX, s0, a0, cap_n (Or.inr (by rw [show (2 : Int32) = nI 2 from rfl, pk_mul, nI_leI (by omega) (by omega)] at c59; omega))]), show alX u p = y0 from (by rw [alX, s0, a0, cap_n (Or.inr (by rw [show (2 : Int32) = nI 2 from rfl, pk_mul, nI_leI (by omega) (by omega)] at c59; omega))])] <;> rfl)), fun c hc => (hfr1 c hc).trans (sgu_n hc)⟩ dX8_successionOf_96
      · refine aw_iconst (v := 1) C dX8_successionOf_62 rfl rfl ?_
        refine aw_istore (ls' := [(4, _), (5, _), (3, _), (2, _), (0, _), (1, _)]) C dX8_successionOf_63 (by decide) rfl rfl ?_
        refine aw_iconst (v := 2) C dX8_successionOf_65 rfl rfl ?_
        refine aw_istore (ls' := [(5, _), (4, _), (3, _), (2, _), (0, _), (1, _)]) C dX8_successionOf_66 (by decide) rfl rfl ?_
        refine aw_new (fs := [.int 0, .int 0, .int 0, .int 0, .int 0]) C cf_X3 h_X8_446 h_new_X3 h_ini_X3 (fun j hj => match j, hj with | 0, _ => rfl | 1, _ => rfl | 2, _ => rfl | 3, _ => rfl | 4, _ => rfl | _ + 5, h => absurd h (by omega)) (Nat.le_of_ble_eq_true rfl) (Nat.le_of_ble_eq_true rfl) dX8_successionOf_68 rfl (fun q hq => ?_)
        have hq0 := hq
        have hS0 := hS.ext (fr_new (e := ob 5 [.int 0, .int 0, .int 0, .int 0, .int 0]) hq)
        refine aw_dup C dX8_successionOf_71 rfl rfl ?_
        refine aw_aload_n C dX8_successionOf_72 rfl rfl rfl ?_
        refine aw_getf C f_X8_68 (hS0.P hp) rfl dX8_successionOf_73 rfl ?_
        refine aw_aload_n C dX8_successionOf_76 rfl rfl rfl ?_
        refine aw_getf C f_X8_209 (hS0.D hj) rfl dX8_successionOf_77 rfl ?_
        rw [eb, nI_clamp (by omega)]
        refine aw_getf C f_X8_68 (hS0.P hb) rfl dX8_successionOf_80 rfl ?_
        refine aw_iload C dX8_successionOf_83 rfl rfl ?_
        refine aw_iload C dX8_successionOf_85 rfl rfl ?_
        refine aw_aload_n C dX8_successionOf_87 rfl rfl rfl ?_
        refine aw_aload_n C dX8_successionOf_88 rfl rfl rfl ?_
        refine aw_iload_n C dX8_successionOf_89 rfl rfl rfl ?_
        refine cw_callVp C k_X8_475 (C_heirsOf G hS0 hI hp) ⟨by decide, by decide⟩ (ci := 10) rfl hS0.O rfl rfl (Nat.le_of_ble_eq_true rfl) (Nat.le_of_ble_eq_true rfl) (Nat.le_of_ble_eq_true rfl) dX8_successionOf_90 rfl ?_
        refine aw_callIN C k_X8_448 (C_iMove G (m := (nI p, nI b, 1, 2, nI (hrM u p))) sgu_s) ⟨by decide, by decide⟩ rfl rfl (Nat.le_of_ble_eq_true rfl) (Nat.le_of_ble_eq_true rfl) (Nat.le_of_ble_eq_true rfl) dX8_successionOf_93 rfl (fun _ _ q => ax_no q) (fun v1 s1 hq => ?_)
        obtain ⟨rfl, hq1, hfr1⟩ := hq
        exact aw_aret (r := some _) C (Or.inl ⟨_, rfl⟩) (Nat.le_of_ble_eq_true rfl) (Nat.le_of_ble_eq_true rfl) ⟨q, rfl, hq0, (hq1.trans (by rw [MV, show tkX u p = nI b from (by rw [tkX, if_neg (by rw [ej]; exact nI_m1n (by omega)), ej, nI_clamp (by omega), eb]), show soX u p = 1 from (by rw [soX, s0, a0, cap_t (by rw [lc_ch hNS, decide_eq_false (show ¬ lcN u p true (u.2.2.1 2) = 0 from fun z => c50 (by rw [z]; rfl))]; rfl) (by rw [show (2 : Int32) = nI 2 from rfl, pk_mul, nI_leI (by omega) (by omega)] at c59; omega)]), show alX u p = 2 from (by rw [alX, s0, a0, cap_t (by rw [lc_ch hNS, decide_eq_false (show ¬ lcN u p true (u.2.2.1 2) = 0 from fun z => c50 (by rw [z]; rfl))]; rfl) (by rw [show (2 : Int32) = nI 2 from rfl, pk_mul, nI_leI (by omega) (by omega)] at c59; omega)])] <;> rfl)), fun c hc => (hfr1 c hc).trans (sgu_n hc)⟩ dX8_successionOf_96
theorem dAll_f {u : MU} {p : Nat} {f : Nat → Nat → Rat} {m n : Nat} (h : m ≤ n) (hm : dAll u p f m = false) : dAll u p f n = false := by
  induction n with
  | zero => rw [show m = 0 by omega] at hm; exact hm
  | succ n ih =>
    by_cases e : m = n + 1
    · rw [e] at hm; exact hm
    · have := ih (by omega)
      rw [dAll]
      split
      · exact this
      · rw [this, Bool.and_false]
set_option maxRecDepth 100000 in
theorem C_countEstate {g : Gx} {l : Launch} {ez : Nat} (G : GOK g l ez) {sg : Sg} {ad : Nat → Nat → Nat} {u : MU} {Y : GS} (hS : CS g ez ad u Y sg) {N : Nat} (hI : CI N u) {p mq : Nat} (hp : p < u.2.2.1 2) (hNS : isCh u p (nI p) = false) {f : Nat → Nat → Rat} (hf : ∀ t, t < u.2.2.1 31 → (∀ k, k < 13 → HQ u 33 34 (13 * t + k) (f t k)) ∧ FOk (f t)) (hmv : sg mq = some (ob 5 (vcl (MV u p)))) : MM g l yX8_countEstateThings cX8_countEstateThings 6 (some .int) (rmC 8 1 60) sg [.ref (ad 0 0), .ref (ad 3 p), .ref mq] (fun v s' => v = some (.int (nI (dieC u p (u.2.2.1 31)))) ∧ dAll u p f (u.2.2.1 31) = true ∧ ∃ F1 F2, CS g ez ad u (Y.1, Y.2.1, F1, F2) s' ∧ ∀ c, c ≠ ad 10 8 → c ≠ ad 11 8 → s' c = sg c) (fun E s' => E = "java/lang/IllegalStateException" ∧ dAll u p f (u.2.2.1 31) = false ∧ ∃ F1 F2, CS g ez ad u (Y.1, Y.2.1, F1, F2) s' ∧ ∀ c, c ≠ ad 10 8 → c ≠ ad 11 8 → s' c = sg c) := by
  refine MM.of G.1 G.2.1 (by decide) (Nat.le_of_ble_eq_true rfl) (fun x hg hlx C hin hout hargs => ?_)
  subst hg; subst hlx
  have C : AWC x cX8_countEstateThings 6 RX8 (rmC 8 1 60) (some .int) := C
  show AW x (RQ x _ _ _ _) 0 0 sg 0 [(0, .ref (ad 0 0)), (1, .ref (ad 3 p)), (2, .ref mq)] []
  have h12 := hI.n2
  have h8 := hI.n31
  have loop : ∀ (r i : Nat) (s1 : Sg) (F1 F2 : Nat → Int64), i + r = u.2.2.1 31 → dAll u p f i = true → CS x.g ez ad u (Y.1, Y.2.1, F1, F2) s1 → (∀ c, c ≠ ad 10 8 → c ≠ ad 11 8 → s1 c = sg c) → AW x (RQ x (fun v s' => v = some (.int (nI (dieC u p (u.2.2.1 31)))) ∧ dAll u p f (u.2.2.1 31) = true ∧ ∃ F1 F2, CS x.g ez ad u (Y.1, Y.2.1, F1, F2) s' ∧ ∀ c, c ≠ ad 10 8 → c ≠ ad 11 8 → s' c = sg c) (fun E s' => E = "java/lang/IllegalStateException" ∧ dAll u p f (u.2.2.1 31) = false ∧ ∃ F1 F2, CS x.g ez ad u (Y.1, Y.2.1, F1, F2) s' ∧ ∀ c, c ≠ ad 10 8 → c ≠ ad 11 8 → s' c = sg c) (rmC 8 1 60).cells (rmC 8 1 60).slots) 0 0 s1 5 [(0, .ref (ad 0 0)), (1, .ref (ad 3 p)), (2, .ref mq), (3, .int (nI (dieC u p i))), (4, .int (nI i))] [] := by
    intro r
    induction r with
    | zero =>
      intro i s1 F1 F2 hi hd hS1 hfr
      refine aw_iload C dX8_countEstateThings_5 rfl rfl ?_
      refine aw_aload_n C dX8_countEstateThings_7 rfl rfl rfl ?_
      refine aw_getf C f_X8_16 hS1.O rfl dX8_countEstateThings_8 rfl ?_
      refine cw_callVp C k_X8_50 (L_size G (n := u.2.2.1 31) (hS1.L (i := 1) (by decide))) ⟨by decide, by decide⟩ (ci := 1) rfl (hS1.L (i := 1) (by decide)) rfl rfl (Nat.le_of_ble_eq_true rfl) (Nat.le_of_ble_eq_true rfl) (Nat.le_of_ble_eq_true rfl) dX8_countEstateThings_11 rfl ?_
      refine aw_icmp_ge (tgt := 76) C dX8_countEstateThings_14 (by decide) rfl (fun c14 => ?_) (fun c14 => ?_)
      · refine aw_iload_n C dX8_countEstateThings_76 rfl rfl rfl ?_
        exact aw_iret C rfl (Nat.le_of_ble_eq_true rfl) (Nat.le_of_ble_eq_true rfl) ⟨by rw [show i = u.2.2.1 31 by omega], by rw [← show i = u.2.2.1 31 by omega]; exact hd, F1, F2, hS1, hfr⟩ dX8_countEstateThings_77
      · exact absurd (by rw [nI_leI (by omega) (by omega)]; omega) c14
    | succ r ih =>
      intro i s1 F1 F2 hi hd hS1 hfr
      have hi1 : i < u.2.2.1 31 := by omega
      have rp := row_pos ((hf i hi1).1 p (by omega)) ((hf i hi1).2.s (by omega)).1
      refine aw_iload C dX8_countEstateThings_5 rfl rfl ?_
      refine aw_aload_n C dX8_countEstateThings_7 rfl rfl rfl ?_
      refine aw_getf C f_X8_16 hS1.O rfl dX8_countEstateThings_8 rfl ?_
      refine cw_callVp C k_X8_50 (L_size G (n := u.2.2.1 31) (hS1.L (i := 1) (by decide))) ⟨by decide, by decide⟩ (ci := 1) rfl (hS1.L (i := 1) (by decide)) rfl rfl (Nat.le_of_ble_eq_true rfl) (Nat.le_of_ble_eq_true rfl) (Nat.le_of_ble_eq_true rfl) dX8_countEstateThings_11 rfl ?_
      refine aw_icmp_ge (tgt := 76) C dX8_countEstateThings_14 (by decide) rfl (fun c14 => ?_) (fun c14 => ?_)
      · exact absurd c14 (fun z => by rw [nI_leI (by omega) (by omega)] at z; omega)
      · refine aw_aload_n C dX8_countEstateThings_17 rfl rfl rfl ?_
        refine aw_getf C f_X8_16 hS1.O rfl dX8_countEstateThings_18 rfl ?_
        refine aw_iload C dX8_countEstateThings_21 rfl rfl ?_
        refine cw_callVp C k_X8_355 (L_get G (hS1.H (i := 1) (by decide)) hi1 (by show u.2.2.1 31 ≤ 109; omega)) ⟨by decide, by decide⟩ (ci := 1) rfl (hS1.L (i := 1) (by decide)) rfl rfl (Nat.le_of_ble_eq_true rfl) (Nat.le_of_ble_eq_true rfl) (Nat.le_of_ble_eq_true rfl) dX8_countEstateThings_23 rfl ?_
        refine aw_cast C h_X8_111 (ci := 9) rfl (hS1.T hi1) dX8_countEstateThings_26 rfl ?_
        refine aw_astore (ls' := [(5, _), (0, _), (1, _), (2, _), (3, _), (4, _)]) C dX8_countEstateThings_29 (by decide) rfl rfl ?_
        refine aw_aload C dX8_countEstateThings_31 rfl rfl ?_
        refine aw_getf C f_X8_307 (hS1.T hi1) rfl dX8_countEstateThings_33 rfl ?_
        refine aw_aload_n C dX8_countEstateThings_36 rfl rfl rfl ?_
        refine aw_getf C f_X8_68 (hS1.P hp) rfl dX8_countEstateThings_37 rfl ?_
        refine cw_callVNp C k_X8_359 (C_isEmptyOf G (hS1.sh h8 hi1 (hf i hi1).1) (k := p) (by omega) ((hf i hi1).2.s (by omega)).1) ⟨by decide, by decide⟩ (ci := 8) rfl (hS1.S (Or.inl hi1)) rfl rfl (Nat.le_of_ble_eq_true rfl) (Nat.le_of_ble_eq_true rfl) (Nat.le_of_ble_eq_true rfl) dX8_countEstateThings_40 rfl ?_
        refine aw_if_ne (tgt := 70) C dX8_countEstateThings_43 (by decide) rfl (fun c43 => ?_) (fun c43 => ?_)
        · have c43 := tr_of c43
          refine aw_iinc (v' := nI (i + 1)) (ls' := [(4, _), (5, _), (0, _), (1, _), (2, _), (3, _)]) C dX8_countEstateThings_70 rfl (by decide) (nI_1 i) rfl rfl ?_
          refine aw_goto (tgt := 5) C dX8_countEstateThings_73 (by decide) ?_
          refine aw_pick (ls' := [(0, _), (1, _), (2, _), (3, _), (4, _)]) [2, 3, 4, 5, 0] rfl ?_
          have e0 := of_decide_eq_true c43
          have := ih (i + 1) s1 F1 F2 (by omega) (by rw [dAll, if_pos e0]; exact hd) hS1 hfr
          rw [dieC, if_neg (fun z => rp.mp z e0)] at this
          exact this
        · have c43 := fa_of c43
          refine aw_iinc (v' := nI (dieC u p i + 1)) (ls' := [(3, _), (5, _), (0, _), (1, _), (2, _), (4, _)]) C dX8_countEstateThings_46 rfl (by decide) (nI_1 (dieC u p i)) rfl rfl ?_
          refine aw_aload_n C dX8_countEstateThings_49 rfl rfl rfl ?_
          refine aw_aload C dX8_countEstateThings_50 rfl rfl ?_
          refine aw_aload_n C dX8_countEstateThings_52 rfl rfl rfl ?_
          refine aw_callV C k_X8_320 (C_leavesSmall G hS1 h8 hi1 (hf i hi1).1 (hf i hi1).2 (mo := some (mq, MV u p)) (MV_ok hI hp hNS) (fun a m z => by cases z; exact (hfr mq (no5 (hS.1 10 8 _ cel_t10) hmv) (no5 (hS.1 11 8 _ cel_t11) hmv)).trans hmv)) ⟨by decide, by decide⟩ (ci := 10) rfl hS1.O rfl rfl (Nat.le_of_ble_eq_true rfl) (Nat.le_of_ble_eq_true rfl) (Nat.le_of_ble_eq_true rfl) dX8_countEstateThings_53 rfl (fun _ _ q => ax_no q) (fun v3 s3 hq3 => ?_)
          obtain ⟨rfl, G1, G2, hS3, hfr3⟩ := hq3
          rw [show moF (some (mq, MV u p)) (f i) = mvF (MV u p) (f i) from rfl]
          have hfr4 : ∀ c, c ≠ ad 10 8 → c ≠ ad 11 8 → s3 c = sg c := fun c z1 z2 => (hfr3 c z1 z2).trans (hfr c z1 z2)
          refine aw_if_ne (tgt := 70) C dX8_countEstateThings_56 (by decide) rfl (fun c56 => ?_) (fun c56 => ?_)
          · have c56 := tr_of c56
            refine aw_iinc (v' := nI (i + 1)) (ls' := [(4, _), (3, _), (5, _), (0, _), (1, _), (2, _)]) C dX8_countEstateThings_70 rfl (by decide) (nI_1 i) rfl rfl ?_
            refine aw_goto (tgt := 5) C dX8_countEstateThings_73 (by decide) ?_
            refine aw_pick (ls' := [(0, _), (1, _), (2, _), (3, _), (4, _)]) [3, 4, 5, 1, 0] rfl ?_
            have e0 := of_decide_eq_false c43
            have := ih (i + 1) s3 G1 G2 (by omega) (by rw [dAll, if_neg e0, c56, hd]; rfl) hS3 hfr4
            rw [dieC, if_pos (rp.mpr e0)] at this
            exact this
          · have c56 := fa_of c56
            exact aw_thrW C G thS 29 rfl dX8_countEstateThings_59 dX8_countEstateThings_62 dX8_countEstateThings_63 dX8_countEstateThings_66 dX8_countEstateThings_69 hout ⟨by decide, (Nat.le_of_ble_eq_true rfl)⟩ (Nat.le_of_ble_eq_true rfl) (Nat.le_of_ble_eq_true rfl) ⟨rfl, dAll_f hi1 (by rw [dAll, if_neg (of_decide_eq_false c43), c56, Bool.false_and]), G1, G2, hS3, hfr4⟩ (Nat.le_of_ble_eq_true rfl) (Nat.le_of_ble_eq_true rfl)
  refine aw_iconst (v := 0) C dX8_countEstateThings_0 rfl rfl ?_
  refine aw_istore_n (ls' := [(3, _), (0, _), (1, _), (2, _)]) C dX8_countEstateThings_1 rfl (by decide) rfl rfl ?_
  refine aw_iconst (v := 0) C dX8_countEstateThings_2 rfl rfl ?_
  refine aw_istore (ls' := [(4, _), (3, _), (0, _), (1, _), (2, _)]) C dX8_countEstateThings_3 (by decide) rfl rfl ?_
  refine aw_pick (ls' := [(0, _), (1, _), (2, _), (3, _), (4, _)]) [2, 3, 4, 1, 0] rfl ?_
  exact loop (u.2.2.1 31) 0 sg Y.2.2.1 Y.2.2.2 (by omega) rfl hS (fun _ _ _ => rfl)
theorem dieG_ge {u : MU} {p i j : Nat} (h : i ≤ j) : (dieG u p i).1 9 j = u.1 9 j := by
  induction i with
  | zero => rfl
  | succ i ih =>
    rw [dieG, uI_ne (by omega)]
    exact ih (by omega)
theorem dieG_P {u : MU} {p m : Nat} (h : WP u) : WP (dieG u p m) := fun q hq => by rw [dieG_k (by decide)]; exact h q hq
theorem dieG_W {u : MU} {p m : Nat} (h : WN u) : WN (dieG u p m) := by
  unfold WN
  rw [dieG_2]
  exact h
set_option maxRecDepth 100000 in
theorem C_endGuard {g : Gx} {l : Launch} {ez : Nat} (G : GOK g l ez) {sg : Sg} {ad : Nat → Nat → Nat} {u : MU} {Y : GS} (hS : CS g ez ad u Y sg) (hV : CV u) (hP : WP u) (hW : WN u) {p : Nat} (hp : p < u.2.2.1 2) : MM g l yX8_endGuardianships cX8_endGuardianships 4 none (rmC 4 0 0) sg [.ref (ad 0 0), .ref (ad 3 p)] (fun v s' => v = none ∧ CS g ez ad (dieG u p (u.2.2.1 2)) Y s' ∧ CFr g ez ad u Y sg s') (noX) := by
  refine MM.of G.1 G.2.1 (by decide) (Nat.le_of_ble_eq_true rfl) (fun x hg hlx C hin hout hargs => ?_)
  subst hg; subst hlx
  have C : AWC x cX8_endGuardianships 4 RX8 (rmC 4 0 0) none := C
  show AW x (RQ x _ _ _ _) 0 0 sg 0 [(0, .ref (ad 0 0)), (1, .ref (ad 3 p))] []
  have h12 := hV.n2
  have loop : ∀ (r i : Nat) (s1 : Sg), i + r = u.2.2.1 2 → CS x.g ez ad (dieG u p i) Y s1 → CFr x.g ez ad u Y sg s1 → AW x (RQ x (fun v s' => v = none ∧ CS x.g ez ad (dieG u p (u.2.2.1 2)) Y s' ∧ CFr x.g ez ad u Y sg s') noX (rmC 4 0 0).cells (rmC 4 0 0).slots) 0 0 s1 2 [(0, .ref (ad 0 0)), (1, .ref (ad 3 p)), (2, .int (nI i))] [] := by
    intro r
    induction r with
    | zero =>
      intro i s1 hi hS1 hF1
      have eN : (dieG u p i).2.2.1 2 = u.2.2.1 2 := by rw [dieG_2]
      refine aw_iload_n C dX8_endGuardianships_2 rfl rfl rfl ?_
      refine aw_aload_n C dX8_endGuardianships_3 rfl rfl rfl ?_
      refine aw_getf C f_X8_12 hS1.O rfl dX8_endGuardianships_4 rfl ?_
      refine cw_callVp C k_X8_50 (L_size G (n := (dieG u p i).2.2.1 2) (hS1.L (i := 0) (by decide))) ⟨by decide, by decide⟩ (ci := 1) rfl (hS1.L (i := 0) (by decide)) rfl rfl (Nat.le_of_ble_eq_true rfl) (Nat.le_of_ble_eq_true rfl) (Nat.le_of_ble_eq_true rfl) dX8_endGuardianships_7 rfl ?_
      rw [eN]
      refine aw_icmp_ge (tgt := 44) C dX8_endGuardianships_10 (by decide) rfl (fun c10 => ?_) (fun c10 => ?_)
      · exact aw_vret C (Nat.le_of_ble_eq_true rfl) (Nat.le_of_ble_eq_true rfl) ⟨rfl, (by rw [← show i = u.2.2.1 2 by omega]; exact hS1), hF1⟩ dX8_endGuardianships_44
      · exact absurd (by rw [nI_leI (by omega) (by omega)]; omega) c10
    | succ r ih =>
      intro i s1 hi hS1 hF1
      have eN : (dieG u p i).2.2.1 2 = u.2.2.1 2 := by rw [dieG_2]
      have hi1 : i < u.2.2.1 2 := by omega
      have hi2 : i < (dieG u p i).2.2.1 2 := by omega
      have e9 : (dieG u p i).1 9 i = u.1 9 i := dieG_ge (Nat.le_refl i)
      have hSN : SN (dieG u p i) u := ⟨by rw [dieG_2], by rw [dieG_2], by rw [dieG_2], by rw [dieG_2], dieG_k (by decide)⟩
      rcases hV.gu hi1 with e9q | ⟨q, hq, e9q⟩
      · refine aw_iload_n C dX8_endGuardianships_2 rfl rfl rfl ?_
        refine aw_aload_n C dX8_endGuardianships_3 rfl rfl rfl ?_
        refine aw_getf C f_X8_12 hS1.O rfl dX8_endGuardianships_4 rfl ?_
        refine cw_callVp C k_X8_50 (L_size G (n := (dieG u p i).2.2.1 2) (hS1.L (i := 0) (by decide))) ⟨by decide, by decide⟩ (ci := 1) rfl (hS1.L (i := 0) (by decide)) rfl rfl (Nat.le_of_ble_eq_true rfl) (Nat.le_of_ble_eq_true rfl) (Nat.le_of_ble_eq_true rfl) dX8_endGuardianships_7 rfl ?_
        rw [eN]
        refine aw_icmp_ge (tgt := 44) C dX8_endGuardianships_10 (by decide) rfl (fun c10 => ?_) (fun c10 => ?_)
        · exact absurd c10 (fun z => by rw [nI_leI (by omega) (by omega)] at z; omega)
        · refine aw_aload_n C dX8_endGuardianships_13 rfl rfl rfl ?_
          refine aw_getf C f_X8_12 hS1.O rfl dX8_endGuardianships_14 rfl ?_
          refine aw_iload_n C dX8_endGuardianships_17 rfl rfl rfl ?_
          refine cw_callVp C k_X8_355 (L_get G (hS1.H (i := 0) (by decide)) hi2 (by show (dieG u p i).2.2.1 2 ≤ 109; omega)) ⟨by decide, by decide⟩ (ci := 1) rfl (hS1.L (i := 0) (by decide)) rfl rfl (Nat.le_of_ble_eq_true rfl) (Nat.le_of_ble_eq_true rfl) (Nat.le_of_ble_eq_true rfl) dX8_endGuardianships_18 rfl ?_
          refine aw_cast C h_X8_59 (ci := 7) rfl (hS1.P hi2) dX8_endGuardianships_21 rfl ?_
          refine aw_astore_n (ls' := [(3, _), (0, _), (1, _), (2, _)]) C dX8_endGuardianships_24 rfl (by decide) rfl rfl ?_
          refine aw_aload_n C dX8_endGuardianships_25 rfl rfl rfl ?_
          refine aw_getf C f_X8_102 (hS1.P hi2) rfl dX8_endGuardianships_26 rfl ?_
          rw [e9, e9q, rfo_m]
          refine aw_aload_n C dX8_endGuardianships_29 rfl rfl rfl ?_
          refine aw_acmp_ne (rx := none) (ry := some (ad 3 p)) (tgt := 38) C dX8_endGuardianships_30 (by decide) rfl (fun _ => ?_) (fun z => nomatch z)
          refine aw_iinc (v' := nI (i + 1)) (ls' := [(2, _), (3, _), (0, _), (1, _)]) C dX8_endGuardianships_38 rfl (by decide) (nI_1 i) rfl rfl ?_
          refine aw_goto (tgt := 2) C dX8_endGuardianships_41 (by decide) ?_
          refine aw_pick (ls' := [(0, _), (1, _), (2, _)]) [2, 3, 0] rfl ?_
          have hnx : dieG u p (i + 1) = dieG u p i := by rw [dieG, if_neg (by rw [e9, e9q]; exact fun z => nI_m1n (by omega) z.symm), uI_same rfl]
          exact ih (i + 1) s1 (by omega) (by rw [hnx]; exact hS1) hF1
      · have hpj : some (ad 3 q) = some (ad 3 p) ↔ q = p := hS1.pj (by omega) (by omega)
        refine aw_iload_n C dX8_endGuardianships_2 rfl rfl rfl ?_
        refine aw_aload_n C dX8_endGuardianships_3 rfl rfl rfl ?_
        refine aw_getf C f_X8_12 hS1.O rfl dX8_endGuardianships_4 rfl ?_
        refine cw_callVp C k_X8_50 (L_size G (n := (dieG u p i).2.2.1 2) (hS1.L (i := 0) (by decide))) ⟨by decide, by decide⟩ (ci := 1) rfl (hS1.L (i := 0) (by decide)) rfl rfl (Nat.le_of_ble_eq_true rfl) (Nat.le_of_ble_eq_true rfl) (Nat.le_of_ble_eq_true rfl) dX8_endGuardianships_7 rfl ?_
        rw [eN]
        refine aw_icmp_ge (tgt := 44) C dX8_endGuardianships_10 (by decide) rfl (fun c10 => ?_) (fun c10 => ?_)
        · exact absurd c10 (fun z => by rw [nI_leI (by omega) (by omega)] at z; omega)
        · refine aw_aload_n C dX8_endGuardianships_13 rfl rfl rfl ?_
          refine aw_getf C f_X8_12 hS1.O rfl dX8_endGuardianships_14 rfl ?_
          refine aw_iload_n C dX8_endGuardianships_17 rfl rfl rfl ?_
          refine cw_callVp C k_X8_355 (L_get G (hS1.H (i := 0) (by decide)) hi2 (by show (dieG u p i).2.2.1 2 ≤ 109; omega)) ⟨by decide, by decide⟩ (ci := 1) rfl (hS1.L (i := 0) (by decide)) rfl rfl (Nat.le_of_ble_eq_true rfl) (Nat.le_of_ble_eq_true rfl) (Nat.le_of_ble_eq_true rfl) dX8_endGuardianships_18 rfl ?_
          refine aw_cast C h_X8_59 (ci := 7) rfl (hS1.P hi2) dX8_endGuardianships_21 rfl ?_
          refine aw_astore_n (ls' := [(3, _), (0, _), (1, _), (2, _)]) C dX8_endGuardianships_24 rfl (by decide) rfl rfl ?_
          refine aw_aload_n C dX8_endGuardianships_25 rfl rfl rfl ?_
          refine aw_getf C f_X8_102 (hS1.P hi2) rfl dX8_endGuardianships_26 rfl ?_
          rw [e9, e9q, rfo_q (by omega)]
          refine aw_aload_n C dX8_endGuardianships_29 rfl rfl rfl ?_
          refine aw_acmp_ne (rx := some (ad 3 q)) (ry := some (ad 3 p)) (tgt := 38) C dX8_endGuardianships_30 (by decide) rfl (fun c30 => ?_) (fun c30 => ?_)
          · refine aw_iinc (v' := nI (i + 1)) (ls' := [(2, _), (3, _), (0, _), (1, _)]) C dX8_endGuardianships_38 rfl (by decide) (nI_1 i) rfl rfl ?_
            refine aw_goto (tgt := 2) C dX8_endGuardianships_41 (by decide) ?_
            refine aw_pick (ls' := [(0, _), (1, _), (2, _)]) [2, 3, 0] rfl ?_
            have hnx : dieG u p (i + 1) = dieG u p i := by rw [dieG, if_neg (by rw [e9, e9q, nI_eq (by omega) (by omega)]; exact fun z => c30 (hpj.mpr z)), uI_same rfl]
            exact ih (i + 1) s1 (by omega) (by rw [hnx]; exact hS1) hF1
          · refine aw_aload_n C dX8_endGuardianships_33 rfl rfl rfl ?_
            refine aw_null C dX8_endGuardianships_34 rfl ?_
            refine cw_put (i := 3) (j := i) (uI (dieG u p i) 9 i (-1)) C hS1 hF1 hSN f_X8_102 rfl (cel_3 hi2) (by rw [cel_3 (u := (uI (dieG u p i) 9 i (-1))) hi2, pset9, rfo_m] <;> rfl) (fun a b hab => cel_uI (dieG_P hP) (dieG_W hW) (by decide) (fun z => hab ⟨z.1.symm, z.2.symm⟩)) rfl rfl rfl (Nat.le_of_ble_eq_true rfl) dX8_endGuardianships_35 rfl (fun s2 hS2 hF2 => ?_)
            refine aw_iinc (v' := nI (i + 1)) (ls' := [(2, _), (3, _), (0, _), (1, _)]) C dX8_endGuardianships_38 rfl (by decide) (nI_1 i) rfl rfl ?_
            refine aw_goto (tgt := 2) C dX8_endGuardianships_41 (by decide) ?_
            refine aw_pick (ls' := [(0, _), (1, _), (2, _)]) [2, 3, 0] rfl ?_
            have hnx : dieG u p (i + 1) = uI (dieG u p i) 9 i (-1) := by rw [dieG, if_pos (by rw [e9, e9q, (hpj.mp c30)])]
            exact ih (i + 1) s2 (by omega) (by rw [hnx]; exact hS2) hF2
  refine aw_iconst (v := 0) C dX8_endGuardianships_0 rfl rfl ?_
  refine aw_istore_n (ls' := [(2, _), (0, _), (1, _)]) C dX8_endGuardianships_1 rfl (by decide) rfl rfl ?_
  refine aw_pick (ls' := [(0, _), (1, _), (2, _)]) [1, 2, 0] rfl ?_
  exact loop (u.2.2.1 2) 0 sg (by omega) hS CFr.rf
