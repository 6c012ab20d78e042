/-! the class: thing -/
theorem new2 {sg : Sg} {q a : Nat} {e : va_E} (h : sgu sg q e a = none) : a ≠ q ∧ sg a = none := by
  have n : a ≠ q := fun z => by rw [z, sgu_s] at h; cases h
  exact ⟨n, by rw [← h, sgu_n n]⟩
theorem clip_0 {n : Nat} : clip n (0 : Int64) (fun _ => 0) = fun _ => 0 := funext fun j => by
  unfold clip
  by_cases h : j < n
  · rw [if_pos h]
  · rw [if_neg h]
set_option maxRecDepth 100000 in
theorem C_iThing {g : Gx} {l : Launch} {ez : Nat} (G : GOK g l ez) {sg : Sg} {q p : Nat} {m v : Int32} (hs : sg q = some (ob 9 [.int 0, .int 0, .int 0, .null])) (hp : p < 2 ^ 31) : MM g l yX7_init cX7_init 4 none (rmC 4 3 40) sg [.ref q, .int m, .int (nI p), .int v] (fun w s' => w = none ∧ ∃ so a b, sg so = none ∧ sg a = none ∧ sg b = none ∧ SH g s' so a b (one p) ∧ s' q = some (ob 9 [.int m, .int (nI p), .int v, .ref so]) ∧ ∀ c, c ≠ q → c ≠ so → c ≠ a → c ≠ b → s' c = sg c) (noX) := by
  refine MM.of G.1 G.2.1 (by decide) (Nat.le_of_ble_eq_true rfl) (fun x hg hlx C hin hout hargs => ?_)
  subst hg; subst hlx
  have C : AWC x cX7_init 4 RX7 (rmC 4 3 40) none := C
  show AW x (RQ x _ _ _ _) 0 0 sg 0 [(0, .ref q), (1, .int m), (2, .int (nI p)), (3, .int v)] []
  refine aw_aload_n C dX7_init_0 rfl rfl rfl ?_
  refine aw_objI C (ws_of 383 (by decide +kernel)) (ws_of 84 (by decide +kernel)) (ws_of 85 (by decide +kernel)) (Nat.le_of_ble_eq_true rfl) (Nat.le_of_ble_eq_true rfl) dX7_init_1 rfl ?_
  refine aw_aload_n C dX7_init_4 rfl rfl rfl ?_
  refine aw_new (fs := [.null, .null]) C cf_X6 h_X7_7 h_new_X6 h_ini_X6 (fun j hj => match j, hj with | 0, _ => rfl | 1, _ => rfl | _ + 2, h => absurd h (by omega)) (Nat.le_of_ble_eq_true rfl) (Nat.le_of_ble_eq_true rfl) dX7_init_5 rfl (fun q2 hq2 => ?_)
  have nq2 := no_ne hs hq2
  refine aw_dup C dX7_init_8 rfl rfl ?_
  refine aw_callIN C k_X7_9 (C_iShares G sgu_s) ⟨by decide, by decide⟩ rfl rfl (Nat.le_of_ble_eq_true rfl) (Nat.le_of_ble_eq_true rfl) (Nat.le_of_ble_eq_true rfl) dX7_init_9 rfl (fun _ _ q => ax_no q) (fun v1 s1 hq => ?_)
  obtain ⟨rfl, a, b, ha0, hb0, nab, hsa, hsb, hsq2, hfr1⟩ := hq
  obtain ⟨na2, ha⟩ := new2 ha0
  obtain ⟨nb2, hb⟩ := new2 hb0
  have nqa := no_ne hs ha
  have nqb := no_ne hs hb
  have hsq := (hfr1 q nq2 nqa nqb).trans ((sgu_n nq2).trans hs)
  refine aw_putF (kf := 3) C hin cf_X7 (Nat.le_of_ble_eq_true rfl) (ws_of 395 (by decide +kernel)) rfl rfl hsq rfl rfl (Nat.le_of_ble_eq_true rfl) rfl dX7_init_12 rfl ?_
  refine aw_aload_n C dX7_init_15 rfl rfl rfl ?_
  refine aw_iload_n C dX7_init_16 rfl rfl rfl ?_
  refine aw_putF (kf := 0) C hin cf_X7 (Nat.le_of_ble_eq_true rfl) (ws_of 390 (by decide +kernel)) rfl rfl sgu_s rfl rfl (Nat.le_of_ble_eq_true rfl) rfl dX7_init_17 rfl ?_
  refine aw_aload_n C dX7_init_20 rfl rfl rfl ?_
  refine aw_iload_n C dX7_init_21 rfl rfl rfl ?_
  refine aw_putF (kf := 1) C hin cf_X7 (Nat.le_of_ble_eq_true rfl) (ws_of 392 (by decide +kernel)) rfl rfl sgu_s rfl rfl (Nat.le_of_ble_eq_true rfl) rfl dX7_init_22 rfl ?_
  refine aw_aload_n C dX7_init_25 rfl rfl rfl ?_
  refine aw_iload_n C dX7_init_26 rfl rfl rfl ?_
  refine aw_putF (kf := 2) C hin cf_X7 (Nat.le_of_ble_eq_true rfl) (ws_of 393 (by decide +kernel)) rfl rfl sgu_s rfl rfl (Nat.le_of_ble_eq_true rfl) rfl dX7_init_27 rfl ?_
  refine aw_aload_n C dX7_init_30 rfl rfl rfl ?_
  refine aw_getf C f_X7_10 sgu_s rfl dX7_init_31 rfl ?_
  refine aw_iload_n C dX7_init_34 rfl rfl rfl ?_
  refine aw_callVN C k_X7_26 (C_startWith G (so := q2) (a := a) (b := b) (F1 := fun _ => 0) (F2 := fun _ => 0) ⟨(sgu_n (Ne.symm nq2)).trans ((sgu_n (Ne.symm nq2)).trans ((sgu_n (Ne.symm nq2)).trans ((sgu_n (Ne.symm nq2)).trans hsq2))), (sgu_n (Ne.symm nqa)).trans ((sgu_n (Ne.symm nqa)).trans ((sgu_n (Ne.symm nqa)).trans ((sgu_n (Ne.symm nqa)).trans (hsa.trans (by rw [clip_0]))))), (sgu_n (Ne.symm nqb)).trans ((sgu_n (Ne.symm nqb)).trans ((sgu_n (Ne.symm nqb)).trans ((sgu_n (Ne.symm nqb)).trans (hsb.trans (by rw [clip_0]))))), nab⟩ (p := p) hp) ⟨by decide, by decide⟩ (ci := 8) rfl ((sgu_n (Ne.symm nq2)).trans ((sgu_n (Ne.symm nq2)).trans ((sgu_n (Ne.symm nq2)).trans ((sgu_n (Ne.symm nq2)).trans hsq2)))) rfl rfl (Nat.le_of_ble_eq_true rfl) (Nat.le_of_ble_eq_true rfl) (Nat.le_of_ble_eq_true rfl) dX7_init_35 rfl (fun _ _ q => ax_no q) (fun v3 s3 hq3 => ?_)
  obtain ⟨rfl, hSH, hfr3⟩ := hq3
  exact aw_vret C (Nat.le_of_ble_eq_true rfl) (Nat.le_of_ble_eq_true rfl) ⟨rfl, q2, a, b, hq2, ha, hb, hSH, (hfr3 q nqa nqb).trans sgu_s, fun c h1 h2 h3 h4 => (hfr3 c h3 h4).trans ((sgu_n h1).trans ((sgu_n h1).trans ((sgu_n h1).trans ((sgu_n h1).trans ((hfr1 c h2 h3 h4).trans (sgu_n h2))))))⟩ dX7_init_38
def upTh (u : MU) (v : Int32) (p : Nat) : MU := upRow (uI u 32 (u.2.2.1 31) v) (u.2.2.1 31) p 13
def Yth (u : MU) (Y : GS) (p : Nat) : GS := (Y.1, (fun j => if j = u.2.2.1 31 then p else Y.2.1 j), Y.2.2)
theorem cel_Y {g : Gx} {ez : Nat} {ad : Nat → Nat → Nat} {u : MU} {Y Z : GS} {k i : Nat} (h1 : Z.1 = Y.1) (h2 : k = 8 → Z.2.1 i = Y.2.1 i) (h3 : Z.2.2 = Y.2.2) : cel g ez ad u Z k i = cel g ez ad u Y k i := by
  match k with
  | 0 | 1 | 2 | 3 | 4 | 5 | 6 | 7 | 9 | _ + 13 => rfl
  | 8 =>
    show (if i < u.2.2.1 31 then some (ob 9 [.int (nI i), .int (nI (Z.2.1 i)), .int (u.1 32 i), .ref (ad 9 i)]) else none) = _
    rw [h2 rfl]
    rfl
  | 10 =>
    show (if i = 8 then some (arJ g 13 (clip 13 0 Z.2.2.1)) else if i < u.2.2.1 31 then some (arJ g 13 (clip 13 0 (fun j => u.2.1 33 (13 * i + j)))) else none) = _
    rw [h3]
    rfl
  | 11 =>
    show (if i = 8 then some (arJ g 13 (clip 13 0 Z.2.2.2)) else if i < u.2.2.1 31 then some (arJ g 13 (clip 13 0 (fun j => u.2.1 34 (13 * i + j)))) else none) = _
    rw [h3]
    rfl
  | 12 =>
    show (if i < u.2.2.1 35 then some (ob 3 (ecl ad u Z i)) else none) = (if i < u.2.2.1 35 then some (ob 3 (ecl ad u Y i)) else none)
    unfold ecl
    rw [h1]
theorem upRow_cel {g : Gx} {ez : Nat} {ad : Nat → Nat → Nat} {u : MU} {Y : GS} {t p m k i : Nat} (hm : m ≤ 13) (h : ¬ ((k = 10 ∨ k = 11) ∧ i = t)) : cel g ez ad (upRow u t p m) Y k i = cel g ez ad u Y k i := by
  induction m with
  | zero => rfl
  | succ m ih =>
    have e : (13 * t + m) / 13 = t := by omega
    rw [upRow, cel_uJ (r := 34) (i := 13 * t + m) (fun z => h ⟨Or.inr z.1.symm, z.2.symm.trans e⟩), cel_uJ (r := 33) (i := 13 * t + m) (fun z => h ⟨Or.inl z.1.symm, z.2.symm.trans e⟩)]
    exact ih (by omega)
theorem upTh_cel {N : Nat} {g : Gx} {ez : Nat} {ad : Nat → Nat → Nat} {u : MU} {Y : GS} {v : Int32} {p : Nat} (hI : CI N u) (k i : Nat) (hk : ¬ (KK 1 k ∧ i = u.2.2.1 31)) : cel g ez ad (upTh u v p) (Yth u Y p) k i = cel g ez ad u Y k i := by
  unfold upTh
  rw [upRow_cel (Nat.le_refl _) (fun z => hk ⟨Or.inr (Or.inl ⟨rfl, z.1.elim (fun q => Or.inr (Or.inr (Or.inl q))) (fun q => Or.inr (Or.inr (Or.inr q)))⟩), z.2⟩), cel_uI hI.P hI.W (by decide) (fun z => hk ⟨Or.inr (Or.inl ⟨rfl, Or.inl z.1.symm⟩), z.2.symm⟩)]
  exact cel_Y rfl (fun z => if_neg (fun q => hk ⟨Or.inr (Or.inl ⟨rfl, Or.inl z⟩), q⟩)) rfl
theorem upTh_N {u : MU} {v : Int32} {p : Nat} : (upTh u v p).2.2 = u.2.2 := by
  unfold upTh
  rw [upRow_N]
  rfl
theorem one_FOk {p : Nat} : FOk (one p) := fun k hk => by
  unfold one
  by_cases h : k = p
  · rw [if_pos h]; decide
  · rw [if_neg h]; decide
theorem upTh_RP {N : Nat} {u : MU} {Y : GS} {v : Int32} {p : Nat} (hI : CI N u) (hp : p < 13) (r : RP u Y) : RP (uN (upTh u v p) 31 (u.2.2.1 31 + 1)) (Yth u Y p) := by
  intro t ht
  have c35 : (uN (upTh u v p) 31 (u.2.2.1 31 + 1)).2.2.1 35 = u.2.2.1 35 := by rw [uN_ne (by decide), upTh_N]
  have r38 : (uN (upTh u v p) 31 (u.2.2.1 31 + 1)).1 38 = u.1 38 := by
    show (upTh u v p).1 38 = _
    unfold upTh
    rw [upRow_I]
    rfl
  rw [uN_at] at ht
  have h8 := hI.n31
  by_cases h : t = u.2.2.1 31
  · have e0 : (Yth u Y p).2.1 t = p := if_pos h
    refine ⟨by rw [e0]; exact hp, fun _ => one p, by rw [e0], fun _ _ => one_FOk, fun e he => ⟨fun z => ?_, fun _ => rfl⟩, fun k hk => ?_⟩
    · rw [c35] at he
      rw [r38] at z
      obtain ⟨s, hs, e38⟩ := hI.et he
      rw [e38, nI_eq (by omega) (by omega)] at z
      omega
    · obtain ⟨o1, o2, o3⟩ := one_t p k
      have hin := upRow_in (u := uI u 32 (u.2.2.1 31) v) (t := u.2.2.1 31) (p := p) (m := 13) hk
      refine ⟨o3, ?_, ?_⟩
      · show (upTh u v p).2.1 33 (13 * t + k) = _
        rw [h, o1]
        exact hin.1
      · show (upTh u v p).2.1 34 (13 * t + k) = _
        rw [h, o2]
        exact hin.2
  · have ht2 : t < u.2.2.1 31 := by omega
    obtain ⟨r1, F, f0, f1, f2, f3⟩ := r t ht2
    have e0 : (Yth u Y p).2.1 t = Y.2.1 t := if_neg h
    refine ⟨by rw [e0]; exact r1, F, by rw [e0]; exact f0, fun e he => f1 e (by rw [← c35]; exact he), fun e he => ?_, fun k hk => ?_⟩
    · rw [r38]
      exact f2 e (by rw [← c35]; exact he)
    · rw [c35]
      obtain ⟨q0, q1, q2⟩ := f3 k hk
      refine ⟨q0, ?_, ?_⟩
      · show (upTh u v p).2.1 33 (13 * t + k) = _
        rw [← q1]
        exact upRow_out (fun j hj => by omega)
      · show (upTh u v p).2.1 34 (13 * t + k) = _
        rw [← q2]
        exact upRow_out (fun j hj => by omega)
theorem ob_ar {fs : List Value} {c : Nat} {g : Gx} {N : Nat} {f : Nat → Int64} {s : Option va_E} (h1 : s = some (ob c fs)) (h2 : s = some (arJ g N f)) : False := by
  rw [h1] at h2
  cases h2
theorem ob_ob {a b : List Value} {c d : Nat} {s : Option va_E} (h1 : s = some (ob c a)) (h2 : s = some (ob d b)) : c = d := by
  rw [h1] at h2
  cases h2
  rfl
set_option maxRecDepth 100000 in
theorem F_thing {g : Gx} {l : Launch} {ez : Nat} (G : GOK g l ez) {sg : Sg} {ad : Nat → Nat → Nat} {u : MU} {Y : GS} (hS : CS g ez ad u Y sg) {N : Nat} (hI : CI N u) {v w : Int32} : MM g l yX8_thing cX8_thing 5 (some .int) (rmC 9 12 2000) sg [.ref (ad 0 0), .int v, .int w] (OPost g ez ad u Y sg (opThing u v w)) (OX g ez ad u Y sg x3 (opThing u v w)) := by
  refine MM.of G.1 G.2.1 (by decide) (Nat.le_of_ble_eq_true rfl) (fun x hg hlx C hin hout hargs => ?_)
  subst hg; subst hlx
  have C : AWC x cX8_thing 5 RX8 (rmC 9 12 2000) (some .int) := C
  show AW x (RQ x _ _ _ _) 0 0 sg 0 [(0, .ref (ad 0 0)), (1, .int v), (2, .int w)] []
  refine aw_aload_n C dX8_thing_0 rfl rfl rfl ?_
  refine aw_iload_n C dX8_thing_1 rfl rfl rfl ?_
  refine aw_callV C k_X8_71 (C_personAt G hS hI (v := v)) ⟨by decide, by decide⟩ (ci := 10) rfl hS.O rfl rfl (Nat.le_of_ble_eq_true rfl) (Nat.le_of_ble_eq_true rfl) (Nat.le_of_ble_eq_true rfl) dX8_thing_2 rfl (fun E s1 hx => ?_) (fun v1 s1 hq => ?_)
  · obtain ⟨rfl, hx, rfl⟩ := hx
    exact ax_out C hout (Nat.le_of_ble_eq_true rfl) (Nat.le_of_ble_eq_true rfl) (OX.of (c := 1) (r := 0) (w := u) (by simp [opThing, hx]) (by decide) rfl (CR.rf hS))
  obtain ⟨p, hp, rfl, rfl, hss⟩ := hq
  obtain rfl := hss.symm
  have ep := isP_in hI.W hp
  have kp : (nI p).toNatClampNeg = p := nI_clamp (by have := hI.n2; omega)
  refine aw_astore_n (ls' := [(3, _), (0, _), (1, _), (2, _)]) C dX8_thing_5 rfl (by decide) rfl rfl ?_
  refine aw_iload_n C dX8_thing_6 rfl rfl rfl ?_
  refine aw_iconst (v := 1) C dX8_thing_7 rfl rfl ?_
  refine aw_icmp_lt (tgt := 17) C dX8_thing_8 (by decide) rfl (fun c8 => ?_) (fun c8 => ?_)
  · exact aw_thr C G thA 7 rfl dX8_thing_17 dX8_thing_20 dX8_thing_21 dX8_thing_23 dX8_thing_26 hout ⟨by decide, (Nat.le_of_ble_eq_true rfl)⟩ (Nat.le_of_ble_eq_true rfl) (Nat.le_of_ble_eq_true rfl) (OX.of (c := 2) (r := 0) (w := u) (by rw [opThing, if_neg (by simp [ep]), if_pos (inB_f.mpr (Or.inl c8))]) (by decide) rfl (CR.rf hS)) (Nat.le_of_ble_eq_true rfl) (Nat.le_of_ble_eq_true rfl)
  · refine aw_iload_n C dX8_thing_11 rfl rfl rfl ?_
    refine aw_ldc C dX8_thing_12 q_X8_106 rfl ?_
    refine aw_icmp_le (tgt := 27) C dX8_thing_14 (by decide) rfl (fun c14 => ?_) (fun c14 => ?_)
    · refine aw_aload_n C dX8_thing_27 rfl rfl rfl ?_
      refine aw_getf C f_X8_16 hS.O rfl dX8_thing_28 rfl ?_
      refine cw_callVp C k_X8_50 (L_size G (n := u.2.2.1 31) (hS.L (i := 1) (by decide))) ⟨by decide, by decide⟩ (ci := 1) rfl (hS.L (i := 1) (by decide)) rfl rfl (Nat.le_of_ble_eq_true rfl) (Nat.le_of_ble_eq_true rfl) (Nat.le_of_ble_eq_true rfl) dX8_thing_31 rfl ?_
      refine aw_bipush (v := 8) C dX8_thing_34 rfl rfl ?_
      refine aw_icmp_ge (tgt := 46) C dX8_thing_36 (by decide) rfl (fun c36 => ?_) (fun c36 => ?_)
      · exact aw_thr C G thS 8 rfl dX8_thing_46 dX8_thing_49 dX8_thing_50 dX8_thing_52 dX8_thing_55 hout ⟨by decide, (Nat.le_of_ble_eq_true rfl)⟩ (Nat.le_of_ble_eq_true rfl) (Nat.le_of_ble_eq_true rfl) (OX.of (c := 3) (r := 0) (w := u) (by rw [opThing, if_neg (by simp [ep]), if_neg (by rw [show inB w 1 1000000 = true from inB_t.mpr ⟨c8, Int32.not_lt.mpr c14⟩]; decide), kp, if_pos (Or.inl (by have h8 := hI.n31; have := mt (nI_ltI (a := u.2.2.1 31) (b := 8) (by omega) (by decide)).mpr (Int32.not_lt.mpr c36); rw [show u.2.2.1 31 = 8 by omega]; rfl))]) (by decide) rfl (CR.rf hS)) (Nat.le_of_ble_eq_true rfl) (Nat.le_of_ble_eq_true rfl)
      · refine aw_aload_n C dX8_thing_39 rfl rfl rfl ?_
        refine aw_getf C f_X8_96 (hS.P hp) rfl dX8_thing_40 rfl ?_
        refine aw_if_ne (tgt := 56) C dX8_thing_43 (by decide) rfl (fun c43 => ?_) (fun c43 => ?_)
        · have c43 := tr_of c43
          have hn : u.2.2.1 31 < 8 := by have h8 := hI.n31; exact (nI_ltI (b := 8) (by omega) (by decide)).mp (Int32.not_le.mp c36)
          refine aw_new (fs := [.int 0, .int 0, .int 0, .null]) C cf_X7 h_X8_111 h_new_X7 h_ini_X7 (fun j hj => match j, hj with | 0, _ => rfl | 1, _ => rfl | 2, _ => rfl | 3, _ => rfl | _ + 4, h => absurd h (by omega)) (Nat.le_of_ble_eq_true rfl) (Nat.le_of_ble_eq_true rfl) dX8_thing_56 rfl (fun q hq => ?_)
          have hq0 := hq
          have hS0 := hS.ext (fr_new (e := ob 9 [.int 0, .int 0, .int 0, .null]) hq)
          refine aw_dup C dX8_thing_59 rfl rfl ?_
          refine aw_aload_n C dX8_thing_60 rfl rfl rfl ?_
          refine aw_getf C f_X8_16 hS0.O rfl dX8_thing_61 rfl ?_
          refine cw_callVp C k_X8_50 (L_size G (n := u.2.2.1 31) (hS0.L (i := 1) (by decide))) ⟨by decide, by decide⟩ (ci := 1) rfl (hS0.L (i := 1) (by decide)) rfl rfl (Nat.le_of_ble_eq_true rfl) (Nat.le_of_ble_eq_true rfl) (Nat.le_of_ble_eq_true rfl) dX8_thing_64 rfl ?_
          refine aw_aload_n C dX8_thing_67 rfl rfl rfl ?_
          refine aw_getf C f_X8_68 (hS0.P hp) rfl dX8_thing_68 rfl ?_
          refine aw_iload_n C dX8_thing_71 rfl rfl rfl ?_
          refine aw_callIN C k_X8_113 (C_iThing G (p := p) sgu_s (by have := hI.n2; omega)) ⟨by decide, by decide⟩ rfl rfl (Nat.le_of_ble_eq_true rfl) (Nat.le_of_ble_eq_true rfl) (Nat.le_of_ble_eq_true rfl) dX8_thing_72 rfl (fun _ _ q => ax_no q) (fun v1 s1 hq => ?_)
          obtain ⟨rfl, so, a, b, hso0, ha0, hb0, hSH, hq1, hfr1⟩ := hq
          have hso := (new2 hso0).2
          have ha := (new2 ha0).2
          have hb := (new2 hb0).2
          have h1 : ∀ c, sg c ≠ none → s1 c = sg c := fun c hc => (hfr1 c (fun z => hc (by rw [z]; exact hq0)) (fun z => hc (by rw [z]; exact hso)) (fun z => hc (by rw [z]; exact ha)) (fun z => hc (by rw [z]; exact hb))).trans (fr_new hq0 c hc)
          have hS1 := hS.ext h1
          have hLs := hS1.L (i := 1) (by decide)
          refine aw_astore (ls' := [(4, _), (3, _), (0, _), (1, _), (2, _)]) C dX8_thing_75 (by decide) rfl rfl ?_
          refine aw_aload_n C dX8_thing_77 rfl rfl rfl ?_
          refine aw_getf C f_X8_16 hS1.O rfl dX8_thing_78 rfl ?_
          refine aw_aload C dX8_thing_81 rfl rfl ?_
          refine aw_callV C k_X8_64 (L_add G (v := q) (hS1.H (i := 1) (by decide)) (by show u.2.2.1 31 < 109; omega) (ci := 9) rfl (fun i hi => ⟨_, hS1.T hi⟩) hq1) ⟨by decide, by decide⟩ (ci := 1) rfl hLs rfl rfl (Nat.le_of_ble_eq_true rfl) (Nat.le_of_ble_eq_true rfl) (Nat.le_of_ble_eq_true rfl) dX8_thing_83 rfl (fun _ _ q => ax_no q) (fun v2 s2 hq2 => ?_)
          obtain ⟨rfl, qa, hqa, hL2, hfr2⟩ := hq2
          have hj : ∀ k j, KK 1 k → KK 1 j → (if k = 8 then q else if k = 9 then so else if k = 10 then a else b) = (if j = 8 then q else if j = 9 then so else if j = 10 then a else b) → k = j := by
            have n1 : q ≠ so := fun z => by have := ob_ob (z ▸ hq1) hSH.1; omega
            have n2 : q ≠ a := fun z => ob_ar (z ▸ hq1) hSH.2.1
            have n3 : q ≠ b := fun z => ob_ar (z ▸ hq1) hSH.2.2.1
            have n4 : so ≠ a := fun z => ob_ar (z ▸ hSH.1) hSH.2.1
            have n5 : so ≠ b := fun z => ob_ar (z ▸ hSH.1) hSH.2.2.1
            have n6 : a ≠ b := hSH.2.2.2.1
            intro k j hk hj2 e
            have hk1 : k = 8 ∨ k = 9 ∨ k = 10 ∨ k = 11 := by unfold KK at hk; omega
            have hj1 : j = 8 ∨ j = 9 ∨ j = 10 ∨ j = 11 := by unfold KK at hj2; omega
            rcases hk1 with rfl | rfl | rfl | rfl <;> rcases hj1 with rfl | rfl | rfl | rfl <;> first | rfl | exact absurd e n1 | exact absurd e n2 | exact absurd e n3 | exact absurd e n4 | exact absurd e n5 | exact absurd e n6 | exact absurd e.symm n1 | exact absurd e.symm n2 | exact absurd e.symm n3 | exact absurd e.symm n4 | exact absurd e.symm n5 | exact absurd e.symm n6
          have cn : (uN (upTh u w p) (lcn 1) (u.2.2.1 31 + 1)).2.2.1 31 = u.2.2.1 31 + 1 := uN_at
          obtain ⟨hCQ, hfr⟩ := CS.add (Y' := Yth u Y p) (w := upTh u w p) (f := fun k => if k = 8 then q else if k = 9 then so else if k = 10 then a else b) hI.v hS (l := 1) (n := u.2.2.1 31) (by decide) rfl (fun _ => hn) (by rw [upTh_N]) (fun ad k i hk => upTh_cel hI k i hk) h1 hqa hL2 hfr2 (fun k e hk he => by
              have hk1 : k = 8 ∨ k = 9 ∨ k = 10 ∨ k = 11 := by unfold KK at hk; omega
              have a9 : adN ad 1 qa (u.2.2.1 31) (fun k => if k = 8 then q else if k = 9 then so else if k = 10 then a else b) 9 (u.2.2.1 31) = so := adN_n (Or.inr (Or.inl ⟨rfl, Or.inr (Or.inl rfl)⟩))
              have a10 : adN ad 1 qa (u.2.2.1 31) (fun k => if k = 8 then q else if k = 9 then so else if k = 10 then a else b) 10 (u.2.2.1 31) = a := adN_n (Or.inr (Or.inl ⟨rfl, Or.inr (Or.inr (Or.inl rfl))⟩))
              have a11 : adN ad 1 qa (u.2.2.1 31) (fun k => if k = 8 then q else if k = 9 then so else if k = 10 then a else b) 11 (u.2.2.1 31) = b := adN_n (Or.inr (Or.inl ⟨rfl, Or.inr (Or.inr (Or.inr rfl))⟩))
              have lt : u.2.2.1 31 < (uN (upTh u w p) (lcn 1) (u.2.2.1 31 + 1)).2.2.1 31 := by omega
              rcases hk1 with rfl | rfl | rfl | rfl
              · rw [show cel x.g ez (adN ad 1 qa (u.2.2.1 31) (fun k => if k = 8 then q else if k = 9 then so else if k = 10 then a else b)) (uN (upTh u w p) (lcn 1) (u.2.2.1 31 + 1)) (Yth u Y p) 8 (u.2.2.1 31) = _ from if_pos lt, a9, show (Yth u Y p).2.1 (u.2.2.1 31) = p from if_pos rfl, show (uN (upTh u w p) (lcn 1) (u.2.2.1 31 + 1)).1 32 (u.2.2.1 31) = w from (by
                  show (upTh u w p).1 32 _ = w
                  unfold upTh
                  rw [upRow_I]
                  exact uI_at)] at he
                exact ⟨hq1.trans he, hq0⟩
              · rw [show cel x.g ez (adN ad 1 qa (u.2.2.1 31) (fun k => if k = 8 then q else if k = 9 then so else if k = 10 then a else b)) (uN (upTh u w p) (lcn 1) (u.2.2.1 31 + 1)) (Yth u Y p) 9 (u.2.2.1 31) = _ from if_pos (Or.inl lt), a10, a11] at he
                exact ⟨hSH.1.trans he, hso⟩
              · rw [show cel x.g ez (adN ad 1 qa (u.2.2.1 31) (fun k => if k = 8 then q else if k = 9 then so else if k = 10 then a else b)) (uN (upTh u w p) (lcn 1) (u.2.2.1 31 + 1)) (Yth u Y p) 10 (u.2.2.1 31) = some (arJ x.g 13 (clip 13 0 (fun j => (upTh u w p).2.1 33 (13 * u.2.2.1 31 + j)))) from (if_neg (by omega)).trans (if_pos lt)] at he
                refine ⟨(hSH.2.1.trans (congrArg (fun F => some (arJ x.g 13 F)) (clip_cg (fun k hk => ?_)))).trans he, ha⟩
                rw [(one_t p k).1]
                exact (upRow_in (u := uI u 32 (u.2.2.1 31) w) (t := u.2.2.1 31) (p := p) (m := 13) hk).1.symm
              · rw [show cel x.g ez (adN ad 1 qa (u.2.2.1 31) (fun k => if k = 8 then q else if k = 9 then so else if k = 10 then a else b)) (uN (upTh u w p) (lcn 1) (u.2.2.1 31 + 1)) (Yth u Y p) 11 (u.2.2.1 31) = some (arJ x.g 13 (clip 13 0 (fun j => (upTh u w p).2.1 34 (13 * u.2.2.1 31 + j)))) from (if_neg (by omega)).trans (if_pos lt)] at he
                refine ⟨(hSH.2.2.1.trans (congrArg (fun F => some (arJ x.g 13 F)) (clip_cg (fun k hk => ?_)))).trans he, hb⟩
                rw [(one_t p k).2.1]
                exact (upRow_in (u := uI u 32 (u.2.2.1 31) w) (t := u.2.2.1 31) (p := p) (m := 13) hk).2.symm) (fun k j hk hj2 _ _ e => hj k j hk hj2 e) (fun e he => rfl) (fun z => by omega)
          have hCR := CR.of hCQ (fun r => upTh_RP hI (by have := hI.n2; omega) r)
          refine aw_pop C dX8_thing_86 rfl rfl ?_
          refine aw_aload C dX8_thing_87 rfl rfl ?_
          refine aw_getf C f_X8_116 ((hfr q (by rw [hq1]; exact fun z => by cases z) hq0).trans hq1) rfl dX8_thing_89 rfl ?_
          exact aw_iret C rfl (Nat.le_of_ble_eq_true rfl) (Nat.le_of_ble_eq_true rfl) (OPost.of (by rw [opThing, if_neg (by simp [ep]), if_neg (by rw [show inB w 1 1000000 = true from inB_t.mpr ⟨c8, Int32.not_lt.mpr c14⟩]; decide), kp, if_neg (by rintro (z | z); rw [show (8 : Int32) = nI 8 from rfl, nI_eq (by omega) (by decide)] at z; omega; exact z (of_decide_eq_true c43))]; rfl) hCR) dX8_thing_92
        · have c43 := fa_of c43
          exact aw_thr C G thS 8 rfl dX8_thing_46 dX8_thing_49 dX8_thing_50 dX8_thing_52 dX8_thing_55 hout ⟨by decide, (Nat.le_of_ble_eq_true rfl)⟩ (Nat.le_of_ble_eq_true rfl) (Nat.le_of_ble_eq_true rfl) (OX.of (c := 3) (r := 0) (w := u) (by rw [opThing, if_neg (by simp [ep]), if_neg (by rw [show inB w 1 1000000 = true from inB_t.mpr ⟨c8, Int32.not_lt.mpr c14⟩]; decide), kp, if_pos (Or.inr (of_decide_eq_false c43))]) (by decide) rfl (CR.rf hS)) (Nat.le_of_ble_eq_true rfl) (Nat.le_of_ble_eq_true rfl)
    · exact aw_thr C G thA 7 rfl dX8_thing_17 dX8_thing_20 dX8_thing_21 dX8_thing_23 dX8_thing_26 hout ⟨by decide, (Nat.le_of_ble_eq_true rfl)⟩ (Nat.le_of_ble_eq_true rfl) (Nat.le_of_ble_eq_true rfl) (OX.of (c := 2) (r := 0) (w := u) (by rw [opThing, if_neg (by simp [ep]), if_pos (inB_f.mpr (Or.inr (Int32.not_le.mp c14)))]) (by decide) rfl (CR.rf hS)) (Nat.le_of_ble_eq_true rfl) (Nat.le_of_ble_eq_true rfl)
