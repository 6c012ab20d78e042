/-! the class: the face: label -/
theorem nI_self {w : Int32} (h : ¬ w < 0) : ∃ i, i < 2 ^ 31 ∧ w = nI i := by
  rw [Int32.lt_iff_toInt_lt, Int32.toInt_zero] at h
  have h2 := Int32.toInt_lt w
  refine ⟨w.toInt.toNat, by omega, ?_⟩
  rw [← Int32.toInt_inj, nI_toInt (by omega)]
  omega
theorem let_ok : ∀ k, k ≤ 4 → chA (letter (nI k)) ∧ ch8 (letter (nI k))
  | 0, _ | 1, _ | 2, _ | 3, _ | 4, _ => by unfold chA ch8; decide +kernel
  | _ + 5, h => by omega
theorem st_ok {k : Int32} : chA (if k = 1 then 102 else if k = 2 then 108 else 118) ∧ ch8 (if k = 1 then 102 else if k = 2 then 108 else 118) := by
  unfold chA ch8
  split
  · decide +kernel
  · split <;> decide +kernel
theorem com_ok : chA 44 ∧ ch8 44 := by unfold chA ch8; decide +kernel
theorem dg_n : ∀ m, m < 61 → ∀ k, k < 3 → 1 ≤ k → k ≤ dgN m → narrow .char (.int (dgF m 1 (fun _ => 0) k)) = .int (dgF m 1 (fun _ => 0) k) := by decide +kernel
theorem dgN_12 (m : Nat) : dgN m = 1 ∨ dgN m = 2 := by
  unfold dgN
  split
  · exact Or.inl rfl
  · exact Or.inr rfl
theorem dg_ok {m k : Nat} (hm : m < 61) {f : Nat → Int32} (h1 : 1 ≤ k) (h2 : k ≤ dgN m) : ch8 (dgF m 1 f k) := by
  have h3 : k < 3 := by rcases dgN_12 m with e | e <;> omega
  rw [dg_f h1 h2]
  exact ⟨dg_c m hm k h3 h1 h2, dg_n m hm k h3 h1 h2⟩
theorem lab_0 {u : MU} {d : Nat} : labelOf u d (nI 0) = letter (u.1 11 d) := if_pos rfl
theorem lab_d {u : MU} {d m k : Nat} (hm : m < 61) (hu : u.1 23 d = nI m) {f : Nat → Int32} (h1 : 1 ≤ k) (h2 : k ≤ dgN m) : labelOf u d (nI k) = dgF m 1 f k := by
  have h3 : k < 3 := by rcases dgN_12 m with e | e <;> omega
  unfold labelOf
  rw [if_neg (fun z => by have := (nI_eq (a := k) (b := 0) (by omega) (by decide)).mp z; omega), hu, dg_d m hm, if_pos (fun z => by have h4 := dgN_12 m; have := (nI_ltI (by omega) (by omega)).mp z; omega), ← dg_d m hm, dg_at m hm k h3 h1 h2]
  exact (dg_f h1 h2).symm
theorem nI_2 (a : Nat) : nI a + 2 = nI (a + 2) := nI_add a 2
theorem lab_x {u : MU} {d m i : Nat} (hm : m < 61) (hu : u.1 23 d = nI m) (hi : i < 2 ^ 31) (h : dgN m < i) : labelOf u d (nI i) = if u.1 22 d = 0 ∨ dgN m + 2 < i then 46 else if i = dgN m + 1 then 44 else if u.1 22 d = 1 then 102 else if u.1 22 d = 2 then 108 else 118 := by
  have h3 := dgN_12 m
  have e1 : nI i = nI (dgN m + 1) ↔ i = dgN m + 1 := nI_eq (by omega) (by omega)
  have e2 : (¬ nI i ≤ nI (dgN m + 2)) ↔ dgN m + 2 < i := ⟨fun z => Nat.lt_of_not_le (fun y => z ((nI_leI (by omega) (by omega)).mpr y)), fun z y => absurd ((nI_leI (by omega) (by omega)).mp y) (by omega)⟩
  unfold labelOf
  rw [if_neg (fun z => by have := (nI_eq (a := i) (b := 0) (by omega) (by decide)).mp z; omega), hu, dg_d m hm, if_neg (fun z => z ((nI_ltI (by omega) (by omega)).mpr h)), nI_1, nI_2]
  by_cases q : u.1 22 d = 0 ∨ dgN m + 2 < i
  · rw [if_pos q, if_pos (q.imp id e2.mpr)]
  · rw [if_neg q, if_neg (fun z => q (z.imp id e2.mp))]
    by_cases r : i = dgN m + 1
    · rw [if_pos r, if_pos (e1.mpr r)]
    · rw [if_neg r, if_neg (fun z => r (e1.mp z))]
theorem upd_at {f : Nat → Int32} {n : Nat} {c : Int32} : upd f n c n = c := if_pos rfl
theorem upd_ne {f : Nat → Int32} {n i : Nat} {c : Int32} (h : i ≠ n) : upd f n c i = f i := by unfold upd; first | exact if_neg h | exact if_neg (fun z => h z.symm)
/-- what the builder holds, against the reference's letter -/
def LabOK (u : MU) (d n : Nat) (f : Nat → Int32) : Prop := n ≤ 16 ∧ (∀ i, i < n → ch8 (f i)) ∧ ∀ i, i < 2 ^ 31 → labelOf u d (nI i) = if i < n then f i else 46
theorem lab_open {u : MU} {d k : Nat} (hk : k ≤ 4) (h11 : u.1 11 d = nI k) (h23 : u.1 23 d = nI 0) (h22 : u.1 22 d = 0) : LabOK u d (1 + dgN 0) (dgF 0 1 (upd (fun _ => 0) 0 (letter (nI k)))) := by
  have e0 : dgN 0 = 1 := rfl
  refine ⟨by decide, fun i hi => ?_, fun i hi => ?_⟩
  · by_cases z : i = 0
    · subst z
      rw [dg_0, upd_at]
      exact (let_ok k hk).2
    · exact dg_ok (by decide) (by omega) (by omega)
  · by_cases z : i = 0
    · subst z
      rw [lab_0, if_pos (by omega), dg_0, upd_at, h11]
    · by_cases y : i ≤ dgN 0
      · rw [lab_d (m := 0) (by decide) h23 (f := upd (fun _ => 0) 0 (letter (nI k))) (by omega) y, if_pos (by omega)]
      · rw [lab_x (m := 0) (by decide) h23 hi (by omega), if_pos (Or.inl h22), if_neg (by omega)]
theorem lab_shut {u : MU} {d k m : Nat} (hk : k ≤ 4) (hm : m < 61) (h11 : u.1 11 d = nI k) (h23 : u.1 23 d = nI m) (h22 : ¬ u.1 22 d = 0) : LabOK u d (1 + dgN m + 1 + 1) (txt (letter (nI k)) m (if u.1 22 d = 1 then 102 else if u.1 22 d = 2 then 108 else 118)) := by
  have e0 := dgN_12 m
  have t0 : txt (letter (nI k)) m (if u.1 22 d = 1 then 102 else if u.1 22 d = 2 then 108 else 118) 0 = letter (nI k) := by
    unfold txt
    rw [upd_ne (by omega), upd_ne (by omega), dg_0, upd_at]
  have t1 : ∀ i, 1 ≤ i → i ≤ dgN m → txt (letter (nI k)) m (if u.1 22 d = 1 then 102 else if u.1 22 d = 2 then 108 else 118) i = dgF m 1 (upd (fun _ => 0) 0 (letter (nI k))) i := fun i h1 h2 => by
    unfold txt
    rw [upd_ne (by omega), upd_ne (by omega)]
  have t2 : txt (letter (nI k)) m (if u.1 22 d = 1 then 102 else if u.1 22 d = 2 then 108 else 118) (1 + dgN m) = 44 := by
    unfold txt
    rw [upd_ne (by omega), upd_at]
  have t3 : txt (letter (nI k)) m (if u.1 22 d = 1 then 102 else if u.1 22 d = 2 then 108 else 118) (1 + dgN m + 1) = (if u.1 22 d = 1 then 102 else if u.1 22 d = 2 then 108 else 118) := by
    unfold txt
    rw [upd_at]
  refine ⟨by omega, fun i hi => ?_, fun i hi => ?_⟩
  · by_cases z : i = 0
    · subst z
      rw [t0]
      exact (let_ok k hk).2
    · by_cases y : i ≤ dgN m
      · rw [t1 i (by omega) y]
        exact dg_ok hm (by omega) y
      · by_cases x : i = 1 + dgN m
        · subst x
          rw [t2]
          exact com_ok.2
        · obtain rfl : i = 1 + dgN m + 1 := by omega
          rw [t3]
          exact st_ok.2
  · by_cases z : i = 0
    · subst z
      rw [lab_0, if_pos (by omega), t0, h11]
    · by_cases y : i ≤ dgN m
      · rw [if_pos (by omega), t1 i (by omega) y]
        exact lab_d hm h23 (by omega) y
      · rw [lab_x hm h23 hi (by omega)]
        by_cases x : i = 1 + dgN m
        · subst x
          rw [if_neg (fun q => q.elim h22 (fun q => by omega)), if_pos (by omega), if_pos (by omega), t2]
        · by_cases x2 : i = 1 + dgN m + 1
          · subst x2
            rw [if_neg (fun q => q.elim h22 (fun q => by omega)), if_neg (by omega)]
            exact t3.symm.trans (if_pos (by omega)).symm
          · rw [if_pos (Or.inr (by omega)), if_neg (by omega)]
theorem sb_keep {sg s s' : Sg} {q v : Nat} (h : ∀ a, sg a ≠ none → s a = sg a) (hq : sg q = none) (hv : sg v = none) (hfr : ∀ a, a ≠ q → a ≠ v → s' a = s a) : ∀ a, sg a ≠ none → s' a = sg a := fun a ha => (hfr a (fun z => ha (by rw [z]; exact hq)) (fun z => ha (by rw [z]; exact hv))).trans (h a ha)
theorem nm_le {N : Nat} {u : MU} (hI : CI N u) {d : Nat} (hd : d < u.2.2.1 10) : ∃ m, m < 61 ∧ u.1 23 d = nI m ∧ (u.1 22 d = 0 → m = 0) := by
  have h60 : d < 60 := by have := hI.n10; omega
  by_cases e : u.1 22 d = 0
  · exact ⟨0, by decide, (hI.F d h60 e).2.1, fun _ => rfl⟩
  · have h1 := hI.cl h60 e
    have h2 := (hI.I.B d h60).1
    refine ⟨nm u d, by omega, ?_, fun z => absurd z e⟩
    unfold nm at *
    obtain ⟨i, hi, ei⟩ := nI_self (w := u.1 23 d) (fun z => by
      have : (u.1 23 d).toNatClampNeg = 0 := by
        rw [Int32.lt_iff_toInt_lt, Int32.toInt_zero] at z
        show (u.1 23 d).toInt.toNat = 0
        omega
      omega)
    rw [ei, nI_clamp hi]
set_option maxRecDepth 100000 in
theorem F_label {g : Gx} {l : Launch} {ez : Nat} (G : GOK g l ez) {sg : Sg} {ad : Nat → Nat → Nat} {u : MU} {Y : GS} (hS : CS g ez ad u Y sg) {N : Nat} (hI : CI N u) {v w : Int32} : MM g l yX8_label cX8_label 5 (some .char) (rmC 9 8 60) sg [.ref (ad 0 0), .int v, .int w] (OPost g ez ad u Y sg (opLabel u v w)) (OX g ez ad u Y sg x1b (opLabel u v w)) := by
  refine MM.of G.1 G.2.1 (by decide) (Nat.le_of_ble_eq_true rfl) (fun x hg hlx C hin hout hargs => ?_)
  subst hg; subst hlx
  have C : AWC x cX8_label 5 RX8 (rmC 9 8 60) (some .char) := C
  show AW x (RQ x _ _ _ _) 0 0 sg 0 [(0, .ref (ad 0 0)), (1, .int v), (2, .int w)] []
  refine aw_aload_n C dX8_label_0 rfl rfl rfl ?_
  refine aw_iload_n C dX8_label_1 rfl rfl rfl ?_
  refine aw_callV C k_X8_159 (C_deedAt G hS hI (v := v)) ⟨by decide, by decide⟩ (ci := 10) rfl hS.O rfl rfl (Nat.le_of_ble_eq_true rfl) (Nat.le_of_ble_eq_true rfl) (Nat.le_of_ble_eq_true rfl) dX8_label_2 rfl (fun E s1 hx => ?_) (fun v1 s1 hq => ?_)
  · obtain ⟨rfl, hx, rfl⟩ := hx
    exact ax_out C hout (Nat.le_of_ble_eq_true rfl) (Nat.le_of_ble_eq_true rfl) (OX.of (c := 1) (r := 0) (w := u) (by simp [opLabel, hx]) (by decide) rfl (CR.rf hS))
  obtain ⟨d, hd, rfl, rfl, rfl⟩ := hq
  have ed := isDd_in hI.W hd
  have kd : (nI d).toNatClampNeg = d := nI_clamp (by have := hI.n10; omega)
  refine aw_astore_n (ls' := [(3, _), (0, _), (1, _), (2, _)]) C dX8_label_5 rfl (by decide) rfl rfl ?_
  refine aw_iload_n C dX8_label_6 rfl rfl rfl ?_
  refine aw_if_ge (tgt := 20) C dX8_label_7 (by decide) rfl (fun c7 => ?_) (fun c7 => ?_)
  · have hw0 : ¬ w < 0 := Int32.not_lt.mpr c7
    obtain ⟨i, hi, rfl⟩ := nI_self hw0
    obtain ⟨k, hk, ek⟩ := hI.kd hd
    obtain ⟨m, hm, em, hm0⟩ := nm_le hI hd
    refine aw_new (fs := [.null, .int 0, .int 0, .int 0]) C cf_J4 h_X8_247 h_new_J4 h_ini_J4 (fun j hj => match j, hj with | 0, _ => rfl | 1, _ => rfl | 2, _ => rfl | 3, _ => rfl | _ + 4, h => absurd h (by omega)) (Nat.le_of_ble_eq_true rfl) (Nat.le_of_ble_eq_true rfl) dX8_label_20 rfl (fun q hq => ?_)
    have hq0 := hq
    have h0 := fr_new (e := ob 0 [.null, .int 0, .int 0, .int 0]) hq
    have hS0 := hS.ext h0
    refine aw_dup C dX8_label_23 rfl rfl ?_
    refine aw_callI C k_X8_249 (L_sb4 G sgu_s) ⟨by decide, by decide⟩ rfl rfl (Nat.le_of_ble_eq_true rfl) (Nat.le_of_ble_eq_true rfl) (Nat.le_of_ble_eq_true rfl) dX8_label_24 rfl (fun _ _ q => ax_no q) (fun v1 s1 hq => ?_)
    obtain ⟨rfl, b, hb, hB1, hfr1⟩ := hq
    have hv0 := (new2 hb).2
    have h1 := sb_keep h0 hq0 hv0 hfr1
    have hS1 := hS.ext h1
    refine aw_astore (ls' := [(4, _), (3, _), (0, _), (1, _), (2, _)]) C dX8_label_27 (by decide) rfl rfl ?_
    refine aw_aload C dX8_label_29 rfl rfl ?_
    refine aw_aload_n C dX8_label_31 rfl rfl rfl ?_
    refine aw_getf C f_X8_236 (hS1.D hd) rfl dX8_label_32 rfl ?_
    rw [ek]
    refine cw_callSp C k_X8_250 (C_kindLetter G hk) ⟨by decide, by decide⟩ rfl rfl (Nat.le_of_ble_eq_true rfl) (Nat.le_of_ble_eq_true rfl) (Nat.le_of_ble_eq_true rfl) dX8_label_35 rfl ?_
    refine aw_callV C k_X8_254 (L_app4 G hB1 (by decide) (let_ok k hk).1.1 (let_ok k hk).1.2.1 (let_ok k hk).1.2.2) ⟨by decide, by decide⟩ (ci := 0) rfl hB1.1 rfl rfl (Nat.le_of_ble_eq_true rfl) (Nat.le_of_ble_eq_true rfl) (Nat.le_of_ble_eq_true rfl) dX8_label_38 rfl (fun _ _ q => ax_no q) (fun v1 s2 hq => ?_)
    obtain ⟨rfl, hB2, hfr2⟩ := hq
    have h2 := sb_keep h1 hq0 hv0 hfr2
    have hS2 := hS.ext h2
    refine aw_pop C dX8_label_41 rfl rfl ?_
    refine aw_aload C dX8_label_42 rfl rfl ?_
    refine aw_aload_n C dX8_label_44 rfl rfl rfl ?_
    refine aw_getf C f_X8_212 (hS2.D hd) rfl dX8_label_45 rfl ?_
    rw [em]
    refine aw_callV C k_X8_257 (L_appI4 G hB2 (m := m) (by omega) (by have := dgN_12 m; omega)) ⟨by decide, by decide⟩ (ci := 0) rfl hB2.1 rfl rfl (Nat.le_of_ble_eq_true rfl) (Nat.le_of_ble_eq_true rfl) (Nat.le_of_ble_eq_true rfl) dX8_label_48 rfl (fun _ _ q => ax_no q) (fun v1 s3 hq => ?_)
    obtain ⟨rfl, hB3, hfr3⟩ := hq
    have h3 := sb_keep h2 hq0 hv0 hfr3
    have hS3 := hS.ext h3
    refine aw_pop C dX8_label_51 rfl rfl ?_
    refine aw_aload_n C dX8_label_52 rfl rfl rfl ?_
    refine cw_callVNp C k_X8_186 (C_isClosed G hS3 hd) ⟨by decide, by decide⟩ (ci := 2) rfl (hS3.D hd) rfl rfl (Nat.le_of_ble_eq_true rfl) (Nat.le_of_ble_eq_true rfl) (Nat.le_of_ble_eq_true rfl) dX8_label_53 rfl ?_
    refine aw_if_eq (tgt := 80) C dX8_label_56 (by decide) rfl (fun c56 => ?_) (fun c56 => ?_)
    · have c56 := fa_of c56
      have z22 : u.1 22 d = 0 := by simpa using c56
      obtain rfl := hm0 z22
      obtain ⟨n, f, hBz, hL⟩ : ∃ n f, SB x.g s3 q b n f ∧ LabOK u d n f := ⟨_, _, hB3, lab_open hk ek em z22⟩
      have hSz := hS3
      have hz := h3
      refine aw_iload_n C dX8_label_80 rfl rfl rfl ?_
      refine aw_aload C dX8_label_81 rfl rfl ?_
      refine cw_callVp C k_X8_263 (L_len4 G hBz) ⟨by decide, by decide⟩ (ci := 0) rfl hBz.1 rfl rfl (Nat.le_of_ble_eq_true rfl) (Nat.le_of_ble_eq_true rfl) (Nat.le_of_ble_eq_true rfl) dX8_label_83 rfl ?_
      refine aw_icmp_ge (tgt := 98) C dX8_label_86 (by decide) rfl (fun c86 => ?_) (fun c86 => ?_)
      · have hge : ¬ i < n := fun z => absurd ((nI_leI (by have := hL.1; omega) hi).mp c86) (by omega)
        refine aw_bipush (v := 46) C dX8_label_98 rfl rfl ?_
        exact aw_iret C (by decide) (Nat.le_of_ble_eq_true rfl) (Nat.le_of_ble_eq_true rfl) (OPost.of (r := _) (w := u) (by rw [opLabel, if_neg (by simp [ed, hw0]), kd, hL.2.2 i hi, if_neg hge]) (CR.ps hSz (CFr.nw hz) SN.rf rfl rfl)) dX8_label_100
      · have hlt : i < n := Nat.lt_of_not_le (fun z => c86 ((nI_leI (by have := hL.1; omega) hi).mpr z))
        refine aw_aload C dX8_label_89 rfl rfl ?_
        refine aw_iload_n C dX8_label_91 rfl rfl rfl ?_
        refine cw_callVp C k_X8_266 (L_charAt4 G hBz hL.1 hlt rfl (hL.2.1 i hlt).1 (hL.2.1 i hlt).2) ⟨by decide, by decide⟩ (ci := 0) rfl hBz.1 rfl rfl (Nat.le_of_ble_eq_true rfl) (Nat.le_of_ble_eq_true rfl) (Nat.le_of_ble_eq_true rfl) dX8_label_92 rfl ?_
        refine aw_goto (tgt := 100) C dX8_label_95 (by decide) ?_
        exact aw_iret C (hL.2.1 i hlt).2 (Nat.le_of_ble_eq_true rfl) (Nat.le_of_ble_eq_true rfl) (OPost.of (r := _) (w := u) (by rw [opLabel, if_neg (by simp [ed, hw0]), kd, hL.2.2 i hi, if_pos hlt]) (CR.ps hSz (CFr.nw hz) SN.rf rfl rfl)) dX8_label_100
    · have c56 := tr_of c56
      refine aw_aload C dX8_label_59 rfl rfl ?_
      refine aw_bipush (v := 44) C dX8_label_61 rfl rfl ?_
      refine aw_callV C k_X8_254 (L_app4 G hB3 (by have := dgN_12 m; omega) com_ok.1.1 com_ok.1.2.1 com_ok.1.2.2) ⟨by decide, by decide⟩ (ci := 0) rfl hB3.1 rfl rfl (Nat.le_of_ble_eq_true rfl) (Nat.le_of_ble_eq_true rfl) (Nat.le_of_ble_eq_true rfl) dX8_label_63 rfl (fun _ _ q => ax_no q) (fun v1 s4 hq => ?_)
      obtain ⟨rfl, hB4, hfr4⟩ := hq
      have h4 := sb_keep h3 hq0 hv0 hfr4
      have hS4 := hS.ext h4
      refine aw_pop C dX8_label_66 rfl rfl ?_
      refine aw_aload C dX8_label_67 rfl rfl ?_
      refine aw_aload_n C dX8_label_69 rfl rfl rfl ?_
      refine aw_getf C f_X8_221 (hS4.D hd) rfl dX8_label_70 rfl ?_
      refine cw_callSp C k_X8_260 (C_stateLetter G (k := u.1 22 d)) ⟨by decide, by decide⟩ rfl rfl (Nat.le_of_ble_eq_true rfl) (Nat.le_of_ble_eq_true rfl) (Nat.le_of_ble_eq_true rfl) dX8_label_73 rfl ?_
      refine aw_callV C k_X8_254 (L_app4 G hB4 (by have := dgN_12 m; omega) st_ok.1.1 st_ok.1.2.1 st_ok.1.2.2) ⟨by decide, by decide⟩ (ci := 0) rfl hB4.1 rfl rfl (Nat.le_of_ble_eq_true rfl) (Nat.le_of_ble_eq_true rfl) (Nat.le_of_ble_eq_true rfl) dX8_label_76 rfl (fun _ _ q => ax_no q) (fun v1 s5 hq => ?_)
      obtain ⟨rfl, hB5, hfr5⟩ := hq
      have h5 := sb_keep h4 hq0 hv0 hfr5
      have hS5 := hS.ext h5
      refine aw_pop C dX8_label_79 rfl rfl ?_
      have z22 : ¬ u.1 22 d = 0 := by simpa using c56
      obtain ⟨n, f, hBz, hL⟩ : ∃ n f, SB x.g s5 q b n f ∧ LabOK u d n f := ⟨_, _, hB5, lab_shut hk hm ek em z22⟩
      have hSz := hS5
      have hz := h5
      refine aw_iload_n C dX8_label_80 rfl rfl rfl ?_
      refine aw_aload C dX8_label_81 rfl rfl ?_
      refine cw_callVp C k_X8_263 (L_len4 G hBz) ⟨by decide, by decide⟩ (ci := 0) rfl hBz.1 rfl rfl (Nat.le_of_ble_eq_true rfl) (Nat.le_of_ble_eq_true rfl) (Nat.le_of_ble_eq_true rfl) dX8_label_83 rfl ?_
      refine aw_icmp_ge (tgt := 98) C dX8_label_86 (by decide) rfl (fun c86 => ?_) (fun c86 => ?_)
      · have hge : ¬ i < n := fun z => absurd ((nI_leI (by have := hL.1; omega) hi).mp c86) (by omega)
        refine aw_bipush (v := 46) C dX8_label_98 rfl rfl ?_
        exact aw_iret C (by decide) (Nat.le_of_ble_eq_true rfl) (Nat.le_of_ble_eq_true rfl) (OPost.of (r := _) (w := u) (by rw [opLabel, if_neg (by simp [ed, hw0]), kd, hL.2.2 i hi, if_neg hge]) (CR.ps hSz (CFr.nw hz) SN.rf rfl rfl)) dX8_label_100
      · have hlt : i < n := Nat.lt_of_not_le (fun z => c86 ((nI_leI (by have := hL.1; omega) hi).mpr z))
        refine aw_aload C dX8_label_89 rfl rfl ?_
        refine aw_iload_n C dX8_label_91 rfl rfl rfl ?_
        refine cw_callVp C k_X8_266 (L_charAt4 G hBz hL.1 hlt rfl (hL.2.1 i hlt).1 (hL.2.1 i hlt).2) ⟨by decide, by decide⟩ (ci := 0) rfl hBz.1 rfl rfl (Nat.le_of_ble_eq_true rfl) (Nat.le_of_ble_eq_true rfl) (Nat.le_of_ble_eq_true rfl) dX8_label_92 rfl ?_
        refine aw_goto (tgt := 100) C dX8_label_95 (by decide) ?_
        exact aw_iret C (hL.2.1 i hlt).2 (Nat.le_of_ble_eq_true rfl) (Nat.le_of_ble_eq_true rfl) (OPost.of (r := _) (w := u) (by rw [opLabel, if_neg (by simp [ed, hw0]), kd, hL.2.2 i hi, if_pos hlt]) (CR.ps hSz (CFr.nw hz) SN.rf rfl rfl)) dX8_label_100
  · exact aw_thr C G thB 22 rfl dX8_label_10 dX8_label_13 dX8_label_14 dX8_label_16 dX8_label_19 hout ⟨by decide, (Nat.le_of_ble_eq_true rfl)⟩ (Nat.le_of_ble_eq_true rfl) (Nat.le_of_ble_eq_true rfl) (OX.of (c := 1) (r := 0) (w := u) (by rw [opLabel, if_pos (Or.inr (Int32.not_le.mp c7))]) (by decide) rfl (CR.rf hS)) (Nat.le_of_ble_eq_true rfl) (Nat.le_of_ble_eq_true rfl)
