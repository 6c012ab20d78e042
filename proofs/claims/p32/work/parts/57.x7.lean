/-! the class: helpers -/
def WX (u : MU) : Prop := (∀ p, p < u.2.2.1 2 → u.1 9 p = -1 ∨ ∃ q, q < u.2.2.1 2 ∧ u.1 9 p = nI q) ∧ (∀ d, d < u.2.2.1 10 → (∃ a, a < u.2.2.1 2 ∧ u.1 12 d = nI a) ∧ ∃ b, b < u.2.2.1 2 ∧ u.1 13 d = nI b) ∧ (∀ d, d < u.2.2.1 10 → (∃ k, k ≤ 4 ∧ u.1 11 d = nI k) ∧ (u.1 14 d = -1 ∨ ∃ t, t < u.2.2.1 31 ∧ u.1 14 d = nI t) ∧ (u.1 11 d = 4 → u.1 14 d = -1)) ∧ (∀ d, d < u.2.2.1 10 → u.1 19 d = -1 ∨ ∃ b, b < u.2.2.1 10 ∧ u.1 19 d = nI b) ∧ (∀ p, u.2.2.1 2 ≤ p → p < 12 → u.1 6 p = 0 ∧ u.1 8 p = 0) ∧ (∀ d, u.2.2.1 10 ≤ d → d < 60 → u.1 20 d = 0 ∧ u.1 21 d = 0 ∧ u.1 26 d = 0 ∧ u.1 27 d = 0) ∧ (∀ e, e < u.2.2.1 35 → ∃ t, t < u.2.2.1 31 ∧ u.1 38 e = nI t) ∧ (∀ d, u.1 27 d = 0 ∨ ¬ u.1 26 d = 0) ∧ (∀ d, ∃ w, w < 4096 ∧ u.1 21 d = nI w) ∧ ∀ d, d < 60 → ¬ u.1 22 d = 0 → 1 ≤ nm u d
/-- all that the class's side wants of the state -/
def CI (N : Nat) (u : MU) : Prop := Inv2 N u ∧ WF u ∧ WPa u ∧ WX u
/-- what the reading of a deed's parts wants -/
def CJ (u : MU) : Prop := u.2.2.1 2 ≤ 12 ∧ (∀ d, d < u.2.2.1 10 → (∃ a, a < u.2.2.1 2 ∧ u.1 12 d = nI a) ∧ ∃ b, b < u.2.2.1 2 ∧ u.1 13 d = nI b) ∧ ∀ d, d < u.2.2.1 10 → ∃ k, k ≤ 4 ∧ u.1 11 d = nI k
theorem CJ.n2 {u : MU} (h : CJ u) : u.2.2.1 2 ≤ 12 := h.1
theorem CJ.gt {u : MU} (h : CJ u) {d : Nat} (hd : d < u.2.2.1 10) : (∃ a, a < u.2.2.1 2 ∧ u.1 12 d = nI a) ∧ ∃ b, b < u.2.2.1 2 ∧ u.1 13 d = nI b := h.2.1 d hd
theorem CJ.kd {u : MU} (h : CJ u) {d : Nat} (hd : d < u.2.2.1 10) : ∃ k, k ≤ 4 ∧ u.1 11 d = nI k := h.2.2 d hd
section CIA
variable {N : Nat} {u : MU}
theorem CI.I (h : CI N u) : Inv N u := h.1.1
theorem CI.W (h : CI N u) : WN u := h.1.1.W
theorem CI.P (h : CI N u) : WP u := h.1.1.P
theorem CI.Q (h : CI N u) : WQ u := h.1.2
theorem CI.F (h : CI N u) : WF u := h.2.1
theorem CI.Pa (h : CI N u) : WPa u := h.2.2.1
theorem CI.X (h : CI N u) : WX u := h.2.2.2
theorem CI.j (h : CI N u) : CJ u := ⟨h.1.1.W.1, h.2.2.2.2.1, fun d hd => (h.2.2.2.2.2.1 d hd).1⟩
theorem CI.n2 (h : CI N u) : u.2.2.1 2 ≤ 12 := h.W.1
theorem CI.n10 (h : CI N u) : u.2.2.1 10 ≤ 60 := h.W.2.1
theorem CI.n31 (h : CI N u) : u.2.2.1 31 ≤ 8 := h.W.2.2.2.1
theorem CI.n35 (h : CI N u) : u.2.2.1 35 ≤ 100 := h.W.2.2.2.2
theorem CI.gu (h : CI N u) {p : Nat} (hp : p < u.2.2.1 2) : u.1 9 p = -1 ∨ ∃ q, q < u.2.2.1 2 ∧ u.1 9 p = nI q := h.X.1 p hp
theorem CI.gt (h : CI N u) {d : Nat} (hd : d < u.2.2.1 10) : (∃ a, a < u.2.2.1 2 ∧ u.1 12 d = nI a) ∧ ∃ b, b < u.2.2.1 2 ∧ u.1 13 d = nI b := h.X.2.1 d hd
theorem CI.kd (h : CI N u) {d : Nat} (hd : d < u.2.2.1 10) : ∃ k, k ≤ 4 ∧ u.1 11 d = nI k := (h.X.2.2.1 d hd).1
theorem CI.th (h : CI N u) {d : Nat} (hd : d < u.2.2.1 10) : u.1 14 d = -1 ∨ ∃ t, t < u.2.2.1 31 ∧ u.1 14 d = nI t := (h.X.2.2.1 d hd).2.1
theorem CI.t4 (h : CI N u) {d : Nat} (hd : d < u.2.2.1 10) : u.1 11 d = 4 → u.1 14 d = -1 := (h.X.2.2.1 d hd).2.2
theorem CI.so (h : CI N u) {d : Nat} (hd : d < u.2.2.1 10) : u.1 19 d = -1 ∨ ∃ b, b < u.2.2.1 10 ∧ u.1 19 d = nI b := h.X.2.2.2.1 d hd
theorem CI.f6 (h : CI N u) {p : Nat} (h1 : u.2.2.1 2 ≤ p) (h2 : p < 12) : u.1 6 p = 0 ∧ u.1 8 p = 0 := h.X.2.2.2.2.1 p h1 h2
theorem CI.fd (h : CI N u) {d : Nat} (h1 : u.2.2.1 10 ≤ d) (h2 : d < 60) : u.1 20 d = 0 ∧ u.1 21 d = 0 ∧ u.1 26 d = 0 ∧ u.1 27 d = 0 := h.X.2.2.2.2.2.1 d h1 h2
theorem CI.et (h : CI N u) {e : Nat} (he : e < u.2.2.1 35) : ∃ t, t < u.2.2.1 31 ∧ u.1 38 e = nI t := h.X.2.2.2.2.2.2.1 e he
theorem CI.rk (h : CI N u) (d : Nat) : u.1 27 d = 0 ∨ ¬ u.1 26 d = 0 := h.X.2.2.2.2.2.2.2.1 d
theorem CI.wi (h : CI N u) (d : Nat) : ∃ w, w < 4096 ∧ u.1 21 d = nI w := h.X.2.2.2.2.2.2.2.2.1 d
theorem CI.cl (h : CI N u) {d : Nat} (hd : d < 60) (hc : ¬ u.1 22 d = 0) : 1 ≤ nm u d := h.X.2.2.2.2.2.2.2.2.2 d hd hc
end CIA
theorem isP_ok {n : Nat} {v : Int32} (hn : n < 2 ^ 30) (c1 : ¬ v < 0) (c2 : v < nI n) : inB v 0 (nI n - 1) = true := by
  rw [inB_t, Int32.lt_iff_toInt_lt, Int32.lt_iff_toInt_lt, nI_m1 hn, Int32.toInt_zero]
  rw [Int32.lt_iff_toInt_lt, Int32.toInt_zero] at c1
  rw [Int32.lt_iff_toInt_lt, nI_toInt (by omega)] at c2
  omega
theorem isP_no1 {n : Nat} {v : Int32} (c1 : v < 0) : inB v 0 (nI n - 1) = false := inB_f.mpr (Or.inl c1)
theorem isP_no2 {n : Nat} {v : Int32} (hn : n < 2 ^ 30) (c2 : ¬ v < nI n) : inB v 0 (nI n - 1) = false := inB_f.mpr (Or.inr (by
  rw [Int32.lt_iff_toInt_lt, nI_m1 hn]
  rw [Int32.lt_iff_toInt_lt, nI_toInt (by omega)] at c2
  omega))
theorem CS.H {g : Gx} {ez : Nat} {ad : Nat → Nat → Nat} {u : MU} {Y : GS} {sg : Sg} (h : CS g ez ad u Y sg) {i : Nat} (hi : i < 4) : LH g ez sg (ad 1 i) (if ln u i = 0 then ez else ad 2 i) (ln u i) (fun j => ad (lk i) j) := ⟨h.L hi, fun z => if_pos z, fun z => by rw [if_neg (by omega)]; exact h.E hi z⟩
theorem CS.pj {g : Gx} {ez : Nat} {ad : Nat → Nat → Nat} {u : MU} {Y : GS} {sg : Sg} (h : CS g ez ad u Y sg) {p q : Nat} (hp : p < u.2.2.1 2) (hq : q < u.2.2.1 2) : some (ad 3 p) = some (ad 3 q) ↔ p = q := by
  constructor
  · intro e
    refine (h.2.1 3 p 3 q ?_ ?_ (Option.some.inj e)).2
    · rw [show cel g ez ad u Y 3 p = _ from if_pos hp]; exact fun z => by cases z
    · rw [show cel g ez ad u Y 3 q = _ from if_pos hq]; exact fun z => by cases z
  · intro e; rw [e]
theorem CS.tj {g : Gx} {ez : Nat} {ad : Nat → Nat → Nat} {u : MU} {Y : GS} {sg : Sg} (h : CS g ez ad u Y sg) {p q : Nat} (hp : p < u.2.2.1 31) (hq : q < u.2.2.1 31) : some (ad 8 p) = some (ad 8 q) ↔ p = q := by
  constructor
  · intro e
    refine (h.2.1 8 p 8 q ?_ ?_ (Option.some.inj e)).2
    · rw [show cel g ez ad u Y 8 p = _ from if_pos hp]; exact fun z => by cases z
    · rw [show cel g ez ad u Y 8 q = _ from if_pos hq]; exact fun z => by cases z
  · intro e; rw [e]
set_option maxRecDepth 100000 in
theorem C_personAt {g : Gx} {l : Launch} {ez : Nat} (G : GOK g l ez) {sg : Sg} {ad : Nat → Nat → Nat} {u : MU} {Y : GS} (hS : CS g ez ad u Y sg) {N : Nat} (hI : CI N u) {v : Int32} : MM g l yX8_personAt cX8_personAt 2 (some (.object "DeedProtocol$Person")) (rmC 7 1 6) sg [.ref (ad 0 0), .int v] (fun w s' => ∃ p, p < u.2.2.1 2 ∧ v = nI p ∧ w = some (.ref (ad 3 p)) ∧ s' = sg) (fun E s' => E = "java/lang/IndexOutOfBoundsException" ∧ isP u v = false ∧ s' = sg) := by
  refine MM.of G.1 G.2.1 (by decide) (Nat.le_of_ble_eq_true rfl) (fun x hg hlx C hin hout hargs => ?_)
  subst hg; subst hlx
  have C : AWC x cX8_personAt 2 RX8 (rmC 7 1 6) (some (.object "DeedProtocol$Person")) := C
  show AW x (RQ x _ _ _ _) 0 0 sg 0 [(0, .ref (ad 0 0)), (1, .int v)] []
  refine aw_iload_n C dX8_personAt_0 rfl rfl rfl ?_
  refine aw_if_lt (tgt := 15) C dX8_personAt_1 (by decide) rfl (fun c1 => ?_) (fun c1 => ?_)
  · exact aw_thrW C G thB 2 rfl dX8_personAt_15 dX8_personAt_18 dX8_personAt_19 dX8_personAt_22 dX8_personAt_25 hout ⟨by decide, (Nat.le_of_ble_eq_true rfl)⟩ (Nat.le_of_ble_eq_true rfl) (Nat.le_of_ble_eq_true rfl) ⟨rfl, isP_no1 c1, rfl⟩ (Nat.le_of_ble_eq_true rfl) (Nat.le_of_ble_eq_true rfl)
  · refine aw_iload_n C dX8_personAt_4 rfl rfl rfl ?_
    refine aw_aload_n C dX8_personAt_5 rfl rfl rfl ?_
    refine aw_getf C f_X8_12 hS.O rfl dX8_personAt_6 rfl ?_
    refine cw_callVp C k_X8_50 (L_size G (n := u.2.2.1 2) (hS.L (i := 0) (by decide))) ⟨by decide, by decide⟩ (ci := 1) rfl (hS.L (i := 0) (by decide)) rfl rfl (Nat.le_of_ble_eq_true rfl) (Nat.le_of_ble_eq_true rfl) (Nat.le_of_ble_eq_true rfl) dX8_personAt_9 rfl ?_
    refine aw_icmp_lt (tgt := 26) C dX8_personAt_12 (by decide) rfl (fun c12 => ?_) (fun c12 => ?_)
    · have hn := hI.n2
      obtain ⟨p, hp, rfl⟩ := isP_of hI.W (v := v) (isP_ok (by omega) c1 c12)
      refine aw_aload_n C dX8_personAt_26 rfl rfl rfl ?_
      refine aw_getf C f_X8_12 hS.O rfl dX8_personAt_27 rfl ?_
      refine aw_iload_n C dX8_personAt_30 rfl rfl rfl ?_
      refine cw_callVp C k_X8_355 (L_get G (hS.H (i := 0) (by decide)) hp (by show u.2.2.1 2 ≤ 109; omega)) ⟨by decide, by decide⟩ (ci := 1) rfl (hS.L (i := 0) (by decide)) rfl rfl (Nat.le_of_ble_eq_true rfl) (Nat.le_of_ble_eq_true rfl) (Nat.le_of_ble_eq_true rfl) dX8_personAt_31 rfl ?_
      refine aw_cast C h_X8_59 (ci := 7) rfl (hS.P hp) dX8_personAt_34 rfl ?_
      exact aw_aret (r := some _) C (Or.inl ⟨_, rfl⟩) (Nat.le_of_ble_eq_true rfl) (Nat.le_of_ble_eq_true rfl) ⟨p, hp, rfl, rfl, rfl⟩ dX8_personAt_37
    · exact aw_thrW C G thB 2 rfl dX8_personAt_15 dX8_personAt_18 dX8_personAt_19 dX8_personAt_22 dX8_personAt_25 hout ⟨by decide, (Nat.le_of_ble_eq_true rfl)⟩ (Nat.le_of_ble_eq_true rfl) (Nat.le_of_ble_eq_true rfl) ⟨rfl, isP_no2 (by have := hI.n2; omega) c12, rfl⟩ (Nat.le_of_ble_eq_true rfl) (Nat.le_of_ble_eq_true rfl)
set_option maxRecDepth 100000 in
theorem C_thingAt {g : Gx} {l : Launch} {ez : Nat} (G : GOK g l ez) {sg : Sg} {ad : Nat → Nat → Nat} {u : MU} {Y : GS} (hS : CS g ez ad u Y sg) {N : Nat} (hI : CI N u) {v : Int32} : MM g l yX8_thingAt cX8_thingAt 2 (some (.object "DeedProtocol$Thing")) (rmC 7 1 6) sg [.ref (ad 0 0), .int v] (fun w s' => ∃ p, p < u.2.2.1 31 ∧ v = nI p ∧ w = some (.ref (ad 8 p)) ∧ s' = sg) (fun E s' => E = "java/lang/IndexOutOfBoundsException" ∧ isTh u v = false ∧ s' = sg) := by
  refine MM.of G.1 G.2.1 (by decide) (Nat.le_of_ble_eq_true rfl) (fun x hg hlx C hin hout hargs => ?_)
  subst hg; subst hlx
  have C : AWC x cX8_thingAt 2 RX8 (rmC 7 1 6) (some (.object "DeedProtocol$Thing")) := C
  show AW x (RQ x _ _ _ _) 0 0 sg 0 [(0, .ref (ad 0 0)), (1, .int v)] []
  refine aw_iload_n C dX8_thingAt_0 rfl rfl rfl ?_
  refine aw_if_lt (tgt := 15) C dX8_thingAt_1 (by decide) rfl (fun c1 => ?_) (fun c1 => ?_)
  · exact aw_thrW C G thB 9 rfl dX8_thingAt_15 dX8_thingAt_18 dX8_thingAt_19 dX8_thingAt_22 dX8_thingAt_25 hout ⟨by decide, (Nat.le_of_ble_eq_true rfl)⟩ (Nat.le_of_ble_eq_true rfl) (Nat.le_of_ble_eq_true rfl) ⟨rfl, isP_no1 c1, rfl⟩ (Nat.le_of_ble_eq_true rfl) (Nat.le_of_ble_eq_true rfl)
  · refine aw_iload_n C dX8_thingAt_4 rfl rfl rfl ?_
    refine aw_aload_n C dX8_thingAt_5 rfl rfl rfl ?_
    refine aw_getf C f_X8_16 hS.O rfl dX8_thingAt_6 rfl ?_
    refine cw_callVp C k_X8_50 (L_size G (n := u.2.2.1 31) (hS.L (i := 1) (by decide))) ⟨by decide, by decide⟩ (ci := 1) rfl (hS.L (i := 1) (by decide)) rfl rfl (Nat.le_of_ble_eq_true rfl) (Nat.le_of_ble_eq_true rfl) (Nat.le_of_ble_eq_true rfl) dX8_thingAt_9 rfl ?_
    refine aw_icmp_lt (tgt := 26) C dX8_thingAt_12 (by decide) rfl (fun c12 => ?_) (fun c12 => ?_)
    · have hn := hI.n31
      obtain ⟨p, hp, rfl⟩ := isTh_of hI.W (v := v) (isP_ok (by omega) c1 c12)
      refine aw_aload_n C dX8_thingAt_26 rfl rfl rfl ?_
      refine aw_getf C f_X8_16 hS.O rfl dX8_thingAt_27 rfl ?_
      refine aw_iload_n C dX8_thingAt_30 rfl rfl rfl ?_
      refine cw_callVp C k_X8_355 (L_get G (hS.H (i := 1) (by decide)) hp (by show u.2.2.1 31 ≤ 109; omega)) ⟨by decide, by decide⟩ (ci := 1) rfl (hS.L (i := 1) (by decide)) rfl rfl (Nat.le_of_ble_eq_true rfl) (Nat.le_of_ble_eq_true rfl) (Nat.le_of_ble_eq_true rfl) dX8_thingAt_31 rfl ?_
      refine aw_cast C h_X8_111 (ci := 9) rfl (hS.T hp) dX8_thingAt_34 rfl ?_
      exact aw_aret (r := some _) C (Or.inl ⟨_, rfl⟩) (Nat.le_of_ble_eq_true rfl) (Nat.le_of_ble_eq_true rfl) ⟨p, hp, rfl, rfl, rfl⟩ dX8_thingAt_37
    · exact aw_thrW C G thB 9 rfl dX8_thingAt_15 dX8_thingAt_18 dX8_thingAt_19 dX8_thingAt_22 dX8_thingAt_25 hout ⟨by decide, (Nat.le_of_ble_eq_true rfl)⟩ (Nat.le_of_ble_eq_true rfl) (Nat.le_of_ble_eq_true rfl) ⟨rfl, isP_no2 (by have := hI.n31; omega) c12, rfl⟩ (Nat.le_of_ble_eq_true rfl) (Nat.le_of_ble_eq_true rfl)
set_option maxRecDepth 100000 in
theorem C_deedAt {g : Gx} {l : Launch} {ez : Nat} (G : GOK g l ez) {sg : Sg} {ad : Nat → Nat → Nat} {u : MU} {Y : GS} (hS : CS g ez ad u Y sg) {N : Nat} (hI : CI N u) {v : Int32} : MM g l yX8_deedAt cX8_deedAt 2 (some (.object "DeedProtocol$Deed")) (rmC 7 1 6) sg [.ref (ad 0 0), .int v] (fun w s' => ∃ p, p < u.2.2.1 10 ∧ v = nI p ∧ w = some (.ref (ad 4 p)) ∧ s' = sg) (fun E s' => E = "java/lang/IndexOutOfBoundsException" ∧ isDd u v = false ∧ s' = sg) := by
  refine MM.of G.1 G.2.1 (by decide) (Nat.le_of_ble_eq_true rfl) (fun x hg hlx C hin hout hargs => ?_)
  subst hg; subst hlx
  have C : AWC x cX8_deedAt 2 RX8 (rmC 7 1 6) (some (.object "DeedProtocol$Deed")) := C
  show AW x (RQ x _ _ _ _) 0 0 sg 0 [(0, .ref (ad 0 0)), (1, .int v)] []
  refine aw_iload_n C dX8_deedAt_0 rfl rfl rfl ?_
  refine aw_if_lt (tgt := 15) C dX8_deedAt_1 (by decide) rfl (fun c1 => ?_) (fun c1 => ?_)
  · exact aw_thrW C G thB 14 rfl dX8_deedAt_15 dX8_deedAt_18 dX8_deedAt_19 dX8_deedAt_22 dX8_deedAt_25 hout ⟨by decide, (Nat.le_of_ble_eq_true rfl)⟩ (Nat.le_of_ble_eq_true rfl) (Nat.le_of_ble_eq_true rfl) ⟨rfl, isP_no1 c1, rfl⟩ (Nat.le_of_ble_eq_true rfl) (Nat.le_of_ble_eq_true rfl)
  · refine aw_iload_n C dX8_deedAt_4 rfl rfl rfl ?_
    refine aw_aload_n C dX8_deedAt_5 rfl rfl rfl ?_
    refine aw_getf C f_X8_19 hS.O rfl dX8_deedAt_6 rfl ?_
    refine cw_callVp C k_X8_50 (L_size G (n := u.2.2.1 10) (hS.L (i := 2) (by decide))) ⟨by decide, by decide⟩ (ci := 1) rfl (hS.L (i := 2) (by decide)) rfl rfl (Nat.le_of_ble_eq_true rfl) (Nat.le_of_ble_eq_true rfl) (Nat.le_of_ble_eq_true rfl) dX8_deedAt_9 rfl ?_
    refine aw_icmp_lt (tgt := 26) C dX8_deedAt_12 (by decide) rfl (fun c12 => ?_) (fun c12 => ?_)
    · have hn := hI.n10
      obtain ⟨p, hp, rfl⟩ := isDd_of hI.W (v := v) (isP_ok (by omega) c1 c12)
      refine aw_aload_n C dX8_deedAt_26 rfl rfl rfl ?_
      refine aw_getf C f_X8_19 hS.O rfl dX8_deedAt_27 rfl ?_
      refine aw_iload_n C dX8_deedAt_30 rfl rfl rfl ?_
      refine cw_callVp C k_X8_355 (L_get G (hS.H (i := 2) (by decide)) hp (by show u.2.2.1 10 ≤ 109; omega)) ⟨by decide, by decide⟩ (ci := 1) rfl (hS.L (i := 2) (by decide)) rfl rfl (Nat.le_of_ble_eq_true rfl) (Nat.le_of_ble_eq_true rfl) (Nat.le_of_ble_eq_true rfl) dX8_deedAt_31 rfl ?_
      refine aw_cast C h_X8_137 (ci := 2) rfl (hS.D hp) dX8_deedAt_34 rfl ?_
      exact aw_aret (r := some _) C (Or.inl ⟨_, rfl⟩) (Nat.le_of_ble_eq_true rfl) (Nat.le_of_ble_eq_true rfl) ⟨p, hp, rfl, rfl, rfl⟩ dX8_deedAt_37
    · exact aw_thrW C G thB 14 rfl dX8_deedAt_15 dX8_deedAt_18 dX8_deedAt_19 dX8_deedAt_22 dX8_deedAt_25 hout ⟨by decide, (Nat.le_of_ble_eq_true rfl)⟩ (Nat.le_of_ble_eq_true rfl) (Nat.le_of_ble_eq_true rfl) ⟨rfl, isP_no2 (by have := hI.n10; omega) c12, rfl⟩ (Nat.le_of_ble_eq_true rfl) (Nat.le_of_ble_eq_true rfl)
set_option maxRecDepth 100000 in
theorem C_holderAt {g : Gx} {l : Launch} {ez : Nat} (G : GOK g l ez) {sg : Sg} {ad : Nat → Nat → Nat} {u : MU} {Y : GS} (hS : CS g ez ad u Y sg) {N : Nat} (hI : CI N u) {v : Int32} : MM g l yX8_holderAt cX8_holderAt 2 (some .int) (rmC 8 1 6) sg [.ref (ad 0 0), .int v] (fun w s' => (v = -1 ∨ ∃ p, p < u.2.2.1 2 ∧ v = nI p) ∧ w = some (.int (if v = -1 then 12 else v)) ∧ s' = sg) (fun E s' => E = "java/lang/IndexOutOfBoundsException" ∧ ¬ v = -1 ∧ isP u v = false ∧ s' = sg) := by
  refine MM.of G.1 G.2.1 (by decide) (Nat.le_of_ble_eq_true rfl) (fun x hg hlx C hin hout hargs => ?_)
  subst hg; subst hlx
  have C : AWC x cX8_holderAt 2 RX8 (rmC 8 1 6) (some .int) := C
  show AW x (RQ x _ _ _ _) 0 0 sg 0 [(0, .ref (ad 0 0)), (1, .int v)] []
  refine aw_iload_n C dX8_holderAt_0 rfl rfl rfl ?_
  refine aw_iconst (v := -1) C dX8_holderAt_1 rfl rfl ?_
  refine aw_icmp_ne (tgt := 10) C dX8_holderAt_2 (by decide) rfl (fun c2 => ?_) (fun c2 => ?_)
  · refine aw_aload_n C dX8_holderAt_10 rfl rfl rfl ?_
    refine aw_iload_n C dX8_holderAt_11 rfl rfl rfl ?_
    refine aw_callV C k_X8_71 (C_personAt G hS hI (v := v)) ⟨by decide, by decide⟩ (ci := 10) rfl hS.O rfl rfl (Nat.le_of_ble_eq_true rfl) (Nat.le_of_ble_eq_true rfl) (Nat.le_of_ble_eq_true rfl) dX8_holderAt_12 rfl (fun E s1 hx => ?_) (fun v1 s1 hq => ?_)
    · obtain ⟨rfl, hx, rfl⟩ := hx
      exact ax_out C hout (Nat.le_of_ble_eq_true rfl) (Nat.le_of_ble_eq_true rfl) ⟨rfl, c2, hx, rfl⟩
    obtain ⟨p, hp, rfl, rfl, rfl⟩ := hq
    refine aw_getf C f_X8_68 (hS.P hp) rfl dX8_holderAt_15 rfl ?_
    exact aw_iret C rfl (Nat.le_of_ble_eq_true rfl) (Nat.le_of_ble_eq_true rfl) ⟨Or.inr ⟨p, hp, rfl⟩, by rw [if_neg c2], rfl⟩ dX8_holderAt_18
  · refine aw_bipush (v := 12) C dX8_holderAt_5 rfl rfl ?_
    refine aw_goto (tgt := 18) C dX8_holderAt_7 (by decide) ?_
    exact aw_iret C rfl (Nat.le_of_ble_eq_true rfl) (Nat.le_of_ble_eq_true rfl) ⟨Or.inl c2, by rw [if_pos c2], rfl⟩ dX8_holderAt_18
set_option maxRecDepth 100000 in
theorem C_refuseDead {g : Gx} {l : Launch} {ez : Nat} (G : GOK g l ez) {sg : Sg} {ad : Nat → Nat → Nat} {u : MU} {Y : GS} (hS : CS g ez ad u Y sg) {N : Nat} (hI : CI N u) {p q : Nat} (hp : p < u.2.2.1 2) (hq : q < u.2.2.1 2) : MM g l yX8_refuseDead cX8_refuseDead 2 none (rmC 7 1 6) sg [.ref (ad 3 p), .ref (ad 3 q)] (fun w s' => w = none ∧ u.1 6 p = 0 ∧ u.1 6 q = 0 ∧ s' = sg) (fun E s' => E = "java/lang/IllegalStateException" ∧ ¬ (u.1 6 p = 0 ∧ u.1 6 q = 0) ∧ s' = sg) := by
  refine MM.of G.1 G.2.1 (by decide) (Nat.le_of_ble_eq_true rfl) (fun x hg hlx C hin hout hargs => ?_)
  subst hg; subst hlx
  have C : AWC x cX8_refuseDead 2 RX8 (rmC 7 1 6) none := C
  show AW x (RQ x _ _ _ _) 0 0 sg 0 [(0, .ref (ad 3 p)), (1, .ref (ad 3 q))] []
  refine aw_aload_n C dX8_refuseDead_0 rfl rfl rfl ?_
  refine aw_getf C f_X8_96 (hS.P hp) rfl dX8_refuseDead_1 rfl ?_
  refine aw_if_eq (tgt := 14) C dX8_refuseDead_4 (by decide) rfl (fun c4 => ?_) (fun c4 => ?_)
  · have c4 := fa_of c4
    exact aw_thr C G thS 5 rfl dX8_refuseDead_14 dX8_refuseDead_17 dX8_refuseDead_18 dX8_refuseDead_20 dX8_refuseDead_23 hout ⟨by decide, (Nat.le_of_ble_eq_true rfl)⟩ (Nat.le_of_ble_eq_true rfl) (Nat.le_of_ble_eq_true rfl) ⟨rfl, fun z => absurd z.1 (of_decide_eq_false c4), rfl⟩ (Nat.le_of_ble_eq_true rfl) (Nat.le_of_ble_eq_true rfl)
  · have c4 := tr_of c4
    refine aw_aload_n C dX8_refuseDead_7 rfl rfl rfl ?_
    refine aw_getf C f_X8_96 (hS.P hq) rfl dX8_refuseDead_8 rfl ?_
    refine aw_if_ne (tgt := 24) C dX8_refuseDead_11 (by decide) rfl (fun c11 => ?_) (fun c11 => ?_)
    · have c11 := tr_of c11
      exact aw_vret C (Nat.le_of_ble_eq_true rfl) (Nat.le_of_ble_eq_true rfl) ⟨rfl, of_decide_eq_true c4, of_decide_eq_true c11, rfl⟩ dX8_refuseDead_24
    · have c11 := fa_of c11
      exact aw_thr C G thS 5 rfl dX8_refuseDead_14 dX8_refuseDead_17 dX8_refuseDead_18 dX8_refuseDead_20 dX8_refuseDead_23 hout ⟨by decide, (Nat.le_of_ble_eq_true rfl)⟩ (Nat.le_of_ble_eq_true rfl) (Nat.le_of_ble_eq_true rfl) ⟨rfl, fun z => absurd z.2 (of_decide_eq_false c11), rfl⟩ (Nat.le_of_ble_eq_true rfl) (Nat.le_of_ble_eq_true rfl)
set_option maxRecDepth 100000 in
theorem C_refuseNewDeed {g : Gx} {l : Launch} {ez : Nat} (G : GOK g l ez) {sg : Sg} {ad : Nat → Nat → Nat} {u : MU} {Y : GS} (hS : CS g ez ad u Y sg) {N : Nat} (hI : CI N u) {p q : Nat} (hp : p < u.2.2.1 2) (hr : q < u.2.2.1 2) : MM g l yX8_refuseNewDeed cX8_refuseNewDeed 3 none (rmC 8 2 12) sg [.ref (ad 0 0), .ref (ad 3 p), .ref (ad 3 q)] (fun w s' => w = none ∧ hasRoom u p q = true ∧ s' = sg) (fun E s' => E = "java/lang/IllegalStateException" ∧ hasRoom u p q = false ∧ s' = sg) := by
  refine MM.of G.1 G.2.1 (by decide) (Nat.le_of_ble_eq_true rfl) (fun x hg hlx C hin hout hargs => ?_)
  subst hg; subst hlx
  have C : AWC x cX8_refuseNewDeed 3 RX8 (rmC 8 2 12) none := C
  show AW x (RQ x _ _ _ _) 0 0 sg 0 [(0, .ref (ad 0 0)), (1, .ref (ad 3 p)), (2, .ref (ad 3 q))] []
  refine aw_aload_n C dX8_refuseNewDeed_0 rfl rfl rfl ?_
  refine aw_getf C f_X8_19 hS.O rfl dX8_refuseNewDeed_1 rfl ?_
  refine cw_callVp C k_X8_50 (L_size G (n := u.2.2.1 10) (hS.L (i := 2) (by decide))) ⟨by decide, by decide⟩ (ci := 1) rfl (hS.L (i := 2) (by decide)) rfl rfl (Nat.le_of_ble_eq_true rfl) (Nat.le_of_ble_eq_true rfl) (Nat.le_of_ble_eq_true rfl) dX8_refuseNewDeed_4 rfl ?_
  refine aw_bipush (v := 60) C dX8_refuseNewDeed_7 rfl rfl ?_
  refine aw_icmp_lt (tgt := 23) C dX8_refuseNewDeed_9 (by decide) rfl (fun c9 => ?_) (fun c9 => ?_)
  · refine aw_aload_n C dX8_refuseNewDeed_23 rfl rfl rfl ?_
    refine aw_aload_n C dX8_refuseNewDeed_24 rfl rfl rfl ?_
    refine aw_callS C k_X8_86 (C_refuseDead G hS hI hp hr) ⟨by decide, by decide⟩ rfl rfl (Nat.le_of_ble_eq_true rfl) (Nat.le_of_ble_eq_true rfl) (Nat.le_of_ble_eq_true rfl) dX8_refuseNewDeed_25 rfl (fun E s1 hx => ?_) (fun v1 s1 hq => ?_)
    · obtain ⟨rfl, hx, rfl⟩ := hx
      exact ax_out C hout (Nat.le_of_ble_eq_true rfl) (Nat.le_of_ble_eq_true rfl) ⟨rfl, by rw [hasRoom, Bool.and_eq_false_iff]; right; rw [← Bool.not_eq_true, Bool.and_eq_true, decide_eq_true_eq, decide_eq_true_eq]; exact hx, rfl⟩
    obtain ⟨rfl, h6, h7, rfl⟩ := hq
    exact aw_vret C (Nat.le_of_ble_eq_true rfl) (Nat.le_of_ble_eq_true rfl) ⟨rfl, by rw [hasRoom, decide_eq_true h6, decide_eq_true h7, decide_eq_false (fun z => absurd c9 (by rw [Int32.lt_iff_toInt_lt]; rw [Int32.le_iff_toInt_le] at z; omega))]; rfl, rfl⟩ dX8_refuseNewDeed_28
  · exact aw_thrW C G thS 11 rfl dX8_refuseNewDeed_12 dX8_refuseNewDeed_15 dX8_refuseNewDeed_16 dX8_refuseNewDeed_19 dX8_refuseNewDeed_22 hout ⟨by decide, (Nat.le_of_ble_eq_true rfl)⟩ (Nat.le_of_ble_eq_true rfl) (Nat.le_of_ble_eq_true rfl) ⟨rfl, by rw [hasRoom, decide_eq_true (Int32.not_lt.mp c9)]; rfl, rfl⟩ (Nat.le_of_ble_eq_true rfl) (Nat.le_of_ble_eq_true rfl)
theorem ofT_iff {v : Int32} : inB v 0 2 = true ↔ v = 0 ∨ v = 1 ∨ v = 2 := by
  rw [inB_t, Int32.lt_iff_toInt_lt, Int32.lt_iff_toInt_lt, ← Int32.toInt_inj, ← Int32.toInt_inj, ← Int32.toInt_inj]
  have h0 : (0 : Int32).toInt = 0 := by decide
  have h1 : (1 : Int32).toInt = 1 := by decide
  have h2 : (2 : Int32).toInt = 2 := by decide
  omega
set_option maxRecDepth 100000 in
theorem C_isOfThing {g : Gx} {l : Launch} {ez : Nat} (G : GOK g l ez) {sg : Sg} {v : Int32} : MM g l yX8_isOfThing cX8_isOfThing 1 (some .boolean) (rmC 1 0 0) sg [.int v] (PP sg (.int (b2i (inB v 0 2)))) (noX) := by
  refine MM.of G.1 G.2.1 (by decide) (Nat.le_of_ble_eq_true rfl) (fun x hg hlx C hin hout hargs => ?_)
  subst hg; subst hlx
  have C : AWC x cX8_isOfThing 1 RX8 (rmC 1 0 0) (some .boolean) := C
  show AW x (RQ x _ _ _ _) 0 0 sg 0 [(0, .int v)] []
  refine aw_iload_n C dX8_isOfThing_0 rfl rfl rfl ?_
  refine aw_if_eq (tgt := 14) C dX8_isOfThing_1 (by decide) rfl (fun c1 => ?_) (fun c1 => ?_)
  · refine aw_iconst (v := 1) C dX8_isOfThing_14 rfl rfl ?_
    refine aw_goto (tgt := 19) C dX8_isOfThing_15 (by decide) ?_
    exact aw_iret C (by decide) (Nat.le_of_ble_eq_true rfl) (Nat.le_of_ble_eq_true rfl) (PP.of (by rw [ofT_iff.mpr (by simp [c1])]; rfl)) dX8_isOfThing_19
  · refine aw_iload_n C dX8_isOfThing_4 rfl rfl rfl ?_
    refine aw_iconst (v := 1) C dX8_isOfThing_5 rfl rfl ?_
    refine aw_icmp_eq (tgt := 14) C dX8_isOfThing_6 (by decide) rfl (fun c6 => ?_) (fun c6 => ?_)
    · refine aw_iconst (v := 1) C dX8_isOfThing_14 rfl rfl ?_
      refine aw_goto (tgt := 19) C dX8_isOfThing_15 (by decide) ?_
      exact aw_iret C (by decide) (Nat.le_of_ble_eq_true rfl) (Nat.le_of_ble_eq_true rfl) (PP.of (by rw [ofT_iff.mpr (by simp [c1, c6])]; rfl)) dX8_isOfThing_19
    · refine aw_iload_n C dX8_isOfThing_9 rfl rfl rfl ?_
      refine aw_iconst (v := 2) C dX8_isOfThing_10 rfl rfl ?_
      refine aw_icmp_ne (tgt := 18) C dX8_isOfThing_11 (by decide) rfl (fun c11 => ?_) (fun c11 => ?_)
      · refine aw_iconst (v := 0) C dX8_isOfThing_18 rfl rfl ?_
        exact aw_iret C (by decide) (Nat.le_of_ble_eq_true rfl) (Nat.le_of_ble_eq_true rfl) (PP.of (by rw [show inB v 0 2 = false from Bool.eq_false_iff.mpr (fun z => by have := ofT_iff.mp z; simp [c1, c6, c11] at this)]; rfl)) dX8_isOfThing_19
      · refine aw_iconst (v := 1) C dX8_isOfThing_14 rfl rfl ?_
        refine aw_goto (tgt := 19) C dX8_isOfThing_15 (by decide) ?_
        exact aw_iret C (by decide) (Nat.le_of_ble_eq_true rfl) (Nat.le_of_ble_eq_true rfl) (PP.of (by rw [ofT_iff.mpr (by simp [c1, c6, c11])]; rfl)) dX8_isOfThing_19
def isPt (x y : Int32) : Bool := inB y 1 100 && inB x 1 y
theorem isPt_iff {x y : Int32} : isPt x y = true ↔ ¬ x < 1 ∧ x ≤ y ∧ y ≤ 100 := by
  rw [isPt, Bool.and_eq_true, inB_t, inB_t, Int32.lt_iff_toInt_lt, Int32.lt_iff_toInt_lt, Int32.lt_iff_toInt_lt, Int32.lt_iff_toInt_lt, Int32.le_iff_toInt_le, Int32.le_iff_toInt_le]
  have h1 : (1 : Int32).toInt = 1 := by decide
  omega
set_option maxRecDepth 100000 in
theorem C_isPart {g : Gx} {l : Launch} {ez : Nat} (G : GOK g l ez) {sg : Sg} {x0 y0 : Int32} : MM g l yX8_isPart cX8_isPart 2 (some .boolean) (rmC 1 0 0) sg [.int x0, .int y0] (PP sg (.int (b2i (isPt x0 y0)))) (noX) := by
  refine MM.of G.1 G.2.1 (by decide) (Nat.le_of_ble_eq_true rfl) (fun x hg hlx C hin hout hargs => ?_)
  subst hg; subst hlx
  have C : AWC x cX8_isPart 2 RX8 (rmC 1 0 0) (some .boolean) := C
  show AW x (RQ x _ _ _ _) 0 0 sg 0 [(0, .int x0), (1, .int y0)] []
  refine aw_iload_n C dX8_isPart_0 rfl rfl rfl ?_
  refine aw_iconst (v := 1) C dX8_isPart_1 rfl rfl ?_
  refine aw_icmp_lt (tgt := 20) C dX8_isPart_2 (by decide) rfl (fun c2 => ?_) (fun c2 => ?_)
  · refine aw_iconst (v := 0) C dX8_isPart_20 rfl rfl ?_
    exact aw_iret C (by decide) (Nat.le_of_ble_eq_true rfl) (Nat.le_of_ble_eq_true rfl) (PP.of (by rw [show isPt x0 y0 = false from Bool.eq_false_iff.mpr (fun z => by have := isPt_iff.mp z; exact this.1 c2)]; rfl)) dX8_isPart_21
  · refine aw_iload_n C dX8_isPart_5 rfl rfl rfl ?_
    refine aw_iload_n C dX8_isPart_6 rfl rfl rfl ?_
    refine aw_icmp_gt (tgt := 20) C dX8_isPart_7 (by decide) rfl (fun c7 => ?_) (fun c7 => ?_)
    · refine aw_iconst (v := 0) C dX8_isPart_20 rfl rfl ?_
      exact aw_iret C (by decide) (Nat.le_of_ble_eq_true rfl) (Nat.le_of_ble_eq_true rfl) (PP.of (by rw [show isPt x0 y0 = false from Bool.eq_false_iff.mpr (fun z => by have := isPt_iff.mp z; exact absurd this.2.1 (Int32.not_le.mpr c7))]; rfl)) dX8_isPart_21
    · refine aw_iload_n C dX8_isPart_10 rfl rfl rfl ?_
      refine aw_bipush (v := 100) C dX8_isPart_11 rfl rfl ?_
      refine aw_icmp_gt (tgt := 20) C dX8_isPart_13 (by decide) rfl (fun c13 => ?_) (fun c13 => ?_)
      · refine aw_iconst (v := 0) C dX8_isPart_20 rfl rfl ?_
        exact aw_iret C (by decide) (Nat.le_of_ble_eq_true rfl) (Nat.le_of_ble_eq_true rfl) (PP.of (by rw [show isPt x0 y0 = false from Bool.eq_false_iff.mpr (fun z => by have := isPt_iff.mp z; exact absurd this.2.2 (Int32.not_le.mpr c13))]; rfl)) dX8_isPart_21
      · refine aw_iconst (v := 1) C dX8_isPart_16 rfl rfl ?_
        refine aw_goto (tgt := 21) C dX8_isPart_17 (by decide) ?_
        exact aw_iret C (by decide) (Nat.le_of_ble_eq_true rfl) (Nat.le_of_ble_eq_true rfl) (PP.of (by rw [isPt_iff.mpr ⟨c2, Int32.not_lt.mp c7, Int32.not_lt.mp c13⟩]; rfl)) dX8_isPart_21
set_option maxRecDepth 100000 in
theorem C_refuseClosed {g : Gx} {l : Launch} {ez : Nat} (G : GOK g l ez) {sg : Sg} {ad : Nat → Nat → Nat} {u : MU} {Y : GS} (hS : CS g ez ad u Y sg) {N : Nat} (hI : CI N u) {d : Nat} (hd : d < u.2.2.1 10) {v : Int32} : MM g l yX8_refuseClosedOrHaving cX8_refuseClosedOrHaving 2 none (rmC 7 1 6) sg [.ref (ad 4 d), .int v] (fun w s' => w = none ∧ u.1 22 d = 0 ∧ ¬ u.1 20 d &&& v = v ∧ s' = sg) (fun E s' => E = "java/lang/IllegalStateException" ∧ (¬ u.1 22 d = 0 ∨ u.1 20 d &&& v = v) ∧ s' = sg) := by
  refine MM.of G.1 G.2.1 (by decide) (Nat.le_of_ble_eq_true rfl) (fun x hg hlx C hin hout hargs => ?_)
  subst hg; subst hlx
  have C : AWC x cX8_refuseClosedOrHaving 2 RX8 (rmC 7 1 6) none := C
  show AW x (RQ x _ _ _ _) 0 0 sg 0 [(0, .ref (ad 4 d)), (1, .int v)] []
  refine aw_aload_n C dX8_refuseClosedOrHaving_0 rfl rfl rfl ?_
  refine cw_callVNp C k_X8_186 (C_isClosed G hS hd) ⟨by decide, by decide⟩ (ci := 2) rfl (hS.D hd) rfl rfl (Nat.le_of_ble_eq_true rfl) (Nat.le_of_ble_eq_true rfl) (Nat.le_of_ble_eq_true rfl) dX8_refuseClosedOrHaving_1 rfl ?_
  refine aw_if_ne (tgt := 15) C dX8_refuseClosedOrHaving_4 (by decide) rfl (fun c4 => ?_) (fun c4 => ?_)
  · have c4 := tr_of c4
    exact aw_thrW C G thS 15 rfl dX8_refuseClosedOrHaving_15 dX8_refuseClosedOrHaving_18 dX8_refuseClosedOrHaving_19 dX8_refuseClosedOrHaving_22 dX8_refuseClosedOrHaving_25 hout ⟨by decide, (Nat.le_of_ble_eq_true rfl)⟩ (Nat.le_of_ble_eq_true rfl) (Nat.le_of_ble_eq_true rfl) ⟨rfl, Or.inl (by simpa using c4), rfl⟩ (Nat.le_of_ble_eq_true rfl) (Nat.le_of_ble_eq_true rfl)
  · have c4 := fa_of c4
    refine aw_aload_n C dX8_refuseClosedOrHaving_7 rfl rfl rfl ?_
    refine aw_iload_n C dX8_refuseClosedOrHaving_8 rfl rfl rfl ?_
    refine cw_callVNp C k_X8_408 (C_hasAll G hS hd) ⟨by decide, by decide⟩ (ci := 2) rfl (hS.D hd) rfl rfl (Nat.le_of_ble_eq_true rfl) (Nat.le_of_ble_eq_true rfl) (Nat.le_of_ble_eq_true rfl) dX8_refuseClosedOrHaving_9 rfl ?_
    refine aw_if_eq (tgt := 26) C dX8_refuseClosedOrHaving_12 (by decide) rfl (fun c12 => ?_) (fun c12 => ?_)
    · have c12 := fa_of c12
      exact aw_vret C (Nat.le_of_ble_eq_true rfl) (Nat.le_of_ble_eq_true rfl) ⟨rfl, by simpa using c4, of_decide_eq_false c12, rfl⟩ dX8_refuseClosedOrHaving_26
    · have c12 := tr_of c12
      exact aw_thrW C G thS 15 rfl dX8_refuseClosedOrHaving_15 dX8_refuseClosedOrHaving_18 dX8_refuseClosedOrHaving_19 dX8_refuseClosedOrHaving_22 dX8_refuseClosedOrHaving_25 hout ⟨by decide, (Nat.le_of_ble_eq_true rfl)⟩ (Nat.le_of_ble_eq_true rfl) (Nat.le_of_ble_eq_true rfl) ⟨rfl, Or.inr (of_decide_eq_true c12), rfl⟩ (Nat.le_of_ble_eq_true rfl) (Nat.le_of_ble_eq_true rfl)
