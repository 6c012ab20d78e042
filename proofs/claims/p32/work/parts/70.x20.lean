/-! the class: draft, power, will -/
def uI3 (u : MU) (n a b c : Nat) (x y z : Int32) : MU := uI (uI (uI u a n x) b n y) c n z
theorem uI3_cel {N : Nat} {g : Gx} {ez : Nat} {ad : Nat → Nat → Nat} {u : MU} {Y : GS} {n a b c k i : Nat} {x y z : Int32} (hI : CI N u) (ha : (kdOf a = 4 ∨ kdOf a = 7) ∧ ixOf a n = n ∧ a ≠ 11 ∧ a ≠ 8) (hb : (kdOf b = 4 ∨ kdOf b = 7) ∧ ixOf b n = n ∧ b ≠ 11 ∧ b ≠ 8) (hc : (kdOf c = 4 ∨ kdOf c = 7) ∧ ixOf c n = n ∧ c ≠ 11) (h : ¬ (KK 2 k ∧ i = n)) : cel g ez ad (uI3 u n a b c x y z) Y k i = cel g ez ad u Y k i := by
  unfold uI3
  rw [cel_uI ((hI.P.u ha.2.2.2).u hb.2.2.2) hI.W hc.2.2 (k4 h hc.1 hc.2.1), cel_uI (hI.P.u ha.2.2.2) hI.W hb.2.2.1 (k4 h hb.1 hb.2.1), cel_uI hI.P hI.W ha.2.2.1 (k4 h ha.1 ha.2.1)]
theorem uI3_hi {u : MU} {n a b c r : Nat} {x y z : Int32} (ha : a < 20) (hb : b < 20) (hc : c < 20) (hr : 20 ≤ r) : (uI3 u n a b c x y z).1 r = u.1 r := by
  have h1 : ¬ r = a := by omega
  have h2 : ¬ r = b := by omega
  have h3 : ¬ r = c := by omega
  unfold uI3
  simp [uI, h1, h2, h3]
theorem uI3_P {N : Nat} {u : MU} {n a b c : Nat} {x y z : Int32} (hI : CI N u) (ha : a ≠ 8) (hb : b ≠ 8) (hc : c ≠ 8) : WP (uI3 u n a b c x y z) := ((hI.P.u ha).u hb).u hc
theorem uI3_1 {u : MU} {n a b c : Nat} {x y z : Int32} (h1 : a ≠ b) (h2 : a ≠ c) (h3 : b ≠ c) : (uI3 u n a b c x y z).1 a n = x ∧ (uI3 u n a b c x y z).1 b n = y ∧ (uI3 u n a b c x y z).1 c n = z := by
  unfold uI3
  simp [uI, upd, h1, h2, h3]
theorem uI3_o {u : MU} {n a b c r : Nat} {x y z : Int32} (h1 : r ≠ a) (h2 : r ≠ b) (h3 : r ≠ c) : (uI3 u n a b c x y z).1 r = u.1 r := by
  unfold uI3
  simp [uI, h1, h2, h3]
theorem nback {sg s1 : Sg} (h : ∀ a, sg a ≠ none → s1 a = sg a) {a : Nat} (e : s1 a = none) : sg a = none := by
  cases q : sg a with
  | none => rfl
  | some b => rw [h a (by rw [q]; exact fun z => by cases z), q] at e; cases e
theorem n60 {n : Nat} (hn : n ≤ 60) (h : ¬ (60 : Int32) ≤ nI n) : n < 60 := by
  rw [show (60 : Int32) = nI 60 from rfl, nI_leI (by decide) (by omega)] at h
  omega
theorem room_n {N : Nat} {u : MU} {p q : Nat} (hI : CI N u) (h : hasRoom u p q = true) : u.2.2.1 10 < 60 := by
  rw [hasRoom, Bool.and_eq_true] at h
  exact n60 hI.n10 (by simpa using h.1)
theorem pt_no {x y : Int32} (h : isPt x y = false) : inB y 1 100 = false ∨ inB x 1 y = false := Bool.and_eq_false_iff.mp h
theorem pt_y {x y : Int32} (h : isPt x y = true) : inB y 1 100 = true ∧ inB x 1 y = true := Bool.and_eq_true_iff.mp h
theorem ofT_3 {s : Int32} (h : inB s 0 2 = true) : ¬ s = 3 := fun z => by
  subst z
  exact absurd h (by decide)
set_option maxRecDepth 100000 in
theorem F_draft {g : Gx} {l : Launch} {ez : Nat} (G : GOK g l ez) {sg : Sg} {ad : Nat → Nat → Nat} {u : MU} {Y : GS} (hS : CS g ez ad u Y sg) {N : Nat} (hI : CI N u) {sk v w t x0 y0 : Int32} : MM g l yX8_draft cX8_draft 10 (some .int) (rmC 9 12 2000) sg [.ref (ad 0 0), .int sk, .int v, .int w, .int t, .int x0, .int y0] (OPost g ez ad u Y sg (opDraft u sk v w t x0 y0)) (OX g ez ad u Y sg x3 (opDraft u sk v w t x0 y0)) := by
  refine MM.of G.1 G.2.1 (by decide) (Nat.le_of_ble_eq_true rfl) (fun x hg hlx C hin hout hargs => ?_)
  subst hg; subst hlx
  have C : AWC x cX8_draft 10 RX8 (rmC 9 12 2000) (some .int) := C
  show AW x (RQ x _ _ _ _) 0 0 sg 0 [(0, .ref (ad 0 0)), (1, .int sk), (2, .int v), (3, .int w), (4, .int t), (5, .int x0), (6, .int y0)] []
  refine aw_aload_n C dX8_draft_0 rfl rfl rfl ?_
  refine aw_iload_n C dX8_draft_1 rfl rfl rfl ?_
  refine aw_callV C k_X8_71 (C_personAt G hS hI (v := v)) ⟨by decide, by decide⟩ (ci := 10) rfl hS.O rfl rfl (Nat.le_of_ble_eq_true rfl) (Nat.le_of_ble_eq_true rfl) (Nat.le_of_ble_eq_true rfl) dX8_draft_2 rfl (fun E s1 hx => ?_) (fun v1 s1 hq => ?_)
  · obtain ⟨rfl, hx, rfl⟩ := hx
    exact ax_out C hout (Nat.le_of_ble_eq_true rfl) (Nat.le_of_ble_eq_true rfl) (OX.of (c := 1) (r := 0) (w := u) (by simp [opDraft, hx]) (by decide) rfl (CR.rf hS))
  obtain ⟨p, hp, rfl, rfl, hss⟩ := hq
  obtain rfl := hss.symm
  have ep := isP_in hI.W hp
  have kp : (nI p).toNatClampNeg = p := nI_clamp (by have := hI.n2; omega)
  refine aw_astore (ls' := [(7, _), (0, _), (1, _), (2, _), (3, _), (4, _), (5, _), (6, _)]) C dX8_draft_5 (by decide) rfl rfl ?_
  refine aw_aload_n C dX8_draft_7 rfl rfl rfl ?_
  refine aw_iload_n C dX8_draft_8 rfl rfl rfl ?_
  refine aw_callV C k_X8_71 (C_personAt G hS hI (v := w)) ⟨by decide, by decide⟩ (ci := 10) rfl hS.O rfl rfl (Nat.le_of_ble_eq_true rfl) (Nat.le_of_ble_eq_true rfl) (Nat.le_of_ble_eq_true rfl) dX8_draft_9 rfl (fun E s1 hx => ?_) (fun v1 s1 hq => ?_)
  · obtain ⟨rfl, hx, rfl⟩ := hx
    exact ax_out C hout (Nat.le_of_ble_eq_true rfl) (Nat.le_of_ble_eq_true rfl) (OX.of (c := 1) (r := 0) (w := u) (by simp [opDraft, hx]) (by decide) rfl (CR.rf hS))
  obtain ⟨r, hr, rfl, rfl, hss⟩ := hq
  obtain rfl := hss.symm
  have er := isP_in hI.W hr
  have kr : (nI r).toNatClampNeg = r := nI_clamp (by have := hI.n2; omega)
  refine aw_astore (ls' := [(8, _), (7, _), (0, _), (1, _), (2, _), (3, _), (4, _), (5, _), (6, _)]) C dX8_draft_12 (by decide) rfl rfl ?_
  refine aw_aload_n C dX8_draft_14 rfl rfl rfl ?_
  refine aw_iload C dX8_draft_15 rfl rfl ?_
  refine aw_callV C k_X8_121 (C_thingAt G hS hI (v := t)) ⟨by decide, by decide⟩ (ci := 10) rfl hS.O rfl rfl (Nat.le_of_ble_eq_true rfl) (Nat.le_of_ble_eq_true rfl) (Nat.le_of_ble_eq_true rfl) dX8_draft_17 rfl (fun E s1 hx => ?_) (fun v1 s1 hq => ?_)
  · obtain ⟨rfl, hx, rfl⟩ := hx
    exact ax_out C hout (Nat.le_of_ble_eq_true rfl) (Nat.le_of_ble_eq_true rfl) (OX.of (c := 1) (r := 0) (w := u) (by simp [opDraft, hx]) (by decide) rfl (CR.rf hS))
  obtain ⟨tt, htt, rfl, rfl, hss⟩ := hq
  obtain rfl := hss.symm
  have ett := isTh_in hI.W htt
  have ktt : (nI tt).toNatClampNeg = tt := nI_clamp (by have := hI.n31; omega)
  refine aw_astore (ls' := [(9, _), (8, _), (7, _), (0, _), (1, _), (2, _), (3, _), (4, _), (5, _), (6, _)]) C dX8_draft_20 (by decide) rfl rfl ?_
  refine aw_iload_n C dX8_draft_22 rfl rfl rfl ?_
  refine cw_callSp C k_X8_125 (C_isOfThing G (v := sk)) ⟨by decide, by decide⟩ rfl rfl (Nat.le_of_ble_eq_true rfl) (Nat.le_of_ble_eq_true rfl) (Nat.le_of_ble_eq_true rfl) dX8_draft_23 rfl ?_
  refine aw_if_eq (tgt := 44) C dX8_draft_26 (by decide) rfl (fun c26 => ?_) (fun c26 => ?_)
  · have c26 := fa_of c26
    exact aw_thr C G thA 10 rfl dX8_draft_44 dX8_draft_47 dX8_draft_48 dX8_draft_50 dX8_draft_53 hout ⟨by decide, (Nat.le_of_ble_eq_true rfl)⟩ (Nat.le_of_ble_eq_true rfl) (Nat.le_of_ble_eq_true rfl) (OX.of (c := 2) (r := 0) (w := u) (by rw [opDraft, if_neg (by simp [ep, er, ett]), if_pos (Or.inl c26)]) (by decide) rfl (CR.rf hS)) (Nat.le_of_ble_eq_true rfl) (Nat.le_of_ble_eq_true rfl)
  · have c26 := tr_of c26
    refine aw_iload C dX8_draft_29 rfl rfl ?_
    refine aw_iload C dX8_draft_31 rfl rfl ?_
    refine cw_callSp C k_X8_128 (C_isPart G (x0 := x0) (y0 := y0)) ⟨by decide, by decide⟩ rfl rfl (Nat.le_of_ble_eq_true rfl) (Nat.le_of_ble_eq_true rfl) (Nat.le_of_ble_eq_true rfl) dX8_draft_33 rfl ?_
    refine aw_if_eq (tgt := 44) C dX8_draft_36 (by decide) rfl (fun c36 => ?_) (fun c36 => ?_)
    · have c36 := fa_of c36
      exact aw_thr C G thA 10 rfl dX8_draft_44 dX8_draft_47 dX8_draft_48 dX8_draft_50 dX8_draft_53 hout ⟨by decide, (Nat.le_of_ble_eq_true rfl)⟩ (Nat.le_of_ble_eq_true rfl) (Nat.le_of_ble_eq_true rfl) (OX.of (c := 2) (r := 0) (w := u) (by rw [opDraft, if_neg (by simp [ep, er, ett]), if_pos (Or.inr ((pt_no c36).elim Or.inl (fun z => Or.inr (Or.inl z))))]) (by decide) rfl (CR.rf hS)) (Nat.le_of_ble_eq_true rfl) (Nat.le_of_ble_eq_true rfl)
    · have c36 := tr_of c36
      refine aw_iload_n C dX8_draft_39 rfl rfl rfl ?_
      refine aw_iload_n C dX8_draft_40 rfl rfl rfl ?_
      refine aw_icmp_ne (tgt := 54) C dX8_draft_41 (by decide) rfl (fun c41 => ?_) (fun c41 => ?_)
      · refine aw_aload_n C dX8_draft_54 rfl rfl rfl ?_
        refine aw_aload C dX8_draft_55 rfl rfl ?_
        refine aw_aload C dX8_draft_57 rfl rfl ?_
        refine aw_callV C k_X8_134 (C_refuseNewDeed G hS hI hp hr) ⟨by decide, by decide⟩ (ci := 10) rfl hS.O rfl rfl (Nat.le_of_ble_eq_true rfl) (Nat.le_of_ble_eq_true rfl) (Nat.le_of_ble_eq_true rfl) dX8_draft_59 rfl (fun E s1 hx => ?_) (fun v1 s1 hq => ?_)
        · obtain ⟨rfl, hx, rfl⟩ := hx
          exact ax_out C hout (Nat.le_of_ble_eq_true rfl) (Nat.le_of_ble_eq_true rfl) (OX.of (c := 3) (r := 0) (w := u) (by rw [opDraft, if_neg (by simp [ep, er, ett]), if_neg (by rintro (z | z | z | z); rw [c26] at z; cases z; rw [(pt_y c36).1] at z; cases z; rw [(pt_y c36).2] at z; cases z; exact c41 z), kp, kr, if_pos hx]) (by decide) rfl (CR.rf hS))
        obtain ⟨rfl, hroom, hss⟩ := hq
        obtain rfl := hss.symm
        have hn := room_n hI hroom
        refine aw_aload_n C dX8_draft_62 rfl rfl rfl ?_
        refine aw_new (fs := [.int 0, .int 0, .null, .null, .null, .int 0, .int 0, .null, .null, .int 0, .int 0, .int 0, .int 0, .int 0, .int 0]) C cf_X0 h_X8_137 h_new_X0 h_ini_X0 (fun j hj => match j, hj with | 0, _ => rfl | 1, _ => rfl | 2, _ => rfl | 3, _ => rfl | 4, _ => rfl | 5, _ => rfl | 6, _ => rfl | 7, _ => rfl | 8, _ => rfl | 9, _ => rfl | 10, _ => rfl | 11, _ => rfl | 12, _ => rfl | 13, _ => rfl | 14, _ => rfl | _ + 15, h => absurd h (by omega)) (Nat.le_of_ble_eq_true rfl) (Nat.le_of_ble_eq_true rfl) dX8_draft_63 rfl (fun q hq => ?_)
        have hq0 := hq
        have hS0 := hS.ext (fr_new (e := ob 2 [.int 0, .int 0, .null, .null, .null, .int 0, .int 0, .null, .null, .int 0, .int 0, .int 0, .int 0, .int 0, .int 0]) hq)
        refine aw_dup C dX8_draft_66 rfl rfl ?_
        refine aw_aload_n C dX8_draft_67 rfl rfl rfl ?_
        refine aw_getf C f_X8_19 hS0.O rfl dX8_draft_68 rfl ?_
        refine cw_callVp C k_X8_50 (L_size G (n := u.2.2.1 10) (hS0.L (i := 2) (by decide))) ⟨by decide, by decide⟩ (ci := 1) rfl (hS0.L (i := 2) (by decide)) rfl rfl (Nat.le_of_ble_eq_true rfl) (Nat.le_of_ble_eq_true rfl) (Nat.le_of_ble_eq_true rfl) dX8_draft_71 rfl ?_
        refine aw_iload_n C dX8_draft_74 rfl rfl rfl ?_
        refine aw_aload C dX8_draft_75 rfl rfl ?_
        refine aw_aload C dX8_draft_77 rfl rfl ?_
        refine aw_aload C dX8_draft_79 rfl rfl ?_
        refine aw_iload C dX8_draft_81 rfl rfl ?_
        refine aw_iload C dX8_draft_83 rfl rfl ?_
        refine aw_callIN C k_X8_139 (C_iDeed G (th := some (ad 8 tt)) sgu_s) ⟨by decide, by decide⟩ rfl rfl (Nat.le_of_ble_eq_true rfl) (Nat.le_of_ble_eq_true rfl) (Nat.le_of_ble_eq_true rfl) dX8_draft_85 rfl (fun _ _ q => ax_no q) (fun v1 s1 hq => ?_)
        obtain ⟨rfl, pa, ga, hpa0, hga0, hp1, hg1, hq1, hfr1⟩ := hq
        have hpa := (new2 hpa0).2
        have hga := (new2 hga0).2
        have h1 : ∀ c, sg c ≠ none → s1 c = sg c := fun c hc => (hfr1 c (fun z => hc (by rw [z]; exact hq0)) (fun z => hc (by rw [z]; exact hpa)) (fun z => hc (by rw [z]; exact hga))).trans (fr_new hq0 c hc)
        have hS1 := hS.ext h1
        refine aw_callV C k_X8_142 (C_keepDeed G hS1 hI hq1 hn) ⟨by decide, by decide⟩ (ci := 10) rfl hS1.O rfl rfl (Nat.le_of_ble_eq_true rfl) (Nat.le_of_ble_eq_true rfl) (Nat.le_of_ble_eq_true rfl) dX8_draft_88 rfl (fun _ _ q => ax_no q) (fun v2 s9 hq2 => ?_)
        obtain ⟨rfl, qa, hqa, hL2, hfr2⟩ := hq2
        exact aw_iret C rfl (Nat.le_of_ble_eq_true rfl) (Nat.le_of_ble_eq_true rfl) (OPost.of (by rw [opDraft, if_neg (by simp [ep, er, ett]), if_neg (by rintro (z | z | z | z); rw [c26] at z; cases z; rw [(pt_y c36).1] at z; cases z; rw [(pt_y c36).2] at z; cases z; exact c41 z), kp, kr, if_neg (by rw [hroom]; decide)]; rfl) (CS.deed (s := sk) (w := uI3 u (u.2.2.1 10) 14 15 16 (nI tt) x0 y0) (mq := q) hI hS rfl hn hp hr rfl (uI3_P hI (by decide) (by decide) (by decide)) (fun ad k i hk => uI3_cel hI ⟨by decide, rfl, by decide, by decide⟩ ⟨by decide, rfl, by decide, by decide⟩ ⟨by decide, rfl, by decide⟩ hk) (fun r hr => uI3_hi (by decide) (by decide) (by decide) hr) h1 hqa hL2 hfr2 hq0 hpa hga (fun z => absurd z (ofT_3 c26)) (by rw [if_neg (ofT_3 c26), if_neg (ofT_3 c26), if_neg (ofT_3 c26), (uI3_1 (by decide) (by decide) (by decide)).1, (uI3_1 (by decide) (by decide) (by decide)).2.1, (uI3_1 (by decide) (by decide) (by decide)).2.2, rfo_q (by have := hI.n31; omega)]; exact hq1) hp1 hg1 (fun z => absurd z (ofT_3 c26)))) dX8_draft_91
      · exact aw_thr C G thA 10 rfl dX8_draft_44 dX8_draft_47 dX8_draft_48 dX8_draft_50 dX8_draft_53 hout ⟨by decide, (Nat.le_of_ble_eq_true rfl)⟩ (Nat.le_of_ble_eq_true rfl) (Nat.le_of_ble_eq_true rfl) (OX.of (c := 2) (r := 0) (w := u) (by rw [opDraft, if_neg (by simp [ep, er, ett]), if_pos (Or.inr (Or.inr (Or.inr c41)))]) (by decide) rfl (CR.rf hS)) (Nat.le_of_ble_eq_true rfl) (Nat.le_of_ble_eq_true rfl)
set_option maxRecDepth 100000 in
theorem F_will {g : Gx} {l : Launch} {ez : Nat} (G : GOK g l ez) {sg : Sg} {ad : Nat → Nat → Nat} {u : MU} {Y : GS} (hS : CS g ez ad u Y sg) {N : Nat} (hI : CI N u) {v w x0 y0 : Int32} : MM g l yX8_will cX8_will 7 (some .int) (rmC 9 12 2000) sg [.ref (ad 0 0), .int v, .int w, .int x0, .int y0] (OPost g ez ad u Y sg (opWill u v w x0 y0)) (OX g ez ad u Y sg x3 (opWill u v w x0 y0)) := by
  refine MM.of G.1 G.2.1 (by decide) (Nat.le_of_ble_eq_true rfl) (fun x hg hlx C hin hout hargs => ?_)
  subst hg; subst hlx
  have C : AWC x cX8_will 7 RX8 (rmC 9 12 2000) (some .int) := C
  show AW x (RQ x _ _ _ _) 0 0 sg 0 [(0, .ref (ad 0 0)), (1, .int v), (2, .int w), (3, .int x0), (4, .int y0)] []
  refine aw_aload_n C dX8_will_0 rfl rfl rfl ?_
  refine aw_iload_n C dX8_will_1 rfl rfl rfl ?_
  refine aw_callV C k_X8_71 (C_personAt G hS hI (v := v)) ⟨by decide, by decide⟩ (ci := 10) rfl hS.O rfl rfl (Nat.le_of_ble_eq_true rfl) (Nat.le_of_ble_eq_true rfl) (Nat.le_of_ble_eq_true rfl) dX8_will_2 rfl (fun E s1 hx => ?_) (fun v1 s1 hq => ?_)
  · obtain ⟨rfl, hx, rfl⟩ := hx
    exact ax_out C hout (Nat.le_of_ble_eq_true rfl) (Nat.le_of_ble_eq_true rfl) (OX.of (c := 1) (r := 0) (w := u) (by simp [opWill, hx]) (by decide) rfl (CR.rf hS))
  obtain ⟨p, hp, rfl, rfl, hss⟩ := hq
  obtain rfl := hss.symm
  have ep := isP_in hI.W hp
  have kp : (nI p).toNatClampNeg = p := nI_clamp (by have := hI.n2; omega)
  refine aw_astore (ls' := [(5, _), (0, _), (1, _), (2, _), (3, _), (4, _)]) C dX8_will_5 (by decide) rfl rfl ?_
  refine aw_aload_n C dX8_will_7 rfl rfl rfl ?_
  refine aw_iload_n C dX8_will_8 rfl rfl rfl ?_
  refine aw_callV C k_X8_71 (C_personAt G hS hI (v := w)) ⟨by decide, by decide⟩ (ci := 10) rfl hS.O rfl rfl (Nat.le_of_ble_eq_true rfl) (Nat.le_of_ble_eq_true rfl) (Nat.le_of_ble_eq_true rfl) dX8_will_9 rfl (fun E s1 hx => ?_) (fun v1 s1 hq => ?_)
  · obtain ⟨rfl, hx, rfl⟩ := hx
    exact ax_out C hout (Nat.le_of_ble_eq_true rfl) (Nat.le_of_ble_eq_true rfl) (OX.of (c := 1) (r := 0) (w := u) (by simp [opWill, hx]) (by decide) rfl (CR.rf hS))
  obtain ⟨r, hr, rfl, rfl, hss⟩ := hq
  obtain rfl := hss.symm
  have er := isP_in hI.W hr
  have kr : (nI r).toNatClampNeg = r := nI_clamp (by have := hI.n2; omega)
  refine aw_astore (ls' := [(6, _), (5, _), (0, _), (1, _), (2, _), (3, _), (4, _)]) C dX8_will_12 (by decide) rfl rfl ?_
  refine aw_iload_n C dX8_will_14 rfl rfl rfl ?_
  refine aw_iload C dX8_will_15 rfl rfl ?_
  refine cw_callSp C k_X8_128 (C_isPart G (x0 := x0) (y0 := y0)) ⟨by decide, by decide⟩ rfl rfl (Nat.le_of_ble_eq_true rfl) (Nat.le_of_ble_eq_true rfl) (Nat.le_of_ble_eq_true rfl) dX8_will_17 rfl ?_
  refine aw_if_eq (tgt := 28) C dX8_will_20 (by decide) rfl (fun c20 => ?_) (fun c20 => ?_)
  · have c20 := fa_of c20
    exact aw_thr C G thA 13 rfl dX8_will_28 dX8_will_31 dX8_will_32 dX8_will_34 dX8_will_37 hout ⟨by decide, (Nat.le_of_ble_eq_true rfl)⟩ (Nat.le_of_ble_eq_true rfl) (Nat.le_of_ble_eq_true rfl) (OX.of (c := 2) (r := 0) (w := u) (by rw [opWill, if_neg (by simp [ep, er]), if_pos ((pt_no c20).elim Or.inl (fun z => Or.inr (Or.inl z)))]) (by decide) rfl (CR.rf hS)) (Nat.le_of_ble_eq_true rfl) (Nat.le_of_ble_eq_true rfl)
  · have c20 := tr_of c20
    refine aw_iload_n C dX8_will_23 rfl rfl rfl ?_
    refine aw_iload_n C dX8_will_24 rfl rfl rfl ?_
    refine aw_icmp_ne (tgt := 38) C dX8_will_25 (by decide) rfl (fun c25 => ?_) (fun c25 => ?_)
    · refine aw_aload_n C dX8_will_38 rfl rfl rfl ?_
      refine aw_aload C dX8_will_39 rfl rfl ?_
      refine aw_aload C dX8_will_41 rfl rfl ?_
      refine aw_callV C k_X8_134 (C_refuseNewDeed G hS hI hp hr) ⟨by decide, by decide⟩ (ci := 10) rfl hS.O rfl rfl (Nat.le_of_ble_eq_true rfl) (Nat.le_of_ble_eq_true rfl) (Nat.le_of_ble_eq_true rfl) dX8_will_43 rfl (fun E s1 hx => ?_) (fun v1 s1 hq => ?_)
      · obtain ⟨rfl, hx, rfl⟩ := hx
        exact ax_out C hout (Nat.le_of_ble_eq_true rfl) (Nat.le_of_ble_eq_true rfl) (OX.of (c := 3) (r := 0) (w := u) (by rw [opWill, if_neg (by simp [ep, er]), if_neg (by rintro (z | z | z); rw [(pt_y c20).1] at z; cases z; rw [(pt_y c20).2] at z; cases z; exact c25 z), kp, kr, if_pos hx]) (by decide) rfl (CR.rf hS))
      obtain ⟨rfl, hroom, hss⟩ := hq
      obtain rfl := hss.symm
      have hn := room_n hI hroom
      refine aw_aload_n C dX8_will_46 rfl rfl rfl ?_
      refine aw_new (fs := [.int 0, .int 0, .null, .null, .null, .int 0, .int 0, .null, .null, .int 0, .int 0, .int 0, .int 0, .int 0, .int 0]) C cf_X0 h_X8_137 h_new_X0 h_ini_X0 (fun j hj => match j, hj with | 0, _ => rfl | 1, _ => rfl | 2, _ => rfl | 3, _ => rfl | 4, _ => rfl | 5, _ => rfl | 6, _ => rfl | 7, _ => rfl | 8, _ => rfl | 9, _ => rfl | 10, _ => rfl | 11, _ => rfl | 12, _ => rfl | 13, _ => rfl | 14, _ => rfl | _ + 15, h => absurd h (by omega)) (Nat.le_of_ble_eq_true rfl) (Nat.le_of_ble_eq_true rfl) dX8_will_47 rfl (fun q hq => ?_)
      have hq0 := hq
      have hS0 := hS.ext (fr_new (e := ob 2 [.int 0, .int 0, .null, .null, .null, .int 0, .int 0, .null, .null, .int 0, .int 0, .int 0, .int 0, .int 0, .int 0]) hq)
      refine aw_dup C dX8_will_50 rfl rfl ?_
      refine aw_aload_n C dX8_will_51 rfl rfl rfl ?_
      refine aw_getf C f_X8_19 hS0.O rfl dX8_will_52 rfl ?_
      refine cw_callVp C k_X8_50 (L_size G (n := u.2.2.1 10) (hS0.L (i := 2) (by decide))) ⟨by decide, by decide⟩ (ci := 1) rfl (hS0.L (i := 2) (by decide)) rfl rfl (Nat.le_of_ble_eq_true rfl) (Nat.le_of_ble_eq_true rfl) (Nat.le_of_ble_eq_true rfl) dX8_will_55 rfl ?_
      refine aw_iconst (v := 4) C dX8_will_58 rfl rfl ?_
      refine aw_aload C dX8_will_59 rfl rfl ?_
      refine aw_aload C dX8_will_61 rfl rfl ?_
      refine aw_null C dX8_will_63 rfl ?_
      refine aw_iload_n C dX8_will_64 rfl rfl rfl ?_
      refine aw_iload C dX8_will_65 rfl rfl ?_
      refine aw_callIN C k_X8_139 (C_iDeed G (th := none) sgu_s) ⟨by decide, by decide⟩ rfl rfl (Nat.le_of_ble_eq_true rfl) (Nat.le_of_ble_eq_true rfl) (Nat.le_of_ble_eq_true rfl) dX8_will_67 rfl (fun _ _ q => ax_no q) (fun v1 s1 hq => ?_)
      obtain ⟨rfl, pa, ga, hpa0, hga0, hp1, hg1, hq1, hfr1⟩ := hq
      have hpa := (new2 hpa0).2
      have hga := (new2 hga0).2
      have h1 : ∀ c, sg c ≠ none → s1 c = sg c := fun c hc => (hfr1 c (fun z => hc (by rw [z]; exact hq0)) (fun z => hc (by rw [z]; exact hpa)) (fun z => hc (by rw [z]; exact hga))).trans (fr_new hq0 c hc)
      have hS1 := hS.ext h1
      refine aw_callV C k_X8_142 (C_keepDeed G hS1 hI hq1 hn) ⟨by decide, by decide⟩ (ci := 10) rfl hS1.O rfl rfl (Nat.le_of_ble_eq_true rfl) (Nat.le_of_ble_eq_true rfl) (Nat.le_of_ble_eq_true rfl) dX8_will_70 rfl (fun _ _ q => ax_no q) (fun v2 s9 hq2 => ?_)
      obtain ⟨rfl, qa, hqa, hL2, hfr2⟩ := hq2
      exact aw_iret C rfl (Nat.le_of_ble_eq_true rfl) (Nat.le_of_ble_eq_true rfl) (OPost.of (by rw [opWill, if_neg (by simp [ep, er]), if_neg (by rintro (z | z | z); rw [(pt_y c20).1] at z; cases z; rw [(pt_y c20).2] at z; cases z; exact c25 z), kp, kr, if_neg (by rw [hroom]; decide)]; rfl) (CS.deed (s := 4) (w := uI3 u (u.2.2.1 10) 14 15 16 (-1) x0 y0) (mq := q) hI hS rfl hn hp hr rfl (uI3_P hI (by decide) (by decide) (by decide)) (fun ad k i hk => uI3_cel hI ⟨by decide, rfl, by decide, by decide⟩ ⟨by decide, rfl, by decide, by decide⟩ ⟨by decide, rfl, by decide⟩ hk) (fun r hr => uI3_hi (by decide) (by decide) (by decide) hr) h1 hqa hL2 hfr2 hq0 hpa hga (fun z => absurd z (by decide)) (by rw [if_neg (by decide), if_neg (by decide), if_neg (by decide), (uI3_1 (by decide) (by decide) (by decide)).1, (uI3_1 (by decide) (by decide) (by decide)).2.1, (uI3_1 (by decide) (by decide) (by decide)).2.2, rfo_m]; exact hq1) hp1 hg1 (fun z => absurd z (by decide)))) dX8_will_73
    · exact aw_thr C G thA 13 rfl dX8_will_28 dX8_will_31 dX8_will_32 dX8_will_34 dX8_will_37 hout ⟨by decide, (Nat.le_of_ble_eq_true rfl)⟩ (Nat.le_of_ble_eq_true rfl) (Nat.le_of_ble_eq_true rfl) (OX.of (c := 2) (r := 0) (w := u) (by rw [opWill, if_neg (by simp [ep, er]), if_pos (Or.inr (Or.inr c25))]) (by decide) rfl (CR.rf hS)) (Nat.le_of_ble_eq_true rfl) (Nat.le_of_ble_eq_true rfl)
set_option maxRecDepth 100000 in
theorem F_power {g : Gx} {l : Launch} {ez : Nat} (G : GOK g l ez) {sg : Sg} {ad : Nat → Nat → Nat} {u : MU} {Y : GS} (hS : CS g ez ad u Y sg) {N : Nat} (hI : CI N u) {v w t dd : Int32} {on : Bool} : MM g l yX8_power cX8_power 10 (some .int) (rmC 9 12 2000) sg [.ref (ad 0 0), .int v, .int w, .int t, .int dd, .int (b2i on)] (OPost g ez ad u Y sg (opPower u v w t dd on)) (OX g ez ad u Y sg x3 (opPower u v w t dd on)) := by
  refine MM.of G.1 G.2.1 (by decide) (Nat.le_of_ble_eq_true rfl) (fun x hg hlx C hin hout hargs => ?_)
  subst hg; subst hlx
  have C : AWC x cX8_power 10 RX8 (rmC 9 12 2000) (some .int) := C
  show AW x (RQ x _ _ _ _) 0 0 sg 0 [(0, .ref (ad 0 0)), (1, .int v), (2, .int w), (3, .int t), (4, .int dd), (5, .int (b2i on))] []
  refine aw_aload_n C dX8_power_0 rfl rfl rfl ?_
  refine aw_iload_n C dX8_power_1 rfl rfl rfl ?_
  refine aw_callV C k_X8_71 (C_personAt G hS hI (v := v)) ⟨by decide, by decide⟩ (ci := 10) rfl hS.O rfl rfl (Nat.le_of_ble_eq_true rfl) (Nat.le_of_ble_eq_true rfl) (Nat.le_of_ble_eq_true rfl) dX8_power_2 rfl (fun E s1 hx => ?_) (fun v1 s1 hq => ?_)
  · obtain ⟨rfl, hx, rfl⟩ := hx
    exact ax_out C hout (Nat.le_of_ble_eq_true rfl) (Nat.le_of_ble_eq_true rfl) (OX.of (c := 1) (r := 0) (w := u) (by simp [opPower, hx]) (by decide) rfl (CR.rf hS))
  obtain ⟨p, hp, rfl, rfl, hss⟩ := hq
  obtain rfl := hss.symm
  have ep := isP_in hI.W hp
  have kp : (nI p).toNatClampNeg = p := nI_clamp (by have := hI.n2; omega)
  refine aw_astore (ls' := [(6, _), (0, _), (1, _), (2, _), (3, _), (4, _), (5, _)]) C dX8_power_5 (by decide) rfl rfl ?_
  refine aw_aload_n C dX8_power_7 rfl rfl rfl ?_
  refine aw_iload_n C dX8_power_8 rfl rfl rfl ?_
  refine aw_callV C k_X8_71 (C_personAt G hS hI (v := w)) ⟨by decide, by decide⟩ (ci := 10) rfl hS.O rfl rfl (Nat.le_of_ble_eq_true rfl) (Nat.le_of_ble_eq_true rfl) (Nat.le_of_ble_eq_true rfl) dX8_power_9 rfl (fun E s1 hx => ?_) (fun v1 s1 hq => ?_)
  · obtain ⟨rfl, hx, rfl⟩ := hx
    exact ax_out C hout (Nat.le_of_ble_eq_true rfl) (Nat.le_of_ble_eq_true rfl) (OX.of (c := 1) (r := 0) (w := u) (by simp [opPower, hx]) (by decide) rfl (CR.rf hS))
  obtain ⟨r, hr, rfl, rfl, hss⟩ := hq
  obtain rfl := hss.symm
  have er := isP_in hI.W hr
  have kr : (nI r).toNatClampNeg = r := nI_clamp (by have := hI.n2; omega)
  refine aw_astore (ls' := [(7, _), (6, _), (0, _), (1, _), (2, _), (3, _), (4, _), (5, _)]) C dX8_power_12 (by decide) rfl rfl ?_
  refine aw_iload_n C dX8_power_14 rfl rfl rfl ?_
  refine aw_iconst (v := -1) C dX8_power_15 rfl rfl ?_
  refine aw_icmp_ne (tgt := 23) C dX8_power_16 (by decide) rfl (fun c16 => ?_) (fun c16 => ?_)
  · refine aw_aload_n C dX8_power_23 rfl rfl rfl ?_
    refine aw_iload_n C dX8_power_24 rfl rfl rfl ?_
    refine aw_callV C k_X8_121 (C_thingAt G hS hI (v := t)) ⟨by decide, by decide⟩ (ci := 10) rfl hS.O rfl rfl (Nat.le_of_ble_eq_true rfl) (Nat.le_of_ble_eq_true rfl) (Nat.le_of_ble_eq_true rfl) dX8_power_25 rfl (fun E s1 hx => ?_) (fun v1 s1 hq => ?_)
    · obtain ⟨rfl, hx, rfl⟩ := hx
      exact ax_out C hout (Nat.le_of_ble_eq_true rfl) (Nat.le_of_ble_eq_true rfl) (OX.of (c := 1) (r := 0) (w := u) (by rw [opPower, if_pos (Or.inr (Or.inr ⟨c16, hx⟩))]) (by decide) rfl (CR.rf hS))
    obtain ⟨tt, htt, rfl, rfl, hss⟩ := hq
    obtain rfl := hss.symm
    have ett := isTh_in hI.W htt
    have ktt : (nI tt).toNatClampNeg = tt := nI_clamp (by have := hI.n31; omega)
    refine aw_astore (ls' := [(8, _), (7, _), (6, _), (0, _), (1, _), (2, _), (3, _), (4, _), (5, _)]) C dX8_power_28 (by decide) rfl rfl ?_
    refine aw_iload C dX8_power_30 rfl rfl ?_
    refine aw_iconst (v := 1) C dX8_power_32 rfl rfl ?_
    refine aw_icmp_lt (tgt := 49) C dX8_power_33 (by decide) rfl (fun c33 => ?_) (fun c33 => ?_)
    · exact aw_thr C G thA 12 rfl dX8_power_49 dX8_power_52 dX8_power_53 dX8_power_55 dX8_power_58 hout ⟨by decide, (Nat.le_of_ble_eq_true rfl)⟩ (Nat.le_of_ble_eq_true rfl) (Nat.le_of_ble_eq_true rfl) (OX.of (c := 2) (r := 0) (w := u) (by rw [opPower, if_neg (by simp [ep, er, ett]), if_pos (Or.inl (inB_f.mpr (Or.inl c33)))]) (by decide) rfl (CR.rf hS)) (Nat.le_of_ble_eq_true rfl) (Nat.le_of_ble_eq_true rfl)
    · refine aw_iload C dX8_power_36 rfl rfl ?_
      refine aw_sipush (v := 1000) C dX8_power_38 rfl rfl ?_
      refine aw_icmp_gt (tgt := 49) C dX8_power_41 (by decide) rfl (fun c41 => ?_) (fun c41 => ?_)
      · exact aw_thr C G thA 12 rfl dX8_power_49 dX8_power_52 dX8_power_53 dX8_power_55 dX8_power_58 hout ⟨by decide, (Nat.le_of_ble_eq_true rfl)⟩ (Nat.le_of_ble_eq_true rfl) (Nat.le_of_ble_eq_true rfl) (OX.of (c := 2) (r := 0) (w := u) (by rw [opPower, if_neg (by simp [ep, er, ett]), if_pos (Or.inl (inB_f.mpr (Or.inr (c41))))]) (by decide) rfl (CR.rf hS)) (Nat.le_of_ble_eq_true rfl) (Nat.le_of_ble_eq_true rfl)
      · refine aw_iload_n C dX8_power_44 rfl rfl rfl ?_
        refine aw_iload_n C dX8_power_45 rfl rfl rfl ?_
        refine aw_icmp_ne (tgt := 59) C dX8_power_46 (by decide) rfl (fun c46 => ?_) (fun c46 => ?_)
        · refine aw_aload_n C dX8_power_59 rfl rfl rfl ?_
          refine aw_aload C dX8_power_60 rfl rfl ?_
          refine aw_aload C dX8_power_62 rfl rfl ?_
          refine aw_callV C k_X8_134 (C_refuseNewDeed G hS hI hp hr) ⟨by decide, by decide⟩ (ci := 10) rfl hS.O rfl rfl (Nat.le_of_ble_eq_true rfl) (Nat.le_of_ble_eq_true rfl) (Nat.le_of_ble_eq_true rfl) dX8_power_64 rfl (fun E s1 hx => ?_) (fun v1 s1 hq => ?_)
          · obtain ⟨rfl, hx, rfl⟩ := hx
            exact ax_out C hout (Nat.le_of_ble_eq_true rfl) (Nat.le_of_ble_eq_true rfl) (OX.of (c := 3) (r := 0) (w := u) (by rw [opPower, if_neg (by simp [ep, er, ett]), if_neg (by rintro (z | z); rw [show inB dd 1 1000 = true from inB_t.mpr ⟨c33, c41⟩] at z; cases z; exact c46 z), kp, kr, if_pos hx]) (by decide) rfl (CR.rf hS))
          obtain ⟨rfl, hroom, hss⟩ := hq
          obtain rfl := hss.symm
          have hn := room_n hI hroom
          refine aw_new (fs := [.int 0, .int 0, .null, .null, .null, .int 0, .int 0, .null, .null, .int 0, .int 0, .int 0, .int 0, .int 0, .int 0]) C cf_X0 h_X8_137 h_new_X0 h_ini_X0 (fun j hj => match j, hj with | 0, _ => rfl | 1, _ => rfl | 2, _ => rfl | 3, _ => rfl | 4, _ => rfl | 5, _ => rfl | 6, _ => rfl | 7, _ => rfl | 8, _ => rfl | 9, _ => rfl | 10, _ => rfl | 11, _ => rfl | 12, _ => rfl | 13, _ => rfl | 14, _ => rfl | _ + 15, h => absurd h (by omega)) (Nat.le_of_ble_eq_true rfl) (Nat.le_of_ble_eq_true rfl) dX8_power_67 rfl (fun q hq => ?_)
          have hq0 := hq
          have hS0 := hS.ext (fr_new (e := ob 2 [.int 0, .int 0, .null, .null, .null, .int 0, .int 0, .null, .null, .int 0, .int 0, .int 0, .int 0, .int 0, .int 0]) hq)
          refine aw_dup C dX8_power_70 rfl rfl ?_
          refine aw_aload_n C dX8_power_71 rfl rfl rfl ?_
          refine aw_getf C f_X8_19 hS0.O rfl dX8_power_72 rfl ?_
          refine cw_callVp C k_X8_50 (L_size G (n := u.2.2.1 10) (hS0.L (i := 2) (by decide))) ⟨by decide, by decide⟩ (ci := 1) rfl (hS0.L (i := 2) (by decide)) rfl rfl (Nat.le_of_ble_eq_true rfl) (Nat.le_of_ble_eq_true rfl) (Nat.le_of_ble_eq_true rfl) dX8_power_75 rfl ?_
          refine aw_iconst (v := 3) C dX8_power_78 rfl rfl ?_
          refine aw_aload C dX8_power_79 rfl rfl ?_
          refine aw_aload C dX8_power_81 rfl rfl ?_
          refine aw_aload C dX8_power_83 rfl rfl ?_
          refine aw_iconst (v := 0) C dX8_power_85 rfl rfl ?_
          refine aw_iconst (v := 1) C dX8_power_86 rfl rfl ?_
          refine aw_callIN C k_X8_139 (C_iDeed G (th := some (ad 8 tt)) sgu_s) ⟨by decide, by decide⟩ rfl rfl (Nat.le_of_ble_eq_true rfl) (Nat.le_of_ble_eq_true rfl) (Nat.le_of_ble_eq_true rfl) dX8_power_87 rfl (fun _ _ q => ax_no q) (fun v1 s1 hq => ?_)
          obtain ⟨rfl, pa, ga, hpa0, hga0, hp1, hg1, hq1, hfr1⟩ := hq
          have hpa := (new2 hpa0).2
          have hga := (new2 hga0).2
          have h1 : ∀ c, sg c ≠ none → s1 c = sg c := fun c hc => (hfr1 c (fun z => hc (by rw [z]; exact hq0)) (fun z => hc (by rw [z]; exact hpa)) (fun z => hc (by rw [z]; exact hga))).trans (fr_new hq0 c hc)
          have hS1 := hS.ext h1
          refine aw_astore (ls' := [(9, _), (8, _), (7, _), (6, _), (0, _), (1, _), (2, _), (3, _), (4, _), (5, _)]) C dX8_power_90 (by decide) rfl rfl ?_
          refine aw_aload C dX8_power_92 rfl rfl ?_
          refine aw_new (fs := [.int 0, .int 0, .int 0, .int 0, .null]) C cf_X2 h_X8_148 h_new_X2 h_ini_X2 (fun j hj => match j, hj with | 0, _ => rfl | 1, _ => rfl | 2, _ => rfl | 3, _ => rfl | 4, _ => rfl | _ + 5, h => absurd h (by omega)) (Nat.le_of_ble_eq_true rfl) (Nat.le_of_ble_eq_true rfl) dX8_power_94 rfl (fun mq hmq => ?_)
          have nqm := no_ne hq1 hmq
          have npm := no_ne hp1 hmq
          have ngm := no_ne hg1 hmq
          have hm0 := nback h1 hmq
          have hSm := hS1.ext (fr_new (e := ob 4 [.int 0, .int 0, .int 0, .int 0, .null]) hmq)
          refine aw_dup C dX8_power_97 rfl rfl ?_
          refine aw_aload_n C dX8_power_98 rfl rfl rfl ?_
          refine aw_getf C f_X8_32 (hSm.O) rfl dX8_power_99 rfl ?_
          refine aw_iload C dX8_power_102 rfl rfl ?_
          refine aw_iadd C dX8_power_104 rfl ?_
          refine aw_iload C dX8_power_105 rfl rfl ?_
          refine aw_callIN C k_X8_150 (C_iMandate G (d := u.2.2.2.1 + dd) (b := on) sgu_s) ⟨by decide, by decide⟩ rfl rfl (Nat.le_of_ble_eq_true rfl) (Nat.le_of_ble_eq_true rfl) (Nat.le_of_ble_eq_true rfl) dX8_power_107 rfl (fun _ _ q => ax_no q) (fun v3 s3 hq3 => ?_)
          obtain ⟨rfl, hm1, hfrm⟩ := hq3
          have hq3 := (hfrm q nqm).trans ((sgu_n nqm).trans hq1)
          refine aw_putf (fs' := [.int (nI (u.2.2.1 10)), .int 3, .ref (ad 3 p), .ref (ad 3 r), va_rf (some (ad 8 tt)), .int 0, .int 1, .ref pa, .ref mq, .int 0, .int 0, .int 0, .int 0, .int (-1), .int (-1)]) C f_X8_153 rfl hq3 rfl rfl (Nat.le_of_ble_eq_true rfl) rfl dX8_power_110 rfl ?_
          obtain ⟨s4, hs4⟩ : ∃ s4 : Sg, s4 = sgu s3 q (ob 2 [.int (nI (u.2.2.1 10)), .int 3, .ref (ad 3 p), .ref (ad 3 r), va_rf (some (ad 8 tt)), .int 0, .int 1, .ref pa, .ref mq, .int 0, .int 0, .int 0, .int 0, .int (-1), .int (-1)]) := ⟨_, rfl⟩
          rw [show sgu s3 q _ = s4 from hs4.symm]
          have npq : pa ≠ q := fun z => by rw [z, hq1] at hp1; cases hp1
          have ngq : ga ≠ q := fun z => by rw [z, hq1] at hg1; cases hg1
          have hq4 : s4 q = some (ob 2 [.int (nI (u.2.2.1 10)), .int 3, .ref (ad 3 p), .ref (ad 3 r), va_rf (some (ad 8 tt)), .int 0, .int 1, .ref pa, .ref mq, .int 0, .int 0, .int 0, .int 0, .int (-1), .int (-1)]) := by rw [hs4]; exact sgu_s
          have hp4 : s4 pa = some (ob 6 [.ref ga, .int 0]) := by rw [hs4, sgu_n npq, hfrm pa npm, sgu_n npm, hp1]
          have hg4 : s4 ga = some (arI x.g 4 (fun _ => 0)) := by rw [hs4, sgu_n ngq, hfrm ga ngm, sgu_n ngm, hg1]
          have hm4 : s4 mq = some (ob 4 [.int (u.2.2.2.1 + dd), .int (b2i on), .int 0, .int 0, .null]) := by rw [hs4, sgu_n (Ne.symm nqm), hm1]
          have h4 : ∀ c, sg c ≠ none → s4 c = sg c := fun c hc => by rw [hs4, sgu_n (fun z => hc (by rw [z]; exact hq0)), hfrm c (fun z => hc (by rw [z]; exact hm0)), sgu_n (fun z => hc (by rw [z]; exact hm0)), h1 c hc]
          have hS4 := hS.ext h4
          refine aw_aload_n C dX8_power_113 rfl rfl rfl ?_
          refine aw_aload C dX8_power_114 rfl rfl ?_
          refine aw_callV C k_X8_142 (C_keepDeed G hS4 hI hq4 hn) ⟨by decide, by decide⟩ (ci := 10) rfl hS4.O rfl rfl (Nat.le_of_ble_eq_true rfl) (Nat.le_of_ble_eq_true rfl) (Nat.le_of_ble_eq_true rfl) dX8_power_116 rfl (fun _ _ q => ax_no q) (fun v2 s9 hq2 => ?_)
          obtain ⟨rfl, qa, hqa, hL2, hfr2⟩ := hq2
          exact aw_iret C rfl (Nat.le_of_ble_eq_true rfl) (Nat.le_of_ble_eq_true rfl) (OPost.of (by rw [opPower, if_neg (by simp [ep, er, ett]), if_neg (by rintro (z | z); rw [show inB dd 1 1000 = true from inB_t.mpr ⟨c33, c41⟩] at z; cases z; exact c46 z), kp, kr, if_neg (by rw [hroom]; decide)]; rfl) (CS.deed (s := 3) (w := uI3 u (u.2.2.1 10) 14 17 18 (nI tt) (u.2.2.2.1 + dd) (b2i on)) (mq := mq) hI hS rfl hn hp hr rfl (uI3_P hI (by decide) (by decide) (by decide)) (fun ad k i hk => uI3_cel hI ⟨by decide, rfl, by decide, by decide⟩ ⟨by decide, rfl, by decide, by decide⟩ ⟨by decide, rfl, by decide⟩ hk) (fun r hr => uI3_hi (by decide) (by decide) (by decide) hr) h4 hqa hL2 hfr2 hq0 hpa hga (fun _ => hm0) (by rw [if_pos rfl, if_pos rfl, if_pos rfl, (uI3_1 (by decide) (by decide) (by decide)).1, rfo_q (by have := hI.n31; omega)]; exact hq4) hp4 hg4 (fun _ => by rw [(uI3_1 (by decide) (by decide) (by decide)).2.1, (uI3_1 (by decide) (by decide) (by decide)).2.2]; exact hm4))) dX8_power_119
        · exact aw_thr C G thA 12 rfl dX8_power_49 dX8_power_52 dX8_power_53 dX8_power_55 dX8_power_58 hout ⟨by decide, (Nat.le_of_ble_eq_true rfl)⟩ (Nat.le_of_ble_eq_true rfl) (Nat.le_of_ble_eq_true rfl) (OX.of (c := 2) (r := 0) (w := u) (by rw [opPower, if_neg (by simp [ep, er, ett]), if_pos (Or.inr c46)]) (by decide) rfl (CR.rf hS)) (Nat.le_of_ble_eq_true rfl) (Nat.le_of_ble_eq_true rfl)
  · refine aw_null C dX8_power_19 rfl ?_
    refine aw_goto (tgt := 28) C dX8_power_20 (by decide) ?_
    refine aw_astoreN (ls' := [(8, _), (7, _), (6, _), (0, _), (1, _), (2, _), (3, _), (4, _), (5, _)]) C dX8_power_28 (by decide) rfl rfl ?_
    subst c16
    have ht0 : isTh u (-1) = isTh u (-1) := rfl
    refine aw_iload C dX8_power_30 rfl rfl ?_
    refine aw_iconst (v := 1) C dX8_power_32 rfl rfl ?_
    refine aw_icmp_lt (tgt := 49) C dX8_power_33 (by decide) rfl (fun c33 => ?_) (fun c33 => ?_)
    · exact aw_thr C G thA 12 rfl dX8_power_49 dX8_power_52 dX8_power_53 dX8_power_55 dX8_power_58 hout ⟨by decide, (Nat.le_of_ble_eq_true rfl)⟩ (Nat.le_of_ble_eq_true rfl) (Nat.le_of_ble_eq_true rfl) (OX.of (c := 2) (r := 0) (w := u) (by rw [opPower, if_neg (by simp [ep, er, ht0]), if_pos (Or.inl (inB_f.mpr (Or.inl c33)))]) (by decide) rfl (CR.rf hS)) (Nat.le_of_ble_eq_true rfl) (Nat.le_of_ble_eq_true rfl)
    · refine aw_iload C dX8_power_36 rfl rfl ?_
      refine aw_sipush (v := 1000) C dX8_power_38 rfl rfl ?_
      refine aw_icmp_gt (tgt := 49) C dX8_power_41 (by decide) rfl (fun c41 => ?_) (fun c41 => ?_)
      · exact aw_thr C G thA 12 rfl dX8_power_49 dX8_power_52 dX8_power_53 dX8_power_55 dX8_power_58 hout ⟨by decide, (Nat.le_of_ble_eq_true rfl)⟩ (Nat.le_of_ble_eq_true rfl) (Nat.le_of_ble_eq_true rfl) (OX.of (c := 2) (r := 0) (w := u) (by rw [opPower, if_neg (by simp [ep, er, ht0]), if_pos (Or.inl (inB_f.mpr (Or.inr (c41))))]) (by decide) rfl (CR.rf hS)) (Nat.le_of_ble_eq_true rfl) (Nat.le_of_ble_eq_true rfl)
      · refine aw_iload_n C dX8_power_44 rfl rfl rfl ?_
        refine aw_iload_n C dX8_power_45 rfl rfl rfl ?_
        refine aw_icmp_ne (tgt := 59) C dX8_power_46 (by decide) rfl (fun c46 => ?_) (fun c46 => ?_)
        · refine aw_aload_n C dX8_power_59 rfl rfl rfl ?_
          refine aw_aload C dX8_power_60 rfl rfl ?_
          refine aw_aload C dX8_power_62 rfl rfl ?_
          refine aw_callV C k_X8_134 (C_refuseNewDeed G hS hI hp hr) ⟨by decide, by decide⟩ (ci := 10) rfl hS.O rfl rfl (Nat.le_of_ble_eq_true rfl) (Nat.le_of_ble_eq_true rfl) (Nat.le_of_ble_eq_true rfl) dX8_power_64 rfl (fun E s1 hx => ?_) (fun v1 s1 hq => ?_)
          · obtain ⟨rfl, hx, rfl⟩ := hx
            exact ax_out C hout (Nat.le_of_ble_eq_true rfl) (Nat.le_of_ble_eq_true rfl) (OX.of (c := 3) (r := 0) (w := u) (by rw [opPower, if_neg (by simp [ep, er, ht0]), if_neg (by rintro (z | z); rw [show inB dd 1 1000 = true from inB_t.mpr ⟨c33, c41⟩] at z; cases z; exact c46 z), kp, kr, if_pos hx]) (by decide) rfl (CR.rf hS))
          obtain ⟨rfl, hroom, hss⟩ := hq
          obtain rfl := hss.symm
          have hn := room_n hI hroom
          refine aw_new (fs := [.int 0, .int 0, .null, .null, .null, .int 0, .int 0, .null, .null, .int 0, .int 0, .int 0, .int 0, .int 0, .int 0]) C cf_X0 h_X8_137 h_new_X0 h_ini_X0 (fun j hj => match j, hj with | 0, _ => rfl | 1, _ => rfl | 2, _ => rfl | 3, _ => rfl | 4, _ => rfl | 5, _ => rfl | 6, _ => rfl | 7, _ => rfl | 8, _ => rfl | 9, _ => rfl | 10, _ => rfl | 11, _ => rfl | 12, _ => rfl | 13, _ => rfl | 14, _ => rfl | _ + 15, h => absurd h (by omega)) (Nat.le_of_ble_eq_true rfl) (Nat.le_of_ble_eq_true rfl) dX8_power_67 rfl (fun q hq => ?_)
          have hq0 := hq
          have hS0 := hS.ext (fr_new (e := ob 2 [.int 0, .int 0, .null, .null, .null, .int 0, .int 0, .null, .null, .int 0, .int 0, .int 0, .int 0, .int 0, .int 0]) hq)
          refine aw_dup C dX8_power_70 rfl rfl ?_
          refine aw_aload_n C dX8_power_71 rfl rfl rfl ?_
          refine aw_getf C f_X8_19 hS0.O rfl dX8_power_72 rfl ?_
          refine cw_callVp C k_X8_50 (L_size G (n := u.2.2.1 10) (hS0.L (i := 2) (by decide))) ⟨by decide, by decide⟩ (ci := 1) rfl (hS0.L (i := 2) (by decide)) rfl rfl (Nat.le_of_ble_eq_true rfl) (Nat.le_of_ble_eq_true rfl) (Nat.le_of_ble_eq_true rfl) dX8_power_75 rfl ?_
          refine aw_iconst (v := 3) C dX8_power_78 rfl rfl ?_
          refine aw_aload C dX8_power_79 rfl rfl ?_
          refine aw_aload C dX8_power_81 rfl rfl ?_
          refine aw_aloadN C dX8_power_83 rfl rfl ?_
          refine aw_iconst (v := 0) C dX8_power_85 rfl rfl ?_
          refine aw_iconst (v := 1) C dX8_power_86 rfl rfl ?_
          refine aw_callIN C k_X8_139 (C_iDeed G (th := none) sgu_s) ⟨by decide, by decide⟩ rfl rfl (Nat.le_of_ble_eq_true rfl) (Nat.le_of_ble_eq_true rfl) (Nat.le_of_ble_eq_true rfl) dX8_power_87 rfl (fun _ _ q => ax_no q) (fun v1 s1 hq => ?_)
          obtain ⟨rfl, pa, ga, hpa0, hga0, hp1, hg1, hq1, hfr1⟩ := hq
          have hpa := (new2 hpa0).2
          have hga := (new2 hga0).2
          have h1 : ∀ c, sg c ≠ none → s1 c = sg c := fun c hc => (hfr1 c (fun z => hc (by rw [z]; exact hq0)) (fun z => hc (by rw [z]; exact hpa)) (fun z => hc (by rw [z]; exact hga))).trans (fr_new hq0 c hc)
          have hS1 := hS.ext h1
          refine aw_astore (ls' := [(9, _), (8, _), (7, _), (6, _), (0, _), (1, _), (2, _), (3, _), (4, _), (5, _)]) C dX8_power_90 (by decide) rfl rfl ?_
          refine aw_aload C dX8_power_92 rfl rfl ?_
          refine aw_new (fs := [.int 0, .int 0, .int 0, .int 0, .null]) C cf_X2 h_X8_148 h_new_X2 h_ini_X2 (fun j hj => match j, hj with | 0, _ => rfl | 1, _ => rfl | 2, _ => rfl | 3, _ => rfl | 4, _ => rfl | _ + 5, h => absurd h (by omega)) (Nat.le_of_ble_eq_true rfl) (Nat.le_of_ble_eq_true rfl) dX8_power_94 rfl (fun mq hmq => ?_)
          have nqm := no_ne hq1 hmq
          have npm := no_ne hp1 hmq
          have ngm := no_ne hg1 hmq
          have hm0 := nback h1 hmq
          have hSm := hS1.ext (fr_new (e := ob 4 [.int 0, .int 0, .int 0, .int 0, .null]) hmq)
          refine aw_dup C dX8_power_97 rfl rfl ?_
          refine aw_aload_n C dX8_power_98 rfl rfl rfl ?_
          refine aw_getf C f_X8_32 (hSm.O) rfl dX8_power_99 rfl ?_
          refine aw_iload C dX8_power_102 rfl rfl ?_
          refine aw_iadd C dX8_power_104 rfl ?_
          refine aw_iload C dX8_power_105 rfl rfl ?_
          refine aw_callIN C k_X8_150 (C_iMandate G (d := u.2.2.2.1 + dd) (b := on) sgu_s) ⟨by decide, by decide⟩ rfl rfl (Nat.le_of_ble_eq_true rfl) (Nat.le_of_ble_eq_true rfl) (Nat.le_of_ble_eq_true rfl) dX8_power_107 rfl (fun _ _ q => ax_no q) (fun v3 s3 hq3 => ?_)
          obtain ⟨rfl, hm1, hfrm⟩ := hq3
          have hq3 := (hfrm q nqm).trans ((sgu_n nqm).trans hq1)
          refine aw_putf (fs' := [.int (nI (u.2.2.1 10)), .int 3, .ref (ad 3 p), .ref (ad 3 r), va_rf (none), .int 0, .int 1, .ref pa, .ref mq, .int 0, .int 0, .int 0, .int 0, .int (-1), .int (-1)]) C f_X8_153 rfl hq3 rfl rfl (Nat.le_of_ble_eq_true rfl) rfl dX8_power_110 rfl ?_
          obtain ⟨s4, hs4⟩ : ∃ s4 : Sg, s4 = sgu s3 q (ob 2 [.int (nI (u.2.2.1 10)), .int 3, .ref (ad 3 p), .ref (ad 3 r), va_rf (none), .int 0, .int 1, .ref pa, .ref mq, .int 0, .int 0, .int 0, .int 0, .int (-1), .int (-1)]) := ⟨_, rfl⟩
          rw [show sgu s3 q _ = s4 from hs4.symm]
          have npq : pa ≠ q := fun z => by rw [z, hq1] at hp1; cases hp1
          have ngq : ga ≠ q := fun z => by rw [z, hq1] at hg1; cases hg1
          have hq4 : s4 q = some (ob 2 [.int (nI (u.2.2.1 10)), .int 3, .ref (ad 3 p), .ref (ad 3 r), va_rf (none), .int 0, .int 1, .ref pa, .ref mq, .int 0, .int 0, .int 0, .int 0, .int (-1), .int (-1)]) := by rw [hs4]; exact sgu_s
          have hp4 : s4 pa = some (ob 6 [.ref ga, .int 0]) := by rw [hs4, sgu_n npq, hfrm pa npm, sgu_n npm, hp1]
          have hg4 : s4 ga = some (arI x.g 4 (fun _ => 0)) := by rw [hs4, sgu_n ngq, hfrm ga ngm, sgu_n ngm, hg1]
          have hm4 : s4 mq = some (ob 4 [.int (u.2.2.2.1 + dd), .int (b2i on), .int 0, .int 0, .null]) := by rw [hs4, sgu_n (Ne.symm nqm), hm1]
          have h4 : ∀ c, sg c ≠ none → s4 c = sg c := fun c hc => by rw [hs4, sgu_n (fun z => hc (by rw [z]; exact hq0)), hfrm c (fun z => hc (by rw [z]; exact hm0)), sgu_n (fun z => hc (by rw [z]; exact hm0)), h1 c hc]
          have hS4 := hS.ext h4
          refine aw_aload_n C dX8_power_113 rfl rfl rfl ?_
          refine aw_aload C dX8_power_114 rfl rfl ?_
          refine aw_callV C k_X8_142 (C_keepDeed G hS4 hI hq4 hn) ⟨by decide, by decide⟩ (ci := 10) rfl hS4.O rfl rfl (Nat.le_of_ble_eq_true rfl) (Nat.le_of_ble_eq_true rfl) (Nat.le_of_ble_eq_true rfl) dX8_power_116 rfl (fun _ _ q => ax_no q) (fun v2 s9 hq2 => ?_)
          obtain ⟨rfl, qa, hqa, hL2, hfr2⟩ := hq2
          exact aw_iret C rfl (Nat.le_of_ble_eq_true rfl) (Nat.le_of_ble_eq_true rfl) (OPost.of (by rw [opPower, if_neg (by simp [ep, er, ht0]), if_neg (by rintro (z | z); rw [show inB dd 1 1000 = true from inB_t.mpr ⟨c33, c41⟩] at z; cases z; exact c46 z), kp, kr, if_neg (by rw [hroom]; decide)]; rfl) (CS.deed (s := 3) (w := uI3 u (u.2.2.1 10) 14 17 18 (-1) (u.2.2.2.1 + dd) (b2i on)) (mq := mq) hI hS rfl hn hp hr rfl (uI3_P hI (by decide) (by decide) (by decide)) (fun ad k i hk => uI3_cel hI ⟨by decide, rfl, by decide, by decide⟩ ⟨by decide, rfl, by decide, by decide⟩ ⟨by decide, rfl, by decide⟩ hk) (fun r hr => uI3_hi (by decide) (by decide) (by decide) hr) h4 hqa hL2 hfr2 hq0 hpa hga (fun _ => hm0) (by rw [if_pos rfl, if_pos rfl, if_pos rfl, (uI3_1 (by decide) (by decide) (by decide)).1, rfo_m]; exact hq4) hp4 hg4 (fun _ => by rw [(uI3_1 (by decide) (by decide) (by decide)).2.1, (uI3_1 (by decide) (by decide) (by decide)).2.2]; exact hm4))) dX8_power_119
        · exact aw_thr C G thA 12 rfl dX8_power_49 dX8_power_52 dX8_power_53 dX8_power_55 dX8_power_58 hout ⟨by decide, (Nat.le_of_ble_eq_true rfl)⟩ (Nat.le_of_ble_eq_true rfl) (Nat.le_of_ble_eq_true rfl) (OX.of (c := 2) (r := 0) (w := u) (by rw [opPower, if_neg (by simp [ep, er, ht0]), if_pos (Or.inr c46)]) (by decide) rfl (CR.rf hS)) (Nat.le_of_ble_eq_true rfl) (Nat.le_of_ble_eq_true rfl)
