/-! the class: sign, search, pledge, share -/
theorem and_1 {x : Int32} : x &&& 1 = 0 ∨ x &&& 1 = 1 := by
  have h : x.toBitVec &&& 1#32 = 0#32 ∨ x.toBitVec &&& 1#32 = 1#32 := by
    by_cases c : x.toBitVec.getLsbD 0 = true
    · right
      apply BitVec.eq_of_getLsbD_eq
      intro i hi
      rw [BitVec.getLsbD_and]
      by_cases e : i = 0
      · subst e; rw [c]; rfl
      · have : (1#32).getLsbD i = false := by rw [show (1#32 : BitVec 32) = BitVec.twoPow 32 0 from rfl, BitVec.getLsbD_twoPow]; simp [Ne.symm e]
        rw [this, Bool.and_false]
    · left
      apply BitVec.eq_of_getLsbD_eq
      intro i hi
      rw [BitVec.getLsbD_and]
      by_cases e : i = 0
      · subst e; rw [Bool.eq_false_iff.mpr c]; rfl
      · have : (1#32).getLsbD i = false := by rw [show (1#32 : BitVec 32) = BitVec.twoPow 32 0 from rfl, BitVec.getLsbD_twoPow]; simp [Ne.symm e]
        rw [this, Bool.and_false]; simp
  rcases h with h | h
  · left; exact Int32.toBitVec.inj h
  · right; exact Int32.toBitVec.inj h
theorem and_2 {x : Int32} : x &&& 2 = 0 ∨ x &&& 2 = 2 := by
  have h : x.toBitVec &&& 2#32 = 0#32 ∨ x.toBitVec &&& 2#32 = 2#32 := by
    by_cases c : x.toBitVec.getLsbD 1 = true
    · right
      apply BitVec.eq_of_getLsbD_eq
      intro i hi
      rw [BitVec.getLsbD_and]
      by_cases e : i = 1
      · subst e; rw [c]; rfl
      · have : (2#32).getLsbD i = false := by rw [show (2#32 : BitVec 32) = BitVec.twoPow 32 1 from rfl, BitVec.getLsbD_twoPow]; simp [Ne.symm e]
        rw [this, Bool.and_false]
    · left
      apply BitVec.eq_of_getLsbD_eq
      intro i hi
      rw [BitVec.getLsbD_and]
      by_cases e : i = 1
      · subst e; rw [Bool.eq_false_iff.mpr c]; rfl
      · have : (2#32).getLsbD i = false := by rw [show (2#32 : BitVec 32) = BitVec.twoPow 32 1 from rfl, BitVec.getLsbD_twoPow]; simp [Ne.symm e]
        rw [this, Bool.and_false]; simp
  rcases h with h | h
  · left; exact Int32.toBitVec.inj h
  · right; exact Int32.toBitVec.inj h
theorem prt_b {x : Int32} {ig : Bool} : x &&& prt ig = prt ig ↔ 0 < x &&& prt ig := by
  unfold prt
  cases ig with
  | true =>
    rw [if_pos rfl]
    rcases and_1 (x := x) with q | q <;> rw [q] <;> decide
  | false =>
    rw [if_neg (by decide)]
    rcases and_2 (x := x) with q | q <;> rw [q] <;> decide
theorem sgW_eq {u : MU} {d o : Nat} {ig : Bool} (hs : (gv u d ig).toNatClampNeg < 2 ^ 30) (es : gv u d ig = nI (gv u d ig).toNatClampNeg) (ho : o < 2 ^ 30) : sgW u d o ig = ((sgAlone u d o ig || sgGuards u d o ig) && (!decide (u.1 11 d = 4) || ig)) := by
  unfold sgW sgAlone sgGuards sgG isGuard
  by_cases h : nI o = gv u d ig
  · have ho2 : (gv u d ig).toNatClampNeg = o := by rw [← h, nI_clamp (by omega)]
    rw [ho2, decide_eq_true h]
    simp only [Bool.true_or, Bool.and_true, Bool.true_and]
    cases able u o <;> cases decide (u.1 11 d = 4) <;> cases ig <;> simp
  · rw [decide_eq_false h]
    simp only [Bool.false_or, Bool.false_and]
    generalize decide (nI o = gv u d (!ig)) = a
    generalize decide (u.1 6 (gv u d ig).toNatClampNeg = 0) = b
    generalize decide (u.1 9 (gv u d ig).toNatClampNeg = nI o) = c
    cases able u o <;> cases decide (u.1 11 d = 4) <;> cases ig <;> cases a <;> cases b <;> cases c <;> rfl
theorem good_al {u : MU} {k : Nat} (h : good u k = true) : u.1 6 (u.1 12 k).toNatClampNeg = 0 := by
  rw [good, goodC] at h
  have hA : goodA u k = true := by
    cases hg : goodA u k with
    | true => rfl
    | false => rw [hg, if_pos rfl] at h; cases h
  simp only [goodA, Bool.and_eq_true, decide_eq_true_eq] at hA
  exact hA.2.2.2.2
theorem sgP_eq {u : MU} {d o k : Nat} {ig : Bool} (hk : k < 2 ^ 30) (hs : (gv u d ig).toNatClampNeg < 2 ^ 30) (es : gv u d ig = nI (gv u d ig).toNatClampNeg) : sgP u d o ig k = sgSigns u d o ig (nI k) := by
  unfold sgP sgSigns signsBy
  rw [nI_clamp (by omega), decide_eq_false (nI_m1n hk), ← es]
  by_cases hg : good u k = true
  · have h6 := good_al hg
    rw [hg]
    by_cases h12 : u.1 12 k = gv u d ig
    · rw [h12] at h6
      rw [decide_eq_true h6, decide_eq_true h12]
      cases able u o <;> cases decide (u.1 11 d = 4) <;> cases decide (nI o = gv u d (!ig)) <;> simp
    · rw [decide_eq_false h12]
      simp
  · rw [Bool.eq_false_iff.mpr hg]
    simp
theorem sgS_n {u : MU} {d o : Nat} {ig : Bool} : sgSigns u d o ig (-1) = false := by
  unfold sgSigns signsBy
  simp
theorem cel_19 {g : Gx} {ez : Nat} {ad : Nat → Nat → Nat} {u : MU} {Y : GS} {d : Nat} {v x0 : Int32} (hP : WP u) (hW : WN u) (hk : ¬ u.1 11 d = 3) : ∀ j n, cel g ez ad (uI (uI u 20 d x0) 19 d v) Y j n = cel g ez ad (uI u 20 d x0) Y j n := fun j n => by
  by_cases h : j = 7 ∧ n = d
  · obtain ⟨rfl, rfl⟩ := h
    exact (if_neg (fun z => hk z.2)).trans (if_neg (fun z => hk z.2)).symm
  · exact cel_uI (hP.u (by decide)) hW (by decide) (fun z => h ⟨z.1.symm, z.2.symm⟩)
set_option maxRecDepth 100000 in
set_option maxHeartbeats 1000000 in
theorem F_sign {g : Gx} {l : Launch} {ez : Nat} (G : GOK g l ez) {sg : Sg} {ad : Nat → Nat → Nat} {u : MU} {Y : GS} (hS : CS g ez ad u Y sg) {N : Nat} (hI : CI N u) {v w kp0 : Int32} {ig : Bool} : MM g l yX8_sign cX8_sign 9 (some .int) (rmC 9 8 60) sg [.ref (ad 0 0), .int v, .int w, .int (b2i ig), .int kp0] (OPost g ez ad u Y sg (opSign u v w ig kp0)) (OX g ez ad u Y sg x2s (opSign u v w ig kp0)) := by
  refine MM.of G.1 G.2.1 (by decide) (Nat.le_of_ble_eq_true rfl) (fun x hg hlx C hin hout hargs => ?_)
  subst hg; subst hlx
  have C : AWC x cX8_sign 9 RX8 (rmC 9 8 60) (some .int) := C
  show AW x (RQ x _ _ _ _) 0 0 sg 0 [(0, .ref (ad 0 0)), (1, .int v), (2, .int w), (3, .int (b2i ig)), (4, .int kp0)] []
  refine aw_aload_n C dX8_sign_0 rfl rfl rfl ?_
  refine aw_iload_n C dX8_sign_1 rfl rfl rfl ?_
  refine aw_callV C k_X8_159 (C_deedAt G hS hI (v := v)) ⟨by decide, by decide⟩ (ci := 10) rfl hS.O rfl rfl (Nat.le_of_ble_eq_true rfl) (Nat.le_of_ble_eq_true rfl) (Nat.le_of_ble_eq_true rfl) dX8_sign_2 rfl (fun E s1 hx => ?_) (fun v1 s1 hq => ?_)
  · obtain ⟨rfl, hx, rfl⟩ := hx
    exact ax_out C hout (Nat.le_of_ble_eq_true rfl) (Nat.le_of_ble_eq_true rfl) (OX.of (c := 1) (r := 0) (w := u) (by rw [opSign, if_pos (Or.inl hx)]) (by decide) rfl (CR.rf hS))
  obtain ⟨d, hd, rfl, rfl, rfl⟩ := hq
  have ed := isDd_in hI.W hd
  have kd : (nI d).toNatClampNeg = d := nI_clamp (by have := hI.n10; omega)
  refine aw_astore (ls' := [(5, _), (0, _), (1, _), (2, _), (3, _), (4, _)]) C dX8_sign_5 (by decide) rfl rfl ?_
  refine aw_aload_n C dX8_sign_7 rfl rfl rfl ?_
  refine aw_iload_n C dX8_sign_8 rfl rfl rfl ?_
  refine aw_callV C k_X8_71 (C_personAt G hS hI (v := w)) ⟨by decide, by decide⟩ (ci := 10) rfl hS.O rfl rfl (Nat.le_of_ble_eq_true rfl) (Nat.le_of_ble_eq_true rfl) (Nat.le_of_ble_eq_true rfl) dX8_sign_9 rfl (fun E s1 hx => ?_) (fun v1 s1 hq => ?_)
  · obtain ⟨rfl, hx, rfl⟩ := hx
    exact ax_out C hout (Nat.le_of_ble_eq_true rfl) (Nat.le_of_ble_eq_true rfl) (OX.of (c := 1) (r := 0) (w := u) (by rw [opSign, if_pos (Or.inr (Or.inl hx))]) (by decide) rfl (CR.rf hS))
  obtain ⟨o, ho, rfl, rfl, rfl⟩ := hq
  have eo := isP_in hI.W ho
  have ko : (nI o).toNatClampNeg = o := nI_clamp (by have := hI.n2; omega)
  refine aw_astore (ls' := [(6, _), (5, _), (0, _), (1, _), (2, _), (3, _), (4, _)]) C dX8_sign_12 (by decide) rfl rfl ?_
  refine aw_iload C dX8_sign_14 rfl rfl ?_
  refine aw_iconst (v := -1) C dX8_sign_16 rfl rfl ?_
  refine aw_icmp_ne (tgt := 24) C dX8_sign_17 (by decide) rfl (fun c17 => ?_) (fun c17 => ?_)
  · refine aw_aload_n C dX8_sign_24 rfl rfl rfl ?_
    refine aw_iload C dX8_sign_25 rfl rfl ?_
    refine aw_callV C k_X8_159 (C_deedAt G hS hI (v := kp0)) ⟨by decide, by decide⟩ (ci := 10) rfl hS.O rfl rfl (Nat.le_of_ble_eq_true rfl) (Nat.le_of_ble_eq_true rfl) (Nat.le_of_ble_eq_true rfl) dX8_sign_27 rfl (fun E s1 hx => ?_) (fun v1 s1 hq => ?_)
    · obtain ⟨rfl, hx, rfl⟩ := hx
      exact ax_out C hout (Nat.le_of_ble_eq_true rfl) (Nat.le_of_ble_eq_true rfl) (OX.of (c := 1) (r := 0) (w := u) (by rw [opSign, if_pos (Or.inr (Or.inr ⟨c17, hx⟩))]) (by decide) rfl (CR.rf hS))
    obtain ⟨k, hk, rfl, rfl, rfl⟩ := hq
    have ek := isDd_in hI.W hk
    have kk : (nI k).toNatClampNeg = k := nI_clamp (by have := hI.n10; omega)
    obtain ⟨s0, hs0, es0, cs0⟩ := hI.sd hd ig
    have h12 := hI.n2
    have h10 := hI.n10
    have hWq : sgW u d o ig = ((sgAlone u d o ig || sgGuards u d o ig) && (!decide (u.1 11 d = 4) || ig)) := sgW_eq (by rw [cs0]; omega) (by rw [cs0]; exact es0) (by omega)
    have hSq : sgP u d o ig k = sgSigns u d o ig (nI k) := sgP_eq (by omega) (by rw [cs0]; omega) (by rw [cs0]; exact es0)
    have hcan1 : sgW u d o ig = true → sgCan u d o ig (nI k) = true := fun h => by
      rw [hWq, Bool.and_eq_true, Bool.or_eq_true] at h
      rw [sgCan, Bool.and_eq_true, Bool.or_eq_true, Bool.or_eq_true]
      exact ⟨h.1.imp id Or.inl, h.2⟩
    have hno19 : sgW u d o ig = true → (ig && (!sgAlone u d o ig && !sgGuards u d o ig)) = false := fun h => by
      rw [hWq, Bool.and_eq_true, Bool.or_eq_true] at h
      rcases h.1 with h1 | h1
      · rw [h1]; simp
      · rw [h1]; simp
    have hcan2 : sgP u d o ig k = true → sgCan u d o ig (nI k) = true := fun h => by
      have h2 := h
      rw [hSq] at h2
      have h4 : (!decide (u.1 11 d = 4)) = true := by
        rw [sgP, Bool.and_eq_true] at h
        exact h.1
      rw [sgCan, Bool.and_eq_true, Bool.or_eq_true, Bool.or_eq_true, h4]
      exact ⟨Or.inr (Or.inr h2), rfl⟩
    have hnoW : sgW u d o ig = false → ig = true → (ig && (!sgAlone u d o ig && !sgGuards u d o ig)) = true := fun h hi => by
      rw [hWq, hi, Bool.or_true, Bool.and_true, Bool.or_eq_false_iff] at h
      rw [hi, h.1, h.2]
      rfl
    have hno : sgW u d o ig = false → sgP u d o ig k = false → sgCan u d o ig (nI k) = false := fun h h2 => by
      rw [hWq] at h
      rw [hSq] at h2
      rw [sgCan, h2, Bool.or_false]
      exact h
    refine aw_astore (ls' := [(7, _), (6, _), (5, _), (0, _), (1, _), (2, _), (3, _), (4, _)]) C dX8_sign_30 (by decide) rfl rfl ?_
    refine aw_iload_n C dX8_sign_32 rfl rfl rfl ?_
    refine aw_if_eq (tgt := 40) C dX8_sign_33 (by decide) rfl (fun c33 => ?_) (fun c33 => ?_)
    · have c33 := fa_of c33
      refine aw_iconst (v := prt ig) C dX8_sign_40 (by rw [c33]; rfl) rfl ?_
      refine aw_istore (ls' := [(8, _), (7, _), (6, _), (5, _), (0, _), (1, _), (2, _), (3, _), (4, _)]) C dX8_sign_41 (by decide) rfl rfl ?_
      refine aw_aload C dX8_sign_43 rfl rfl ?_
      refine aw_iload C dX8_sign_45 rfl rfl ?_
      refine aw_callS C k_X8_163 (C_refuseClosed G hS hI hd (v := prt ig)) ⟨by decide, by decide⟩ rfl rfl (Nat.le_of_ble_eq_true rfl) (Nat.le_of_ble_eq_true rfl) (Nat.le_of_ble_eq_true rfl) dX8_sign_47 rfl (fun E s1 hx => ?_) (fun v1 s1 hq => ?_)
      · obtain ⟨rfl, hx, rfl⟩ := hx
        exact ax_out C hout (Nat.le_of_ble_eq_true rfl) (Nat.le_of_ble_eq_true rfl) (OX.of (c := 2) (r := 0) (w := u) (by rw [opSign, if_neg (by rintro (z | z | z); rw [ed] at z; cases z; rw [eo] at z; cases z; exact (by rw [ek] at z; exact absurd z.2 (by decide))), kd, ko, if_pos (hx.imp id (fun z => Or.inl (prt_b.mp z)))]) (by decide) rfl (CR.rf hS))
      obtain ⟨rfl, h22, h20, rfl⟩ := hq
      refine aw_aload_n C dX8_sign_50 rfl rfl rfl ?_
      refine aw_aload C dX8_sign_51 rfl rfl ?_
      refine aw_aload C dX8_sign_53 rfl rfl ?_
      refine aw_iload_n C dX8_sign_55 rfl rfl rfl ?_
      refine cw_callVp C k_X8_167 (C_signsWithout G hS hI hd ho (ig := ig)) ⟨by decide, by decide⟩ (ci := 10) rfl hS.O rfl rfl (Nat.le_of_ble_eq_true rfl) (Nat.le_of_ble_eq_true rfl) (Nat.le_of_ble_eq_true rfl) dX8_sign_56 rfl ?_
      refine aw_if_eq (tgt := 77) C dX8_sign_59 (by decide) rfl (fun c59 => ?_) (fun c59 => ?_)
      · have c59 := fa_of c59
        refine aw_aload_n C dX8_sign_77 rfl rfl rfl ?_
        refine aw_aload C dX8_sign_78 rfl rfl ?_
        refine aw_aload C dX8_sign_80 rfl rfl ?_
        refine aw_iload_n C dX8_sign_82 rfl rfl rfl ?_
        refine aw_aload C dX8_sign_83 rfl rfl ?_
        refine cw_callVp C k_X8_174 (C_signsByK G hS hI hd ho (ig := ig) hk) ⟨by decide, by decide⟩ (ci := 10) rfl hS.O rfl rfl (Nat.le_of_ble_eq_true rfl) (Nat.le_of_ble_eq_true rfl) (Nat.le_of_ble_eq_true rfl) dX8_sign_85 rfl ?_
        refine aw_if_eq (tgt := 128) C dX8_sign_88 (by decide) rfl (fun c88 => ?_) (fun c88 => ?_)
        · have c88 := fa_of c88
          exact aw_thr C G thS 16 rfl dX8_sign_128 dX8_sign_131 dX8_sign_132 dX8_sign_134 dX8_sign_137 hout ⟨by decide, (Nat.le_of_ble_eq_true rfl)⟩ (Nat.le_of_ble_eq_true rfl) (Nat.le_of_ble_eq_true rfl) (OX.of (c := 2) (r := 0) (w := u) (by rw [opSign, if_neg (by rintro (z | z | z); rw [ed] at z; cases z; rw [eo] at z; cases z; exact (by rw [ek] at z; exact absurd z.2 (by decide))), kd, ko, if_pos (Or.inr (Or.inr (hno c59 c88)))]) (by decide) rfl (CR.rf hS)) (Nat.le_of_ble_eq_true rfl) (Nat.le_of_ble_eq_true rfl)
        · have c88 := tr_of c88
          refine aw_aload C dX8_sign_91 rfl rfl ?_
          refine aw_dup C dX8_sign_93 rfl rfl ?_
          refine aw_getf C f_X8_171 (hS.D hd) rfl dX8_sign_94 rfl ?_
          refine aw_iload C dX8_sign_97 rfl rfl ?_
          refine aw_ior C dX8_sign_99 rfl ?_
          refine cw_put (uI u 20 d (u.1 20 d ||| prt ig)) C hS CFr.rf SN.rf f_X8_171 rfl (cel_4 hd) (by rw [cel_4 (u := (uI u 20 d (u.1 20 d ||| prt ig))) hd, dset20] <;> rfl) (cel_u4 hI.P hI.W rfl (by decide) rfl) rfl rfl rfl (Nat.le_of_ble_eq_true rfl) dX8_sign_100 rfl (fun s1 hS1 hF1 => ?_)
          refine aw_iload_n C dX8_sign_103 rfl rfl rfl ?_
          refine aw_if_eq (tgt := 138) C dX8_sign_104 (by decide) rfl (fun c104 => ?_) (fun c104 => ?_)
          · have c104 := fa_of c104
            refine aw_aload C dX8_sign_138 rfl rfl ?_
            refine aw_getf C f_X8_171 (hS1.D hd) rfl dX8_sign_140 rfl ?_
            exact aw_iret C rfl (Nat.le_of_ble_eq_true rfl) (Nat.le_of_ble_eq_true rfl) (OPost.of (w := (uI u 20 d (u.1 20 d ||| prt ig))) (by rw [opSign, if_neg (by rintro (z | z | z); rw [ed] at z; cases z; rw [eo] at z; cases z; exact (by rw [ek] at z; exact absurd z.2 (by decide))), kd, ko, if_neg (by rintro (z | z | z); exact z h22; exact h20 (prt_b.mpr z); exact absurd (hcan2 c88) (by rw [z]; decide)), if_neg (by rw [c104, Bool.false_and]; decide), uI_at]) (CR.ps hS1 hF1 ⟨rfl, rfl, rfl, rfl, rfl⟩ rfl rfl)) dX8_sign_143
          · have c104 := tr_of c104
            by_cases hk3 : u.1 11 d = 3
            · refine aw_aload C dX8_sign_107 rfl rfl ?_
              refine aw_getf C f_X8_153 (hS1.D hd) rfl dX8_sign_109 rfl ?_
              rw [if_pos (show (uI u 20 d (u.1 20 d ||| prt ig)).1 11 d = 3 from hk3)]
              refine aw_ifnull (r := some _) (tgt := 138) C dX8_sign_112 (by decide) rfl (fun z => nomatch z) (fun _ _ => ?_)
              refine aw_aload C dX8_sign_115 rfl rfl ?_
              refine aw_getf C f_X8_153 (hS1.D hd) rfl dX8_sign_117 rfl ?_
              rw [if_pos (show (uI u 20 d (u.1 20 d ||| prt ig)).1 11 d = 3 from hk3)]
              refine aw_aload C dX8_sign_120 rfl rfl ?_
              refine cw_put (uI (uI u 20 d (u.1 20 d ||| prt ig)) 19 d (nI k)) C hS1 hF1 ⟨rfl, rfl, rfl, rfl, rfl⟩ f_X8_178 rfl (cel_7 hd hk3) (by rw [cel_7 (u := (uI (uI u 20 d (u.1 20 d ||| prt ig)) 19 d (nI k))) hd hk3, nset19, rfo_q (by omega)] <;> rfl) (cel_u7 (u := (uI u 20 d (u.1 20 d ||| prt ig))) (hI.P.u (by decide)) hI.W rfl (by decide) rfl) rfl rfl rfl (Nat.le_of_ble_eq_true rfl) dX8_sign_122 rfl (fun s2 hS2 hF2 => ?_)
              refine aw_goto (tgt := 138) C dX8_sign_125 (by decide) ?_
              refine aw_aload C dX8_sign_138 rfl rfl ?_
              refine aw_getf C f_X8_171 (hS2.D hd) rfl dX8_sign_140 rfl ?_
              exact aw_iret C rfl (Nat.le_of_ble_eq_true rfl) (Nat.le_of_ble_eq_true rfl) (OPost.of (w := (uI (uI u 20 d (u.1 20 d ||| prt ig)) 19 d (nI k))) (by rw [opSign, if_neg (by rintro (z | z | z); rw [ed] at z; cases z; rw [eo] at z; cases z; exact (by rw [ek] at z; exact absurd z.2 (by decide))), kd, ko, if_neg (by rintro (z | z | z); exact z h22; exact h20 (prt_b.mpr z); exact absurd (hcan2 c88) (by rw [z]; decide)), if_pos (hnoW c59 c104), uI_ne (by omega), uI_at]) (CR.ps hS2 hF2 ⟨rfl, rfl, rfl, rfl, rfl⟩ rfl rfl)) dX8_sign_143
            · refine aw_aload C dX8_sign_107 rfl rfl ?_
              refine aw_getf C f_X8_153 (hS1.D hd) rfl dX8_sign_109 rfl ?_
              rw [if_neg (show ¬ (uI u 20 d (u.1 20 d ||| prt ig)).1 11 d = 3 from hk3)]
              refine aw_ifnull (r := none) (tgt := 138) C dX8_sign_112 (by decide) rfl (fun _ => ?_) (fun _ z => nomatch z)
              refine aw_aload C dX8_sign_138 rfl rfl ?_
              refine aw_getf C f_X8_171 (hS1.D hd) rfl dX8_sign_140 rfl ?_
              exact aw_iret C rfl (Nat.le_of_ble_eq_true rfl) (Nat.le_of_ble_eq_true rfl) (OPost.of (w := (uI (uI u 20 d (u.1 20 d ||| prt ig)) 19 d (nI k))) (by rw [opSign, if_neg (by rintro (z | z | z); rw [ed] at z; cases z; rw [eo] at z; cases z; exact (by rw [ek] at z; exact absurd z.2 (by decide))), kd, ko, if_neg (by rintro (z | z | z); exact z h22; exact h20 (prt_b.mpr z); exact absurd (hcan2 c88) (by rw [z]; decide)), if_pos (hnoW c59 c104), uI_at]) (CR.ps (hS1.same (cel_19 hI.P hI.W hk3) rfl) hF1 ⟨rfl, rfl, rfl, rfl, rfl⟩ rfl rfl)) dX8_sign_143
      · have c59 := tr_of c59
        refine aw_aload C dX8_sign_62 rfl rfl ?_
        refine aw_dup C dX8_sign_64 rfl rfl ?_
        refine aw_getf C f_X8_171 (hS.D hd) rfl dX8_sign_65 rfl ?_
        refine aw_iload C dX8_sign_68 rfl rfl ?_
        refine aw_ior C dX8_sign_70 rfl ?_
        refine cw_put (uI u 20 d (u.1 20 d ||| prt ig)) C hS CFr.rf SN.rf f_X8_171 rfl (cel_4 hd) (by rw [cel_4 (u := (uI u 20 d (u.1 20 d ||| prt ig))) hd, dset20] <;> rfl) (cel_u4 hI.P hI.W rfl (by decide) rfl) rfl rfl rfl (Nat.le_of_ble_eq_true rfl) dX8_sign_71 rfl (fun s1 hS1 hF1 => ?_)
        refine aw_goto (tgt := 138) C dX8_sign_74 (by decide) ?_
        refine aw_aload C dX8_sign_138 rfl rfl ?_
        refine aw_getf C f_X8_171 (hS1.D hd) rfl dX8_sign_140 rfl ?_
        exact aw_iret C rfl (Nat.le_of_ble_eq_true rfl) (Nat.le_of_ble_eq_true rfl) (OPost.of (w := (uI u 20 d (u.1 20 d ||| prt ig))) (by rw [opSign, if_neg (by rintro (z | z | z); rw [ed] at z; cases z; rw [eo] at z; cases z; exact (by rw [ek] at z; exact absurd z.2 (by decide))), kd, ko, if_neg (by rintro (z | z | z); exact z h22; exact h20 (prt_b.mpr z); exact absurd (hcan1 c59) (by rw [z]; decide)), if_neg (by rw [hno19 c59]; decide), uI_at]) (CR.ps hS1 hF1 ⟨rfl, rfl, rfl, rfl, rfl⟩ rfl rfl)) dX8_sign_143
    · have c33 := tr_of c33
      refine aw_iconst (v := prt ig) C dX8_sign_36 (by rw [c33]; rfl) rfl ?_
      refine aw_goto (tgt := 41) C dX8_sign_37 (by decide) ?_
      refine aw_istore (ls' := [(8, _), (7, _), (6, _), (5, _), (0, _), (1, _), (2, _), (3, _), (4, _)]) C dX8_sign_41 (by decide) rfl rfl ?_
      refine aw_aload C dX8_sign_43 rfl rfl ?_
      refine aw_iload C dX8_sign_45 rfl rfl ?_
      refine aw_callS C k_X8_163 (C_refuseClosed G hS hI hd (v := prt ig)) ⟨by decide, by decide⟩ rfl rfl (Nat.le_of_ble_eq_true rfl) (Nat.le_of_ble_eq_true rfl) (Nat.le_of_ble_eq_true rfl) dX8_sign_47 rfl (fun E s1 hx => ?_) (fun v1 s1 hq => ?_)
      · obtain ⟨rfl, hx, rfl⟩ := hx
        exact ax_out C hout (Nat.le_of_ble_eq_true rfl) (Nat.le_of_ble_eq_true rfl) (OX.of (c := 2) (r := 0) (w := u) (by rw [opSign, if_neg (by rintro (z | z | z); rw [ed] at z; cases z; rw [eo] at z; cases z; exact (by rw [ek] at z; exact absurd z.2 (by decide))), kd, ko, if_pos (hx.imp id (fun z => Or.inl (prt_b.mp z)))]) (by decide) rfl (CR.rf hS))
      obtain ⟨rfl, h22, h20, rfl⟩ := hq
      refine aw_aload_n C dX8_sign_50 rfl rfl rfl ?_
      refine aw_aload C dX8_sign_51 rfl rfl ?_
      refine aw_aload C dX8_sign_53 rfl rfl ?_
      refine aw_iload_n C dX8_sign_55 rfl rfl rfl ?_
      refine cw_callVp C k_X8_167 (C_signsWithout G hS hI hd ho (ig := ig)) ⟨by decide, by decide⟩ (ci := 10) rfl hS.O rfl rfl (Nat.le_of_ble_eq_true rfl) (Nat.le_of_ble_eq_true rfl) (Nat.le_of_ble_eq_true rfl) dX8_sign_56 rfl ?_
      refine aw_if_eq (tgt := 77) C dX8_sign_59 (by decide) rfl (fun c59 => ?_) (fun c59 => ?_)
      · have c59 := fa_of c59
        refine aw_aload_n C dX8_sign_77 rfl rfl rfl ?_
        refine aw_aload C dX8_sign_78 rfl rfl ?_
        refine aw_aload C dX8_sign_80 rfl rfl ?_
        refine aw_iload_n C dX8_sign_82 rfl rfl rfl ?_
        refine aw_aload C dX8_sign_83 rfl rfl ?_
        refine cw_callVp C k_X8_174 (C_signsByK G hS hI hd ho (ig := ig) hk) ⟨by decide, by decide⟩ (ci := 10) rfl hS.O rfl rfl (Nat.le_of_ble_eq_true rfl) (Nat.le_of_ble_eq_true rfl) (Nat.le_of_ble_eq_true rfl) dX8_sign_85 rfl ?_
        refine aw_if_eq (tgt := 128) C dX8_sign_88 (by decide) rfl (fun c88 => ?_) (fun c88 => ?_)
        · have c88 := fa_of c88
          exact aw_thr C G thS 16 rfl dX8_sign_128 dX8_sign_131 dX8_sign_132 dX8_sign_134 dX8_sign_137 hout ⟨by decide, (Nat.le_of_ble_eq_true rfl)⟩ (Nat.le_of_ble_eq_true rfl) (Nat.le_of_ble_eq_true rfl) (OX.of (c := 2) (r := 0) (w := u) (by rw [opSign, if_neg (by rintro (z | z | z); rw [ed] at z; cases z; rw [eo] at z; cases z; exact (by rw [ek] at z; exact absurd z.2 (by decide))), kd, ko, if_pos (Or.inr (Or.inr (hno c59 c88)))]) (by decide) rfl (CR.rf hS)) (Nat.le_of_ble_eq_true rfl) (Nat.le_of_ble_eq_true rfl)
        · have c88 := tr_of c88
          refine aw_aload C dX8_sign_91 rfl rfl ?_
          refine aw_dup C dX8_sign_93 rfl rfl ?_
          refine aw_getf C f_X8_171 (hS.D hd) rfl dX8_sign_94 rfl ?_
          refine aw_iload C dX8_sign_97 rfl rfl ?_
          refine aw_ior C dX8_sign_99 rfl ?_
          refine cw_put (uI u 20 d (u.1 20 d ||| prt ig)) C hS CFr.rf SN.rf f_X8_171 rfl (cel_4 hd) (by rw [cel_4 (u := (uI u 20 d (u.1 20 d ||| prt ig))) hd, dset20] <;> rfl) (cel_u4 hI.P hI.W rfl (by decide) rfl) rfl rfl rfl (Nat.le_of_ble_eq_true rfl) dX8_sign_100 rfl (fun s1 hS1 hF1 => ?_)
          refine aw_iload_n C dX8_sign_103 rfl rfl rfl ?_
          refine aw_if_eq (tgt := 138) C dX8_sign_104 (by decide) rfl (fun c104 => ?_) (fun c104 => ?_)
          · have c104 := fa_of c104
            refine aw_aload C dX8_sign_138 rfl rfl ?_
            refine aw_getf C f_X8_171 (hS1.D hd) rfl dX8_sign_140 rfl ?_
            exact aw_iret C rfl (Nat.le_of_ble_eq_true rfl) (Nat.le_of_ble_eq_true rfl) (OPost.of (w := (uI u 20 d (u.1 20 d ||| prt ig))) (by rw [opSign, if_neg (by rintro (z | z | z); rw [ed] at z; cases z; rw [eo] at z; cases z; exact (by rw [ek] at z; exact absurd z.2 (by decide))), kd, ko, if_neg (by rintro (z | z | z); exact z h22; exact h20 (prt_b.mpr z); exact absurd (hcan2 c88) (by rw [z]; decide)), if_neg (by rw [c104, Bool.false_and]; decide), uI_at]) (CR.ps hS1 hF1 ⟨rfl, rfl, rfl, rfl, rfl⟩ rfl rfl)) dX8_sign_143
          · have c104 := tr_of c104
            by_cases hk3 : u.1 11 d = 3
            · refine aw_aload C dX8_sign_107 rfl rfl ?_
              refine aw_getf C f_X8_153 (hS1.D hd) rfl dX8_sign_109 rfl ?_
              rw [if_pos (show (uI u 20 d (u.1 20 d ||| prt ig)).1 11 d = 3 from hk3)]
              refine aw_ifnull (r := some _) (tgt := 138) C dX8_sign_112 (by decide) rfl (fun z => nomatch z) (fun _ _ => ?_)
              refine aw_aload C dX8_sign_115 rfl rfl ?_
              refine aw_getf C f_X8_153 (hS1.D hd) rfl dX8_sign_117 rfl ?_
              rw [if_pos (show (uI u 20 d (u.1 20 d ||| prt ig)).1 11 d = 3 from hk3)]
              refine aw_aload C dX8_sign_120 rfl rfl ?_
              refine cw_put (uI (uI u 20 d (u.1 20 d ||| prt ig)) 19 d (nI k)) C hS1 hF1 ⟨rfl, rfl, rfl, rfl, rfl⟩ f_X8_178 rfl (cel_7 hd hk3) (by rw [cel_7 (u := (uI (uI u 20 d (u.1 20 d ||| prt ig)) 19 d (nI k))) hd hk3, nset19, rfo_q (by omega)] <;> rfl) (cel_u7 (u := (uI u 20 d (u.1 20 d ||| prt ig))) (hI.P.u (by decide)) hI.W rfl (by decide) rfl) rfl rfl rfl (Nat.le_of_ble_eq_true rfl) dX8_sign_122 rfl (fun s2 hS2 hF2 => ?_)
              refine aw_goto (tgt := 138) C dX8_sign_125 (by decide) ?_
              refine aw_aload C dX8_sign_138 rfl rfl ?_
              refine aw_getf C f_X8_171 (hS2.D hd) rfl dX8_sign_140 rfl ?_
              exact aw_iret C rfl (Nat.le_of_ble_eq_true rfl) (Nat.le_of_ble_eq_true rfl) (OPost.of (w := (uI (uI u 20 d (u.1 20 d ||| prt ig)) 19 d (nI k))) (by rw [opSign, if_neg (by rintro (z | z | z); rw [ed] at z; cases z; rw [eo] at z; cases z; exact (by rw [ek] at z; exact absurd z.2 (by decide))), kd, ko, if_neg (by rintro (z | z | z); exact z h22; exact h20 (prt_b.mpr z); exact absurd (hcan2 c88) (by rw [z]; decide)), if_pos (hnoW c59 c104), uI_ne (by omega), uI_at]) (CR.ps hS2 hF2 ⟨rfl, rfl, rfl, rfl, rfl⟩ rfl rfl)) dX8_sign_143
            · refine aw_aload C dX8_sign_107 rfl rfl ?_
              refine aw_getf C f_X8_153 (hS1.D hd) rfl dX8_sign_109 rfl ?_
              rw [if_neg (show ¬ (uI u 20 d (u.1 20 d ||| prt ig)).1 11 d = 3 from hk3)]
              refine aw_ifnull (r := none) (tgt := 138) C dX8_sign_112 (by decide) rfl (fun _ => ?_) (fun _ z => nomatch z)
              refine aw_aload C dX8_sign_138 rfl rfl ?_
              refine aw_getf C f_X8_171 (hS1.D hd) rfl dX8_sign_140 rfl ?_
              exact aw_iret C rfl (Nat.le_of_ble_eq_true rfl) (Nat.le_of_ble_eq_true rfl) (OPost.of (w := (uI (uI u 20 d (u.1 20 d ||| prt ig)) 19 d (nI k))) (by rw [opSign, if_neg (by rintro (z | z | z); rw [ed] at z; cases z; rw [eo] at z; cases z; exact (by rw [ek] at z; exact absurd z.2 (by decide))), kd, ko, if_neg (by rintro (z | z | z); exact z h22; exact h20 (prt_b.mpr z); exact absurd (hcan2 c88) (by rw [z]; decide)), if_pos (hnoW c59 c104), uI_at]) (CR.ps (hS1.same (cel_19 hI.P hI.W hk3) rfl) hF1 ⟨rfl, rfl, rfl, rfl, rfl⟩ rfl rfl)) dX8_sign_143
      · have c59 := tr_of c59
        refine aw_aload C dX8_sign_62 rfl rfl ?_
        refine aw_dup C dX8_sign_64 rfl rfl ?_
        refine aw_getf C f_X8_171 (hS.D hd) rfl dX8_sign_65 rfl ?_
        refine aw_iload C dX8_sign_68 rfl rfl ?_
        refine aw_ior C dX8_sign_70 rfl ?_
        refine cw_put (uI u 20 d (u.1 20 d ||| prt ig)) C hS CFr.rf SN.rf f_X8_171 rfl (cel_4 hd) (by rw [cel_4 (u := (uI u 20 d (u.1 20 d ||| prt ig))) hd, dset20] <;> rfl) (cel_u4 hI.P hI.W rfl (by decide) rfl) rfl rfl rfl (Nat.le_of_ble_eq_true rfl) dX8_sign_71 rfl (fun s1 hS1 hF1 => ?_)
        refine aw_goto (tgt := 138) C dX8_sign_74 (by decide) ?_
        refine aw_aload C dX8_sign_138 rfl rfl ?_
        refine aw_getf C f_X8_171 (hS1.D hd) rfl dX8_sign_140 rfl ?_
        exact aw_iret C rfl (Nat.le_of_ble_eq_true rfl) (Nat.le_of_ble_eq_true rfl) (OPost.of (w := (uI u 20 d (u.1 20 d ||| prt ig))) (by rw [opSign, if_neg (by rintro (z | z | z); rw [ed] at z; cases z; rw [eo] at z; cases z; exact (by rw [ek] at z; exact absurd z.2 (by decide))), kd, ko, if_neg (by rintro (z | z | z); exact z h22; exact h20 (prt_b.mpr z); exact absurd (hcan1 c59) (by rw [z]; decide)), if_neg (by rw [hno19 c59]; decide), uI_at]) (CR.ps hS1 hF1 ⟨rfl, rfl, rfl, rfl, rfl⟩ rfl rfl)) dX8_sign_143
  · refine aw_null C dX8_sign_20 rfl ?_
    refine aw_goto (tgt := 30) C dX8_sign_21 (by decide) ?_
    subst c17
    obtain ⟨s0, hs0, es0, cs0⟩ := hI.sd hd ig
    have h12 := hI.n2
    have h10 := hI.n10
    have hWq : sgW u d o ig = ((sgAlone u d o ig || sgGuards u d o ig) && (!decide (u.1 11 d = 4) || ig)) := sgW_eq (by rw [cs0]; omega) (by rw [cs0]; exact es0) (by omega)
    have hSq : sgSigns u d o ig (-1) = false := sgS_n
    have hcan1 : sgW u d o ig = true → sgCan u d o ig (-1) = true := fun h => by
      rw [hWq, Bool.and_eq_true, Bool.or_eq_true] at h
      rw [sgCan, Bool.and_eq_true, Bool.or_eq_true, Bool.or_eq_true]
      exact ⟨h.1.imp id Or.inl, h.2⟩
    have hno19 : sgW u d o ig = true → (ig && (!sgAlone u d o ig && !sgGuards u d o ig)) = false := fun h => by
      rw [hWq, Bool.and_eq_true, Bool.or_eq_true] at h
      rcases h.1 with h1 | h1
      · rw [h1]; simp
      · rw [h1]; simp
    have hno : sgW u d o ig = false → (0 : Nat) = 0 → sgCan u d o ig (-1) = false := fun h _ => by
      rw [hWq] at h
      rw [sgCan, hSq, Bool.or_false]
      exact h
    refine aw_astoreN (ls' := [(7, _), (6, _), (5, _), (0, _), (1, _), (2, _), (3, _), (4, _)]) C dX8_sign_30 (by decide) rfl rfl ?_
    refine aw_iload_n C dX8_sign_32 rfl rfl rfl ?_
    refine aw_if_eq (tgt := 40) C dX8_sign_33 (by decide) rfl (fun c33 => ?_) (fun c33 => ?_)
    · have c33 := fa_of c33
      refine aw_iconst (v := prt ig) C dX8_sign_40 (by rw [c33]; rfl) rfl ?_
      refine aw_istore (ls' := [(8, _), (7, _), (6, _), (5, _), (0, _), (1, _), (2, _), (3, _), (4, _)]) C dX8_sign_41 (by decide) rfl rfl ?_
      refine aw_aload C dX8_sign_43 rfl rfl ?_
      refine aw_iload C dX8_sign_45 rfl rfl ?_
      refine aw_callS C k_X8_163 (C_refuseClosed G hS hI hd (v := prt ig)) ⟨by decide, by decide⟩ rfl rfl (Nat.le_of_ble_eq_true rfl) (Nat.le_of_ble_eq_true rfl) (Nat.le_of_ble_eq_true rfl) dX8_sign_47 rfl (fun E s1 hx => ?_) (fun v1 s1 hq => ?_)
      · obtain ⟨rfl, hx, rfl⟩ := hx
        exact ax_out C hout (Nat.le_of_ble_eq_true rfl) (Nat.le_of_ble_eq_true rfl) (OX.of (c := 2) (r := 0) (w := u) (by rw [opSign, if_neg (by rintro (z | z | z); rw [ed] at z; cases z; rw [eo] at z; cases z; exact z.1 rfl), kd, ko, if_pos (hx.imp id (fun z => Or.inl (prt_b.mp z)))]) (by decide) rfl (CR.rf hS))
      obtain ⟨rfl, h22, h20, rfl⟩ := hq
      refine aw_aload_n C dX8_sign_50 rfl rfl rfl ?_
      refine aw_aload C dX8_sign_51 rfl rfl ?_
      refine aw_aload C dX8_sign_53 rfl rfl ?_
      refine aw_iload_n C dX8_sign_55 rfl rfl rfl ?_
      refine cw_callVp C k_X8_167 (C_signsWithout G hS hI hd ho (ig := ig)) ⟨by decide, by decide⟩ (ci := 10) rfl hS.O rfl rfl (Nat.le_of_ble_eq_true rfl) (Nat.le_of_ble_eq_true rfl) (Nat.le_of_ble_eq_true rfl) dX8_sign_56 rfl ?_
      refine aw_if_eq (tgt := 77) C dX8_sign_59 (by decide) rfl (fun c59 => ?_) (fun c59 => ?_)
      · have c59 := fa_of c59
        refine aw_aload_n C dX8_sign_77 rfl rfl rfl ?_
        refine aw_aload C dX8_sign_78 rfl rfl ?_
        refine aw_aload C dX8_sign_80 rfl rfl ?_
        refine aw_iload_n C dX8_sign_82 rfl rfl rfl ?_
        refine aw_aloadN C dX8_sign_83 rfl rfl ?_
        refine cw_callVp C k_X8_174 (C_signsByN G hS hI hd ho (ig := ig)) ⟨by decide, by decide⟩ (ci := 10) rfl hS.O rfl rfl (Nat.le_of_ble_eq_true rfl) (Nat.le_of_ble_eq_true rfl) (Nat.le_of_ble_eq_true rfl) dX8_sign_85 rfl ?_
        refine aw_if_eq (tgt := 128) C dX8_sign_88 (by decide) rfl (fun _ => ?_) (fun z => absurd rfl z)
        exact aw_thr C G thS 16 rfl dX8_sign_128 dX8_sign_131 dX8_sign_132 dX8_sign_134 dX8_sign_137 hout ⟨by decide, (Nat.le_of_ble_eq_true rfl)⟩ (Nat.le_of_ble_eq_true rfl) (Nat.le_of_ble_eq_true rfl) (OX.of (c := 2) (r := 0) (w := u) (by rw [opSign, if_neg (by rintro (z | z | z); rw [ed] at z; cases z; rw [eo] at z; cases z; exact z.1 rfl), kd, ko, if_pos (Or.inr (Or.inr (hno c59 rfl)))]) (by decide) rfl (CR.rf hS)) (Nat.le_of_ble_eq_true rfl) (Nat.le_of_ble_eq_true rfl)
      · have c59 := tr_of c59
        refine aw_aload C dX8_sign_62 rfl rfl ?_
        refine aw_dup C dX8_sign_64 rfl rfl ?_
        refine aw_getf C f_X8_171 (hS.D hd) rfl dX8_sign_65 rfl ?_
        refine aw_iload C dX8_sign_68 rfl rfl ?_
        refine aw_ior C dX8_sign_70 rfl ?_
        refine cw_put (uI u 20 d (u.1 20 d ||| prt ig)) C hS CFr.rf SN.rf f_X8_171 rfl (cel_4 hd) (by rw [cel_4 (u := (uI u 20 d (u.1 20 d ||| prt ig))) hd, dset20] <;> rfl) (cel_u4 hI.P hI.W rfl (by decide) rfl) rfl rfl rfl (Nat.le_of_ble_eq_true rfl) dX8_sign_71 rfl (fun s1 hS1 hF1 => ?_)
        refine aw_goto (tgt := 138) C dX8_sign_74 (by decide) ?_
        refine aw_aload C dX8_sign_138 rfl rfl ?_
        refine aw_getf C f_X8_171 (hS1.D hd) rfl dX8_sign_140 rfl ?_
        exact aw_iret C rfl (Nat.le_of_ble_eq_true rfl) (Nat.le_of_ble_eq_true rfl) (OPost.of (w := (uI u 20 d (u.1 20 d ||| prt ig))) (by rw [opSign, if_neg (by rintro (z | z | z); rw [ed] at z; cases z; rw [eo] at z; cases z; exact z.1 rfl), kd, ko, if_neg (by rintro (z | z | z); exact z h22; exact h20 (prt_b.mpr z); exact absurd (hcan1 c59) (by rw [z]; decide)), if_neg (by rw [hno19 c59]; decide), uI_at]) (CR.ps hS1 hF1 ⟨rfl, rfl, rfl, rfl, rfl⟩ rfl rfl)) dX8_sign_143
    · have c33 := tr_of c33
      refine aw_iconst (v := prt ig) C dX8_sign_36 (by rw [c33]; rfl) rfl ?_
      refine aw_goto (tgt := 41) C dX8_sign_37 (by decide) ?_
      refine aw_istore (ls' := [(8, _), (7, _), (6, _), (5, _), (0, _), (1, _), (2, _), (3, _), (4, _)]) C dX8_sign_41 (by decide) rfl rfl ?_
      refine aw_aload C dX8_sign_43 rfl rfl ?_
      refine aw_iload C dX8_sign_45 rfl rfl ?_
      refine aw_callS C k_X8_163 (C_refuseClosed G hS hI hd (v := prt ig)) ⟨by decide, by decide⟩ rfl rfl (Nat.le_of_ble_eq_true rfl) (Nat.le_of_ble_eq_true rfl) (Nat.le_of_ble_eq_true rfl) dX8_sign_47 rfl (fun E s1 hx => ?_) (fun v1 s1 hq => ?_)
      · obtain ⟨rfl, hx, rfl⟩ := hx
        exact ax_out C hout (Nat.le_of_ble_eq_true rfl) (Nat.le_of_ble_eq_true rfl) (OX.of (c := 2) (r := 0) (w := u) (by rw [opSign, if_neg (by rintro (z | z | z); rw [ed] at z; cases z; rw [eo] at z; cases z; exact z.1 rfl), kd, ko, if_pos (hx.imp id (fun z => Or.inl (prt_b.mp z)))]) (by decide) rfl (CR.rf hS))
      obtain ⟨rfl, h22, h20, rfl⟩ := hq
      refine aw_aload_n C dX8_sign_50 rfl rfl rfl ?_
      refine aw_aload C dX8_sign_51 rfl rfl ?_
      refine aw_aload C dX8_sign_53 rfl rfl ?_
      refine aw_iload_n C dX8_sign_55 rfl rfl rfl ?_
      refine cw_callVp C k_X8_167 (C_signsWithout G hS hI hd ho (ig := ig)) ⟨by decide, by decide⟩ (ci := 10) rfl hS.O rfl rfl (Nat.le_of_ble_eq_true rfl) (Nat.le_of_ble_eq_true rfl) (Nat.le_of_ble_eq_true rfl) dX8_sign_56 rfl ?_
      refine aw_if_eq (tgt := 77) C dX8_sign_59 (by decide) rfl (fun c59 => ?_) (fun c59 => ?_)
      · have c59 := fa_of c59
        refine aw_aload_n C dX8_sign_77 rfl rfl rfl ?_
        refine aw_aload C dX8_sign_78 rfl rfl ?_
        refine aw_aload C dX8_sign_80 rfl rfl ?_
        refine aw_iload_n C dX8_sign_82 rfl rfl rfl ?_
        refine aw_aloadN C dX8_sign_83 rfl rfl ?_
        refine cw_callVp C k_X8_174 (C_signsByN G hS hI hd ho (ig := ig)) ⟨by decide, by decide⟩ (ci := 10) rfl hS.O rfl rfl (Nat.le_of_ble_eq_true rfl) (Nat.le_of_ble_eq_true rfl) (Nat.le_of_ble_eq_true rfl) dX8_sign_85 rfl ?_
        refine aw_if_eq (tgt := 128) C dX8_sign_88 (by decide) rfl (fun _ => ?_) (fun z => absurd rfl z)
        exact aw_thr C G thS 16 rfl dX8_sign_128 dX8_sign_131 dX8_sign_132 dX8_sign_134 dX8_sign_137 hout ⟨by decide, (Nat.le_of_ble_eq_true rfl)⟩ (Nat.le_of_ble_eq_true rfl) (Nat.le_of_ble_eq_true rfl) (OX.of (c := 2) (r := 0) (w := u) (by rw [opSign, if_neg (by rintro (z | z | z); rw [ed] at z; cases z; rw [eo] at z; cases z; exact z.1 rfl), kd, ko, if_pos (Or.inr (Or.inr (hno c59 rfl)))]) (by decide) rfl (CR.rf hS)) (Nat.le_of_ble_eq_true rfl) (Nat.le_of_ble_eq_true rfl)
      · have c59 := tr_of c59
        refine aw_aload C dX8_sign_62 rfl rfl ?_
        refine aw_dup C dX8_sign_64 rfl rfl ?_
        refine aw_getf C f_X8_171 (hS.D hd) rfl dX8_sign_65 rfl ?_
        refine aw_iload C dX8_sign_68 rfl rfl ?_
        refine aw_ior C dX8_sign_70 rfl ?_
        refine cw_put (uI u 20 d (u.1 20 d ||| prt ig)) C hS CFr.rf SN.rf f_X8_171 rfl (cel_4 hd) (by rw [cel_4 (u := (uI u 20 d (u.1 20 d ||| prt ig))) hd, dset20] <;> rfl) (cel_u4 hI.P hI.W rfl (by decide) rfl) rfl rfl rfl (Nat.le_of_ble_eq_true rfl) dX8_sign_71 rfl (fun s1 hS1 hF1 => ?_)
        refine aw_goto (tgt := 138) C dX8_sign_74 (by decide) ?_
        refine aw_aload C dX8_sign_138 rfl rfl ?_
        refine aw_getf C f_X8_171 (hS1.D hd) rfl dX8_sign_140 rfl ?_
        exact aw_iret C rfl (Nat.le_of_ble_eq_true rfl) (Nat.le_of_ble_eq_true rfl) (OPost.of (w := (uI u 20 d (u.1 20 d ||| prt ig))) (by rw [opSign, if_neg (by rintro (z | z | z); rw [ed] at z; cases z; rw [eo] at z; cases z; exact z.1 rfl), kd, ko, if_neg (by rintro (z | z | z); exact z h22; exact h20 (prt_b.mpr z); exact absurd (hcan1 c59) (by rw [z]; decide)), if_neg (by rw [hno19 c59]; decide), uI_at]) (CR.ps hS1 hF1 ⟨rfl, rfl, rfl, rfl, rfl⟩ rfl rfl)) dX8_sign_143
