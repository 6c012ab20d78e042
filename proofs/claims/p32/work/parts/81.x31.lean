/-! the class: die -/
/-- all that is known between one state of the class and the next -/
def CA (g : Gx) (ez : Nat) (ad : Nat → Nat → Nat) (u : MU) (Y : GS) (sg : Sg) (ad' : Nat → Nat → Nat) (w : MU) (Y' : GS) (s' : Sg) : Prop := CS g ez ad' w Y' s' ∧ ad' 0 0 = ad 0 0 ∧ CFr g ez ad u Y sg s' ∧ (∀ k i, cel g ez ad' w Y' k i ≠ none → (cel g ez ad u Y k i ≠ none ∧ ad' k i = ad k i) ∨ sg (ad' k i) = none) ∧ (∀ k i, cel g ez ad u Y k i ≠ none → ¬ k = 2 → cel g ez ad' w Y' k i ≠ none ∧ ad' k i = ad k i) ∧ ∀ a, sg a ≠ none → s' a ≠ none
theorem CA.q {g : Gx} {ez : Nat} {ad ad' : Nat → Nat → Nat} {u w : MU} {Y Y' : GS} {sg s' : Sg} (h : CA g ez ad u Y sg ad' w Y' s') : CQ g ez ad u Y sg w Y' s' := ⟨ad', h⟩
theorem CA.tr {g : Gx} {ez : Nat} {ad ad1 : Nat → Nat → Nat} {u u1 w : MU} {Y Y1 Y' : GS} {s0 s1 s2 : Sg} (h : CA g ez ad u Y s0 ad1 u1 Y1 s1) (h2 : CQ g ez ad1 u1 Y1 s1 w Y' s2) : ∃ ad2, CA g ez ad u Y s0 ad2 w Y' s2 := CQ.tr h.2.1 h.2.2.1 h.2.2.2.1 h.2.2.2.2.1 h.2.2.2.2.2 h2
theorem CA.ip {g : Gx} {ez : Nat} {ad : Nat → Nat → Nat} {u u1 : MU} {Y Y1 : GS} {s0 s1 : Sg} (hS : CS g ez ad u1 Y1 s1) (hN : SN u1 u) (hF : CFr g ez ad u Y s0 s1) : CA g ez ad u Y s0 ad u1 Y1 s1 := ⟨hS, rfl, hF, fun k i hc => Or.inl ⟨hN.ne hc, rfl⟩, fun k i hc _ => ⟨hN.sy.ne hc, rfl⟩, mono_of hS hN hF⟩
theorem cel_3l {g : Gx} {ez : Nat} {ad : Nat → Nat → Nat} {u : MU} {Y : GS} {p : Nat} (hp : p < u.2.2.1 2) : cel g ez ad u Y 3 p ≠ none := by rw [cel_3 hp]; exact (fun q => by cases q)
set_option maxRecDepth 100000 in
theorem F_die {g : Gx} {l : Launch} {ez : Nat} (G : GOK g l ez) {sg : Sg} {ad : Nat → Nat → Nat} {u : MU} {Y : GS} (hS : CS g ez ad u Y sg) {N : Nat} (hI : CI N u) (hNS : ∀ p, p < u.2.2.1 2 → isCh u p (nI p) = false) {v : Int32} : MM g l yX8_die cX8_die 7 (some .int) (rmC 9 60 12000) sg [.ref (ad 0 0), .int v] (OPost g ez ad u Y sg (opDie u v)) (OX g ez ad u Y sg x2s (opDie u v)) := by
  refine MM.of G.1 G.2.1 (by decide) (Nat.le_of_ble_eq_true rfl) (fun x hg hlx C hin hout hargs => ?_)
  subst hg; subst hlx
  have C : AWC x cX8_die 7 RX8 (rmC 9 60 12000) (some .int) := C
  show AW x (RQ x _ _ _ _) 0 0 sg 0 [(0, .ref (ad 0 0)), (1, .int v)] []
  have h12 := hI.n2
  have h8 := hI.n31
  have h35 := hI.n35
  have loop : ∀ (p mq : Nat) (f : Nat → Nat → Rat), p < u.2.2.1 2 → isCh u p (nI p) = false → (∀ t, t < u.2.2.1 31 → (∀ k, k < 13 → HQ u 33 34 (13 * t + k) (f t k)) ∧ FOk (f t) ∧ sumQ (f t) 13 = 1) → dAll u p f (u.2.2.1 31) = true → u.2.2.1 35 + dieC u p (u.2.2.1 31) ≤ 100 → opDie u (nI p) = (0, nI (dieC u p (u.2.2.1 31)), XX u p (u.2.2.1 31)) → ∀ (r i : Nat) (ad1 : Nat → Nat → Nat) (Z : GS) (s1 : Sg) (kc ks : Nat), i + r = u.2.2.1 31 → CA x.g ez ad u Y sg ad1 (XX u p i) Z s1 → s1 mq = some (ob 5 (vcl (MV u p))) → (RP u Y → RP (XX u p i) Z) → kc ≤ 10 + 3 * i → ks ≤ 200 + 1100 * i → AW x (RQ x (OPost x.g ez ad u Y sg (opDie u (nI p))) (OX x.g ez ad u Y sg x2s (opDie u (nI p))) (rmC 9 60 12000).cells (rmC 9 60 12000).slots) kc ks s1 77 [(0, .ref (ad 0 0)), (1, .int (nI p)), (2, .ref (ad 3 p)), (3, .ref mq), (4, .int (nI (dieC u p (u.2.2.1 31)))), (5, .int (nI i))] [] := by
    intro p mq f hp hNp hf hdA h100 hop r
    have hfA : ∀ t, t < u.2.2.1 31 → (∀ k, k < 13 → HQ u 33 34 (13 * t + k) (f t k)) ∧ FOk (f t) := fun t ht => ⟨(hf t ht).1, (hf t ht).2.1⟩
    induction r with
    | zero =>
      intro i ad1 Z s1 kc ks hi hA hmq hRP hkc hks
      have n31 := XX_n (u := u) (p := p) (i := i) (k := 31) (by decide)
      rw [← hA.2.1]
      have hEnd : OPost x.g ez ad u Y sg (opDie u (nI p)) (some (.int (nI (dieC u p (u.2.2.1 31))))) s1 := by
        have hA2 := hA
        have hR2 := hRP
        rw [show i = u.2.2.1 31 by omega] at hA2 hR2
        exact OPost.of hop (CR.of hA2.q hR2)
      refine aw_iload C dX8_die_77 rfl rfl ?_
      refine aw_aload_n C dX8_die_79 rfl rfl rfl ?_
      refine aw_getf C f_X8_16 hA.1.O rfl dX8_die_80 rfl ?_
      refine cw_callVp C k_X8_50 (L_size G (n := (XX u p i).2.2.1 31) (hA.1.L (i := 1) (by decide))) ⟨by decide, by decide⟩ (ci := 1) rfl (hA.1.L (i := 1) (by decide)) rfl rfl (by first | exact Nat.le_of_ble_eq_true rfl | (simp only [rmC]; omega)) (by first | exact Nat.le_of_ble_eq_true rfl | (simp only [rmC]; omega)) (by first | exact Nat.le_of_ble_eq_true rfl | (simp only [rmC]; omega)) dX8_die_83 rfl ?_
      rw [n31]
      refine aw_icmp_ge (tgt := 147) C dX8_die_86 (by decide) rfl (fun c86 => ?_) (fun c86 => ?_)
      · refine aw_iload C dX8_die_147 rfl rfl ?_
        exact aw_iret C rfl (by first | exact Nat.le_of_ble_eq_true rfl | (simp only [rmC]; omega)) (by first | exact Nat.le_of_ble_eq_true rfl | (simp only [rmC]; omega)) hEnd dX8_die_149
      · exact absurd (by rw [nI_leI (by omega) (by omega)]; omega) c86
    | succ r ih =>
      intro i ad1 Z s1 kc ks hi hA hmq hRP hkc hks
      have n31 := XX_n (u := u) (p := p) (i := i) (k := 31) (by decide)
      have n2 := XX_n (u := u) (p := p) (i := i) (k := 2) (by decide)
      have n35 := XX_35 (u := u) (p := p) (i := i)
      have hi1 : i < u.2.2.1 31 := by omega
      have hi2 : i < (XX u p i).2.2.1 31 := by omega
      have hp2 : p < (XX u p i).2.2.1 2 := by omega
      have h82 : (XX u p i).2.2.1 31 ≤ 8 := by omega
      have e3 : ad1 3 p = ad 3 p := (hA.2.2.2.2.1 3 p (cel_3l hp) (by decide)).2
      obtain ⟨dn1, dn2⟩ := dieN_A hI hp hNp hfA (m := i) (by omega)
      obtain ⟨dm1, dm2⟩ := dieN_A hI hp hNp hfA (m := i + 1) (by omega)
      have hqi : ∀ k, k < 13 → HQ (XX u p i) 33 34 (13 * i + k) (f i k) := fun k hk => by
        have q := tak_HQ (by omega) (dn2 i hi1 k hk)
        rw [dF, if_neg (fun z => Nat.lt_irrefl i z.1)] at q
        exact q
      have hfi := (hf i hi1).2.1
      have rp := row_pos ((hf i hi1).1 p (by omega)) (hfi.s (by omega)).1
      obtain ⟨hV, hP, hW⟩ := XX_V hI (p := p) (i := i) (by omega) h100
      have hXn : ¬ (f i p).num.toNat = 0 → XX u p (i + 1) = upComes (uJJ (XX u p i) (JJ u p (i + 1))) 5 (nI p) (nI i) := fun h0 => by
        show uJJ (dieE (U9 u p) p (i + 1)) _ = _
        rw [dieE, if_pos (by rw [U9_2]; exact rp.mpr h0)]
        rfl
      have hXe : (f i p).num.toNat = 0 → XX u p (i + 1) = XX u p i := fun h0 => by
        have hr : ¬ 0 < u.2.1 33 (13 * i + p) := fun z => rp.mp z h0
        unfold XX JJ
        rw [dieE, if_neg (by rw [U9_2]; exact hr), dieN, if_neg hr]
      rw [← hA.2.1, ← e3]
      refine aw_iload C dX8_die_77 rfl rfl ?_
      refine aw_aload_n C dX8_die_79 rfl rfl rfl ?_
      refine aw_getf C f_X8_16 hA.1.O rfl dX8_die_80 rfl ?_
      refine cw_callVp C k_X8_50 (L_size G (n := (XX u p i).2.2.1 31) (hA.1.L (i := 1) (by decide))) ⟨by decide, by decide⟩ (ci := 1) rfl (hA.1.L (i := 1) (by decide)) rfl rfl (by first | exact Nat.le_of_ble_eq_true rfl | (simp only [rmC]; omega)) (by first | exact Nat.le_of_ble_eq_true rfl | (simp only [rmC]; omega)) (by first | exact Nat.le_of_ble_eq_true rfl | (simp only [rmC]; omega)) dX8_die_83 rfl ?_
      rw [n31]
      refine aw_icmp_ge (tgt := 147) C dX8_die_86 (by decide) rfl (fun c86 => ?_) (fun c86 => ?_)
      · exact absurd c86 (fun z => by rw [nI_leI (by omega) (by omega)] at z; omega)
      · refine aw_aload_n C dX8_die_89 rfl rfl rfl ?_
        refine aw_getf C f_X8_16 hA.1.O rfl dX8_die_90 rfl ?_
        refine aw_iload C dX8_die_93 rfl rfl ?_
        refine cw_callVp C k_X8_355 (L_get G (hA.1.H (i := 1) (by decide)) hi2 (by show (XX u p i).2.2.1 31 ≤ 109; omega)) ⟨by decide, by decide⟩ (ci := 1) rfl (hA.1.L (i := 1) (by decide)) rfl rfl (by first | exact Nat.le_of_ble_eq_true rfl | (simp only [rmC]; omega)) (by first | exact Nat.le_of_ble_eq_true rfl | (simp only [rmC]; omega)) (by first | exact Nat.le_of_ble_eq_true rfl | (simp only [rmC]; omega)) dX8_die_95 rfl ?_
        refine aw_cast C h_X8_111 (ci := 9) rfl (hA.1.T hi2) dX8_die_98 rfl ?_
        refine aw_astore (ls' := [(6, _), (0, _), (1, _), (2, _), (3, _), (4, _), (5, _)]) C dX8_die_101 (by decide) rfl rfl ?_
        refine aw_aload C dX8_die_103 rfl rfl ?_
        refine aw_getf C f_X8_307 (hA.1.T hi2) rfl dX8_die_105 rfl ?_
        refine aw_aload_n C dX8_die_108 rfl rfl rfl ?_
        refine aw_getf C f_X8_68 (hA.1.P hp2) rfl dX8_die_109 rfl ?_
        refine cw_callVNp C k_X8_359 (C_isEmptyOf G (hA.1.sh h82 hi2 hqi) (k := p) (by omega) (hfi.s (by omega)).1) ⟨by decide, by decide⟩ (ci := 8) rfl (hA.1.S (Or.inl hi2)) rfl rfl (by first | exact Nat.le_of_ble_eq_true rfl | (simp only [rmC]; omega)) (by first | exact Nat.le_of_ble_eq_true rfl | (simp only [rmC]; omega)) (by first | exact Nat.le_of_ble_eq_true rfl | (simp only [rmC]; omega)) dX8_die_112 rfl ?_
        refine aw_if_ne (tgt := 141) C dX8_die_115 (by decide) rfl (fun c115 => ?_) (fun c115 => ?_)
        · have c115 := tr_of c115
          refine aw_iinc (v' := nI (i + 1)) (ls' := [(5, _), (6, _), (0, _), (1, _), (2, _), (3, _), (4, _)]) C dX8_die_141 rfl (by decide) (nI_1 i) rfl rfl ?_
          refine aw_goto (tgt := 77) C dX8_die_144 (by decide) ?_
          refine aw_pick (ls' := [(0, _), (1, _), (2, _), (3, _), (4, _), (5, _)]) [2, 3, 4, 5, 6, 0] rfl ?_
          have h0 := of_decide_eq_true c115
          rw [hA.2.1, e3]
          refine ih (i + 1) ad1 Z s1 _ _ (by omega) (by rw [hXe h0]; exact hA) hmq (by rw [hXe h0]; exact hRP) (by simp only [rmC]; omega) (by simp only [rmC]; omega)
        · have c115 := fa_of c115
          refine aw_aload_n C dX8_die_118 rfl rfl rfl ?_
          refine aw_new (fs := [.int 0, .int 0, .null, .int 0, .null]) C cf_X1 h_X8_330 h_new_X1 h_ini_X1 (fun j hj => match j, hj with | 0, _ => rfl | 1, _ => rfl | 2, _ => rfl | 3, _ => rfl | 4, _ => rfl | _ + 5, h => absurd h (by omega)) (by first | exact Nat.le_of_ble_eq_true rfl | (simp only [rmC]; omega)) (by first | exact Nat.le_of_ble_eq_true rfl | (simp only [rmC]; omega)) dX8_die_119 rfl (fun fe hfe => ?_)
          have hSf := hA.1.ext (fr_new (e := ob 3 [.int 0, .int 0, .null, .int 0, .null]) hfe)
          refine aw_dup C dX8_die_122 rfl rfl ?_
          refine aw_iconst (v := 5) C dX8_die_123 rfl rfl ?_
          refine aw_aload_n C dX8_die_124 rfl rfl rfl ?_
          refine aw_getf C f_X8_68 (hSf.P hp2) rfl dX8_die_125 rfl ?_
          refine aw_aload C dX8_die_128 rfl rfl ?_
          refine aw_aload_n C dX8_die_130 rfl rfl rfl ?_
          refine aw_getf C f_X8_32 hSf.O rfl dX8_die_131 rfl ?_
          refine aw_aload_n C dX8_die_134 rfl rfl rfl ?_
          refine aw_callIN C k_X8_333 (C_iEntry G (k := 5) (a := nI p) (th := ad1 8 i) (d := (XX u p i).2.2.2.1) (mv := (some (mq, MV u p) : Option (Nat × Mv)).map (fun q => q.1)) (t := 0) sgu_s) ⟨by decide, by decide⟩ rfl rfl (by first | exact Nat.le_of_ble_eq_true rfl | (simp only [rmC]; omega)) (by first | exact Nat.le_of_ble_eq_true rfl | (simp only [rmC]; omega)) (by first | exact Nat.le_of_ble_eq_true rfl | (simp only [rmC]; omega)) dX8_die_135 rfl (fun _ _ q => ax_no q) (fun v6 s6 hq6 => ?_)
          obtain ⟨rfl, hfe6, hfr6⟩ := hq6
          have h6 : ∀ c, s1 c ≠ none → s6 c = s1 c := fun c hc => (hfr6 c (fun z => hc (by rw [z]; exact hfe))).trans (fr_new hfe c hc)
          have hS6 := hA.1.ext h6
          have h0 := of_decide_eq_false c115
          have hC1 : dieC u p (i + 1) = dieC u p i + 1 := by rw [dieC, if_pos (rp.mpr h0)]
          have hCm := dieC_mono (u := u) (p := p) (m := i + 1) (k := u.2.2.1 31) (by omega)
          have hn100 : (XX u p i).2.2.1 35 < 100 := by omega
          have hmo : moOk (some (mq, MV u p)) (f i) := MV_ok hI hp hNp
          have hAl := dAll_t hi1 hdA h0
          have hG : ∀ k, k < 13 → HQ (uJJ (XX u p i) (JJ u p (i + 1))) 33 34 (13 * i + k) (moF (some (mq, MV u p)) (f i) k) := fun k hk => by
              have q := tak_HQ (by omega) (dm2 i hi1 k hk)
              rw [dF, if_pos ⟨Nat.lt_succ_self i, h0⟩] at q
              exact q
          have hGf : FOk (moF (some (mq, MV u p)) (f i)) := MV_FOk hI hp hNp hfi (hf i hi1).2.2 hAl
          have hJ : ∀ s, s < (XX u p i).2.2.1 31 → s ≠ i → ∀ k, k < 13 → JJ u p (i + 1) 33 (13 * s + k) = (XX u p i).2.1 33 (13 * s + k) ∧ JJ u p (i + 1) 34 (13 * s + k) = (XX u p i).2.1 34 (13 * s + k) := fun s hs hsi k hk => JJ_o (by omega) (by omega) hsi hk
          have hmc6 : ∀ a1 m1, (some (mq, MV u p) : Option (Nat × Mv)) = some (a1, m1) → s6 a1 = some (ob 5 (vcl m1)) := fun a1 m1 z => by
              cases z
              rw [h6 mq (by rw [hmq]; exact fun q => by cases q)]
              exact hmq
          have hfd : ∀ k j, cel x.g ez ad1 (XX u p i) Z k j ≠ none → ad1 k j ≠ fe := fun k j hc z => by
              cases e : cel x.g ez ad1 (XX u p i) Z k j with
              | none => exact hc e
              | some b2 =>
                have e9 := hA.1.1 k j b2 e
                rw [z, hfe] at e9
                cases e9
          refine aw_callV C k_X8_336 (C_keepEntry G (u := XX u p i) hS6 hV hP hW hi2 hqi hfi (mo := some (mq, MV u p)) hmo hmc6 hn100 hfe6 hfd (J := JJ u p (i + 1)) hG hJ) ⟨by decide, by decide⟩ (ci := 10) rfl hS6.O rfl rfl (by first | exact Nat.le_of_ble_eq_true rfl | (simp only [rmC]; omega)) (by first | exact Nat.le_of_ble_eq_true rfl | (simp only [rmC]; omega)) (by first | exact Nat.le_of_ble_eq_true rfl | (simp only [rmC]; omega)) dX8_die_138 rfl (fun _ _ q => ax_no q) (fun v7 s7 hq7 => ?_)
          obtain ⟨rfl, hCQ⟩ := hq7
          have hb5 : ∀ c, s1 c ≠ none → mins s6 fe c = s1 c := fun c hc => (if_neg (fun z => hc (by rw [z]; exact hfe))).trans (h6 c hc)
          have hCQ0 := CQ.base hb5 hCQ
          obtain ⟨ad2, hA2⟩ := hA.tr hCQ0
          rw [← hXn h0] at hA2
          have n35' : (XX u p i).2.2.1 35 < (XX u p (i + 1)).2.2.1 35 := by have q := XX_35 (u := u) (p := p) (i := i + 1); omega
          have hmq2 : s7 mq = some (ob 5 (vcl (MV u p))) := hA2.1.V n35' (if_pos rfl)
          have hRP2 : RP u Y → RP (XX u p (i + 1)) (YE Z ((XX u p i).2.2.1 35) (some (mq, MV u p))) := fun r0 => RP.entry h82 (hRP r0) hi2 (mo := some (mq, MV u p)) hqi hfi hmo hG hGf hJ (fun e he => by rw [hXn h0]; exact (upC_38 (X := uJJ (XX u p i) (JJ u p (i + 1)))).1 e he) (by rw [hXn h0]; exact (upC_38 (X := uJJ (XX u p i) (JJ u p (i + 1)))).2) rfl (by rw [n31, XX_n (by decide)]) (by have q := XX_35 (u := u) (p := p) (i := i + 1); omega) rfl rfl
          refine aw_iinc (v' := nI (i + 1)) (ls' := [(5, _), (6, _), (0, _), (1, _), (2, _), (3, _), (4, _)]) C dX8_die_141 rfl (by decide) (nI_1 i) rfl rfl ?_
          refine aw_goto (tgt := 77) C dX8_die_144 (by decide) ?_
          refine aw_pick (ls' := [(0, _), (1, _), (2, _), (3, _), (4, _), (5, _)]) [2, 3, 4, 5, 6, 0] rfl ?_
          rw [hA.2.1, e3]
          refine ih (i + 1) ad2 _ s7 _ _ (by omega) hA2 hmq2 hRP2 (by simp only [rmC]; omega) (by simp only [rmC]; omega)
  refine aw_aload_n C dX8_die_0 rfl rfl rfl ?_
  refine aw_iload_n C dX8_die_1 rfl rfl rfl ?_
  refine aw_callV C k_X8_71 (C_personAt G hS hI (v := v)) ⟨by decide, by decide⟩ (ci := 10) rfl hS.O rfl rfl (Nat.le_of_ble_eq_true rfl) (Nat.le_of_ble_eq_true rfl) (Nat.le_of_ble_eq_true rfl) dX8_die_2 rfl (fun E s1 hx => ?_) (fun v1 s1 hq => ?_)
  · obtain ⟨rfl, hx, rfl⟩ := hx
    exact ax_out C hout (Nat.le_of_ble_eq_true rfl) (Nat.le_of_ble_eq_true rfl) (OX.of (c := 1) (r := 0) (w := u) (by simp [opDie, hx]) (by decide) rfl (CR.rf hS))
  obtain ⟨p, hp, rfl, rfl, hss⟩ := hq
  obtain rfl := hss.symm
  have ep := isP_in hI.W hp
  have kp : (nI p).toNatClampNeg = p := nI_clamp (by have := hI.n2; omega)
  refine aw_astore_n (ls' := [(2, _), (0, _), (1, _)]) C dX8_die_5 rfl (by decide) rfl rfl ?_
  refine aw_aload_n C dX8_die_6 rfl rfl rfl ?_
  refine aw_getf C f_X8_96 (hS.P hp) rfl dX8_die_7 rfl ?_
  refine aw_if_ne (tgt := 24) C dX8_die_10 (by decide) rfl (fun c10 => ?_) (fun c10 => ?_)
  · have c10 := tr_of c10
    refine aw_aload_n C dX8_die_24 rfl rfl rfl ?_
    refine aw_aload_n C dX8_die_25 rfl rfl rfl ?_
    refine aw_callV C k_X8_342 (C_successionOf G hS hI hp (hNS p hp)) ⟨by decide, by decide⟩ (ci := 10) rfl hS.O rfl rfl (Nat.le_of_ble_eq_true rfl) (Nat.le_of_ble_eq_true rfl) (Nat.le_of_ble_eq_true rfl) dX8_die_26 rfl (fun _ _ q => ax_no q) (fun v1 s1 hq1 => ?_)
    obtain ⟨mq, rfl, hmq, hmv, hfr1⟩ := hq1
    have h1m : ∀ c, sg c ≠ none → s1 c = sg c := fun c hc => hfr1 c (fun z => hc (by rw [z]; exact hmq))
    have hSm := hS.ext h1m
    have hFm : CFr x.g ez ad u Y sg s1 := CFr.nw h1m
    obtain ⟨f, hf⟩ := fam hI
    have hfA : ∀ t, t < u.2.2.1 31 → (∀ k, k < 13 → HQ u 33 34 (13 * t + k) (f t k)) ∧ FOk (f t) := fun t ht => ⟨(hf t ht).1, (hf t ht).2.1⟩
    refine aw_astore_n (ls' := [(3, _), (2, _), (0, _), (1, _)]) C dX8_die_29 rfl (by decide) rfl rfl ?_
    refine aw_aload_n C dX8_die_30 rfl rfl rfl ?_
    refine aw_aload_n C dX8_die_31 rfl rfl rfl ?_
    refine aw_aload_n C dX8_die_32 rfl rfl rfl ?_
    refine aw_callV C k_X8_346 (C_countEstate G hSm hI hp (hNS p hp) hfA hmv) ⟨by decide, by decide⟩ (ci := 10) rfl hSm.O rfl rfl (Nat.le_of_ble_eq_true rfl) (Nat.le_of_ble_eq_true rfl) (Nat.le_of_ble_eq_true rfl) dX8_die_33 rfl (fun E s2 hx => ?_) (fun v2 s2 hq => ?_)
    · obtain ⟨rfl, hdA, F1, F2, hS2, hfr2⟩ := hx
      exact ax_out C hout (Nat.le_of_ble_eq_true rfl) (Nat.le_of_ble_eq_true rfl) (OX.of (c := 2) (r := 0) (w := (dieN u p (u.2.2.1 31)).2) (by rw [opDie, if_neg (by simp [ep]), kp, if_neg (show ¬ ¬ u.1 6 p = 0 from fun z => z (of_decide_eq_true c10)), if_pos (Or.inl ((dieN_A hI hp (hNS p hp) hfA (m := u.2.2.1 31) (Nat.le_refl _)).1.trans hdA))]) (by decide) rfl (CR.sc hS2 (fun c e he hno => (hfr2 c (hno 10 8 cel_lv10.1) (hno 11 8 cel_lv10.2)).trans (hFm c e he hno)) rfl rfl dieN_I dieN_N (dieN_k (by decide) (by decide)) (dieN_k (by decide) (by decide))))
    obtain ⟨rfl, hdA, F1, F2, hS2, hfr2⟩ := hq
    have hF2 : CFr x.g ez ad u Y sg s2 := fun c e he hno => (hfr2 c (hno 10 8 cel_lv10.1) (hno 11 8 cel_lv10.2)).trans (hFm c e he hno)
    have hdC := dieC_le (u := u) (p := p) (m := u.2.2.1 31)
    refine aw_istore (ls' := [(4, _), (3, _), (2, _), (0, _), (1, _)]) C dX8_die_36 (by decide) rfl rfl ?_
    refine aw_aload_n C dX8_die_38 rfl rfl rfl ?_
    refine aw_getf C f_X8_22 hS2.O rfl dX8_die_39 rfl ?_
    refine cw_callVp C k_X8_50 (L_size G (n := u.2.2.1 35) (hS2.L (i := 3) (by decide))) ⟨by decide, by decide⟩ (ci := 1) rfl (hS2.L (i := 3) (by decide)) rfl rfl (Nat.le_of_ble_eq_true rfl) (Nat.le_of_ble_eq_true rfl) (Nat.le_of_ble_eq_true rfl) dX8_die_42 rfl ?_
    refine aw_iload C dX8_die_45 rfl rfl ?_
    refine aw_iadd C dX8_die_47 rfl ?_
    rw [nI_add]
    refine aw_bipush (v := 100) C dX8_die_48 rfl rfl ?_
    refine aw_icmp_le (tgt := 64) C dX8_die_50 (by decide) rfl (fun c50 => ?_) (fun c50 => ?_)
    · refine aw_aload_n C dX8_die_64 rfl rfl rfl ?_
      refine aw_iconst (v := 0) C dX8_die_65 rfl rfl ?_
      refine cw_put (i := 3) (j := p) (uI u 6 p 1) C hS2 CFr.rf SN.rf f_X8_96 rfl (cel_3 hp) (by rw [cel_3 (u := (uI u 6 p 1)) hp, pset6]) (fun a b hab => cel_uI hI.P hI.W (by decide) (fun z => hab ⟨z.1.symm, z.2.symm⟩)) rfl rfl rfl (Nat.le_of_ble_eq_true rfl) dX8_die_66 rfl (fun s3 hS3 hF3 => ?_)
      have hV3 : CV (uI u 6 p 1) := hI.v
      have hW3 : WN (uI u 6 p 1) := hI.W
      refine aw_aload_n C dX8_die_69 rfl rfl rfl ?_
      refine aw_aload_n C dX8_die_70 rfl rfl rfl ?_
      refine aw_callV C k_X8_352 (C_endGuard G hS3 hV3 (hI.P.u (by decide)) hW3 hp) ⟨by decide, by decide⟩ (ci := 10) rfl hS3.O rfl rfl (Nat.le_of_ble_eq_true rfl) (Nat.le_of_ble_eq_true rfl) (Nat.le_of_ble_eq_true rfl) dX8_die_71 rfl (fun E s1 hx => ?_) (fun v1 s4 hq => ?_)
      · exact ax_no hx
      obtain ⟨rfl, hS4, hF4⟩ := hq
      refine aw_iconst (v := 0) C dX8_die_74 rfl rfl ?_
      refine aw_istore (ls' := [(5, _), (4, _), (3, _), (2, _), (0, _), (1, _)]) C dX8_die_75 (by decide) rfl rfl ?_
      refine aw_pick (ls' := [(0, _), (1, _), (2, _), (3, _), (4, _), (5, _)]) [4, 5, 3, 2, 1, 0] rfl ?_
      have h100 : u.2.2.1 35 + dieC u p (u.2.2.1 31) ≤ 100 := by rw [show (100 : Int32) = nI 100 from rfl, nI_leI (by omega) (by decide)] at c50; omega
      have hop : opDie u (nI p) = (0, nI (dieC u p (u.2.2.1 31)), XX u p (u.2.2.1 31)) := by rw [opDie, if_neg (by simp [ep]), kp, if_neg (show ¬ ¬ u.1 6 p = 0 from fun z => z (of_decide_eq_true c10)), if_neg (by rw [(dieN_A hI hp (hNS p hp) hfA (m := u.2.2.1 31) (Nat.le_refl _)).1, hdA]; rintro (z | z); cases z; omega), die_w]
      have hF5 : CFr x.g ez ad u Y sg s4 := (hF2.tr hF3 (fun k i hc => (SN.rf (u := u)).ne hc)).tr hF4 (fun k i hc => SN.ne (w := uI u 6 p 1) (u := u) ⟨rfl, rfl, rfl, rfl, rfl⟩ hc)
      have hN5 : SN (XX u p 0) u := ⟨XX_n (by decide), XX_n (by decide), XX_n (by decide), XX_35, XX_r (by decide)⟩
      have hS5 : CS x.g ez ad (XX u p 0) (Y.1, Y.2.1, F1, F2) s4 := CS.scr (w := XX u p 0) hS4 rfl rfl (by rw [show (XX u p 0).2.1 33 = u.2.1 33 from tak_lay.1, dieG_2]; rfl) (by rw [show (XX u p 0).2.1 34 = u.2.1 34 from tak_lay.2, dieG_2]; rfl)
      have hmq2 : s2 mq = some (ob 5 (vcl (MV u p))) := (hfr2 mq (no5 (hSm.1 10 8 _ cel_t10) hmv) (no5 (hSm.1 11 8 _ cel_t11) hmv)).trans hmv
      have nl : ∀ k i, cel x.g ez ad u (Y.1, Y.2.1, F1, F2) k i ≠ none → mq ≠ ad k i := fun k i hc z => by
        cases e : cel x.g ez ad u (Y.1, Y.2.1, F1, F2) k i with
        | none => exact hc e
        | some b2 =>
          have e9 := hS2.1 k i b2 e
          rw [← z, hmq2] at e9
          rw [← e9] at e
          exact cel_n5 e
      have hmq5 : s4 mq = some (ob 5 (vcl (MV u p))) := hF4 mq _ (hF3 mq _ hmq2 nl) (fun k i hc => nl k i (SN.ne (w := uI u 6 p 1) (u := u) ⟨rfl, rfl, rfl, rfl, rfl⟩ hc))
      have e38 : (XX u p 0).1 38 = u.1 38 := by show (dieG (uI u 6 p 1) p (u.2.2.1 2)).1 38 = _; rw [dieG_k (by decide)]; rfl
      refine loop p mq f hp (hNS p hp) hf hdA h100 hop (u.2.2.1 31) 0 ad (Y.1, Y.2.1, F1, F2) s4 _ _ (by omega) (CA.ip hS5 hN5 hF5) hmq5 (fun r0 => r0.fr e38 tak_lay.1 tak_lay.2 (XX_n (by decide)) XX_35 rfl rfl) (by simp only [rmC]; omega) (by simp only [rmC]; omega)
    · exact aw_thrW C G thS 30 rfl dX8_die_53 dX8_die_56 dX8_die_57 dX8_die_60 dX8_die_63 hout ⟨by decide, (Nat.le_of_ble_eq_true rfl)⟩ (Nat.le_of_ble_eq_true rfl) (Nat.le_of_ble_eq_true rfl) (OX.of (c := 2) (r := 0) (w := (dieN u p (u.2.2.1 31)).2) (by rw [opDie, if_neg (by simp [ep]), kp, if_neg (show ¬ ¬ u.1 6 p = 0 from fun z => z (of_decide_eq_true c10)), if_pos (Or.inr (by rw [show (100 : Int32) = nI 100 from rfl, nI_leI (by omega) (by decide)] at c50; omega))]) (by decide) rfl (CR.sc hS2 hF2 rfl rfl dieN_I dieN_N (dieN_k (by decide) (by decide)) (dieN_k (by decide) (by decide)))) (Nat.le_of_ble_eq_true rfl) (Nat.le_of_ble_eq_true rfl)
  · have c10 := fa_of c10
    exact aw_thrW C G thS 28 rfl dX8_die_13 dX8_die_16 dX8_die_17 dX8_die_20 dX8_die_23 hout ⟨by decide, (Nat.le_of_ble_eq_true rfl)⟩ (Nat.le_of_ble_eq_true rfl) (Nat.le_of_ble_eq_true rfl) (OX.of (c := 2) (r := 0) (w := u) (by rw [opDie, if_neg (by simp [ep]), kp, if_pos (of_decide_eq_false c10)]) (by decide) rfl (CR.rf hS)) (Nat.le_of_ble_eq_true rfl) (Nat.le_of_ble_eq_true rfl)
