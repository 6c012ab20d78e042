/-! the class: search, pledge, share, shareAnew -/
theorem CS.nn {g : Gx} {ez : Nat} {ad : Nat → Nat → Nat} {u : MU} {Y : GS} {sg : Sg} (h : CS g ez ad u Y sg) {k i j n : Nat} {e1 e2 : va_E} (h1 : cel g ez ad u Y k i = some e1) (h2 : cel g ez ad u Y j n = some e2) (hn : ¬ (k = j ∧ i = n)) : ad k i ≠ ad j n := fun z => hn (h.2.1 k i j n (by rw [h1]; exact fun q => by cases q) (by rw [h2]; exact fun q => by cases q) z)
theorem cel_10 {g : Gx} {ez : Nat} {ad : Nat → Nat → Nat} {u : MU} {Y : GS} {t : Nat} (h8 : u.2.2.1 31 ≤ 8) (ht : t < u.2.2.1 31) : cel g ez ad u Y 10 t = some (arJ g 13 (clip 13 0 (fun j => u.2.1 33 (13 * t + j)))) := (if_neg (by omega)).trans (if_pos ht)
theorem cel_11 {g : Gx} {ez : Nat} {ad : Nat → Nat → Nat} {u : MU} {Y : GS} {t : Nat} (h8 : u.2.2.1 31 ≤ 8) (ht : t < u.2.2.1 31) : cel g ez ad u Y 11 t = some (arJ g 13 (clip 13 0 (fun j => u.2.1 34 (13 * t + j)))) := (if_neg (by omega)).trans (if_pos ht)
theorem cel_t10 {g : Gx} {ez : Nat} {ad : Nat → Nat → Nat} {u : MU} {Y : GS} : cel g ez ad u Y 10 8 = some (arJ g 13 (clip 13 0 Y.2.2.1)) := rfl
theorem cel_t11 {g : Gx} {ez : Nat} {ad : Nat → Nat → Nat} {u : MU} {Y : GS} : cel g ez ad u Y 11 8 = some (arJ g 13 (clip 13 0 Y.2.2.2)) := rfl
theorem clip_cg {α : Type} {n : Nat} {z : α} {f h : Nat → α} (e : ∀ k, k < n → f k = h k) : clip n z f = clip n z h := funext fun k => by
  unfold clip
  by_cases hk : k < n
  · rw [if_pos hk, if_pos hk, e k hk]
  · rw [if_neg hk, if_neg hk]
/-- the shares of a thing as numbers -/
theorem CS.sh {g : Gx} {ez : Nat} {ad : Nat → Nat → Nat} {u : MU} {Y : GS} {sg : Sg} (h : CS g ez ad u Y sg) (h8 : u.2.2.1 31 ≤ 8) {t : Nat} (ht : t < u.2.2.1 31) {f : Nat → Rat} (hf : ∀ k, k < 13 → HQ u 33 34 (13 * t + k) (f k)) : SH g sg (ad 9 t) (ad 10 t) (ad 11 t) f :=
  ⟨h.S (Or.inl ht), (h.1 10 t _ (cel_10 h8 ht)).trans (by rw [clip_cg (fun k hk => (hf k hk).2.1)]), (h.1 11 t _ (cel_11 h8 ht)).trans (by rw [clip_cg (fun k hk => (hf k hk).2.2)]), h.nn (cel_10 h8 ht) (cel_11 h8 ht) (by omega), fun k hk => (hf k hk).1⟩
theorem CS.sx {g : Gx} {ez : Nat} {ad : Nat → Nat → Nat} {u : MU} {Y : GS} {sg : Sg} (h : CS g ez ad u Y sg) : SHx sg g (ad 9 8) (ad 10 8) (ad 11 8) Y.2.2.1 Y.2.2.2 := ⟨h.S (Or.inr rfl), h.1 10 8 _ cel_t10, h.1 11 8 _ cel_t11, h.nn cel_t10 cel_t11 (by omega)⟩
/-- another trial -/
theorem CS.tr {g : Gx} {ez : Nat} {ad : Nat → Nat → Nat} {u : MU} {Y : GS} {sg s' : Sg} (h : CS g ez ad u Y sg) {F1 F2 : Nat → Int64} (h1 : s' (ad 10 8) = some (arJ g 13 (clip 13 0 F1))) (h2 : s' (ad 11 8) = some (arJ g 13 (clip 13 0 F2))) (ho : ∀ p, p ≠ ad 10 8 → p ≠ ad 11 8 → s' p = sg p) : CS g ez ad u (Y.1, Y.2.1, F1, F2) s' ∧ CFr g ez ad u Y sg s' := by
  have hc : ∀ k i, ¬ (k = 10 ∧ i = 8) → ¬ (k = 11 ∧ i = 8) → cel g ez ad u (Y.1, Y.2.1, F1, F2) k i = cel g ez ad u Y k i := fun k i n1 n2 => by
    match k with
    | 0 | 1 | 2 | 3 | 4 | 5 | 6 | 7 | 8 | 9 | 12 | _ + 13 => rfl
    | 10 => exact (if_neg (fun z => n1 ⟨rfl, z⟩)).trans (if_neg (fun z => n1 ⟨rfl, z⟩)).symm
    | 11 => exact (if_neg (fun z => n2 ⟨rfl, z⟩)).trans (if_neg (fun z => n2 ⟨rfl, z⟩)).symm
  have hl : ∀ k i, cel g ez ad u (Y.1, Y.2.1, F1, F2) k i ≠ none → cel g ez ad u Y k i ≠ none := fun k i z => (SN.rf (u := u)).ne z
  refine ⟨⟨fun k i e he => ?_, fun k i j n a b c => h.2.1 k i j n (hl k i a) (hl j n b) c, fun e he a m hm => ?_⟩, fun a e he hn => ?_⟩
  · by_cases n1 : k = 10 ∧ i = 8
    · obtain ⟨rfl, rfl⟩ := n1
      rw [cel_t10] at he
      cases he
      exact h1
    · by_cases n2 : k = 11 ∧ i = 8
      · obtain ⟨rfl, rfl⟩ := n2
        rw [cel_t11] at he
        cases he
        exact h2
      · rw [hc k i n1 n2] at he
        rw [ho _ (h.nn he cel_t10 n1) (h.nn he cel_t11 n2)]
        exact h.1 k i e he
  · have h3 := h.2.2 e he a m hm
    rw [ho a (fun z => ?_) (fun z => ?_)]
    · exact h3
    · rw [z, h.1 10 8 _ cel_t10] at h3; cases h3
    · rw [z, h.1 11 8 _ cel_t11] at h3; cases h3
  · rw [ho a (hn 10 8 (by rw [cel_t10]; exact fun q => by cases q)) (hn 11 8 (by rw [cel_t11]; exact fun q => by cases q))]
    exact he
theorem nI_m12 : (12 : Int32) = nI 12 := rfl
set_option maxRecDepth 100000 in
theorem F_share {g : Gx} {l : Launch} {ez : Nat} (G : GOK g l ez) {sg : Sg} {ad : Nat → Nat → Nat} {u : MU} {Y : GS} (hS : CS g ez ad u Y sg) {N : Nat} (hI : CI N u) {v w : Int32} {fl : Bool} : MM g l yX8_share cX8_share 5 (some .int) (rmC 9 8 60) sg [.ref (ad 0 0), .int v, .int w, .int (b2i fl)] (OPost g ez ad u Y sg (opShare u v w fl)) (OX g ez ad u Y sg x1b (opShare u v w fl)) := by
  refine MM.of G.1 G.2.1 (by decide) (Nat.le_of_ble_eq_true rfl) (fun x hg hlx C hin hout hargs => ?_)
  subst hg; subst hlx
  have C : AWC x cX8_share 5 RX8 (rmC 9 8 60) (some .int) := C
  show AW x (RQ x _ _ _ _) 0 0 sg 0 [(0, .ref (ad 0 0)), (1, .int v), (2, .int w), (3, .int (b2i fl))] []
  refine aw_aload_n C dX8_share_0 rfl rfl rfl ?_
  refine aw_iload_n C dX8_share_1 rfl rfl rfl ?_
  refine aw_callV C k_X8_121 (C_thingAt G hS hI (v := v)) ⟨by decide, by decide⟩ (ci := 10) rfl hS.O rfl rfl (Nat.le_of_ble_eq_true rfl) (Nat.le_of_ble_eq_true rfl) (Nat.le_of_ble_eq_true rfl) dX8_share_2 rfl (fun E s1 hx => ?_) (fun v1 s1 hq => ?_)
  · obtain ⟨rfl, hx, rfl⟩ := hx
    exact ax_out C hout (Nat.le_of_ble_eq_true rfl) (Nat.le_of_ble_eq_true rfl) (OX.of (c := 1) (r := 0) (w := u) (by rw [opShare, if_pos (Or.inl hx)]) (by decide) rfl (CR.rf hS))
  obtain ⟨t, ht, rfl, rfl, rfl⟩ := hq
  have et := isTh_in hI.W ht
  have kt : (nI t).toNatClampNeg = t := nI_clamp (by have := hI.n31; omega)
  refine aw_astore (ls' := [(4, _), (0, _), (1, _), (2, _), (3, _)]) C dX8_share_5 (by decide) rfl rfl ?_
  refine aw_aload C dX8_share_7 rfl rfl ?_
  refine aw_getf C f_X8_307 (hS.T ht) rfl dX8_share_9 rfl ?_
  refine aw_aload_n C dX8_share_12 rfl rfl rfl ?_
  refine aw_iload_n C dX8_share_13 rfl rfl rfl ?_
  refine aw_callV C k_X8_376 (C_holderAt G hS hI (v := w)) ⟨by decide, by decide⟩ (ci := 10) rfl hS.O rfl rfl (Nat.le_of_ble_eq_true rfl) (Nat.le_of_ble_eq_true rfl) (Nat.le_of_ble_eq_true rfl) dX8_share_14 rfl (fun E s1 hx => ?_) (fun v1 s1 hq => ?_)
  · obtain ⟨rfl, hw1, hx, rfl⟩ := hx
    exact ax_out C hout (Nat.le_of_ble_eq_true rfl) (Nat.le_of_ble_eq_true rfl) (OX.of (c := 1) (r := 0) (w := u) (by rw [opShare, if_pos (Or.inr ⟨hw1, hx⟩)]) (by decide) rfl (CR.rf hS))
  obtain ⟨hw, rfl, rfl⟩ := hq
  have h12 := hI.n2
  have h8 := hI.n31
  have hth : isTh u (nI t) = true := et
  obtain ⟨k, hk, ek, hno⟩ : ∃ k, k < 13 ∧ (if w = -1 then 12 else w) = nI k ∧ k = (if w = -1 then 12 else w.toNatClampNeg) := by
    rcases hw with hz | ⟨p, hp, hz⟩
    · exact ⟨12, by decide, by rw [if_pos hz]; rfl, by rw [if_pos hz]⟩
    · have hm := nI_m1n (q := p) (by omega)
      rw [← hz] at hm
      exact ⟨p, by omega, by rw [if_neg hm, hz], by rw [if_neg hm, hz, nI_clamp (by omega)]⟩
  have hop : ¬ (isTh u (nI t) = false ∨ (¬ w = -1 ∧ isP u w = false)) := by
    rintro (z | z)
    · rw [hth] at z; cases z
    · rcases hw with hz | ⟨p, hp, hz⟩
      · exact z.1 hz
      · rw [hz, isP_in hI.W hp] at z; exact absurd z.2 (by decide)
  obtain ⟨f, hf, -⟩ := hI.Q t ht
  have hH := hS.sh h8 ht (fun k hk => (hf k hk).1)
  rw [ek]
  refine aw_iload_n C dX8_share_17 rfl rfl rfl ?_
  refine cw_callVNp C k_X8_380 (C_termOf G hH hk) ⟨by decide, by decide⟩ (ci := 8) rfl hH.1 rfl rfl (Nat.le_of_ble_eq_true rfl) (Nat.le_of_ble_eq_true rfl) (Nat.le_of_ble_eq_true rfl) dX8_share_18 rfl ?_
  exact aw_iret C rfl (Nat.le_of_ble_eq_true rfl) (Nat.le_of_ble_eq_true rfl) (OPost.of (by rw [opShare, if_neg hop, kt, ← hno]; obtain ⟨q0, q1, q2⟩ := (hf k hk).1; cases fl <;> simp [q1, q2, lN_i]) (CR.rf hS)) dX8_share_21
set_option maxRecDepth 100000 in
theorem F_pledge {g : Gx} {l : Launch} {ez : Nat} (G : GOK g l ez) {sg : Sg} {ad : Nat → Nat → Nat} {u : MU} {Y : GS} (hS : CS g ez ad u Y sg) {N : Nat} (hI : CI N u) {v w : Int32} : MM g l yX8_pledge cX8_pledge 7 (some .int) (rmC 9 8 60) sg [.ref (ad 0 0), .int v, .int w] (OPost g ez ad u Y sg (opPledge u v w)) (OX g ez ad u Y sg x1b (opPledge u v w)) := by
  refine MM.of G.1 G.2.1 (by decide) (Nat.le_of_ble_eq_true rfl) (fun x hg hlx C hin hout hargs => ?_)
  subst hg; subst hlx
  have C : AWC x cX8_pledge 7 RX8 (rmC 9 8 60) (some .int) := C
  show AW x (RQ x _ _ _ _) 0 0 sg 0 [(0, .ref (ad 0 0)), (1, .int v), (2, .int w)] []
  have h35 := hI.n35
  have h8 := hI.n31
  have loop : ∀ (t f : Nat), t < u.2.2.1 31 → f < 2 ^ 31 → ∀ (r e k : Nat), e ≤ 100 → k ≤ e → k ≤ f → u.2.2.1 35 < e + r → plg u (nI t) r e (f - k) = plg u (nI t) 101 0 f → AW x (RQ x (OPost x.g ez ad u Y sg (opPledge u (nI t) (nI f))) (OX x.g ez ad u Y sg x1b (opPledge u (nI t) (nI f))) (rmC 9 8 60).cells (rmC 9 8 60).slots) 1 6 sg 27 [(0, .ref (ad 0 0)), (1, .int (nI t)), (2, .int (nI f)), (3, .ref (ad 8 t)), (4, .int (nI k)), (5, .int (nI e))] [] := by
    intro t f ht hf r
    have et := isTh_in hI.W ht
    have hno : ¬ (isTh u (nI t) = false ∨ nI f < 0) := by
      rintro (z | z)
      · rw [et] at z; cases z
      · exact nI_pos hf z
    induction r with
    | zero =>
      intro e k he hke hk hr hT
      refine aw_iload C dX8_pledge_27 rfl rfl ?_
      refine aw_aload_n C dX8_pledge_29 rfl rfl rfl ?_
      refine aw_getf C f_X8_22 hS.O rfl dX8_pledge_30 rfl ?_
      refine cw_callVp C k_X8_50 (L_size G (n := u.2.2.1 35) (hS.L (i := 3) (by decide))) ⟨by decide, by decide⟩ (ci := 1) rfl (hS.L (i := 3) (by decide)) rfl rfl (Nat.le_of_ble_eq_true rfl) (Nat.le_of_ble_eq_true rfl) (Nat.le_of_ble_eq_true rfl) dX8_pledge_33 rfl ?_
      refine aw_icmp_ge (tgt := 92) C dX8_pledge_36 (by decide) rfl (fun c36 => ?_) (fun c36 => ?_)
      · refine aw_iconst (v := -1) C dX8_pledge_92 rfl rfl ?_
        exact aw_iret C rfl (Nat.le_of_ble_eq_true rfl) (Nat.le_of_ble_eq_true rfl) (OPost.of (by rw [opPledge, if_neg hno, nI_clamp hf, ← hT, plg]) (CR.rf hS)) dX8_pledge_93
      · exact absurd (by rw [nI_leI (by omega) (by omega)]; omega) c36
    | succ r ih =>
      intro e k he hke hk hr hT
      refine aw_iload C dX8_pledge_27 rfl rfl ?_
      refine aw_aload_n C dX8_pledge_29 rfl rfl rfl ?_
      refine aw_getf C f_X8_22 hS.O rfl dX8_pledge_30 rfl ?_
      refine cw_callVp C k_X8_50 (L_size G (n := u.2.2.1 35) (hS.L (i := 3) (by decide))) ⟨by decide, by decide⟩ (ci := 1) rfl (hS.L (i := 3) (by decide)) rfl rfl (Nat.le_of_ble_eq_true rfl) (Nat.le_of_ble_eq_true rfl) (Nat.le_of_ble_eq_true rfl) dX8_pledge_33 rfl ?_
      refine aw_icmp_ge (tgt := 92) C dX8_pledge_36 (by decide) rfl (fun c36 => ?_) (fun c36 => ?_)
      · refine aw_iconst (v := -1) C dX8_pledge_92 rfl rfl ?_
        exact aw_iret C rfl (Nat.le_of_ble_eq_true rfl) (Nat.le_of_ble_eq_true rfl) (OPost.of (by rw [opPledge, if_neg hno, nI_clamp hf, ← hT, plg, if_neg (by rw [nI_leI (by omega) (by omega)] at c36; omega)]) (CR.rf hS)) dX8_pledge_93
      · have he1 : e < u.2.2.1 35 := by rw [nI_leI (by omega) (by omega)] at c36; omega
        obtain ⟨s, hs, e38⟩ := hI.et he1
        have g38 : (u.1 38 e).toNatClampNeg = s := by rw [e38, nI_clamp (by omega)]
        refine aw_aload_n C dX8_pledge_39 rfl rfl rfl ?_
        refine aw_getf C f_X8_22 hS.O rfl dX8_pledge_40 rfl ?_
        refine aw_iload C dX8_pledge_43 rfl rfl ?_
        refine cw_callVp C k_X8_355 (L_get G (hS.H (i := 3) (by decide)) he1 (by show u.2.2.1 35 ≤ 109; omega)) ⟨by decide, by decide⟩ (ci := 1) rfl (hS.L (i := 3) (by decide)) rfl rfl (Nat.le_of_ble_eq_true rfl) (Nat.le_of_ble_eq_true rfl) (Nat.le_of_ble_eq_true rfl) dX8_pledge_45 rfl ?_
        refine aw_cast C h_X8_330 (ci := 3) rfl (hS.En he1) dX8_pledge_48 rfl ?_
        refine aw_astore (ls' := [(6, _), (0, _), (1, _), (2, _), (3, _), (4, _), (5, _)]) C dX8_pledge_51 (by decide) rfl rfl ?_
        refine aw_aload C dX8_pledge_53 rfl rfl ?_
        refine aw_getf C f_X8_364 (hS.En he1) rfl dX8_pledge_55 rfl ?_
        refine aw_iconst (v := 2) C dX8_pledge_58 rfl rfl ?_
        refine aw_icmp_ne (tgt := 86) C dX8_pledge_59 (by decide) rfl (fun c59 => ?_) (fun c59 => ?_)
        · refine aw_iinc (v' := nI (e + 1)) (ls' := [(5, _), (6, _), (0, _), (1, _), (2, _), (3, _), (4, _)]) C dX8_pledge_86 rfl (by decide) (nI_1 e) rfl rfl ?_
          refine aw_goto (tgt := 27) C dX8_pledge_89 (by decide) ?_
          refine aw_pick (ls' := [(0, _), (1, _), (2, _), (3, _), (4, _), (5, _)]) [2, 3, 4, 5, 6, 0] rfl ?_
          exact ih (e + 1) k (by omega) (by omega) hk (by omega) (by rw [plg, if_pos he1, if_neg (fun z => c59 z.1)] at hT; exact hT)
        · refine aw_aload C dX8_pledge_62 rfl rfl ?_
          refine aw_getf C f_X8_368 (hS.En he1) rfl dX8_pledge_64 rfl ?_
          rw [g38]
          refine aw_aload_n C dX8_pledge_67 rfl rfl rfl ?_
          refine aw_acmp_ne (rx := some (ad 8 s)) (ry := some (ad 8 t)) (tgt := 86) C dX8_pledge_68 (by decide) rfl (fun c68 => ?_) (fun c68 => ?_)
          · refine aw_iinc (v' := nI (e + 1)) (ls' := [(5, _), (6, _), (0, _), (1, _), (2, _), (3, _), (4, _)]) C dX8_pledge_86 rfl (by decide) (nI_1 e) rfl rfl ?_
            refine aw_goto (tgt := 27) C dX8_pledge_89 (by decide) ?_
            refine aw_pick (ls' := [(0, _), (1, _), (2, _), (3, _), (4, _), (5, _)]) [2, 3, 4, 5, 6, 0] rfl ?_
            exact ih (e + 1) k (by omega) (by omega) hk (by omega) (by rw [plg, if_pos he1, if_neg (fun z2 => (fun z => c68 ((hS.tj hs ht).mpr ((nI_eq (by omega) (by omega)).mp (by rw [← e38]; exact z)))) z2.2)] at hT; exact hT)
          · refine aw_iload C dX8_pledge_71 rfl rfl ?_
            refine aw_iload_n C dX8_pledge_73 rfl rfl rfl ?_
            refine aw_icmp_ne (tgt := 83) C dX8_pledge_74 (by decide) rfl (fun c74 => ?_) (fun c74 => ?_)
            · refine aw_iinc (v' := nI (k + 1)) (ls' := [(4, _), (6, _), (0, _), (1, _), (2, _), (3, _), (5, _)]) C dX8_pledge_83 rfl (by decide) (nI_1 k) rfl rfl ?_
              refine aw_iinc (v' := nI (e + 1)) (ls' := [(5, _), (4, _), (6, _), (0, _), (1, _), (2, _), (3, _)]) C dX8_pledge_86 rfl (by decide) (nI_1 e) rfl rfl ?_
              refine aw_goto (tgt := 27) C dX8_pledge_89 (by decide) ?_
              refine aw_pick (ls' := [(0, _), (1, _), (2, _), (3, _), (4, _), (5, _)]) [3, 4, 5, 6, 1, 0] rfl ?_
              exact ih (e + 1) (k + 1) (by omega) (by omega) (by have := mt (nI_eq (a := k) (b := f) (by omega) hf).mpr c74; omega) (by omega) (by rw [plg, if_pos he1, if_pos ⟨c59, (by rw [e38, (hS.tj hs ht).mp c68])⟩, if_neg (by have := mt (nI_eq (a := k) (b := f) (by omega) hf).mpr c74; omega)] at hT; rw [show f - (k + 1) = f - k - 1 by omega]; exact hT)
            · refine aw_aload C dX8_pledge_77 rfl rfl ?_
              refine aw_getf C f_X8_365 (hS.En he1) rfl dX8_pledge_79 rfl ?_
              exact aw_iret C rfl (Nat.le_of_ble_eq_true rfl) (Nat.le_of_ble_eq_true rfl) (OPost.of (by rw [opPledge, if_neg hno, nI_clamp hf, ← hT, plg, if_pos he1, if_pos ⟨c59, (by rw [e38, (hS.tj hs ht).mp c68])⟩, if_pos (by have := (nI_eq (by omega) hf).mp c74; omega)]) (CR.rf hS)) dX8_pledge_82
  refine aw_aload_n C dX8_pledge_0 rfl rfl rfl ?_
  refine aw_iload_n C dX8_pledge_1 rfl rfl rfl ?_
  refine aw_callV C k_X8_121 (C_thingAt G hS hI (v := v)) ⟨by decide, by decide⟩ (ci := 10) rfl hS.O rfl rfl (Nat.le_of_ble_eq_true rfl) (Nat.le_of_ble_eq_true rfl) (Nat.le_of_ble_eq_true rfl) dX8_pledge_2 rfl (fun E s1 hx => ?_) (fun v1 s1 hq => ?_)
  · obtain ⟨rfl, hx, rfl⟩ := hx
    exact ax_out C hout (Nat.le_of_ble_eq_true rfl) (Nat.le_of_ble_eq_true rfl) (OX.of (c := 1) (r := 0) (w := u) (by rw [opPledge, if_pos (Or.inl hx)]) (by decide) rfl (CR.rf hS))
  obtain ⟨t, ht, rfl, rfl, rfl⟩ := hq
  have et := isTh_in hI.W ht
  have kt : (nI t).toNatClampNeg = t := nI_clamp (by have := hI.n31; omega)
  refine aw_astore_n (ls' := [(3, _), (0, _), (1, _), (2, _)]) C dX8_pledge_5 rfl (by decide) rfl rfl ?_
  refine aw_iload_n C dX8_pledge_6 rfl rfl rfl ?_
  refine aw_if_ge (tgt := 21) C dX8_pledge_7 (by decide) rfl (fun c7 => ?_) (fun c7 => ?_)
  · refine aw_iconst (v := 0) C dX8_pledge_21 rfl rfl ?_
    refine aw_istore (ls' := [(4, _), (3, _), (0, _), (1, _), (2, _)]) C dX8_pledge_22 (by decide) rfl rfl ?_
    refine aw_iconst (v := 0) C dX8_pledge_24 rfl rfl ?_
    refine aw_istore (ls' := [(5, _), (4, _), (3, _), (0, _), (1, _), (2, _)]) C dX8_pledge_25 (by decide) rfl rfl ?_
    refine aw_pick (ls' := [(0, _), (1, _), (2, _), (3, _), (4, _), (5, _)]) [3, 4, 5, 2, 1, 0] rfl ?_
    obtain ⟨f, hf, rfl⟩ := nI_of (x := w) (by rw [Int32.lt_iff_toInt_lt]; rw [Int32.le_iff_toInt_le] at c7; omega)
    exact loop t f ht hf 101 0 0 (by omega) (by omega) (by omega) (by omega) rfl
  · exact aw_thrW C G thB 33 rfl dX8_pledge_10 dX8_pledge_13 dX8_pledge_14 dX8_pledge_17 dX8_pledge_20 hout ⟨by decide, (Nat.le_of_ble_eq_true rfl)⟩ (Nat.le_of_ble_eq_true rfl) (Nat.le_of_ble_eq_true rfl) (OX.of (c := 1) (r := 0) (w := u) (by rw [opPledge, if_pos (Or.inr (by rw [Int32.lt_iff_toInt_lt]; rw [Int32.le_iff_toInt_le] at c7; omega))]) (by decide) rfl (CR.rf hS)) (Nat.le_of_ble_eq_true rfl) (Nat.le_of_ble_eq_true rfl)