/-! the class: child, close, witness, sign -/
theorem WPa.up {u : MU} (h : WPa u) {p q m : Nat} (hq : q < 12) (hp : p < 12) (hm : m ≤ 1) (e : u.1 8 q = nI m) (hc : isCh u q (nI p) = false) : WPa (upPar u q (nI p)) := by
  intro r hr
  have e7 : ∀ j, (upPar u q (nI p)).1 7 j = if j = 2 * q + m then nI p else u.1 7 j := fun j => by
    unfold upPar
    rw [uI_ne (by omega), e, nI_clamp (by omega)]
    by_cases h : j = 2 * q + m
    · rw [if_pos h, h, uI_at]
    · rw [if_neg h, uI_ne (by omega)]
  by_cases hrq : r = q
  · subst hrq
    obtain ⟨m', hm', e', h1, h2⟩ := h r hr
    have : m' = m := (nI_eq (by omega) (by omega)).mp (e'.symm.trans e)
    subst this
    refine ⟨m' + 1, by omega, by unfold upPar; rw [uI_at, e, nI_1], fun k hk => ?_, fun hz => ?_⟩
    · rw [e7]
      by_cases hk2 : k = m'
      · rw [if_pos (by omega)]; exact ⟨p, hp, rfl⟩
      · rw [if_neg (by omega)]; exact h1 k (by omega)
    · have hm1 : m' = 1 := by omega
      subst hm1
      rw [e7, e7, if_neg (by omega), if_pos rfl]
      intro z
      rw [isCh, e, nI_clamp (by decide), isChN, isChN] at hc
      simp only [Bool.false_or, decide_eq_false_iff_not] at hc
      exact hc (by rw [← z]; rfl)
  · obtain ⟨m', hm', e', h1, h2⟩ := h r hr
    refine ⟨m', hm', ?_, fun k hk => ?_, fun hz => ?_⟩
    · unfold upPar
      rw [uI_ne (by omega), uI_ne (by omega)]
      exact e'
    · rw [e7, if_neg (by omega)]; exact h1 k hk
    · rw [e7, e7, if_neg (by omega), if_neg (by omega)]; exact h2 hz
set_option maxRecDepth 100000 in
theorem F_child {g : Gx} {l : Launch} {ez : Nat} (G : GOK g l ez) {sg : Sg} {ad : Nat → Nat → Nat} {u : MU} {Y : GS} (hS : CS g ez ad u Y sg) {N : Nat} (hI : CI N u) {v w : Int32} : MM g l yX8_child cX8_child 5 (some .int) (rmC 9 8 60) sg [.ref (ad 0 0), .int v, .int w] (OPost g ez ad u Y sg (opChild u v w)) (OX g ez ad u Y sg x3 (opChild u v w)) := by
  refine MM.of G.1 G.2.1 (by decide) (Nat.le_of_ble_eq_true rfl) (fun x hg hlx C hin hout hargs => ?_)
  subst hg; subst hlx
  have C : AWC x cX8_child 5 RX8 (rmC 9 8 60) (some .int) := C
  show AW x (RQ x _ _ _ _) 0 0 sg 0 [(0, .ref (ad 0 0)), (1, .int v), (2, .int w)] []
  refine aw_aload_n C dX8_child_0 rfl rfl rfl ?_
  refine aw_iload_n C dX8_child_1 rfl rfl rfl ?_
  refine aw_callV C k_X8_71 (C_personAt G hS hI (v := v)) ⟨by decide, by decide⟩ (ci := 10) rfl hS.O rfl rfl (Nat.le_of_ble_eq_true rfl) (Nat.le_of_ble_eq_true rfl) (Nat.le_of_ble_eq_true rfl) dX8_child_2 rfl (fun E s1 hx => ?_) (fun v1 s1 hq => ?_)
  · obtain ⟨rfl, hx, rfl⟩ := hx
    exact ax_out C hout (Nat.le_of_ble_eq_true rfl) (Nat.le_of_ble_eq_true rfl) (OX.of (c := 1) (r := 0) (w := u) (by rw [opChild, if_pos (Or.inl hx)]) (by decide) rfl (CR.rf hS))
  obtain ⟨p, hp, rfl, rfl, rfl⟩ := hq
  have ep := isP_in hI.W hp
  have kp : (nI p).toNatClampNeg = p := nI_clamp (by have := hI.n2; omega)
  refine aw_astore_n (ls' := [(3, _), (0, _), (1, _), (2, _)]) C dX8_child_5 rfl (by decide) rfl rfl ?_
  refine aw_aload_n C dX8_child_6 rfl rfl rfl ?_
  refine aw_iload_n C dX8_child_7 rfl rfl rfl ?_
  refine aw_callV C k_X8_71 (C_personAt G hS hI (v := w)) ⟨by decide, by decide⟩ (ci := 10) rfl hS.O rfl rfl (Nat.le_of_ble_eq_true rfl) (Nat.le_of_ble_eq_true rfl) (Nat.le_of_ble_eq_true rfl) dX8_child_8 rfl (fun E s1 hx => ?_) (fun v1 s1 hq => ?_)
  · obtain ⟨rfl, hx, rfl⟩ := hx
    exact ax_out C hout (Nat.le_of_ble_eq_true rfl) (Nat.le_of_ble_eq_true rfl) (OX.of (c := 1) (r := 0) (w := u) (by rw [opChild, if_pos (Or.inr hx)]) (by decide) rfl (CR.rf hS))
  obtain ⟨q, hq, rfl, rfl, rfl⟩ := hq
  have eq := isP_in hI.W hq
  have kq : (nI q).toNatClampNeg = q := nI_clamp (by have := hI.n2; omega)
  refine aw_astore (ls' := [(4, _), (3, _), (0, _), (1, _), (2, _)]) C dX8_child_11 (by decide) rfl rfl ?_
  refine aw_iload_n C dX8_child_13 rfl rfl rfl ?_
  refine aw_iload_n C dX8_child_14 rfl rfl rfl ?_
  refine aw_icmp_gt (tgt := 28) C dX8_child_15 (by decide) rfl (fun c15 => ?_) (fun c15 => ?_)
  · have h12 := hI.n2
    have hle : ¬ nI q ≤ nI p := Int32.not_le.mpr c15
    obtain ⟨m, hm2, em⟩ := hI.P q (by omega)
    refine aw_aload C dX8_child_28 rfl rfl ?_
    refine cw_callVNp C k_X8_77 (C_parentCount G hS hI.W hI.Pa hq) ⟨by decide, by decide⟩ (ci := 7) rfl (hS.P hq) rfl rfl (Nat.le_of_ble_eq_true rfl) (Nat.le_of_ble_eq_true rfl) (Nat.le_of_ble_eq_true rfl) dX8_child_30 rfl ?_
    refine aw_iconst (v := 2) C dX8_child_33 rfl rfl ?_
    refine aw_icmp_ge (tgt := 46) C dX8_child_34 (by decide) rfl (fun c34 => ?_) (fun c34 => ?_)
    · exact aw_thr C G thS 4 rfl dX8_child_46 dX8_child_49 dX8_child_50 dX8_child_52 dX8_child_55 hout ⟨by decide, (Nat.le_of_ble_eq_true rfl)⟩ (Nat.le_of_ble_eq_true rfl) (Nat.le_of_ble_eq_true rfl) (OX.of (c := 3) (r := 0) (w := u) (by rw [opChild, if_neg (by simp [ep, eq]), if_neg hle, kq, kp, if_pos (Or.inl (by rw [em]; rw [em] at c34; have := (nI_leI (a := 2) (b := m) (by decide) (by omega)).mp c34; rw [show m = 2 by omega]; rfl))]) (by decide) rfl (CR.rf hS)) (Nat.le_of_ble_eq_true rfl) (Nat.le_of_ble_eq_true rfl)
    · have hm : m ≤ 1 := by rw [em] at c34; have := (nI_ltI (a := m) (b := 2) (by omega) (by decide)).mp (Int32.not_le.mp c34); omega
      refine aw_aload C dX8_child_37 rfl rfl ?_
      refine aw_aload_n C dX8_child_39 rfl rfl rfl ?_
      refine cw_callVNp C k_X8_80 (C_isChildOf G hS hI.W hI.Pa hq hp) ⟨by decide, by decide⟩ (ci := 7) rfl (hS.P hq) rfl rfl (Nat.le_of_ble_eq_true rfl) (Nat.le_of_ble_eq_true rfl) (Nat.le_of_ble_eq_true rfl) dX8_child_40 rfl ?_
      refine aw_if_eq (tgt := 56) C dX8_child_43 (by decide) rfl (fun c43 => ?_) (fun c43 => ?_)
      · have c43 := fa_of c43
        refine aw_aload_n C dX8_child_56 rfl rfl rfl ?_
        refine aw_aload C dX8_child_57 rfl rfl ?_
        refine aw_callS C k_X8_86 (C_refuseDead G hS hI hp hq) ⟨by decide, by decide⟩ rfl rfl (Nat.le_of_ble_eq_true rfl) (Nat.le_of_ble_eq_true rfl) (Nat.le_of_ble_eq_true rfl) dX8_child_59 rfl (fun E s1 hx => ?_) (fun v1 s1 hq_ => ?_)
        · obtain ⟨rfl, hx, rfl⟩ := hx
          exact ax_out C hout (Nat.le_of_ble_eq_true rfl) (Nat.le_of_ble_eq_true rfl) (OX.of (c := 3) (r := 0) (w := u) (by rw [opChild, if_neg (by simp [ep, eq]), if_neg hle, kq, kp, if_pos (Or.inr (Or.inr (by by_cases z : u.1 6 q = 0; exact Or.inr (fun y => hx ⟨y, z⟩); exact Or.inl z)))]) (by decide) rfl (CR.rf hS))
        obtain ⟨rfl, h6p, h6q, rfl⟩ := hq_
        refine aw_aload C dX8_child_62 rfl rfl ?_
        refine aw_aload_n C dX8_child_64 rfl rfl rfl ?_
        refine aw_callVN C k_X8_90 (C_addParent G hS hI.W hI.P hm em hq hp) ⟨by decide, by decide⟩ (ci := 7) rfl (hS.P hq) rfl rfl (Nat.le_of_ble_eq_true rfl) (Nat.le_of_ble_eq_true rfl) (Nat.le_of_ble_eq_true rfl) dX8_child_65 rfl (fun E s1 hx => ?_) (fun v1 s1 hq_ => ?_)
        · exact ax_no hx
        obtain ⟨rfl, hS1, hF1⟩ := hq_
        refine aw_aload C dX8_child_68 rfl rfl ?_
        refine cw_callVNp C k_X8_77 (C_parentCount G hS1 hI.W (hI.Pa.up (by omega) (by omega) hm em c43) hq) ⟨by decide, by decide⟩ (ci := 7) rfl (hS1.P hq) rfl rfl (Nat.le_of_ble_eq_true rfl) (Nat.le_of_ble_eq_true rfl) (Nat.le_of_ble_eq_true rfl) dX8_child_70 rfl ?_
        exact aw_iret C rfl (Nat.le_of_ble_eq_true rfl) (Nat.le_of_ble_eq_true rfl) (OPost.of (by rw [opChild, if_neg (by simp [ep, eq]), if_neg hle, kq, kp, if_neg (by rintro (z | z | z | z); rw [em] at z; exact absurd ((nI_eq (b := 2) (by omega) (by decide)).mp z) (by omega); rw [c43] at z; cases z; exact z h6q; exact z h6p)]; unfold upPar; rw [uI_at]) (CR.ps hS1 hF1 ⟨rfl, rfl, rfl, rfl, rfl⟩ rfl rfl)) dX8_child_73
      · have c43 := tr_of c43
        exact aw_thr C G thS 4 rfl dX8_child_46 dX8_child_49 dX8_child_50 dX8_child_52 dX8_child_55 hout ⟨by decide, (Nat.le_of_ble_eq_true rfl)⟩ (Nat.le_of_ble_eq_true rfl) (Nat.le_of_ble_eq_true rfl) (OX.of (c := 3) (r := 0) (w := u) (by rw [opChild, if_neg (by simp [ep, eq]), if_neg hle, kq, kp, if_pos (Or.inr (Or.inl (by rw [c43])))]) (by decide) rfl (CR.rf hS)) (Nat.le_of_ble_eq_true rfl) (Nat.le_of_ble_eq_true rfl)
  · exact aw_thr C G thA 3 rfl dX8_child_18 dX8_child_21 dX8_child_22 dX8_child_24 dX8_child_27 hout ⟨by decide, (Nat.le_of_ble_eq_true rfl)⟩ (Nat.le_of_ble_eq_true rfl) (Nat.le_of_ble_eq_true rfl) (OX.of (c := 2) (r := 0) (w := u) (by rw [opChild, if_neg (by simp [ep, eq]), if_pos (Int32.not_lt.mp c15)]) (by decide) rfl (CR.rf hS)) (Nat.le_of_ble_eq_true rfl) (Nat.le_of_ble_eq_true rfl)
theorem uI_same {u : MU} {r i : Nat} {v : Int32} (h : u.1 r i = v) : uI u r i v = u := by
  unfold uI
  refine Prod.ext (funext fun a => ?_) rfl
  dsimp only
  by_cases e : a = r
  · subst e
    rw [if_pos rfl]
    funext j
    unfold upd
    by_cases ej : j = i
    · rw [if_pos ej, ej, h]
    · rw [if_neg ej]
  · rw [if_neg e]
set_option maxRecDepth 100000 in
set_option maxHeartbeats 1000000 in
theorem F_close {g : Gx} {l : Launch} {ez : Nat} (G : GOK g l ez) {sg : Sg} {ad : Nat → Nat → Nat} {u : MU} {Y : GS} (hS : CS g ez ad u Y sg) {N : Nat} (hI : CI N u) {v : Int32} : MM g l yX8_close cX8_close 3 (some .int) (rmC 9 8 60) sg [.ref (ad 0 0), .int v] (OPost g ez ad u Y sg (opClose u v)) (OX g ez ad u Y sg x2s (opClose u v)) := by
  refine MM.of G.1 G.2.1 (by decide) (Nat.le_of_ble_eq_true rfl) (fun x hg hlx C hin hout hargs => ?_)
  subst hg; subst hlx
  have C : AWC x cX8_close 3 RX8 (rmC 9 8 60) (some .int) := C
  show AW x (RQ x _ _ _ _) 0 0 sg 0 [(0, .ref (ad 0 0)), (1, .int v)] []
  refine aw_aload_n C dX8_close_0 rfl rfl rfl ?_
  refine aw_iload_n C dX8_close_1 rfl rfl rfl ?_
  refine aw_callV C k_X8_159 (C_deedAt G hS hI (v := v)) ⟨by decide, by decide⟩ (ci := 10) rfl hS.O rfl rfl (Nat.le_of_ble_eq_true rfl) (Nat.le_of_ble_eq_true rfl) (Nat.le_of_ble_eq_true rfl) dX8_close_2 rfl (fun E s1 hx => ?_) (fun v1 s1 hq => ?_)
  · obtain ⟨rfl, hx, rfl⟩ := hx
    exact ax_out C hout (Nat.le_of_ble_eq_true rfl) (Nat.le_of_ble_eq_true rfl) (OX.of (c := 1) (r := 0) (w := u) (by simp [opClose, hx]) (by decide) rfl (CR.rf hS))
  obtain ⟨d, hd, rfl, rfl, rfl⟩ := hq
  have ed := isDd_in hI.W hd
  have kd : (nI d).toNatClampNeg = d := nI_clamp (by have := hI.n10; omega)
  refine aw_astore_n (ls' := [(2, _), (0, _), (1, _)]) C dX8_close_5 rfl (by decide) rfl rfl ?_
  refine aw_aload_n C dX8_close_6 rfl rfl rfl ?_
  refine cw_callVNp C k_X8_186 (C_isClosed G hS hd) ⟨by decide, by decide⟩ (ci := 2) rfl (hS.D hd) rfl rfl (Nat.le_of_ble_eq_true rfl) (Nat.le_of_ble_eq_true rfl) (Nat.le_of_ble_eq_true rfl) dX8_close_7 rfl ?_
  refine aw_if_eq (tgt := 23) C dX8_close_10 (by decide) rfl (fun c10 => ?_) (fun c10 => ?_)
  · have c10 := fa_of c10
    have h22 : u.1 22 d = 0 := by simpa using c10
    obtain ⟨⟨a, ha, ea⟩, b, hb, eb⟩ := hI.gt hd
    have h12 := hI.n2
    have ga : (u.1 12 d).toNatClampNeg = a := by rw [ea, nI_clamp (by omega)]
    have gb : (u.1 13 d).toNatClampNeg = b := by rw [eb, nI_clamp (by omega)]
    refine aw_aload_n C dX8_close_23 rfl rfl rfl ?_
    refine aw_getf C f_X8_206 (hS.D hd) rfl dX8_close_24 rfl ?_
    rw [ga]
    refine aw_aload_n C dX8_close_27 rfl rfl rfl ?_
    refine aw_getf C f_X8_209 (hS.D hd) rfl dX8_close_28 rfl ?_
    rw [gb]
    refine aw_callS C k_X8_86 (C_refuseDead G hS hI ha hb) ⟨by decide, by decide⟩ rfl rfl (Nat.le_of_ble_eq_true rfl) (Nat.le_of_ble_eq_true rfl) (Nat.le_of_ble_eq_true rfl) dX8_close_31 rfl (fun E s1 hx => ?_) (fun v1 s1 hq => ?_)
    · obtain ⟨rfl, hx, rfl⟩ := hx
      exact ax_out C hout (Nat.le_of_ble_eq_true rfl) (Nat.le_of_ble_eq_true rfl) (OX.of (c := 2) (r := 0) (w := u) (by rw [opClose, if_neg (by simp [ed]), kd, ga, gb, if_pos (Or.inr (by by_cases z : u.1 6 a = 0; exact Or.inr (fun y => hx ⟨z, y⟩); exact Or.inl z))]) (by decide) rfl (CR.rf hS))
    obtain ⟨rfl, h6a, h6b, rfl⟩ := hq
    have hd60 : d < 60 := by have := hI.n10; omega
    have h30 := hI.I.h30 hd60 h22
    obtain ⟨f29, f23, f28⟩ := hI.F d hd60 h22
    have hW1 : WN (uN u 30 (u.2.2.1 30 + 1)) := ⟨hI.W.1, hI.W.2.1, by show u.2.2.1 30 + 1 ≤ 60; omega, hI.W.2.2.2.1, hI.W.2.2.2.2⟩
    have hJ3 : CJ (uI (uI (uN u 30 (u.2.2.1 30 + 1)) 23 d (nI (u.2.2.1 30 + 1))) 24 d u.2.2.2.1) := hI.j
    have eSt : stateBy (uI (uI (uN u 30 (u.2.2.1 30 + 1)) 23 d (nI (u.2.2.1 30 + 1))) 24 d u.2.2.2.1) d = stateBy u d := rfl
    have h29 : (uI (uI (uI (uN u 30 (u.2.2.1 30 + 1)) 23 d (nI (u.2.2.1 30 + 1))) 24 d u.2.2.2.1) 22 d (stateBy u d)).1 29 d = nI 0 := f29
    have eU5 : (uI (uI (uI (uI (uI (uN u 30 (u.2.2.1 30 + 1)) 23 d (nI (u.2.2.1 30 + 1))) 24 d u.2.2.2.1) 22 d (stateBy u d)) 28 (4 * d + 0) 0) 29 d (nI (0 + 1))) = (uI (uI (uI (uN (uI u 22 d (stateBy u d)) 30 (u.2.2.1 30 + 1)) 23 d (nI (u.2.2.1 30 + 1))) 24 d u.2.2.2.1) 29 d 1) := by
      rw [uI_same (show (uI (uI (uI (uN u 30 (u.2.2.1 30 + 1)) 23 d (nI (u.2.2.1 30 + 1))) 24 d u.2.2.2.1) 22 d (stateBy u d)).1 28 (4 * d + 0) = 0 from f28 0 (by decide))]
      rw [uI_comm (u := (uI (uN u 30 (u.2.2.1 30 + 1)) 23 d (nI (u.2.2.1 30 + 1)))) (r := 24) (r2 := 22) (by decide), uI_comm (u := (uN u 30 (u.2.2.1 30 + 1))) (r := 23) (r2 := 22) (by decide)]
      rfl
    refine aw_aload_n C dX8_close_34 rfl rfl rfl ?_
    refine aw_dup C dX8_close_35 rfl rfl ?_
    refine aw_getf C f_X8_36 hS.O rfl dX8_close_36 rfl ?_
    refine aw_iconst (v := 1) C dX8_close_39 rfl rfl ?_
    refine aw_iadd C dX8_close_40 rfl ?_
    rw [nI_1]
    refine cw_put (uN u 30 (u.2.2.1 30 + 1)) C hS CFr.rf ⟨rfl, rfl, rfl, rfl, rfl⟩ f_X8_36 rfl cel_0 rfl (cel_o0 cel_uN30) rfl rfl rfl (Nat.le_of_ble_eq_true rfl) dX8_close_41 rfl (fun s1 hS1 hF1 => ?_)
    refine aw_aload_n C dX8_close_44 rfl rfl rfl ?_
    refine aw_aload_n C dX8_close_45 rfl rfl rfl ?_
    refine aw_getf C f_X8_36 hS1.O rfl dX8_close_46 rfl ?_
    refine cw_put (uI (uN u 30 (u.2.2.1 30 + 1)) 23 d (nI (u.2.2.1 30 + 1))) C hS1 hF1 ⟨rfl, rfl, rfl, rfl, rfl⟩ f_X8_212 rfl (cel_4 hd) (by rw [cel_4 (u := (uI (uN u 30 (u.2.2.1 30 + 1)) 23 d (nI (u.2.2.1 30 + 1)))) hd, dset23] <;> rfl) (cel_u4 (u := (uN u 30 (u.2.2.1 30 + 1))) hI.P hW1 rfl (by decide) rfl) rfl rfl rfl (Nat.le_of_ble_eq_true rfl) dX8_close_49 rfl (fun s2 hS2 hF2 => ?_)
    refine aw_aload_n C dX8_close_52 rfl rfl rfl ?_
    refine aw_aload_n C dX8_close_53 rfl rfl rfl ?_
    refine aw_getf C f_X8_32 hS2.O rfl dX8_close_54 rfl ?_
    refine cw_put (uI (uI (uN u 30 (u.2.2.1 30 + 1)) 23 d (nI (u.2.2.1 30 + 1))) 24 d u.2.2.2.1) C hS2 hF2 ⟨rfl, rfl, rfl, rfl, rfl⟩ f_X8_215 rfl (cel_4 hd) (by rw [cel_4 (u := (uI (uI (uN u 30 (u.2.2.1 30 + 1)) 23 d (nI (u.2.2.1 30 + 1))) 24 d u.2.2.2.1)) hd, dset24] <;> rfl) (cel_u4 (u := (uI (uN u 30 (u.2.2.1 30 + 1)) 23 d (nI (u.2.2.1 30 + 1)))) (hI.P.u (by decide)) hW1 rfl (by decide) rfl) rfl rfl rfl (Nat.le_of_ble_eq_true rfl) dX8_close_57 rfl (fun s3 hS3 hF3 => ?_)
    refine aw_aload_n C dX8_close_60 rfl rfl rfl ?_
    refine aw_aload_n C dX8_close_61 rfl rfl rfl ?_
    refine cw_callSp C k_X8_218 (C_stateBy G hS3 hJ3 hd) ⟨by decide, by decide⟩ rfl rfl (Nat.le_of_ble_eq_true rfl) (Nat.le_of_ble_eq_true rfl) (Nat.le_of_ble_eq_true rfl) dX8_close_62 rfl ?_
    rw [show stateBy (uI (uI (uN u 30 (u.2.2.1 30 + 1)) 23 d (nI (u.2.2.1 30 + 1))) 24 d u.2.2.2.1) d = stateBy u d from eSt]
    refine cw_put (uI (uI (uI (uN u 30 (u.2.2.1 30 + 1)) 23 d (nI (u.2.2.1 30 + 1))) 24 d u.2.2.2.1) 22 d (stateBy u d)) C hS3 hF3 ⟨rfl, rfl, rfl, rfl, rfl⟩ f_X8_221 rfl (cel_4 hd) (by rw [cel_4 (u := (uI (uI (uI (uN u 30 (u.2.2.1 30 + 1)) 23 d (nI (u.2.2.1 30 + 1))) 24 d u.2.2.2.1) 22 d (stateBy u d))) hd, dset22] <;> rfl) (cel_u4 (u := (uI (uI (uN u 30 (u.2.2.1 30 + 1)) 23 d (nI (u.2.2.1 30 + 1))) 24 d u.2.2.2.1)) ((hI.P.u (by decide)).u (by decide)) hW1 rfl (by decide) rfl) rfl rfl rfl (Nat.le_of_ble_eq_true rfl) dX8_close_65 rfl (fun s4 hS4 hF4 => ?_)
    refine aw_aload_n C dX8_close_68 rfl rfl rfl ?_
    refine aw_getf C f_X8_224 (hS4.D hd) rfl dX8_close_69 rfl ?_
    refine aw_iconst (v := 0) C dX8_close_72 rfl rfl ?_
    refine aw_callVN C k_X8_228 (C_append G hS4 hW1 (((hI.P.u (by decide)).u (by decide)).u (by decide)) hd (m := 0) (by decide) h29) ⟨by decide, by decide⟩ (ci := 6) rfl (hS4.Pp hd) rfl rfl (Nat.le_of_ble_eq_true rfl) (Nat.le_of_ble_eq_true rfl) (Nat.le_of_ble_eq_true rfl) dX8_close_73 rfl (fun E s1 hx => ?_) (fun v1 s1 hq => ?_)
    · exact ax_no hx
    obtain ⟨rfl, hS5, hF5⟩ := hq
    have hF6 := hF4.tr hF5 (fun k i => SN.ne (show SN (uI (uI (uI (uN u 30 (u.2.2.1 30 + 1)) 23 d (nI (u.2.2.1 30 + 1))) 24 d u.2.2.2.1) 22 d (stateBy u d)) u from ⟨rfl, rfl, rfl, rfl, rfl⟩))
    refine aw_aload_n C dX8_close_76 rfl rfl rfl ?_
    refine aw_getf C f_X8_221 (hS5.D hd) rfl dX8_close_77 rfl ?_
    rw [show (uI (uI (uI (uI (uI (uN u 30 (u.2.2.1 30 + 1)) 23 d (nI (u.2.2.1 30 + 1))) 24 d u.2.2.2.1) 22 d (stateBy u d)) 28 (4 * d + 0) 0) 29 d (nI (0 + 1))).1 22 d = stateBy u d from by rw [uI_ne (by omega), uI_ne (by omega), uI_at]]
    exact aw_iret C rfl (Nat.le_of_ble_eq_true rfl) (Nat.le_of_ble_eq_true rfl) (OPost.of (w := (uI (uI (uI (uN (uI u 22 d (stateBy u d)) 30 (u.2.2.1 30 + 1)) 23 d (nI (u.2.2.1 30 + 1))) 24 d u.2.2.2.1) 29 d 1)) (by rw [opClose, if_neg (by simp [ed]), kd, ga, gb, if_neg (by rintro (z | z | z); exact z h22; exact z h6a; exact z h6b)]) (CR.ps (by rw [eU5] at hS5; exact hS5) hF6 ⟨rfl, rfl, rfl, rfl, rfl⟩ rfl rfl)) dX8_close_80
  · have c10 := tr_of c10
    exact aw_thr C G thS 20 rfl dX8_close_13 dX8_close_16 dX8_close_17 dX8_close_19 dX8_close_22 hout ⟨by decide, (Nat.le_of_ble_eq_true rfl)⟩ (Nat.le_of_ble_eq_true rfl) (Nat.le_of_ble_eq_true rfl) (OX.of (c := 2) (r := 0) (w := u) (by rw [opClose, if_neg (by simp [ed]), kd, if_pos (Or.inl (by simpa using c10))]) (by decide) rfl (CR.rf hS)) (Nat.le_of_ble_eq_true rfl) (Nat.le_of_ble_eq_true rfl)
theorem wit_bit {m p : Nat} (hm : m < 4096) (h : p < 12) : (nI m >>> (nI p &&& 31)) &&& 1 = 1 ↔ m.testBit p = true := by
  have e : nI m >>> (nI p &&& 31) = nI (m / 2 ^ p) := pk_shrN (by omega) _ p (by
    match p, h with
    | 0, _ | 1, _ | 2, _ | 3, _ | 4, _ | 5, _ | 6, _ | 7, _ | 8, _ | 9, _ | 10, _ | 11, _ => decide
    | _ + 12, h => omega)
  rw [e, show (1 : Int32) = nI 1 from rfl, nI_and, Nat.and_one_is_mod, nI_eq (Nat.lt_of_lt_of_le (Nat.mod_lt _ (by decide)) (by decide)) (by decide)]
  rw [Nat.testBit_eq_decide_div_mod_eq]
  simp
theorem pcn_z {w : Nat} (h : w < 8192) : pcn w = 0 ↔ w = 0 := by
  constructor
  · intro z
    apply Nat.eq_of_testBit_eq
    intro i
    rw [Nat.zero_testBit]
    by_cases hi : i < 13
    · exact pcb_0 z i hi
    · exact Nat.testBit_lt_two_pow (Nat.lt_of_lt_of_le h (Nat.pow_le_pow_right (by decide : 0 < 2) (by omega : 13 ≤ i)))
  · intro z
    subst z
    decide +kernel
theorem wit_eq {u : MU} {d p w : Nat} (hw : u.1 21 d = nI w) (hw2 : w < 8192) (hp : p < 12) : upWit u d p w = uI (uI u 20 d (u.1 20 d ||| (if u.1 21 d = 0 then 0 else 8))) 21 d (u.1 21 d ||| (1 <<< (nI p &&& 31))) := by
  unfold upWit
  rw [hw, sh_one (by omega), nI_or]
  by_cases z : w = 0
  · have h0 : pcn w = 0 := (pcn_z hw2).mpr z
    rw [if_neg (fun q => q h0), if_pos (show nI w = 0 from by rw [z]; rfl)]
    rw [uI_same (show u.1 20 d = u.1 20 d ||| 0 from (Int32.or_zero).symm)]
  · rw [if_pos (fun q => z ((pcn_z hw2).mp q)), if_neg (show ¬ nI w = 0 from fun q => z ((nI_eq (b := 0) (by omega) (by decide)).mp q))]
    exact uI_comm (by decide)
set_option maxRecDepth 100000 in
theorem F_witness {g : Gx} {l : Launch} {ez : Nat} (G : GOK g l ez) {sg : Sg} {ad : Nat → Nat → Nat} {u : MU} {Y : GS} (hS : CS g ez ad u Y sg) {N : Nat} (hI : CI N u) {v w : Int32} : MM g l yX8_witness cX8_witness 5 (some .int) (rmC 9 8 60) sg [.ref (ad 0 0), .int v, .int w] (OPost g ez ad u Y sg (opWitness u v w)) (OX g ez ad u Y sg x2s (opWitness u v w)) := by
  refine MM.of G.1 G.2.1 (by decide) (Nat.le_of_ble_eq_true rfl) (fun x hg hlx C hin hout hargs => ?_)
  subst hg; subst hlx
  have C : AWC x cX8_witness 5 RX8 (rmC 9 8 60) (some .int) := C
  show AW x (RQ x _ _ _ _) 0 0 sg 0 [(0, .ref (ad 0 0)), (1, .int v), (2, .int w)] []
  refine aw_aload_n C dX8_witness_0 rfl rfl rfl ?_
  refine aw_iload_n C dX8_witness_1 rfl rfl rfl ?_
  refine aw_callV C k_X8_159 (C_deedAt G hS hI (v := v)) ⟨by decide, by decide⟩ (ci := 10) rfl hS.O rfl rfl (Nat.le_of_ble_eq_true rfl) (Nat.le_of_ble_eq_true rfl) (Nat.le_of_ble_eq_true rfl) dX8_witness_2 rfl (fun E s1 hx => ?_) (fun v1 s1 hq => ?_)
  · obtain ⟨rfl, hx, rfl⟩ := hx
    exact ax_out C hout (Nat.le_of_ble_eq_true rfl) (Nat.le_of_ble_eq_true rfl) (OX.of (c := 1) (r := 0) (w := u) (by rw [opWitness, if_pos (Or.inl hx)]) (by decide) rfl (CR.rf hS))
  obtain ⟨d, hd, rfl, rfl, rfl⟩ := hq
  have ed := isDd_in hI.W hd
  have kd : (nI d).toNatClampNeg = d := nI_clamp (by have := hI.n10; omega)
  refine aw_astore_n (ls' := [(3, _), (0, _), (1, _), (2, _)]) C dX8_witness_5 rfl (by decide) rfl rfl ?_
  refine aw_aload_n C dX8_witness_6 rfl rfl rfl ?_
  refine aw_iload_n C dX8_witness_7 rfl rfl rfl ?_
  refine aw_callV C k_X8_71 (C_personAt G hS hI (v := w)) ⟨by decide, by decide⟩ (ci := 10) rfl hS.O rfl rfl (Nat.le_of_ble_eq_true rfl) (Nat.le_of_ble_eq_true rfl) (Nat.le_of_ble_eq_true rfl) dX8_witness_8 rfl (fun E s1 hx => ?_) (fun v1 s1 hq => ?_)
  · obtain ⟨rfl, hx, rfl⟩ := hx
    exact ax_out C hout (Nat.le_of_ble_eq_true rfl) (Nat.le_of_ble_eq_true rfl) (OX.of (c := 1) (r := 0) (w := u) (by rw [opWitness, if_pos (Or.inr hx)]) (by decide) rfl (CR.rf hS))
  obtain ⟨p, hp, rfl, rfl, rfl⟩ := hq
  have ep := isP_in hI.W hp
  have kp : (nI p).toNatClampNeg = p := nI_clamp (by have := hI.n2; omega)
  refine aw_astore (ls' := [(4, _), (3, _), (0, _), (1, _), (2, _)]) C dX8_witness_11 (by decide) rfl rfl ?_
  have h12 := hI.n2
  obtain ⟨m, hm, em⟩ := hI.wi d
  have hwb : (u.1 21 d >>> (nI p &&& 31)) &&& 1 = 1 ↔ m.testBit p = true := by rw [em]; exact wit_bit hm (by omega)
  have hcan : (able u p && (!decide (nI p = u.1 12 d) && (!decide (nI p = u.1 13 d) && (!isKin u p (u.1 12 d).toNatClampNeg && !isKin u p (u.1 13 d).toNatClampNeg)))) = canW u p (u.1 12 d).toNatClampNeg (u.1 13 d).toNatClampNeg := by
    obtain ⟨⟨a, ha, ea⟩, b, hb, eb⟩ := hI.gt hd
    unfold canW
    rw [ea, eb, nI_clamp (by omega), nI_clamp (by omega), show decide (nI p = nI a) = decide (p = a) from decide_eq_decide.mpr (nI_eq (by omega) (by omega)), show decide (nI p = nI b) = decide (p = b) from decide_eq_decide.mpr (nI_eq (by omega) (by omega))]
  refine aw_aload_n C dX8_witness_13 rfl rfl rfl ?_
  refine cw_callVNp C k_X8_186 (C_isClosed G hS hd) ⟨by decide, by decide⟩ (ci := 2) rfl (hS.D hd) rfl rfl (Nat.le_of_ble_eq_true rfl) (Nat.le_of_ble_eq_true rfl) (Nat.le_of_ble_eq_true rfl) dX8_witness_14 rfl ?_
  refine aw_if_ne (tgt := 29) C dX8_witness_17 (by decide) rfl (fun c17 => ?_) (fun c17 => ?_)
  · have c17 := tr_of c17
    exact aw_thr C G thS 18 rfl dX8_witness_29 dX8_witness_32 dX8_witness_33 dX8_witness_35 dX8_witness_38 hout ⟨by decide, (Nat.le_of_ble_eq_true rfl)⟩ (Nat.le_of_ble_eq_true rfl) (Nat.le_of_ble_eq_true rfl) (OX.of (c := 2) (r := 0) (w := u) (by rw [opWitness, if_neg (by simp [ed, ep]), kd, kp, hcan, if_pos (Or.inl (by simpa using c17))]) (by decide) rfl (CR.rf hS)) (Nat.le_of_ble_eq_true rfl) (Nat.le_of_ble_eq_true rfl)
  · have c17 := fa_of c17
    refine aw_aload_n C dX8_witness_20 rfl rfl rfl ?_
    refine aw_aload C dX8_witness_21 rfl rfl ?_
    refine cw_callVNp C k_X8_190 (C_hasWitness G hS hd hp) ⟨by decide, by decide⟩ (ci := 2) rfl (hS.D hd) rfl rfl (Nat.le_of_ble_eq_true rfl) (Nat.le_of_ble_eq_true rfl) (Nat.le_of_ble_eq_true rfl) dX8_witness_23 rfl ?_
    refine aw_if_eq (tgt := 39) C dX8_witness_26 (by decide) rfl (fun c26 => ?_) (fun c26 => ?_)
    · have c26 := fa_of c26
      have h22 : u.1 22 d = 0 := by simpa using c17
      have hbit : m.testBit p = false := (bit_of (by omega) (by omega)).mp (by rw [← em]; simpa using c26)
      refine aw_aload_n C dX8_witness_39 rfl rfl rfl ?_
      refine aw_aload_n C dX8_witness_40 rfl rfl rfl ?_
      refine aw_aload C dX8_witness_41 rfl rfl ?_
      refine cw_callVp C k_X8_195 (C_canWitness G hS hI hd hp) ⟨by decide, by decide⟩ (ci := 10) rfl hS.O rfl rfl (Nat.le_of_ble_eq_true rfl) (Nat.le_of_ble_eq_true rfl) (Nat.le_of_ble_eq_true rfl) dX8_witness_43 rfl ?_
      refine aw_if_ne (tgt := 59) C dX8_witness_46 (by decide) rfl (fun c46 => ?_) (fun c46 => ?_)
      · have c46 := tr_of c46
        refine aw_aload_n C dX8_witness_59 rfl rfl rfl ?_
        refine aw_aload C dX8_witness_60 rfl rfl ?_
        refine aw_callVN C k_X8_201 (C_addWitness G hS hI.W hI.P hd hp em (by omega) hbit) ⟨by decide, by decide⟩ (ci := 2) rfl (hS.D hd) rfl rfl (Nat.le_of_ble_eq_true rfl) (Nat.le_of_ble_eq_true rfl) (Nat.le_of_ble_eq_true rfl) dX8_witness_62 rfl (fun E s1 hx => ?_) (fun v1 s1 hq => ?_)
        · exact ax_no hx
        obtain ⟨rfl, hS1, hF1⟩ := hq
        rw [wit_eq em (by omega) (by omega)] at hS1
        refine aw_aload_n C dX8_witness_65 rfl rfl rfl ?_
        refine aw_getf C f_X8_171 (hS1.D hd) rfl dX8_witness_66 rfl ?_
        exact aw_iret C rfl (Nat.le_of_ble_eq_true rfl) (Nat.le_of_ble_eq_true rfl) (OPost.of (by rw [opWitness, if_neg (by simp [ed, ep]), kd, kp, hcan, if_neg (by rintro (z | z | z); exact z h22; rw [hwb, hbit] at z; cases z; rw [c46] at z; cases z), uI_ne (by omega), uI_at]) (CR.ps hS1 hF1 ⟨rfl, rfl, rfl, rfl, rfl⟩ rfl rfl)) dX8_witness_69
      · have c46 := fa_of c46
        exact aw_thr C G thS 19 rfl dX8_witness_49 dX8_witness_52 dX8_witness_53 dX8_witness_55 dX8_witness_58 hout ⟨by decide, (Nat.le_of_ble_eq_true rfl)⟩ (Nat.le_of_ble_eq_true rfl) (Nat.le_of_ble_eq_true rfl) (OX.of (c := 2) (r := 0) (w := u) (by rw [opWitness, if_neg (by simp [ed, ep]), kd, kp, hcan, if_pos (Or.inr (Or.inr c46))]) (by decide) rfl (CR.rf hS)) (Nat.le_of_ble_eq_true rfl) (Nat.le_of_ble_eq_true rfl)
    · have c26 := tr_of c26
      exact aw_thr C G thS 18 rfl dX8_witness_29 dX8_witness_32 dX8_witness_33 dX8_witness_35 dX8_witness_38 hout ⟨by decide, (Nat.le_of_ble_eq_true rfl)⟩ (Nat.le_of_ble_eq_true rfl) (Nat.le_of_ble_eq_true rfl) (OX.of (c := 2) (r := 0) (w := u) (by rw [opWitness, if_neg (by simp [ed, ep]), kd, kp, hcan, if_pos (Or.inr (Or.inl (hwb.mpr (by rw [em] at c26; have h1 : ¬ nI m &&& ((1 : Int32) <<< (nI p &&& 31)) = 0 := (by simpa using c26); rw [bit_of (by omega) (by omega)] at h1; simpa using h1))))]) (by decide) rfl (CR.rf hS)) (Nat.le_of_ble_eq_true rfl) (Nat.le_of_ble_eq_true rfl)
