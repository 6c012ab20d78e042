/-! the shares of a thing: changes -/
/-- the end of a change of shares -/
def SHp (g : Gx) (sg : Sg) (so a b : Nat) (f : Nat → Rat) : Option Value → Sg → Prop := fun v s' => v = none ∧ SH g s' so a b f ∧ ∀ p, p ≠ a → p ≠ b → s' p = sg p
theorem SH.cg {g : Gx} {sg : Sg} {so a b : Nat} {f h : Nat → Rat} (H : SH g sg so a b f) (e : ∀ k, k < 13 → h k = f k) : SH g sg so a b h := by
  have e1 : clip 13 (0 : Int64) (fun k => lN (h k).num.toNat) = clip 13 0 (fun k => lN (f k).num.toNat) := funext fun k => by
    unfold clip
    by_cases hk : k < 13
    · rw [if_pos hk, if_pos hk]
      show lN (h k).num.toNat = lN (f k).num.toNat
      rw [e k hk]
    · rw [if_neg hk, if_neg hk]
  have e2 : clip 13 (0 : Int64) (fun k => lN (h k).den) = clip 13 0 (fun k => lN (f k).den) := funext fun k => by
    unfold clip
    by_cases hk : k < 13
    · rw [if_pos hk, if_pos hk]
      show lN (h k).den = lN (f k).den
      rw [e k hk]
    · rw [if_neg hk, if_neg hk]
  exact ⟨H.1, by rw [e1]; exact H.2.1, by rw [e2]; exact H.2.2.1, H.2.2.2.1, fun k hk => by rw [e k hk]; exact H.2.2.2.2 k hk⟩
set_option maxRecDepth 100000 in
theorem C_change {g : Gx} {l : Launch} {ez : Nat} (G : GOK g l ez) {sg : Sg} {so a b : Nat} {f : Nat → Rat} (hH : SH g sg so a b f) {k x0 m : Nat} {plus : Bool} (hk : k < 13) (hm : 0 < m) (hx : plus = false → x0 * (f k).den ≤ (f k).num.toNat * m) (hn : (f k).num.toNat ≤ 4 * (f k).den) (hxm : x0 ≤ m) (hL : (f k).den / Nat.gcd (f k).den m * m < 2 ^ 59) : MM g l yX6_change cX6_change 14 none (rmC 2 0 0) sg [.ref so, .int (nI k), .long (sI plus x0), .long (lN m)] (SHp g sg so a b (uf f k (f k + sq plus x0 m))) (noX) := by
  refine MM.of G.1 G.2.1 (by decide) (Nat.le_of_ble_eq_true rfl) (fun x hg hlx C hin hout hargs => ?_)
  subst hg; subst hlx
  have C : AWC x cX6_change 14 RX6 (rmC 2 0 0) none := C
  show AW x (RQ x _ _ _ _) 0 0 sg 0 [(0, .ref so), (1, .int (nI k)), (2, .long (sI plus x0)), (4, .long (lN m))] []
  have h0 := hH.2.2.2.2 k hk
  have hab := hH.2.2.2.1
  have hsa : so ≠ a := ob_ne hH.1 hH.2.1
  have hsb : so ≠ b := ob_ne hH.1 hH.2.2.1
  have hs2 : ∀ e, sgu sg a e so = some (ob 8 [.ref a, .ref b]) := fun e => (sgu_n hsa).trans hH.1
  obtain ⟨e1, hL0⟩ := dv_L (D := (f k).den) (f k).den_pos hm
  obtain ⟨d1, d2, hcp⟩ := dv_l (D := (f k).den) hm
  have hO := sq_ok (plus := plus) (x := x0) h0 hm hx
  have hT := sq_t (plus := plus) (x := x0) h0 hm hx
  have hDL : (f k).den ≤ (f k).den / Nat.gcd (f k).den m * m := by
    have q1 : 0 < m / Nat.gcd (f k).den m := Nat.pos_of_ne_zero fun z => by rw [z, Nat.mul_zero] at d2; omega
    rw [← e1]
    exact Nat.le_mul_of_pos_right _ q1
  have hmL : m ≤ (f k).den / Nat.gcd (f k).den m * m := Nat.le_mul_of_pos_left _ (Nat.pos_of_ne_zero fun z => by rw [z, Nat.mul_zero] at d1; have := (f k).den_pos; omega)
  have hD63 : (f k).den < 2 ^ 63 := by omega
  have hm63 : m < 2 ^ 63 := by omega
  have hcm : Nat.gcd (f k).den m ≤ m := Nat.gcd_le_right _ hm
  have hc63 : Nat.gcd (f k).den m < 2 ^ 63 := by omega
  have hc0 : ¬ lN (Nat.gcd (f k).den m) = 0 := fun e => by rw [show (0 : Int64) = lN 0 from rfl, pk_lEQ hc63 (by decide)] at e; omega
  have hUL : sU plus (f k).num.toNat x0 (f k).den m ≤ 5 * ((f k).den / Nat.gcd (f k).den m * m) := by
    have q1 : (f k).num.toNat * (m / Nat.gcd (f k).den m) ≤ 4 * (f k).den * (m / Nat.gcd (f k).den m) := Nat.mul_le_mul_right _ hn
    rw [Nat.mul_assoc, e1] at q1
    have q2 : x0 * ((f k).den / Nat.gcd (f k).den m) ≤ m * ((f k).den / Nat.gcd (f k).den m) := Nat.mul_le_mul_right _ hxm
    rw [Nat.mul_comm m] at q2
    unfold sU
    split <;> omega
  have hL63 : (f k).den / Nat.gcd (f k).den m * m < 2 ^ 63 := by omega
  have hU63 : sU plus (f k).num.toNat x0 (f k).den m < 2 ^ 63 := by omega
  have hgp : 0 < Nat.gcd (sU plus (f k).num.toNat x0 (f k).den m) ((f k).den / Nat.gcd (f k).den m * m) := Nat.gcd_pos_of_pos_right _ hL0
  have hgL : Nat.gcd (sU plus (f k).num.toNat x0 (f k).den m) ((f k).den / Nat.gcd (f k).den m * m) ≤ (f k).den / Nat.gcd (f k).den m * m := Nat.gcd_le_right _ hL0
  have hg63 : Nat.gcd (sU plus (f k).num.toNat x0 (f k).den m) ((f k).den / Nat.gcd (f k).den m * m) < 2 ^ 63 := by omega
  have hg0 : ¬ lN (Nat.gcd (sU plus (f k).num.toNat x0 (f k).den m) ((f k).den / Nat.gcd (f k).den m * m)) = 0 := fun e => by rw [show (0 : Int64) = lN 0 from rfl, pk_lEQ hg63 (by decide)] at e; omega
  refine aw_iload_n C dX6_change_0 rfl rfl rfl ?_
  refine cw_callSp C k_X6_18 (C_isHolder G) ⟨by decide, by decide⟩ rfl rfl (Nat.le_of_ble_eq_true rfl) (Nat.le_of_ble_eq_true rfl) (Nat.le_of_ble_eq_true rfl) dX6_change_1 rfl ?_
  rw [isHo_t hk]
  refine aw_if_ne (tgt := 8) C dX6_change_4 (by decide) rfl (fun _ => ?_) (fun z => absurd z (by decide))
  refine aw_aload_n C dX6_change_8 rfl rfl rfl ?_
  refine aw_getf C f_X6_15 hH.1 rfl dX6_change_9 rfl ?_
  refine aw_iload_n C dX6_change_12 rfl rfl rfl ?_
  refine aw_lald C hH.2.2.1 (vp_in_nI hk (by decide)) dX6_change_13 rfl ?_
  rw [nI_clamp (by omega), clip_in hk]
  refine aw_lload C dX6_change_14 rfl rfl ?_
  refine cw_callSp C k_X6_54 (C_common G hD63 hm63 hm) ⟨by decide, by decide⟩ rfl rfl (Nat.le_of_ble_eq_true rfl) (Nat.le_of_ble_eq_true rfl) (Nat.le_of_ble_eq_true rfl) dX6_change_16 rfl ?_
  refine aw_lstore (ls' := [(6, _), (0, _), (1, _), (2, _), (4, _)]) C dX6_change_19 (by decide) rfl rfl ?_
  refine aw_aload_n C dX6_change_21 rfl rfl rfl ?_
  refine aw_getf C f_X6_9 hH.1 rfl dX6_change_22 rfl ?_
  refine aw_iload_n C dX6_change_25 rfl rfl rfl ?_
  refine aw_lald C hH.2.1 (vp_in_nI hk (by decide)) dX6_change_26 rfl ?_
  rw [nI_clamp (by omega), clip_in hk]
  refine aw_lload C dX6_change_27 rfl rfl ?_
  refine aw_lload C dX6_change_29 rfl rfl ?_
  refine aw_ldiv C dX6_change_31 hc0 rfl ?_
  rw [pk_lDiv hm63 hcp hc63]
  refine aw_lmul C dX6_change_32 rfl ?_
  refine aw_lload_n C dX6_change_33 rfl rfl rfl ?_
  refine aw_aload_n C dX6_change_34 rfl rfl rfl ?_
  refine aw_getf C f_X6_15 hH.1 rfl dX6_change_35 rfl ?_
  refine aw_iload_n C dX6_change_38 rfl rfl rfl ?_
  refine aw_lald C hH.2.2.1 (vp_in_nI hk (by decide)) dX6_change_39 rfl ?_
  rw [nI_clamp (by omega), clip_in hk]
  refine aw_lload C dX6_change_40 rfl rfl ?_
  refine aw_ldiv C dX6_change_42 hc0 rfl ?_
  rw [pk_lDiv hD63 hcp hc63]
  refine aw_lmul C dX6_change_43 rfl ?_
  refine aw_ladd C dX6_change_44 rfl ?_
  rw [sI_eq hO.2.2]
  refine aw_lstore (ls' := [(8, _), (6, _), (0, _), (1, _), (2, _), (4, _)]) C dX6_change_45 (by decide) rfl rfl ?_
  refine aw_aload_n C dX6_change_47 rfl rfl rfl ?_
  refine aw_getf C f_X6_15 hH.1 rfl dX6_change_48 rfl ?_
  refine aw_iload_n C dX6_change_51 rfl rfl rfl ?_
  refine aw_lald C hH.2.2.1 (vp_in_nI hk (by decide)) dX6_change_52 rfl ?_
  rw [nI_clamp (by omega), clip_in hk]
  refine aw_lload C dX6_change_53 rfl rfl ?_
  refine aw_ldiv C dX6_change_55 hc0 rfl ?_
  rw [pk_lDiv hD63 hcp hc63]
  refine aw_lload C dX6_change_56 rfl rfl ?_
  refine aw_lmul C dX6_change_58 rfl ?_
  rw [lN_mul]
  refine aw_lstore (ls' := [(10, _), (8, _), (6, _), (0, _), (1, _), (2, _), (4, _)]) C dX6_change_59 (by decide) rfl rfl ?_
  refine aw_lload C dX6_change_61 rfl rfl ?_
  refine aw_lload C dX6_change_63 rfl rfl ?_
  refine cw_callSp C k_X6_54 (C_common G hU63 hL63 hL0) ⟨by decide, by decide⟩ rfl rfl (Nat.le_of_ble_eq_true rfl) (Nat.le_of_ble_eq_true rfl) (Nat.le_of_ble_eq_true rfl) dX6_change_65 rfl ?_
  refine aw_lstore (ls' := [(12, _), (10, _), (8, _), (6, _), (0, _), (1, _), (2, _), (4, _)]) C dX6_change_68 (by decide) rfl rfl ?_
  refine aw_aload_n C dX6_change_70 rfl rfl rfl ?_
  refine aw_getf C f_X6_9 hH.1 rfl dX6_change_71 rfl ?_
  refine aw_iload_n C dX6_change_74 rfl rfl rfl ?_
  refine aw_lload C dX6_change_75 rfl rfl ?_
  refine aw_lload C dX6_change_77 rfl rfl ?_
  refine aw_ldiv C dX6_change_79 hg0 rfl ?_
  rw [pk_lDiv hU63 hgp hg63]
  refine aw_last C hH.2.1 (vp_in_nI hk (by decide)) dX6_change_80 rfl ?_
  rw [nI_clamp (by omega), clip_updL (h := fun j => lN (uf f k (f k + sq plus x0 m) j).num.toNat) hk (fun j hj => by rw [uf_n hj]) (by rw [uf_s, hT.1])]
  refine aw_aload_n C dX6_change_81 rfl rfl rfl ?_
  refine aw_getf C f_X6_15 (hs2 _) rfl dX6_change_82 rfl ?_
  refine aw_iload_n C dX6_change_85 rfl rfl rfl ?_
  refine aw_lload C dX6_change_86 rfl rfl ?_
  refine aw_lload C dX6_change_88 rfl rfl ?_
  refine aw_ldiv C dX6_change_90 hg0 rfl ?_
  rw [pk_lDiv hL63 hgp hg63]
  refine aw_last C ((sgu_n (Ne.symm hab)).trans hH.2.2.1) (vp_in_nI hk (by decide)) dX6_change_91 rfl ?_
  rw [nI_clamp (by omega), clip_updL (h := fun j => lN (uf f k (f k + sq plus x0 m) j).den) hk (fun j hj => by rw [uf_n hj]) (by rw [uf_s, hT.2])]
  exact aw_vret C (Nat.le_of_ble_eq_true rfl) (Nat.le_of_ble_eq_true rfl) ⟨rfl, ⟨(sgu_n hsb).trans ((sgu_n hsa).trans hH.1), (sgu_n hab).trans sgu_s, sgu_s, hab, fun j hj => by
    by_cases e : j = k
    · rw [e, uf_s]; exact hO.2.1
    · rw [uf_n e]; exact hH.2.2.2.2 j hj⟩, fun p h1 h2 => (sgu_n h2).trans (sgu_n h1)⟩ dX6_change_92
set_option maxRecDepth 100000 in
theorem C_changeN {g : Gx} {l : Launch} {ez : Nat} (G : GOK g l ez) {sg : Sg} {so : Nat} {v : Int32} {p q : Int64} (hv : isHo v = false) : MM g l yX6_change cX6_change 14 none (rmC 2 0 0) sg [.ref so, .int v, .long p, .long q] (PV sg) (noX) := by
  refine MM.of G.1 G.2.1 (by decide) (Nat.le_of_ble_eq_true rfl) (fun x hg hlx C hin hout hargs => ?_)
  subst hg; subst hlx
  have C : AWC x cX6_change 14 RX6 (rmC 2 0 0) none := C
  show AW x (RQ x _ _ _ _) 0 0 sg 0 [(0, .ref so), (1, .int v), (2, .long p), (4, .long q)] []
  refine aw_iload_n C dX6_change_0 rfl rfl rfl ?_
  refine cw_callSp C k_X6_18 (C_isHolder G) ⟨by decide, by decide⟩ rfl rfl (Nat.le_of_ble_eq_true rfl) (Nat.le_of_ble_eq_true rfl) (Nat.le_of_ble_eq_true rfl) dX6_change_1 rfl ?_
  rw [hv]
  refine aw_if_ne (tgt := 8) C dX6_change_4 (by decide) rfl (fun z => absurd rfl z) (fun _ => ?_)
  exact aw_vret C (Nat.le_of_ble_eq_true rfl) (Nat.le_of_ble_eq_true rfl) ⟨rfl, rfl⟩ dX6_change_7
theorem L_lcm {D m K : Nat} (hD : 0 < D) (hm : 0 < m) (h1 : D ∣ K) (h2 : m ∣ K) (hK : 0 < K) : D / Nat.gcd D m * m ≤ K := by
  obtain ⟨e1, hL0⟩ := dv_L hD hm
  rw [← e1, ← Nat.mul_div_assoc D (Nat.gcd_dvd_right D m)]
  exact Nat.le_of_dvd hK (Nat.lcm_dvd h1 h2)
theorem num4 {q : Rat} (h0 : 0 ≤ q) (h : q ≤ 4) : q.num.toNat ≤ 4 * q.den := by
  have h1 := Rat.num_nonneg.mpr h0
  have h2 := (Rat.le_iff _ _).mp h
  rw [show (4 : Rat).num = 4 from rfl, show (4 : Rat).den = 1 from rfl] at h2
  omega
theorem mr_1 {x m : Nat} (hm : 0 < m) (h : x ≤ m) : mr x m ≤ 1 := by
  have := (mr_le (x := x) (y := 1) (m := m) (D := 1) hm (by decide)).mpr (by omega)
  exact this
theorem le_q1 {q : Rat} (h0 : 0 ≤ q) (h : q ≤ 1) : q.num.toNat ≤ q.den := q_le1 h0 h
theorem add_le2 {p q : Rat} (h : p ≤ 1) (h2 : q ≤ 1) : p + q ≤ 4 := Rat.le_trans (Rat.le_trans (Rat.add_le_add_right.mpr h) (Rat.add_le_add_left.mpr h2)) (by decide +kernel)
theorem le_14 {q : Rat} (h : q ≤ 1) : q ≤ 4 := Rat.le_trans h (by decide +kernel)
/-- shares: none below 0, none above 1, all with at most a million below -/
def FOk (f : Nat → Rat) : Prop := ∀ k, k < 13 → 0 ≤ f k ∧ f k ≤ 1 ∧ (f k).den ≤ 1000000
/-- a bequest: all of p's goes, x by al of it to the one tk, the rest to those of the set hh -/
def BqOk (p : Nat) (tk : Int32) (x al hh : Nat) : Prop := p < 13 ∧ hh < 8192 ∧ hh.testBit p = false ∧ (tk = -1 ∨ ∃ q, q < 13 ∧ q ≠ p ∧ tk = nI q) ∧ x ≤ al ∧ 1 ≤ al ∧ al ≤ 100 ∧ 1 ≤ pcn hh
def bqR (f : Nat → Rat) (p al hh : Nat) (x : Nat) : Rat := mr ((f p).num.toNat * (al - x)) ((f p).den * al * pcn hh)
def bqT (f : Nat → Rat) (p x al : Nat) : Rat := mr ((f p).num.toNat * x) ((f p).den * al)
def bqF (f : Nat → Rat) (p : Nat) (tk : Int32) (x al hh n : Nat) : Nat → Rat := fun j => ((if j = p then 0 else f j) + (if nI j = tk then bqT f p x al else 0)) + (if j < n ∧ hh.testBit j = true then bqR f p al hh x else 0)
set_option maxRecDepth 100000 in
theorem C_bequeath {g : Gx} {l : Launch} {ez : Nat} (G : GOK g l ez) {sg : Sg} {so a b : Nat} {f : Nat → Rat} (hH : SH g sg so a b f) {mv p y0 al hh : Nat} {tk : Int32} (hv : sg mv = some (ob 5 [.int (nI p), .int tk, .int (nI y0), .int (nI al), .int (nI hh)])) (hf : FOk f) (hB : BqOk p tk y0 al hh) : MM g l yX6_bequeath cX6_bequeath 11 none (rmC 3 0 0) sg [.ref so, .ref mv, .long (lN ((f p).num.toNat)), .long (lN ((f p).den))] (SHp g sg so a b (bqF f p tk y0 al hh 13)) (noX) := by
  refine MM.of G.1 G.2.1 (by decide) (Nat.le_of_ble_eq_true rfl) (fun x hg hlx C hin hout hargs => ?_)
  subst hg; subst hlx
  have C : AWC x cX6_bequeath 11 RX6 (rmC 3 0 0) none := C
  show AW x (RQ x _ _ _ _) 0 0 sg 0 [(0, .ref so), (1, .ref mv), (2, .long (lN ((f p).num.toNat))), (4, .long (lN ((f p).den)))] []
  obtain ⟨hp, hh1, hhp, htk, hx, hal, hal2, hcn⟩ := hB
  have hva : mv ≠ a := ob_ne hv hH.2.1
  have hvb : mv ≠ b := ob_ne hv hH.2.2.1
  have hfp := hf p hp
  have hA := le_q1 hfp.1 hfp.2.1
  have hBp : 0 < (f p).den := (f p).den_pos
  have hB6 := hfp.2.2
  have hc13 : pcn hh ≤ 13 := pcb_le
  have hBal : (f p).den * al ≤ 1000000 * 100 := Nat.mul_le_mul hB6 hal2
  have hBalp : 0 < (f p).den * al := Nat.mul_pos hBp hal
  have hM : (f p).den * al * pcn hh ≤ 1000000 * 100 * 13 := Nat.mul_le_mul hBal hc13
  have hMp : 0 < (f p).den * al * pcn hh := Nat.mul_pos hBalp hcn
  have hAx : (f p).num.toNat * y0 ≤ (f p).den * al := Nat.mul_le_mul hA hx
  have hP1 : (f p).num.toNat * (al - y0) ≤ (f p).den * al := Nat.mul_le_mul hA (Nat.sub_le _ _)
  have hPM : (f p).num.toNat * (al - y0) ≤ (f p).den * al * pcn hh := Nat.le_trans hP1 (Nat.le_mul_of_pos_right _ hcn)
  have hz0 : f p + sq false ((f p).num.toNat) ((f p).den) = 0 := by
    unfold sq
    rw [if_neg (by decide), q_mr hfp.1, Rat.add_neg_cancel]
  have e1 : ((f p).num.toNat : Nat) * (f p).den ≤ (f p).num.toNat * (f p).den := Nat.le_refl _
  -- the state behind the taker's part
  have fin1 : ∀ j, j < 13 → 0 ≤ bqF f p tk y0 al hh 0 j ∧ bqF f p tk y0 al hh 0 j ≤ 4 ∧ (bqF f p tk y0 al hh 0 j).den ∣ (f j).den * ((f p).den * al) := by
    intro j hj
    have hfj := hf j hj
    have e0 : bqF f p tk y0 al hh 0 j = (if j = p then 0 else f j) + (if nI j = tk then bqT f p y0 al else 0) := by
      unfold bqF
      rw [if_neg (show ¬ (j < 0 ∧ hh.testBit j = true) from fun z => absurd z.1 (Nat.not_lt_zero j)), Rat.add_zero]
    rw [e0]
    by_cases hjp : j = p
    · have hne : ¬ nI j = tk := fun z => by
        rcases htk with h1 | ⟨q, hq, hqp, h1⟩
        · rw [h1] at z
          exact absurd z (by
            intro z2
            have := congrArg Int32.toInt z2
            rw [nI_toInt (by omega)] at this
            have h2 : (-1 : Int32).toInt = -1 := by decide
            omega)
        · rw [h1, nI_eq (by omega) (by omega)] at z
          omega
      rw [if_pos hjp, if_neg hne, Rat.add_zero]
      exact ⟨Rat.le_refl, by decide, by rw [Rat.zero_den]; exact Nat.one_dvd _⟩
    · rw [if_neg hjp]
      by_cases ht : nI j = tk
      · rw [if_pos ht]
        have hT1 := mr_1 hBalp hAx
        have hd := den_sq (plus := true) (q := f j) (x := (f p).num.toNat * y0) hfj.1 hBalp (fun z => by cases z)
        have hn := sq_ok (plus := true) (q := f j) (x := (f p).num.toNat * y0) hfj.1 hBalp (fun z => by cases z)
        have es : sq true ((f p).num.toNat * y0) ((f p).den * al) = bqT f p y0 al := if_pos rfl
        rw [es] at hd hn
        exact ⟨hn.2.1, add_le2 hfj.2.1 hT1, hd⟩
      · rw [if_neg ht, Rat.add_zero]
        exact ⟨hfj.1, le_14 hfj.2.1, Nat.dvd_mul_right _ _⟩
  have loop : ∀ (r i : Nat) (s1 : Sg), i + r = 13 → SH x.g s1 so a b (bqF f p tk y0 al hh i) → (∀ q, q ≠ a → q ≠ b → s1 q = sg q) → AW x (RQ x (SHp x.g sg so a b (bqF f p tk y0 al hh 13)) noX (rmC 3 0 0).cells (rmC 3 0 0).slots) 0 0 s1 71 [(0, .ref so), (1, .ref mv), (2, .long (lN ((f p).num.toNat))), (4, .long (lN ((f p).den))), (6, .long (lN ((f p).num.toNat * (al - y0)))), (8, .long (lN ((f p).den * al * pcn hh))), (10, .int (nI (i)))] [] := by
    intro r
    induction r with
    | zero =>
      intro i s1 hi hH1 hfr
      obtain rfl : i = 13 := by omega
      refine aw_iload C dX6_bequeath_71 rfl rfl ?_
      refine aw_bipush (v := 13) C dX6_bequeath_73 rfl rfl ?_
      refine aw_icmp_ge (tgt := 106) C dX6_bequeath_75 (by decide) rfl (fun c75 => ?_) (fun c75 => ?_)
      · exact aw_vret C (Nat.le_of_ble_eq_true rfl) (Nat.le_of_ble_eq_true rfl) ⟨rfl, hH1, hfr⟩ dX6_bequeath_106
      · exact absurd c75 (by decide)
    | succ r ih =>
      intro i s1 hi hH1 hfr
      have hv1 : s1 mv = some (ob 5 [.int (nI p), .int tk, .int (nI y0), .int (nI al), .int (nI hh)]) := (hfr mv hva hvb).trans hv
      have hi13 : i < 13 := by omega
      obtain ⟨g0, g4, gd⟩ := fin1 i hi13
      have hfi := hf i hi13
      have ei : bqF f p tk y0 al hh i i = bqF f p tk y0 al hh 0 i := by
        unfold bqF
        rw [if_neg (show ¬ (i < i ∧ hh.testBit i = true) from fun z => absurd z.1 (Nat.lt_irrefl i)), if_neg (show ¬ (i < 0 ∧ hh.testBit i = true) from fun z => absurd z.1 (Nat.not_lt_zero i))]
      have hL : (bqF f p tk y0 al hh i i).den / Nat.gcd (bqF f p tk y0 al hh i i).den ((f p).den * al * pcn hh) * ((f p).den * al * pcn hh) < 2 ^ 59 := by
        have k1 : (f i).den * ((f p).den * al) * pcn hh ≤ 1000000 * (1000000 * 100) * 13 := Nat.mul_le_mul (Nat.mul_le_mul hfi.2.2 hBal) hc13
        have k2 := L_lcm (D := (bqF f p tk y0 al hh i i).den) (m := (f p).den * al * pcn hh) (K := (f i).den * ((f p).den * al) * pcn hh) (Rat.den_pos _) hMp (by rw [ei]; exact Nat.dvd_trans gd (Nat.dvd_mul_right _ _)) ⟨(f i).den, by rw [Nat.mul_comm _ (f i).den, Nat.mul_assoc]⟩ (Nat.mul_pos (Nat.mul_pos (f i).den_pos hBalp) hcn)
        omega
      refine aw_iload C dX6_bequeath_71 rfl rfl ?_
      refine aw_bipush (v := 13) C dX6_bequeath_73 rfl rfl ?_
      refine aw_icmp_ge (tgt := 106) C dX6_bequeath_75 (by decide) rfl (fun c75 => ?_) (fun c75 => ?_)
      · exact absurd c75 (fun h => absurd ((nI_leI (a := 13) (b := i) (by decide) (by omega)).mp h) (by omega))
      · refine aw_aload_n C dX6_bequeath_78 rfl rfl rfl ?_
        refine aw_getf C f_X6_24 hv1 rfl dX6_bequeath_79 rfl ?_
        refine aw_iconst (v := 1) C dX6_bequeath_82 rfl rfl ?_
        refine aw_iload C dX6_bequeath_83 rfl rfl ?_
        refine aw_ishl C dX6_bequeath_85 rfl ?_
        refine aw_iand C dX6_bequeath_86 rfl ?_
        refine aw_if_eq (tgt := 100) C dX6_bequeath_87 (by decide) rfl (fun c87 => ?_) (fun c87 => ?_)
        · rw [bit_of hh1 hi13] at c87
          refine aw_iinc (v' := nI (i + 1)) (ls' := [(10, _), (0, _), (1, _), (2, _), (4, _), (6, _), (8, _)]) C dX6_bequeath_100 rfl (by decide) (nI_1 i) rfl rfl ?_
          refine aw_goto (tgt := 71) C dX6_bequeath_103 (by decide) ?_
          refine aw_pick (ls' := [(0, _), (1, _), (2, _), (4, _), (6, _), (8, _), (10, _)]) [1, 2, 3, 4, 5, 6, 0] rfl ?_
          exact ih (i + 1) s1 (by omega) (hH1.cg (fun j hj => by
            unfold bqF
            by_cases hb : hh.testBit j = true
            · have hji : j ≠ i := fun z => by rw [z, c87] at hb; cases hb
              by_cases hlt : j < i
              · rw [if_pos (show j < i + 1 ∧ hh.testBit j = true from ⟨by omega, hb⟩), if_pos (show j < i ∧ hh.testBit j = true from ⟨hlt, hb⟩)]
              · rw [if_neg (show ¬ (j < i + 1 ∧ hh.testBit j = true) from fun z => absurd z.1 (by omega)), if_neg (show ¬ (j < i ∧ hh.testBit j = true) from fun z => absurd z.1 hlt)]
            · rw [if_neg (show ¬ (j < i + 1 ∧ hh.testBit j = true) from fun z => hb z.2), if_neg (show ¬ (j < i ∧ hh.testBit j = true) from fun z => hb z.2)])) hfr
        · have c87 : hh.testBit i = true := by rw [bit_of hh1 hi13] at c87; simpa using c87
          refine aw_aload_n C dX6_bequeath_90 rfl rfl rfl ?_
          refine aw_iload C dX6_bequeath_91 rfl rfl ?_
          refine aw_lload C dX6_bequeath_93 rfl rfl ?_
          refine aw_lload C dX6_bequeath_95 rfl rfl ?_
          refine aw_callV C k_X6_37 (C_change G hH1 (plus := true) (x0 := (f p).num.toNat * (al - y0)) hi13 hMp (fun z => by cases z) (by rw [ei]; exact num4 g0 g4) hPM hL) ⟨by decide, by decide⟩ (ci := 8) rfl hH1.1 rfl rfl (Nat.le_of_ble_eq_true rfl) (Nat.le_of_ble_eq_true rfl) (Nat.le_of_ble_eq_true rfl) dX6_bequeath_97 rfl (fun _ _ q => ax_no q) (fun v s2 hq => ?_)
          obtain ⟨rfl, hH2, hfr2⟩ := hq
          refine aw_iinc (v' := nI (i + 1)) (ls' := [(10, _), (0, _), (1, _), (2, _), (4, _), (6, _), (8, _)]) C dX6_bequeath_100 rfl (by decide) (nI_1 i) rfl rfl ?_
          refine aw_goto (tgt := 71) C dX6_bequeath_103 (by decide) ?_
          refine aw_pick (ls' := [(0, _), (1, _), (2, _), (4, _), (6, _), (8, _), (10, _)]) [1, 2, 3, 4, 5, 6, 0] rfl ?_
          exact ih (i + 1) s2 (by omega) (hH2.cg (fun j hj => by
            unfold bqF
            by_cases hji : j = i
            · subst hji
              rw [uf_s, if_pos (show j < j + 1 ∧ hh.testBit j = true from ⟨Nat.lt_succ_self j, c87⟩), if_neg (show ¬ (j < j ∧ hh.testBit j = true) from fun z => absurd z.1 (Nat.lt_irrefl j)), Rat.add_zero]
              rfl
            · rw [uf_n hji]
              by_cases hb : hh.testBit j = true
              · by_cases hlt : j < i
                · rw [if_pos (show j < i + 1 ∧ hh.testBit j = true from ⟨by omega, hb⟩), if_pos (show j < i ∧ hh.testBit j = true from ⟨hlt, hb⟩)]
                · rw [if_neg (show ¬ (j < i + 1 ∧ hh.testBit j = true) from fun z => absurd z.1 (by omega)), if_neg (show ¬ (j < i ∧ hh.testBit j = true) from fun z => absurd z.1 hlt)]
              · rw [if_neg (show ¬ (j < i + 1 ∧ hh.testBit j = true) from fun z => hb z.2), if_neg (show ¬ (j < i ∧ hh.testBit j = true) from fun z => hb z.2)])) (fun q h1 h2 => (hfr2 q h1 h2).trans (hfr q h1 h2))
  refine aw_aload_n C dX6_bequeath_0 rfl rfl rfl ?_
  refine aw_aload_n C dX6_bequeath_1 rfl rfl rfl ?_
  refine aw_getf C f_X6_30 hv rfl dX6_bequeath_2 rfl ?_
  refine aw_lload_n C dX6_bequeath_5 rfl rfl rfl ?_
  refine aw_lneg C dX6_bequeath_6 rfl ?_
  refine aw_lload C dX6_bequeath_7 rfl rfl ?_
  rw [show -lN ((f p).num.toNat) = sI false ((f p).num.toNat) from rfl]
  refine aw_callV C k_X6_37 (C_change G hH (plus := false) (x0 := (f p).num.toNat) (m := (f p).den) hp hBp (fun _ => e1) (by omega) hA (by have k2 := L_lcm (D := (f p).den) (m := (f p).den) (K := (f p).den) hBp hBp (Nat.dvd_refl _) (Nat.dvd_refl _) hBp; omega)) ⟨by decide, by decide⟩ (ci := 8) rfl hH.1 rfl rfl (Nat.le_of_ble_eq_true rfl) (Nat.le_of_ble_eq_true rfl) (Nat.le_of_ble_eq_true rfl) dX6_bequeath_9 rfl (fun _ _ q => ax_no q) (fun v s2 hq => ?_)
  obtain ⟨rfl, hH2, hfr2⟩ := hq
  have hv2 : s2 mv = some (ob 5 [.int (nI p), .int tk, .int (nI y0), .int (nI al), .int (nI hh)]) := (hfr2 mv hva hvb).trans hv
  refine aw_aload_n C dX6_bequeath_12 rfl rfl rfl ?_
  refine aw_aload_n C dX6_bequeath_13 rfl rfl rfl ?_
  refine aw_getf C f_X6_41 hv2 rfl dX6_bequeath_14 rfl ?_
  refine aw_lload_n C dX6_bequeath_17 rfl rfl rfl ?_
  refine aw_aload_n C dX6_bequeath_18 rfl rfl rfl ?_
  refine aw_getf C f_X6_33 hv2 rfl dX6_bequeath_19 rfl ?_
  refine aw_i2l C dX6_bequeath_22 rfl ?_
  refine aw_lmul C dX6_bequeath_23 rfl ?_
  refine aw_lload C dX6_bequeath_24 rfl rfl ?_
  refine aw_aload_n C dX6_bequeath_26 rfl rfl rfl ?_
  refine aw_getf C f_X6_35 hv2 rfl dX6_bequeath_27 rfl ?_
  refine aw_i2l C dX6_bequeath_30 rfl ?_
  refine aw_lmul C dX6_bequeath_31 rfl ?_
  have hstep : ∃ Z : Unit, True := ⟨(), trivial⟩
  clear hstep
  have e12 : lN ((f p).num.toNat) * (nI y0).toInt64 = lN ((f p).num.toNat * y0) := by rw [nI_l (by omega), lN_mul]
  have e13 : lN ((f p).den) * (nI al).toInt64 = lN ((f p).den * al) := by rw [nI_l (by omega), lN_mul]
  rw [e12, e13]
  have f0 : ∀ j, j < 13 → uf f p (f p + sq false ((f p).num.toNat) ((f p).den)) j = (if j = p then 0 else f j) := fun j hj => by
    by_cases e : j = p
    · rw [e, uf_s, hz0, if_pos rfl]
    · rw [uf_n e, if_neg e]
  suffices kk : ∀ s3, SH x.g s3 so a b (bqF f p tk y0 al hh 0) → (∀ q, q ≠ a → q ≠ b → s3 q = sg q) → AW x (RQ x (SHp x.g sg so a b (bqF f p tk y0 al hh 13)) noX (rmC 3 0 0).cells (rmC 3 0 0).slots) 0 0 s3 35 [(0, .ref so), (1, .ref mv), (2, .long (lN ((f p).num.toNat))), (4, .long (lN ((f p).den)))] [] by
    rcases htk with ht | ⟨q, hq, hqp, ht⟩
    · refine cw_callVv C k_X6_37 (C_changeN G (by rw [ht]; decide)) ⟨by decide, by decide⟩ (ci := 8) rfl hH2.1 rfl rfl (Nat.le_of_ble_eq_true rfl) (Nat.le_of_ble_eq_true rfl) (Nat.le_of_ble_eq_true rfl) dX6_bequeath_32 rfl ?_
      refine kk s2 (hH2.cg (fun j hj => ?_)) hfr2
      rw [f0 j hj]
      have hnt : ¬ nI j = tk := fun z => by
        rw [ht] at z
        have := congrArg Int32.toInt z
        rw [nI_toInt (by omega)] at this
        have h2 : (-1 : Int32).toInt = -1 := by decide
        omega
      unfold bqF
      rw [if_neg (show ¬ (j < 0 ∧ hh.testBit j = true) from fun z => absurd z.1 (Nat.not_lt_zero j)), Rat.add_zero, if_neg hnt, Rat.add_zero]
    · subst ht
      have hfq := hf q hq
      have eq1 : uf f p (f p + sq false ((f p).num.toNat) ((f p).den)) q = f q := uf_n hqp
      have hLq : (uf f p (f p + sq false ((f p).num.toNat) ((f p).den)) q).den / Nat.gcd (uf f p (f p + sq false ((f p).num.toNat) ((f p).den)) q).den ((f p).den * al) * ((f p).den * al) < 2 ^ 59 := by
        rw [eq1]
        have k1 : (f q).den * ((f p).den * al) ≤ 1000000 * (1000000 * 100) := Nat.mul_le_mul hfq.2.2 hBal
        have k2 := L_lcm (D := (f q).den) (m := (f p).den * al) (K := (f q).den * ((f p).den * al)) (f q).den_pos hBalp (Nat.dvd_mul_right _ _) (Nat.dvd_mul_left _ _) (Nat.mul_pos (f q).den_pos hBalp)
        omega
      refine aw_callV C k_X6_37 (C_change G hH2 (plus := true) (x0 := (f p).num.toNat * y0) hq hBalp (fun z => by cases z) (by rw [eq1]; exact num4 hfq.1 (le_14 hfq.2.1)) hAx hLq) ⟨by decide, by decide⟩ (ci := 8) rfl hH2.1 rfl rfl (Nat.le_of_ble_eq_true rfl) (Nat.le_of_ble_eq_true rfl) (Nat.le_of_ble_eq_true rfl) dX6_bequeath_32 rfl (fun _ _ q => ax_no q) (fun v s3 hq3 => ?_)
      obtain ⟨rfl, hH3, hfr3⟩ := hq3
      refine kk s3 (hH3.cg (fun j hj => ?_)) (fun q h1 h2 => (hfr3 q h1 h2).trans (hfr2 q h1 h2))
      unfold bqF
      rw [if_neg (show ¬ (j < 0 ∧ hh.testBit j = true) from fun z => absurd z.1 (Nat.not_lt_zero j)), Rat.add_zero]
      by_cases hjq : j = q
      · subst hjq
        rw [uf_s, eq1, if_neg hqp, if_pos rfl]
        rfl
      · rw [uf_n hjq, f0 j hj, if_neg (show ¬ nI j = nI q from fun z => hjq ((nI_eq (by omega) (by omega)).mp z)), Rat.add_zero]
  intro s3 hH3 hfr3
  have hv3 : s3 mv = some (ob 5 [.int (nI p), .int tk, .int (nI y0), .int (nI al), .int (nI hh)]) := (hfr3 mv hva hvb).trans hv
  refine aw_lload_n C dX6_bequeath_35 rfl rfl rfl ?_
  refine aw_aload_n C dX6_bequeath_36 rfl rfl rfl ?_
  refine aw_getf C f_X6_35 hv3 rfl dX6_bequeath_37 rfl ?_
  refine aw_aload_n C dX6_bequeath_40 rfl rfl rfl ?_
  refine aw_getf C f_X6_33 hv3 rfl dX6_bequeath_41 rfl ?_
  refine aw_isub C dX6_bequeath_44 rfl ?_
  refine aw_i2l C dX6_bequeath_45 rfl ?_
  refine aw_lmul C dX6_bequeath_46 rfl ?_
  rw [pk_sub hx, nI_l (by omega), lN_mul]
  refine aw_lstore (ls' := [(6, _), (0, _), (1, _), (2, _), (4, _)]) C dX6_bequeath_47 (by decide) rfl rfl ?_
  refine aw_lload C dX6_bequeath_49 rfl rfl ?_
  refine aw_aload_n C dX6_bequeath_51 rfl rfl rfl ?_
  refine aw_getf C f_X6_35 hv3 rfl dX6_bequeath_52 rfl ?_
  refine aw_i2l C dX6_bequeath_55 rfl ?_
  refine aw_lmul C dX6_bequeath_56 rfl ?_
  refine aw_aload_n C dX6_bequeath_57 rfl rfl rfl ?_
  refine aw_getf C f_X6_24 hv3 rfl dX6_bequeath_58 rfl ?_
  refine cw_callSp C k_X6_48 (L_bitCount G hh1) ⟨by decide, by decide⟩ rfl rfl (Nat.le_of_ble_eq_true rfl) (Nat.le_of_ble_eq_true rfl) (Nat.le_of_ble_eq_true rfl) dX6_bequeath_61 rfl ?_
  refine aw_i2l C dX6_bequeath_64 rfl ?_
  refine aw_lmul C dX6_bequeath_65 rfl ?_
  rw [nI_l (n := al) (by omega), nI_l (n := pcn hh) (by omega), lN_mul, lN_mul]
  refine aw_lstore (ls' := [(8, _), (6, _), (0, _), (1, _), (2, _), (4, _)]) C dX6_bequeath_66 (by decide) rfl rfl ?_
  refine aw_iconst (v := 0) C dX6_bequeath_68 rfl rfl ?_
  refine aw_istore (ls' := [(10, _), (8, _), (6, _), (0, _), (1, _), (2, _), (4, _)]) C dX6_bequeath_69 (by decide) rfl rfl ?_
  refine aw_pick (ls' := [(0, _), (1, _), (2, _), (4, _), (6, _), (8, _), (10, _)]) [3, 4, 5, 6, 2, 1, 0] rfl ?_
  exact loop 13 0 s3 rfl hH3 hfr3
