/-! the shares of a thing: carrying out, beginning, copying -/
/-- a sale's or gift's move: x by y of the whole goes from p to q -/
def CyOk (f : Nat → Rat) (p q x y : Nat) : Prop := p < 13 ∧ q < 13 ∧ p ≠ q ∧ 1 ≤ x ∧ x ≤ y ∧ y ≤ 100 ∧ x * (f p).den ≤ (f p).num.toNat * y
def cyF (f : Nat → Rat) (p q x y : Nat) : Nat → Rat := fun j => if j = p then f j + sq false x y else if j = q then f j + sq true x y else f j
def MvOk (m : Mv) (f : Nat → Rat) : Prop := (∃ p q x y, m = (nI p, nI q, nI x, nI y, 0) ∧ CyOk f p q x y) ∨ ∃ p x al hh tk, m = (nI p, tk, nI x, nI al, nI hh) ∧ BqOk p tk x al hh
def mvF (m : Mv) (f : Nat → Rat) : Nat → Rat := if m.2.2.2.2 = 0 then cyF f m.1.toNatClampNeg m.2.1.toNatClampNeg m.2.2.1.toNatClampNeg m.2.2.2.1.toNatClampNeg else bqF f m.1.toNatClampNeg m.2.1 m.2.2.1.toNatClampNeg m.2.2.2.1.toNatClampNeg m.2.2.2.2.toNatClampNeg 13
theorem pcn_0 {hh : Nat} (h : 1 ≤ pcn hh) : hh ≠ 0 := fun z => by
  subst z
  exact absurd h (by decide +kernel)
set_option maxRecDepth 100000 in
theorem C_carryN {g : Gx} {l : Launch} {ez : Nat} (G : GOK g l ez) {sg : Sg} {so : Nat} : MM g l yX6_carryOut cX6_carryOut 2 none (rmC 4 0 0) sg [.ref so, .null] (PV sg) (noX) := by
  refine MM.of G.1 G.2.1 (by decide) (Nat.le_of_ble_eq_true rfl) (fun x hg hlx C hin hout hargs => ?_)
  subst hg; subst hlx
  have C : AWC x cX6_carryOut 2 RX6 (rmC 4 0 0) none := C
  show AW x (RQ x _ _ _ _) 0 0 sg 0 [(0, .ref so), (1, .null)] []
  refine aw_aload_nN C dX6_carryOut_0 rfl rfl rfl ?_
  refine aw_ifnonnull (r := none) (tgt := 5) C dX6_carryOut_1 (by decide) rfl (fun _ z => nomatch z) (fun _ => ?_)
  exact aw_vret C (Nat.le_of_ble_eq_true rfl) (Nat.le_of_ble_eq_true rfl) ⟨rfl, rfl⟩ dX6_carryOut_4
set_option maxRecDepth 100000 in
theorem C_carry {g : Gx} {l : Launch} {ez : Nat} (G : GOK g l ez) {sg : Sg} {so a b : Nat} {f : Nat → Rat} (hH : SH g sg so a b f) {mv : Nat} {m : Mv} (hv : sg mv = some (ob 5 (vcl m))) (hf : FOk f) (hm : MvOk m f) : MM g l yX6_carryOut cX6_carryOut 2 none (rmC 4 0 0) sg [.ref so, .ref mv] (SHp g sg so a b (mvF m f)) (noX) := by
  refine MM.of G.1 G.2.1 (by decide) (Nat.le_of_ble_eq_true rfl) (fun x hg hlx C hin hout hargs => ?_)
  subst hg; subst hlx
  have C : AWC x cX6_carryOut 2 RX6 (rmC 4 0 0) none := C
  show AW x (RQ x _ _ _ _) 0 0 sg 0 [(0, .ref so), (1, .ref mv)] []
  have hva : mv ≠ a := ob_ne hv hH.2.1
  have hvb : mv ≠ b := ob_ne hv hH.2.2.1
  rcases hm with ⟨p, q, x0, y0, rfl, hp, hq, hpq, hx1, hxy, hy1, hsh⟩ | ⟨p, x0, al, hh, tk, rfl, hB⟩
  · have hv : sg mv = some (ob 5 [.int (nI p), .int (nI q), .int (nI x0), .int (nI y0), .int 0]) := hv
    have hfp := hf p hp
    have hfq := hf q hq
    have hy0 : 0 < y0 := by omega
    have eM : mvF (nI p, nI q, nI x0, nI y0, 0) f = cyF f p q x0 y0 := by
      unfold mvF
      rw [if_pos rfl]
      show cyF f (nI p).toNatClampNeg (nI q).toNatClampNeg (nI x0).toNatClampNeg (nI y0).toNatClampNeg = _
      rw [nI_clamp (by omega), nI_clamp (by omega), nI_clamp (by omega), nI_clamp (by omega)]
    rw [eM]
    have hLb : ∀ j, j < 13 → (f j).den / Nat.gcd (f j).den y0 * y0 < 2 ^ 59 := fun j hj => by
      have k1 : (f j).den * y0 ≤ 1000000 * 100 := Nat.mul_le_mul (hf j hj).2.2 hy1
      have k2 := L_lcm (D := (f j).den) (m := y0) (K := (f j).den * y0) (f j).den_pos hy0 (Nat.dvd_mul_right _ _) (Nat.dvd_mul_left _ _) (Nat.mul_pos (f j).den_pos hy0)
      omega
    refine aw_aload_n C dX6_carryOut_0 rfl rfl rfl ?_
    refine aw_ifnonnull (r := some _) (tgt := 5) C dX6_carryOut_1 (by decide) rfl (fun _ _ => ?_) (fun z => nomatch z)
    refine aw_aload_n C dX6_carryOut_5 rfl rfl rfl ?_
    refine aw_getf C f_X6_24 hv rfl dX6_carryOut_6 rfl ?_
    refine aw_if_ne (tgt := 52) C dX6_carryOut_9 (by decide) rfl (fun h => by first | exact absurd h (by decide) | exact absurd (by decide) h) (fun _ => ?_)
    refine aw_aload_n C dX6_carryOut_12 rfl rfl rfl ?_
    refine aw_aload_n C dX6_carryOut_13 rfl rfl rfl ?_
    refine aw_getf C f_X6_30 hv rfl dX6_carryOut_14 rfl ?_
    refine aw_aload_n C dX6_carryOut_17 rfl rfl rfl ?_
    refine aw_getf C f_X6_33 hv rfl dX6_carryOut_18 rfl ?_
    refine aw_ineg C dX6_carryOut_21 rfl ?_
    refine aw_i2l C dX6_carryOut_22 rfl ?_
    rw [neg_x (by omega), show -lN x0 = sI false x0 from rfl]
    refine aw_aload_n C dX6_carryOut_23 rfl rfl rfl ?_
    refine aw_getf C f_X6_35 hv rfl dX6_carryOut_24 rfl ?_
    refine aw_i2l C dX6_carryOut_27 rfl ?_
    rw [nI_l (by omega)]
    refine aw_callV C k_X6_37 (C_change G hH (plus := false) hp hy0 (fun _ => hsh) (num4 hfp.1 (le_14 hfp.2.1)) hxy (hLb p hp)) ⟨by decide, by decide⟩ (ci := 8) rfl hH.1 rfl rfl (Nat.le_of_ble_eq_true rfl) (Nat.le_of_ble_eq_true rfl) (Nat.le_of_ble_eq_true rfl) dX6_carryOut_28 rfl (fun _ _ q => ax_no q) (fun v s2 hq2 => ?_)
    obtain ⟨rfl, hH2, hfr2⟩ := hq2
    have hv2 : s2 mv = some (ob 5 [.int (nI p), .int (nI q), .int (nI x0), .int (nI y0), .int 0]) := (hfr2 mv hva hvb).trans hv
    have eq1 : uf f p (f p + sq false x0 y0) q = f q := uf_n (Ne.symm hpq)
    refine aw_aload_n C dX6_carryOut_31 rfl rfl rfl ?_
    refine aw_aload_n C dX6_carryOut_32 rfl rfl rfl ?_
    refine aw_getf C f_X6_41 hv2 rfl dX6_carryOut_33 rfl ?_
    refine aw_aload_n C dX6_carryOut_36 rfl rfl rfl ?_
    refine aw_getf C f_X6_33 hv2 rfl dX6_carryOut_37 rfl ?_
    refine aw_i2l C dX6_carryOut_40 rfl ?_
    rw [nI_l (by omega), show lN x0 = sI true x0 from rfl]
    refine aw_aload_n C dX6_carryOut_41 rfl rfl rfl ?_
    refine aw_getf C f_X6_35 hv2 rfl dX6_carryOut_42 rfl ?_
    refine aw_i2l C dX6_carryOut_45 rfl ?_
    rw [nI_l (by omega)]
    refine aw_callV C k_X6_37 (C_change G hH2 (plus := true) (x0 := x0) (m := y0) hq hy0 (fun z => by cases z) (by rw [eq1]; exact num4 hfq.1 (le_14 hfq.2.1)) hxy (by rw [eq1]; exact hLb q hq)) ⟨by decide, by decide⟩ (ci := 8) rfl hH2.1 rfl rfl (Nat.le_of_ble_eq_true rfl) (Nat.le_of_ble_eq_true rfl) (Nat.le_of_ble_eq_true rfl) dX6_carryOut_46 rfl (fun _ _ q => ax_no q) (fun v s3 hq3 => ?_)
    obtain ⟨rfl, hH3, hfr3⟩ := hq3
    refine aw_goto (tgt := 85) C dX6_carryOut_49 (by decide) ?_
    exact aw_vret C (Nat.le_of_ble_eq_true rfl) (Nat.le_of_ble_eq_true rfl) ⟨rfl, hH3.cg (fun j hj => by
      unfold cyF
      by_cases hjq : j = q
      · subst hjq
        rw [uf_s, eq1, if_neg (Ne.symm hpq), if_pos rfl]
      · rw [uf_n hjq, if_neg hjq]
        by_cases hjp : j = p
        · subst hjp; rw [uf_s, if_pos rfl]
        · rw [uf_n hjp, if_neg hjp]), fun p h1 h2 => (hfr3 p h1 h2).trans (hfr2 p h1 h2)⟩ dX6_carryOut_85
  · have hv : sg mv = some (ob 5 [.int (nI p), .int tk, .int (nI x0), .int (nI al), .int (nI hh)]) := hv
    have hB2 := hB
    obtain ⟨hp, hh1, hhp, htk, hx, hal, hal2, hcn⟩ := hB2
    have hh0 : ¬ nI hh = 0 := fun z => by
      rw [show (0 : Int32) = nI 0 from rfl, nI_eq (by omega) (by decide)] at z
      exact pcn_0 hcn z
    have eM : mvF (nI p, tk, nI x0, nI al, nI hh) f = bqF f p tk x0 al hh 13 := by
      unfold mvF
      rw [if_neg hh0]
      show bqF f (nI p).toNatClampNeg tk (nI x0).toNatClampNeg (nI al).toNatClampNeg (nI hh).toNatClampNeg 13 = _
      rw [nI_clamp (by omega), nI_clamp (by omega), nI_clamp (by omega), nI_clamp (by omega)]
    rw [eM]
    refine aw_aload_n C dX6_carryOut_0 rfl rfl rfl ?_
    refine aw_ifnonnull (r := some _) (tgt := 5) C dX6_carryOut_1 (by decide) rfl (fun _ _ => ?_) (fun z => nomatch z)
    refine aw_aload_n C dX6_carryOut_5 rfl rfl rfl ?_
    refine aw_getf C f_X6_24 hv rfl dX6_carryOut_6 rfl ?_
    refine aw_if_ne (tgt := 52) C dX6_carryOut_9 (by decide) rfl (fun _ => ?_) (fun z => absurd z hh0)
    refine aw_aload_n C dX6_carryOut_52 rfl rfl rfl ?_
    refine aw_getf C f_X6_30 hv rfl dX6_carryOut_53 rfl ?_
    refine cw_callSp C k_X6_18 (C_isHolder G) ⟨by decide, by decide⟩ rfl rfl (Nat.le_of_ble_eq_true rfl) (Nat.le_of_ble_eq_true rfl) (Nat.le_of_ble_eq_true rfl) dX6_carryOut_56 rfl ?_
    rw [isHo_t hp]
    refine aw_if_eq (tgt := 85) C dX6_carryOut_59 (by decide) rfl (fun z => absurd z (by decide)) (fun _ => ?_)
    refine aw_aload_n C dX6_carryOut_62 rfl rfl rfl ?_
    refine aw_aload_n C dX6_carryOut_63 rfl rfl rfl ?_
    refine aw_aload_n C dX6_carryOut_64 rfl rfl rfl ?_
    refine aw_getf C f_X6_9 hH.1 rfl dX6_carryOut_65 rfl ?_
    refine aw_aload_n C dX6_carryOut_68 rfl rfl rfl ?_
    refine aw_getf C f_X6_30 hv rfl dX6_carryOut_69 rfl ?_
    refine aw_lald C hH.2.1 (vp_in_nI hp (by decide)) dX6_carryOut_72 rfl ?_
    rw [nI_clamp (by omega), clip_in hp]
    refine aw_aload_n C dX6_carryOut_73 rfl rfl rfl ?_
    refine aw_getf C f_X6_15 hH.1 rfl dX6_carryOut_74 rfl ?_
    refine aw_aload_n C dX6_carryOut_77 rfl rfl rfl ?_
    refine aw_getf C f_X6_30 hv rfl dX6_carryOut_78 rfl ?_
    refine aw_lald C hH.2.2.1 (vp_in_nI hp (by decide)) dX6_carryOut_81 rfl ?_
    rw [nI_clamp (by omega), clip_in hp]
    refine aw_callV C k_X6_44 (C_bequeath G hH hv hf hB) ⟨by decide, by decide⟩ (ci := 8) rfl hH.1 rfl rfl (Nat.le_of_ble_eq_true rfl) (Nat.le_of_ble_eq_true rfl) (Nat.le_of_ble_eq_true rfl) dX6_carryOut_82 rfl (fun _ _ q => ax_no q) (fun v s2 hq2 => ?_)
    obtain ⟨rfl, hH2⟩ := hq2
    exact aw_vret C (Nat.le_of_ble_eq_true rfl) (Nat.le_of_ble_eq_true rfl) ⟨rfl, hH2⟩ dX6_carryOut_85
def mix {α : Type} (i : Nat) (f h : Nat → α) : Nat → α := fun j => if j < i then f j else h j
theorem mix_up {n i : Nat} {f h : Nat → Int64} (hi : i < n) {v : Int64} (ev : f i = v) : vp_updL (clip n 0 (mix i f h)) i v = clip n 0 (mix (i + 1) f h) := by
  refine clip_updL hi (fun j hj => ?_) ?_
  · unfold mix
    by_cases h1 : j < i
    · rw [if_pos h1, if_pos (by omega)]
    · rw [if_neg h1, if_neg (by omega)]
  · unfold mix
    rw [if_pos (by omega), ev]
theorem mix_0 {α : Type} {f h : Nat → α} : mix 0 f h = h := funext fun j => if_neg (Nat.not_lt_zero j)
theorem mix_n {n : Nat} {f h : Nat → Int64} : clip n 0 (mix n f h) = clip n 0 f := funext fun j => by
  unfold clip mix
  by_cases h1 : j < n
  · rw [if_pos h1, if_pos h1, if_pos h1]
  · rw [if_neg h1, if_neg h1]
def one (p : Nat) : Nat → Rat := fun k => if k = p then 1 else 0
theorem one_t (p k : Nat) : lN (one p k).num.toNat = (if k = p then 1 else 0) ∧ lN (one p k).den = 1 ∧ 0 ≤ one p k := by
  unfold one
  by_cases h : k = p
  · rw [if_pos h, if_pos h]; exact ⟨rfl, rfl, by decide⟩
  · rw [if_neg h, if_neg h]; exact ⟨rfl, rfl, by decide⟩
/-- a Shares object, whatever its rows hold -/
def SHx (sg : Sg) (g : Gx) (so a b : Nat) (F1 F2 : Nat → Int64) : Prop := sg so = some (ob 8 [.ref a, .ref b]) ∧ sg a = some (arJ g 13 (clip 13 0 F1)) ∧ sg b = some (arJ g 13 (clip 13 0 F2)) ∧ a ≠ b
set_option maxRecDepth 100000 in
theorem C_startWith {g : Gx} {l : Launch} {ez : Nat} (G : GOK g l ez) {sg : Sg} {so a b : Nat} {F1 F2 : Nat → Int64} (hX : SHx sg g so a b F1 F2) {p : Nat} (hp : p < 2 ^ 31) : MM g l yX6_startWith cX6_startWith 3 none (rmC 1 0 0) sg [.ref so, .int (nI p)] (SHp g sg so a b (one p)) (noX) := by
  refine MM.of G.1 G.2.1 (by decide) (Nat.le_of_ble_eq_true rfl) (fun x hg hlx C hin hout hargs => ?_)
  subst hg; subst hlx
  have C : AWC x cX6_startWith 3 RX6 (rmC 1 0 0) none := C
  show AW x (RQ x _ _ _ _) 0 0 sg 0 [(0, .ref so), (1, .int (nI p))] []
  have hsa : so ≠ a := ob_ne hX.1 hX.2.1
  have hsb : so ≠ b := ob_ne hX.1 hX.2.2.1
  have hab := hX.2.2.2
  have loop : ∀ (r i : Nat) (s1 : Sg), i + r = 13 → SHx s1 x.g so a b (mix i (fun k => lN (one p k).num.toNat) F1) (mix i (fun k => lN (one p k).den) F2) → (∀ q, q ≠ a → q ≠ b → s1 q = sg q) → AW x (RQ x (SHp x.g sg so a b (one p)) noX (rmC 1 0 0).cells (rmC 1 0 0).slots) 0 0 s1 2 [(0, .ref so), (1, .int (nI p)), (2, .int (nI i))] [] := by
    intro r
    induction r with
    | zero =>
      intro i s1 hi hX1 hfr
      obtain rfl : i = 13 := by omega
      refine aw_iload_n C dX6_startWith_2 rfl rfl rfl ?_
      refine aw_bipush (v := 13) C dX6_startWith_3 rfl rfl ?_
      refine aw_icmp_ge (tgt := 37) C dX6_startWith_5 (by decide) rfl (fun c5 => ?_) (fun c5 => ?_)
      · exact aw_vret C (Nat.le_of_ble_eq_true rfl) (Nat.le_of_ble_eq_true rfl) ⟨rfl, ⟨hX1.1, hX1.2.1.trans (by rw [mix_n]), hX1.2.2.1.trans (by rw [mix_n]), hab, fun k _ => (one_t p k).2.2⟩, hfr⟩ dX6_startWith_37
      · exact absurd c5 (by decide)
    | succ r ih =>
      intro i s1 hi hX1 hfr
      have hi13 : i < 13 := by omega
      refine aw_iload_n C dX6_startWith_2 rfl rfl rfl ?_
      refine aw_bipush (v := 13) C dX6_startWith_3 rfl rfl ?_
      refine aw_icmp_ge (tgt := 37) C dX6_startWith_5 (by decide) rfl (fun c5 => ?_) (fun c5 => ?_)
      · exact absurd c5 (fun h => absurd ((nI_leI (a := 13) (b := i) (by decide) (by omega)).mp h) (by omega))
      · refine aw_aload_n C dX6_startWith_8 rfl rfl rfl ?_
        refine aw_getf C f_X6_9 hX1.1 rfl dX6_startWith_9 rfl ?_
        refine aw_iload_n C dX6_startWith_12 rfl rfl rfl ?_
        refine aw_iload_n C dX6_startWith_13 rfl rfl rfl ?_
        refine aw_iload_n C dX6_startWith_14 rfl rfl rfl ?_
        refine aw_icmp_ne (tgt := 22) C dX6_startWith_15 (by decide) rfl (fun c15 => ?_) (fun c15 => ?_)
        · refine aw_lconst (v := 0) C dX6_startWith_22 rfl rfl ?_
          refine aw_last C hX1.2.1 (vp_in_nI hi13 (by decide)) dX6_startWith_23 rfl ?_
          rw [nI_clamp (by omega), mix_up hi13 ((one_t p i).1.trans (if_neg (fun z => c15 (by rw [z]))))]
          refine aw_aload_n C dX6_startWith_24 rfl rfl rfl ?_
          refine aw_getf C f_X6_15 ((sgu_n hsa).trans hX1.1) rfl dX6_startWith_25 rfl ?_
          refine aw_iload_n C dX6_startWith_28 rfl rfl rfl ?_
          refine aw_lconst (v := 1) C dX6_startWith_29 rfl rfl ?_
          refine aw_last C ((sgu_n (Ne.symm hab)).trans hX1.2.2.1) (vp_in_nI hi13 (by decide)) dX6_startWith_30 rfl ?_
          rw [nI_clamp (by omega), mix_up hi13 (one_t p i).2.1]
          refine aw_iinc (v' := nI (i + 1)) (ls' := [(2, _), (0, _), (1, _)]) C dX6_startWith_31 rfl (by decide) (nI_1 i) rfl rfl ?_
          refine aw_goto (tgt := 2) C dX6_startWith_34 (by decide) ?_
          refine aw_pick (ls' := [(0, _), (1, _), (2, _)]) [1, 2, 0] rfl ?_
          exact ih (i + 1) _ (by omega) ⟨(sgu_n hsb).trans ((sgu_n hsa).trans hX1.1), (sgu_n hab).trans sgu_s, sgu_s, hab⟩ (fun q h1 h2 => (sgu_n h2).trans ((sgu_n h1).trans (hfr q h1 h2)))
        · refine aw_lconst (v := 1) C dX6_startWith_18 rfl rfl ?_
          refine aw_goto (tgt := 23) C dX6_startWith_19 (by decide) ?_
          refine aw_last C hX1.2.1 (vp_in_nI hi13 (by decide)) dX6_startWith_23 rfl ?_
          rw [nI_clamp (by omega), mix_up hi13 ((one_t p i).1.trans (if_pos ((nI_eq (by omega) hp).mp c15)))]
          refine aw_aload_n C dX6_startWith_24 rfl rfl rfl ?_
          refine aw_getf C f_X6_15 ((sgu_n hsa).trans hX1.1) rfl dX6_startWith_25 rfl ?_
          refine aw_iload_n C dX6_startWith_28 rfl rfl rfl ?_
          refine aw_lconst (v := 1) C dX6_startWith_29 rfl rfl ?_
          refine aw_last C ((sgu_n (Ne.symm hab)).trans hX1.2.2.1) (vp_in_nI hi13 (by decide)) dX6_startWith_30 rfl ?_
          rw [nI_clamp (by omega), mix_up hi13 (one_t p i).2.1]
          refine aw_iinc (v' := nI (i + 1)) (ls' := [(2, _), (0, _), (1, _)]) C dX6_startWith_31 rfl (by decide) (nI_1 i) rfl rfl ?_
          refine aw_goto (tgt := 2) C dX6_startWith_34 (by decide) ?_
          refine aw_pick (ls' := [(0, _), (1, _), (2, _)]) [1, 2, 0] rfl ?_
          exact ih (i + 1) _ (by omega) ⟨(sgu_n hsb).trans ((sgu_n hsa).trans hX1.1), (sgu_n hab).trans sgu_s, sgu_s, hab⟩ (fun q h1 h2 => (sgu_n h2).trans ((sgu_n h1).trans (hfr q h1 h2)))
  refine aw_iconst (v := 0) C dX6_startWith_0 rfl rfl ?_
  refine aw_istore_n (ls' := [(2, _), (0, _), (1, _)]) C dX6_startWith_1 rfl (by decide) rfl rfl ?_
  refine aw_pick (ls' := [(0, _), (1, _), (2, _)]) [1, 2, 0] rfl ?_
  exact loop 13 0 sg rfl ⟨hX.1, by rw [mix_0]; exact hX.2.1, by rw [mix_0]; exact hX.2.2.1, hab⟩ (fun _ _ _ => rfl)
set_option maxRecDepth 100000 in
theorem C_copyFrom {g : Gx} {l : Launch} {ez : Nat} (G : GOK g l ez) {sg : Sg} {so a b : Nat} {F1 F2 : Nat → Int64} (hX : SHx sg g so a b F1 F2) {so2 a2 b2 : Nat} {f : Nat → Rat} (hH : SH g sg so2 a2 b2 f) (n1 : a2 ≠ a) (n2 : a2 ≠ b) (n3 : b2 ≠ a) (n4 : b2 ≠ b) : MM g l yX6_copyFrom cX6_copyFrom 3 none (rmC 1 0 0) sg [.ref so, .ref so2] (SHp g sg so a b (f)) (noX) := by
  refine MM.of G.1 G.2.1 (by decide) (Nat.le_of_ble_eq_true rfl) (fun x hg hlx C hin hout hargs => ?_)
  subst hg; subst hlx
  have C : AWC x cX6_copyFrom 3 RX6 (rmC 1 0 0) none := C
  show AW x (RQ x _ _ _ _) 0 0 sg 0 [(0, .ref so), (1, .ref so2)] []
  have hsa : so ≠ a := ob_ne hX.1 hX.2.1
  have hsb : so ≠ b := ob_ne hX.1 hX.2.2.1
  have hab := hX.2.2.2
  have hs2a : so2 ≠ a := ob_ne hH.1 hX.2.1
  have hs2b : so2 ≠ b := ob_ne hH.1 hX.2.2.1
  have loop : ∀ (r i : Nat) (s1 : Sg), i + r = 13 → SHx s1 x.g so a b (mix i (fun k => lN (f k).num.toNat) F1) (mix i (fun k => lN (f k).den) F2) → (∀ q, q ≠ a → q ≠ b → s1 q = sg q) → AW x (RQ x (SHp x.g sg so a b (f)) noX (rmC 1 0 0).cells (rmC 1 0 0).slots) 0 0 s1 2 [(0, .ref so), (1, .ref so2), (2, .int (nI i))] [] := by
    intro r
    induction r with
    | zero =>
      intro i s1 hi hX1 hfr
      obtain rfl : i = 13 := by omega
      refine aw_iload_n C dX6_copyFrom_2 rfl rfl rfl ?_
      refine aw_bipush (v := 13) C dX6_copyFrom_3 rfl rfl ?_
      refine aw_icmp_ge (tgt := 38) C dX6_copyFrom_5 (by decide) rfl (fun c5 => ?_) (fun c5 => ?_)
      · exact aw_vret C (Nat.le_of_ble_eq_true rfl) (Nat.le_of_ble_eq_true rfl) ⟨rfl, ⟨hX1.1, hX1.2.1.trans (by rw [mix_n]), hX1.2.2.1.trans (by rw [mix_n]), hab, hH.2.2.2.2⟩, hfr⟩ dX6_copyFrom_38
      · exact absurd c5 (by decide)
    | succ r ih =>
      intro i s1 hi hX1 hfr
      have hi13 : i < 13 := by omega
      have g1 := (hfr so2 hs2a hs2b).trans hH.1
      have g2 := (hfr a2 n1 n2).trans hH.2.1
      have g3 := (hfr b2 n3 n4).trans hH.2.2.1
      refine aw_iload_n C dX6_copyFrom_2 rfl rfl rfl ?_
      refine aw_bipush (v := 13) C dX6_copyFrom_3 rfl rfl ?_
      refine aw_icmp_ge (tgt := 38) C dX6_copyFrom_5 (by decide) rfl (fun c5 => ?_) (fun c5 => ?_)
      · exact absurd c5 (fun h => absurd ((nI_leI (a := 13) (b := i) (by decide) (by omega)).mp h) (by omega))
      · refine aw_aload_n C dX6_copyFrom_8 rfl rfl rfl ?_
        refine aw_getf C f_X6_9 hX1.1 rfl dX6_copyFrom_9 rfl ?_
        refine aw_iload_n C dX6_copyFrom_12 rfl rfl rfl ?_
        refine aw_aload_n C dX6_copyFrom_13 rfl rfl rfl ?_
        refine aw_getf C f_X6_9 g1 rfl dX6_copyFrom_14 rfl ?_
        refine aw_iload_n C dX6_copyFrom_17 rfl rfl rfl ?_
        refine aw_lald C g2 (vp_in_nI hi13 (by decide)) dX6_copyFrom_18 rfl ?_
        rw [nI_clamp (by omega), clip_in hi13]
        refine aw_last C hX1.2.1 (vp_in_nI hi13 (by decide)) dX6_copyFrom_19 rfl ?_
        rw [nI_clamp (by omega), mix_up hi13 rfl]
        refine aw_aload_n C dX6_copyFrom_20 rfl rfl rfl ?_
        refine aw_getf C f_X6_15 ((sgu_n hsa).trans hX1.1) rfl dX6_copyFrom_21 rfl ?_
        refine aw_iload_n C dX6_copyFrom_24 rfl rfl rfl ?_
        refine aw_aload_n C dX6_copyFrom_25 rfl rfl rfl ?_
        refine aw_getf C f_X6_15 ((sgu_n hs2a).trans g1) rfl dX6_copyFrom_26 rfl ?_
        refine aw_iload_n C dX6_copyFrom_29 rfl rfl rfl ?_
        refine aw_lald C ((sgu_n n3).trans g3) (vp_in_nI hi13 (by decide)) dX6_copyFrom_30 rfl ?_
        rw [nI_clamp (by omega), clip_in hi13]
        refine aw_last C ((sgu_n (Ne.symm hab)).trans hX1.2.2.1) (vp_in_nI hi13 (by decide)) dX6_copyFrom_31 rfl ?_
        rw [nI_clamp (by omega), mix_up hi13 rfl]
        refine aw_iinc (v' := nI (i + 1)) (ls' := [(2, _), (0, _), (1, _)]) C dX6_copyFrom_32 rfl (by decide) (nI_1 i) rfl rfl ?_
        refine aw_goto (tgt := 2) C dX6_copyFrom_35 (by decide) ?_
        refine aw_pick (ls' := [(0, _), (1, _), (2, _)]) [1, 2, 0] rfl ?_
        exact ih (i + 1) _ (by omega) ⟨(sgu_n hsb).trans ((sgu_n hsa).trans hX1.1), (sgu_n hab).trans sgu_s, sgu_s, hab⟩ (fun q h1 h2 => (sgu_n h2).trans ((sgu_n h1).trans (hfr q h1 h2)))
  refine aw_iconst (v := 0) C dX6_copyFrom_0 rfl rfl ?_
  refine aw_istore_n (ls' := [(2, _), (0, _), (1, _)]) C dX6_copyFrom_1 rfl (by decide) rfl rfl ?_
  refine aw_pick (ls' := [(0, _), (1, _), (2, _)]) [1, 2, 0] rfl ?_
  exact loop 13 0 sg rfl ⟨hX.1, by rw [mix_0]; exact hX.2.1, by rw [mix_0]; exact hX.2.2.1, hab⟩ (fun _ _ _ => rfl)
def allSm (f : Nat → Rat) : Nat → Bool
  | 0 => true
  | n + 1 => allSm f n && decide ((f n).den ≤ 1000000)
theorem allSm_f {f : Nat → Rat} {i n : Nat} (hi : i < n) (h : ¬ (f i).den ≤ 1000000) : allSm f n = false := by
  induction n with
  | zero => omega
  | succ n ih =>
    rw [allSm]
    by_cases e : i = n
    · subst e; rw [decide_eq_false h, Bool.and_false]
    · rw [ih (by omega), Bool.false_and]
theorem allSm_t {f : Nat → Rat} {n : Nat} : allSm f n = true ↔ ∀ k, k < n → (f k).den ≤ 1000000 := by
  constructor
  · intro h k hk
    apply Classical.byContradiction
    intro z
    rw [allSm_f hk z] at h
    cases h
  · intro h
    induction n with
    | zero => rfl
    | succ n ih => rw [allSm, ih (fun k hk => h k (by omega)), decide_eq_true (h n (by omega))]; rfl
set_option maxRecDepth 100000 in
theorem C_areSmall {g : Gx} {l : Launch} {ez : Nat} (G : GOK g l ez) {sg : Sg} {so a b : Nat} {f : Nat → Rat} (hH : SH g sg so a b f) (hd : ∀ k, k < 13 → (f k).den < 2 ^ 62) : MM g l yX6_areSmall cX6_areSmall 2 (some .boolean) (rmC 1 0 0) sg [.ref so] (PP sg (.int (b2i (allSm f 13)))) (noX) := by
  refine MM.of G.1 G.2.1 (by decide) (Nat.le_of_ble_eq_true rfl) (fun x hg hlx C hin hout hargs => ?_)
  subst hg; subst hlx
  have C : AWC x cX6_areSmall 2 RX6 (rmC 1 0 0) (some .boolean) := C
  show AW x (RQ x _ _ _ _) 0 0 sg 0 [(0, .ref so)] []
  have loop : ∀ (r i : Nat), i + r = 13 → allSm f i = true → AW x (RQ x (PP sg (.int (b2i (allSm f 13)))) noX (rmC 1 0 0).cells (rmC 1 0 0).slots) 0 0 sg 2 [(0, .ref so), (1, .int (nI i))] [] := by
    intro r
    induction r with
    | zero =>
      intro i hi hs
      obtain rfl : i = 13 := by omega
      refine aw_iload_n C dX6_areSmall_2 rfl rfl rfl ?_
      refine aw_bipush (v := 13) C dX6_areSmall_3 rfl rfl ?_
      refine aw_icmp_ge (tgt := 29) C dX6_areSmall_5 (by decide) rfl (fun c5 => ?_) (fun c5 => ?_)
      · refine aw_iconst (v := 1) C dX6_areSmall_29 rfl rfl ?_
        exact aw_iret C (by decide) (Nat.le_of_ble_eq_true rfl) (Nat.le_of_ble_eq_true rfl) (PP.of (by rw [hs]; rfl)) dX6_areSmall_30
      · exact absurd c5 (by decide)
    | succ r ih =>
      intro i hi hs
      have hi13 : i < 13 := by omega
      have hd1 := hd i hi13
      have e6 : (1000000 : Int64) = lN 1000000 := rfl
      refine aw_iload_n C dX6_areSmall_2 rfl rfl rfl ?_
      refine aw_bipush (v := 13) C dX6_areSmall_3 rfl rfl ?_
      refine aw_icmp_ge (tgt := 29) C dX6_areSmall_5 (by decide) rfl (fun c5 => ?_) (fun c5 => ?_)
      · exact absurd c5 (fun h => absurd ((nI_leI (a := 13) (b := i) (by decide) (by omega)).mp h) (by omega))
      · refine aw_aload_n C dX6_areSmall_8 rfl rfl rfl ?_
        refine aw_getf C f_X6_15 hH.1 rfl dX6_areSmall_9 rfl ?_
        refine aw_iload_n C dX6_areSmall_12 rfl rfl rfl ?_
        refine aw_lald C hH.2.2.1 (vp_in_nI hi13 (by decide)) dX6_areSmall_13 rfl ?_
        rw [nI_clamp (by omega), clip_in hi13]
        refine aw_ldc2 C dX6_areSmall_14 q_X6_22 rfl ?_
        refine aw_lcmp C dX6_areSmall_17 rfl ?_
        refine aw_if_le (tgt := 23) C dX6_areSmall_18 (by decide) rfl (fun c18 => ?_) (fun c18 => ?_)
        · refine aw_iinc (v' := nI (i + 1)) (ls' := [(1, _), (0, _)]) C dX6_areSmall_23 rfl (by decide) (nI_1 i) rfl rfl ?_
          refine aw_goto (tgt := 2) C dX6_areSmall_26 (by decide) ?_
          refine aw_pick (ls' := [(0, _), (1, _)]) [1, 0] rfl ?_
          exact ih (i + 1) (by omega) (by rw [allSm, hs, decide_eq_true (by have h1 := lgc_le.mp c18; rw [e6, pk_lLT (by decide) (by omega)] at h1; omega)]; rfl)
        · refine aw_iconst (v := 0) C dX6_areSmall_21 rfl rfl ?_
          exact aw_iret C (by decide) (Nat.le_of_ble_eq_true rfl) (Nat.le_of_ble_eq_true rfl) (PP.of (by rw [allSm_f hi13 (fun z => c18 (lgc_le.mpr (by rw [e6, pk_lLT (by decide) (by omega)]; omega)))]; rfl)) dX6_areSmall_22
  refine aw_iconst (v := 0) C dX6_areSmall_0 rfl rfl ?_
  refine aw_istore_n (ls' := [(1, _), (0, _)]) C dX6_areSmall_1 rfl (by decide) rfl rfl ?_
  refine aw_pick (ls' := [(0, _), (1, _)]) [1, 0] rfl ?_
  exact loop 13 0 rfl rfl
