/-! the class: the trial, and keeping an entry -/
theorem FOk.s {f : Nat → Rat} (h : FOk f) {k : Nat} (hk : k < 13) : (f k).num.toNat < 2 ^ 63 ∧ (f k).den < 2 ^ 63 ∧ (f k).num.toNat ≤ (f k).den := by
  obtain ⟨h1, h2, h3⟩ := h k hk
  have h4 := q_le1 h1 h2
  omega
theorem WQ.f {u : MU} (h : WQ u) {t : Nat} (ht : t < u.2.2.1 31) : ∃ f : Nat → Rat, (∀ k, k < 13 → HQ u 33 34 (13 * t + k) (f k)) ∧ FOk f ∧ sumQ f 13 = 1 := by
  obtain ⟨f, hf, hs⟩ := h t ht
  refine ⟨f, fun k hk => (hf k hk).1, fun k hk => ⟨(hf k hk).1.1, ?_, (hf k hk).2⟩, hs⟩
  have := sumQ_le (f := f) (m := 13) (i := k) (fun j hj => (hf j hj).1.1) hk
  rw [hs] at this
  exact this
theorem HQ.eq {u : MU} {a b i : Nat} {q r : Rat} (h : HQ u a b i q) (h2 : HQ u a b i r) (q1 : q.num.toNat < 2 ^ 63) (q2 : q.den < 2 ^ 63) (r1 : r.num.toNat < 2 ^ 63) (r2 : r.den < 2 ^ 63) : q = r := by
  obtain ⟨e1, e2⟩ := h.v q1 q2
  obtain ⟨e3, e4⟩ := h2.v r1 r2
  rw [← q_mr h.1, ← q_mr h2.1, ← e1, ← e2, ← e3, ← e4]
theorem sq_den {plus : Bool} {q : Rat} {x m K : Nat} (h0 : 0 ≤ q) (hm : 0 < m) (hx : plus = false → x * q.den ≤ q.num.toNat * m) (h1 : q.den ∣ K) (h2 : m ∣ K) (hK : 0 < K) : (q + sq plus x m).den ≤ K := by
  rw [(sq_t h0 hm hx).2]
  exact Nat.le_trans (Nat.div_le_self _ _) (L_lcm q.den_pos hm h1 h2 hK)
theorem bq_0 {f : Nat → Rat} (hf : FOk f) {p y0 al hh : Nat} {tk : Int32} (hB : BqOk p tk y0 al hh) {j : Nat} (hj : j < 13) : 0 ≤ bqF f p tk y0 al hh 0 j ∧ (bqF f p tk y0 al hh 0 j).den ∣ (f j).den * ((f p).den * al) := by
  obtain ⟨hp, hh1, hhp, htk, hx, hal, hal2, hcn⟩ := hB
  have hfj := hf j hj
  have hBalp : 0 < (f p).den * al := Nat.mul_pos (f p).den_pos hal
  have e0 : bqF f p tk y0 al hh 0 j = (if j = p then 0 else f j) + (if nI j = tk then bqT f p y0 al else 0) := by
    unfold bqF
    rw [if_neg (show ¬ (j < 0 ∧ hh.testBit j = true) from fun z => absurd z.1 (Nat.not_lt_zero j)), Rat.add_zero]
  rw [e0]
  by_cases hjp : j = p
  · have hne : ¬ nI j = tk := fun z => by
      rcases htk with h1 | ⟨q, hq, hqp, h1⟩
      · rw [h1] at z
        exact nI_m1n (by omega) z
      · rw [h1, nI_eq (by omega) (by omega)] at z
        omega
    rw [if_pos hjp, if_neg hne, Rat.add_zero]
    exact ⟨Rat.le_refl, by rw [Rat.zero_den]; exact Nat.one_dvd _⟩
  · rw [if_neg hjp]
    by_cases ht : nI j = tk
    · rw [if_pos ht]
      have hd := den_sq (plus := true) (q := f j) (x := (f p).num.toNat * y0) hfj.1 hBalp (fun z => by cases z)
      have hn := sq_ok (plus := true) (q := f j) (x := (f p).num.toNat * y0) hfj.1 hBalp (fun z => by cases z)
      have es : sq true ((f p).num.toNat * y0) ((f p).den * al) = bqT f p y0 al := if_pos rfl
      rw [es] at hd hn
      exact ⟨hn.2.1, hd⟩
    · rw [if_neg ht, Rat.add_zero]
      exact ⟨hfj.1, Nat.dvd_mul_right _ _⟩
theorem bq_den {f : Nat → Rat} (hf : FOk f) {p y0 al hh : Nat} {tk : Int32} (hB : BqOk p tk y0 al hh) {j : Nat} (hj : j < 13) : 0 ≤ bqF f p tk y0 al hh 13 j ∧ (bqF f p tk y0 al hh 13 j).den < 2 ^ 59 := by
  obtain ⟨b0, b1⟩ := bq_0 hf hB hj
  obtain ⟨hp, hh1, hhp, htk, hx, hal, hal2, hcn⟩ := hB
  have c13 : pcn hh ≤ 13 := pcb_le
  have hfj := hf j hj
  have hfp := hf p hp
  have hBal : (f p).den * al ≤ 1000000 * 100 := Nat.mul_le_mul hfp.2.2 hal2
  have hBalp : 0 < (f p).den * al := Nat.mul_pos (f p).den_pos hal
  have hMp : 0 < (f p).den * al * pcn hh := Nat.mul_pos hBalp hcn
  have k1 : (f j).den * ((f p).den * al) * pcn hh ≤ 1000000 * (1000000 * 100) * 13 := Nat.mul_le_mul (Nat.mul_le_mul hfj.2.2 hBal) c13
  have kp : 0 < (f j).den * ((f p).den * al) * pcn hh := Nat.mul_pos (Nat.mul_pos (f j).den_pos hBalp) hcn
  have e0 : bqF f p tk y0 al hh 13 j = bqF f p tk y0 al hh 0 j + (if j < 13 ∧ hh.testBit j = true then bqR f p al hh y0 else 0) := by
    unfold bqF
    rw [if_neg (show ¬ (j < 0 ∧ hh.testBit j = true) from fun z => absurd z.1 (Nat.not_lt_zero j)), Rat.add_zero]
  rw [e0]
  by_cases ht : j < 13 ∧ hh.testBit j = true
  · rw [if_pos ht]
    have es : sq true ((f p).num.toNat * (al - y0)) ((f p).den * al * pcn hh) = bqR f p al hh y0 := if_pos rfl
    have hn := sq_ok (plus := true) (q := bqF f p tk y0 al hh 0 j) (x := (f p).num.toNat * (al - y0)) b0 hMp (fun z => by cases z)
    have hd := sq_den (plus := true) (q := bqF f p tk y0 al hh 0 j) (x := (f p).num.toNat * (al - y0)) (K := (f j).den * ((f p).den * al) * pcn hh) b0 hMp (fun z => by cases z) (Nat.dvd_trans b1 (Nat.dvd_mul_right _ _)) ⟨(f j).den, by rw [Nat.mul_comm _ (f j).den, Nat.mul_assoc]⟩ kp
    rw [es] at hn hd
    exact ⟨hn.2.1, by omega⟩
  · rw [if_neg ht, Rat.add_zero]
    refine ⟨b0, ?_⟩
    have := Nat.le_of_dvd (Nat.mul_pos (f j).den_pos hBalp) b1
    have k2 : (f j).den * ((f p).den * al) ≤ 1000000 * (1000000 * 100) := Nat.mul_le_mul hfj.2.2 hBal
    omega
theorem cy_den {f : Nat → Rat} (hf : FOk f) {p q x y : Nat} (h : CyOk f p q x y) {j : Nat} (hj : j < 13) : 0 ≤ cyF f p q x y j ∧ (cyF f p q x y j).den < 2 ^ 59 := by
  obtain ⟨hp, hq, hpq, hx1, hxy, hy, hs⟩ := h
  have hfj := hf j hj
  have k1 : (f j).den * y ≤ 1000000 * 100 := Nat.mul_le_mul hfj.2.2 hy
  have kp : 0 < (f j).den * y := Nat.mul_pos (f j).den_pos (by omega)
  unfold cyF
  by_cases e1 : j = p
  · rw [if_pos e1]
    have hx : false = false → x * (f j).den ≤ (f j).num.toNat * y := fun _ => by rw [e1]; exact hs
    have := sq_den hfj.1 (by omega) hx (Nat.dvd_mul_right _ _) (Nat.dvd_mul_left _ _) kp
    exact ⟨(sq_ok hfj.1 (by omega) hx).2.1, by omega⟩
  · rw [if_neg e1]
    by_cases e2 : j = q
    · rw [if_pos e2]
      have hx : true = false → x * (f j).den ≤ (f j).num.toNat * y := fun z => by cases z
      have := sq_den hfj.1 (by omega) hx (Nat.dvd_mul_right _ _) (Nat.dvd_mul_left _ _) kp
      exact ⟨(sq_ok hfj.1 (by omega) hx).2.1, by omega⟩
    · rw [if_neg e2]
      exact ⟨hfj.1, by omega⟩
theorem mv_cy {f : Nat → Rat} {p q x y : Nat} (hp : p < 13) (hq : q < 13) (hx : x < 2 ^ 31) (hy : y < 2 ^ 31) : mvF (nI p, nI q, nI x, nI y, 0) f = cyF f p q x y := by
  unfold mvF
  rw [if_pos rfl]
  show cyF f (nI p).toNatClampNeg (nI q).toNatClampNeg (nI x).toNatClampNeg (nI y).toNatClampNeg = _
  rw [nI_clamp (by omega), nI_clamp (by omega), nI_clamp hx, nI_clamp hy]
theorem mv_bq {f : Nat → Rat} {p x al hh : Nat} {tk : Int32} (hB : BqOk p tk x al hh) : mvF (nI p, tk, nI x, nI al, nI hh) f = bqF f p tk x al hh 13 := by
  obtain ⟨hp, hh1, hhp, htk, hx, hal, hal2, hcn⟩ := hB
  have h0 := pcn_0 hcn
  unfold mvF
  rw [if_neg (show ¬ nI hh = 0 from fun z => by rw [show (0 : Int32) = nI 0 from rfl, nI_eq (by omega) (by decide)] at z; exact h0 z)]
  show bqF f (nI p).toNatClampNeg tk (nI x).toNatClampNeg (nI al).toNatClampNeg (nI hh).toNatClampNeg 13 = _
  rw [nI_clamp (by omega), nI_clamp (by omega), nI_clamp (by omega), nI_clamp (by omega)]
theorem mv_den {f : Nat → Rat} {m : Mv} (hf : FOk f) (h : MvOk m f) {j : Nat} (hj : j < 13) : 0 ≤ mvF m f j ∧ (mvF m f j).den < 2 ^ 59 := by
  rcases h with ⟨p, q, x, y, rfl, hC⟩ | ⟨p, x, al, hh, tk, rfl, hB⟩
  · rw [mv_cy hC.1 hC.2.1 (by have := hC; unfold CyOk at this; omega) (by have := hC; unfold CyOk at this; omega)]
    exact cy_den hf hC hj
  · rw [mv_bq hB]
    exact bq_den hf hB hj
/-- what a move asks of the shares, and what it makes of them, lies in the thirteen -/
theorem mv_cg {f h : Nat → Rat} {m : Mv} (e : ∀ k, k < 13 → h k = f k) (hm : MvOk m f) : MvOk m h ∧ ∀ k, k < 13 → mvF m h k = mvF m f k := by
  rcases hm with ⟨p, q, x, y, rfl, hC⟩ | ⟨p, x, al, hh, tk, rfl, hB⟩
  · have hC2 : CyOk h p q x y := by unfold CyOk at hC ⊢; rw [e p hC.1]; exact hC
    refine ⟨Or.inl ⟨p, q, x, y, rfl, hC2⟩, fun k hk => ?_⟩
    have hC3 := hC
    unfold CyOk at hC3
    rw [mv_cy hC.1 hC.2.1 (by omega) (by omega), mv_cy hC.1 hC.2.1 (by omega) (by omega)]
    unfold cyF
    rw [e k hk]
  · refine ⟨Or.inr ⟨p, x, al, hh, tk, rfl, hB⟩, fun k hk => ?_⟩
    rw [mv_bq hB, mv_bq hB]
    unfold bqF bqT bqR
    rw [e k hk, e p hB.1]
def moF (mo : Option (Nat × Mv)) (f : Nat → Rat) : Nat → Rat := match mo with
  | none => f
  | some (_, m) => mvF m f
def moOk (mo : Option (Nat × Mv)) (f : Nat → Rat) : Prop := match mo with
  | none => True
  | some (_, m) => MvOk m f
theorem mo_den {mo : Option (Nat × Mv)} {f : Nat → Rat} (hf : FOk f) (h : moOk mo f) {j : Nat} (hj : j < 13) : 0 ≤ moF mo f j ∧ (moF mo f j).den < 2 ^ 59 := by
  match mo, h with
  | none, _ => exact ⟨(hf j hj).1, by have := (hf j hj).2.2; show (f j).den < 2 ^ 59; omega⟩
  | some (_, m), h => exact mv_den hf h hj
theorem RStep.of {mo : Option (Nat × Mv)} {F : Nat → Rat} (h : moOk mo F) : RStep mo F (moF mo F) := by
  match mo, h with
  | none, _ => exact rfl
  | some (_, m), h => exact ⟨h, rfl⟩
theorem mo_cg {f h : Nat → Rat} {mo : Option (Nat × Mv)} (e : ∀ k, k < 13 → h k = f k) (hm : moOk mo f) : moOk mo h ∧ ∀ k, k < 13 → moF mo h k = moF mo f k := by
  match mo, hm with
  | none, _ => exact ⟨trivial, e⟩
  | some (_, m), hm => exact mv_cg e hm
theorem no5_arJ {g : Gx} {N : Nat} {f : Nat → Int64} {s : Option va_E} {fs : List Value} {c : Nat} (h1 : s = some (ob c fs)) (h2 : s = some (arJ g N f)) : False := ob_ar h1 h2
theorem CS.ne2 {g : Gx} {ez : Nat} {ad : Nat → Nat → Nat} {u : MU} {Y : GS} {sg : Sg} (h : CS g ez ad u Y sg) {k i j n : Nat} {e e' : va_E} (h1 : cel g ez ad u Y k i = some e) (h2 : cel g ez ad u Y j n = some e') (hn : ¬ (k = j ∧ i = n)) : ad k i ≠ ad j n := fun z => hn (h.2.1 k i j n (by rw [h1]; exact fun z => by cases z) (by rw [h2]; exact fun z => by cases z) z)
theorem no5 {g : Gx} {a mq : Nat} {N : Nat} {f : Nat → Int64} {sg : Sg} {fs : List Value} {c : Nat} (h1 : sg a = some (arJ g N f)) (h2 : sg mq = some (ob c fs)) : mq ≠ a := fun z => ob_ar h2 (z ▸ h1)
set_option maxRecDepth 100000 in
theorem C_leavesSmall {g : Gx} {l : Launch} {ez : Nat} (G : GOK g l ez) {sg : Sg} {ad : Nat → Nat → Nat} {u : MU} {Y : GS} (hS : CS g ez ad u Y sg) (h8 : u.2.2.1 31 ≤ 8) {t : Nat} (ht : t < u.2.2.1 31) {f : Nat → Rat} (hq : ∀ k, k < 13 → HQ u 33 34 (13 * t + k) (f k)) (hf : FOk f) {mo : Option (Nat × Mv)} (hmo : moOk mo f) (hmc : ∀ a m, mo = some (a, m) → sg a = some (ob 5 (vcl m))) : MM g l yX8_leavesSmallShares cX8_leavesSmallShares 3 (some .boolean) (rmC 6 0 0) sg [.ref (ad 0 0), .ref (ad 8 t), va_rf (mo.map (fun q => q.1))] (fun v s' => v = some (.int (b2i (allSm (moF mo f) 13))) ∧ ∃ F1 F2, CS g ez ad u (Y.1, Y.2.1, F1, F2) s' ∧ ∀ p, p ≠ ad 10 8 → p ≠ ad 11 8 → s' p = sg p) (noX) := by
  refine MM.of G.1 G.2.1 (by decide) (by cases mo <;> exact Nat.le_of_ble_eq_true rfl) (fun x hg hlx C hin hout hargs => ?_)
  subst hg; subst hlx
  have C : AWC x cX8_leavesSmallShares 3 RX8 (rmC 6 0 0) (some .boolean) := C
  show AW x (RQ x _ _ _ _) 0 0 sg 0 [(0, .ref (ad 0 0)), (1, .ref (ad 8 t)), (2, va_rf (mo.map (fun q => q.1)))] []
  have hX := hS.sx
  have hSt := hS.sh h8 ht hq
  match mo, hmo, hmc with
  | none, hmo, hmc =>
    refine aw_aload_n C dX8_leavesSmallShares_0 rfl rfl rfl ?_
    refine aw_getf C f_X8_28 hS.O rfl dX8_leavesSmallShares_1 rfl ?_
    refine aw_aload_n C dX8_leavesSmallShares_4 rfl rfl rfl ?_
    refine aw_getf C f_X8_307 (hS.T ht) rfl dX8_leavesSmallShares_5 rfl ?_
    refine aw_callVN C k_X8_451 (C_copyFrom G hX hSt (hS.ne2 (cel_10 h8 ht) cel_t10 (by omega)) (hS.ne2 (cel_10 h8 ht) cel_t11 (by omega)) (hS.ne2 (cel_11 h8 ht) cel_t10 (by omega)) (hS.ne2 (cel_11 h8 ht) cel_t11 (by omega))) ⟨by decide, by decide⟩ (ci := 8) rfl hX.1 rfl rfl (Nat.le_of_ble_eq_true rfl) (Nat.le_of_ble_eq_true rfl) (Nat.le_of_ble_eq_true rfl) dX8_leavesSmallShares_8 rfl (fun E s1 hx => ?_) (fun v1 s1 hq => ?_)
    · exact ax_no hx
    obtain ⟨rfl, hH1, hfr1⟩ := hq
    obtain ⟨hS1, -⟩ := hS.tr hH1.2.1 hH1.2.2.1 hfr1
    refine aw_aload_n C dX8_leavesSmallShares_11 rfl rfl rfl ?_
    refine aw_getf C f_X8_28 hS1.O rfl dX8_leavesSmallShares_12 rfl ?_
    refine aw_aload_nN C dX8_leavesSmallShares_15 rfl rfl rfl ?_
    refine cw_callVNv C k_X8_394 (C_carryN G) ⟨by decide, by decide⟩ (ci := 8) rfl hH1.1 rfl rfl (Nat.le_of_ble_eq_true rfl) (Nat.le_of_ble_eq_true rfl) (Nat.le_of_ble_eq_true rfl) dX8_leavesSmallShares_16 rfl ?_
    refine aw_aload_n C dX8_leavesSmallShares_19 rfl rfl rfl ?_
    refine aw_getf C f_X8_28 hS1.O rfl dX8_leavesSmallShares_20 rfl ?_
    refine cw_callVNp C k_X8_455 (C_areSmall G hH1 (fun k hk => by have := (hf k hk).2.2; omega)) ⟨by decide, by decide⟩ (ci := 8) rfl hH1.1 rfl rfl (Nat.le_of_ble_eq_true rfl) (Nat.le_of_ble_eq_true rfl) (Nat.le_of_ble_eq_true rfl) dX8_leavesSmallShares_23 rfl ?_
    exact aw_iret C (nrw_b2i _) (Nat.le_of_ble_eq_true rfl) (Nat.le_of_ble_eq_true rfl) ⟨rfl, _, _, hS1, hfr1⟩ dX8_leavesSmallShares_26
  | some (mq, m), hmo, hmc =>
    refine aw_aload_n C dX8_leavesSmallShares_0 rfl rfl rfl ?_
    refine aw_getf C f_X8_28 hS.O rfl dX8_leavesSmallShares_1 rfl ?_
    refine aw_aload_n C dX8_leavesSmallShares_4 rfl rfl rfl ?_
    refine aw_getf C f_X8_307 (hS.T ht) rfl dX8_leavesSmallShares_5 rfl ?_
    refine aw_callVN C k_X8_451 (C_copyFrom G hX hSt (hS.ne2 (cel_10 h8 ht) cel_t10 (by omega)) (hS.ne2 (cel_10 h8 ht) cel_t11 (by omega)) (hS.ne2 (cel_11 h8 ht) cel_t10 (by omega)) (hS.ne2 (cel_11 h8 ht) cel_t11 (by omega))) ⟨by decide, by decide⟩ (ci := 8) rfl hX.1 rfl rfl (Nat.le_of_ble_eq_true rfl) (Nat.le_of_ble_eq_true rfl) (Nat.le_of_ble_eq_true rfl) dX8_leavesSmallShares_8 rfl (fun E s1 hx => ?_) (fun v1 s1 hq => ?_)
    · exact ax_no hx
    obtain ⟨rfl, hH1, hfr1⟩ := hq
    obtain ⟨hS1, -⟩ := hS.tr hH1.2.1 hH1.2.2.1 hfr1
    refine aw_aload_n C dX8_leavesSmallShares_11 rfl rfl rfl ?_
    refine aw_getf C f_X8_28 hS1.O rfl dX8_leavesSmallShares_12 rfl ?_
    refine aw_aload_n C dX8_leavesSmallShares_15 rfl rfl rfl ?_
    refine aw_callVN C k_X8_394 (C_carry G hH1 ((hfr1 mq (no5 hX.2.1 (hmc mq m rfl)) (no5 hX.2.2.1 (hmc mq m rfl))).trans (hmc mq m rfl)) hf hmo) ⟨by decide, by decide⟩ (ci := 8) rfl hH1.1 rfl rfl (Nat.le_of_ble_eq_true rfl) (Nat.le_of_ble_eq_true rfl) (Nat.le_of_ble_eq_true rfl) dX8_leavesSmallShares_16 rfl (fun E s1 hx => ?_) (fun v1 s1 hq => ?_)
    · exact ax_no hx
    obtain ⟨rfl, hH2, hfr2⟩ := hq
    have hfr := fun p h1 h2 => (hfr2 p h1 h2).trans (hfr1 p h1 h2)
    obtain ⟨hS2, -⟩ := hS.tr hH2.2.1 hH2.2.2.1 hfr
    refine aw_aload_n C dX8_leavesSmallShares_19 rfl rfl rfl ?_
    refine aw_getf C f_X8_28 hS2.O rfl dX8_leavesSmallShares_20 rfl ?_
    refine cw_callVNp C k_X8_455 (C_areSmall G hH2 (fun k hk => Nat.lt_trans (mv_den hf hmo hk).2 (by decide))) ⟨by decide, by decide⟩ (ci := 8) rfl hH2.1 rfl rfl (Nat.le_of_ble_eq_true rfl) (Nat.le_of_ble_eq_true rfl) (Nat.le_of_ble_eq_true rfl) dX8_leavesSmallShares_23 rfl ?_
    exact aw_iret C (nrw_b2i _) (Nat.le_of_ble_eq_true rfl) (Nat.le_of_ble_eq_true rfl) ⟨rfl, _, _, hS2, hfr⟩ dX8_leavesSmallShares_26
