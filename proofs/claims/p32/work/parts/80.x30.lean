/-! the class: die -/
theorem MV_sum {N : Nat} {u : MU} (hI : CI N u) {p : Nat} (hp : p < u.2.2.1 2) (h : isCh u p (nI p) = false) {f : Nat → Rat} (hF : FOk f) : sumQ (mvF (MV u p) f) 13 = sumQ f 13 := by
  have h12 := hI.n2
  have by1 : 1 ≤ lvBy (lvMany u p) := by unfold lvBy; split <;> omega
  obtain ⟨-, -, -, -, hx, hal, hal2, -⟩ := bq_ok hI hp h
  have d2 : (f p).den * alX u p * lvBy (lvMany u p) ≠ 0 := Nat.mul_ne_zero (Nat.mul_ne_zero (f p).den_nz (by omega)) (by omega)
  have hsum := part_n (p := p) (w := wi u p) (so := soX u p) (al := alX u p) (ch := lvCh u p) (many := lvMany u p) h12 rfl hx (by
    rcases wi_facts hI hp with ⟨q, s0, a0⟩ | ⟨j, x, y, b, hj, ej, -, -, -, -, -, -, hb, eb, hbp, -⟩
    · exact Or.inl ⟨q, by rw [soX, s0, a0, cap_0]⟩
    · exact Or.inr ⟨by rw [ej]; exact nI_m1n (by have := hI.n10; omega), b, by omega, by rw [ej, nI_clamp (by have := hI.n10; omega)]; exact eb⟩)
  have pp : lvPart u p (wi u p) (soX u p) (alX u p) (lvCh u p) (lvMany u p) p = 0 := by
    have g : ¬ lvGets u p (lvCh u p) (lvMany u p) p = true := by
      rw [gets_lt (by omega)]
      simp
    rw [lvPart, if_neg g, if_neg]
    rcases wi_facts hI hp with ⟨q, -⟩ | ⟨j, x, y, b, hj, ej, -, -, -, -, -, -, hb, eb, hbp, -⟩
    · exact fun z => z.1 q
    · intro z
      have z2 := z.2
      rw [ej, nI_clamp (by have := hI.n10; omega), eb, nI_eq (by omega) (by omega)] at z2
      exact hbp z2.symm
  rw [sumQ_out (f := fun k => if k = p then (fun k => f k + mr ((f p).num.toNat * lvPart u p (wi u p) (soX u p) (alX u p) (lvCh u p) (lvMany u p) k) ((f p).den * alX u p * lvBy (lvMany u p))) k + -(f p) else (fun k => f k + mr ((f p).num.toNat * lvPart u p (wi u p) (soX u p) (alX u p) (lvCh u p) (lvMany u p) k) ((f p).den * alX u p * lvBy (lvMany u p))) k) (g := mvF (MV u p) f) (fun k hk => ?_)]
  · rw [sumQ_up (by omega), sumQ_add, sumQ_mr d2, hsum, Nat.mul_assoc, mr_mul (Nat.mul_ne_zero (by omega) (by omega)), q_mr (hF p (by omega)).1, Rat.add_assoc, Rat.add_neg_cancel, Rat.add_zero]
  · rw [MV_F hI hp h hk]
    by_cases e : k = p
    · simp only [if_pos e]
      rw [e, pp, Nat.mul_zero, mr_0 d2, Rat.add_zero, Rat.add_neg_cancel]
    · simp only [if_neg e]
theorem MV_FOk {N : Nat} {u : MU} (hI : CI N u) {p : Nat} (hp : p < u.2.2.1 2) (h : isCh u p (nI p) = false) {f : Nat → Rat} (hF : FOk f) (hs : sumQ f 13 = 1) (hA : allSm (mvF (MV u p) f) 13 = true) : FOk (mvF (MV u p) f) := fun k hk => by
  refine ⟨(mv_den hF (MV_ok hI hp h) hk).1, ?_, allSm_t.mp hA k hk⟩
  have := sumQ_le (f := mvF (MV u p) f) (m := 13) (i := k) (fun j hj => (mv_den hF (MV_ok hI hp h) hj).1) hk
  rw [MV_sum hI hp h hF, hs] at this
  exact this
theorem dAll_t {u : MU} {p : Nat} {f : Nat → Nat → Rat} {m i : Nat} (hi : i < m) (hm : dAll u p f m = true) (h0 : ¬ (f i p).num.toNat = 0) : allSm (mvF (MV u p) (f i)) 13 = true := by
  cases e : allSm (mvF (MV u p) (f i)) 13 with
  | true => rfl
  | false =>
    have : dAll u p f (i + 1) = false := by rw [dAll, if_neg h0, e, Bool.false_and]
    rw [dAll_f hi this] at hm
    cases hm
theorem upC_cg {w v : MU} {r : Nat} {a b t : Int32} (hr : w.1 r = v.1 r) (h2 : w.2.2 = v.2.2) : (upComes w a b t).1 r = (upComes v a b t).1 r ∧ (upComes w a b t).2.2 = (upComes v a b t).2.2 := by
  unfold upComes uN uI
  rw [h2]
  refine ⟨?_, rfl⟩
  by_cases e4 : r = 39
  · subst e4
    simp [hr]
  · by_cases e3 : r = 38
    · subst e3
      simp [hr]
    · by_cases e2 : r = 37
      · subst e2
        simp [hr]
      · by_cases e1 : r = 36
        · subst e1
          simp [hr]
        · simp [e1, e2, e3, e4, hr]
theorem dieE_cg {w v : MU} {p r m : Nat} (hr : w.1 r = v.1 r) (h33 : w.2.1 33 = v.2.1 33) (h2 : w.2.2 = v.2.2) : (dieE w p m).1 r = (dieE v p m).1 r ∧ (dieE w p m).2.2 = (dieE v p m).2.2 := by
  induction m with
  | zero => exact ⟨hr, h2⟩
  | succ m ih =>
    rw [dieE, dieE, h33]
    split
    · exact upC_cg ih.1 ih.2
    · exact ih
theorem dieG_9 {w v : MU} {p m : Nat} (h : w.1 9 = v.1 9) : (dieG w p m).1 9 = (dieG v p m).1 9 := by
  induction m with
  | zero => exact h
  | succ m ih =>
    rw [dieG, dieG]
    unfold uI
    simp only [ih, if_pos (rfl : (9 : Nat) = 9)]
theorem dieG_v {u : MU} {p m j : Nat} : (dieG u p m).1 9 j = -1 ∨ (dieG u p m).1 9 j = u.1 9 j := by
  induction m with
  | zero => exact Or.inr rfl
  | succ m ih =>
    rw [dieG]
    by_cases e : j = m
    · subst e
      rw [uI_at]
      split
      · exact Or.inl rfl
      · exact ih
    · rw [uI_ne (fun z => e z.2.symm)]
      exact ih
def U9 (u : MU) (p : Nat) : MU := dieG (uI u 6 p 1) p (u.2.2.1 2)
def JJ (u : MU) (p i : Nat) : Nat → Nat → Int64 := (tak (dieN u p i).2).2.1
def XX (u : MU) (p i : Nat) : MU := uJJ (dieE (U9 u p) p i) (JJ u p i)
theorem U9_2 {u : MU} {p : Nat} : (U9 u p).2 = u.2 := dieG_2
theorem XX_n {u : MU} {p i k : Nat} (h : k ≠ 35) : (XX u p i).2.2.1 k = u.2.2.1 k := by
  show (dieE (U9 u p) p i).2.2.1 k = _
  rw [dieE_N h, U9_2]
theorem XX_35 {u : MU} {p i : Nat} : (XX u p i).2.2.1 35 = u.2.2.1 35 + dieC u p i := by
  show (dieE (U9 u p) p i).2.2.1 35 = _
  rw [dieE_35, U9_2, dieC_I (u := u) (by rw [U9_2])]
theorem XX_r {u : MU} {p i a : Nat} (h : ¬ a = 36 ∧ ¬ a = 37 ∧ ¬ a = 38 ∧ ¬ a = 39 ∧ ¬ a = 9 ∧ ¬ a = 6) : (XX u p i).1 a = u.1 a := by
  show (dieE (U9 u p) p i).1 a = _
  rw [dieE_k h.1 h.2.1 h.2.2.1 h.2.2.2.1]
  show (dieG (uI u 6 p 1) p (u.2.2.1 2)).1 a = _
  rw [dieG_k h.2.2.2.2.1, uI_k h.2.2.2.2.2]
theorem XX_9 {u : MU} {p i j : Nat} : (XX u p i).1 9 j = -1 ∨ (XX u p i).1 9 j = u.1 9 j := by
  have e : (XX u p i).1 9 = (dieG (uI u 6 p 1) p (u.2.2.1 2)).1 9 := by
    show (dieE (U9 u p) p i).1 9 = _
    rw [dieE_k (by decide) (by decide) (by decide) (by decide)]
    rfl
  rw [e]
  exact dieG_v
theorem XX_et {u : MU} {p i : Nat} (h : ∀ e, e < u.2.2.1 35 → ∃ t, t < u.2.2.1 31 ∧ u.1 38 e = nI t) (hi : i ≤ u.2.2.1 31) : ∀ e, e < (XX u p i).2.2.1 35 → ∃ t, t < u.2.2.1 31 ∧ (XX u p i).1 38 e = nI t := by
  show ∀ e, e < (dieE (U9 u p) p i).2.2.1 35 → ∃ t, t < u.2.2.1 31 ∧ (dieE (U9 u p) p i).1 38 e = nI t
  induction i with
  | zero =>
    intro e he
    have e1 : (dieE (U9 u p) p 0).1 38 = u.1 38 := by
      show (dieG (uI u 6 p 1) p (u.2.2.1 2)).1 38 = _
      rw [dieG_k (by decide)]
      rfl
    rw [e1]
    exact h e (by rw [show (dieE (U9 u p) p 0).2.2.1 35 = u.2.2.1 35 from by show (U9 u p).2.2.1 35 = _; rw [U9_2]] at he; exact he)
  | succ i ih =>
    rw [dieE]
    split
    · intro e he
      have he2 : e < (dieE (U9 u p) p i).2.2.1 35 + 1 := by
        have q : (upComes (dieE (U9 u p) p i) 5 (nI p) (nI i)).2.2.1 35 = (dieE (U9 u p) p i).2.2.1 35 + 1 := uN_at
        omega
      obtain ⟨c1, c2⟩ := upC_38 (X := dieE (U9 u p) p i) (s := 5) (w := nI p) (t := nI i)
      by_cases q : e = (dieE (U9 u p) p i).2.2.1 35
      · rw [q, c2]
        exact ⟨i, by omega, rfl⟩
      · rw [c1 e (by omega)]
        exact ih (by omega) e (by omega)
    · exact ih (by omega)
theorem XX_V {N : Nat} {u : MU} (hI : CI N u) {p i : Nat} (hi : i ≤ u.2.2.1 31) (h100 : u.2.2.1 35 + dieC u p (u.2.2.1 31) ≤ 100) : CV (XX u p i) ∧ WP (XX u p i) ∧ WN (XX u p i) := by
  have hm := dieC_mono (u := u) (p := p) hi
  have n2 := XX_n (u := u) (p := p) (i := i) (k := 2) (by decide)
  have n10 := XX_n (u := u) (p := p) (i := i) (k := 10) (by decide)
  have n30 := XX_n (u := u) (p := p) (i := i) (k := 30) (by decide)
  have n31 := XX_n (u := u) (p := p) (i := i) (k := 31) (by decide)
  have n35 := XX_35 (u := u) (p := p) (i := i)
  refine ⟨⟨⟨by rw [n2]; exact hI.n2, by rw [n10]; exact hI.n10, by rw [n31]; exact hI.n31, by rw [n35]; omega⟩, fun q hq => ?_, ?_, ?_, ?_, ?_⟩, ?_, ?_⟩
  · rw [n2] at hq ⊢
    rcases XX_9 (u := u) (p := p) (i := i) (j := q) with e | e
    · exact Or.inl e
    · rw [e]
      exact hI.gu hq
  · rw [n10, n2, XX_r (a := 12) (by decide), XX_r (a := 13) (by decide)]
    exact fun d hd => hI.gt hd
  · rw [n10, n31, XX_r (a := 14) (by decide)]
    exact fun d hd => hI.th hd
  · rw [n10, XX_r (a := 19) (by decide)]
    exact fun d hd => hI.so hd
  · rw [n31]
    exact XX_et (fun e he => hI.et he) hi
  · intro q hq
    rw [XX_r (a := 8) (by decide)]
    exact hI.P q hq
  · unfold WN
    rw [n2, n10, n30, n31, n35]
    exact ⟨hI.n2, hI.n10, hI.W.2.2.1, hI.n31, by omega⟩
theorem die_w {u : MU} {p : Nat} : dieG (uI (tak (dieE (dieN u p (u.2.2.1 31)).2 p (u.2.2.1 31))) 6 p 1) p (u.2.2.1 2) = XX u p (u.2.2.1 31) := by
  obtain ⟨D, hD⟩ : ∃ D, D = (dieN u p (u.2.2.1 31)).2 := ⟨_, rfl⟩
  have d1 : D.1 = u.1 := by rw [hD]; exact dieN_I
  have d2 : D.2.2 = u.2.2 := by rw [hD]; exact dieN_N
  have d33 : D.2.1 33 = u.2.1 33 := by rw [hD]; exact dieN_k (by decide) (by decide)
  have u33 : (U9 u p).2.1 33 = u.2.1 33 := by rw [U9_2]
  have u22 : (U9 u p).2.2 = u.2.2 := by rw [U9_2]
  unfold XX JJ
  rw [← hD]
  have j1 : (dieE D p (u.2.2.1 31)).2.1 = D.2.1 := dieE_J
  refine Prod.ext (funext fun r => ?_) (Prod.ext ?_ ?_)
  · show (dieG (uI (tak (dieE D p (u.2.2.1 31))) 6 p 1) p (u.2.2.1 2)).1 r = (dieE (U9 u p) p (u.2.2.1 31)).1 r
    by_cases e9 : r = 9
    · subst e9
      rw [dieE_k (by decide) (by decide) (by decide) (by decide)]
      refine dieG_9 ?_
      show (dieE D p (u.2.2.1 31)).1 9 = u.1 9
      rw [dieE_k (by decide) (by decide) (by decide) (by decide), d1]
    · rw [dieG_k e9]
      by_cases e3 : r = 36 ∨ r = 37 ∨ r = 38 ∨ r = 39
      · have e6 : r ≠ 6 := by omega
        rw [uI_k e6]
        refine (dieE_cg (p := p) (m := u.2.2.1 31) ?_ (d33.trans u33.symm) (d2.trans u22.symm)).1
        show D.1 r = (dieG (uI u 6 p 1) p (u.2.2.1 2)).1 r
        rw [dieG_k e9, uI_k e6, d1]
      · rw [dieE_k (u := U9 u p) (by omega) (by omega) (by omega) (by omega)]
        show _ = (dieG (uI u 6 p 1) p (u.2.2.1 2)).1 r
        rw [dieG_k e9]
        have q : (tak (dieE D p (u.2.2.1 31))).1 r = u.1 r := by
          show (dieE D p (u.2.2.1 31)).1 r = _
          rw [dieE_k (by omega) (by omega) (by omega) (by omega), d1]
        by_cases e6 : r = 6
        · subst e6
          show upd ((tak (dieE D p (u.2.2.1 31))).1 6) p 1 = upd (u.1 6) p 1
          rw [q]
        · rw [uI_k e6, uI_k e6, q]
  · show (dieG (uI (tak (dieE D p (u.2.2.1 31))) 6 p 1) p (u.2.2.1 2)).2.1 = (tak D).2.1
    rw [dieG_2]
    show (takP (dieE D p (u.2.2.1 31)) 104).2.1 = (takP D 104).2.1
    unfold takP
    rw [j1]
  · show (dieG (uI (tak (dieE D p (u.2.2.1 31))) 6 p 1) p (u.2.2.1 2)).2.2 = (dieE (U9 u p) p (u.2.2.1 31)).2.2
    rw [dieG_2]
    exact (dieE_cg (r := 8) (p := p) (m := u.2.2.1 31) (by rw [d1]; show u.1 8 = (dieG (uI u 6 p 1) p (u.2.2.1 2)).1 8; rw [dieG_k (by decide)]; rfl) (d33.trans u33.symm) (d2.trans u22.symm)).2
theorem JJ_o {u : MU} {p i s k : Nat} (hp : p < 13) (hs : s < 8) (hsi : s ≠ i) (hk : k < 13) : JJ u p (i + 1) 33 (13 * s + k) = JJ u p i 33 (13 * s + k) ∧ JJ u p (i + 1) 34 (13 * s + k) = JJ u p i 34 (13 * s + k) := by
  have j : 13 * s + k < 104 := by omega
  have t1 : ∀ X : MU, (tak X).2.1 33 (13 * s + k) = X.2.1 41 (13 * s + k) := fun X => by simp [tak, takP, j]
  have t2 : ∀ X : MU, (tak X).2.1 34 (13 * s + k) = X.2.1 42 (13 * s + k) := fun X => by simp [tak, takP, j]
  unfold JJ
  rw [t1, t1, t2, t2, dieN]
  split
  · exact ⟨leaves_n hp (fun q hq => by omega), leaves_n hp (fun q hq => by omega)⟩
  · exact ⟨rfl, rfl⟩
theorem pset6 {ad : Nat → Nat → Nat} {u : MU} {p : Nat} : pcl ad (uI u 6 p 1) p = (pcl ad u p).set 4 (.int 0) := by
  have e : (uI u 6 p 1).1 6 p = 1 := uI_at
  have e2 : pbN (uI u 6 p 1) p = pbN u p := funext fun m => by
    induction m with
    | zero => rfl
    | succ m ih =>
      rw [pbN, pbN, ih]
      rfl
  unfold pcl pbits
  rw [e, e2]
  rfl
theorem fam {N : Nat} {u : MU} (hI : CI N u) : ∃ f : Nat → Nat → Rat, ∀ t, t < u.2.2.1 31 → (∀ k, k < 13 → HQ u 33 34 (13 * t + k) (f t k)) ∧ FOk (f t) ∧ sumQ (f t) 13 = 1 := by
  refine (@Classical.skolem Nat (fun _ => Nat → Rat) (fun t g => t < u.2.2.1 31 → (∀ k, k < 13 → HQ u 33 34 (13 * t + k) (g k)) ∧ FOk g ∧ sumQ g 13 = 1)).mp (fun t => ?_)
  by_cases h : t < u.2.2.1 31
  · obtain ⟨f, a, b, c⟩ := hI.Q.f h
    exact ⟨f, fun _ => ⟨a, b, c⟩⟩
  · exact ⟨fun _ => 0, fun z => absurd z h⟩
