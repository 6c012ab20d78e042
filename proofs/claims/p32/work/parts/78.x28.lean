/-! the class: succession -/
def wi (u : MU) (p : Nat) : Int32 := willN u p (u.2.2.1 10)
def soX (u : MU) (p : Nat) : Nat := (lvCap (lvCh u p) (lvS0 u (wi u p)) (lvA0 u (wi u p))).1
def alX (u : MU) (p : Nat) : Nat := (lvCap (lvCh u p) (lvS0 u (wi u p)) (lvA0 u (wi u p))).2
def tkX (u : MU) (p : Nat) : Int32 := if wi u p = -1 then -1 else u.1 13 (wi u p).toNatClampNeg
def MV (u : MU) (p : Nat) : Mv := (nI p, tkX u p, nI (soX u p), nI (alX u p), nI (hrM u p))
theorem hr_self {u : MU} {p : Nat} {cb : Bool} (h : isCh u p (nI p) = false) : isHr u p p cb = false := by
  rw [isHr, h]
  cases cb <;> simp
theorem lc_heir {u : MU} {p : Nat} {cb : Bool} (h : isCh u p (nI p) = false) {m : Nat} : lcN u p cb m = 0 ↔ heirN u p cb m = 0 := by
  induction m with
  | zero => exact ⟨fun _ => rfl, fun _ => rfl⟩
  | succ m ih =>
    rw [lcN, heirN]
    by_cases e : isHr u m p cb = true
    · have hmp : ¬ m = p := fun z => by rw [z, hr_self h] at e; cases e
      rw [if_pos e, if_pos ⟨hmp, e⟩]
      constructor
      · intro z
        have b : (lcN u p cb m ||| 2 ^ m).testBit m = true := by rw [tb_or, decide_eq_true (rfl : m = m), Bool.or_true]
        rw [z, Nat.zero_testBit] at b
        cases b
      · intro z
        omega
    · rw [if_neg e, if_neg (fun z => e z.2), Nat.add_zero]
      exact ih
theorem lc_ch {u : MU} {p : Nat} (h : isCh u p (nI p) = false) : lvCh u p = !decide (lcN u p true (u.2.2.1 2) = 0) := by
  unfold lvCh
  have := lc_heir (cb := true) h (m := u.2.2.1 2)
  by_cases e : lcN u p true (u.2.2.1 2) = 0
  · rw [decide_eq_true e, decide_eq_false (by have := this.mp e; omega)]
    rfl
  · rw [decide_eq_false e, decide_eq_true (by have := mt this.mpr e; omega)]
    rfl
theorem hr_bit {u : MU} {p : Nat} (h12 : u.2.2.1 2 ≤ 12) (hp : p < 12) (h : isCh u p (nI p) = false) {j : Nat} (hj : j < 13) : (hrM u p).testBit j = lvGets u p (lvCh u p) (lvMany u p) j := by
  have side : ∀ cb, lvCh u p = cb → 0 < heirN u p cb (u.2.2.1 2) → (lcN u p cb (u.2.2.1 2)).testBit j = lvGets u p (lvCh u p) (lvMany u p) j := fun cb ec hpos => by
    rw [lcN_bit, lvMany, ec]
    by_cases e12 : j = 12
    · rw [e12, gets_12, decide_eq_false (by omega), decide_eq_false (by omega), Bool.false_and]
    · rw [gets_lt e12, decide_eq_true hpos, Bool.true_and]
      by_cases ep : j = p
      · rw [ep, hr_self h, Bool.and_false, Bool.and_false, Bool.and_false]
      · rw [decide_eq_false ep, Bool.not_false, Bool.true_and]
  unfold hrM
  by_cases e1 : lcN u p true (u.2.2.1 2) = 0
  · have c1 : lvCh u p = false := by rw [lc_ch h, decide_eq_true e1]; rfl
    rw [if_pos e1]
    by_cases e2 : lcN u p false (u.2.2.1 2) = 0
    · rw [if_pos e2]
      have m0 : lvMany u p = 0 := by rw [lvMany, c1]; exact (lc_heir h).mp e2
      by_cases e12 : j = 12
      · rw [e12, gets_12, m0]
        decide
      · rw [gets_lt e12, m0]
        rw [show (decide (0 < 0) : Bool) = false from rfl, Bool.false_and, Bool.and_false, Bool.and_false]
        have : j < 12 := by omega
        match j, this with
        | 0, _ | 1, _ | 2, _ | 3, _ | 4, _ | 5, _ | 6, _ | 7, _ | 8, _ | 9, _ | 10, _ | 11, _ => decide
        | _ + 12, q => omega
    · rw [if_neg e2]
      exact side false c1 (by have := mt (lc_heir (cb := false) h (m := u.2.2.1 2)).mpr e2; omega)
  · have c1 : lvCh u p = true := by rw [lc_ch h, decide_eq_false e1]; rfl
    rw [if_neg e1]
    exact side true c1 (by have := mt (lc_heir (cb := true) h (m := u.2.2.1 2)).mpr e1; omega)
theorem hr_n {u : MU} {p : Nat} (h12 : u.2.2.1 2 ≤ 12) (hp : p < 12) (h : isCh u p (nI p) = false) : pcn (hrM u p) = lvBy (lvMany u p) := by
  rw [← gets_n (u := u) (p := p) (ch := lvCh u p) (many := lvMany u p) h12 rfl]
  have e : ∀ m, m ≤ 13 → pcb (hrM u p).testBit m = sumN (fun k => if lvGets u p (lvCh u p) (lvMany u p) k = true then 1 else 0) m := fun m hm => by
    induction m with
    | zero => rfl
    | succ m ih => rw [pcb, sumN, ih (by omega), hr_bit h12 hp h (by omega)]
  exact e 13 (Nat.le_refl _)
theorem wi_facts {N : Nat} {u : MU} (hI : CI N u) {p : Nat} (hp : p < u.2.2.1 2) : (wi u p = -1 ∧ lvS0 u (wi u p) = 0 ∧ lvA0 u (wi u p) = 1) ∨ ∃ j x y b, j < u.2.2.1 10 ∧ wi u p = nI j ∧ isW u p j = true ∧ u.1 15 j = nI x ∧ u.1 16 j = nI y ∧ 1 ≤ x ∧ x ≤ y ∧ y ≤ 100 ∧ b < u.2.2.1 2 ∧ u.1 13 j = nI b ∧ b ≠ p ∧ u.1 11 j = 4 ∧ lvS0 u (wi u p) = x ∧ lvA0 u (wi u p) = y := by
  have h60 := hI.n10
  have h12 := hI.n2
  rcases willN_or (u := u) (p := p) (u.2.2.1 10) with q | ⟨j, hj, ej, hi⟩
  · have q2 : wi u p = -1 := q
    exact Or.inl ⟨q2, if_pos q2, if_pos q2⟩
  · right
    have ej2 : wi u p = nI j := ej
    have hn : ¬ wi u p = -1 := by rw [ej2]; exact nI_m1n (by omega)
    have hi2 := hi
    simp only [isW, Bool.and_eq_true, decide_eq_true_eq] at hi2
    obtain ⟨hne, x, y, ex, ey, x1, xy, y1⟩ := hI.I.L j hj hi2.1
    obtain ⟨-, b, hb, eb⟩ := hI.gt hj
    refine ⟨j, x, y, b, hj, ej2, hi, ex, ey, x1, xy, y1, hb, eb, fun z => hne (by rw [hi2.2.1, eb, z]), hi2.1, ?_, ?_⟩
    · rw [lvS0, if_neg hn, ej2, nI_clamp (by omega), ex, nI_clamp (by omega)]
    · rw [lvA0, if_neg hn, ej2, nI_clamp (by omega), ey, nI_clamp (by omega)]
theorem bq_ok {N : Nat} {u : MU} (hI : CI N u) {p : Nat} (hp : p < u.2.2.1 2) (h : isCh u p (nI p) = false) : BqOk p (tkX u p) (soX u p) (alX u p) (hrM u p) := by
  have h12 := hI.n2
  have by1 : 1 ≤ lvBy (lvMany u p) := by unfold lvBy; split <;> omega
  have cap : ∀ s a, s ≤ a → 1 ≤ a → a ≤ 100 → lvS0 u (wi u p) = s → lvA0 u (wi u p) = a → soX u p ≤ alX u p ∧ 1 ≤ alX u p ∧ alX u p ≤ 100 := fun s a h1 h2 h3 e1 e2 => by
    unfold soX alX
    rw [e1, e2]
    have c := cap_f (ch := lvCh u p) h1 h2
    refine ⟨c.1, c.2.1, ?_⟩
    unfold lvCap
    split
    · exact (by decide)
    · exact h3
  have tb : (hrM u p).testBit p = false := by
    rw [hr_bit h12 (by omega) h (by omega), gets_lt (by omega)]
    simp
  have base : soX u p ≤ alX u p ∧ 1 ≤ alX u p ∧ alX u p ≤ 100 ∧ (tkX u p = -1 ∨ ∃ q, q < 13 ∧ q ≠ p ∧ tkX u p = nI q) := by
    rcases wi_facts hI hp with ⟨e, s0, a0⟩ | ⟨j, x, y, b, hj, ej, -, -, -, x1, xy, y1, hb, eb, hbp, -, s0, a0⟩
    · obtain ⟨c1, c2, c3⟩ := cap 0 1 (by decide) (by decide) (by decide) s0 a0
      exact ⟨c1, c2, c3, Or.inl (if_pos e)⟩
    · obtain ⟨c1, c2, c3⟩ := cap x y xy (by omega) y1 s0 a0
      refine ⟨c1, c2, c3, Or.inr ⟨b, by omega, hbp, ?_⟩⟩
      rw [tkX, if_neg (by rw [ej]; exact nI_m1n (by have := hI.n10; omega)), ej, nI_clamp (by have := hI.n10; omega), eb]
  exact ⟨by omega, hrM_lt h12, tb, base.2.2.2, base.1, base.2.1, base.2.2.1, by rw [hr_n h12 (by omega) h]; exact by1⟩
theorem MV_ok {N : Nat} {u : MU} (hI : CI N u) {p : Nat} (hp : p < u.2.2.1 2) (h : isCh u p (nI p) = false) {f : Nat → Rat} : MvOk (MV u p) f := Or.inr ⟨p, soX u p, alX u p, hrM u p, tkX u p, rfl, bq_ok hI hp h⟩
theorem MV_F {N : Nat} {u : MU} (hI : CI N u) {p : Nat} (hp : p < u.2.2.1 2) (h : isCh u p (nI p) = false) {f : Nat → Rat} {k : Nat} (hk : k < 13) : mvF (MV u p) f k = if k = p then 0 else f k + mr ((f p).num.toNat * lvPart u p (wi u p) (soX u p) (alX u p) (lvCh u p) (lvMany u p) k) ((f p).den * alX u p * lvBy (lvMany u p)) := by
  have hB := bq_ok hI hp h
  have h12 := hI.n2
  have by1 : 1 ≤ lvBy (lvMany u p) := by unfold lvBy; split <;> omega
  rw [MV, mv_bq hB]
  obtain ⟨hp13, hh1, hhp, htk, hx, hal, hal2, hcn⟩ := hB
  have d1 : (f p).den * alX u p ≠ 0 := Nat.mul_ne_zero (f p).den_nz (by omega)
  have d2 : (f p).den * alX u p * lvBy (lvMany u p) ≠ 0 := Nat.mul_ne_zero d1 (by omega)
  unfold bqF bqT bqR
  rw [hr_n h12 (by omega) h]
  by_cases ekp : k = p
  · have hne : ¬ nI k = tkX u p := fun z => by
      rcases htk with h1 | ⟨q, hq, hqp, h1⟩
      · rw [h1] at z
        exact nI_m1n (by omega) z
      · rw [h1, nI_eq (by omega) (by omega)] at z
        omega
    rw [if_pos ekp, if_pos ekp, if_neg hne, if_neg (by rw [ekp, hhp]; exact fun z => by cases z.2), Rat.add_zero, Rat.add_zero]
  · rw [if_neg ekp, if_neg ekp]
    have c1 : (nI k = tkX u p) = (¬ wi u p = -1 ∧ nI k = u.1 13 (wi u p).toNatClampNeg) := propext ⟨fun z => by
        unfold tkX at z
        by_cases e : wi u p = -1
        · rw [if_pos e] at z
          exact absurd z (nI_m1n (by omega))
        · rw [if_neg e] at z
          exact ⟨e, z⟩, fun z => by unfold tkX; rw [if_neg z.1]; exact z.2⟩
    have c2 : (k < 13 ∧ (hrM u p).testBit k = true) = (lvGets u p (lvCh u p) (lvMany u p) k = true) := propext ⟨fun z => by rw [← hr_bit h12 (by omega) h hk]; exact z.2, fun z => ⟨hk, by rw [hr_bit h12 (by omega) h hk]; exact z⟩⟩
    unfold lvPart
    simp only [c1, c2]
    by_cases t1 : ¬ wi u p = -1 ∧ nI k = u.1 13 (wi u p).toNatClampNeg
    · simp only [if_pos t1]
      by_cases t2 : lvGets u p (lvCh u p) (lvMany u p) k = true
      · simp only [if_pos t2]
        rw [Rat.add_assoc, ← mr_mul (a := (f p).num.toNat * soX u p) (b := (f p).den * alX u p) (d := lvBy (lvMany u p)) (by omega), mr_same d2, Nat.mul_add, Nat.mul_assoc]
      · simp only [if_neg t2]
        rw [Rat.add_zero, Nat.add_zero, ← mr_mul (a := (f p).num.toNat * soX u p) (b := (f p).den * alX u p) (d := lvBy (lvMany u p)) (by omega), Nat.mul_assoc]
    · simp only [if_neg t1]
      by_cases t2 : lvGets u p (lvCh u p) (lvMany u p) k = true
      · simp only [if_pos t2]
        rw [Rat.add_zero, Nat.zero_add]
      · simp only [if_neg t2]
        rw [Rat.add_zero, Rat.add_zero, Nat.add_zero, Nat.mul_zero, mr_0 d2, Rat.add_zero]
theorem lvN_A {u : MU} {p t : Nat} {w : Int32} {A B so al : Nat} {ch : Bool} {many : Nat} {f : Nat → Rat} (hD : B * al * lvBy many ≠ 0) (hf : ∀ k, k < 13 → HQ u 41 42 (13 * t + k) (f k)) (hF : FOk f) (m : Nat) (hm : m ≤ 13) :
    (lvN u p t w A B so al ch many m).1 = allSm (fun k => f k + mr (A * lvPart u p w so al ch many k) (B * al * lvBy many)) m ∧ ∀ k, k < 13 → HQ (lvN u p t w A B so al ch many m).2 41 42 (13 * t + k) (if k < m then f k + mr (A * lvPart u p w so al ch many k) (B * al * lvBy many) else f k) := by
  induction m with
  | zero => exact ⟨rfl, fun k hk => by rw [if_neg (Nat.not_lt_zero k)]; exact hf k hk⟩
  | succ m ih =>
    obtain ⟨i1, i2⟩ := ih (by omega)
    rw [lvN, allSm]
    by_cases hp : 0 < lvPart u p w so al ch many m
    · rw [if_pos hp]
      have hm2 := i2 m (by omega)
      rw [if_neg (Nat.lt_irrefl m)] at hm2
      obtain ⟨o1, o2⟩ := fOk_up (x := A * lvPart u p w so al ch many m) hm2 (hF.s (by omega)).1 (hF.s (by omega)).2.1 hD
      refine ⟨?_, fun k hk => ?_⟩
      · show (_ && _) = _
        rw [o1, i1, Bool.and_comm]
      · by_cases e : k = m
        · subst e
          rw [if_pos (Nat.lt_succ_self k)]
          exact o2
        · have hk' := i2 k hk
          by_cases l : k < m
          · rw [if_pos l] at hk'
            rw [if_pos (by omega)]
            exact hk'.out (by omega)
          · rw [if_neg l] at hk'
            rw [if_neg (by omega)]
            exact hk'.out (by omega)
    · rw [if_neg hp]
      have z : f m + mr (A * lvPart u p w so al ch many m) (B * al * lvBy many) = f m := by rw [show lvPart u p w so al ch many m = 0 by omega, Nat.mul_zero, mr_0 hD, Rat.add_zero]
      refine ⟨?_, fun k hk => ?_⟩
      · rw [i1, z, decide_eq_true (hF m (by omega)).2.2, Bool.and_true]
      · have hk' := i2 k hk
        by_cases e : k = m
        · subst e
          rw [if_neg (Nat.lt_irrefl k)] at hk'
          rw [if_pos (Nat.lt_succ_self k), z]
          exact hk'
        · by_cases l : k < m
          · rw [if_pos l] at hk'
            rw [if_pos (by omega)]
            exact hk'
          · rw [if_neg l] at hk'
            rw [if_neg (by omega)]
            exact hk'
theorem heirN_I {u w : MU} (h : w.1 = u.1) {p m : Nat} {cb : Bool} : heirN w p cb m = heirN u p cb m := by
  induction m with
  | zero => rfl
  | succ m ih => rw [heirN, heirN, ih, isHr_I h]
theorem willN_I {u w : MU} (h : w.1 = u.1) {p m : Nat} : willN w p m = willN u p m := by
  induction m with
  | zero => rfl
  | succ m ih => rw [willN, willN, ih, isW, isW, wBet, wBet, h]
theorem leaves_A {N : Nat} {u E : MU} (hI : CI N u) (e1 : E.1 = u.1) (e2 : E.2.2 = u.2.2) {p t : Nat} (hp : p < u.2.2.1 2) (h : isCh u p (nI p) = false) {f : Nat → Rat} (hf : ∀ k, k < 13 → HQ E 41 42 (13 * t + k) (f k)) (hF : FOk f) : (leaves E p t).1 = allSm (mvF (MV u p) f) 13 ∧ ∀ k, k < 13 → HQ (leaves E p t).2 41 42 (13 * t + k) (mvF (MV u p) f k) := by
  have h12 := hI.n2
  have ew : willN E p (E.2.2.1 10) = wi u p := by rw [willN_I e1, e2]; rfl
  have ec : lvCh E p = lvCh u p := by rw [lvCh, lvCh, heirN_I e1, e2]
  have em : lvMany E p = lvMany u p := by rw [lvMany, lvMany, heirN_I e1, e2, ec]
  have es : lvS0 E (wi u p) = lvS0 u (wi u p) := by rw [lvS0, lvS0, e1]
  have ea : lvA0 E (wi u p) = lvA0 u (wi u p) := by rw [lvA0, lvA0, e1]
  have sp := hF.s (k := p) (by omega)
  obtain ⟨v1, v2⟩ := (hf p (by omega)).v sp.1 sp.2.1
  have ep : lvPart E p (wi u p) (soX u p) (alX u p) (lvCh u p) (lvMany u p) = lvPart u p (wi u p) (soX u p) (alX u p) (lvCh u p) (lvMany u p) := funext fun k => by
    unfold lvPart lvGets
    rw [e1, e2, isHr_I e1]
  have hX : leavesX E p t = lvN E p t (wi u p) (f p).num.toNat (f p).den (soX u p) (alX u p) (lvCh u p) (lvMany u p) 13 := by
    rw [leavesX, ew, ec, em, es, ea, v1, v2]
    rfl
  obtain ⟨-, -, -, -, -, hal, -, -⟩ := bq_ok hI hp h
  have by1 : 1 ≤ lvBy (lvMany u p) := by unfold lvBy; split <;> omega
  have d2 : (f p).den * alX u p * lvBy (lvMany u p) ≠ 0 := Nat.mul_ne_zero (Nat.mul_ne_zero (f p).den_nz (by omega)) (by omega)
  obtain ⟨a1, a2⟩ := lvN_A (u := E) (p := p) (t := t) (w := wi u p) (A := (f p).num.toNat) (B := (f p).den) (so := soX u p) (al := alX u p) (ch := lvCh u p) (many := lvMany u p) d2 hf hF 13 (Nat.le_refl _)
  rw [ep] at a1 a2
  have hMV := fun k (hk : k < 13) => MV_F hI hp h (f := f) hk
  have pp : lvPart u p (wi u p) (soX u p) (alX u p) (lvCh u p) (lvMany u p) p = 0 := by
    have g : ¬ lvGets u p (lvCh u p) (lvMany u p) p = true := by
      rw [gets_lt (by omega)]
      simp
    rw [lvPart, if_neg g, if_neg]
    rcases wi_facts hI hp with ⟨q, -⟩ | ⟨j, x, y, b, hj, ej, -, -, -, -, -, -, hb, eb, hbp, -⟩
    · exact fun z => z.1 q
    · intro z
      have z2 := z.2
      rw [ej, nI_clamp (by have := hI.n10; omega), eb, nI_eq (by omega) (by omega)] at z2
      exact hbp z2.symm
  have hlv : leaves E p t = ((lvN E p t (wi u p) (f p).num.toNat (f p).den (soX u p) (alX u p) (lvCh u p) (lvMany u p) 13).1, uJ (uJ (lvN E p t (wi u p) (f p).num.toNat (f p).den (soX u p) (alX u p) (lvCh u p) (lvMany u p) 13).2 41 (13 * t + p) 0) 42 (13 * t + p) 1) := by rw [leaves, hX]
  rw [hlv]
  refine ⟨?_, fun k hk => ?_⟩
  · show (lvN E p t (wi u p) (f p).num.toNat (f p).den (soX u p) (alX u p) (lvCh u p) (lvMany u p) 13).1 = _
    rw [a1]
    refine Bool.eq_iff_iff.mpr (allSm_t.trans (Iff.trans ?_ allSm_t.symm))
    constructor
    · intro q k hk
      rw [hMV k hk]
      by_cases e : k = p
      · rw [if_pos e]; decide
      · rw [if_neg e]; exact q k hk
    · intro q k hk
      have q1 := q k hk
      rw [hMV k hk] at q1
      by_cases e : k = p
      · show (f k + mr ((f p).num.toNat * lvPart u p (wi u p) (soX u p) (alX u p) (lvCh u p) (lvMany u p) k) ((f p).den * alX u p * lvBy (lvMany u p))).den ≤ 1000000
        rw [e, pp, Nat.mul_zero, mr_0 d2, Rat.add_zero]
        exact (hF p (by omega)).2.2
      · rw [if_neg e] at q1
        exact q1
  · rw [hMV k hk]
    by_cases e : k = p
    · rw [if_pos e, e]
      refine ⟨by decide, ?_, ?_⟩
      · simp [uJ, vp_updL]
        rfl
      · simp [uJ, vp_updL]
        rfl
    · rw [if_neg e]
      have a3 := a2 k hk
      rw [if_pos hk] at a3
      unfold HQ
      show 0 ≤ _ ∧ (uJ (uJ _ 41 (13 * t + p) 0) 42 (13 * t + p) 1).2.1 41 (13 * t + k) = _ ∧ (uJ (uJ _ 41 (13 * t + p) 0) 42 (13 * t + p) 1).2.1 42 (13 * t + k) = _
      rw [uJ_n (by omega), uJ_n (by omega), uJ_n (by omega), uJ_n (by omega)]
      exact a3
/-- all things that p leaves stay small -/
def dAll (u : MU) (p : Nat) (f : Nat → Nat → Rat) : Nat → Bool
  | 0 => true
  | m + 1 => if (f m p).num.toNat = 0 then dAll u p f m else allSm (mvF (MV u p) (f m)) 13 && dAll u p f m
def dF (u : MU) (p : Nat) (f : Nat → Nat → Rat) (m t : Nat) : Nat → Rat := if t < m ∧ ¬ (f t p).num.toNat = 0 then mvF (MV u p) (f t) else f t
theorem row_pos {u : MU} {i : Nat} {q : Rat} (h : HQ u 33 34 i q) (hq : q.num.toNat < 2 ^ 63) : 0 < u.2.1 33 i ↔ ¬ q.num.toNat = 0 := by
  rw [h.2.1, Int64.lt_iff_toInt_lt, pk_lT hq, show (0 : Int64).toInt = 0 from by decide]
  omega
theorem dieN_A {N : Nat} {u : MU} (hI : CI N u) {p : Nat} (hp : p < u.2.2.1 2) (h : isCh u p (nI p) = false) {f : Nat → Nat → Rat} (hf : ∀ t, t < u.2.2.1 31 → (∀ k, k < 13 → HQ u 33 34 (13 * t + k) (f t k)) ∧ FOk (f t)) {m : Nat} (hm : m ≤ u.2.2.1 31) : (dieN u p m).1 = dAll u p f m ∧ ∀ t, t < u.2.2.1 31 → ∀ k, k < 13 → HQ (dieN u p m).2 41 42 (13 * t + k) (dF u p f m t k) := by
  have h12 := hI.n2
  have h8 := hI.n31
  induction m with
  | zero =>
    refine ⟨rfl, fun t ht k hk => ?_⟩
    rw [dF, if_neg (fun z => Nat.not_lt_zero t z.1)]
    exact lay_HQ (by omega) ((hf t ht).1 k hk)
  | succ m ih =>
    obtain ⟨i1, i2⟩ := ih (by omega)
    have rp := row_pos ((hf m (by omega)).1 p (by omega)) ((hf m (by omega)).2.s (by omega)).1
    rw [dieN, dAll]
    by_cases e : (f m p).num.toNat = 0
    · rw [if_neg (fun z => rp.mp z e), if_pos e]
      refine ⟨i1, fun t ht k hk => ?_⟩
      have i3 := i2 t ht k hk
      by_cases q : t = m
      · rw [dF, if_neg (by rw [q]; exact fun z => z.2 e)]
        rw [dF, if_neg (by rw [q]; exact fun z => z.2 e)] at i3
        exact i3
      · by_cases q2 : t < m ∧ ¬ (f t p).num.toNat = 0
        · rw [dF, if_pos ⟨by omega, q2.2⟩]
          rw [dF, if_pos q2] at i3
          exact i3
        · rw [dF, if_neg (fun z => q2 ⟨by omega, z.2⟩)]
          rw [dF, if_neg q2] at i3
          exact i3
    · rw [if_pos (rp.mpr e), if_neg e]
      have im : ∀ k, k < 13 → HQ (dieN u p m).2 41 42 (13 * m + k) (f m k) := fun k hk => by
        have i3 := i2 m (by omega) k hk
        rw [dF, if_neg (fun z => Nat.lt_irrefl m z.1)] at i3
        exact i3
      obtain ⟨l1, l2⟩ := leaves_A hI dieN_I dieN_N hp h im (hf m (by omega)).2
      refine ⟨?_, fun t ht k hk => ?_⟩
      · show (_ && _) = _
        rw [l1, i1]
      · show HQ (leaves (dieN u p m).2 p m).2 41 42 (13 * t + k) _
        by_cases q : t = m
        · rw [q, dF, if_pos ⟨Nat.lt_succ_self m, e⟩]
          exact l2 k hk
        · have i3 := i2 t ht k hk
          have i4 : HQ (leaves (dieN u p m).2 p m).2 41 42 (13 * t + k) (dF u p f m t k) := by
            unfold HQ
            rw [leaves_n (by omega) (fun i hi => by omega), leaves_n (by omega) (fun i hi => by omega)]
            exact i3
          have e5 : dF u p f (m + 1) t = dF u p f m t := by
            unfold dF
            by_cases q2 : t < m ∧ ¬ (f t p).num.toNat = 0
            · rw [if_pos ⟨by omega, q2.2⟩, if_pos q2]
            · rw [if_neg (fun z => q2 ⟨by omega, z.2⟩), if_neg q2]
          rw [e5]
          exact i4
