theorem cap_f {ch : Bool} {s a : Nat} (h1 : s ≤ a) (h2 : 1 ≤ a) : (lvCap ch s a).1 ≤ (lvCap ch s a).2 ∧ 1 ≤ (lvCap ch s a).2 ∧ (s = 0 → (lvCap ch s a).1 = 0) := by
  unfold lvCap
  split
  · next h =>
    rw [Bool.and_eq_true, decide_eq_true_eq] at h
    exact ⟨by decide, by decide, fun z => by omega⟩
  · exact ⟨h1, h2, fun z => z⟩
/-- all parts together -/
theorem part_n {u : MU} {p : Nat} {w : Int32} {so al : Nat} {ch : Bool} {many : Nat} (h12 : u.2.2.1 2 ≤ 12) (hm : many = heirN u p ch (u.2.2.1 2)) (hso : so ≤ al) (hw : (w = -1 ∧ so = 0) ∨ (¬ w = -1 ∧ ∃ b, b < 12 ∧ u.1 13 w.toNatClampNeg = nI b)) : sumN (lvPart u p w so al ch many) 13 = al * lvBy many := by
  have e1 : sumN (fun k => if ¬ w = -1 ∧ nI k = u.1 13 w.toNatClampNeg then so * lvBy many else 0) 13 = so * lvBy many := by
    rcases hw with ⟨h, h0⟩ | ⟨h, b, hb, eb⟩
    · rw [h0, Nat.zero_mul]
      rw [sumN_out (f := fun k => if k = 0 then 0 else 0) (fun k hk => by rw [if_neg (fun z => z.1 h), ite_self])]
      exact sumN_one (by decide)
    · rw [sumN_out (f := fun k => if k = b then so * lvBy many else 0) (fun k hk => ?_)]
      · exact sumN_one (by omega)
      · by_cases e : k = b
        · rw [if_pos e, if_pos ⟨h, by rw [e, eb]⟩]
        · rw [if_neg e, if_neg (fun z => e ((nI_eq (by omega) (by omega)).mp (z.2.trans eb)))]
  have e2 : sumN (fun k => if lvGets u p ch many k = true then al - so else 0) 13 = (al - so) * lvBy many := by rw [sumN_mul, gets_n h12 hm]
  have e3 : sumN (lvPart u p w so al ch many) 13 = sumN (fun k => (if ¬ w = -1 ∧ nI k = u.1 13 w.toNatClampNeg then so * lvBy many else 0) + (if lvGets u p ch many k = true then al - so else 0)) 13 := rfl
  rw [e3, sumN_add, e1, e2, ← Nat.add_mul, show so + (al - so) = al by omega]
theorem leaves_H {u : MU} {p t : Nat} {f : Nat → Rat} (hp : p < 12) (h12 : u.2.2.1 2 ≤ 12) (h60 : u.2.2.1 10 ≤ 60) (hD : WD u) (hL : WL u) (hf : ∀ k, k < 13 → HQ u 41 42 (13 * t + k) (f k) ∧ (f k).den ≤ 1000000) (hs : sumQ f 13 = 1) (ok : (leaves u p t).1 = true) :
    ∃ f' : Nat → Rat, (∀ k, k < 13 → HQ (leaves u p t).2 41 42 (13 * t + k) (f' k) ∧ (f' k).den ≤ 1000000) ∧ sumQ f' 13 = 1 := by
  have small : ∀ k, k < 13 → (f k).num.toNat < 2 ^ 63 ∧ (f k).den < 2 ^ 63 := fun k hk => by
    have hle := sumQ_le (f := f) (m := 13) (i := k) (fun j hj => (hf j hj).1.1) hk
    rw [hs] at hle
    have h1 := q_le1 (hf k hk).1.1 hle
    have h2 := (hf k hk).2
    omega
  have hv := (hf p (by omega)).1.v (small p (by omega)).1 (small p (by omega)).2
  obtain ⟨w, hw⟩ : ∃ w, w = willN u p (u.2.2.1 10) := ⟨_, rfl⟩
  obtain ⟨so, hso⟩ : ∃ so, so = (lvCap (lvCh u p) (lvS0 u w) (lvA0 u w)).1 := ⟨_, rfl⟩
  obtain ⟨al, hal⟩ : ∃ al, al = (lvCap (lvCh u p) (lvS0 u w) (lvA0 u w)).2 := ⟨_, rfl⟩
  have hX : leavesX u p t = lvN u p t w (f p).num.toNat (f p).den so al (lvCh u p) (lvMany u p) 13 := by
    rw [leavesX, hv.1, hv.2, ← hw, ← hso, ← hal]
  have hfacts : so ≤ al ∧ 1 ≤ al ∧ ((w = -1 ∧ so = 0) ∨ (¬ w = -1 ∧ ∃ b, b < 12 ∧ b ≠ p ∧ u.1 13 w.toNatClampNeg = nI b)) := by
    rcases willN_or (u := u) (p := p) (u.2.2.1 10) with q | ⟨j, hj, ej, hi⟩
    · rw [← hw] at q
      have s0 : lvS0 u w = 0 := if_pos q
      have a0 : lvA0 u w = 1 := if_pos q
      rw [s0, a0] at hso hal
      have c := cap_f (ch := lvCh u p) (s := 0) (a := 1) (by decide) (by decide)
      rw [← hso, ← hal] at c
      exact ⟨c.1, c.2.1, Or.inl ⟨q, c.2.2 rfl⟩⟩
    · rw [← hw] at ej
      have hn : ¬ w = -1 := by rw [ej]; exact nI_nm1 (by omega)
      have hjc : w.toNatClampNeg = j := by rw [ej]; exact clampI (by omega)
      simp only [isW, Bool.and_eq_true, decide_eq_true_eq] at hi
      obtain ⟨hne, x, y, ex, ey, x1, xy, y1⟩ := hL j hj hi.1
      obtain ⟨-, b, hb, eb⟩ := hD j (by omega)
      have s0 : lvS0 u w = x := by rw [lvS0, if_neg hn, hjc, ex]; exact clampI (by omega)
      have a0 : lvA0 u w = y := by rw [lvA0, if_neg hn, hjc, ey]; exact clampI (by omega)
      rw [s0, a0] at hso hal
      have c := cap_f (ch := lvCh u p) (s := x) (a := y) xy (by omega)
      rw [← hso, ← hal] at c
      exact ⟨c.1, c.2.1, Or.inr ⟨hn, b, hb, fun z => hne (by rw [hi.2.1, eb, z]), by rw [hjc]; exact eb⟩⟩
  obtain ⟨c1, c2, c3⟩ := hfacts
  have hby : 1 ≤ lvBy (lvMany u p) := by
    unfold lvBy
    split <;> omega
  have hD0 : (f p).den * al * lvBy (lvMany u p) ≠ 0 := Nat.mul_ne_zero (Nat.mul_ne_zero (f p).den_nz (by omega)) (by omega)
  have hsum := part_n (p := p) (w := w) (so := so) (al := al) (ch := lvCh u p) (many := lvMany u p) h12 rfl c1 (by
    rcases c3 with q | ⟨q, b, hb, -, eb⟩
    · exact Or.inl q
    · exact Or.inr ⟨q, b, hb, eb⟩)
  have hpp : lvPart u p w so al (lvCh u p) (lvMany u p) p = 0 := by
    have g : ¬ lvGets u p (lvCh u p) (lvMany u p) p = true := by
      rw [gets_lt (by omega)]
      simp
    rw [lvPart, if_neg g, if_neg]
    rcases c3 with ⟨q, -⟩ | ⟨q, b, hb, hne, eb⟩
    · exact fun z => z.1 q
    · exact fun z => hne ((nI_eq (by omega) (by omega)).mp (z.2.trans eb)).symm
  have ok' : (leavesX u p t).1 = true := ok
  rw [hX] at ok'
  have H := lvN_H hD0 hf small 13 (Nat.le_refl _) ok'
  have hlv : (leaves u p t).2 = uJ (uJ (lvN u p t w (f p).num.toNat (f p).den so al (lvCh u p) (lvMany u p) 13).2 41 (13 * t + p) 0) 42 (13 * t + p) 1 := by rw [leaves, hX]
  rw [hlv]
  refine ⟨fun k => if k = p then (fun k => f k + mr ((f p).num.toNat * lvPart u p w so al (lvCh u p) (lvMany u p) k) ((f p).den * al * lvBy (lvMany u p))) k + -(f p) else (fun k => f k + mr ((f p).num.toNat * lvPart u p w so al (lvCh u p) (lvMany u p) k) ((f p).den * al * lvBy (lvMany u p))) k, fun k hk => ?_, ?_⟩
  · have hk' := H k hk
    rw [if_pos hk] at hk'
    by_cases e : k = p
    · simp only [if_pos e]
      rw [e, hpp, Nat.mul_zero, mr_0 hD0, Rat.add_zero, Rat.add_neg_cancel]
      refine ⟨⟨by decide, ?_, ?_⟩, by decide⟩
      · simp [uJ, vp_updL]
        rfl
      · simp [uJ, vp_updL]
        rfl
    · simp only [if_neg e]
      refine ⟨?_, hk'.2⟩
      unfold HQ
      rw [uJ_n (by omega), uJ_n (by omega), uJ_n (by omega), uJ_n (by omega)]
      exact hk'.1
  · rw [sumQ_up (by omega), sumQ_add, hs, sumQ_mr hD0, hsum, Nat.mul_assoc, mr_mul (Nat.mul_ne_zero (by omega) (by omega)), q_mr (hf p (by omega)).1.1, Rat.add_assoc, Rat.add_neg_cancel, Rat.add_zero]
