theorem nI63 {x y : Int64} : ¬ y < x ↔ x ≤ y := by rw [Int64.lt_iff_toInt_lt, Int64.le_iff_toInt_le]; omega
theorem lgc_le {x y : Int64} : lg_cmp x y ≤ 0 ↔ ¬ y < x := (lg_cmp_le x y).trans nI63.symm
theorem lgc_ge {x y : Int64} : 0 ≤ lg_cmp x y ↔ ¬ x < y := (lg_cmp_ge x y).trans nI63.symm
theorem lgc_gt {x y : Int64} : 0 < lg_cmp x y ↔ y < x := lg_cmp_gt x y
/-- the new rows laid like the old, up to place m -/
def layP (u : MU) (m : Nat) : MU := (u.1, fun a j => if a = 41 then (if j < m then u.2.1 33 j else u.2.1 41 j) else if a = 42 then (if j < m then u.2.1 34 j else u.2.1 42 j) else u.2.1 a j, u.2.2)
def takP (u : MU) (m : Nat) : MU := (u.1, fun a j => if a = 33 then (if j < m then u.2.1 41 j else u.2.1 33 j) else if a = 34 then (if j < m then u.2.1 42 j else u.2.1 34 j) else u.2.1 a j, u.2.2)
theorem layP_0 {u : MU} : layP u 0 = u := by
  obtain ⟨a, b, c⟩ := u
  simp only [layP, Nat.not_lt_zero, if_false, Prod.mk.injEq, true_and, and_true]
  funext k j
  split
  · next h => rw [h]
  · split
    · next h => rw [h]
    · rfl
theorem takP_0 {u : MU} : takP u 0 = u := by
  obtain ⟨a, b, c⟩ := u
  simp only [takP, Nat.not_lt_zero, if_false, Prod.mk.injEq, true_and, and_true]
  funext k j
  split
  · next h => rw [h]
  · split
    · next h => rw [h]
    · rfl
theorem layP_s {u : MU} {m : Nat} : uJ (uJ (layP u m) 41 m (u.2.1 33 m)) 42 m (u.2.1 34 m) = layP u (m + 1) := by
  obtain ⟨a, b, c⟩ := u
  simp only [layP, uJ, Prod.mk.injEq, true_and, and_true]
  funext k j
  by_cases h1 : k = 42
  · subst h1
    simp only [if_true, vp_updL]
    by_cases h2 : j = m
    · subst h2; simp
    · simp only [if_neg h2, show (42 : Nat) = 41 ↔ False by decide, if_false]
      by_cases h3 : j < m
      · rw [if_pos h3, if_pos (by omega)]
      · rw [if_neg h3, if_neg (by omega)]
  · rw [if_neg h1]
    by_cases h0 : k = 41
    · subst h0
      simp only [if_true, vp_updL]
      by_cases h2 : j = m
      · subst h2; simp
      · simp only [if_neg h2]
        by_cases h3 : j < m
        · rw [if_pos h3, if_pos (by omega)]
        · rw [if_neg h3, if_neg (by omega)]
    · simp only [if_neg h0, if_neg h1]
theorem takP_s {u : MU} {m : Nat} : uJ (uJ (takP u m) 33 m (u.2.1 41 m)) 34 m (u.2.1 42 m) = takP u (m + 1) := by
  obtain ⟨a, b, c⟩ := u
  simp only [takP, uJ, Prod.mk.injEq, true_and, and_true]
  funext k j
  by_cases h1 : k = 34
  · subst h1
    simp only [if_true, vp_updL]
    by_cases h2 : j = m
    · subst h2; simp
    · simp only [if_neg h2, show (34 : Nat) = 33 ↔ False by decide, if_false]
      by_cases h3 : j < m
      · rw [if_pos h3, if_pos (by omega)]
      · rw [if_neg h3, if_neg (by omega)]
  · rw [if_neg h1]
    by_cases h0 : k = 33
    · subst h0
      simp only [if_true, vp_updL]
      by_cases h2 : j = m
      · subst h2; simp
      · simp only [if_neg h2]
        by_cases h3 : j < m
        · rw [if_pos h3, if_pos (by omega)]
        · rw [if_neg h3, if_neg (by omega)]
    · simp only [if_neg h0, if_neg h1]
def lay (u : MU) : MU := layP u 104
def tak (u : MU) : MU := takP u 104
def upComes (u : MU) (s w t : Int32) : MU := uN (uI (uI (uI (uI u 36 (u.2.2.1 35) s) 37 (u.2.2.1 35) w) 38 (u.2.2.1 35) t) 39 (u.2.2.1 35) u.2.2.2.1) 35 (u.2.2.1 35 + 1)
