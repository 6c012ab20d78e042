theorem uJ_k {u : MU} {k i a : Nat} {v : Int64} (h : a ≠ k) : (uJ u k i v).2.1 a = u.2.1 a := if_neg h
theorem fPut_k {u : MU} {i x m k : Nat} {p : Bool} (h1 : k ≠ 41) (h2 : k ≠ 42) : (fPut u i x m p).2.1 k = u.2.1 k := by
  unfold fPut
  rw [uJ_k h2, uJ_k h1]
theorem lvN_k {u : MU} {p t : Nat} {w : Int32} {A B so al : Nat} {ch : Bool} {many m k : Nat} (h1 : k ≠ 41) (h2 : k ≠ 42) : (lvN u p t w A B so al ch many m).2.2.1 k = u.2.1 k := by
  induction m with
  | zero => rfl
  | succ m ih =>
    rw [lvN]
    split
    · show (fPut _ _ _ _ _).2.1 k = _
      rw [fPut_k h1 h2]
      exact ih
    · exact ih
theorem leaves_I {u : MU} {p t : Nat} : (leaves u p t).2.1 = u.1 := lvN_I
theorem leaves_N {u : MU} {p t : Nat} : (leaves u p t).2.2.2 = u.2.2 := lvN_N
theorem leaves_k {u : MU} {p t k : Nat} (h1 : k ≠ 41) (h2 : k ≠ 42) : (leaves u p t).2.2.1 k = u.2.1 k := by
  show (uJ (uJ _ 41 _ _) 42 _ _).2.1 k = _
  rw [uJ_k h2, uJ_k h1]
  exact lvN_k h1 h2
theorem leaves_n {u : MU} {p t k j : Nat} (hp : p < 13) (h : ∀ i, i < 13 → j ≠ 13 * t + i) : (leaves u p t).2.2.1 k j = u.2.1 k j := by
  show (uJ (uJ _ 41 _ _) 42 _ _).2.1 k j = _
  rw [uJ_n (h p hp), uJ_n (h p hp)]
  exact lvN_n h
def dieC (u : MU) (p : Nat) : Nat → Nat
  | 0 => 0
  | t + 1 => dieC u p t + (if 0 < u.2.1 33 (13 * t + p) then 1 else 0)
def dieN (u : MU) (p : Nat) : Nat → Bool × MU
  | 0 => (true, lay u)
  | t + 1 => if 0 < u.2.1 33 (13 * t + p) then ((leaves (dieN u p t).2 p t).1 && (dieN u p t).1, (leaves (dieN u p t).2 p t).2) else dieN u p t
def dieE (u : MU) (p : Nat) : Nat → MU
  | 0 => u
  | t + 1 => if 0 < u.2.1 33 (13 * t + p) then upComes (dieE u p t) 5 (nI p) (nI t) else dieE u p t
def dieG (u : MU) (p : Nat) : Nat → MU
  | 0 => u
  | k + 1 => uI (dieG u p k) 9 k (if (dieG u p k).1 9 k = nI p then -1 else (dieG u p k).1 9 k)
def opDie (u : MU) (v : Int32) : Op :=
  if isP u v = false then (1, 0, u) else if ¬ u.1 6 v.toNatClampNeg = 0 then (2, 0, u) else
  if (dieN u v.toNatClampNeg (u.2.2.1 31)).1 = false ∨ 100 < u.2.2.1 35 + dieC u v.toNatClampNeg (u.2.2.1 31) then (2, 0, (dieN u v.toNatClampNeg (u.2.2.1 31)).2)
  else (0, nI (dieC u v.toNatClampNeg (u.2.2.1 31)), dieG (uI (tak (dieE (dieN u v.toNatClampNeg (u.2.2.1 31)).2 v.toNatClampNeg (u.2.2.1 31))) 6 v.toNatClampNeg 1) v.toNatClampNeg (u.2.2.1 2))
theorem dieN_I {u : MU} {p m : Nat} : (dieN u p m).2.1 = u.1 := by
  induction m with
  | zero => rfl
  | succ m ih =>
    rw [dieN]
    split
    · exact leaves_I.trans ih
    · exact ih
theorem dieN_N {u : MU} {p m : Nat} : (dieN u p m).2.2.2 = u.2.2 := by
  induction m with
  | zero => rfl
  | succ m ih =>
    rw [dieN]
    split
    · exact leaves_N.trans ih
    · exact ih
theorem dieN_k {u : MU} {p m k : Nat} (h1 : k ≠ 41) (h2 : k ≠ 42) : (dieN u p m).2.2.1 k = u.2.1 k := by
  induction m with
  | zero =>
    show (lay u).2.1 k = _
    funext j
    simp [lay, layP, h1, h2]
  | succ m ih =>
    rw [dieN]
    split
    · exact (leaves_k h1 h2).trans ih
    · exact ih
theorem dieN_n {u : MU} {p m k j : Nat} (hp : p < 13) (h : 13 * m ≤ j) : (dieN u p m).2.2.1 k j = (lay u).2.1 k j := by
  induction m with
  | zero => rfl
  | succ m ih =>
    rw [dieN]
    split
    · rw [leaves_n hp (fun i hi => by omega)]
      exact ih (by omega)
    · exact ih (by omega)
theorem dieN_R {u : MU} {p m : Nat} (hp : p < 13) (hm : m < 8) (hS : ∀ k, k < 13 → ∃ a b, u.2.1 33 (13 * m + k) = lN a ∧ u.2.1 34 (13 * m + k) = lN b ∧ 0 < b ∧ b ≤ 1000000 ∧ a ≤ b) : WR (dieN u p m).2 m := by
  intro k hk
  obtain ⟨a, b, ea, eb, h⟩ := hS k hk
  refine ⟨a, b, ?_, ?_, h⟩
  · rw [dieN_n hp (by omega), lay_41 (by omega), ea]
  · rw [dieN_n hp (by omega), lay_42 (by omega), eb]
theorem dieC_le {u : MU} {p m : Nat} : dieC u p m ≤ m := by
  induction m with
  | zero => exact Nat.le_refl _
  | succ m ih => rw [dieC]; split <;> omega
theorem dieC_mono {u : MU} {p m k : Nat} (h : m ≤ k) : dieC u p m ≤ dieC u p k := by
  induction k with
  | zero => rw [show m = 0 by omega]; exact Nat.le_refl _
  | succ k ih =>
    by_cases e : m = k + 1
    · rw [e]; exact Nat.le_refl _
    · have := ih (by omega)
      rw [dieC]
      omega
theorem dieC_I {u w : MU} {p m : Nat} (h : w.2.1 33 = u.2.1 33) : dieC w p m = dieC u p m := by
  induction m with
  | zero => rfl
  | succ m ih => rw [dieC, dieC, ih, h]
theorem dieE_J {u : MU} {p m : Nat} : (dieE u p m).2.1 = u.2.1 := by
  induction m with
  | zero => rfl
  | succ m ih =>
    rw [dieE]
    split <;> exact ih
theorem dieE_N {u : MU} {p m k : Nat} (h : k ≠ 35) : (dieE u p m).2.2.1 k = u.2.2.1 k := by
  induction m with
  | zero => rfl
  | succ m ih =>
    rw [dieE]
    split
    · show (if k = 35 then _ else _) = _
      rw [if_neg h]
      exact ih
    · exact ih
theorem dieE_35 {u : MU} {p m : Nat} : (dieE u p m).2.2.1 35 = u.2.2.1 35 + dieC u p m := by
  induction m with
  | zero => rfl
  | succ m ih =>
    rw [dieE, dieC]
    split
    · show (dieE u p m).2.2.1 35 + 1 = _
      rw [ih]
      omega
    · exact ih
theorem dieG_N {u : MU} {p m : Nat} : (dieG u p m).2.2 = u.2.2 := by
  induction m with
  | zero => rfl
  | succ m ih => exact ih
