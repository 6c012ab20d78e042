def isW (u : MU) (p d : Nat) : Bool := decide (u.1 11 d = 4) && (decide (u.1 12 d = nI p) && ((decide (u.1 22 d = 1) || decide (u.1 22 d = 2)) && decide (u.1 6 (u.1 13 d).toNatClampNeg = 0)))
def wBet (u : MU) (d : Nat) (b : Int32) : Bool := decide (b = -1) || (decide (u.1 22 d < u.1 22 b.toNatClampNeg) || (decide (u.1 22 d = u.1 22 b.toNatClampNeg) && !decide (u.1 23 d ≤ u.1 23 b.toNatClampNeg)))
def willN (u : MU) (p : Nat) : Nat → Int32
  | 0 => -1
  | m + 1 => if (isW u p m && wBet u m (willN u p m)) = true then nI m else willN u p m
theorem willN_or {u : MU} {p : Nat} (m : Nat) : willN u p m = -1 ∨ ∃ j, j < m ∧ willN u p m = nI j ∧ isW u p j = true := by
  induction m with
  | zero => exact Or.inl rfl
  | succ m ih =>
    rw [willN]
    split
    · next h =>
      rw [Bool.and_eq_true] at h
      exact Or.inr ⟨m, by omega, rfl, h.1⟩
    · rcases ih with h | ⟨j, hj, h, hw⟩
      · exact Or.inl h
      · exact Or.inr ⟨j, by omega, h, hw⟩
def isHr (u : MU) (p q : Nat) (cb : Bool) : Bool := decide (u.1 6 p = 0) && (if cb = true then isCh u p (nI q) else isCh u q (nI p))
def heirN (u : MU) (p : Nat) (cb : Bool) : Nat → Nat
  | 0 => 0
  | m + 1 => heirN u p cb m + (if ¬ m = p ∧ isHr u m p cb = true then 1 else 0)
theorem heirN_le {u : MU} {p : Nat} {cb : Bool} (m : Nat) : heirN u p cb m ≤ m := by
  induction m with
  | zero => exact Nat.le_refl _
  | succ m ih => rw [heirN]; split <;> omega
/-- wills: a share, of another one -/
def WL (u : MU) : Prop := ∀ d, d < u.2.2.1 10 → u.1 11 d = 4 → ¬ u.1 12 d = u.1 13 d ∧ ∃ x y, u.1 15 d = nI x ∧ u.1 16 d = nI y ∧ 1 ≤ x ∧ x ≤ y ∧ y ≤ 100
def lvS0 (u : MU) (w : Int32) : Nat := if w = -1 then 0 else (u.1 15 w.toNatClampNeg).toNatClampNeg
def lvA0 (u : MU) (w : Int32) : Nat := if w = -1 then 1 else (u.1 16 w.toNatClampNeg).toNatClampNeg
def lvCap (ch : Bool) (so al : Nat) : Nat × Nat := if (ch && decide (al < 2 * so)) = true then (1, 2) else (so, al)
def lvBy (many : Nat) : Nat := if many = 0 then 1 else many
def lvGets (u : MU) (p : Nat) (ch : Bool) (many k : Nat) : Bool := if k = 12 then decide (many = 0) else decide (k < u.2.2.1 2) && (!decide (k = p) && (decide (0 < many) && isHr u k p ch))
def lvPart (u : MU) (p : Nat) (w : Int32) (so al : Nat) (ch : Bool) (many k : Nat) : Nat := (if ¬ w = -1 ∧ nI k = u.1 13 w.toNatClampNeg then so * lvBy many else 0) + (if lvGets u p ch many k = true then al - so else 0)
def lvN (u : MU) (p t : Nat) (w : Int32) (A B so al : Nat) (ch : Bool) (many : Nat) : Nat → Bool × MU
  | 0 => (true, u)
  | m + 1 => if 0 < lvPart u p w so al ch many m then
      (fOk (lvN u p t w A B so al ch many m).2 (13 * t + m) (A * lvPart u p w so al ch many m) (B * al * lvBy many) true && (lvN u p t w A B so al ch many m).1,
       fPut (lvN u p t w A B so al ch many m).2 (13 * t + m) (A * lvPart u p w so al ch many m) (B * al * lvBy many) true)
    else lvN u p t w A B so al ch many m
def lvCh (u : MU) (p : Nat) : Bool := decide (0 < heirN u p true (u.2.2.1 2))
def lvMany (u : MU) (p : Nat) : Nat := heirN u p (lvCh u p) (u.2.2.1 2)
def leavesX (u : MU) (p t : Nat) : Bool × MU := lvN u p t (willN u p (u.2.2.1 10)) (vN (u.2.1 41 (13 * t + p))) (vN (u.2.1 42 (13 * t + p))) (lvCap (lvCh u p) (lvS0 u (willN u p (u.2.2.1 10))) (lvA0 u (willN u p (u.2.2.1 10)))).1 (lvCap (lvCh u p) (lvS0 u (willN u p (u.2.2.1 10))) (lvA0 u (willN u p (u.2.2.1 10)))).2 (lvCh u p) (lvMany u p) 13
def leaves (u : MU) (p t : Nat) : Bool × MU := ((leavesX u p t).1, uJ (uJ (leavesX u p t).2 41 (13 * t + p) 0) 42 (13 * t + p) 1)
theorem lvN_I {u : MU} {p t : Nat} {w : Int32} {A B so al : Nat} {ch : Bool} {many m : Nat} : (lvN u p t w A B so al ch many m).2.1 = u.1 := by
  induction m with
  | zero => rfl
  | succ m ih => rw [lvN]; split <;> exact ih
theorem lvN_N {u : MU} {p t : Nat} {w : Int32} {A B so al : Nat} {ch : Bool} {many m : Nat} : (lvN u p t w A B so al ch many m).2.2.2 = u.2.2 := by
  induction m with
  | zero => rfl
  | succ m ih => rw [lvN]; split <;> exact ih
theorem lvN_n {u : MU} {p t : Nat} {w : Int32} {A B so al : Nat} {ch : Bool} {many m k j : Nat} (h : ∀ i, i < m → j ≠ 13 * t + i) : (lvN u p t w A B so al ch many m).2.2.1 k j = u.2.1 k j := by
  induction m with
  | zero => rfl
  | succ m ih =>
    have h1 := ih (fun i hi => h i (by omega))
    rw [lvN]
    split
    · show (fPut _ _ _ _ _).2.1 k j = _
      rw [fPut_n (h m (by omega))]
      exact h1
    · exact h1
theorem isHr_I {u w : MU} (h : w.1 = u.1) {p q : Nat} {cb : Bool} : isHr w p q cb = isHr u p q cb := by rw [isHr, isHr, isCh_I h, isCh_I h, h]
/-- the scratch rows of a thing hold shares -/
def WR (u : MU) (t : Nat) : Prop := ∀ k, k < 13 → ∃ a b, u.2.1 41 (13 * t + k) = lN a ∧ u.2.1 42 (13 * t + k) = lN b ∧ 0 < b ∧ b ≤ 1000000 ∧ a ≤ b
