def isW (u : MU) (p d : Nat) : Bool := decide (u.1 11 d = 4) && (decide (u.1 12 d = nI p) && ((decide (u.1 22 d = 1) || decide (u.1 22 d = 2)) && decide (u.1 6 (u.1 13 d).toNatClampNeg = 0)))
def wBet (u : MU) (d : Nat) (b : Int32) : Bool := decide (b = -1) || (decide (u.1 22 d < u.1 22 b.toNatClampNeg) || (decide (u.1 22 d = u.1 22 b.toNatClampNeg) && !decide (u.1 23 d ≤ u.1 23 b.toNatClampNeg)))
def willN (u : MU) (p : Nat) : Nat → Int32
  | 0 => -1
  | m + 1 => if (isW u p m && wBet u m (willN u p m)) = true then nI m else willN u p m
theorem willN_or {u : MU} {p : Nat} (m : Nat) : willN u p m = -1 ∨ ∃ j, j < m ∧ willN u p m = nI j ∧ isW u p j = true := by
  induction m with
  | zero => exact Or.inl rfl
  | succ m ih =>
    rw [willN]
    split
    · next h =>
      rw [Bool.and_eq_true] at h
      exact Or.inr ⟨m, by omega, rfl, h.1⟩
    · rcases ih with h | ⟨j, hj, h, hw⟩
      · exact Or.inl h
      · exact Or.inr ⟨j, by omega, h, hw⟩
def isHr (u : MU) (p q : Nat) (cb : Bool) : Bool := decide (u.1 6 p = 0) && (if cb = true then isCh u p (nI q) else isCh u q (nI p))
def heirN (u : MU) (p : Nat) (cb : Bool) : Nat → Nat
  | 0 => 0
  | m + 1 => heirN u p cb m + (if ¬ m = p ∧ isHr u m p cb = true then 1 else 0)
theorem heirN_le {u : MU} {p : Nat} {cb : Bool} (m : Nat) : heirN u p cb m ≤ m := by
  induction m with
  | zero => exact Nat.le_refl _
  | succ m ih => rw [heirN]; split <;> omega
