/-- deeds' persons; chains of powers: who signs by a power closes later -/
def WD (u : MU) : Prop := ∀ d, d < 60 → (∃ a, a < 12 ∧ u.1 12 d = nI a) ∧ ∃ b, b < 12 ∧ u.1 13 d = nI b
def nm (u : MU) (d : Nat) : Nat := (u.1 23 d).toNatClampNeg
def WB (u : MU) : Prop := ∀ d, d < 60 → nm u d ≤ 60 ∧ (u.1 19 d = -1 ∨ ∃ b, b < 60 ∧ u.1 19 d = nI b ∧ (¬ u.1 22 d = 0 → nm u b < nm u d))
def goodEnd (u : MU) (d : Nat) : Int32 := if u.1 22 d = 2 ∧ ¬ u.1 17 d ≤ u.1 24 d + 30 then u.1 24 d + 30 else u.1 17 d
def goodA (u : MU) (d : Nat) : Bool := decide (u.1 11 d = 3) && ((decide (u.1 22 d = 1) || decide (u.1 22 d = 2)) && (!decide (goodEnd u d < u.2.2.2.1) && ((decide (u.1 26 d = 0) || decide (u.1 27 d = 0)) && decide (u.1 6 (u.1 12 d).toNatClampNeg = 0))))
def goodC (u : MU) : Nat → Nat → Bool → Bool
  | 0, _, b => b
  | n + 1, k, b => if b = false then false else if u.1 19 k = -1 then true else goodC u n (u.1 19 k).toNatClampNeg (goodA u (u.1 19 k).toNatClampNeg && !decide (u.1 18 (u.1 19 k).toNatClampNeg = 0))
def good (u : MU) (d : Nat) : Bool := goodC u 61 d (goodA u d)
def isGuard (u : MU) (o p : Nat) : Bool := decide (u.1 6 p = 0) && (decide (u.1 9 p = nI o) && able u o)
/-- one o signs for p the deed d by the power k -/
def signsBy (u : MU) (d o p : Nat) (k : Int32) : Bool := !decide (k = -1) && (decide (u.1 6 p = 0) && (able u o && (good u k.toNatClampNeg && (decide (u.1 12 k.toNatClampNeg = nI p) && (decide (u.1 13 k.toNatClampNeg = nI o) && (decide (u.1 14 k.toNatClampNeg = -1) || decide (u.1 14 k.toNatClampNeg = u.1 14 d)))))))
def opAdd (u : MU) (v w : Int32) : Op :=
  if isDd u v = false then (1, 0, u) else if ¬ w = 4 ∧ ¬ w = 16 then (2, 0, u) else
  if ¬ u.1 22 v.toNatClampNeg = 0 ∨ ¬ u.1 20 v.toNatClampNeg &&& w ≤ 0 then (3, 0, u)
  else (0, u.1 20 v.toNatClampNeg ||| w, uI u 20 v.toNatClampNeg (u.1 20 v.toNatClampNeg ||| w))
def needs (u : MU) (d : Nat) : Int32 := ((5 ||| (if isOfT u d = true then 2 else 0)) ||| (if u.1 11 d = 1 ∨ u.1 11 d = 4 then 8 else 0)) ||| (if ¬ u.1 5 (u.1 12 d).toNatClampNeg = 0 ∨ (isOfT u d = true ∧ ¬ u.1 5 (u.1 13 d).toNatClampNeg = 0) then 16 else 0)
def leastP (u : MU) (d : Nat) : Int32 := if isOfT u d = true then 3 else 1
def stateBy (u : MU) (d : Nat) : Int32 := if u.1 20 d &&& needs u d = needs u d then 1 else if u.1 20 d &&& leastP u d = leastP u d then 2 else 3
def opClose (u : MU) (v : Int32) : Op :=
  if isDd u v = false then (1, 0, u) else
  if ¬ u.1 22 v.toNatClampNeg = 0 ∨ ¬ u.1 6 (u.1 12 v.toNatClampNeg).toNatClampNeg = 0 ∨ ¬ u.1 6 (u.1 13 v.toNatClampNeg).toNatClampNeg = 0 then (2, 0, u)
  else (0, stateBy u v.toNatClampNeg, uI (uI (uI (uN (uI u 22 v.toNatClampNeg (stateBy u v.toNatClampNeg)) 30 (u.2.2.1 30 + 1)) 23 v.toNatClampNeg (nI (u.2.2.1 30 + 1))) 24 v.toNatClampNeg u.2.2.2.1) 29 v.toNatClampNeg 1)
def opDeed (u : MU) (v w : Int32) : Op :=
  if isDd u v = false then (1, 0, u) else if inB w 0 5 = false then (2, 0, u)
  else (0, if w = 0 then u.1 22 v.toNatClampNeg else if w = 1 then u.1 11 v.toNatClampNeg else if w = 2 then u.1 20 v.toNatClampNeg else if w = 3 then u.1 23 v.toNatClampNeg else if w = 4 then u.1 24 v.toNatClampNeg else u.1 25 v.toNatClampNeg, u)
def digits (x : Int32) : Int32 := if x ≤ 9 then 1 else 2
def labelOf (u : MU) (d : Nat) (w : Int32) : Int32 :=
  if w = 0 then letter (u.1 11 d) else
  if ¬ digits (u.1 23 d) < w then ((48 + (if digits (u.1 23 d) ≤ w then u.1 23 d - u.1 23 d / 10 * 10 else u.1 23 d / 10)).toUInt32 % 65536).toInt32 else
  if u.1 22 d = 0 ∨ ¬ w ≤ digits (u.1 23 d) + 2 then 46 else
  if w = digits (u.1 23 d) + 1 then 44 else if u.1 22 d = 1 then 102 else if u.1 22 d = 2 then 108 else 118
def opLabel (u : MU) (v w : Int32) : Op := if isDd u v = false ∨ w < 0 then (1, 0, u) else (0, labelOf u v.toNatClampNeg w, u)
def opRevoke (u : MU) (v : Int32) (t : Bool) : Op :=
  if isDd u v = false then (1, 0, u) else if ¬ u.1 11 v.toNatClampNeg = 3 ∨ u.1 22 v.toNatClampNeg = 0 then (2, 0, u)
  else (0, u.1 26 v.toNatClampNeg, uI (uI u 26 v.toNatClampNeg 1) 27 v.toNatClampNeg (b2i (!decide (u.1 27 v.toNatClampNeg = 0) || t)))
def opIsGood (u : MU) (v : Int32) : Op := if isDd u v = false then (1, 0, u) else (0, b2i (good u v.toNatClampNeg), u)
def opProof (u : MU) (v : Int32) : Op := if isDd u v = false then (1, 0, u) else (0, least u v.toNatClampNeg, u)
def opWitness (u : MU) (v w : Int32) : Op :=
  if isDd u v = false ∨ isP u w = false then (1, 0, u) else
  if ¬ u.1 22 v.toNatClampNeg = 0 ∨ (u.1 21 v.toNatClampNeg >>> (w &&& 31)) &&& 1 = 1 ∨ (able u w.toNatClampNeg && (!decide (w = u.1 12 v.toNatClampNeg) && (!decide (w = u.1 13 v.toNatClampNeg) && (!isKin u w.toNatClampNeg (u.1 12 v.toNatClampNeg).toNatClampNeg && !isKin u w.toNatClampNeg (u.1 13 v.toNatClampNeg).toNatClampNeg)))) = false then (2, 0, u)
  else (0, u.1 20 v.toNatClampNeg ||| (if u.1 21 v.toNatClampNeg = 0 then 0 else 8), uI (uI u 20 v.toNatClampNeg (u.1 20 v.toNatClampNeg ||| (if u.1 21 v.toNatClampNeg = 0 then 0 else 8))) 21 v.toNatClampNeg (u.1 21 v.toNatClampNeg ||| (1 <<< (w &&& 31))))
theorem uI_I {u : MU} {k i a j : Nat} {v : Int32} : (uI u k i v).1 a j = if a = k then (if j = i then v else u.1 k j) else u.1 a j := by
  unfold uI
  dsimp only
  split <;> rfl
theorem uI_N {u : MU} {k i : Nat} {v : Int32} : (uI u k i v).2 = u.2 := rfl
theorem uN_I {u : MU} {k n : Nat} : (uN u k n).1 = u.1 := rfl
theorem nar_letter (s : Int32) : narrow .char (.int (letter s)) = .int (letter s) := by
  unfold letter
  split
  · rfl
  · split
    · rfl
    · split
      · rfl
      · split <;> rfl
theorem deed_w {w : Int32} (h : inB w 0 5 = true) : w = 0 ∨ w = 1 ∨ w = 2 ∨ w = 3 ∨ w = 4 ∨ w = 5 := by
  obtain ⟨p, hp, rfl⟩ := inB_of (n := 6) (by decide) (show inB w 0 (nI 6 - 1) = true from h)
  match p, hp with
  | 0, _ => exact Or.inl rfl
  | 1, _ => exact Or.inr (Or.inl rfl)
  | 2, _ => exact Or.inr (Or.inr (Or.inl rfl))
  | 3, _ => exact Or.inr (Or.inr (Or.inr (Or.inl rfl)))
  | 4, _ => exact Or.inr (Or.inr (Or.inr (Or.inr (Or.inl rfl))))
  | 5, _ => exact Or.inr (Or.inr (Or.inr (Or.inr (Or.inr rfl))))
theorem goodA_state {u : MU} {d : Nat} (h : goodA u d = true) : ¬ u.1 22 d = 0 := by
  intro z
  simp only [goodA, z, Bool.and_eq_true, Bool.or_eq_true, decide_eq_true_eq] at h
  rcases h.2.1 with q | q
  · exact absurd q (by decide)
  · exact absurd q (by decide)
