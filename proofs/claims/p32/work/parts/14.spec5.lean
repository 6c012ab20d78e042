def isEn (u : MU) (v : Int32) : Bool := inB v 0 (nI (u.2.2.1 35) - 1)
def opEntry (u : MU) (v w : Int32) : Op :=
  if isEn u v = false then (1, 0, u) else if inB w 0 3 = false then (2, 0, u)
  else (0, if w = 0 then u.1 36 v.toNatClampNeg else if w = 1 then u.1 37 v.toNatClampNeg else if w = 2 then u.1 38 v.toNatClampNeg else u.1 39 v.toNatClampNeg, u)
def srch (u : MU) (v b : Int32) : Nat → Nat → Nat
  | 0, _ => 0
  | r + 1, e => if e < u.2.2.1 35 ∧ ¬ b < nI e then (if u.1 38 e = v then 1 else 0) + srch u v b r (e + 1) else 0
def opSearch (u : MU) (v a b : Int32) : Op :=
  if isTh u v = false then (1, 0, u) else if a < 0 ∨ ¬ a ≤ b then (2, 0, u) else (0, nI (srch u v b 101 a.toNatClampNeg), u)
def plg (u : MU) (v : Int32) : Nat → Nat → Nat → Int32
  | 0, _, _ => -1
  | r + 1, e, k => if e < u.2.2.1 35 then (if u.1 36 e = 2 ∧ u.1 38 e = v then (if k = 0 then u.1 37 e else plg u v r (e + 1) (k - 1)) else plg u v r (e + 1) k) else -1
def opPledge (u : MU) (v w : Int32) : Op := if isTh u v = false ∨ w < 0 then (1, 0, u) else (0, plg u v 101 0 w.toNatClampNeg, u)
def opShare (u : MU) (v w : Int32) (f : Bool) : Op :=
  if isTh u v = false ∨ (¬ w = -1 ∧ isP u w = false) then (1, 0, u)
  else (0, (if f = true then u.2.1 34 (13 * v.toNatClampNeg + (if w = -1 then 12 else w.toNatClampNeg)) else u.2.1 33 (13 * v.toNatClampNeg + (if w = -1 then 12 else w.toNatClampNeg))).toInt32, u)
theorem upRow_N {u : MU} {t p m : Nat} : (upRow u t p m).2.2 = u.2.2 := by
  induction m with
  | zero => rfl
  | succ m ih => exact ih
theorem upRow_I {u : MU} {t p m : Nat} : (upRow u t p m).1 = u.1 := by
  induction m with
  | zero => rfl
  | succ m ih => exact ih
theorem loseN_N {u : MU} {d m : Nat} : (loseN u d m).2 = u.2 := by
  induction m with
  | zero => rfl
  | succ m ih => exact ih
theorem loseN_29 {u : MU} {d m j : Nat} : (loseN u d m).1 29 j = u.1 29 j := by
  induction m with
  | zero => rfl
  | succ m ih => rw [loseN, uI_I, if_neg (by decide)]; exact ih
