def gv (u : MU) (d : Nat) (ig : Bool) : Int32 := if ig = true then u.1 12 d else u.1 13 d
def prt (ig : Bool) : Int32 := if ig = true then 1 else 2
def sgAlone (u : MU) (d o : Nat) (ig : Bool) : Bool := decide (nI o = gv u d ig) && able u (gv u d ig).toNatClampNeg
def sgGuards (u : MU) (d o : Nat) (ig : Bool) : Bool := !decide (nI o = gv u d (!ig)) && (isGuard u o (gv u d ig).toNatClampNeg && !decide (u.1 11 d = 4))
def sgSigns (u : MU) (d o : Nat) (ig : Bool) (k : Int32) : Bool := !decide (nI o = gv u d (!ig)) && (signsBy u d o (gv u d ig).toNatClampNeg k && !decide (u.1 11 d = 4))
def sgCan (u : MU) (d o : Nat) (ig : Bool) (k : Int32) : Bool := (sgAlone u d o ig || (sgGuards u d o ig || sgSigns u d o ig k)) && (!decide (u.1 11 d = 4) || ig)
def opSign (u : MU) (v w : Int32) (ig : Bool) (k : Int32) : Op :=
  if isDd u v = false ∨ isP u w = false ∨ (¬ k = -1 ∧ isDd u k = false) then (1, 0, u) else
  if ¬ u.1 22 v.toNatClampNeg = 0 ∨ 0 < u.1 20 v.toNatClampNeg &&& prt ig ∨ sgCan u v.toNatClampNeg w.toNatClampNeg ig k = false then (2, 0, u)
  else (0, u.1 20 v.toNatClampNeg ||| prt ig, if (ig && (!sgAlone u v.toNatClampNeg w.toNatClampNeg ig && !sgGuards u v.toNatClampNeg w.toNatClampNeg ig)) = true then uI (uI u 20 v.toNatClampNeg (u.1 20 v.toNatClampNeg ||| prt ig)) 19 v.toNatClampNeg k else uI u 20 v.toNatClampNeg (u.1 20 v.toNatClampNeg ||| prt ig))
/-- papers: at most four, the grades known numbers, at most one above the least -/
def WG (N : Nat) (u : MU) : Prop := ∀ d, d < 60 → ∃ m, m ≤ 4 ∧ u.1 29 d = nI m ∧ ∃ a, a ≤ N ∧ u.1 28 (4 * d) = nI a ∧ ∀ j, j < m → ∃ b, b ≤ a + 1 ∧ u.1 28 (4 * d + j) = nI b
def opCopy (u : MU) (v : Int32) : Op :=
  if isDd u v = false then (1, 0, u) else if u.1 29 v.toNatClampNeg = 0 ∨ u.1 29 v.toNatClampNeg = 4 then (2, 0, u)
  else (0, u.1 28 (4 * v.toNatClampNeg) + 1, uI (uI u 28 (4 * v.toNatClampNeg + (u.1 29 v.toNatClampNeg).toNatClampNeg) (u.1 28 (4 * v.toNatClampNeg) + 1)) 29 v.toNatClampNeg (u.1 29 v.toNatClampNeg + 1))
def loseN (u : MU) (d : Nat) : Nat → MU
  | 0 => u
  | m + 1 => uI (loseN u d m) 28 (4 * d + m) ((loseN u d m).1 28 (4 * d + (m + 1)))
def opLose (u : MU) (v : Int32) : Op :=
  if isDd u v = false then (1, 0, u) else if u.1 29 v.toNatClampNeg = 0 then (2, 0, u)
  else (0, least (loseN (uI u 29 v.toNatClampNeg (u.1 29 v.toNatClampNeg - 1)) v.toNatClampNeg ((u.1 29 v.toNatClampNeg).toNatClampNeg - 1)) v.toNatClampNeg, loseN (uI u 29 v.toNatClampNeg (u.1 29 v.toNatClampNeg - 1)) v.toNatClampNeg ((u.1 29 v.toNatClampNeg).toNatClampNeg - 1))
