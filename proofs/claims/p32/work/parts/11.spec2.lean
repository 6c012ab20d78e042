theorem rowLe {u : MU} {n : Nat} (h : n ≤ 60) : ¬ (60 : Int32) ≤ nI n ↔ n < 60 := by
  rw [show (60 : Int32) = nI 60 from rfl, nI_leI (by decide) (by omega)]
  omega
theorem room_of {u : MU} {a b : Nat} (h : WN u) (hr : ¬ b2i (hasRoom u a b) = 0) : u.2.2.1 10 < 60 := by
  rw [b2i_0, Bool.not_eq_false, hasRoom, Bool.and_eq_true] at hr
  exact (rowLe (u := u) h.2.1).mp (by simpa using hr.1)
theorem n12_of {u : MU} (h : WN u) (hr : ¬ nI (u.2.2.1 2) = 12) : u.2.2.1 2 < 12 := by
  have h1 := h.1
  rw [show (12 : Int32) = nI 12 from rfl, nI_eq (by omega) (by decide)] at hr
  omega
theorem n8_of {u : MU} (h : WN u) (hr : ¬ nI (u.2.2.1 31) = 8) : u.2.2.1 31 < 8 := by
  have h1 := h.2.2.2.1
  rw [show (8 : Int32) = nI 8 from rfl, nI_eq (by omega) (by decide)] at hr
  omega
/-- the end of a method that changes the state to w -/
def PU (g : Gx) (ad : Nat → Nat) (sg : Sg) (th : Int32) (r : Option Value) (w : MU) : Option Value → Sg → Prop := fun v s' => v = r ∧ MS g ad th w s' ∧ MF ad sg s'
theorem PU.of {g : Gx} {ad : Nat → Nat} {sg s' : Sg} {th : Int32} {r r' : Option Value} {w : MU} (h : r = r') (hM : MS g ad th w s') (hF : MF ad sg s') : PU g ad sg th r' w r s' := ⟨h, hM, hF⟩
def opChild (u : MU) (v w : Int32) : Op :=
  if isP u v = false ∨ isP u w = false then (1, 0, u) else if w ≤ v then (2, 0, u) else
  if u.1 8 w.toNatClampNeg = 2 ∨ isCh u w.toNatClampNeg v = true ∨ ¬ u.1 6 w.toNatClampNeg = 0 ∨ ¬ u.1 6 v.toNatClampNeg = 0 then (3, 0, u)
  else (0, u.1 8 w.toNatClampNeg + 1, uI (uI u 7 (2 * w.toNatClampNeg + (u.1 8 w.toNatClampNeg).toNatClampNeg) v) 8 w.toNatClampNeg (u.1 8 w.toNatClampNeg + 1))
def opGuard (u : MU) (v w : Int32) : Op :=
  if isP u v = false ∨ (¬ w = -1 ∧ isP u w = false) then (1, 0, u) else if v = w then (2, 0, u) else
  if ¬ u.1 6 v.toNatClampNeg = 0 ∨ (¬ w = -1 ∧ ¬ u.1 6 w.toNatClampNeg = 0) then (3, 0, u)
  else (0, u.1 9 v.toNatClampNeg, uI u 9 v.toNatClampNeg w)
def upRow (u : MU) (t p : Nat) : Nat → MU
  | 0 => u
  | m + 1 => uJ (uJ (upRow u t p m) 33 (13 * t + m) (if m = p then 1 else 0)) 34 (13 * t + m) 1
def opThing (u : MU) (v w : Int32) : Op :=
  if isP u v = false then (1, 0, u) else if inB w 1 1000000 = false then (2, 0, u) else
  if nI (u.2.2.1 31) = 8 ∨ ¬ u.1 6 v.toNatClampNeg = 0 then (3, 0, u)
  else (0, nI (u.2.2.1 31), uN (upRow (uI u 32 (u.2.2.1 31) w) (u.2.2.1 31) v.toNatClampNeg 13) 31 (u.2.2.1 31 + 1))
def opDraft (u : MU) (s a b t x y : Int32) : Op :=
  if isP u a = false ∨ isP u b = false ∨ isTh u t = false then (1, 0, u) else
  if inB s 0 2 = false ∨ inB y 1 100 = false ∨ inB x 1 y = false ∨ a = b then (2, 0, u) else
  if hasRoom u a.toNatClampNeg b.toNatClampNeg = false then (3, 0, u)
  else (0, nI (u.2.2.1 10), upDrafts (uI (uI (uI u 14 (u.2.2.1 10) t) 15 (u.2.2.1 10) x) 16 (u.2.2.1 10) y) s a b)
def opPower (u : MU) (a b t d : Int32) (on : Bool) : Op :=
  if isP u a = false ∨ isP u b = false ∨ (¬ t = -1 ∧ isTh u t = false) then (1, 0, u) else
  if inB d 1 1000 = false ∨ a = b then (2, 0, u) else
  if hasRoom u a.toNatClampNeg b.toNatClampNeg = false then (3, 0, u)
  else (0, nI (u.2.2.1 10), upDrafts (uI (uI (uI u 14 (u.2.2.1 10) t) 17 (u.2.2.1 10) (u.2.2.2.1 + d)) 18 (u.2.2.1 10) (b2i on)) 3 a b)
def opWill (u : MU) (a b x y : Int32) : Op :=
  if isP u a = false ∨ isP u b = false then (1, 0, u) else
  if inB y 1 100 = false ∨ inB x 1 y = false ∨ a = b then (2, 0, u) else
  if hasRoom u a.toNatClampNeg b.toNatClampNeg = false then (3, 0, u)
  else (0, nI (u.2.2.1 10), upDrafts (uI (uI (uI u 14 (u.2.2.1 10) (-1)) 15 (u.2.2.1 10) x) 16 (u.2.2.1 10) y) 4 a b)
/-- the rows' own bounds -/
def WP (u : MU) : Prop := ∀ p, p < 12 → ∃ m, m ≤ 2 ∧ u.1 8 p = nI m
