/-! what the answers are, over the state u -/
theorem clampI {n : Nat} (h : n < 2 ^ 31) : (nI n).toNatClampNeg = n := nI_clamp h
def inB (v lo hi : Int32) : Bool := !decide (v < lo) && !decide (hi < v)
theorem tr_of {b : Bool} (h : ¬ b2i b = 0) : b = true := by cases b with | true => rfl | false => exact absurd rfl h
theorem fa_of {b : Bool} (h : b2i b = 0) : b = false := b2i_0.mp h
theorem inB_t {v lo hi : Int32} : inB v lo hi = true ↔ ¬ v < lo ∧ ¬ hi < v := by simp [inB]
theorem inB_f {v lo hi : Int32} : inB v lo hi = false ↔ v < lo ∨ hi < v := by
  rw [← Bool.not_eq_true, inB_t]
  exact ⟨fun h => by by_cases a : v < lo; exact Or.inl a; exact Or.inr (Classical.byContradiction fun b => h ⟨a, b⟩), fun h k => h.elim k.1 k.2⟩
theorem nI_m1 {n : Nat} (hn : n < 2 ^ 30) : (nI n - 1).toInt = (n : Int) - 1 := by
  have h := pk_sub_toInt (a := n) (b := 1) (by omega) (by decide)
  exact h
theorem inB_of {n : Nat} {v : Int32} (hn : n < 2 ^ 30) (h : inB v 0 (nI n - 1) = true) : ∃ p, p < n ∧ v = nI p := by
  rw [inB_t, Int32.lt_iff_toInt_lt, Int32.lt_iff_toInt_lt, nI_m1 hn, Int32.toInt_zero] at h
  obtain ⟨h1, h2⟩ := h
  obtain ⟨j, hj, e⟩ := nI_of (x := v) (by rw [Int32.lt_iff_toInt_lt, Int32.toInt_zero]; exact h1)
  subst e
  rw [nI_toInt hj] at h2
  exact ⟨j, by omega, rfl⟩
theorem inB_in {n p : Nat} (hn : n < 2 ^ 30) (h : p < n) : inB (nI p) 0 (nI n - 1) = true := by
  rw [inB_t, Int32.lt_iff_toInt_lt, Int32.lt_iff_toInt_lt, nI_m1 hn, Int32.toInt_zero, nI_toInt (by omega)]
  omega
def isP (u : MU) (v : Int32) : Bool := inB v 0 (nI (u.2.2.1 2) - 1)
def isDd (u : MU) (v : Int32) : Bool := inB v 0 (nI (u.2.2.1 10) - 1)
def isTh (u : MU) (v : Int32) : Bool := inB v 0 (nI (u.2.2.1 31) - 1)
/-- the counters' bounds -/
def WN (u : MU) : Prop := u.2.2.1 2 ≤ 12 ∧ u.2.2.1 10 ≤ 60 ∧ u.2.2.1 30 ≤ 60 ∧ u.2.2.1 31 ≤ 8 ∧ u.2.2.1 35 ≤ 100
theorem isP_of {u : MU} {v : Int32} (h : WN u) (hv : isP u v = true) : ∃ p, p < u.2.2.1 2 ∧ v = nI p := inB_of (by have := h.1; omega) hv
theorem isDd_of {u : MU} {v : Int32} (h : WN u) (hv : isDd u v = true) : ∃ p, p < u.2.2.1 10 ∧ v = nI p := inB_of (by have := h.2.1; omega) hv
theorem isTh_of {u : MU} {v : Int32} (h : WN u) (hv : isTh u v = true) : ∃ p, p < u.2.2.1 31 ∧ v = nI p := inB_of (by have := h.2.2.2.1; omega) hv
theorem isP_in {u : MU} {p : Nat} (h : WN u) (hp : p < u.2.2.1 2) : isP u (nI p) = true := inB_in (by have := h.1; omega) hp
theorem isDd_in {u : MU} {p : Nat} (h : WN u) (hp : p < u.2.2.1 10) : isDd u (nI p) = true := inB_in (by have := h.2.1; omega) hp
theorem isTh_in {u : MU} {p : Nat} (h : WN u) (hp : p < u.2.2.1 31) : isTh u (nI p) = true := inB_in (by have := h.2.2.2.1; omega) hp
/-- p has parent v among its first m parents -/
def isChN (u : MU) (p : Nat) (v : Int32) : Nat → Bool
  | 0 => false
  | m + 1 => isChN u p v m || decide (u.1 7 (2 * p + m) = v)
def isCh (u : MU) (p : Nat) (v : Int32) : Bool := isChN u p v (u.1 8 p).toNatClampNeg
def able (u : MU) (p : Nat) : Bool := decide (u.1 6 p = 0) && (decide (u.1 9 p = -1) && !decide (u.1 3 p + (u.2.2.2.1 - u.1 4 p) / 360 < 18))
def isKin (u : MU) (a b : Nat) : Bool := isCh u a (nI b) || isCh u b (nI a)
def hasRoom (u : MU) (g t : Nat) : Bool := !decide (60 ≤ nI (u.2.2.1 10)) && (decide (u.1 6 g = 0) && decide (u.1 6 t = 0))
def upDrafts (u : MU) (s g t : Int32) : MU := uN (uI (uI (uI (uI (uI (uI u 11 (u.2.2.1 10) s) 12 (u.2.2.1 10) g) 13 (u.2.2.1 10) t) 19 (u.2.2.1 10) (-1)) 24 (u.2.2.1 10) (-1)) 25 (u.2.2.1 10) (-1)) 10 (u.2.2.1 10 + 1)
def isOfT (u : MU) (d : Nat) : Bool := !decide (2 < u.1 11 d)
def least (u : MU) (d : Nat) : Int32 := if u.1 29 d = 0 then -1 else u.1 28 (4 * d)
def letter (s : Int32) : Int32 := if s = 0 then 83 else if s = 1 then 71 else if s = 2 then 80 else if s = 3 then 65 else 87
/-- a call of the face: what it throws (0: nothing), what it answers, the state behind it -/
abbrev Op : Type := Int32 × Int32 × MU
def opPerson (u : MU) (y : Int32) (f : Bool) : Op :=
  if inB y 0 99 = false then (1, 0, u) else if nI (u.2.2.1 2) = 12 then (2, 0, u) else (0, nI (u.2.2.1 2), uN (uI (uI (uI (uI u 3 (u.2.2.1 2) y) 4 (u.2.2.1 2) u.2.2.2.1) 5 (u.2.2.1 2) (b2i f)) 9 (u.2.2.1 2) (-1)) 2 (u.2.2.1 2 + 1))
def opIsAble (u : MU) (v : Int32) : Op := if isP u v = false then (1, 0, u) else (0, b2i (able u v.toNatClampNeg), u)
def opPass (u : MU) (d : Int32) : Op := if inB d 1 10000 = false then (1, 0, u) else (0, u.2.2.2.1 + d, uD u (u.2.2.2.1 + d))
/-- the end of a call of the face -/
def PO (g : Gx) (ad : Nat → Nat) (sg : Sg) (o : Op) : Option Value → Sg → Prop := fun v s' => v = some (.int o.2.1) ∧ MS g ad o.1 o.2.2 s' ∧ MF ad sg s'
theorem PO.of {g : Gx} {ad : Nat → Nat} {sg s' : Sg} {o : Op} {t r : Int32} {w : MU} (h : o = (t, r, w)) (hM : MS g ad t w s') (hF : MF ad sg s') : PO g ad sg o (some (.int r)) s' := by
  subst h
  exact ⟨rfl, hM, hF⟩
/-- the end of a method that changes nothing -/
def PP (sg : Sg) (w : Value) : Option Value → Sg → Prop := fun v s' => v = some w ∧ s' = sg
theorem PP.of {sg : Sg} {w w' : Value} (h : w = w') : PP sg w' (some w) sg := by subst h; exact ⟨rfl, rfl⟩
section MC
variable {x : Cx} {Q : State → Prop} {sg : Sg} {pc : Nat} {ls : List (Nat × Value)} {st st0 : List Value} {cc : ByteArray} {nL : Nat} {own : String} {R : Room} {ret : Option FieldType} {pc' : Nat} {ad : Nat → Nat} {th : Int32} {u : MU}
variable {idx np maxL h : Nat} {y : MethodName} {bytes : ByteArray} {rt : Option FieldType} {As : List Value} {P : Option Value → Sg → Prop}
theorem ax_no {k n : Nat} {E : String} {sg' : Sg} (h : noX E sg') : AX x Q k n sg' pc ls E := h.elim
end MC
