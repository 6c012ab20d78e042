def vN (z : Int64) : Nat := z.toInt.toNat
theorem vN_lN {a : Nat} (h : a < 2 ^ 63) : vN (lN a) = a := by
  rw [vN, pk_lT h]
  exact Int.toNat_natCast a
/-- shares: each a fraction at most 1, its lower term at most 1000000 -/
def WS1 (u : MU) : Prop := ∀ t, t < u.2.2.1 31 → ∀ k, k < 13 → ∃ a b, u.2.1 33 (13 * t + k) = lN a ∧ u.2.1 34 (13 * t + k) = lN b ∧ 0 < b ∧ b ≤ 1000000 ∧ a ≤ b
/-- deeds of a thing: the thing is there, the share is one -/
def WK (u : MU) : Prop := ∀ d, d < u.2.2.1 10 → isOfT u d = true → ¬ u.1 12 d = u.1 13 d ∧ ∃ t x y, t < u.2.2.1 31 ∧ u.1 14 d = nI t ∧ u.1 15 d = nI x ∧ u.1 16 d = nI y ∧ 1 ≤ x ∧ x ≤ y ∧ y ≤ 100
def WV (u : MU) : Prop := ∀ t, t < u.2.2.1 31 → ∃ w, w ≤ 1000000 ∧ u.1 32 t = nI w
def fUp (t m x n : Nat) (plus : Bool) : Nat := if plus = true then t * m + x * n else t * m - x * n
/-- the new share at place i becomes x by m more, or less -/
def fPut (u : MU) (i x m : Nat) (plus : Bool) : MU :=
  uJ (uJ u 41 i (lN (fUp (vN (u.2.1 41 i)) m x (vN (u.2.1 42 i)) plus / Nat.gcd (fUp (vN (u.2.1 41 i)) m x (vN (u.2.1 42 i)) plus) (vN (u.2.1 42 i) * m)))) 42 i (lN (vN (u.2.1 42 i) * m / Nat.gcd (fUp (vN (u.2.1 41 i)) m x (vN (u.2.1 42 i)) plus) (vN (u.2.1 42 i) * m)))
def fOk (u : MU) (i x m : Nat) (plus : Bool) : Bool := decide (vN (u.2.1 42 i) * m / Nat.gcd (fUp (vN (u.2.1 41 i)) m x (vN (u.2.1 42 i)) plus) (vN (u.2.1 42 i) * m) ≤ 1000000)
theorem fPut_I {u : MU} {i x m : Nat} {p : Bool} : (fPut u i x m p).1 = u.1 := rfl
theorem fPut_N {u : MU} {i x m : Nat} {p : Bool} : (fPut u i x m p).2.2 = u.2.2 := rfl
theorem uJ_n {u : MU} {k i a j : Nat} {v : Int64} (h : j ≠ i) : (uJ u k i v).2.1 a j = u.2.1 a j := by
  show (if a = k then vp_updL (u.2.1 k) i v else u.2.1 a) j = u.2.1 a j
  by_cases e : a = k
  · rw [if_pos e, vp_updL, if_neg h, e]
  · rw [if_neg e]
theorem fPut_n {u : MU} {i x m j k : Nat} {p : Bool} (h : j ≠ i) : (fPut u i x m p).2.1 k j = u.2.1 k j := by
  unfold fPut
  rw [uJ_n h, uJ_n h]
theorem lay_41 {u : MU} {i : Nat} (h : i < 104) : (lay u).2.1 41 i = u.2.1 33 i := by simp [lay, layP, h]
theorem lay_42 {u : MU} {i : Nat} (h : i < 104) : (lay u).2.1 42 i = u.2.1 34 i := by simp [lay, layP, h]
theorem neg_x {x : Nat} (h : x < 2 ^ 31) : (-nI x).toInt64 = -lN x := by
  rw [← Int64.toInt_inj, Int32.toInt_toInt64, sb_negT h, Int64.toInt_neg, pk_lT (by omega)]
  rw [Int.bmod_eq_of_le (by omega) (by omega)]
theorem sub_U {A y x B : Nat} (h : x * B ≤ A * y) : lN A * lN y + -lN x * lN B = lN (A * y - x * B) := by
  rw [Int64.neg_mul, lN_mul, lN_mul, ← Int64.sub_eq_add_neg, lN_sub h]
theorem add_U {A y x B : Nat} : lN A * lN y + lN x * lN B = lN (A * y + x * B) := by rw [lN_mul, lN_mul, lN_add]
def ready (u : MU) (d : Nat) : Bool := isOfT u d && (decide (u.1 22 d = 1) && (!decide (least u d = -1) && (!decide (1 < least u d) && (decide (u.1 25 d = -1) && (!decide (nI (u.2.2.1 35) = 100) && (decide (u.1 6 (u.1 12 d).toNatClampNeg = 0) && decide (u.1 6 (u.1 13 d).toNatClampNeg = 0)))))))
def entX (u : MU) (d t x y a b : Nat) : Bool × MU :=
  if ready u d = false then (false, u) else
  if vN (u.2.1 33 (13 * t + a)) * y < x * vN (u.2.1 34 (13 * t + a)) then (false, u) else
  if u.1 11 d = 2 then (true, lay u) else
  (fOk (lay u) (13 * t + a) x y false && fOk (fPut (lay u) (13 * t + a) x y false) (13 * t + b) x y true, fPut (fPut (lay u) (13 * t + a) x y false) (13 * t + b) x y true)
def ent (u : MU) (d : Nat) : Bool × MU := entX u d (u.1 14 d).toNatClampNeg (u.1 15 d).toNatClampNeg (u.1 16 d).toNatClampNeg (u.1 12 d).toNatClampNeg (u.1 13 d).toNatClampNeg
def dutyPart (u : MU) (d : Nat) : Nat := if u.1 11 d = 0 then 20 else if u.1 11 d = 2 then 100 else if isKin u (u.1 12 d).toNatClampNeg (u.1 13 d).toNatClampNeg = true then 50 else 10
def worth (u : MU) (d : Nat) : Nat := (u.1 32 (u.1 14 d).toNatClampNeg).toNatClampNeg * (u.1 15 d).toNatClampNeg / (u.1 16 d).toNatClampNeg
def opEnter (u : MU) (v : Int32) : Op :=
  if isDd u v = false then (1, 0, u) else
  if (ent u v.toNatClampNeg).1 = false then (2, 0, (ent u v.toNatClampNeg).2)
  else (0, nI (u.2.2.1 35), uI (upComes (uT (tak (ent u v.toNatClampNeg).2) (u.2.2.2.2 + lN (worth u v.toNatClampNeg / dutyPart u v.toNatClampNeg))) (u.1 11 v.toNatClampNeg) v (u.1 14 v.toNatClampNeg)) 25 v.toNatClampNeg (nI (u.2.2.1 35)))
theorem ent_I {u : MU} {d : Nat} : (ent u d).2.1 = u.1 := by
  unfold ent entX
  split
  · rfl
  · split
    · rfl
    · split <;> rfl
theorem ent_N {u : MU} {d : Nat} : (ent u d).2.2.2 = u.2.2 := by
  unfold ent entX
  split
  · rfl
  · split
    · rfl
    · split <;> rfl
theorem ent_r {u : MU} {d : Nat} (h : (ent u d).1 = true) : ready u d = true := by
  cases hr : ready u d with
  | true => rfl
  | false => rw [ent, entX, if_pos hr] at h; cases h
theorem ready_of {u : MU} {d : Nat} (h : ready u d = true) : isOfT u d = true ∧ u.1 22 d = 1 ∧ ¬ nI (u.2.2.1 35) = 100 := by
  simp only [ready, Bool.and_eq_true, decide_eq_true_eq, Bool.not_eq_true', decide_eq_false_iff_not] at h
  exact ⟨h.1, h.2.1, h.2.2.2.2.2.1⟩
theorem enter_eq {u : MU} {d : Nat} {v : Int32} {k : Int64} : uI (upComes (uT (tak (ent u d).2) ((ent u d).2.2.2.2.2 + k)) ((ent u d).2.1 11 d) v ((ent u d).2.1 14 d)) 25 d (nI ((ent u d).2.2.2.1 35)) = uI (upComes (uT (tak (ent u d).2) (u.2.2.2.2 + k)) (u.1 11 d) v (u.1 14 d)) 25 d (nI (u.2.2.1 35)) := by rw [ent_I, ent_N]
theorem isChN_I {u w : MU} (h : w.1 = u.1) {p m : Nat} {v : Int32} : isChN w p v m = isChN u p v m := by
  induction m with
  | zero => rfl
  | succ m ih => rw [isChN, isChN, ih, h]
theorem isCh_I {u w : MU} (h : w.1 = u.1) {p : Nat} {v : Int32} : isCh w p v = isCh u p v := by rw [isCh, isCh, isChN_I h, h]
theorem isKin_I {u w : MU} (h : w.1 = u.1) {a b : Nat} : isKin w a b = isKin u a b := by rw [isKin, isKin, isCh_I h, isCh_I h]
theorem n100_of {u : MU} (h : u.2.2.1 35 ≤ 100) (hr : ¬ nI (u.2.2.1 35) = 100) : u.2.2.1 35 < 100 := by
  rw [show (100 : Int32) = nI 100 from rfl, nI_eq (by omega) (by decide)] at hr
  omega
