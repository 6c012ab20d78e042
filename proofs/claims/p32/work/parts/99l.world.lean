/-! what holds between the law's turns -/
def kidN (u : MU) (pa : Nat) : Nat → Nat
  | 0 => 0
  | k + 1 => kidN u pa k + (if isCh u k (nI pa) = true then 1 else 0)
/-- nobody has more than four children -/
def ZKu (u : MU) : Prop := ∀ pa, pa < 6 → kidN u pa 6 ≤ 4
theorem kidN_78 {u w : MU} (h7 : w.1 7 = u.1 7) (h8 : w.1 8 = u.1 8) {pa : Nat} (k : Nat) : kidN w pa k = kidN u pa k := by
  induction k with
  | zero => rfl
  | succ k ih => rw [kidN, kidN, ih, isCh_78 h7 h8]
theorem ZKu.eq {u w : MU} (h : ZKu u) (h7 : w.1 7 = u.1 7) (h8 : w.1 8 = u.1 8) : ZKu w := fun pa hp => by
  rw [kidN_78 h7 h8]
  exact h pa hp
theorem ZKu.ite {c : Bool} {a b : MU} (ha : ZKu a) (hb : ZKu b) : ZKu (if c = true then a else b) := by
  cases c
  · exact hb
  · exact ha
section ZKS
variable {u : MU}
theorem ZKu.add (h : ZKu u) {v w : Int32} : ZKu (opAdd u v w).2.2 := by
  unfold opAdd
  (repeat' split) <;> first | exact h | exact h.eq rfl rfl
theorem ZKu.witness (h : ZKu u) {v w : Int32} : ZKu (opWitness u v w).2.2 := by
  unfold opWitness
  (repeat' split) <;> first | exact h | exact h.eq rfl rfl
theorem ZKu.close (h : ZKu u) {v : Int32} : ZKu (opClose u v).2.2 := by
  unfold opClose
  (repeat' split) <;> first | exact h | exact h.eq rfl rfl
theorem ZKu.revoke (h : ZKu u) {v : Int32} {t : Bool} : ZKu (opRevoke u v t).2.2 := by
  unfold opRevoke
  (repeat' split) <;> first | exact h | exact h.eq rfl rfl
theorem ZKu.copy (h : ZKu u) {v : Int32} : ZKu (opCopy u v).2.2 := by
  unfold opCopy
  (repeat' split) <;> first | exact h | exact h.eq rfl rfl
theorem ZKu.lose (h : ZKu u) {v : Int32} : ZKu (opLose u v).2.2 := by
  unfold opLose
  (repeat' split) <;> first | exact h | exact h.eq (by show (loseN _ _ _).1 7 = _; rw [loseN_k (by decide)]; rfl) (by show (loseN _ _ _).1 8 = _; rw [loseN_k (by decide)]; rfl)
theorem ZKu.sign (h : ZKu u) {v w k : Int32} {ig : Bool} : ZKu (opSign u v w ig k).2.2 := by
  unfold opSign
  split
  · exact h
  · split
    · exact h
    · exact ZKu.ite (h.eq rfl rfl) (h.eq rfl rfl)
theorem ZKu.guard (h : ZKu u) {v w : Int32} : ZKu (opGuard u v w).2.2 := by
  unfold opGuard
  (repeat' split) <;> first | exact h | exact h.eq rfl rfl
theorem ZKu.draft (h : ZKu u) {s a b t x y : Int32} : ZKu (opDraft u s a b t x y).2.2 := by
  unfold opDraft
  (repeat' split) <;> first | exact h | exact h.eq rfl rfl
theorem ZKu.will (h : ZKu u) {a b x y : Int32} : ZKu (opWill u a b x y).2.2 := by
  unfold opWill
  (repeat' split) <;> first | exact h | exact h.eq rfl rfl
theorem ZKu.power (h : ZKu u) {a b t d : Int32} {on : Bool} : ZKu (opPower u a b t d on).2.2 := by
  unfold opPower
  (repeat' split) <;> first | exact h | exact h.eq rfl rfl
theorem ZKu.enter (h : ZKu u) {v : Int32} : ZKu (opEnter u v).2.2 := by
  unfold opEnter
  split
  · exact h
  · split
    · exact h.eq (by show (ent _ _).2.1 7 = _; rw [ent_I]) (by show (ent _ _).2.1 8 = _; rw [ent_I])
    · exact h.eq (by show (ent _ _).2.1 7 = _; rw [ent_I]) (by show (ent _ _).2.1 8 = _; rw [ent_I])
end ZKS
/-- the class and the law's rows side by side, behind m turns -/
def ZW (g : Gx) (ez : Nat) (al : Nat → Nat) (q1 m : Nat) (sg : Sg) : Prop := ∃ (ad : Nat → Nat → Nat) (u : MU) (Y : GS) (L : ZU), CS g ez ad u Y sg ∧ ad 0 0 = q1 ∧ ZS g al L sg ∧ CZ m u ∧ ZR L u ∧ ZKu u ∧ L.1 10 0 ≤ 400 * m ∧ L.1 10 4 ≤ 6000 * m
/-- what a turn's piece answers -/
def ZA (g : Gx) (ez : Nat) (al : Nat → Nat) (q1 m : Nat) : Option Value → Sg → Prop := fun v s' => v = some (.int 1) ∧ ZW g ez al q1 m s'
def rmA : Room := { frames := 11, cells := 60, slots := 12000, locals := 460 }
theorem ZR.hc {L : ZU} {u : MU} (h : ZR L u) : ∀ i, i < 24 → L.1 3 i ≤ 24 := fun i hi => by
  by_cases c : i < L.1 10 1
  · exact (h.d c).by.1
  · rw [(h.z (by omega) hi).1]; omega
