/-! every call keeps the facts -/
def Inv2 (N : Nat) (u : MU) : Prop := Inv N u ∧ WQ u
theorem Inv2.start : Inv2 0 u00 := ⟨Inv.start, WQ.start⟩
theorem Inv2.next {N : Nat} {u : MU} (h : Inv2 N u) : Inv2 (N + 1) u := ⟨h.1.next, h.2⟩
theorem Inv2.pass {N : Nat} {u : MU} (h : Inv2 N u) {d : Int32} : Inv2 N (opPass u d).2.2 := by
  refine ⟨h.1.pass, ?_⟩
  unfold opPass
  split
  · exact h.2
  · exact h.2.fr rfl rfl rfl
theorem Inv2.guard {N : Nat} {u : MU} (h : Inv2 N u) {v w : Int32} : Inv2 N (opGuard u v w).2.2 := by
  refine ⟨h.1.guard, ?_⟩
  unfold opGuard
  split
  · exact h.2
  · split
    · exact h.2
    · split
      · exact h.2
      · exact h.2.fr rfl rfl rfl
theorem Inv2.add {N : Nat} {u : MU} (h : Inv2 N u) {v w : Int32} : Inv2 N (opAdd u v w).2.2 := by
  refine ⟨h.1.add, ?_⟩
  unfold opAdd
  split
  · exact h.2
  · split
    · exact h.2
    · split
      · exact h.2
      · exact h.2.fr rfl rfl rfl
theorem Inv2.witness {N : Nat} {u : MU} (h : Inv2 N u) {v w : Int32} : Inv2 N (opWitness u v w).2.2 := by
  refine ⟨h.1.witness, ?_⟩
  unfold opWitness
  split
  · exact h.2
  · split
    · exact h.2
    · exact h.2.fr rfl rfl rfl
theorem Inv2.person {N : Nat} {u : MU} (h : Inv2 N u) {y : Int32} {f : Bool} : Inv2 N (opPerson u y f).2.2 := by
  refine ⟨h.1.person, ?_⟩
  unfold opPerson
  split
  · exact h.2
  · split
    · exact h.2
    · exact h.2.fr rfl rfl rfl
theorem Inv2.child {N : Nat} {u : MU} (h : Inv2 N u) {v w : Int32} : Inv2 N (opChild u v w).2.2 := by
  refine ⟨h.1.child, ?_⟩
  unfold opChild
  split
  · exact h.2
  · split
    · exact h.2
    · split
      · exact h.2
      · exact h.2.fr rfl rfl rfl
theorem Inv2.revoke {N : Nat} {u : MU} (h : Inv2 N u) {v : Int32} {t : Bool} : Inv2 N (opRevoke u v t).2.2 := by
  refine ⟨h.1.revoke, ?_⟩
  unfold opRevoke
  split
  · exact h.2
  · split
    · exact h.2
    · exact h.2.fr rfl rfl rfl
theorem Inv2.draft {N : Nat} {u : MU} (h : Inv2 N u) {s a b t x y : Int32} : Inv2 N (opDraft u s a b t x y).2.2 := by
  refine ⟨h.1.draft, ?_⟩
  unfold opDraft
  split
  · exact h.2
  · split
    · exact h.2
    · split
      · exact h.2
      · exact h.2.fr rfl rfl rfl
theorem Inv2.power {N : Nat} {u : MU} (h : Inv2 N u) {a b t d : Int32} {on : Bool} : Inv2 N (opPower u a b t d on).2.2 := by
  refine ⟨h.1.power, ?_⟩
  unfold opPower
  split
  · exact h.2
  · split
    · exact h.2
    · split
      · exact h.2
      · exact h.2.fr rfl rfl rfl
theorem Inv2.will {N : Nat} {u : MU} (h : Inv2 N u) {a b x y : Int32} : Inv2 N (opWill u a b x y).2.2 := by
  refine ⟨h.1.will, ?_⟩
  unfold opWill
  split
  · exact h.2
  · split
    · exact h.2
    · split
      · exact h.2
      · exact h.2.fr rfl rfl rfl
theorem Inv2.sign {N : Nat} {u : MU} (h : Inv2 N u) {v w k : Int32} {ig : Bool} : Inv2 N (opSign u v w ig k).2.2 := by
  refine ⟨h.1.sign, ?_⟩
  unfold opSign
  split
  · exact h.2
  · split
    · exact h.2
    · show WQ (if _ then _ else _)
      split
      · exact h.2.fr rfl rfl rfl
      · exact h.2.fr rfl rfl rfl
theorem Inv2.close {N : Nat} {u : MU} (h : Inv2 N u) {v : Int32} : Inv2 N (opClose u v).2.2 := by
  refine ⟨h.1.close, ?_⟩
  unfold opClose
  split
  · exact h.2
  · split
    · exact h.2
    · exact h.2.fr rfl rfl rfl
theorem Inv2.copy {N : Nat} {u : MU} (hN : N < 2 ^ 29) (h : Inv2 N u) {v : Int32} : Inv2 N (opCopy u v).2.2 := by
  refine ⟨h.1.copy hN, ?_⟩
  unfold opCopy
  split
  · exact h.2
  · split
    · exact h.2
    · exact h.2.fr rfl rfl rfl
theorem Inv2.lose {N : Nat} {u : MU} (h : Inv2 N u) {v : Int32} : Inv2 (N + 1) (opLose u v).2.2 := by
  refine ⟨h.1.lose, ?_⟩
  unfold opLose
  split
  · exact h.2
  · split
    · exact h.2
    · have e := loseN_N (u := uI u 29 v.toNatClampNeg (u.1 29 v.toNatClampNeg - 1)) (d := v.toNatClampNeg) (m := (u.1 29 v.toNatClampNeg).toNatClampNeg - 1)
      exact h.2.fr (congrArg (fun z => z.1 33) e) (congrArg (fun z => z.1 34) e) (congrArg (fun z => z.2.1 31) e)
theorem Inv2.thing {N : Nat} {u : MU} (h : Inv2 N u) {v w : Int32} : Inv2 N (opThing u v w).2.2 := ⟨h.1.thing, WQ.thing h.1 h.2⟩
theorem Inv2.enter {N : Nat} {u : MU} (h : Inv2 N u) {v : Int32} : Inv2 N (opEnter u v).2.2 := h.1.enter h.2
theorem Inv2.die {N : Nat} {u : MU} (h : Inv2 N u) {v : Int32} : Inv2 N (opDie u v).2.2 := h.1.die h.2
