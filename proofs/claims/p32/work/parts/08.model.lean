/-! the reference's state u: its int and boolean rows (1), its long rows (2), its counters (3), the day (4), the duties (5); names of rows: the fields' places -/
abbrev MU : Type := (Nat → Nat → Int32) × (Nat → Nat → Int64) × (Nat → Nat) × Int32 × Int64
abbrev MU.I (u : MU) : Nat → Nat → Int32 := u.1
abbrev MU.J (u : MU) : Nat → Nat → Int64 := u.2.1
abbrev MU.N (u : MU) : Nat → Nat := u.2.2.1
abbrev MU.day (u : MU) : Int32 := u.2.2.2.1
abbrev MU.dut (u : MU) : Int64 := u.2.2.2.2
def b2i (b : Bool) : Int32 := if b then 1 else 0
theorem b2i_t : b2i true = 1 := rfl
theorem b2i_f : b2i false = 0 := rfl
theorem b2i_0 {b : Bool} : b2i b = 0 ↔ b = false := by cases b <;> decide
theorem b2i_1 {b : Bool} : b2i b = 1 ↔ b = true := by cases b <;> decide
theorem nar_b2i (b : Bool) : vp_nar .boolean (b2i b) = b2i b := by cases b <;> decide
theorem nrw_b2i (b : Bool) : narrow .boolean (.int (b2i b)) = .int (b2i b) := by cases b <;> decide
theorem fit_b2i (b : Bool) : fits .boolean (.int (b2i b)) = true := by cases b <;> decide
def uI (u : MU) (k i : Nat) (v : Int32) : MU := (fun a => if a = k then upd (u.1 k) i v else u.1 a, u.2)
def uJ (u : MU) (k i : Nat) (v : Int64) : MU := (u.1, fun a => if a = k then vp_updL (u.2.1 k) i v else u.2.1 a, u.2.2)
def uN (u : MU) (k n : Nat) : MU := (u.1, u.2.1, fun a => if a = k then n else u.2.2.1 a, u.2.2.2)
def uD (u : MU) (d : Int32) : MU := (u.1, u.2.1, u.2.2.1, d, u.2.2.2.2)
def uT (u : MU) (d : Int64) : MU := (u.1, u.2.1, u.2.2.1, u.2.2.2.1, d)
def mk : Nat → Nat
  | 0 => 9 | 3 => 1 | 4 => 1 | 5 => 2 | 6 => 2 | 7 => 1 | 8 => 1 | 9 => 1 | 11 => 1 | 12 => 1 | 13 => 1 | 14 => 1 | 15 => 1 | 16 => 1 | 17 => 1 | 18 => 2 | 19 => 1 | 20 => 1 | 21 => 1 | 22 => 1 | 23 => 1 | 24 => 1 | 25 => 1 | 26 => 2 | 27 => 2 | 28 => 1 | 29 => 1 | 32 => 1 | 33 => 3 | 34 => 3 | 36 => 1 | 37 => 1 | 38 => 1 | 39 => 1 | 41 => 3 | 42 => 3
  | _ => 0
def mlen : Nat → Nat
  | 3 => 12 | 4 => 12 | 5 => 12 | 6 => 12 | 7 => 24 | 8 => 12 | 9 => 12 | 28 => 240 | 32 => 8 | 33 => 104 | 34 => 104 | 36 => 100 | 37 => 100 | 38 => 100 | 39 => 100 | 41 => 104 | 42 => 104
  | _ => 60
def mfs (ad : Nat → Nat) (th : Int32) (u : MU) : List Value :=
  [.int th, .int u.2.2.2.1, .int (nI (u.2.2.1 2)), .ref (ad 3), .ref (ad 4), .ref (ad 5), .ref (ad 6), .ref (ad 7), .ref (ad 8), .ref (ad 9), .int (nI (u.2.2.1 10)), .ref (ad 11), .ref (ad 12), .ref (ad 13), .ref (ad 14), .ref (ad 15), .ref (ad 16), .ref (ad 17), .ref (ad 18), .ref (ad 19), .ref (ad 20), .ref (ad 21), .ref (ad 22), .ref (ad 23), .ref (ad 24), .ref (ad 25), .ref (ad 26), .ref (ad 27), .ref (ad 28), .ref (ad 29), .int (nI (u.2.2.1 30)), .int (nI (u.2.2.1 31)), .ref (ad 32), .ref (ad 33), .ref (ad 34), .int (nI (u.2.2.1 35)), .ref (ad 36), .ref (ad 37), .ref (ad 38), .ref (ad 39), .long u.2.2.2.2, .ref (ad 41), .ref (ad 42)]
/-- the store holds the reference's object at ad 0, its rows at ad k -/
def MS (g : Gx) (ad : Nat → Nat) (th : Int32) (u : MU) (sg : Sg) : Prop :=
  sg (ad 0) = some (ob 11 (mfs ad th u)) ∧ (∀ k, mk k = 1 → sg (ad k) = some (arI g (mlen k) (u.1 k))) ∧ (∀ k, mk k = 2 → sg (ad k) = some (arZ g (mlen k) (u.1 k))) ∧ (∀ k, mk k = 3 → sg (ad k) = some (arJ g (mlen k) (u.2.1 k))) ∧ ∀ i j, mk i ≠ 0 → mk j ≠ 0 → ad i = ad j → i = j
/-- beside the reference's cells nothing has changed -/
def MF (ad : Nat → Nat) (sg0 sg : Sg) : Prop := ∀ a, (∀ i, mk i ≠ 0 → a ≠ ad i) → sg a = sg0 a
theorem MF.rf {ad : Nat → Nat} {sg : Sg} : MF ad sg sg := fun _ _ => rfl
theorem MF.tr {ad : Nat → Nat} {s1 s2 s3 : Sg} (h1 : MF ad s1 s2) (h2 : MF ad s2 s3) : MF ad s1 s3 := fun a h => (h2 a h).trans (h1 a h)
theorem MF.put {ad : Nat → Nat} {s1 s2 : Sg} (h : MF ad s1 s2) {k : Nat} (hk : mk k ≠ 0) {e : va_E} : MF ad s1 (sgu s2 (ad k) e) := fun a ha => by
  rw [sgu_n (ha k hk)]
  exact h a ha
theorem MS.setI {g : Gx} {ad : Nat → Nat} {th : Int32} {u : MU} {sg : Sg} (h : MS g ad th u sg) {k i : Nat} {v : Int32} (hk : mk k = 1) : MS g ad th (uI u k i v) (sgu sg (ad k) (arI g (mlen k) (upd (u.1 k) i v))) := by
  obtain ⟨h0, h1, h2, h3, hj⟩ := h
  have ne : ∀ j, mk j ≠ 0 → j ≠ k → ad j ≠ ad k := fun j hm hn z => hn (hj j k hm (by omega) z)
  refine ⟨?_, fun j hm => ?_, fun j hm => ?_, fun j hm => ?_, hj⟩
  · rw [sgu_n (ne 0 (by decide) (fun z => by rw [← z] at hk; cases hk))]
    exact h0
  · by_cases z : j = k
    · subst z
      rw [sgu_s]
      simp only [uI, if_true]
    · rw [sgu_n (ne j (by omega) z), h1 j hm]
      simp only [uI, if_neg z]
  · have z : j ≠ k := fun z => by subst z; omega
    rw [sgu_n (ne j (by omega) z), h2 j hm]
    simp only [uI, if_neg z]
  · have z : j ≠ k := fun z => by subst z; omega
    rw [sgu_n (ne j (by omega) z), h3 j hm]
    rfl
theorem MS.setZ {g : Gx} {ad : Nat → Nat} {th : Int32} {u : MU} {sg : Sg} (h : MS g ad th u sg) {k i : Nat} {v : Int32} (hk : mk k = 2) : MS g ad th (uI u k i v) (sgu sg (ad k) (arZ g (mlen k) (upd (u.1 k) i v))) := by
  obtain ⟨h0, h1, h2, h3, hj⟩ := h
  have ne : ∀ j, mk j ≠ 0 → j ≠ k → ad j ≠ ad k := fun j hm hn z => hn (hj j k hm (by omega) z)
  refine ⟨?_, fun j hm => ?_, fun j hm => ?_, fun j hm => ?_, hj⟩
  · rw [sgu_n (ne 0 (by decide) (fun z => by rw [← z] at hk; cases hk))]
    exact h0
  · have z : j ≠ k := fun z => by subst z; omega
    rw [sgu_n (ne j (by omega) z), h1 j hm]
    simp only [uI, if_neg z]
  · by_cases z : j = k
    · subst z
      rw [sgu_s]
      simp only [uI, if_true]
    · rw [sgu_n (ne j (by omega) z), h2 j hm]
      simp only [uI, if_neg z]
  · have z : j ≠ k := fun z => by subst z; omega
    rw [sgu_n (ne j (by omega) z), h3 j hm]
    rfl
theorem MS.setJ {g : Gx} {ad : Nat → Nat} {th : Int32} {u : MU} {sg : Sg} (h : MS g ad th u sg) {k i : Nat} {v : Int64} (hk : mk k = 3) : MS g ad th (uJ u k i v) (sgu sg (ad k) (arJ g (mlen k) (vp_updL (u.2.1 k) i v))) := by
  obtain ⟨h0, h1, h2, h3, hj⟩ := h
  have ne : ∀ j, mk j ≠ 0 → j ≠ k → ad j ≠ ad k := fun j hm hn z => hn (hj j k hm (by omega) z)
  refine ⟨?_, fun j hm => ?_, fun j hm => ?_, fun j hm => ?_, hj⟩
  · rw [sgu_n (ne 0 (by decide) (fun z => by rw [← z] at hk; cases hk))]
    exact h0
  · have z : j ≠ k := fun z => by subst z; omega
    rw [sgu_n (ne j (by omega) z), h1 j hm]
    rfl
  · have z : j ≠ k := fun z => by subst z; omega
    rw [sgu_n (ne j (by omega) z), h2 j hm]
    rfl
  · by_cases z : j = k
    · subst z
      rw [sgu_s]
      simp only [uJ, if_true]
    · rw [sgu_n (ne j (by omega) z), h3 j hm]
      simp only [uJ, if_neg z]
/-- a scalar's change: the object's fields alone -/
theorem MS.setS {g : Gx} {ad : Nat → Nat} {th th' : Int32} {u u' : MU} {sg : Sg} (h : MS g ad th u sg) (h1 : u'.1 = u.1) (h2 : u'.2.1 = u.2.1) : MS g ad th' u' (sgu sg (ad 0) (ob 11 (mfs ad th' u'))) := by
  obtain ⟨h0, g1, g2, g3, hj⟩ := h
  have ne : ∀ j, mk j ≠ 0 → j ≠ 0 → ad j ≠ ad 0 := fun j hm hn z => hn (hj j 0 hm (by decide) z)
  refine ⟨sgu_s, fun j hm => ?_, fun j hm => ?_, fun j hm => ?_, hj⟩
  · rw [sgu_n (ne j (by omega) (fun z => by subst z; cases hm)), g1 j hm, h1]
  · rw [sgu_n (ne j (by omega) (fun z => by subst z; cases hm)), g2 j hm, h1]
  · rw [sgu_n (ne j (by omega) (fun z => by subst z; cases hm)), g3 j hm, h2]
theorem aw_pick {x : Cx} {Q : State → Prop} {k n : Nat} {sg : Sg} {pc : Nat} {ls ls' : List (Nat × Value)} {st : List Value} (ks : List Nat) (h : lv_pick ls ks = ls') (kk : AW x Q k n sg pc ls' st) : AW x Q k n sg pc ls st := fun H locs la ws h1 h2 h3 => kk H locs la ws h1 h2 (lv_sub h3 ks h)
def rmM (h : Nat) : Room := { frames := h, cells := 0, slots := 0, locals := 40 * h }
section MW
variable {x : Cx} {Q : State → Prop} {c n : Nat} {sg sg0 : Sg} {pc : Nat} {ls : List (Nat × Value)} {st : List Value} {cc : ByteArray} {nL : Nat} {own : String} {R : Room} {ret : Option FieldType} {pc' : Nat} {ad : Nat → Nat} {th : Int32} {u : MU} {k i N : Nat} {z v : Int32}
end MW
