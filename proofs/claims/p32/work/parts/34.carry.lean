/-! lemmas of the reference's side that the class's side uses -/
theorem nI_nm1 {p : Nat} (h : p < 2 ^ 31) : ¬ nI p = -1 := by
  intro e
  have h1 := nI_toInt h
  rw [e] at h1
  have h2 : (-1 : Int32).toInt = -1 := by decide
  omega
def u00 : MU := (fun _ _ => 0, fun _ _ => 0, fun _ => 0, 0, 0)
