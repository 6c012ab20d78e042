/-! the class: label -/
def ch8 (c : Int32) : Prop := ((c &&& 255).toUInt32 % 65536).toInt32 = c ∧ narrow .char (.int c) = .int c
def chA (c : Int32) : Prop := c ≤ 255 ∧ c.toInt8.toInt32 = c ∧ vp_nar .byte c = c
/-- the text of m behind the kind's letter, and the state's behind it -/
def txt (K : Int32) (m : Nat) (s : Int32) : Nat → Int32 := upd (upd (dgF m 1 (upd (fun _ => 0) 0 K)) (1 + dgN m) 44) (1 + dgN m + 1) s
theorem dg_at : ∀ m, m < 61 → ∀ k, k < 3 → 1 ≤ k → k ≤ dgN m → ((48 + (if digits (nI m) ≤ nI k then nI m - nI m / 10 * 10 else nI m / 10)).toUInt32 % 65536).toInt32 = dgF m 1 (fun _ => 0) k := by decide +kernel
theorem dg_c : ∀ m, m < 61 → ∀ k, k < 3 → 1 ≤ k → k ≤ dgN m → (((dgF m 1 (fun _ => 0) k) &&& 255).toUInt32 % 65536).toInt32 = dgF m 1 (fun _ => 0) k := by decide +kernel
theorem dg_d : ∀ m, m < 61 → digits (nI m) = nI (dgN m) := by decide +kernel
theorem dg_f {m k : Nat} {f : Nat → Int32} (h1 : 1 ≤ k) (h2 : k ≤ dgN m) : dgF m 1 f k = dgF m 1 (fun _ => 0) k := by
  unfold dgF
  unfold dgN at h2
  by_cases hs : m < 10
  · rw [if_pos hs, if_pos hs]
    rw [if_pos hs] at h2
    have : k = 1 := by omega
    subst this
    simp [upd]
  · rw [if_neg hs, if_neg hs]
    rw [if_neg hs] at h2
    have : k = 1 ∨ k = 2 := by omega
    rcases this with rfl | rfl <;> simp [upd]
theorem dg_0 {m : Nat} {f : Nat → Int32} : dgF m 1 f 0 = f 0 := by
  unfold dgF
  split <;> simp [upd]
