theorem mr_0 {d : Nat} (hd : d ≠ 0) : mr 0 d = 0 := (Rat.mkRat_eq_zero hd).mpr rfl
theorem mr_same {a b d : Nat} (hd : d ≠ 0) : mr a d + mr b d = mr (a + b) d := by
  rw [mr_add hd hd, ← Nat.add_mul]
  exact mr_mul hd
def sumN (f : Nat → Nat) : Nat → Nat
  | 0 => 0
  | m + 1 => sumN f m + f m
theorem sumQ_mr {f : Nat → Nat} {a d m : Nat} (hd : d ≠ 0) : sumQ (fun k => mr (a * f k) d) m = mr (a * sumN f m) d := by
  induction m with
  | zero => exact (mr_0 hd).symm
  | succ m ih => rw [sumQ, ih, mr_same hd, sumN, Nat.mul_add]
theorem sumQ_add {f g : Nat → Rat} {m : Nat} : sumQ (fun k => f k + g k) m = sumQ f m + sumQ g m := by
  induction m with
  | zero => exact (Rat.add_zero 0).symm
  | succ m ih => rw [sumQ, sumQ, sumQ, ih, Rat.add_assoc, Rat.add_assoc, Rat.add_left_comm (sumQ g m)]
theorem sumN_add {f g : Nat → Nat} {m : Nat} : sumN (fun k => f k + g k) m = sumN f m + sumN g m := by
  induction m with
  | zero => rfl
  | succ m ih =>
    rw [sumN, sumN, sumN, ih]
    omega
theorem sumN_one {b c m : Nat} (h : b < m) : sumN (fun k => if k = b then c else 0) m = c := by
  have z : ∀ j, j ≤ b → sumN (fun k => if k = b then c else 0) j = 0 := by
    intro j
    induction j with
    | zero => exact fun _ => rfl
    | succ j ih =>
      intro hj
      rw [sumN, ih (by omega), if_neg (by omega)]
  induction m with
  | zero => omega
  | succ m ih =>
    rw [sumN]
    by_cases e : b = m
    · rw [z m (by omega), if_pos e.symm, Nat.zero_add]
    · rw [ih (by omega), if_neg (fun q => e q.symm), Nat.add_zero]
theorem sumN_out {f g : Nat → Nat} {m : Nat} (h : ∀ k, k < m → g k = f k) : sumN g m = sumN f m := by
  induction m with
  | zero => rfl
  | succ m ih => rw [sumN, sumN, ih fun k hk => h k (by omega), h m (by omega)]
theorem sumN_mul {g : Nat → Bool} {c m : Nat} : sumN (fun k => if g k = true then c else 0) m = c * sumN (fun k => if g k = true then 1 else 0) m := by
  induction m with
  | zero => rfl
  | succ m ih =>
    rw [sumN, sumN, ih, Nat.mul_add]
    split
    · rw [Nat.mul_one]
    · rw [Nat.mul_zero]
theorem gets_lt {u : MU} {p many k : Nat} {ch : Bool} (h : ¬ k = 12) : lvGets u p ch many k = (decide (k < u.2.2.1 2) && (!decide (k = p) && (decide (0 < many) && isHr u k p ch))) := if_neg h
theorem gets_12 {u : MU} {p many : Nat} {ch : Bool} : lvGets u p ch many 12 = decide (many = 0) := if_pos rfl
/-- as many get as there are -/
theorem gets_n {u : MU} {p many : Nat} {ch : Bool} (h12 : u.2.2.1 2 ≤ 12) (hm : many = heirN u p ch (u.2.2.1 2)) : sumN (fun k => if lvGets u p ch many k = true then 1 else 0) 13 = lvBy many := by
  by_cases h0 : many = 0
  · have z : ∀ j, j ≤ 12 → sumN (fun k => if lvGets u p ch many k = true then 1 else 0) j = 0 := by
      intro j
      induction j with
      | zero => exact fun _ => rfl
      | succ j ih =>
        intro hj
        have g : ¬ lvGets u p ch many j = true := by
          rw [gets_lt (by omega), h0]
          simp
        rw [sumN, ih (by omega), if_neg g]
    have g : lvGets u p ch many 12 = true := by
      rw [gets_12, h0]
      rfl
    rw [sumN, z 12 (Nat.le_refl _), if_pos g, lvBy, if_pos h0]
  · have a : ∀ j, j ≤ u.2.2.1 2 → sumN (fun k => if lvGets u p ch many k = true then 1 else 0) j = heirN u p ch j := by
      intro j
      induction j with
      | zero => exact fun _ => rfl
      | succ j ih =>
        intro hj
        have e1 : j < u.2.2.1 2 := by omega
        have e2 : 0 < many := by omega
        by_cases q : ¬ j = p ∧ isHr u j p ch = true
        · have g : lvGets u p ch many j = true := by
            rw [gets_lt (by omega)]
            simp [e1, e2, q.1, q.2]
          rw [sumN, heirN, ih (by omega), if_pos g, if_pos q]
        · have g : ¬ lvGets u p ch many j = true := by
            intro z
            rw [gets_lt (by omega)] at z
            simp only [Bool.and_eq_true, Bool.not_eq_true', decide_eq_false_iff_not] at z
            exact q ⟨z.2.1, z.2.2.2⟩
          rw [sumN, heirN, ih (by omega), if_neg g, if_neg q]
    have b : ∀ r, u.2.2.1 2 + r ≤ 12 → sumN (fun k => if lvGets u p ch many k = true then 1 else 0) (u.2.2.1 2 + r) = heirN u p ch (u.2.2.1 2) := by
      intro r
      induction r with
      | zero => exact fun _ => a _ (Nat.le_refl _)
      | succ r ih =>
        intro hr
        have g : ¬ lvGets u p ch many (u.2.2.1 2 + r) = true := by
          intro z
          rw [gets_lt (by omega)] at z
          simp only [Bool.and_eq_true, decide_eq_true_eq] at z
          omega
        rw [← Nat.add_assoc, sumN, ih (by omega), if_neg g, Nat.add_zero]
    have c := b (12 - u.2.2.1 2) (by omega)
    rw [show u.2.2.1 2 + (12 - u.2.2.1 2) = 12 by omega] at c
    have g : ¬ lvGets u p ch many 12 = true := by
      rw [gets_12]
      simp [h0]
    rw [sumN, c, if_neg g, lvBy, if_neg h0, hm, Nat.add_zero]
theorem lvN_H {u : MU} {p t : Nat} {w : Int32} {A B so al : Nat} {ch : Bool} {many : Nat} {f : Nat → Rat} (hD : B * al * lvBy many ≠ 0) (hf : ∀ k, k < 13 → HQ u 41 42 (13 * t + k) (f k) ∧ (f k).den ≤ 1000000) (small : ∀ k, k < 13 → (f k).num.toNat < 2 ^ 63 ∧ (f k).den < 2 ^ 63) (m : Nat) (hm : m ≤ 13) (ok : (lvN u p t w A B so al ch many m).1 = true) :
    ∀ k, k < 13 → HQ (lvN u p t w A B so al ch many m).2 41 42 (13 * t + k) (if k < m then f k + mr (A * lvPart u p w so al ch many k) (B * al * lvBy many) else f k) ∧ (if k < m then f k + mr (A * lvPart u p w so al ch many k) (B * al * lvBy many) else f k).den ≤ 1000000 := by
  induction m with
  | zero =>
    intro k hk
    rw [if_neg (Nat.not_lt_zero k)]
    exact hf k hk
  | succ m ih =>
    intro k hk
    rw [lvN] at ok ⊢
    by_cases hp : 0 < lvPart u p w so al ch many m
    · rw [if_pos hp] at ok ⊢
      have ok' : (fOk (lvN u p t w A B so al ch many m).2 (13 * t + m) (A * lvPart u p w so al ch many m) (B * al * lvBy many) true && (lvN u p t w A B so al ch many m).1) = true := ok
      rw [Bool.and_eq_true] at ok'
      have h := ih (by omega) ok'.2
      by_cases e : k = m
      · subst e
        have hk' := h k hk
        rw [if_neg (Nat.lt_irrefl k)] at hk'
        rw [if_pos (Nat.lt_succ_self k)]
        exact hk'.1.up (small k hk).1 (small k hk).2 hD ok'.1
      · have hk' := h k hk
        by_cases l : k < m
        · rw [if_pos l] at hk'
          rw [if_pos (by omega)]
          exact ⟨hk'.1.out (by omega), hk'.2⟩
        · rw [if_neg l] at hk'
          rw [if_neg (by omega)]
          exact ⟨hk'.1.out (by omega), hk'.2⟩
    · rw [if_neg hp] at ok ⊢
      have hk' := ih (by omega) ok k hk
      by_cases e : k = m
      · subst e
        rw [if_neg (Nat.lt_irrefl k)] at hk'
        rw [if_pos (Nat.lt_succ_self k), show lvPart u p w so al ch many k = 0 by omega, Nat.mul_zero, mr_0 hD, Rat.add_zero]
        exact hk'
      · by_cases l : k < m
        · rw [if_pos l] at hk'
          rw [if_pos (by omega)]
          exact hk'
        · rw [if_neg l] at hk'
          rw [if_neg (by omega)]
          exact hk'
