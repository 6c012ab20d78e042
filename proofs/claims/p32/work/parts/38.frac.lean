/-! shares as rational numbers: a row holds the terms of one -/
def mr (a b : Nat) : Rat := mkRat (a : Int) b
theorem mr_num {a b : Nat} (hb : b ≠ 0) : (mr a b).num = ((a / Nat.gcd a b : Nat) : Int) := by
  rw [mr, Rat.num_mkRat, if_neg hb]
  exact congrArg (fun g : Nat => ((a / g : Nat) : Int)) (Nat.gcd_comm b a)
theorem mr_den {a b : Nat} (hb : b ≠ 0) : (mr a b).den = b / Nat.gcd a b := by
  rw [mr, Rat.den_mkRat, if_neg hb]
  exact congrArg (fun g : Nat => b / g) (Nat.gcd_comm b a)
theorem mr_nn {a b : Nat} (hb : b ≠ 0) : 0 ≤ mr a b := by
  rw [← Rat.num_nonneg, mr_num hb]
  exact Int.ofNat_zero_le _
theorem q_mr {q : Rat} (h : 0 ≤ q) : mr q.num.toNat q.den = q := by
  have e : ((q.num.toNat : Nat) : Int) = q.num := by
    have := Rat.num_nonneg.mpr h
    omega
  rw [mr, e]
  exact Rat.mkRat_self q
theorem mr_add {a b c d : Nat} (hb : b ≠ 0) (hd : d ≠ 0) : mr a b + mr c d = mr (a * d + c * b) (b * d) := by
  unfold mr
  rw [Rat.mkRat_add_mkRat _ _ hb hd]
  rfl
theorem mr_mul {a b d : Nat} (hd : d ≠ 0) : mr (a * d) (b * d) = mr a b := by
  have h : mkRat ((a : Int) * (d : Int)) (b * d) = mkRat (a : Int) b := Rat.mkRat_mul_right hd
  exact h
theorem mr_sub {a b c d : Nat} (hb : b ≠ 0) (hd : d ≠ 0) (h : c * b ≤ a * d) : mr a b - mr c d = mr (a * d - c * b) (b * d) := by
  have e : mr (a * d - c * b) (b * d) + mr c d = mr a b := by
    rw [mr_add (Nat.mul_ne_zero hb hd) hd, show (a * d - c * b) * d + c * (b * d) = a * (d * d) by
      rw [Nat.sub_mul, ← Nat.mul_assoc c b d, Nat.sub_add_cancel (Nat.mul_le_mul_right d h), Nat.mul_assoc], Nat.mul_assoc b d d]
    exact mr_mul (Nat.mul_ne_zero hd hd)
  rw [← e, Rat.add_sub_cancel]
theorem fp_up {q : Rat} {x m : Nat} (h : 0 ≤ q) (hm : m ≠ 0) : (q + mr x m).num.toNat = (q.num.toNat * m + x * q.den) / Nat.gcd (q.num.toNat * m + x * q.den) (q.den * m) ∧ (q + mr x m).den = q.den * m / Nat.gcd (q.num.toNat * m + x * q.den) (q.den * m) := by
  have e : q + mr x m = mr (q.num.toNat * m + x * q.den) (q.den * m) := by
    rw [← mr_add q.den_nz hm, q_mr h]
  have hD : q.den * m ≠ 0 := Nat.mul_ne_zero q.den_nz hm
  rw [e, mr_num hD, mr_den hD]
  exact ⟨rfl, rfl⟩
theorem fp_dn {q : Rat} {x m : Nat} (h : 0 ≤ q) (hm : m ≠ 0) (hx : x * q.den ≤ q.num.toNat * m) : (q - mr x m).num.toNat = (q.num.toNat * m - x * q.den) / Nat.gcd (q.num.toNat * m - x * q.den) (q.den * m) ∧ (q - mr x m).den = q.den * m / Nat.gcd (q.num.toNat * m - x * q.den) (q.den * m) ∧ 0 ≤ q - mr x m := by
  have e : q - mr x m = mr (q.num.toNat * m - x * q.den) (q.den * m) := by
    rw [← mr_sub q.den_nz hm hx, q_mr h]
  have hD : q.den * m ≠ 0 := Nat.mul_ne_zero q.den_nz hm
  rw [e, mr_num hD, mr_den hD]
  exact ⟨rfl, rfl, mr_nn hD⟩
def sumQ (f : Nat → Rat) : Nat → Rat
  | 0 => 0
  | m + 1 => sumQ f m + f m
theorem sumQ_nn {f : Nat → Rat} {m : Nat} (h : ∀ k, k < m → 0 ≤ f k) : 0 ≤ sumQ f m := by
  induction m with
  | zero => exact Rat.le_refl
  | succ m ih => exact Rat.add_nonneg (ih fun k hk => h k (by omega)) (h m (by omega))
theorem sumQ_le {f : Nat → Rat} {m i : Nat} (h : ∀ k, k < m → 0 ≤ f k) (hi : i < m) : f i ≤ sumQ f m := by
  induction m with
  | zero => omega
  | succ m ih =>
    have h0 := sumQ_nn (f := f) (m := m) fun k hk => h k (by omega)
    rw [sumQ]
    by_cases e : i = m
    · subst e
      have q : 0 + f i ≤ sumQ f i + f i := Rat.add_le_add_right.mpr h0
      rw [Rat.zero_add] at q
      exact q
    · have q := ih (fun k hk => h k (by omega)) (by omega)
      have z : sumQ f m + 0 ≤ sumQ f m + f m := Rat.add_le_add_left.mpr (h m (by omega))
      rw [Rat.add_zero] at z
      exact Rat.le_trans q z
theorem sumQ_out {f g : Nat → Rat} {m : Nat} (h : ∀ k, k < m → g k = f k) : sumQ g m = sumQ f m := by
  induction m with
  | zero => rfl
  | succ m ih => rw [sumQ, sumQ, ih fun k hk => h k (by omega), h m (by omega)]
theorem sumQ_up {f : Nat → Rat} {m i : Nat} {d : Rat} (hi : i < m) : sumQ (fun k => if k = i then f k + d else f k) m = sumQ f m + d := by
  induction m with
  | zero => omega
  | succ m ih =>
    rw [sumQ, sumQ]
    by_cases e : i = m
    · subst e
      rw [if_pos rfl, sumQ_out (f := f) (fun k hk => if_neg (by omega)), Rat.add_assoc]
    · rw [if_neg (by omega), ih (by omega), Rat.add_assoc, Rat.add_assoc, Rat.add_comm d]
