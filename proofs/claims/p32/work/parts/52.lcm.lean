/-! fractions over the least common multiple -/
theorem dv_l {D m : Nat} (hm : 0 < m) : Nat.gcd D m * (D / Nat.gcd D m) = D ∧ Nat.gcd D m * (m / Nat.gcd D m) = m ∧ 0 < Nat.gcd D m := ⟨Nat.mul_div_cancel' (Nat.gcd_dvd_left D m), Nat.mul_div_cancel' (Nat.gcd_dvd_right D m), Nat.gcd_pos_of_pos_right D hm⟩
theorem dv_L {D m : Nat} (hD : 0 < D) (hm : 0 < m) : D * (m / Nat.gcd D m) = D / Nat.gcd D m * m ∧ 0 < D / Nat.gcd D m * m := by
  obtain ⟨e1, e2, h⟩ := dv_l (D := D) hm
  have e3 : D * (m / Nat.gcd D m) = D / Nat.gcd D m * m := by
    have a1 : Nat.gcd D m * (D / Nat.gcd D m) * (m / Nat.gcd D m) = D / Nat.gcd D m * (Nat.gcd D m * (m / Nat.gcd D m)) := by
      rw [Nat.mul_comm (Nat.gcd D m) (D / Nat.gcd D m), Nat.mul_assoc]
    rw [e1, e2] at a1
    exact a1
  refine ⟨e3, Nat.mul_pos (Nat.pos_of_ne_zero fun z => ?_) hm⟩
  rw [z, Nat.mul_zero] at e1
  omega
/-- a / L and b / L -/
theorem mr_dif {a b L : Nat} (hL : L ≠ 0) (h : b ≤ a) : mr a L - mr b L = mr (a - b) L := by
  have e : mr (a - b) L + mr b L = mr a L := by rw [mr_same hL, Nat.sub_add_cancel h]
  rw [← e, Rat.add_sub_cancel]
theorem lc_1 {q : Rat} {m : Nat} (h0 : 0 ≤ q) (hm : 0 < m) : mr (q.num.toNat * (m / Nat.gcd q.den m)) (q.den / Nat.gcd q.den m * m) = q := by
  obtain ⟨e1, h1⟩ := dv_L (D := q.den) q.den_pos hm
  have h2 : m / Nat.gcd q.den m ≠ 0 := fun z => by rw [z, Nat.mul_zero] at e1; omega
  rw [← e1, mr_mul h2]
  exact q_mr h0
theorem lc_2 {q : Rat} {x m : Nat} (hm : 0 < m) : mr (x * (q.den / Nat.gcd q.den m)) (q.den / Nat.gcd q.den m * m) = mr x m := by
  obtain ⟨e1, h1⟩ := dv_L (D := q.den) q.den_pos hm
  have h2 : q.den / Nat.gcd q.den m ≠ 0 := fun z => by rw [z, Nat.zero_mul] at h1; omega
  rw [Nat.mul_comm (q.den / Nat.gcd q.den m) m]
  exact mr_mul h2
/-- the part x / m to be added, or to be taken off -/
def sq (plus : Bool) (x m : Nat) : Rat := if plus = true then mr x m else -(mr x m)
def sU (plus : Bool) (n x D m : Nat) : Nat := if plus = true then n * (m / Nat.gcd D m) + x * (D / Nat.gcd D m) else n * (m / Nat.gcd D m) - x * (D / Nat.gcd D m)
def sI (plus : Bool) (x : Nat) : Int64 := if plus = true then lN x else -lN x
theorem mr_le {x y m D : Nat} (hm : 0 < m) (hD : 0 < D) : mr x m ≤ mr y D ↔ x * D ≤ y * m := by
  constructor
  · intro h
    apply Nat.le_of_not_lt
    intro hlt
    have h1 : y * m ≤ x * D := Nat.le_of_lt hlt
    have e := mr_sub (a := x) (b := m) (c := y) (d := D) (by omega) (by omega) h1
    have h2 : mr x m - mr y D ≤ 0 := by
      have h3 := Rat.add_le_add_right (c := -(mr y D)) |>.mpr h
      rw [← Rat.sub_eq_add_neg, ← Rat.sub_eq_add_neg, Rat.sub_self] at h3
      exact h3
    rw [e] at h2
    have h3 := Rat.num_nonneg.mpr (mr_nn (a := x * D - y * m) (b := m * D) (Nat.mul_ne_zero (by omega) (by omega)))
    have h4 : (mr (x * D - y * m) (m * D)).num ≤ 0 := by
      have h5 := (Rat.le_iff _ _).mp h2
      rw [Rat.zero_den, Rat.zero_num] at h5
      omega
    have h5 := mr_num (a := x * D - y * m) (b := m * D) (Nat.mul_ne_zero (by omega) (by omega))
    have h6 : (x * D - y * m) / Nat.gcd (x * D - y * m) (m * D) = 0 := by omega
    have hp : 0 < x * D - y * m := by omega
    have h7 := Nat.div_pos (Nat.le_of_dvd hp (Nat.gcd_dvd_left (x * D - y * m) (m * D))) (Nat.gcd_pos_of_pos_left (m * D) hp)
    omega
  · intro h
    have e := mr_sub (a := y) (b := D) (c := x) (d := m) (by omega) (by omega) h
    have h1 : 0 ≤ mr y D - mr x m := by rw [e]; exact mr_nn (Nat.mul_ne_zero (by omega) (by omega))
    have h2 := Rat.add_le_add_right (c := mr x m) |>.mpr h1
    rw [Rat.zero_add, Rat.sub_eq_add_neg, Rat.add_assoc, Rat.neg_add_cancel, Rat.add_zero] at h2
    exact h2
theorem sq_ok {plus : Bool} {q : Rat} {x m : Nat} (h0 : 0 ≤ q) (hm : 0 < m) (hx : plus = false → x * q.den ≤ q.num.toNat * m) : q + sq plus x m = mr (sU plus q.num.toNat x q.den m) (q.den / Nat.gcd q.den m * m) ∧ 0 ≤ q + sq plus x m ∧ (plus = false → x * (q.den / Nat.gcd q.den m) ≤ q.num.toNat * (m / Nat.gcd q.den m)) := by
  obtain ⟨e1, h1⟩ := dv_L (D := q.den) q.den_pos hm
  obtain ⟨d1, d2, d3⟩ := dv_l (D := q.den) hm
  have hl : plus = false → x * (q.den / Nat.gcd q.den m) ≤ q.num.toNat * (m / Nat.gcd q.den m) := fun z => by
    have h2 := hx z
    refine Nat.le_of_mul_le_mul_right ?_ d3
    rw [Nat.mul_assoc, Nat.mul_comm _ (Nat.gcd q.den m), d1, Nat.mul_assoc, Nat.mul_comm _ (Nat.gcd q.den m), d2]
    exact h2
  have e : q + sq plus x m = mr (sU plus q.num.toNat x q.den m) (q.den / Nat.gcd q.den m * m) := by
    have c1 := lc_1 (m := m) h0 hm
    have c2 := lc_2 (q := q) (x := x) hm
    unfold sq sU
    cases plus with
    | true =>
      rw [if_pos rfl, if_pos rfl, ← mr_same (by omega), c1, c2]
    | false =>
      rw [if_neg (by decide), if_neg (by decide), ← mr_dif (by omega) (hl rfl), c1, c2, Rat.sub_eq_add_neg]
  exact ⟨e, by rw [e]; exact mr_nn (by omega), hl⟩
theorem sq_t {plus : Bool} {q : Rat} {x m : Nat} (h0 : 0 ≤ q) (hm : 0 < m) (hx : plus = false → x * q.den ≤ q.num.toNat * m) : (q + sq plus x m).num.toNat = sU plus q.num.toNat x q.den m / Nat.gcd (sU plus q.num.toNat x q.den m) (q.den / Nat.gcd q.den m * m) ∧ (q + sq plus x m).den = q.den / Nat.gcd q.den m * m / Nat.gcd (sU plus q.num.toNat x q.den m) (q.den / Nat.gcd q.den m * m) := by
  obtain ⟨e1, h1⟩ := dv_L (D := q.den) q.den_pos hm
  rw [(sq_ok h0 hm hx).1, mr_num (by omega), mr_den (by omega)]
  exact ⟨rfl, rfl⟩
theorem sI_eq {plus : Bool} {n x D m : Nat} (h : plus = false → x * (D / Nat.gcd D m) ≤ n * (m / Nat.gcd D m)) : lN n * lN (m / Nat.gcd D m) + sI plus x * lN (D / Nat.gcd D m) = lN (sU plus n x D m) := by
  unfold sI sU
  cases plus with
  | true => rw [if_pos rfl, if_pos rfl]; exact add_U
  | false => rw [if_neg (by decide), if_neg (by decide)]; exact sub_U (h rfl)
/-- Euclid's steps halve the product -/
theorem eu_half {a b : Nat} (hb : 0 < b) (h : b ≤ a) : 2 * (b * (a % b)) ≤ a * b := by
  have h1 := Nat.mod_add_div a b
  have h2 := Nat.mod_lt a hb
  have h3 : 1 ≤ a / b := Nat.div_pos h hb
  have h4 : a % b + b ≤ a := by
    have : b * 1 ≤ b * (a / b) := Nat.mul_le_mul_left b h3
    omega
  have h5 : 2 * (a % b) ≤ a := by omega
  have h6 : 2 * (a % b) * b ≤ a * b := Nat.mul_le_mul_right b h5
  have h7 : 2 * (b * (a % b)) = 2 * (a % b) * b := by rw [Nat.mul_comm b, Nat.mul_assoc]
  omega
theorem lgc_eq {x y : Int64} : lg_cmp x y = 0 ↔ x = y := lg_cmp_eq x y
theorem den_sq {plus : Bool} {q : Rat} {x m : Nat} (h0 : 0 ≤ q) (hm : 0 < m) (hx : plus = false → x * q.den ≤ q.num.toNat * m) : (q + sq plus x m).den ∣ q.den * m := by
  obtain ⟨e1, h1⟩ := dv_L (D := q.den) q.den_pos hm
  rw [(sq_t h0 hm hx).2]
  refine Nat.dvd_trans (Nat.div_dvd_of_dvd (Nat.gcd_dvd_right _ _)) ?_
  rw [← e1]
  exact Nat.mul_dvd_mul_left q.den (Nat.div_dvd_of_dvd (Nat.gcd_dvd_right q.den m))
/-- the shares' object so, its rows a and b -/
def SH (g : Gx) (sg : Sg) (so a b : Nat) (f : Nat → Rat) : Prop := sg so = some (ob 8 [.ref a, .ref b]) ∧ sg a = some (arJ g 13 (clip 13 0 (fun k => lN (f k).num.toNat))) ∧ sg b = some (arJ g 13 (clip 13 0 (fun k => lN (f k).den))) ∧ a ≠ b ∧ ∀ k, k < 13 → 0 ≤ f k
def uf (f : Nat → Rat) (k : Nat) (q : Rat) : Nat → Rat := fun j => if j = k then q else f j
theorem uf_s {f : Nat → Rat} {k : Nat} {q : Rat} : uf f k q k = q := if_pos rfl
theorem uf_n {f : Nat → Rat} {k j : Nat} {q : Rat} (h : j ≠ k) : uf f k q j = f j := if_neg h
theorem clip_updL {n k : Nat} {f h : Nat → Int64} {v : Int64} (hk : k < n) (e : ∀ j, j ≠ k → h j = f j) (ev : h k = v) : vp_updL (clip n 0 f) k v = clip n 0 h := by
  funext j
  unfold vp_updL clip
  by_cases hj : j = k
  · rw [if_pos hj, if_pos (by omega), hj, ev]
  · rw [if_neg hj, e j hj]
theorem clip_in {α : Type} {n k : Nat} {z : α} {f : Nat → α} (h : k < n) : clip n z f k = f k := if_pos h
