/-! the law's rows beside the class's state: what they have to do with each other -/
def pAge (p : Nat) : Nat := if p < 4 then 30 + p else 17 - p % 2
/-- a person -/
def ZRp (L : ZU) (u : MU) (p : Nat) : Prop :=
  (u.1 3 p = nI (pAge p) ∧ u.1 4 p = 0 ∧ L.1 0 p = 360 * pAge p) ∧
  (L.1 0 (8 + p) ≤ 1 ∧ u.1 5 p = nI (L.1 0 (8 + p))) ∧
  (L.1 0 (16 + p) ≤ 1 ∧ u.1 6 p = nI (L.1 0 (16 + p))) ∧
  (L.1 0 (32 + p) ≤ 6 ∧ u.1 9 p = nI (L.1 0 (32 + p)) - 1) ∧
  L.1 0 (24 + p) < 64 ∧ u.1 8 p = nI (n_dM (L.1 0 (24 + p)) 6) ∧ ∀ q, q < 6 → (isCh u p (nI q) = true ↔ L.1 0 (24 + p) / 2 ^ q % 2 = 1)
/-- a deed's papers: s of the least grade a, then t of the next -/
def ZPp (L : ZU) (u : MU) (d : Nat) : Prop := ∃ a s t, a ≤ 7 ∧ s + t ≤ 4 ∧ (s = 0 → t = 0) ∧ (a = 7 → t = 0) ∧ u.1 29 d = nI (s + t) ∧ (∀ j, j < s → u.1 28 (4 * d + j) = nI a) ∧ (∀ j, s ≤ j → j < s + t → u.1 28 (4 * d + j) = nI (a + 1)) ∧ L.1 9 d = s * 2 ^ (3 * a) + t * 2 ^ (3 * (a + 1))
/-- a deed -/
def ZRd (L : ZU) (u : MU) (d : Nat) : Prop :=
  (L.1 1 d % 8 ≤ 4 ∧ u.1 11 d = nI (L.1 1 d % 8)) ∧
  (L.1 1 d / 8 % 8 < 6 ∧ u.1 12 d = nI (L.1 1 d / 8 % 8)) ∧
  (L.1 1 d / 64 % 8 < 6 ∧ u.1 13 d = nI (L.1 1 d / 64 % 8)) ∧
  L.1 1 d / 8 % 8 ≠ L.1 1 d / 64 % 8 ∧
  (L.1 1 d / 512 ≤ 2 ∧ u.1 14 d = nI (L.1 1 d / 512) - 1 ∧ (L.1 1 d % 8 ≤ 2 → 1 ≤ L.1 1 d / 512)) ∧
  (L.1 1 d % 8 ≠ 3 → 1 ≤ L.1 2 d / 128 ∧ L.1 2 d / 128 ≤ L.1 2 d % 128 ∧ L.1 2 d % 128 ≤ 4 ∧ u.1 15 d = nI (L.1 2 d / 128) ∧ u.1 16 d = nI (L.1 2 d % 128)) ∧
  (L.1 1 d % 8 = 3 → u.1 17 d = nI (L.1 2 d / 2) ∧ u.1 18 d = nI (L.1 2 d % 2)) ∧
  (L.1 3 d ≤ 24 ∧ u.1 19 d = nI (L.1 3 d) - 1) ∧
  (u.1 20 d = nI (L.1 4 d % 32) ∧ u.1 21 d = nI (L.1 4 d / 32) ∧ L.1 4 d / 32 < 64) ∧
  (u.1 22 d = nI (L.1 5 d % 4) ∧ L.1 5 d / 4 ≤ 2 ∧ u.1 26 d = nI (if L.1 5 d / 4 = 0 then 0 else 1) ∧ u.1 27 d = nI (if L.1 5 d / 4 = 2 then 1 else 0)) ∧
  u.1 23 d = nI (L.1 6 d) ∧
  (u.1 24 d = if L.1 5 d % 4 = 0 then -1 else nI (L.1 7 d)) ∧
  (L.1 8 d ≤ 30 ∧ u.1 25 d = nI (L.1 8 d) - 1) ∧
  ZPp L u d
theorem ZRd.kd {L : ZU} {u : MU} {d : Nat} (h : ZRd L u d) : L.1 1 d % 8 ≤ 4 ∧ u.1 11 d = nI (L.1 1 d % 8) := h.1
theorem ZRd.gv {L : ZU} {u : MU} {d : Nat} (h : ZRd L u d) : L.1 1 d / 8 % 8 < 6 ∧ u.1 12 d = nI (L.1 1 d / 8 % 8) := h.2.1
theorem ZRd.tk {L : ZU} {u : MU} {d : Nat} (h : ZRd L u d) : L.1 1 d / 64 % 8 < 6 ∧ u.1 13 d = nI (L.1 1 d / 64 % 8) := h.2.2.1
theorem ZRd.ne {L : ZU} {u : MU} {d : Nat} (h : ZRd L u d) : L.1 1 d / 8 % 8 ≠ L.1 1 d / 64 % 8 := h.2.2.2.1
theorem ZRd.th {L : ZU} {u : MU} {d : Nat} (h : ZRd L u d) : L.1 1 d / 512 ≤ 2 ∧ u.1 14 d = nI (L.1 1 d / 512) - 1 ∧ (L.1 1 d % 8 ≤ 2 → 1 ≤ L.1 1 d / 512) := h.2.2.2.2.1
theorem ZRd.sh {L : ZU} {u : MU} {d : Nat} (h : ZRd L u d) : L.1 1 d % 8 ≠ 3 → 1 ≤ L.1 2 d / 128 ∧ L.1 2 d / 128 ≤ L.1 2 d % 128 ∧ L.1 2 d % 128 ≤ 4 ∧ u.1 15 d = nI (L.1 2 d / 128) ∧ u.1 16 d = nI (L.1 2 d % 128) := h.2.2.2.2.2.1
theorem ZRd.en {L : ZU} {u : MU} {d : Nat} (h : ZRd L u d) : L.1 1 d % 8 = 3 → u.1 17 d = nI (L.1 2 d / 2) ∧ u.1 18 d = nI (L.1 2 d % 2) := h.2.2.2.2.2.2.1
theorem ZRd.by {L : ZU} {u : MU} {d : Nat} (h : ZRd L u d) : L.1 3 d ≤ 24 ∧ u.1 19 d = nI (L.1 3 d) - 1 := h.2.2.2.2.2.2.2.1
theorem ZRd.pa {L : ZU} {u : MU} {d : Nat} (h : ZRd L u d) : u.1 20 d = nI (L.1 4 d % 32) ∧ u.1 21 d = nI (L.1 4 d / 32) ∧ L.1 4 d / 32 < 64 := h.2.2.2.2.2.2.2.2.1
theorem ZRd.st {L : ZU} {u : MU} {d : Nat} (h : ZRd L u d) : u.1 22 d = nI (L.1 5 d % 4) ∧ L.1 5 d / 4 ≤ 2 ∧ u.1 26 d = nI (if L.1 5 d / 4 = 0 then 0 else 1) ∧ u.1 27 d = nI (if L.1 5 d / 4 = 2 then 1 else 0) := h.2.2.2.2.2.2.2.2.2.1
theorem ZRd.nr {L : ZU} {u : MU} {d : Nat} (h : ZRd L u d) : u.1 23 d = nI (L.1 6 d) := h.2.2.2.2.2.2.2.2.2.2.1
theorem ZRd.dy {L : ZU} {u : MU} {d : Nat} (h : ZRd L u d) : u.1 24 d = if L.1 5 d % 4 = 0 then -1 else nI (L.1 7 d) := h.2.2.2.2.2.2.2.2.2.2.2.1
theorem ZRd.et {L : ZU} {u : MU} {d : Nat} (h : ZRd L u d) : L.1 8 d ≤ 30 ∧ u.1 25 d = nI (L.1 8 d) - 1 := h.2.2.2.2.2.2.2.2.2.2.2.2.1
theorem ZRd.pp {L : ZU} {u : MU} {d : Nat} (h : ZRd L u d) : ZPp L u d := h.2.2.2.2.2.2.2.2.2.2.2.2.2
/-- the counters -/
def ZRn (L : ZU) (u : MU) : Prop := u.2.2.1 2 = 6 ∧ u.2.2.1 31 = 2 ∧ (u.2.2.1 10 = L.1 10 1 ∧ L.1 10 1 ≤ 24) ∧ u.2.2.1 30 = L.1 10 2 ∧ (u.2.2.1 35 = L.1 10 3 ∧ L.1 10 3 ≤ 28) ∧ u.2.2.2.1 = nI (L.1 10 0) ∧ u.2.2.2.2 = lN (L.1 10 4)
/-- an entry -/
def ZRe (L : ZU) (u : MU) (e : Nat) : Prop := L.1 12 e < 2048 ∧ u.1 36 e = nI (L.1 12 e % 8) ∧ u.1 37 e = nI (L.1 12 e / 8 % 64) ∧ u.1 38 e = nI (L.1 12 e / 512)
def kk (k : Nat) : Nat := if k = 6 then 12 else k
/-- a share -/
def ZRs (L : ZU) (u : MU) (t k : Nat) : Prop := L.2 (7 * t + k) * vN (u.2.1 34 (13 * t + kk k)) = PARTS * vN (u.2.1 33 (13 * t + kk k))
/-- a row not yet used -/
def ZR0 (L : ZU) (d : Nat) : Prop := L.1 3 d = 0 ∧ L.1 4 d = 0 ∧ L.1 5 d = 0 ∧ L.1 6 d = 0 ∧ L.1 7 d = 0 ∧ L.1 8 d = 0 ∧ L.1 9 d = 0
def ZR (L : ZU) (u : MU) : Prop := ZB L ∧ ZRn L u ∧ (∀ p, p < 6 → ZRp L u p) ∧ (∀ d, d < L.1 10 1 → ZRd L u d) ∧ (∀ d, L.1 10 1 ≤ d → d < 24 → ZR0 L d) ∧ (∀ e, e < L.1 10 3 → ZRe L u e) ∧ (u.1 32 0 = nI 999 ∧ u.1 32 1 = nI 54321) ∧ (∀ t, t < 2 → ∀ k, k < 7 → ZRs L u t k) ∧ ∀ i, 14 ≤ i → L.2 i = 0
section ZRA
variable {L : ZU} {u : MU}
theorem ZR.B (h : ZR L u) : ZB L := h.1
theorem ZR.n (h : ZR L u) : ZRn L u := h.2.1
theorem ZR.p (h : ZR L u) {p : Nat} (hp : p < 6) : ZRp L u p := h.2.2.1 p hp
theorem ZR.d (h : ZR L u) {d : Nat} (hd : d < L.1 10 1) : ZRd L u d := h.2.2.2.1 d hd
theorem ZR.z (h : ZR L u) {d : Nat} (h1 : L.1 10 1 ≤ d) (h2 : d < 24) : ZR0 L d := h.2.2.2.2.1 d h1 h2
theorem ZR.e (h : ZR L u) {e : Nat} (he : e < L.1 10 3) : ZRe L u e := h.2.2.2.2.2.1 e he
theorem ZR.w (h : ZR L u) : u.1 32 0 = nI 999 ∧ u.1 32 1 = nI 54321 := h.2.2.2.2.2.2.1
theorem ZR.s (h : ZR L u) {t k : Nat} (ht : t < 2) (hk : k < 7) : ZRs L u t k := h.2.2.2.2.2.2.2.1 t ht k hk
theorem ZR.o (h : ZR L u) {i : Nat} (hi : 14 ≤ i) : L.2 i = 0 := h.2.2.2.2.2.2.2.2 i hi
theorem ZR.np (h : ZR L u) : u.2.2.1 2 = 6 := h.n.1
theorem ZR.nt (h : ZR L u) : u.2.2.1 31 = 2 := h.n.2.1
theorem ZR.nd (h : ZR L u) : u.2.2.1 10 = L.1 10 1 ∧ L.1 10 1 ≤ 24 := h.n.2.2.1
theorem ZR.nc (h : ZR L u) : u.2.2.1 30 = L.1 10 2 := h.n.2.2.2.1
theorem ZR.ne (h : ZR L u) : u.2.2.1 35 = L.1 10 3 ∧ L.1 10 3 ≤ 28 := h.n.2.2.2.2.1
theorem ZR.dy (h : ZR L u) : u.2.2.2.1 = nI (L.1 10 0) := h.n.2.2.2.2.2.1
theorem ZR.du (h : ZR L u) : u.2.2.2.2 = lN (L.1 10 4) := h.n.2.2.2.2.2.2
theorem nIz {n : Nat} (h : n < 2 ^ 30) : nI n = 0 ↔ n = 0 := by
  rw [show (0 : Int32) = nI 0 from rfl]
  exact nI_eq (by omega) (by decide)
theorem nIm {n : Nat} (h : n < 2 ^ 30) : nI n - 1 = -1 ↔ n = 0 := by
  constructor
  · intro e
    by_cases z : n = 0
    · exact z
    · rw [nI_sub1 z] at e
      exact absurd e (nI_nm1 (by omega))
  · intro e
    rw [e]
    decide
theorem nIe {m n : Nat} (hm : m < 2 ^ 30) (hn : n < 2 ^ 30) : nI m = nI n ↔ m = n := nI_eq (by omega) (by omega)
theorem nIme {m n : Nat} (hm : m < 2 ^ 30) (hn : n < 2 ^ 30) : nI m - 1 = nI n ↔ m = n + 1 := by
  constructor
  · intro e
    by_cases z : m = 0
    · rw [z] at e
      exact absurd e.symm (nI_nm1 (by omega))
    · rw [nI_sub1 z, nI_eq (by omega) (by omega)] at e
      omega
  · intro e
    rw [e]
    exact nI_pred n
theorem pAge_lt (p : Nat) (h : p < 6) : pAge p ≤ 33 ∧ 16 ≤ pAge p := by
  unfold pAge
  split <;> omega
/-- who is able -/
theorem r_able (h : ZR L u) {p : Nat} (hp : p < 6) : n_able L p = able u p := by
  obtain ⟨⟨h3, h4, ha⟩, -, ⟨hs, h6⟩, ⟨hg, h9⟩, -⟩ := h.p hp
  have hd := h.dy
  have b0 := h.B 10 0
  have hpa := pAge_lt p hp
  have e1 : decide (u.1 6 p = 0) = decide (L.1 0 (16 + p) = 0) := by rw [h6]; exact decide_eq_decide.mpr (nIz (by omega))
  have e2 : decide (u.1 9 p = -1) = decide (L.1 0 (32 + p) = 0) := by rw [h9]; exact decide_eq_decide.mpr (nIm (by omega))
  have e3 : decide (u.1 3 p + (u.2.2.2.1 - u.1 4 p) / 360 < 18) = decide (L.1 0 p + L.1 10 0 < 6480) := by
    rw [h3, h4, hd, Int32.sub_zero, show (360 : Int32) = nI 360 from rfl, pk_div (by omega) (by decide) (by decide), nI_add, show (18 : Int32) = nI 18 from rfl]
    refine decide_eq_decide.mpr ((nI_ltI (by omega) (by decide)).trans ?_)
    rw [ha]
    omega
  rw [able, e1, e2, e3, n_able, n_able_36_s0]
  by_cases c1 : L.1 0 (16 + p) = 0
  · rw [if_pos c1]
    by_cases c2 : L.1 0 (32 + p) = 0
    · rw [if_pos c2]
      by_cases c3 : L.1 0 p + L.1 10 0 < 6480
      · rw [if_pos c3]; simp [c3]
      · rw [if_neg c3]; simp [c1, c2, c3]
    · rw [if_neg c2]; simp [c2]
  · rw [if_neg c1]; simp [c1]
theorem r_ch (h : ZR L u) {p q : Nat} (hp : p < 6) (hq : q < 6) : isCh u p (nI q) = decide (L.1 0 (24 + p) / 2 ^ q % 2 = 1) := by
  have h1 := (h.p hp).2.2.2.2.2.2 q hq
  by_cases c : L.1 0 (24 + p) / 2 ^ q % 2 = 1
  · rw [h1.mpr c, decide_eq_true c]
  · rw [decide_eq_false c]
    cases e : isCh u p (nI q) with
    | false => rfl
    | true => exact absurd (h1.mp e) c
theorem r_kin (h : ZR L u) {p q : Nat} (hp : p < 6) (hq : q < 6) : n_kin L p q = isKin u p q := by
  rw [isKin, r_ch h hp hq, r_ch h hq hp, n_kin, n_kin_33_s0]
  by_cases c : L.1 0 (24 + p) / 2 ^ q % 2 = 1
  · rw [if_pos c, decide_eq_true c, Bool.true_or]
  · rw [if_neg c, decide_eq_false c, Bool.false_or]
    by_cases c2 : L.1 0 (24 + q) / 2 ^ p % 2 = 1
    · rw [if_pos c2, decide_eq_true c2]
    · rw [if_neg c2, decide_eq_false c2]
/-- a power by itself -/
theorem r_alone (h : ZR L u) {d : Nat} (hd : d < L.1 10 1) : n_alone L d = goodA u d := by
  have D := h.d hd
  obtain ⟨hk, ek⟩ := D.kd
  obtain ⟨hg, eg⟩ := D.gv
  obtain ⟨es, hr, e26, e27⟩ := D.st
  obtain ⟨hps, e6⟩ := (h.p hg).2.2.1
  have b2 := h.B 2 d
  have b7 := h.B 7 d
  have b0 := h.B 10 0
  have a1 : decide (u.1 11 d = 3) = decide (L.1 1 d % 8 = 3) := by rw [ek, show (3 : Int32) = nI 3 from rfl]; exact decide_eq_decide.mpr (nIe (by omega) (by decide))
  have a2 : decide (u.1 22 d = 1) = decide (L.1 5 d % 4 = 1) := by rw [es, show (1 : Int32) = nI 1 from rfl]; exact decide_eq_decide.mpr (nIe (by omega) (by decide))
  have a3 : decide (u.1 22 d = 2) = decide (L.1 5 d % 4 = 2) := by rw [es, show (2 : Int32) = nI 2 from rfl]; exact decide_eq_decide.mpr (nIe (by omega) (by decide))
  have a4 : (decide (u.1 26 d = 0) || decide (u.1 27 d = 0)) = decide (L.1 5 d / 4 < 2) := by
    rw [e26, e27]
    by_cases c : L.1 5 d / 4 = 2
    · rw [if_neg (by omega), if_pos c, decide_eq_false (show ¬ L.1 5 d / 4 < 2 by omega)]; decide
    · rw [if_neg c, decide_eq_true (show L.1 5 d / 4 < 2 by omega)]
      simp [nI_0]
  have a5 : decide (u.1 6 (u.1 12 d).toNatClampNeg = 0) = decide (L.1 0 (16 + (L.1 1 d / 8 % 8)) = 0) := by
    rw [eg, nI_clamp (by omega), e6]
    exact decide_eq_decide.mpr (nIz (by omega))
  rw [goodA, a1, a2, a3, a4, a5, n_alone, n_alone_110_s0]
  by_cases c1 : L.1 1 d % 8 = 3
  · have e17 := (D.en c1).1
    have e24 := D.dy
    have ge : (L.1 5 d % 4 = 1 ∨ L.1 5 d % 4 = 2) → decide (goodEnd u d < u.2.2.2.1) = decide (n_alone_45_s0 L d < L.1 10 0) := by
      intro hst
      rw [if_neg (by omega)] at e24
      have ee : goodEnd u d = nI (n_alone_45_s0 L d) := by
        have p1 : (nI (L.1 5 d % 4) = nI 2 ∧ ¬ nI (L.1 2 d / 2) ≤ nI (L.1 7 d + 30)) ↔ (L.1 5 d % 4 = 2 ∧ L.1 7 d + 30 < L.1 2 d / 2) := by
          rw [nIe (by omega) (by decide), nI_leI (by omega) (by omega)]
          omega
        rw [goodEnd, e17, e24, es, show (2 : Int32) = nI 2 from rfl, show (30 : Int32) = nI 30 from rfl, nI_add, n_alone_45_s0]
        by_cases z : L.1 5 d % 4 = 2
        · rw [if_pos z]
          by_cases z2 : L.1 7 d + 30 < L.1 2 d / 2
          · rw [if_pos (p1.mpr ⟨z, z2⟩), if_pos z2]
          · rw [if_neg (fun q => z2 (p1.mp q).2), if_neg z2]
        · rw [if_neg (fun q => z (p1.mp q).1), if_neg z]
      rw [ee, h.dy]
      refine decide_eq_decide.mpr (nI_ltI ?_ (by omega))
      unfold n_alone_45_s0
      (repeat' split) <;> omega
    rw [if_pos c1, decide_eq_true c1, Bool.true_and]
    by_cases c2 : L.1 5 d % 4 = 1
    · rw [if_pos c2, decide_eq_true c2, Bool.true_or, Bool.true_and, ge (Or.inl c2)]
      by_cases c3 : n_alone_45_s0 L d < L.1 10 0
      · rw [if_pos c3, decide_eq_true c3]; rfl
      · rw [if_neg c3, decide_eq_false c3]
        by_cases c4 : L.1 5 d / 4 < 2
        · rw [if_pos c4, decide_eq_true c4]
          by_cases c5 : L.1 0 (16 + (L.1 1 d / 8 % 8)) = 0
          · rw [if_pos c5, decide_eq_true c5]; rfl
          · rw [if_neg c5, decide_eq_false c5]; rfl
        · rw [if_neg c4, decide_eq_false c4]; rfl
    · rw [if_neg c2, decide_eq_false c2, Bool.false_or]
      by_cases c6 : L.1 5 d % 4 = 2
      · rw [if_pos c6, decide_eq_true c6, Bool.true_and, ge (Or.inr c6)]
        by_cases c3 : n_alone_45_s0 L d < L.1 10 0
        · rw [if_pos c3, decide_eq_true c3]; rfl
        · rw [if_neg c3, decide_eq_false c3]
          by_cases c4 : L.1 5 d / 4 < 2
          · rw [if_pos c4, decide_eq_true c4]
            by_cases c5 : L.1 0 (16 + (L.1 1 d / 8 % 8)) = 0
            · rw [if_pos c5, decide_eq_true c5]; rfl
            · rw [if_neg c5, decide_eq_false c5]; rfl
          · rw [if_neg c4, decide_eq_false c4]; rfl
      · rw [if_neg c6, decide_eq_false c6, Bool.false_and]
  · rw [if_neg c1, decide_eq_false c1, Bool.false_and]
/-- the chain of powers -/
theorem r_goodN (h : ZR L u) {N : Nat} (hI : CI N u) : ∀ (r f d : Nat) (b : Bool), d < L.1 10 1 → (b = true → ¬ u.1 22 d = 0) → nm u d < r → nm u d < f → n_goodN L r (L.1 3 d) b = goodC u f d b := by
  intro r
  induction r with
  | zero => intro f d b _ _ h1; omega
  | succ r ih =>
    intro f d b hd hb h1 h2
    obtain ⟨f, rfl⟩ : ∃ g, f = g + 1 := ⟨f - 1, by omega⟩
    obtain ⟨hc, e19⟩ := (h.d hd).by
    have hnd := h.nd
    rw [goodC, n_goodN]
    cases b with
    | false =>
      rw [if_pos rfl]
      clear ih hb
      by_cases z : L.1 3 d = 0
      · rw [if_pos z]
      · rw [if_neg z, Bool.false_and]
        have ff : ∀ r c, n_goodN L r c false = false := fun r => by
          induction r with
          | zero => intro c; rfl
          | succ r ih => intro c; rw [n_goodN]; split; rfl; rw [Bool.false_and]; exact ih _
        exact ff _ _
    | true =>
      rw [if_neg (show ¬ true = false by decide), e19]
      by_cases z : L.1 3 d = 0
      · rw [if_pos z, z]; rfl
      · rw [if_neg z, if_neg (fun q => z ((nIm (by omega)).mp q)), nI_sub1 z, nI_clamp (by omega), Bool.true_and]
        have hso := hI.so (d := d) (by rw [hnd.1]; exact hd)
        have hlt : L.1 3 d - 1 < L.1 10 1 := by
          rcases hso with q | ⟨b, hb2, q⟩
          · rw [e19] at q; exact absurd ((nIm (by omega)).mp q) z
          · rw [e19, nI_sub1 z, nIe (by omega) (by omega)] at q
            omega
        have hB := hI.I.B d (by omega)
        have hnm : nm u (L.1 3 d - 1) < nm u d := by
          rcases hB.2 with q | ⟨b, hb2, q, hq⟩
          · rw [e19] at q; exact absurd ((nIm (by omega)).mp q) z
          · rw [e19, nI_sub1 z, nIe (by omega) (by omega)] at q
            rw [q]
            exact hq (hb rfl)
        obtain ⟨hk2, ek2⟩ := (h.d hlt).kd
        have e18 : n_alone L (L.1 3 d - 1) = true → (!decide (u.1 18 (L.1 3 d - 1) = 0)) = decide (L.1 2 (L.1 3 d - 1) % 2 = 1) := by
          intro q
          rw [r_alone h hlt, goodA, Bool.and_eq_true, decide_eq_true_eq, ek2, show (3 : Int32) = nI 3 from rfl, nIe (by omega) (by decide)] at q
          rw [((h.d hlt).en q.1).2]
          by_cases y : L.1 2 (L.1 3 d - 1) % 2 = 1
          · rw [y]; decide
          · rw [show L.1 2 (L.1 3 d - 1) % 2 = 0 by omega]; decide
        have e : (n_alone L (L.1 3 d - 1) && decide (L.1 2 (L.1 3 d - 1) % 2 = 1)) = (goodA u (L.1 3 d - 1) && !decide (u.1 18 (L.1 3 d - 1) = 0)) := by
          rw [← r_alone h hlt]
          cases q : n_alone L (L.1 3 d - 1) with
          | false => rw [Bool.false_and, Bool.false_and]
          | true => rw [e18 q]
        rw [e]
        exact ih f (L.1 3 d - 1) _ hlt (fun q => by
          rw [Bool.and_eq_true] at q
          exact goodA_state q.1) (by omega) (by omega)
theorem r_good (h : ZR L u) {N : Nat} (hI : CI N u) {d : Nat} (hd : d < L.1 10 1) : n_good L d = good u d := by
  have hnd := h.nd
  have hB := (hI.I.B d (by omega)).1
  rw [n_good, good, r_alone h hd]
  exact r_goodN h hI 64 61 d _ hd (fun q => goodA_state q) (by omega) (by omega)
/-- papers -/
theorem r_lst : ∀ a, a < 8 → ∀ s, s < 5 → ∀ t, t < 5 → s + t ≤ 4 → 0 < s → n_leastN (s * 2 ^ (3 * a) + t * 2 ^ (3 * (a + 1))) 9 0 = a := by decide +kernel
theorem r_mny : ∀ a, a < 8 → ∀ s, s < 5 → ∀ t, t < 5 → s + t ≤ 4 → n_many (s * 2 ^ (3 * a) + t * 2 ^ (3 * (a + 1))) 9 = s + t := by decide +kernel
theorem r_least (h : ZR L u) {d : Nat} (hd : d < L.1 10 1) : n_least (L.1 9 d) = least u d := by
  obtain ⟨a, s, t, ha, hst, hz, -, e29, es, -, ej⟩ := (h.d hd).pp
  rw [least, e29, ej]
  by_cases c : s = 0
  · have := hz c
    subst c; subst this
    rw [if_pos (by decide), Nat.zero_mul, Nat.zero_mul]
    decide
  · rw [if_neg (fun q => by have := (nIz (by omega)).mp q; omega), n_least, r_lst a (by omega) s (by omega) t (by omega) hst (by omega), if_neg (by omega)]
    exact (es 0 (by omega)).symm
end ZRA
