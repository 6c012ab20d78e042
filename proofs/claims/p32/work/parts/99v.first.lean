/-! the law's first rows; the children of a person -/
def rmTurn : Nat × Nat := (2960, 33800)
/-- rows just made -/
def Z00 : ZU := (fun _ _ => 0, fun _ => 0)
def zcell (g : Gx) (k : Nat) : va_E := if k = 11 then arJ g 14 (fun _ => lN 0) else arI g (zlen k) (fun _ => nI 0)
def sgN (g : Gx) (s : Sg) (q : Nat → Nat) : Nat → Sg
  | 0 => s
  | k + 1 => sgu (sgN g s q k) (q k) (zcell g k)
theorem sgN_old {g : Gx} {s : Sg} {q : Nat → Nat} : ∀ n, (∀ k, k < n → sgN g s q k (q k) = none) → ∀ a, s a ≠ none → sgN g s q n a = s a := fun n => by
  induction n with
  | zero => exact fun _ _ _ => rfl
  | succ n ih =>
    intro h a ha
    have h1 := ih (fun k hk => h k (by omega)) a ha
    rw [sgN, sgu_n (fun z => ?_)]
    · exact h1
    · have := h n (Nat.lt_succ_self n)
      rw [← z, h1] at this
      exact ha this
theorem sgN_at {g : Gx} {s : Sg} {q : Nat → Nat} : ∀ n, (∀ k, k < n → sgN g s q k (q k) = none) → (∀ k, k < n → sgN g s q n (q k) = some (zcell g k)) ∧ ∀ i j, i < n → j < n → q i = q j → i = j := fun n => by
  induction n with
  | zero => exact fun _ => ⟨fun k hk => absurd hk (Nat.not_lt_zero k), fun i _ hi => absurd hi (Nat.not_lt_zero i)⟩
  | succ n ih =>
    intro h
    obtain ⟨h1, h2⟩ := ih (fun k hk => h k (by omega))
    have hn := h n (Nat.lt_succ_self n)
    have hne : ∀ k, k < n → q k ≠ q n := fun k hk z => by
      have := h1 k hk
      rw [z, hn] at this
      cases this
    refine ⟨fun k hk => ?_, fun i j hi hj z => ?_⟩
    · by_cases e : k = n
      · subst e
        rw [sgN, sgu_s]
      · rw [sgN, sgu_n (hne k (by omega))]
        exact h1 k (by omega)
    · by_cases e : i = n
      · by_cases e2 : j = n
        · omega
        · exact absurd (by rw [← e]; exact z.symm) (hne j (by omega))
      · by_cases e2 : j = n
        · exact absurd (by rw [← e2]; exact z) (hne i (by omega))
        · exact h2 i j (by omega) (by omega) z
theorem ZS.first {g : Gx} {s : Sg} {q : Nat → Nat} (h : ∀ k, k < 13 → sgN g s q k (q k) = none) : ZS g q Z00 (sgN g s q 13) := by
  obtain ⟨h1, h2⟩ := sgN_at 13 h
  refine ⟨fun k hk => ?_, ?_, h2⟩
  · rw [h1 k (zar_lt hk), zcell, if_neg (zar_n hk)]
    rfl
  · rw [h1 11 (by decide)]
    rfl
/-! the class behind the law's start -/
def uS : Nat → MU
  | 0 => u00
  | k + 1 => if k < 6 then (opPerson (uS k) (nI (pAge k)) (decide (k = 2))).2.2 else (opThing (uS k) (nI (k - 6)) (nI (if k = 6 then 999 else 54321))).2.2
theorem op_p (k : Nat) (hk : k < 6) : opPerson (uS k) (nI (pAge k)) (decide (k = 2)) = (0, nI k, uS (k + 1)) := by
  have h1 : ∀ k, k < 6 → (opPerson (uS k) (nI (pAge k)) (decide (k = 2))).1 = 0 := by decide +kernel
  have h2 : ∀ k, k < 6 → (opPerson (uS k) (nI (pAge k)) (decide (k = 2))).2.1 = nI k := by decide +kernel
  exact Prod.ext (h1 k hk) (Prod.ext (h2 k hk) (by rw [uS, if_pos hk]))
theorem op_t (k : Nat) (h6 : 6 ≤ k) (hk : k < 8) : opThing (uS k) (nI (k - 6)) (nI (if k = 6 then 999 else 54321)) = (0, nI (k - 6), uS (k + 1)) := by
  have h1 : ∀ k, k < 8 → 6 ≤ k → (opThing (uS k) (nI (k - 6)) (nI (if k = 6 then 999 else 54321))).1 = 0 := by decide +kernel
  have h2 : ∀ k, k < 8 → 6 ≤ k → (opThing (uS k) (nI (k - 6)) (nI (if k = 6 then 999 else 54321))).2.1 = nI (k - 6) := by decide +kernel
  exact Prod.ext (h1 k hk h6) (Prod.ext (h2 k hk h6) (by rw [uS, if_neg (show ¬ k < 6 by omega)]))
theorem op_t0 : opThing (uS 6) (nI 0) (nI 999) = (0, nI 0, uS 7) := op_t 6 (by decide) (by decide)
theorem op_t1 : opThing (uS 7) (nI 1) (nI 54321) = (0, nI 1, uS 8) := op_t 7 (by decide) (by decide)
theorem uS_CZ (k : Nat) : CZ 0 (uS k) := by
  induction k with
  | zero => exact CZ.start
  | succ k ih =>
    rw [show uS (k + 1) = if k < 6 then (opPerson (uS k) (nI (pAge k)) (decide (k = 2))).2.2 else (opThing (uS k) (nI (k - 6)) (nI (if k = 6 then 999 else 54321))).2.2 from rfl]
    split
    · exact ih.person
    · exact ih.thing
/-- the law's rows of persons, k of them written -/
def zP : Nat → ZU
  | 0 => Z00
  | k + 1 => zI (zI (zP k) 0 k (360 * pAge k)) 0 (8 + k) (if k = 2 then 1 else 0)
def zF : ZU := zJ (zJ (zP 6) 0 PARTS) 8 PARTS
theorem pAge_60 (k : Nat) : pAge k ≤ 60 := by
  unfold pAge
  split <;> omega
theorem zP_B : ∀ k, ZB (zP k) := fun k => by
  induction k with
  | zero => exact fun _ _ => Nat.two_pow_pos 30
  | succ k ih =>
    have := pAge_60 k
    refine (ih.set (by omega)).set ?_
    split <;> decide
theorem zP_0 : ∀ k, ∀ a j, a ≠ 0 → (zP k).1 a j = 0 := fun k => by
  induction k with
  | zero => exact fun _ _ _ => rfl
  | succ k ih => intro a j ha; rw [zP, zI_k ha, zI_k ha]; exact ih a j ha
theorem zP_2 : ∀ k, (zP k).2 = fun _ => 0 := fun k => by
  induction k with
  | zero => rfl
  | succ k ih => rw [zP]; exact ih
theorem first_p : ∀ p, p < 6 → ZRp zF (uS 8) p := by
  intro p hp
  have key : ∀ p, p < 6 → ((uS 8).1 3 p = nI (pAge p) ∧ (uS 8).1 4 p = 0 ∧ zF.1 0 p = 360 * pAge p) ∧ (zF.1 0 (8 + p) ≤ 1 ∧ (uS 8).1 5 p = nI (zF.1 0 (8 + p))) ∧ (zF.1 0 (16 + p) ≤ 1 ∧ (uS 8).1 6 p = nI (zF.1 0 (16 + p))) ∧ (zF.1 0 (32 + p) ≤ 6 ∧ (uS 8).1 9 p = nI (zF.1 0 (32 + p)) - 1) ∧ zF.1 0 (24 + p) < 64 ∧ (uS 8).1 8 p = nI (n_dM (zF.1 0 (24 + p)) 6) ∧ ∀ q, q < 6 → (isCh (uS 8) p (nI q) = true ↔ zF.1 0 (24 + p) / 2 ^ q % 2 = 1) := by decide +kernel
  exact key p hp
theorem first_s : ∀ t, t < 2 → ∀ k, k < 7 → ZRs zF (uS 8) t k := by
  have key : ∀ t, t < 2 → ∀ k, k < 7 → zF.2 (7 * t + k) * vN ((uS 8).2.1 34 (13 * t + kk k)) = PARTS * vN ((uS 8).2.1 33 (13 * t + kk k)) := by decide +kernel
  exact key
theorem ZR.first : ZR zF (uS 8) := by
  have e : ∀ a j, a ≠ 0 → zF.1 a j = 0 := fun a j ha => zP_0 6 a j ha
  refine ⟨zP_B 6, ?_, first_p, fun d hd => ?_, fun d _ _ => ⟨e 3 d (by decide), e 4 d (by decide), e 5 d (by decide), e 6 d (by decide), e 7 d (by decide), e 8 d (by decide), e 9 d (by decide)⟩, fun d hd => ?_, ⟨by decide +kernel, by decide +kernel⟩, first_s, fun i hi => ?_⟩
  · unfold ZRn
    rw [e 10 1 (by decide), e 10 2 (by decide), e 10 3 (by decide), e 10 0 (by decide), e 10 4 (by decide)]
    decide +kernel
  · rw [e 10 1 (by decide)] at hd
    exact absurd hd (Nat.not_lt_zero d)
  · rw [e 10 3 (by decide)] at hd
    exact absurd hd (Nat.not_lt_zero d)
  · rw [zF, zJ_n (by omega), zJ_n (by omega), zP_2]
theorem ZKu.first : ZKu (uS 8) := by
  have key : ∀ pa, pa < 6 → kidN (uS 8) pa 6 ≤ 4 := by decide +kernel
  exact key
/-! children, in the law's numbers -/
def n_kids (L : ZU) (pa : Nat) : Nat → Nat
  | 0 => 0
  | k + 1 => n_kids L pa k + ((L.1 0 (24 + k)) / 2 ^ pa) % 2
theorem n_kids_le {L : ZU} {pa : Nat} (m : Nat) : n_kids L pa m ≤ m := by
  induction m with
  | zero => exact Nat.le_refl _
  | succ m ih => rw [n_kids]; omega
section KDS
variable {L : ZU} {u : MU} {N : Nat}
theorem kid_row (h : ZR L u) {pa : Nat} (hp : pa < 6) (m : Nat) (hm : m ≤ 6) : kidN u pa m = n_kids L pa m := by
  induction m with
  | zero => rfl
  | succ m ih =>
    have e := q_ch h (p := m) (q := pa) (by omega) hp
    rw [kidN, n_kids, ih (by omega)]
    by_cases c : L.1 0 (24 + m) / 2 ^ pa % 2 = 1
    · rw [if_pos (e.mpr c), c]
    · rw [if_neg (fun q => c (e.mp q))]
      omega
theorem kids_up {pa one v : Nat} (hr : L.1 0 (24 + one) < 64) (hpa : pa < 6) (ho : one < 6) (hv : v = L.1 0 (24 + one) ∨ v = L.1 0 (24 + one) ||| 2 ^ pa) {b : Nat} (hb : b < 6) (m : Nat) (hm : m ≤ 6) : n_kids (zI L 0 (24 + one) v) b m ≤ n_kids L b m + (if one < m ∧ b = pa then 1 else 0) := by
  induction m with
  | zero => exact Nat.zero_le _
  | succ m ih =>
    have i := ih (by omega)
    rw [n_kids, n_kids]
    by_cases z : m = one
    · subst z
      rw [if_neg (fun q => Nat.lt_irrefl m q.1)] at i
      rw [zI_s]
      rcases hv with rfl | rfl
      · omega
      · rw [bits_ch2 _ hr pa hpa b hb]
        by_cases y : b = pa
        · rw [if_pos y, if_pos ⟨Nat.lt_succ_self m, y⟩]
          omega
        · rw [if_neg y, if_neg (fun q => y q.2)]
          omega
    · rw [zI_n (by omega)]
      by_cases y : one < m ∧ b = pa
      · rw [if_pos y] at i
        rw [if_pos ⟨by omega, y.2⟩]
        omega
      · rw [if_neg y] at i
        rw [if_neg (fun q => y ⟨by omega, q.2⟩)]
        omega
theorem ZKu.childR (hK : ZKu u) (h : ZR L u) {u' : MU} {pa one v : Nat} (h' : ZR (zI L 0 (24 + one) v) u') (hpa : pa < 6) (ho : one < 6) (hv : v = L.1 0 (24 + one) ∨ v = L.1 0 (24 + one) ||| 2 ^ pa) (hm : n_kids L pa 6 < 4) : ZKu u' := fun b hb => by
  rw [kid_row h' hb 6 (Nat.le_refl _)]
  have h1 := kids_up (h.p ho).2.2.2.2.1 hpa ho hv hb 6 (Nat.le_refl _)
  have h2 := hK b hb
  rw [kid_row h hb 6 (Nat.le_refl _)] at h2
  by_cases y : one < 6 ∧ b = pa
  · rw [if_pos y] at h1
    have := y.2
    subst this
    omega
  · rw [if_neg y] at h1
    omega
end KDS
