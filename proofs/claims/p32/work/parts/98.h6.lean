/-! the law's helpers: dies -/
theorem n_willN_k {L : ZU} {x0 : Nat} (m : Nat) (h : ¬ (n_willN L x0 m).1 = 0) : (n_willN L x0 m).1 - 1 < m ∧ L.1 1 ((n_willN L x0 m).1 - 1) % 8 = 4 := by
  induction m with
  | zero => exact absurd rfl h
  | succ m ih =>
    rw [n_willN] at h ⊢
    split
    · next q =>
      exact ⟨Nat.lt_succ_self m, q.1⟩
    · next q =>
      rw [if_neg q] at h
      have := ih h
      exact ⟨by omega, this.2⟩
def n_dies_79_s0 (L : ZU) (x0 k : Nat) : Nat := (if (L.1 0 (16 + k)) = 0 then (if (((L.1 0 (24 + k)) / 2 ^ x0) % 2) = 1 then 1 * 2 ^ k else 0) else 0)
def n_dies_117_s0 (L : ZU) (x0 k : Nat) : Nat := (if (L.1 0 (16 + k)) = 0 then (if (((L.1 0 (24 + x0)) / 2 ^ k) % 2) = 1 then 1 * 2 ^ k else 0) else 0)
def n_dCh (L : ZU) (x0 : Nat) : Nat → Nat
  | 0 => 0
  | k + 1 => n_dCh L x0 k ||| n_dies_79_s0 L x0 k
def n_dPa (L : ZU) (x0 : Nat) : Nat → Nat
  | 0 => 0
  | k + 1 => n_dPa L x0 k ||| n_dies_117_s0 L x0 k
def n_dies_138_s0 (L : ZU) (x0 : Nat) : Nat := (if 0 < n_dCh L x0 6 then n_dCh L x0 6 else n_dPa L x0 6)
def n_dM (h : Nat) : Nat → Nat
  | 0 => 0
  | k + 1 => n_dM h k + (h / 2 ^ k) % 2
def n_dW (L : ZU) (i : Nat) : Nat := if i < 14 then L.2 i else 0
theorem pow_k {k : Nat} (h : k < 6) : 1 * 2 ^ k < 2 ^ 32 := by
  have := Nat.pow_lt_pow_right (a := 2) (by decide) (m := k) (n := 6) h
  omega
theorem share_le {a m n : Nat} (h : n ≤ m) : a / m * n ≤ a := Nat.le_trans (Nat.mul_le_mul_left _ h) (Nat.div_mul_le_self a m)
theorem n_dCh_lt {L : ZU} {x0 : Nat} (k : Nat) : n_dCh L x0 k < 2 ^ k := by
  induction k with
  | zero => rw [n_dCh]; decide
  | succ k ih =>
    have h2 : (2 : Nat) ^ (k + 1) = 2 ^ k * 2 := Nat.pow_succ ..
    have h3 := Nat.two_pow_pos k
    rw [n_dCh]
    refine Nat.or_lt_two_pow (by omega) ?_
    unfold n_dies_79_s0
    (repeat' split) <;> omega
theorem n_dPa_lt {L : ZU} {x0 : Nat} (k : Nat) : n_dPa L x0 k < 2 ^ k := by
  induction k with
  | zero => rw [n_dPa]; decide
  | succ k ih =>
    have h2 : (2 : Nat) ^ (k + 1) = 2 ^ k * 2 := Nat.pow_succ ..
    have h3 := Nat.two_pow_pos k
    rw [n_dPa]
    refine Nat.or_lt_two_pow (by omega) ?_
    unfold n_dies_117_s0
    (repeat' split) <;> omega
theorem n_dH_lt {L : ZU} {x0 : Nat} : n_dies_138_s0 L x0 < 64 := by
  have h1 := n_dCh_lt (L := L) (x0 := x0) 6
  have h2 := n_dPa_lt (L := L) (x0 := x0) 6
  unfold n_dies_138_s0
  split <;> omega
theorem n_dM_le {h : Nat} (k : Nat) : n_dM h k ≤ k := by
  induction k with
  | zero => exact Nat.le_refl _
  | succ k ih => rw [n_dM]; omega
theorem n_dM_mono {h k m : Nat} (hk : k ≤ m) : n_dM h k ≤ n_dM h m := by
  induction m with
  | zero => rw [show k = 0 by omega]; exact Nat.le_refl _
  | succ m ih =>
    by_cases e : k = m + 1
    · rw [e]; exact Nat.le_refl _
    · have := ih (by omega)
      rw [n_dM]
      omega
theorem n_dM_pos {h k : Nat} (hb : (h / 2 ^ k) % 2 = 1) (hk : k < 6) : 0 < n_dM h 6 := by
  have h1 := n_dM_mono (h := h) (k := k + 1) (m := 6) (by omega)
  rw [n_dM] at h1
  omega
def n_dies_261_s0 (M : ZU) (x0 c ch t : Nat) : Nat := (if c = 0 then 0 else ((M.2 ((7 * t) + x0)) / ((M.1 2 (c - 1)) % 128)) * ((M.1 2 (c - 1)) / 128))
def n_dies_291_s0 (M : ZU) (x0 c ch t : Nat) : Nat := (if 0 < ch then (if (M.2 ((7 * t) + x0)) < (2 * (n_dies_261_s0 M x0 c ch t)) then (M.2 ((7 * t) + x0)) / 2 else (n_dies_261_s0 M x0 c ch t)) else (n_dies_261_s0 M x0 c ch t))
def n_dies_340_L (M : ZU) (x0 c ch t : Nat) : ZU := (if c = 0 then (zJ M ((7 * t) + x0) 0) else (zJ (zJ M ((7 * t) + x0) 0) ((7 * t) + (((M.1 1 (c - 1)) / 64) % 8)) (((zJ M ((7 * t) + x0) 0).2 ((7 * t) + (((M.1 1 (c - 1)) / 64) % 8))) + (n_dies_291_s0 M x0 c ch t))))
def n_dies_386_s0 (h mny all sm k : Nat) : Nat := (if ((h / 2 ^ k) % 2) = 1 then (all - sm) / mny else 0)
def n_dies_420_s0 (mny all sm : Nat) : Nat := (if mny = 0 then all - sm else 0)
def n_dies_489_s0 (W : Nat → Nat) (F : ZU) (t : Nat) (bb : Bool) (k : Nat) : Bool := (if bb = true then (if (F.2 ((7 * t) + k)) = (W ((7 * t) + k)) then true else (if 1000000 < (n_below (F.2 ((7 * t) + k))) then false else true)) else false)
/-- heirs' parts -/
def n_dE (h mny all sm t : Nat) (M : ZU) : Nat → ZU
  | 0 => M
  | k + 1 => zJ (n_dE h mny all sm t M k) ((7 * t) + k) (((n_dE h mny all sm t M k).2 ((7 * t) + k)) + (n_dies_386_s0 h mny all sm k))
def n_dF (W : Nat → Nat) (F : ZU) (t : Nat) (b : Bool) : Nat → Bool
  | 0 => b
  | k + 1 => n_dies_489_s0 W F t (n_dF W F t b k) k
def n_dM4 (x0 c ch h mny t : Nat) (M : ZU) : ZU := zJ (n_dE h mny (M.2 ((7 * t) + x0)) (n_dies_291_s0 M x0 c ch t) t (n_dies_340_L M x0 c ch t) 6) ((7 * t) + 6) (((n_dE h mny (M.2 ((7 * t) + x0)) (n_dies_291_s0 M x0 c ch t) t (n_dies_340_L M x0 c ch t) 6).2 ((7 * t) + 6)) + (n_dies_420_s0 mny (M.2 ((7 * t) + x0)) (n_dies_291_s0 M x0 c ch t)))
def n_dT1 (W : Nat → Nat) (x0 c ch h mny t : Nat) (M : ZU) (b : Bool) (md : Nat) : ZU × Bool × Nat := if 0 < (M.2 ((7 * t) + x0)) then (n_dM4 x0 c ch h mny t M, n_dF W (n_dM4 x0 c ch h mny t M) t b 7, md + 1) else (M, b, md)
def n_dT (L : ZU) (x0 c ch h mny : Nat) : Nat → ZU × Bool × Nat
  | 0 => (L, true, 0)
  | t + 1 => n_dT1 (n_dW L) x0 c ch h mny t (n_dT L x0 c ch h mny t).1 (n_dT L x0 c ch h mny t).2.1 (n_dT L x0 c ch h mny t).2.2
def n_dR (L M : ZU) : Nat → ZU
  | 0 => M
  | k + 1 => zJ (n_dR L M k) k (n_dW L k)
def n_dHn (L : ZU) (x0 : Nat) (M : ZU) : Nat → ZU
  | 0 => M
  | t + 1 => if 0 < (n_dW L ((7 * t) + x0)) then zI (zI (n_dHn L x0 M t) 12 ((n_dHn L x0 M t).1 10 3) ((5 + (8 * x0)) + (512 * t))) 10 3 (((n_dHn L x0 M t).1 10 3) + 1) else n_dHn L x0 M t
def n_dies_658_s0 (E : ZU) (x0 k : Nat) : Nat := (if (E.1 0 (32 + k)) = (x0 + 1) then 0 else (E.1 0 (32 + k)))
def n_dG (x0 : Nat) (M : ZU) : Nat → ZU
  | 0 => M
  | k + 1 => zI (n_dG x0 M k) 0 (32 + k) (n_dies_658_s0 (n_dG x0 M k) x0 k)
def n_dc (L : ZU) (x0 : Nat) : Nat := (n_willN L x0 (L.1 10 1)).1
def n_dS (L : ZU) (x0 : Nat) : ZU × Bool × Nat := n_dT L x0 (n_dc L x0) (n_dCh L x0 6) (n_dies_138_s0 L x0) (n_dM (n_dies_138_s0 L x0) 6) 2
def n_dies (L : ZU) (x0 : Nat) : Int32 × ZU :=
  if (L.1 0 (16 + x0)) = 1 then (-1003, L) else
  if (n_dS L x0).2.1 = true ∧ ¬ 30 < (((n_dS L x0).1.1 10 3) + (n_dS L x0).2.2) then (nI (n_dS L x0).2.2, n_dG x0 (zI (n_dHn L x0 (n_dS L x0).1 2) 0 (16 + x0) 1) 6)
  else (-1003, n_dR L (n_dS L x0).1 14)
theorem n_d340_1 {M : ZU} {x0 c ch t : Nat} : (n_dies_340_L M x0 c ch t).1 = M.1 := by
  unfold n_dies_340_L
  split <;> rfl
theorem n_dE_1 {h mny all sm t : Nat} {M : ZU} (k : Nat) : (n_dE h mny all sm t M k).1 = M.1 := by
  induction k with
  | zero => rfl
  | succ k ih => rw [n_dE, zJ_1, ih]
theorem n_dM4_1 {x0 c ch h mny t : Nat} {M : ZU} : (n_dM4 x0 c ch h mny t M).1 = M.1 := by
  rw [n_dM4, zJ_1, n_dE_1, n_d340_1]
theorem n_dT_1 {L : ZU} {x0 c ch h mny : Nat} (t : Nat) : (n_dT L x0 c ch h mny t).1.1 = L.1 := by
  induction t with
  | zero => rfl
  | succ t ih =>
    rw [n_dT, n_dT1]
    split
    · exact n_dM4_1.trans ih
    · exact ih
theorem n_dT_md {L : ZU} {x0 c ch h mny : Nat} (t : Nat) : (n_dT L x0 c ch h mny t).2.2 ≤ t := by
  induction t with
  | zero => exact Nat.le_refl _
  | succ t ih =>
    rw [n_dT, n_dT1]
    split
    · show (n_dT L x0 c ch h mny t).2.2 + 1 ≤ t + 1
      omega
    · show (n_dT L x0 c ch h mny t).2.2 ≤ t + 1
      omega
theorem zJ_le {M : ZU} {i v B : Nat} (h : ∀ j, M.2 j < B) (hv : v < B) : ∀ j, (zJ M i v).2 j < B := fun j => by
  rw [zJ_a]
  split
  · exact hv
  · exact h j
/-- the shares stay small -/
theorem n_dM4_b {x0 c ch h mny t : Nat} {M : ZU} {B : Nat} (hB : ∀ j, M.2 j < B) (hs : n_dies_291_s0 M x0 c ch t ≤ M.2 ((7 * t) + x0)) : ∀ j, (n_dM4 x0 c ch h mny t M).2 j < 4 * B := by
  have h0 := hB ((7 * t) + x0)
  have hr : ∀ k, n_dies_386_s0 h mny (M.2 ((7 * t) + x0)) (n_dies_291_s0 M x0 c ch t) k ≤ M.2 ((7 * t) + x0) := fun k => by
    unfold n_dies_386_s0
    split
    · exact Nat.le_trans (Nat.div_le_self _ _) (Nat.sub_le _ _)
    · exact Nat.zero_le _
  have h1 : ∀ j, (n_dies_340_L M x0 c ch t).2 j < 2 * B := by
    intro j
    unfold n_dies_340_L
    have hz : ∀ j, (zJ M ((7 * t) + x0) 0).2 j < B := zJ_le hB (by omega)
    split
    · have := hz j
      omega
    · refine zJ_le (B := 2 * B) (fun j => by have := hz j; omega) ?_ j
      have := hz ((7 * t) + (((M.1 1 (c - 1)) / 64) % 8))
      omega
  have h2 : ∀ k j, (n_dE h mny (M.2 ((7 * t) + x0)) (n_dies_291_s0 M x0 c ch t) t (n_dies_340_L M x0 c ch t) k).2 j < 3 * B ∧ (7 * t + k ≤ j → (n_dE h mny (M.2 ((7 * t) + x0)) (n_dies_291_s0 M x0 c ch t) t (n_dies_340_L M x0 c ch t) k).2 j < 2 * B) := by
    intro k
    induction k with
    | zero => exact fun j => ⟨by rw [n_dE]; have := h1 j; omega, fun _ => h1 j⟩
    | succ k ih =>
      intro j
      have e : (n_dE h mny (M.2 ((7 * t) + x0)) (n_dies_291_s0 M x0 c ch t) t (n_dies_340_L M x0 c ch t) (k + 1)).2 j = if j = (7 * t) + k then (((n_dE h mny (M.2 ((7 * t) + x0)) (n_dies_291_s0 M x0 c ch t) t (n_dies_340_L M x0 c ch t) k).2 ((7 * t) + k)) + (n_dies_386_s0 h mny (M.2 ((7 * t) + x0)) (n_dies_291_s0 M x0 c ch t) k)) else (n_dE h mny (M.2 ((7 * t) + x0)) (n_dies_291_s0 M x0 c ch t) t (n_dies_340_L M x0 c ch t) k).2 j := by rw [n_dE, zJ_a]
      have a1 := (ih ((7 * t) + k)).2 (Nat.le_refl _)
      have a2 := hr k
      have a3 := ih j
      rw [e]
      by_cases z : j = (7 * t) + k
      · rw [if_pos z]
        exact ⟨by omega, fun q => by omega⟩
      · rw [if_neg z]
        exact ⟨a3.1, fun q => a3.2 (by omega)⟩
  intro j
  rw [n_dM4]
  refine zJ_le (B := 4 * B) (fun j => by have := (h2 6 j).1; omega) ?_ j
  have a1 := (h2 6 ((7 * t) + 6)).1
  have a2 : n_dies_420_s0 mny (M.2 ((7 * t) + x0)) (n_dies_291_s0 M x0 c ch t) ≤ M.2 ((7 * t) + x0) := by
    unfold n_dies_420_s0
    split <;> omega
  omega
theorem n_d291_le {M : ZU} {x0 c ch t : Nat} (hw : ¬ c = 0 → M.1 2 (c - 1) / 128 ≤ M.1 2 (c - 1) % 128) : n_dies_291_s0 M x0 c ch t ≤ M.2 ((7 * t) + x0) := by
  have h1 : n_dies_261_s0 M x0 c ch t ≤ M.2 ((7 * t) + x0) := by
    unfold n_dies_261_s0
    split
    · exact Nat.zero_le _
    · next hz => exact share_le (hw hz)
  unfold n_dies_291_s0
  (repeat' split) <;> omega
theorem n_dT_b {L : ZU} {x0 c ch h mny : Nat} (hJ : ∀ i, L.2 i < 2 ^ 48) (hw : ¬ c = 0 → L.1 2 (c - 1) / 128 ≤ L.1 2 (c - 1) % 128) : (∀ j, (n_dT L x0 c ch h mny 1).1.2 j < 2 ^ 50) ∧ ∀ j, (n_dT L x0 c ch h mny 2).1.2 j < 2 ^ 52 := by
  have s : ∀ t B, (∀ j, (n_dT L x0 c ch h mny t).1.2 j < B) → ∀ j, (n_dT L x0 c ch h mny (t + 1)).1.2 j < 4 * B := fun t B hB j => by
    rw [n_dT, n_dT1]
    split
    · exact n_dM4_b hB (n_d291_le (by rw [n_dT_1]; exact hw)) j
    · have := hB j
      show (n_dT L x0 c ch h mny t).1.2 j < 4 * B
      omega
  have h1 := s 0 (2 ^ 48) hJ
  have h2 := s 1 (4 * 2 ^ 48) h1
  exact ⟨fun j => by have := h1 j; omega, fun j => by have := h2 j; omega⟩
theorem n_dHn_3 {L : ZU} {x0 : Nat} {M : ZU} (t : Nat) : (n_dHn L x0 M t).1 10 3 ≤ M.1 10 3 + t := by
  induction t with
  | zero => exact Nat.le_refl _
  | succ t ih =>
    rw [n_dHn]
    split
    · rw [zI_s]; omega
    · omega
theorem n_dHn_B {L : ZU} {x0 : Nat} {M : ZU} (hB : ZB M) (hx : x0 < 6) (hm : M.1 10 3 ≤ 30) (t : Nat) (ht : t ≤ 2) : ZB (n_dHn L x0 M t) := by
  induction t with
  | zero => exact hB
  | succ t ih =>
    have h3 := n_dHn_3 (L := L) (x0 := x0) (M := M) t
    rw [n_dHn]
    split
    · exact ZB.set (ZB.set (ih (by omega)) (by omega)) (by omega)
    · exact ih (by omega)
theorem n_dGk_lt {E : ZU} {x0 k : Nat} (hB : ZB E) : n_dies_658_s0 E x0 k < 2 ^ 30 := by
  unfold n_dies_658_s0
  split
  · decide
  · exact hB _ _
def rmD : Room := { frames := 3, cells := 1, slots := 14, locals := 132 }
set_option maxRecDepth 100000 in
theorem N_dies {g : Gx} {l : Launch} (hl : l.flags = flags0) (hst : g.Stable) {sg0 : Sg} {al : Nat → Nat} {L : ZU} {x0 : Nat} (hM : ZS g al L sg0) (hB : ZB L) (hx : x0 < 6) (hJ : ∀ i, L.2 i < 2 ^ 48) (hn1 : L.1 10 1 ≤ 24) (hn3 : L.1 10 3 ≤ 30) (hw : ∀ i, L.1 1 i % 8 = 4 → i < L.1 10 1 → 1 ≤ L.1 2 i % 128 ∧ L.1 2 i / 128 ≤ L.1 2 i % 128 ∧ L.1 1 i / 64 % 8 < 6) : MM g l yL_dies cL_dies 23 (some .int) rmD sg0 [.int (nI (x0)), .ref (al 0), .ref (al 1), .ref (al 2), .ref (al 5), .ref (al 6), .ref (al 10), .ref (al 11), .ref (al 12)] (ZP g al sg0 (n_dies L x0).1 (n_dies L x0).2) noX := by
  refine MM.of hl hst (by decide) (Nat.le_of_ble_eq_true rfl) (fun x hg hlx C hin hout hargs => ?_)
  subst hg; subst hlx
  have C : AWC x cL_dies 23 RL rmD (some .int) := C
  have hF : ZFr al sg0 sg0 := ZFr.rf
  show AW x (RQ x (ZP x.g al sg0 (n_dies L x0).1 (n_dies L x0).2) noX 1 14) 0 0 sg0 0 [(0, .int (nI (x0))), (1, .ref (al 0)), (2, .ref (al 1)), (3, .ref (al 2)), (4, .ref (al 5)), (5, .ref (al 6)), (6, .ref (al 10)), (7, .ref (al 11)), (8, .ref (al 12))] []
  have hres : ¬ (L.1 0 (16 + x0)) = 1 → ∀ r s, (if (n_dS L x0).2.1 = true ∧ ¬ 30 < (((n_dS L x0).1.1 10 3) + (n_dS L x0).2.2) then (nI (n_dS L x0).2.2, n_dG x0 (zI (n_dHn L x0 (n_dS L x0).1 2) 0 (16 + x0) 1) 6) else (-1003, n_dR L (n_dS L x0).1 14)) = (r, s) → r = (n_dies L x0).1 ∧ s = (n_dies L x0).2 := fun h0 r s e => by rw [n_dies, if_neg h0, e]; exact ⟨rfl, rfl⟩
  have hWb : ∀ i, n_dW L i < 2 ^ 48 := fun i => by
    unfold n_dW
    split
    · exact hJ i
    · decide
  obtain ⟨c, hc⟩ : ∃ c, c = n_dc L x0 := ⟨_, rfl⟩
  obtain ⟨ch, hch⟩ : ∃ c, c = n_dCh L x0 6 := ⟨_, rfl⟩
  obtain ⟨h, hh⟩ : ∃ c, c = n_dies_138_s0 L x0 := ⟨_, rfl⟩
  obtain ⟨mny, hmn⟩ : ∃ c, c = n_dM h 6 := ⟨_, rfl⟩
  have hS : n_dS L x0 = n_dT L x0 c ch h mny 2 := by rw [n_dS, hc, hch, hmn, hh]
  have hc24 : c ≤ 24 := by rw [hc]; exact Nat.le_trans (n_willN_le _) hn1
  have hch6 : ch < 64 := by rw [hch]; exact n_dCh_lt 6
  have hh6 : h < 64 := by rw [hh]; exact n_dH_lt
  have hm6 : mny ≤ 6 := by rw [hmn]; exact n_dM_le 6
  have hmp : ∀ k, (h / 2 ^ k) % 2 = 1 → k < 6 → 0 < mny := fun k a b => by rw [hmn]; exact n_dM_pos a b
  have hwc : ¬ c = 0 → 1 ≤ L.1 2 (c - 1) % 128 ∧ L.1 2 (c - 1) / 128 ≤ L.1 2 (c - 1) % 128 ∧ L.1 1 (c - 1) / 64 % 8 < 6 := fun z => by
    have h1 := n_willN_k (L := L) (x0 := x0) (L.1 10 1) (by rw [← show c = (n_willN L x0 (L.1 10 1)).1 from hc]; exact z)
    rw [← show c = (n_willN L x0 (L.1 10 1)).1 from hc] at h1
    exact hw _ h1.2 (by omega)
  refine aw_aload_n C dL_dies_0 rfl rfl rfl ?_
  refine aw_bipush (v := nI 16) C dL_dies_1 rfl rfl ?_
  refine aw_iload_n C dL_dies_3 rfl rfl rfl ?_
  refine an_add C dL_dies_4 rfl ?_
  refine an_iald (k := 0) (i := 16 + x0) (N := 40) (v := (L.1 0 (16 + x0))) C hM rfl rfl (by omega) rfl dL_dies_5 rfl ?_
  refine aw_iconst (v := nI 1) C dL_dies_6 rfl rfl ?_
  refine an_icmp_ne (a := L.1 0 (16 + x0)) (b := 1) (tgt := 14) C dL_dies_7 (by have := hB 0 (16 + x0); omega) (by decide) (by decide) rfl (fun c7 => ?_) (fun c7 => ?_)
  rotate_left
  · refine aw_sipush (v := -1003) C dL_dies_10 rfl rfl ?_
    exact aw_iret C rfl (Nat.le_of_ble_eq_true rfl) (Nat.le_of_ble_eq_true rfl) (ZP.of (by rw [n_dies, if_pos c7]) (by rw [n_dies, if_pos c7]) hM hF) dL_dies_13
  have rest : ∀ (q : Nat) (sg1 : Sg), ZS x.g al L sg1 → sg1 q = some (arJ x.g 14 (fun i => lN (n_dW L i))) → (∀ i, i < 13 → q ≠ al i) → ZFr al sg0 sg1 → AW x (RQ x (ZP x.g al sg0 (n_dies L x0).1 (n_dies L x0).2) noX 1 14) 1 14 sg1 212 [(0, .int (nI (x0))), (1, .ref (al 0)), (2, .ref (al 1)), (3, .ref (al 2)), (6, .ref (al 10)), (7, .ref (al 11)), (8, .ref (al 12)), (9, .int (nI (c) - 1)), (10, .int (nI (ch))), (12, .int (nI (h))), (13, .int (nI (mny))), (14, .ref (q)), (15, .int (nI 1)), (16, .int (nI (0))), (17, .int (nI 0))] [] := by
    intro q sg1 hM1 hq1 hqn hF1
    obtain ⟨Mz, bz, mdz, hz⟩ : ∃ M b md, n_dT L x0 c ch h mny 2 = (M, b, md) := ⟨_, _, _, rfl⟩
    have hz1 : Mz.1 = L.1 := by have := n_dT_1 (L := L) (x0 := x0) (c := c) (ch := ch) (h := h) (mny := mny) 2; rw [hz] at this; exact this
    have hzm : mdz ≤ 2 := by have := n_dT_md (L := L) (x0 := x0) (c := c) (ch := ch) (h := h) (mny := mny) 2; rw [hz] at this; exact this
    have hzB : ZB Mz := fun k i => by rw [hz1]; exact hB k i
    have hres2 : ∀ r s, (if bz = true ∧ ¬ 30 < ((Mz.1 10 3) + mdz) then (nI mdz, n_dG x0 (zI (n_dHn L x0 Mz 2) 0 (16 + x0) 1) 6) else (-1003, n_dR L Mz 14)) = (r, s) → r = (n_dies L x0).1 ∧ s = (n_dies L x0).2 := fun r s e => hres c7 r s (by rw [hS, hz]; exact e)
    -- the guardians, and out
    have loopI : bz = true ∧ ¬ 30 < ((Mz.1 10 3) + mdz) → ∀ (r k : Nat) (E : ZU), k + r = 6 → E = n_dG x0 (zI (n_dHn L x0 Mz 2) 0 (16 + x0) 1) k → ZB E → ∀ sg, ZS x.g al E sg → ZFr al sg1 sg → AW x (RQ x (ZP x.g al sg0 (n_dies L x0).1 (n_dies L x0).2) noX 1 14) 1 14 sg 621 [(0, .int (nI (x0))), (1, .ref (al 0)), (16, .int (nI (mdz))), (17, .int (nI (k)))] [] := by
      intro hgo r
      induction r with
      | zero =>
        intro k E hk hE hB sg hM hF
        obtain rfl : k = 6 := by omega
        refine aw_iload C dL_dies_621 rfl rfl ?_
        refine aw_bipush (v := nI 6) C dL_dies_623 rfl rfl ?_
        refine an_icmp_ge (a := 6) (b := 6) (tgt := 665) C dL_dies_625 (by omega) (by decide) (by decide) rfl (fun cx => ?_) (fun cx => absurd cx (by omega))
        refine aw_iload C dL_dies_665 rfl rfl ?_
        have he := hres2 _ _ (if_pos hgo)
        exact aw_iret C rfl (Nat.le_of_ble_eq_true rfl) (Nat.le_of_ble_eq_true rfl) (ZP.of he.1 (hE.trans he.2) hM (hF1.tr hF)) dL_dies_667
      | succ r ih =>
        intro k E hk hE hB sg hM hF
        refine aw_iload C dL_dies_621 rfl rfl ?_
        refine aw_bipush (v := nI 6) C dL_dies_623 rfl rfl ?_
        refine an_icmp_ge (a := k) (b := 6) (tgt := 665) C dL_dies_625 (by omega) (by decide) (by decide) rfl (fun cx => absurd (show k < 6 by omega) cx) (fun hk6 => ?_)
        refine aw_aload_n C dL_dies_628 rfl rfl rfl ?_
        refine aw_bipush (v := nI 32) C dL_dies_629 rfl rfl ?_
        refine aw_iload C dL_dies_631 rfl rfl ?_
        refine an_add C dL_dies_633 rfl ?_
        refine aw_aload_n C dL_dies_634 rfl rfl rfl ?_
        refine aw_bipush (v := nI 32) C dL_dies_635 rfl rfl ?_
        refine aw_iload C dL_dies_637 rfl rfl ?_
        refine an_add C dL_dies_639 rfl ?_
        refine an_iald (k := 0) (i := 32 + k) (N := 40) (v := (E.1 0 (32 + k))) C hM rfl rfl (by omega) rfl dL_dies_640 rfl ?_
        refine aw_iload_n C dL_dies_641 rfl rfl rfl ?_
        refine aw_iconst (v := nI 1) C dL_dies_642 rfl rfl ?_
        refine an_add C dL_dies_643 rfl ?_
        have K658_1 : AW x (RQ x (ZP x.g al sg0 (n_dies L x0).1 (n_dies L x0).2) noX 1 14) 1 14 sg 658 [(0, .int (nI (x0))), (1, .ref (al 0)), (16, .int (nI (mdz))), (17, .int (nI (k)))] [.int (nI ((n_dies_658_s0 E x0 k))), .int (nI (32 + k)), .ref (al 0)] := by
          refine an_iast (k := 0) (i := 32 + k) (N := 40) (v := (n_dies_658_s0 E x0 k)) C hM hF rfl rfl (by omega) dL_dies_658 rfl (fun sg hM hF => ?_)
          refine aw_iinc (v' := nI (k + 1)) (ls' := [(17, _), (0, _), (1, _), (16, _)]) C dL_dies_659 rfl (by decide) (nI_add (k) 1) rfl rfl ?_
          refine aw_pick (ls' := [(0, _), (1, _), (16, _), (17, _)]) [1, 2, 3, 0] rfl ?_
          refine aw_goto (tgt := 621) C dL_dies_662 (by decide) ?_
          exact ih (k + 1) _ (by omega) (by rw [n_dG, hE]) (ZB.set hB (n_dGk_lt hB)) sg hM hF
        refine an_icmp_ne (a := (E.1 0 (32 + k))) (b := x0 + 1) (tgt := 651) C dL_dies_644 (by have := hB 0 (32 + k); omega) (by omega) (by decide) rfl (fun c644 => ?_) (fun c644 => ?_)
        · refine aw_aload_n C dL_dies_651 rfl rfl rfl ?_
          refine aw_bipush (v := nI 32) C dL_dies_652 rfl rfl ?_
          refine aw_iload C dL_dies_654 rfl rfl ?_
          refine an_add C dL_dies_656 rfl ?_
          refine an_iald (k := 0) (i := 32 + k) (N := 40) (v := (E.1 0 (32 + k))) C hM rfl rfl (by omega) rfl dL_dies_657 rfl ?_
          have k9 := K658_1
          rw [show (n_dies_658_s0 E x0 k) = (E.1 0 (32 + k)) from by rw [n_dies_658_s0, if_neg c644]] at k9
          exact k9
        · refine aw_iconst (v := nI 0) C dL_dies_647 rfl rfl ?_
          refine aw_goto (tgt := 658) C dL_dies_648 (by decide) ?_
          have k9 := K658_1
          rw [show (n_dies_658_s0 E x0 k) = 0 from by rw [n_dies_658_s0, if_pos c644]] at k9
          exact k9
    -- the entries
    have loopH : bz = true ∧ ¬ 30 < ((Mz.1 10 3) + mdz) → ∀ (r t : Nat) (E : ZU), t + r = 2 → E = n_dHn L x0 Mz t → ∀ sg, ZS x.g al E sg → ZFr al sg1 sg → AW x (RQ x (ZP x.g al sg0 (n_dies L x0).1 (n_dies L x0).2) noX 1 14) 1 14 sg 556 [(0, .int (nI (x0))), (1, .ref (al 0)), (6, .ref (al 10)), (7, .ref (al 11)), (8, .ref (al 12)), (14, .ref (q)), (16, .int (nI (mdz))), (17, .int (nI (t)))] [] := by
      intro hgo r
      have h30 := hgo.2
      induction r with
      | zero =>
        intro t E ht hE sg hM hF
        obtain rfl : t = 2 := by omega
        have hB : ZB E := by rw [hE]; exact n_dHn_B hzB hx (by omega) 2 (Nat.le_refl _)
        refine aw_iload C dL_dies_556 rfl rfl ?_
        refine aw_iconst (v := nI 2) C dL_dies_558 rfl rfl ?_
        refine an_icmp_ge (a := 2) (b := 2) (tgt := 611) C dL_dies_559 (by omega) (by decide) (by decide) rfl (fun cx => ?_) (fun cx => absurd cx (by omega))
        refine aw_aload_n C dL_dies_611 rfl rfl rfl ?_
        refine aw_bipush (v := nI 16) C dL_dies_612 rfl rfl ?_
        refine aw_iload_n C dL_dies_614 rfl rfl rfl ?_
        refine an_add C dL_dies_615 rfl ?_
        refine aw_iconst (v := nI 1) C dL_dies_616 rfl rfl ?_
        refine an_iast (k := 0) (i := 16 + x0) (N := 40) (v := 1) C hM hF rfl rfl (by omega) dL_dies_617 rfl (fun sg hM hF => ?_)
        refine aw_iconst (v := nI 0) C dL_dies_618 rfl rfl ?_
        refine aw_istore (ls' := [(17, _), (0, _), (1, _), (6, _), (7, _), (8, _), (14, _), (16, _)]) C dL_dies_619 (by decide) rfl rfl ?_
        refine aw_pick (ls' := [(0, _), (1, _), (16, _), (17, _)]) [1, 2, 7, 0] rfl ?_
        exact loopI hgo 6 0 _ rfl (by rw [hE]; rfl) (ZB.set hB (by decide)) sg hM hF
      | succ r ih =>
        intro t E ht hE sg hM hF
        have hE3 : E.1 10 3 ≤ 30 + t := by
          have := n_dHn_3 (L := L) (x0 := x0) (M := Mz) t
          rw [hE]
          omega
        have hB : ZB E := by rw [hE]; exact n_dHn_B hzB hx (by omega) t (by omega)
        refine aw_iload C dL_dies_556 rfl rfl ?_
        refine aw_iconst (v := nI 2) C dL_dies_558 rfl rfl ?_
        refine an_icmp_ge (a := t) (b := 2) (tgt := 611) C dL_dies_559 (by omega) (by decide) (by decide) rfl (fun cx => absurd (show t < 2 by omega) cx) (fun ht2 => ?_)
        refine aw_aload C dL_dies_562 rfl rfl ?_
        refine aw_bipush (v := nI 7) C dL_dies_564 rfl rfl ?_
        refine aw_iload C dL_dies_566 rfl rfl ?_
        refine an_mul C dL_dies_568 rfl ?_
        refine aw_iload_n C dL_dies_569 rfl rfl rfl ?_
        refine an_add C dL_dies_570 rfl ?_
        refine an_wld (W := n_dW L) C (hF q _ hq1 hqn) (by omega) dL_dies_571 rfl ?_
        refine aw_lconst (v := lN 0) C dL_dies_572 rfl rfl ?_
        refine an_lc_le (p1 := 573) (a := (n_dW L ((7 * t) + x0))) (b := 0) (tgt := 605) C dL_dies_573 rfl dL_dies_574 (by have := hWb ((7 * t) + x0); omega) (by omega) (by decide) rfl (fun c574 => ?_) (fun c574 => ?_)
        · refine aw_iinc (v' := nI (t + 1)) (ls' := [(17, _), (0, _), (1, _), (6, _), (7, _), (8, _), (14, _), (16, _)]) C dL_dies_605 rfl (by decide) (nI_add (t) 1) rfl rfl ?_
          refine aw_pick (ls' := [(0, _), (1, _), (6, _), (7, _), (8, _), (14, _), (16, _), (17, _)]) [1, 2, 3, 4, 5, 6, 7, 0] rfl ?_
          refine aw_goto (tgt := 556) C dL_dies_608 (by decide) ?_
          exact ih (t + 1) _ (by omega) (by rw [n_dHn, if_neg c574]; exact hE) sg hM hF
        · refine aw_aload C dL_dies_577 rfl rfl ?_
          refine aw_aload C dL_dies_579 rfl rfl ?_
          refine aw_iconst (v := nI 3) C dL_dies_581 rfl rfl ?_
          refine an_iald (k := 10) (i := 3) (N := 5) (v := (E.1 10 3)) C hM rfl rfl (by decide) rfl dL_dies_582 rfl ?_
          refine aw_iconst (v := nI 5) C dL_dies_583 rfl rfl ?_
          refine aw_bipush (v := nI 8) C dL_dies_584 rfl rfl ?_
          refine aw_iload_n C dL_dies_586 rfl rfl rfl ?_
          refine an_mul C dL_dies_587 rfl ?_
          refine an_add C dL_dies_588 rfl ?_
          refine aw_sipush (v := nI 512) C dL_dies_589 rfl rfl ?_
          refine aw_iload C dL_dies_592 rfl rfl ?_
          refine an_mul C dL_dies_594 rfl ?_
          refine an_add C dL_dies_595 rfl ?_
          refine an_iast (k := 12) (i := (E.1 10 3)) (N := 32) (v := (5 + (8 * x0)) + (512 * t)) C hM hF rfl rfl (by have := hE3; omega) dL_dies_596 rfl (fun sg hM hF => ?_)
          refine aw_aload C dL_dies_597 rfl rfl ?_
          refine aw_iconst (v := nI 3) C dL_dies_599 rfl rfl ?_
          refine aw_dup2 C dL_dies_600 rfl rfl rfl ?_
          refine an_iald (k := 10) (i := 3) (N := 5) (v := (E.1 10 3)) C hM rfl rfl (by decide) (by rw [zI_k (by decide)]) dL_dies_601 rfl ?_
          refine aw_iconst (v := nI 1) C dL_dies_602 rfl rfl ?_
          refine an_add C dL_dies_603 rfl ?_
          refine an_iast (k := 10) (i := 3) (N := 5) (v := (E.1 10 3) + 1) C hM hF rfl rfl (by decide) dL_dies_604 rfl (fun sg hM hF => ?_)
          refine aw_iinc (v' := nI (t + 1)) (ls' := [(17, _), (0, _), (1, _), (6, _), (7, _), (8, _), (14, _), (16, _)]) C dL_dies_605 rfl (by decide) (nI_add (t) 1) rfl rfl ?_
          refine aw_pick (ls' := [(0, _), (1, _), (6, _), (7, _), (8, _), (14, _), (16, _), (17, _)]) [1, 2, 3, 4, 5, 6, 7, 0] rfl ?_
          refine aw_goto (tgt := 556) C dL_dies_608 (by decide) ?_
          exact ih (t + 1) _ (by omega) (by rw [n_dHn, if_pos c574, ← hE]) sg hM hF
    -- back to what was
    have loopG : ¬ (bz = true ∧ ¬ 30 < ((Mz.1 10 3) + mdz)) → ∀ (r k : Nat), k + r = 14 → ∀ sg, ZS x.g al (n_dR L Mz k) sg → ZFr al sg1 sg → AW x (RQ x (ZP x.g al sg0 (n_dies L x0).1 (n_dies L x0).2) noX 1 14) 1 14 sg 526 [(7, .ref (al 11)), (14, .ref (q)), (17, .int (nI (k)))] [] := by
      intro hno r
      induction r with
      | zero =>
        intro k hk sg hM hF
        obtain rfl : k = 14 := by omega
        refine aw_iload C dL_dies_526 rfl rfl ?_
        refine aw_bipush (v := nI 14) C dL_dies_528 rfl rfl ?_
        refine an_icmp_ge (a := 14) (b := 14) (tgt := 549) C dL_dies_530 (by omega) (by decide) (by decide) rfl (fun cx => ?_) (fun cx => absurd cx (by omega))
        refine aw_sipush (v := -1003) C dL_dies_549 rfl rfl ?_
        have he := hres2 _ _ (if_neg hno)
        exact aw_iret C rfl (Nat.le_of_ble_eq_true rfl) (Nat.le_of_ble_eq_true rfl) (ZP.of he.1 he.2 hM (hF1.tr hF)) dL_dies_552
      | succ r ih =>
        intro k hk sg hM hF
        refine aw_iload C dL_dies_526 rfl rfl ?_
        refine aw_bipush (v := nI 14) C dL_dies_528 rfl rfl ?_
        refine an_icmp_ge (a := k) (b := 14) (tgt := 549) C dL_dies_530 (by omega) (by decide) (by decide) rfl (fun cx => absurd (show k < 14 by omega) cx) (fun hk14 => ?_)
        refine aw_aload C dL_dies_533 rfl rfl ?_
        refine aw_iload C dL_dies_535 rfl rfl ?_
        refine aw_aload C dL_dies_537 rfl rfl ?_
        refine aw_iload C dL_dies_539 rfl rfl ?_
        refine an_wld (W := n_dW L) C (hF q _ hq1 hqn) hk14 dL_dies_541 rfl ?_
        refine an_last (i := k) (v := n_dW L k) C hM hF hk14 dL_dies_542 rfl (fun sg hM hF => ?_)
        refine aw_iinc (v' := nI (k + 1)) (ls' := [(17, _), (7, _), (14, _)]) C dL_dies_543 rfl (by decide) (nI_add k 1) rfl rfl ?_
        refine aw_goto (tgt := 526) C dL_dies_546 (by decide) ?_
        refine aw_pick (ls' := [(7, _), (14, _), (17, _)]) [1, 2, 0] rfl ?_
        exact ih (k + 1) (by omega) sg hM hF
    have goG : ¬ (bz = true ∧ ¬ 30 < ((Mz.1 10 3) + mdz)) → ∀ sg, ZS x.g al Mz sg → ZFr al sg1 sg → AW x (RQ x (ZP x.g al sg0 (n_dies L x0).1 (n_dies L x0).2) noX 1 14) 1 14 sg 523 [(7, .ref (al 11)), (14, .ref (q))] [] := by
      intro hno sg hM hF
      refine aw_iconst (v := nI 0) C dL_dies_523 rfl rfl ?_
      refine aw_istore (ls' := [(17, _), (7, _), (14, _)]) C dL_dies_524 (by decide) rfl rfl ?_
      refine aw_pick (ls' := [(7, _), (14, _), (17, _)]) [1, 2, 0] rfl ?_
      exact loopG hno 14 0 rfl sg hM hF
    -- what comes behind the things
    have aft : ∀ sg, ZS x.g al Mz sg → ZFr al sg1 sg → AW x (RQ x (ZP x.g al sg0 (n_dies L x0).1 (n_dies L x0).2) noX 1 14) 1 14 sg 506 [(0, .int (nI (x0))), (1, .ref (al 0)), (2, .ref (al 1)), (3, .ref (al 2)), (6, .ref (al 10)), (7, .ref (al 11)), (8, .ref (al 12)), (9, .int (nI (c) - 1)), (10, .int (nI (ch))), (12, .int (nI (h))), (13, .int (nI (mny))), (14, .ref (q)), (15, .int (b2i (bz))), (16, .int (nI (mdz))), (17, .int (nI 2))] [] := by
      intro sg hM hF
      have hB := hzB
      refine aw_iload C dL_dies_506 rfl rfl ?_
      refine an_bif_eq (z := bz) (tgt := 523) C dL_dies_508 (by decide) rfl (fun cb => ?_) (fun cb => ?_)
      · refine aw_pick (ls' := [(7, _), (14, _)]) [5, 11] rfl ?_
        exact goG (fun z => cb z.1) sg hM hF
      refine aw_aload C dL_dies_511 rfl rfl ?_
      refine aw_iconst (v := nI 3) C dL_dies_513 rfl rfl ?_
      refine an_iald (k := 10) (i := 3) (N := 5) (v := (Mz.1 10 3)) C hM rfl rfl (by decide) rfl dL_dies_514 rfl ?_
      refine aw_iload C dL_dies_515 rfl rfl ?_
      refine an_add C dL_dies_517 rfl ?_
      refine aw_bipush (v := nI 30) C dL_dies_518 rfl rfl ?_
      refine an_icmp_le (a := (Mz.1 10 3) + mdz) (b := 30) (tgt := 553) C dL_dies_520 (by have := hB 10 3; omega) (by decide) (by decide) rfl (fun c30 => ?_) (fun c30 => ?_)
      · refine aw_iconst (v := nI 0) C dL_dies_553 rfl rfl ?_
        refine aw_istore (ls' := [(17, _), (0, _), (1, _), (2, _), (3, _), (6, _), (7, _), (8, _), (9, _), (10, _), (12, _), (13, _), (14, _), (15, _), (16, _)]) C dL_dies_554 (by decide) rfl rfl ?_
        refine aw_pick (ls' := [(0, _), (1, _), (6, _), (7, _), (8, _), (14, _), (16, _), (17, _)]) [1, 2, 5, 6, 7, 12, 14, 0] rfl ?_
        exact loopH ⟨cb, c30⟩ 2 0 Mz rfl rfl sg hM hF
      · refine aw_pick (ls' := [(7, _), (14, _)]) [5, 11] rfl ?_
        exact goG (fun z => z.2 c30) sg hM hF
    -- the things
    have loopD : ∀ (r t : Nat) (M : ZU) (b : Bool) (md : Nat), t + r = 2 → n_dT L x0 c ch h mny t = (M, b, md) → ∀ sg, ZS x.g al M sg → ZFr al sg1 sg → AW x (RQ x (ZP x.g al sg0 (n_dies L x0).1 (n_dies L x0).2) noX 1 14) 1 14 sg 212 [(0, .int (nI (x0))), (1, .ref (al 0)), (2, .ref (al 1)), (3, .ref (al 2)), (6, .ref (al 10)), (7, .ref (al 11)), (8, .ref (al 12)), (9, .int (nI (c) - 1)), (10, .int (nI (ch))), (12, .int (nI (h))), (13, .int (nI (mny))), (14, .ref (q)), (15, .int (b2i (b))), (16, .int (nI (md))), (17, .int (nI (t)))] [] := by
      intro r
      induction r with
      | zero =>
        intro t M b md ht hT sg hM hF
        obtain rfl : t = 2 := by omega
        rw [hz] at hT
        obtain ⟨rfl, rfl, rfl⟩ : Mz = M ∧ bz = b ∧ mdz = md := by cases hT; exact ⟨rfl, rfl, rfl⟩
        refine aw_iload C dL_dies_212 rfl rfl ?_
        refine aw_iconst (v := nI 2) C dL_dies_214 rfl rfl ?_
        exact an_icmp_ge (a := 2) (b := 2) (tgt := 506) C dL_dies_215 (by omega) (by decide) (by decide) rfl (fun cx => aft sg hM hF) (fun cx => absurd cx (by omega))
      | succ r ih =>
        intro t M b md ht hT sg hM hF
        have hM1 : M.1 = L.1 := by have := n_dT_1 (L := L) (x0 := x0) (c := c) (ch := ch) (h := h) (mny := mny) t; rw [hT] at this; exact this
        have hmd : md ≤ t := by have := n_dT_md (L := L) (x0 := x0) (c := c) (ch := ch) (h := h) (mny := mny) t; rw [hT] at this; exact this
        have hwM : ¬ c = 0 → 1 ≤ M.1 2 (c - 1) % 128 ∧ M.1 2 (c - 1) / 128 ≤ M.1 2 (c - 1) % 128 ∧ M.1 1 (c - 1) / 64 % 8 < 6 := by rw [hM1]; exact hwc
        have hJM : ∀ j, M.2 j < 2 ^ 50 := by
          intro j
          by_cases t0 : t = 0
          · subst t0
            rw [n_dT] at hT
            cases hT
            have := hJ j
            omega
          · obtain rfl : t = 1 := by omega
            have := (n_dT_b (x0 := x0) (c := c) (ch := ch) (h := h) (mny := mny) hJ (fun z => (hwc z).2.1)).1 j
            rw [hT] at this
            exact this
        have hB : ZB M := fun k i => by rw [hM1]; exact hB k i
        refine aw_iload C dL_dies_212 rfl rfl ?_
        refine aw_iconst (v := nI 2) C dL_dies_214 rfl rfl ?_
        refine an_icmp_ge (a := t) (b := 2) (tgt := 506) C dL_dies_215 (by omega) (by decide) (by decide) rfl (fun cx => absurd (show t < 2 by omega) cx) (fun ht2 => ?_)
        have nextD : ∀ (M2 : ZU) (b2 : Bool) (md2 : Nat), n_dT1 (n_dW L) x0 c ch h mny t M b md = (M2, b2, md2) → ∀ sg, ZS x.g al M2 sg → ZFr al sg1 sg → AW x (RQ x (ZP x.g al sg0 (n_dies L x0).1 (n_dies L x0).2) noX 1 14) 1 14 sg 500 [(0, .int (nI (x0))), (1, .ref (al 0)), (2, .ref (al 1)), (3, .ref (al 2)), (6, .ref (al 10)), (7, .ref (al 11)), (8, .ref (al 12)), (9, .int (nI (c) - 1)), (10, .int (nI (ch))), (12, .int (nI (h))), (13, .int (nI (mny))), (14, .ref (q)), (15, .int (b2i (b2))), (16, .int (nI (md2))), (17, .int (nI (t)))] [] := by
          intro M2 b2 md2 e sg hM hF
          refine aw_iinc (v' := nI (t + 1)) (ls' := [(17, _), (0, _), (1, _), (2, _), (3, _), (6, _), (7, _), (8, _), (9, _), (10, _), (12, _), (13, _), (14, _), (15, _), (16, _)]) C dL_dies_500 rfl (by decide) (nI_add t 1) rfl rfl ?_
          refine aw_goto (tgt := 212) C dL_dies_503 (by decide) ?_
          refine aw_pick (ls' := [(0, _), (1, _), (2, _), (3, _), (6, _), (7, _), (8, _), (9, _), (10, _), (12, _), (13, _), (14, _), (15, _), (16, _), (17, _)]) [1, 2, 3, 4, 5, 6, 7, 8, 9, 10, 11, 12, 13, 14, 0] rfl ?_
          exact ih (t + 1) M2 b2 md2 (by omega) (by rw [n_dT, hT]; exact e) sg hM hF
        have hs291 := n_d291_le (M := M) (x0 := x0) (c := c) (ch := ch) (t := t) (fun z => (hwM z).2.1)
        have k343 : 0 < (M.2 ((7 * t) + x0)) → ∀ (all sm : Nat), all = (M.2 ((7 * t) + x0)) → sm = (n_dies_291_s0 M x0 c ch t) → sm ≤ all → all < 2 ^ 50 → ∀ sg, ZS x.g al (n_dies_340_L M x0 c ch t) sg → ZFr al sg1 sg → AW x (RQ x (ZP x.g al sg0 (n_dies L x0).1 (n_dies L x0).2) noX 1 14) 1 14 sg 343 [(0, .int (nI (x0))), (1, .ref (al 0)), (2, .ref (al 1)), (3, .ref (al 2)), (6, .ref (al 10)), (7, .ref (al 11)), (8, .ref (al 12)), (9, .int (nI (c) - 1)), (10, .int (nI (ch))), (12, .int (nI (h))), (13, .int (nI (mny))), (14, .ref (q)), (15, .int (b2i (b))), (16, .int (nI (md))), (17, .int (nI (t))), (18, .long (lN (all))), (20, .long (lN (sm))), (22, .int (nI (0)))] [] := by
          intro hpos all sm hall hsm hsa ha50
          -- are they small
          have fromF : ∀ (F : ZU), F = n_dM4 x0 c ch h mny t M → ∀ sg, ZS x.g al F sg → ZFr al sg1 sg → AW x (RQ x (ZP x.g al sg0 (n_dies L x0).1 (n_dies L x0).2) noX 1 14) 1 14 sg 425 [(0, .int (nI (x0))), (1, .ref (al 0)), (2, .ref (al 1)), (3, .ref (al 2)), (6, .ref (al 10)), (7, .ref (al 11)), (8, .ref (al 12)), (9, .int (nI (c) - 1)), (10, .int (nI (ch))), (12, .int (nI (h))), (13, .int (nI (mny))), (14, .ref (q)), (15, .int (b2i (b))), (16, .int (nI (md))), (17, .int (nI (t))), (22, .int (nI (0)))] [] := by
            intro F hFe
            have hF1e : F.1 = M.1 := by rw [hFe]; exact n_dM4_1
            have hJ : ∀ j, F.2 j < 2 ^ 52 := fun j => by have := n_dM4_b (h := h) (mny := mny) hJM hs291 j; rw [hFe]; omega
            have hB : ZB F := fun k i => by rw [hF1e]; exact hB k i
            have loopF : ∀ (r k : Nat) (bb : Bool), k + r = 7 → bb = n_dF (n_dW L) F t b k → ∀ sg, ZS x.g al F sg → ZFr al sg1 sg → AW x (RQ x (ZP x.g al sg0 (n_dies L x0).1 (n_dies L x0).2) noX 1 14) 1 14 sg 425 [(0, .int (nI (x0))), (1, .ref (al 0)), (2, .ref (al 1)), (3, .ref (al 2)), (6, .ref (al 10)), (7, .ref (al 11)), (8, .ref (al 12)), (9, .int (nI (c) - 1)), (10, .int (nI (ch))), (12, .int (nI (h))), (13, .int (nI (mny))), (14, .ref (q)), (15, .int (b2i (bb))), (16, .int (nI (md))), (17, .int (nI (t))), (22, .int (nI (k)))] [] := by
              intro r
              induction r with
              | zero =>
                intro k bb hk hb sg hM hF
                obtain rfl : k = 7 := by omega
                have hres : n_dT1 (n_dW L) x0 c ch h mny t M b md = (F, bb, md + 1) := by rw [n_dT1, if_pos hpos, ← hFe, ← hb]
                refine aw_iload C dL_dies_425 rfl rfl ?_
                refine aw_bipush (v := nI 7) C dL_dies_427 rfl rfl ?_
                refine an_icmp_ge (a := 7) (b := 7) (tgt := 497) C dL_dies_429 (by omega) (by decide) (by decide) rfl (fun cx => ?_) (fun cx => absurd cx (by omega))
                refine aw_iinc (v' := nI (md + 1)) (ls' := [(16, _), (0, _), (1, _), (2, _), (3, _), (6, _), (7, _), (8, _), (9, _), (10, _), (12, _), (13, _), (14, _), (15, _), (17, _), (22, _)]) C dL_dies_497 rfl (by decide) (nI_add (md) 1) rfl rfl ?_
                refine aw_pick (ls' := [(0, _), (1, _), (2, _), (3, _), (6, _), (7, _), (8, _), (9, _), (10, _), (12, _), (13, _), (14, _), (15, _), (16, _), (17, _), (22, _)]) [1, 2, 3, 4, 5, 6, 7, 8, 9, 10, 11, 12, 13, 0, 14, 15] rfl ?_
                refine aw_pick (ls' := [(0, _), (1, _), (2, _), (3, _), (6, _), (7, _), (8, _), (9, _), (10, _), (12, _), (13, _), (14, _), (15, _), (16, _), (17, _)]) [0, 1, 2, 3, 4, 5, 6, 7, 8, 9, 10, 11, 12, 13, 14] rfl ?_
                exact nextD F bb (md + 1) hres sg hM hF
              | succ r ih =>
                intro k bb hk hb sg hM hF
                refine aw_iload C dL_dies_425 rfl rfl ?_
                refine aw_bipush (v := nI 7) C dL_dies_427 rfl rfl ?_
                refine an_icmp_ge (a := k) (b := 7) (tgt := 497) C dL_dies_429 (by omega) (by decide) (by decide) rfl (fun cx => absurd (show k < 7 by omega) cx) (fun hk7 => ?_)
                refine aw_iload C dL_dies_432 rfl rfl ?_
                have K489_1 : AW x (RQ x (ZP x.g al sg0 (n_dies L x0).1 (n_dies L x0).2) noX 1 14) 1 14 sg 489 [(0, .int (nI (x0))), (1, .ref (al 0)), (2, .ref (al 1)), (3, .ref (al 2)), (6, .ref (al 10)), (7, .ref (al 11)), (8, .ref (al 12)), (9, .int (nI (c) - 1)), (10, .int (nI (ch))), (12, .int (nI (h))), (13, .int (nI (mny))), (14, .ref (q)), (16, .int (nI (md))), (17, .int (nI (t))), (22, .int (nI (k)))] [.int (b2i ((n_dies_489_s0 (n_dW L) F t bb k)))] := by
                  refine aw_istore (ls' := [(15, _), (0, _), (1, _), (2, _), (3, _), (6, _), (7, _), (8, _), (9, _), (10, _), (12, _), (13, _), (14, _), (16, _), (17, _), (22, _)]) C dL_dies_489 (by decide) rfl rfl ?_
                  refine aw_pick (ls' := [(0, _), (1, _), (2, _), (3, _), (6, _), (7, _), (8, _), (9, _), (10, _), (12, _), (13, _), (14, _), (15, _), (16, _), (17, _), (22, _)]) [1, 2, 3, 4, 5, 6, 7, 8, 9, 10, 11, 12, 0, 13, 14, 15] rfl ?_
                  refine aw_iinc (v' := nI (k + 1)) (ls' := [(22, _), (0, _), (1, _), (2, _), (3, _), (6, _), (7, _), (8, _), (9, _), (10, _), (12, _), (13, _), (14, _), (15, _), (16, _), (17, _)]) C dL_dies_491 rfl (by decide) (nI_add (k) 1) rfl rfl ?_
                  refine aw_pick (ls' := [(0, _), (1, _), (2, _), (3, _), (6, _), (7, _), (8, _), (9, _), (10, _), (12, _), (13, _), (14, _), (15, _), (16, _), (17, _), (22, _)]) [1, 2, 3, 4, 5, 6, 7, 8, 9, 10, 11, 12, 13, 14, 15, 0] rfl ?_
                  refine aw_goto (tgt := 425) C dL_dies_494 (by decide) ?_
                  exact ih (k + 1) _ (by omega) (by rw [hb]; rfl) sg hM hF
                refine an_bif_eq (z := bb) (tgt := 488) C dL_dies_434 (by decide) rfl (fun c434 => ?_) (fun c434 => ?_)
                · refine aw_iconst (v := nI 0) C dL_dies_488 rfl rfl ?_
                  refine aw_pick (ls' := [(0, _), (1, _), (2, _), (3, _), (6, _), (7, _), (8, _), (9, _), (10, _), (12, _), (13, _), (14, _), (16, _), (17, _), (22, _)]) [0, 1, 2, 3, 4, 5, 6, 7, 8, 9, 10, 11, 13, 14, 15] rfl ?_
                  have k9 := K489_1
                  rw [show (n_dies_489_s0 (n_dW L) F t bb k) = false from by rw [n_dies_489_s0, if_neg c434]] at k9
                  exact k9
                · refine aw_aload C dL_dies_437 rfl rfl ?_
                  refine aw_bipush (v := nI 7) C dL_dies_439 rfl rfl ?_
                  refine aw_iload C dL_dies_441 rfl rfl ?_
                  refine an_mul C dL_dies_443 rfl ?_
                  refine aw_iload C dL_dies_444 rfl rfl ?_
                  refine an_add C dL_dies_446 rfl ?_
                  refine an_lald (i := (7 * t) + k) (v := (F.2 ((7 * t) + k))) C hM (by omega) rfl dL_dies_447 rfl ?_
                  refine aw_aload C dL_dies_448 rfl rfl ?_
                  refine aw_bipush (v := nI 7) C dL_dies_450 rfl rfl ?_
                  refine aw_iload C dL_dies_452 rfl rfl ?_
                  refine an_mul C dL_dies_454 rfl ?_
                  refine aw_iload C dL_dies_455 rfl rfl ?_
                  refine an_add C dL_dies_457 rfl ?_
                  refine an_wld (W := n_dW L) C (hF q _ hq1 hqn) (by omega) dL_dies_458 rfl ?_
                  refine an_lc_eq (p1 := 459) (a := (F.2 ((7 * t) + k))) (b := (n_dW L ((7 * t) + k))) (tgt := 484) C dL_dies_459 rfl dL_dies_460 (by have := hJ ((7 * t) + k); omega) (by have := hWb ((7 * t) + k); omega) (by decide) rfl (fun c460 => ?_) (fun c460 => ?_)
                  · refine aw_iconst (v := nI 1) C dL_dies_484 rfl rfl ?_
                    refine aw_goto (tgt := 489) C dL_dies_485 (by decide) ?_
                    refine aw_pick (ls' := [(0, _), (1, _), (2, _), (3, _), (6, _), (7, _), (8, _), (9, _), (10, _), (12, _), (13, _), (14, _), (16, _), (17, _), (22, _)]) [0, 1, 2, 3, 4, 5, 6, 7, 8, 9, 10, 11, 13, 14, 15] rfl ?_
                    have k9 := K489_1
                    rw [show (n_dies_489_s0 (n_dW L) F t bb k) = true from by rw [n_dies_489_s0, if_pos c434, if_pos c460]] at k9
                    exact k9
                  · refine aw_aload C dL_dies_463 rfl rfl ?_
                    refine aw_bipush (v := nI 7) C dL_dies_465 rfl rfl ?_
                    refine aw_iload C dL_dies_467 rfl rfl ?_
                    refine an_mul C dL_dies_469 rfl ?_
                    refine aw_iload C dL_dies_470 rfl rfl ?_
                    refine an_add C dL_dies_472 rfl ?_
                    refine an_lald (i := (7 * t) + k) (v := (F.2 ((7 * t) + k))) C hM (by omega) rfl dL_dies_473 rfl ?_
                    refine cw_callSp C k_L_82 (N_below hl hst (s := (F.2 ((7 * t) + k))) (by have := hJ ((7 * t) + k); omega)) ⟨by decide, by decide⟩ rfl rfl (Nat.le_of_ble_eq_true rfl) (Nat.le_of_ble_eq_true rfl) (Nat.le_of_ble_eq_true rfl) dL_dies_474 rfl ?_
                    refine aw_ldc2 (v := lN 1000000) C dL_dies_477 q_L_86 rfl ?_
                    refine an_lc_gt (p1 := 480) (a := n_below (F.2 ((7 * t) + k))) (b := 1000000) (tgt := 488) C dL_dies_480 rfl dL_dies_481 (by have := hJ ((7 * t) + k); have := @n_below_lt (F.2 ((7 * t) + k)); omega) (by omega) (by decide) rfl (fun c481 => ?_) (fun c481 => ?_)
                    · refine aw_iconst (v := nI 0) C dL_dies_488 rfl rfl ?_
                      refine aw_pick (ls' := [(0, _), (1, _), (2, _), (3, _), (6, _), (7, _), (8, _), (9, _), (10, _), (12, _), (13, _), (14, _), (16, _), (17, _), (22, _)]) [0, 1, 2, 3, 4, 5, 6, 7, 8, 9, 10, 11, 13, 14, 15] rfl ?_
                      have k9 := K489_1
                      rw [show (n_dies_489_s0 (n_dW L) F t bb k) = false from by rw [n_dies_489_s0, if_pos c434, if_neg c460, if_pos c481]] at k9
                      exact k9
                    · refine aw_iconst (v := nI 1) C dL_dies_484 rfl rfl ?_
                      refine aw_goto (tgt := 489) C dL_dies_485 (by decide) ?_
                      refine aw_pick (ls' := [(0, _), (1, _), (2, _), (3, _), (6, _), (7, _), (8, _), (9, _), (10, _), (12, _), (13, _), (14, _), (16, _), (17, _), (22, _)]) [0, 1, 2, 3, 4, 5, 6, 7, 8, 9, 10, 11, 13, 14, 15] rfl ?_
                      have k9 := K489_1
                      rw [show (n_dies_489_s0 (n_dW L) F t bb k) = true from by rw [n_dies_489_s0, if_pos c434, if_neg c460, if_neg c481]] at k9
                      exact k9
            exact fun sg hM hF => loopF 7 0 b rfl rfl sg hM hF
          -- the heirs' parts
          have loopE : ∀ (r k : Nat) (E : ZU), k + r = 6 → E = n_dE h mny all sm t (n_dies_340_L M x0 c ch t) k → ∀ sg, ZS x.g al E sg → ZFr al sg1 sg → AW x (RQ x (ZP x.g al sg0 (n_dies L x0).1 (n_dies L x0).2) noX 1 14) 1 14 sg 343 [(0, .int (nI (x0))), (1, .ref (al 0)), (2, .ref (al 1)), (3, .ref (al 2)), (6, .ref (al 10)), (7, .ref (al 11)), (8, .ref (al 12)), (9, .int (nI (c) - 1)), (10, .int (nI (ch))), (12, .int (nI (h))), (13, .int (nI (mny))), (14, .ref (q)), (15, .int (b2i (b))), (16, .int (nI (md))), (17, .int (nI (t))), (18, .long (lN (all))), (20, .long (lN (sm))), (22, .int (nI (k)))] [] := by
            intro r
            induction r with
            | zero =>
              intro k E hk hE sg hM hF
              obtain rfl : k = 6 := by omega
              have hB : ZB E := fun k i => by rw [hE, n_dE_1, n_d340_1]; exact hB k i
              refine aw_iload C dL_dies_343 rfl rfl ?_
              refine aw_bipush (v := nI 6) C dL_dies_345 rfl rfl ?_
              refine an_icmp_ge (a := 6) (b := 6) (tgt := 394) C dL_dies_347 (by omega) (by decide) (by decide) rfl (fun cx => ?_) (fun cx => absurd cx (by omega))
              have hfin : zJ E ((7 * t) + 6) ((E.2 ((7 * t) + 6)) + (n_dies_420_s0 mny all sm)) = n_dM4 x0 c ch h mny t M := by rw [n_dM4, hE, hall, hsm]
              refine aw_aload C dL_dies_394 rfl rfl ?_
              refine aw_bipush (v := nI 7) C dL_dies_396 rfl rfl ?_
              refine aw_iload C dL_dies_398 rfl rfl ?_
              refine an_mul C dL_dies_400 rfl ?_
              refine aw_bipush (v := nI 6) C dL_dies_401 rfl rfl ?_
              refine an_add C dL_dies_403 rfl ?_
              refine aw_dup2 C dL_dies_404 rfl rfl rfl ?_
              refine an_lald (i := (7 * t) + 6) (v := (E.2 ((7 * t) + 6))) C hM (by omega) rfl dL_dies_405 rfl ?_
              refine aw_iload C dL_dies_406 rfl rfl ?_
              have K420_1 : AW x (RQ x (ZP x.g al sg0 (n_dies L x0).1 (n_dies L x0).2) noX 1 14) 1 14 sg 420 [(0, .int (nI (x0))), (1, .ref (al 0)), (2, .ref (al 1)), (3, .ref (al 2)), (6, .ref (al 10)), (7, .ref (al 11)), (8, .ref (al 12)), (9, .int (nI (c) - 1)), (10, .int (nI (ch))), (12, .int (nI (h))), (13, .int (nI (mny))), (14, .ref (q)), (15, .int (b2i (b))), (16, .int (nI (md))), (17, .int (nI (t)))] [.long (lN ((n_dies_420_s0 mny all sm))), .long (lN ((E.2 ((7 * t) + 6)))), .int (nI ((7 * t) + 6)), .ref (al 11)] := by
                refine an_ladd C dL_dies_420 rfl ?_
                refine an_last (i := (7 * t) + 6) (v := (E.2 ((7 * t) + 6)) + (n_dies_420_s0 mny all sm)) C hM hF (by omega) dL_dies_421 rfl (fun sg hM hF => ?_)
                refine aw_iconst (v := nI 0) C dL_dies_422 rfl rfl ?_
                refine aw_istore (ls' := [(22, _), (0, _), (1, _), (2, _), (3, _), (6, _), (7, _), (8, _), (9, _), (10, _), (12, _), (13, _), (14, _), (15, _), (16, _), (17, _)]) C dL_dies_423 (by decide) rfl rfl ?_
                refine aw_pick (ls' := [(0, _), (1, _), (2, _), (3, _), (6, _), (7, _), (8, _), (9, _), (10, _), (12, _), (13, _), (14, _), (15, _), (16, _), (17, _), (22, _)]) [1, 2, 3, 4, 5, 6, 7, 8, 9, 10, 11, 12, 13, 14, 15, 0] rfl ?_
                exact fromF _ hfin sg hM hF
              refine an_if_ne (a := mny) (tgt := 419) C dL_dies_408 (by omega) (by decide) rfl (fun c408 => ?_) (fun c408 => ?_)
              · refine aw_lconst (v := lN 0) C dL_dies_419 rfl rfl ?_
                refine aw_pick (ls' := [(0, _), (1, _), (2, _), (3, _), (6, _), (7, _), (8, _), (9, _), (10, _), (12, _), (13, _), (14, _), (15, _), (16, _), (17, _)]) [0, 1, 2, 3, 4, 5, 6, 7, 8, 9, 10, 11, 12, 13, 14] rfl ?_
                have k9 := K420_1
                rw [show (n_dies_420_s0 mny all sm) = 0 from by rw [n_dies_420_s0, if_neg c408]] at k9
                exact k9
              · refine aw_lload C dL_dies_411 rfl rfl ?_
                refine aw_lload C dL_dies_413 rfl rfl ?_
                refine an_lsub C (by omega) dL_dies_415 rfl ?_
                refine aw_goto (tgt := 420) C dL_dies_416 (by decide) ?_
                refine aw_pick (ls' := [(0, _), (1, _), (2, _), (3, _), (6, _), (7, _), (8, _), (9, _), (10, _), (12, _), (13, _), (14, _), (15, _), (16, _), (17, _)]) [0, 1, 2, 3, 4, 5, 6, 7, 8, 9, 10, 11, 12, 13, 14] rfl ?_
                have k9 := K420_1
                rw [show (n_dies_420_s0 mny all sm) = all - sm from by rw [n_dies_420_s0, if_pos c408]] at k9
                exact k9
            | succ r ih =>
              intro k E hk hE sg hM hF
              refine aw_iload C dL_dies_343 rfl rfl ?_
              refine aw_bipush (v := nI 6) C dL_dies_345 rfl rfl ?_
              refine an_icmp_ge (a := k) (b := 6) (tgt := 394) C dL_dies_347 (by omega) (by decide) (by decide) rfl (fun cx => absurd (show k < 6 by omega) cx) (fun hk6 => ?_)
              refine aw_aload C dL_dies_350 rfl rfl ?_
              refine aw_bipush (v := nI 7) C dL_dies_352 rfl rfl ?_
              refine aw_iload C dL_dies_354 rfl rfl ?_
              refine an_mul C dL_dies_356 rfl ?_
              refine aw_iload C dL_dies_357 rfl rfl ?_
              refine an_add C dL_dies_359 rfl ?_
              refine aw_dup2 C dL_dies_360 rfl rfl rfl ?_
              refine an_lald (i := (7 * t) + k) (v := (E.2 ((7 * t) + k))) C hM (by omega) rfl dL_dies_361 rfl ?_
              refine aw_iload C dL_dies_362 rfl rfl ?_
              refine aw_iload C dL_dies_364 rfl rfl ?_
              refine an_shr C (by omega) (by omega) dL_dies_366 rfl ?_
              refine aw_iconst (v := nI 1) C dL_dies_367 rfl rfl ?_
              refine an_and1 C dL_dies_368 rfl ?_
              refine aw_iconst (v := nI 1) C dL_dies_369 rfl rfl ?_
              have K386_1 : AW x (RQ x (ZP x.g al sg0 (n_dies L x0).1 (n_dies L x0).2) noX 1 14) 1 14 sg 386 [(0, .int (nI (x0))), (1, .ref (al 0)), (2, .ref (al 1)), (3, .ref (al 2)), (6, .ref (al 10)), (7, .ref (al 11)), (8, .ref (al 12)), (9, .int (nI (c) - 1)), (10, .int (nI (ch))), (12, .int (nI (h))), (13, .int (nI (mny))), (14, .ref (q)), (15, .int (b2i (b))), (16, .int (nI (md))), (17, .int (nI (t))), (18, .long (lN (all))), (20, .long (lN (sm))), (22, .int (nI (k)))] [.long (lN ((n_dies_386_s0 h mny all sm k))), .long (lN ((E.2 ((7 * t) + k)))), .int (nI ((7 * t) + k)), .ref (al 11)] := by
                refine an_ladd C dL_dies_386 rfl ?_
                refine an_last (i := (7 * t) + k) (v := (E.2 ((7 * t) + k)) + (n_dies_386_s0 h mny all sm k)) C hM hF (by omega) dL_dies_387 rfl (fun sg hM hF => ?_)
                refine aw_iinc (v' := nI (k + 1)) (ls' := [(22, _), (0, _), (1, _), (2, _), (3, _), (6, _), (7, _), (8, _), (9, _), (10, _), (12, _), (13, _), (14, _), (15, _), (16, _), (17, _), (18, _), (20, _)]) C dL_dies_388 rfl (by decide) (nI_add (k) 1) rfl rfl ?_
                refine aw_pick (ls' := [(0, _), (1, _), (2, _), (3, _), (6, _), (7, _), (8, _), (9, _), (10, _), (12, _), (13, _), (14, _), (15, _), (16, _), (17, _), (18, _), (20, _), (22, _)]) [1, 2, 3, 4, 5, 6, 7, 8, 9, 10, 11, 12, 13, 14, 15, 16, 17, 0] rfl ?_
                refine aw_goto (tgt := 343) C dL_dies_391 (by decide) ?_
                exact ih (k + 1) _ (by omega) (by rw [hE]; rfl) sg hM hF
              refine an_icmp_ne (a := (h / 2 ^ k) % 2) (b := 1) (tgt := 385) C dL_dies_370 (by omega) (by decide) (by decide) rfl (fun c370 => ?_) (fun c370 => ?_)
              · refine aw_lconst (v := lN 0) C dL_dies_385 rfl rfl ?_
                have k9 := K386_1
                rw [show (n_dies_386_s0 h mny all sm k) = 0 from by rw [n_dies_386_s0, if_neg c370]] at k9
                exact k9
              · refine aw_lload C dL_dies_373 rfl rfl ?_
                refine aw_lload C dL_dies_375 rfl rfl ?_
                refine an_lsub C (by omega) dL_dies_377 rfl ?_
                refine aw_iload C dL_dies_378 rfl rfl ?_
                refine an_i2l C (by omega) dL_dies_380 rfl ?_
                refine an_ldiv C (by omega) (hmp k c370 hk6) (by omega) dL_dies_381 rfl ?_
                refine aw_goto (tgt := 386) C dL_dies_382 (by decide) ?_
                have k9 := K386_1
                rw [show (n_dies_386_s0 h mny all sm k) = (all - sm) / mny from by rw [n_dies_386_s0, if_pos c370]] at k9
                exact k9
          exact fun sg hM hF => loopE 6 0 _ rfl rfl sg hM hF
        have hJ := hJM
        refine aw_aload C dL_dies_218 rfl rfl ?_
        refine aw_bipush (v := nI 7) C dL_dies_220 rfl rfl ?_
        refine aw_iload C dL_dies_222 rfl rfl ?_
        refine an_mul C dL_dies_224 rfl ?_
        refine aw_iload_n C dL_dies_225 rfl rfl rfl ?_
        refine an_add C dL_dies_226 rfl ?_
        refine an_lald (i := (7 * t) + x0) (v := (M.2 ((7 * t) + x0))) C hM (by omega) rfl dL_dies_227 rfl ?_
        refine aw_lstore (ls' := [(18, _), (0, _), (1, _), (2, _), (3, _), (6, _), (7, _), (8, _), (9, _), (10, _), (12, _), (13, _), (14, _), (15, _), (16, _), (17, _)]) C dL_dies_228 (by decide) rfl rfl ?_
        refine aw_pick (ls' := [(0, _), (1, _), (2, _), (3, _), (6, _), (7, _), (8, _), (9, _), (10, _), (12, _), (13, _), (14, _), (15, _), (16, _), (17, _), (18, _)]) [1, 2, 3, 4, 5, 6, 7, 8, 9, 10, 11, 12, 13, 14, 15, 0] rfl ?_
        refine aw_iload C dL_dies_230 rfl rfl ?_
        have K261_1 : AW x (RQ x (ZP x.g al sg0 (n_dies L x0).1 (n_dies L x0).2) noX 1 14) 1 14 sg 261 [(0, .int (nI (x0))), (1, .ref (al 0)), (2, .ref (al 1)), (3, .ref (al 2)), (6, .ref (al 10)), (7, .ref (al 11)), (8, .ref (al 12)), (9, .int (nI (c) - 1)), (10, .int (nI (ch))), (12, .int (nI (h))), (13, .int (nI (mny))), (14, .ref (q)), (15, .int (b2i (b))), (16, .int (nI (md))), (17, .int (nI (t))), (18, .long (lN ((M.2 ((7 * t) + x0)))))] [.long (lN ((n_dies_261_s0 M x0 c ch t)))] := by
          have q261s0 : (n_dies_261_s0 M x0 c ch t) ≤ (M.2 ((7 * t) + x0)) := by
              unfold n_dies_261_s0
              split
              · exact Nat.zero_le _
              · next hz => exact share_le (hwM hz).2.1
          refine aw_lstore (ls' := [(20, _), (0, _), (1, _), (2, _), (3, _), (6, _), (7, _), (8, _), (9, _), (10, _), (12, _), (13, _), (14, _), (15, _), (16, _), (17, _), (18, _)]) C dL_dies_261 (by decide) rfl rfl ?_
          refine aw_pick (ls' := [(0, _), (1, _), (2, _), (3, _), (6, _), (7, _), (8, _), (9, _), (10, _), (12, _), (13, _), (14, _), (15, _), (16, _), (17, _), (18, _), (20, _)]) [1, 2, 3, 4, 5, 6, 7, 8, 9, 10, 11, 12, 13, 14, 15, 16, 0] rfl ?_
          refine aw_iload C dL_dies_263 rfl rfl ?_
          have K291_2 : AW x (RQ x (ZP x.g al sg0 (n_dies L x0).1 (n_dies L x0).2) noX 1 14) 1 14 sg 291 [(0, .int (nI (x0))), (1, .ref (al 0)), (2, .ref (al 1)), (3, .ref (al 2)), (6, .ref (al 10)), (7, .ref (al 11)), (8, .ref (al 12)), (9, .int (nI (c) - 1)), (10, .int (nI (ch))), (12, .int (nI (h))), (13, .int (nI (mny))), (14, .ref (q)), (15, .int (b2i (b))), (16, .int (nI (md))), (17, .int (nI (t))), (18, .long (lN ((M.2 ((7 * t) + x0)))))] [.long (lN ((n_dies_291_s0 M x0 c ch t)))] := by
            have q291s0 : (n_dies_291_s0 M x0 c ch t) ≤ (M.2 ((7 * t) + x0)) := by
                unfold n_dies_291_s0
                (repeat' split) <;> omega
            refine aw_lstore (ls' := [(20, _), (0, _), (1, _), (2, _), (3, _), (6, _), (7, _), (8, _), (9, _), (10, _), (12, _), (13, _), (14, _), (15, _), (16, _), (17, _), (18, _)]) C dL_dies_291 (by decide) rfl rfl ?_
            refine aw_pick (ls' := [(0, _), (1, _), (2, _), (3, _), (6, _), (7, _), (8, _), (9, _), (10, _), (12, _), (13, _), (14, _), (15, _), (16, _), (17, _), (18, _), (20, _)]) [1, 2, 3, 4, 5, 6, 7, 8, 9, 10, 11, 12, 13, 14, 15, 16, 0] rfl ?_
            refine aw_lload C dL_dies_293 rfl rfl ?_
            refine aw_lconst (v := lN 0) C dL_dies_295 rfl rfl ?_
            refine an_lc_le (p1 := 296) (a := (M.2 ((7 * t) + x0))) (b := 0) (tgt := 500) C dL_dies_296 rfl dL_dies_297 (by have := hJ ((7 * t) + x0); omega) (by omega) (by decide) rfl (fun c297 => ?_) (fun c297 => ?_)
            · refine aw_pick (ls' := [(0, _), (1, _), (2, _), (3, _), (6, _), (7, _), (8, _), (9, _), (10, _), (12, _), (13, _), (14, _), (15, _), (16, _), (17, _)]) [0, 1, 2, 3, 4, 5, 6, 7, 8, 9, 10, 11, 12, 13, 14] rfl ?_
              exact nextD M b md (by rw [n_dT1, if_neg c297]) sg hM hF
            · refine aw_aload C dL_dies_300 rfl rfl ?_
              refine aw_bipush (v := nI 7) C dL_dies_302 rfl rfl ?_
              refine aw_iload C dL_dies_304 rfl rfl ?_
              refine an_mul C dL_dies_306 rfl ?_
              refine aw_iload_n C dL_dies_307 rfl rfl rfl ?_
              refine an_add C dL_dies_308 rfl ?_
              refine aw_lconst (v := lN 0) C dL_dies_309 rfl rfl ?_
              refine an_last (i := (7 * t) + x0) (v := 0) C hM hF (by omega) dL_dies_310 rfl (fun sg hM hF => ?_)
              refine aw_iload C dL_dies_311 rfl rfl ?_
              have K340_3 : ∀ sg, ZS x.g al (n_dies_340_L M x0 c ch t) sg → ZFr al sg1 sg → AW x (RQ x (ZP x.g al sg0 (n_dies L x0).1 (n_dies L x0).2) noX 1 14) 1 14 sg 340 [(0, .int (nI (x0))), (1, .ref (al 0)), (2, .ref (al 1)), (3, .ref (al 2)), (6, .ref (al 10)), (7, .ref (al 11)), (8, .ref (al 12)), (9, .int (nI (c) - 1)), (10, .int (nI (ch))), (12, .int (nI (h))), (13, .int (nI (mny))), (14, .ref (q)), (15, .int (b2i (b))), (16, .int (nI (md))), (17, .int (nI (t))), (18, .long (lN ((M.2 ((7 * t) + x0))))), (20, .long (lN ((n_dies_291_s0 M x0 c ch t))))] [] := by
                intro sg hM hF
                refine aw_iconst (v := nI 0) C dL_dies_340 rfl rfl ?_
                refine aw_istore (ls' := [(22, _), (0, _), (1, _), (2, _), (3, _), (6, _), (7, _), (8, _), (9, _), (10, _), (12, _), (13, _), (14, _), (15, _), (16, _), (17, _), (18, _), (20, _)]) C dL_dies_341 (by decide) rfl rfl ?_
                refine aw_pick (ls' := [(0, _), (1, _), (2, _), (3, _), (6, _), (7, _), (8, _), (9, _), (10, _), (12, _), (13, _), (14, _), (15, _), (16, _), (17, _), (18, _), (20, _), (22, _)]) [1, 2, 3, 4, 5, 6, 7, 8, 9, 10, 11, 12, 13, 14, 15, 16, 17, 0] rfl ?_
                exact k343 c297 _ _ rfl rfl hs291 (hJM _) sg hM hF
              refine an_kif_lt (a := c) (tgt := 340) C dL_dies_313 (by omega) (by decide) rfl (fun c313 => ?_) (fun c313 => ?_)
              · have k9 := K340_3
                rw [show (n_dies_340_L M x0 c ch t) = (zJ M ((7 * t) + x0) 0) from by rw [n_dies_340_L, if_pos c313]] at k9
                exact k9 sg hM hF
              · refine aw_aload C dL_dies_316 rfl rfl ?_
                refine aw_bipush (v := nI 7) C dL_dies_318 rfl rfl ?_
                refine aw_iload C dL_dies_320 rfl rfl ?_
                refine an_mul C dL_dies_322 rfl ?_
                refine aw_aload_n C dL_dies_323 rfl rfl rfl ?_
                refine aw_iload C dL_dies_324 rfl rfl ?_
                refine an_kald (k := 1) (N := 24) (v := (M.1 1 (c - 1))) C hM rfl rfl c313 (by omega) (by rw [zJ_1]) dL_dies_326 rfl ?_
                refine aw_bipush (v := nI 64) C dL_dies_327 rfl rfl ?_
                refine an_div C (by have := hB 1 (c - 1); omega) (by decide) (by decide) dL_dies_329 rfl ?_
                refine aw_bipush (v := nI 8) C dL_dies_330 rfl rfl ?_
                refine an_rem C (by have := hB 1 (c - 1); omega) (by decide) (by decide) dL_dies_332 rfl ?_
                refine an_add C dL_dies_333 rfl ?_
                refine aw_dup2 C dL_dies_334 rfl rfl rfl ?_
                refine an_lald (i := (7 * t) + (((M.1 1 (c - 1)) / 64) % 8)) (v := ((zJ M ((7 * t) + x0) 0).2 ((7 * t) + (((M.1 1 (c - 1)) / 64) % 8)))) C hM (by have := (hwM c313).2.2; omega) rfl dL_dies_335 rfl ?_
                refine aw_lload C dL_dies_336 rfl rfl ?_
                refine an_ladd C dL_dies_338 rfl ?_
                refine an_last (i := (7 * t) + (((M.1 1 (c - 1)) / 64) % 8)) (v := ((zJ M ((7 * t) + x0) 0).2 ((7 * t) + (((M.1 1 (c - 1)) / 64) % 8))) + (n_dies_291_s0 M x0 c ch t)) C hM hF (by have := (hwM c313).2.2; omega) dL_dies_339 rfl (fun sg hM hF => ?_)
                have k9 := K340_3
                rw [show (n_dies_340_L M x0 c ch t) = (zJ (zJ M ((7 * t) + x0) 0) ((7 * t) + (((M.1 1 (c - 1)) / 64) % 8)) (((zJ M ((7 * t) + x0) 0).2 ((7 * t) + (((M.1 1 (c - 1)) / 64) % 8))) + (n_dies_291_s0 M x0 c ch t))) from by rw [n_dies_340_L, if_neg c313]] at k9
                exact k9 sg hM hF
          refine an_if_le (a := ch) (tgt := 289) C dL_dies_265 (by omega) (by decide) rfl (fun c265 => ?_) (fun c265 => ?_)
          · refine aw_lload C dL_dies_289 rfl rfl ?_
            refine aw_pick (ls' := [(0, _), (1, _), (2, _), (3, _), (6, _), (7, _), (8, _), (9, _), (10, _), (12, _), (13, _), (14, _), (15, _), (16, _), (17, _), (18, _)]) [0, 1, 2, 3, 4, 5, 6, 7, 8, 9, 10, 11, 12, 13, 14, 15] rfl ?_
            have k9 := K291_2
            rw [show (n_dies_291_s0 M x0 c ch t) = (n_dies_261_s0 M x0 c ch t) from by rw [n_dies_291_s0, if_neg c265]] at k9
            exact k9
          · refine aw_ldc2 (v := lN 2) C dL_dies_268 q_L_96 rfl ?_
            refine aw_lload C dL_dies_271 rfl rfl ?_
            refine an_lmul C dL_dies_273 rfl ?_
            refine aw_lload C dL_dies_274 rfl rfl ?_
            refine an_lc_le (p1 := 276) (a := 2 * (n_dies_261_s0 M x0 c ch t)) (b := (M.2 ((7 * t) + x0))) (tgt := 289) C dL_dies_276 rfl dL_dies_277 (by have := hJM ((7 * t) + x0); omega) (by have := hJ ((7 * t) + x0); omega) (by decide) rfl (fun c277 => ?_) (fun c277 => ?_)
            · refine aw_lload C dL_dies_289 rfl rfl ?_
              refine aw_pick (ls' := [(0, _), (1, _), (2, _), (3, _), (6, _), (7, _), (8, _), (9, _), (10, _), (12, _), (13, _), (14, _), (15, _), (16, _), (17, _), (18, _)]) [0, 1, 2, 3, 4, 5, 6, 7, 8, 9, 10, 11, 12, 13, 14, 15] rfl ?_
              have k9 := K291_2
              rw [show (n_dies_291_s0 M x0 c ch t) = (n_dies_261_s0 M x0 c ch t) from by rw [n_dies_291_s0, if_pos c265, if_neg c277]] at k9
              exact k9
            · refine aw_lload C dL_dies_280 rfl rfl ?_
              refine aw_ldc2 (v := lN 2) C dL_dies_282 q_L_96 rfl ?_
              refine an_ldiv C (by have := hJ ((7 * t) + x0); omega) (by omega) (by omega) dL_dies_285 rfl ?_
              refine aw_goto (tgt := 291) C dL_dies_286 (by decide) ?_
              refine aw_pick (ls' := [(0, _), (1, _), (2, _), (3, _), (6, _), (7, _), (8, _), (9, _), (10, _), (12, _), (13, _), (14, _), (15, _), (16, _), (17, _), (18, _)]) [0, 1, 2, 3, 4, 5, 6, 7, 8, 9, 10, 11, 12, 13, 14, 15] rfl ?_
              have k9 := K291_2
              rw [show (n_dies_291_s0 M x0 c ch t) = (M.2 ((7 * t) + x0)) / 2 from by rw [n_dies_291_s0, if_pos c265, if_pos c277]] at k9
              exact k9
        refine an_kif_ge (a := c) (tgt := 239) C dL_dies_232 (by omega) (by decide) rfl (fun c232 => ?_) (fun c232 => ?_)
        · refine aw_lload C dL_dies_239 rfl rfl ?_
          refine aw_aload_n C dL_dies_241 rfl rfl rfl ?_
          refine aw_iload C dL_dies_242 rfl rfl ?_
          refine an_kald (k := 2) (N := 24) (v := (M.1 2 (c - 1))) C hM rfl rfl c232 (by omega) rfl dL_dies_244 rfl ?_
          refine aw_sipush (v := nI 128) C dL_dies_245 rfl rfl ?_
          refine an_rem C (by have := hB 2 (c - 1); omega) (by decide) (by decide) dL_dies_248 rfl ?_
          refine an_i2l C (by have := hB 2 (c - 1); omega) dL_dies_249 rfl ?_
          refine an_ldiv C (by have := hJ ((7 * t) + x0); omega) (by have := (hwM c232).1; omega) (by have := hB 2 (c - 1); omega) dL_dies_250 rfl ?_
          refine aw_aload_n C dL_dies_251 rfl rfl rfl ?_
          refine aw_iload C dL_dies_252 rfl rfl ?_
          refine an_kald (k := 2) (N := 24) (v := (M.1 2 (c - 1))) C hM rfl rfl c232 (by omega) rfl dL_dies_254 rfl ?_
          refine aw_sipush (v := nI 128) C dL_dies_255 rfl rfl ?_
          refine an_div C (by have := hB 2 (c - 1); omega) (by decide) (by decide) dL_dies_258 rfl ?_
          refine an_i2l C (by have := hB 2 (c - 1); omega) dL_dies_259 rfl ?_
          refine an_lmul C dL_dies_260 rfl ?_
          have k9 := K261_1
          rw [show (n_dies_261_s0 M x0 c ch t) = ((M.2 ((7 * t) + x0)) / ((M.1 2 (c - 1)) % 128)) * ((M.1 2 (c - 1)) / 128) from by rw [n_dies_261_s0, if_neg c232]] at k9
          exact k9
        · refine aw_lconst (v := lN 0) C dL_dies_235 rfl rfl ?_
          refine aw_goto (tgt := 261) C dL_dies_236 (by decide) ?_
          have k9 := K261_1
          rw [show (n_dies_261_s0 M x0 c ch t) = 0 from by rw [n_dies_261_s0, if_pos c232]] at k9
          exact k9
    exact loopD 2 0 L true 0 rfl rfl sg1 hM1 ZFr.rf
  have loopC : ∀ (q : Nat), sg0 q = none → (∀ i, i < 13 → q ≠ al i) → ∀ (r k : Nat), k + r = 14 → ∀ sg, ZS x.g al L sg → ZFr al sg0 sg → sg q = some (arJ x.g 14 (fun i => lN (if i < k then L.2 i else 0))) → AW x (RQ x (ZP x.g al sg0 (n_dies L x0).1 (n_dies L x0).2) noX 1 14) 1 14 sg 186 [(0, .int (nI (x0))), (1, .ref (al 0)), (2, .ref (al 1)), (3, .ref (al 2)), (6, .ref (al 10)), (7, .ref (al 11)), (8, .ref (al 12)), (9, .int (nI (c) - 1)), (10, .int (nI (ch))), (12, .int (nI (h))), (13, .int (nI (mny))), (14, .ref (q)), (15, .int (nI (1))), (16, .int (nI (0))), (17, .int (nI (k)))] [] := by
    intro q hq0 hqn r
    induction r with
    | zero =>
      intro k hk sg hM hF hq
      obtain rfl : k = 14 := by omega
      refine aw_iload C dL_dies_186 rfl rfl ?_
      refine aw_bipush (v := nI 14) C dL_dies_188 rfl rfl ?_
      refine an_icmp_ge (a := 14) (b := 14) (tgt := 209) C dL_dies_190 (by omega) (by decide) (by decide) rfl (fun cx => ?_) (fun cx => absurd cx (by omega))
      refine aw_iconst (v := nI 0) C dL_dies_209 rfl rfl ?_
      refine aw_istore (ls' := [(17, _), (0, _), (1, _), (2, _), (3, _), (6, _), (7, _), (8, _), (9, _), (10, _), (12, _), (13, _), (14, _), (15, _), (16, _)]) C dL_dies_210 (by decide) rfl rfl ?_
      refine aw_pick (ls' := [(0, _), (1, _), (2, _), (3, _), (6, _), (7, _), (8, _), (9, _), (10, _), (12, _), (13, _), (14, _), (15, _), (16, _), (17, _)]) [1, 2, 3, 4, 5, 6, 7, 8, 9, 10, 11, 12, 13, 14, 0] rfl ?_
      exact rest q sg hM hq hqn hF
    | succ r ih =>
      intro k hk sg hM hF hq
      refine aw_iload C dL_dies_186 rfl rfl ?_
      refine aw_bipush (v := nI 14) C dL_dies_188 rfl rfl ?_
      refine an_icmp_ge (a := k) (b := 14) (tgt := 209) C dL_dies_190 (by omega) (by decide) (by decide) rfl (fun cx => absurd (show k < 14 by omega) cx) (fun hk14 => ?_)
      refine aw_aload C dL_dies_193 rfl rfl ?_
      refine aw_iload C dL_dies_195 rfl rfl ?_
      refine aw_aload C dL_dies_197 rfl rfl ?_
      refine aw_iload C dL_dies_199 rfl rfl ?_
      refine an_lald (i := k) (v := L.2 k) C hM hk14 rfl dL_dies_201 rfl ?_
      refine an_wst (W := fun i => if i < k then L.2 i else 0) C hq hk14 dL_dies_202 rfl ?_
      refine aw_iinc (v' := nI (k + 1)) (ls' := [(17, _), (0, _), (1, _), (2, _), (3, _), (6, _), (7, _), (8, _), (9, _), (10, _), (12, _), (13, _), (14, _), (15, _), (16, _)]) C dL_dies_203 rfl (by decide) (nI_add k 1) rfl rfl ?_
      refine aw_goto (tgt := 186) C dL_dies_206 (by decide) ?_
      refine aw_pick (ls' := [(0, _), (1, _), (2, _), (3, _), (6, _), (7, _), (8, _), (9, _), (10, _), (12, _), (13, _), (14, _), (15, _), (16, _), (17, _)]) [1, 2, 3, 4, 5, 6, 7, 8, 9, 10, 11, 12, 13, 14, 0] rfl ?_
      refine ih (k + 1) (by omega) _ (hM.out hqn) (hF.new hq0) ?_
      rw [sgu_s]
      refine congrArg some (congrArg (arJ x.g 14) (funext fun j => congrArg lN ?_))
      by_cases z : j = k
      · subst z
        rw [if_pos rfl, if_pos (by omega)]
      · rw [if_neg z]
        by_cases z2 : j < k
        · rw [if_pos z2, if_pos (by omega)]
        · rw [if_neg z2, if_neg (by omega)]
  have loopB : ∀ (r k : Nat), k + r = 6 → AW x (RQ x (ZP x.g al sg0 (n_dies L x0).1 (n_dies L x0).2) noX 1 14) 0 0 sg0 146 [(0, .int (nI (x0))), (1, .ref (al 0)), (2, .ref (al 1)), (3, .ref (al 2)), (6, .ref (al 10)), (7, .ref (al 11)), (8, .ref (al 12)), (9, .int (nI ((n_willN L x0 (L.1 10 1)).1) - 1)), (10, .int (nI (n_dCh L x0 6))), (12, .int (nI ((n_dies_138_s0 L x0)))), (13, .int (nI (n_dM (n_dies_138_s0 L x0) k))), (14, .int (nI (k)))] [] := by
    intro r
    induction r with
    | zero =>
      intro k hk
      obtain rfl : k = 6 := by omega
      refine aw_iload C dL_dies_146 rfl rfl ?_
      refine aw_bipush (v := nI 6) C dL_dies_148 rfl rfl ?_
      refine an_icmp_ge (a := 6) (b := 6) (tgt := 171) C dL_dies_150 (by omega) (by decide) (by decide) rfl (fun cx => ?_) (fun cx => absurd cx (by omega))
      refine aw_bipush (v := nI 14) C dL_dies_171 rfl rfl ?_
      refine aw_newarr (atype := .long) (t0 := 2) (cA0 := x.g.ca 2) (ty := .long) (N := 14) (a0 := (14, .inr (.inl fun _ => 0))) C h_arr_long rfl rfl (fun o h => by cases h) (fun _ => rfl) (by decide) rfl (by decide) (Nat.le_of_ble_eq_true rfl) (Nat.le_of_ble_eq_true rfl) dL_dies_173 rfl (fun q hq => ?_)
      refine aw_astore (ls' := [(14, _), (0, _), (1, _), (2, _), (3, _), (6, _), (7, _), (8, _), (9, _), (10, _), (12, _), (13, _)]) C dL_dies_175 (by decide) rfl rfl ?_
      refine aw_iconst (v := nI 1) C dL_dies_177 rfl rfl ?_
      refine aw_istore (ls' := [(15, _), (14, _), (0, _), (1, _), (2, _), (3, _), (6, _), (7, _), (8, _), (9, _), (10, _), (12, _), (13, _)]) C dL_dies_178 (by decide) rfl rfl ?_
      refine aw_iconst (v := nI 0) C dL_dies_180 rfl rfl ?_
      refine aw_istore (ls' := [(16, _), (15, _), (14, _), (0, _), (1, _), (2, _), (3, _), (6, _), (7, _), (8, _), (9, _), (10, _), (12, _), (13, _)]) C dL_dies_181 (by decide) rfl rfl ?_
      refine aw_iconst (v := nI 0) C dL_dies_183 rfl rfl ?_
      refine aw_istore (ls' := [(17, _), (16, _), (15, _), (14, _), (0, _), (1, _), (2, _), (3, _), (6, _), (7, _), (8, _), (9, _), (10, _), (12, _), (13, _)]) C dL_dies_184 (by decide) rfl rfl ?_
      refine aw_pick (ls' := [(0, _), (1, _), (2, _), (3, _), (6, _), (7, _), (8, _), (9, _), (10, _), (12, _), (13, _), (14, _), (15, _), (16, _), (17, _)]) [4, 5, 6, 7, 8, 9, 10, 11, 12, 13, 14, 3, 2, 1, 0] rfl ?_
      have hqn := hM.new hq
      have hC := loopC q hq hqn 14 0 rfl _ (hM.out hqn) (hF.new hq) sgu_s
      rw [hc, hch, hmn, hh] at hC
      exact hC
    | succ r ih =>
      intro k hk
      refine aw_iload C dL_dies_146 rfl rfl ?_
      refine aw_bipush (v := nI 6) C dL_dies_148 rfl rfl ?_
      refine an_icmp_ge (a := k) (b := 6) (tgt := 171) C dL_dies_150 (by omega) (by decide) (by decide) rfl (fun cx => absurd (show k < 6 by omega) cx) (fun hk6 => ?_)
      refine aw_iload C dL_dies_153 rfl rfl ?_
      refine aw_iload C dL_dies_155 rfl rfl ?_
      refine aw_iload C dL_dies_157 rfl rfl ?_
      refine an_shr C (by omega) (by have := n_dH_lt (L := L) (x0 := x0); omega) dL_dies_159 rfl ?_
      refine aw_iconst (v := nI 1) C dL_dies_160 rfl rfl ?_
      refine an_and1 C dL_dies_161 rfl ?_
      refine an_add C dL_dies_162 rfl ?_
      refine aw_istore (ls' := [(13, _), (0, _), (1, _), (2, _), (3, _), (6, _), (7, _), (8, _), (9, _), (10, _), (12, _), (14, _)]) C dL_dies_163 (by decide) rfl rfl ?_
      refine aw_pick (ls' := [(0, _), (1, _), (2, _), (3, _), (6, _), (7, _), (8, _), (9, _), (10, _), (12, _), (13, _), (14, _)]) [1, 2, 3, 4, 5, 6, 7, 8, 9, 10, 0, 11] rfl ?_
      refine aw_iinc (v' := nI (k + 1)) (ls' := [(14, _), (0, _), (1, _), (2, _), (3, _), (6, _), (7, _), (8, _), (9, _), (10, _), (12, _), (13, _)]) C dL_dies_165 rfl (by decide) (nI_add (k) 1) rfl rfl ?_
      refine aw_pick (ls' := [(0, _), (1, _), (2, _), (3, _), (6, _), (7, _), (8, _), (9, _), (10, _), (12, _), (13, _), (14, _)]) [1, 2, 3, 4, 5, 6, 7, 8, 9, 10, 11, 0] rfl ?_
      refine aw_goto (tgt := 146) C dL_dies_168 (by decide) ?_
      exact ih (k + 1) (by omega)
  have k126 : AW x (RQ x (ZP x.g al sg0 (n_dies L x0).1 (n_dies L x0).2) noX 1 14) 0 0 sg0 126 [(0, .int (nI (x0))), (1, .ref (al 0)), (2, .ref (al 1)), (3, .ref (al 2)), (6, .ref (al 10)), (7, .ref (al 11)), (8, .ref (al 12)), (9, .int (nI ((n_willN L x0 (L.1 10 1)).1) - 1)), (10, .int (nI (n_dCh L x0 6))), (11, .int (nI (n_dPa L x0 6)))] [] := by
    refine aw_iload C dL_dies_126 rfl rfl ?_
    have K138_1 : AW x (RQ x (ZP x.g al sg0 (n_dies L x0).1 (n_dies L x0).2) noX 1 14) 0 0 sg0 138 [(0, .int (nI (x0))), (1, .ref (al 0)), (2, .ref (al 1)), (3, .ref (al 2)), (6, .ref (al 10)), (7, .ref (al 11)), (8, .ref (al 12)), (9, .int (nI ((n_willN L x0 (L.1 10 1)).1) - 1)), (10, .int (nI (n_dCh L x0 6)))] [.int (nI ((n_dies_138_s0 L x0)))] := by
      refine aw_istore (ls' := [(12, _), (0, _), (1, _), (2, _), (3, _), (6, _), (7, _), (8, _), (9, _), (10, _)]) C dL_dies_138 (by decide) rfl rfl ?_
      refine aw_pick (ls' := [(0, _), (1, _), (2, _), (3, _), (6, _), (7, _), (8, _), (9, _), (10, _), (12, _)]) [1, 2, 3, 4, 5, 6, 7, 8, 9, 0] rfl ?_
      refine aw_iconst (v := nI 0) C dL_dies_140 rfl rfl ?_
      refine aw_istore (ls' := [(13, _), (0, _), (1, _), (2, _), (3, _), (6, _), (7, _), (8, _), (9, _), (10, _), (12, _)]) C dL_dies_141 (by decide) rfl rfl ?_
      refine aw_pick (ls' := [(0, _), (1, _), (2, _), (3, _), (6, _), (7, _), (8, _), (9, _), (10, _), (12, _), (13, _)]) [1, 2, 3, 4, 5, 6, 7, 8, 9, 10, 0] rfl ?_
      refine aw_iconst (v := nI 0) C dL_dies_143 rfl rfl ?_
      refine aw_istore (ls' := [(14, _), (0, _), (1, _), (2, _), (3, _), (6, _), (7, _), (8, _), (9, _), (10, _), (12, _), (13, _)]) C dL_dies_144 (by decide) rfl rfl ?_
      refine aw_pick (ls' := [(0, _), (1, _), (2, _), (3, _), (6, _), (7, _), (8, _), (9, _), (10, _), (12, _), (13, _), (14, _)]) [1, 2, 3, 4, 5, 6, 7, 8, 9, 10, 11, 0] rfl ?_
      exact loopB 6 0 rfl
    refine an_if_le (a := n_dCh L x0 6) (tgt := 136) C dL_dies_128 (by have := n_dCh_lt (L := L) (x0 := x0) 6; omega) (by decide) rfl (fun c128 => ?_) (fun c128 => ?_)
    · refine aw_iload C dL_dies_136 rfl rfl ?_
      refine aw_pick (ls' := [(0, _), (1, _), (2, _), (3, _), (6, _), (7, _), (8, _), (9, _), (10, _)]) [0, 1, 2, 3, 4, 5, 6, 7, 8] rfl ?_
      have k9 := K138_1
      rw [show (n_dies_138_s0 L x0) = n_dPa L x0 6 from by rw [n_dies_138_s0, if_neg c128]] at k9
      exact k9
    · refine aw_iload C dL_dies_131 rfl rfl ?_
      refine aw_goto (tgt := 138) C dL_dies_133 (by decide) ?_
      refine aw_pick (ls' := [(0, _), (1, _), (2, _), (3, _), (6, _), (7, _), (8, _), (9, _), (10, _)]) [0, 1, 2, 3, 4, 5, 6, 7, 8] rfl ?_
      have k9 := K138_1
      rw [show (n_dies_138_s0 L x0) = n_dCh L x0 6 from by rw [n_dies_138_s0, if_pos c128]] at k9
      exact k9
  have loopA : ∀ (r k : Nat), k + r = 6 → AW x (RQ x (ZP x.g al sg0 (n_dies L x0).1 (n_dies L x0).2) noX 1 14) 0 0 sg0 37 [(0, .int (nI (x0))), (1, .ref (al 0)), (2, .ref (al 1)), (3, .ref (al 2)), (6, .ref (al 10)), (7, .ref (al 11)), (8, .ref (al 12)), (9, .int (nI ((n_willN L x0 (L.1 10 1)).1) - 1)), (10, .int (nI (n_dCh L x0 k))), (11, .int (nI (n_dPa L x0 k))), (12, .int (nI (k)))] [] := by
    intro r
    induction r with
    | zero =>
      intro k hk
      obtain rfl : k = 6 := by omega
      refine aw_iload C dL_dies_37 rfl rfl ?_
      refine aw_bipush (v := nI 6) C dL_dies_39 rfl rfl ?_
      refine an_icmp_ge (a := 6) (b := 6) (tgt := 126) C dL_dies_41 (by omega) (by decide) (by decide) rfl (fun cx => ?_) (fun cx => absurd cx (by omega))
      refine aw_pick (ls' := [(0, _), (1, _), (2, _), (3, _), (6, _), (7, _), (8, _), (9, _), (10, _), (11, _)]) [0, 1, 2, 3, 4, 5, 6, 7, 8, 9] rfl ?_
      exact k126
    | succ r ih =>
      intro k hk
      refine aw_iload C dL_dies_37 rfl rfl ?_
      refine aw_bipush (v := nI 6) C dL_dies_39 rfl rfl ?_
      refine an_icmp_ge (a := k) (b := 6) (tgt := 126) C dL_dies_41 (by omega) (by decide) (by decide) rfl (fun cx => absurd (show k < 6 by omega) cx) (fun hk6 => ?_)
      refine aw_iload C dL_dies_44 rfl rfl ?_
      refine aw_aload_n C dL_dies_46 rfl rfl rfl ?_
      refine aw_bipush (v := nI 16) C dL_dies_47 rfl rfl ?_
      refine aw_iload C dL_dies_49 rfl rfl ?_
      refine an_add C dL_dies_51 rfl ?_
      refine an_iald (k := 0) (i := 16 + k) (N := 40) (v := (L.1 0 (16 + k))) C hM rfl rfl (by omega) rfl dL_dies_52 rfl ?_
      have K79_1 : AW x (RQ x (ZP x.g al sg0 (n_dies L x0).1 (n_dies L x0).2) noX 1 14) 0 0 sg0 79 [(0, .int (nI (x0))), (1, .ref (al 0)), (2, .ref (al 1)), (3, .ref (al 2)), (6, .ref (al 10)), (7, .ref (al 11)), (8, .ref (al 12)), (9, .int (nI ((n_willN L x0 (L.1 10 1)).1) - 1)), (11, .int (nI (n_dPa L x0 k))), (12, .int (nI (k)))] [.int (nI ((n_dies_79_s0 L x0 k))), .int (nI (n_dCh L x0 k))] := by
        refine an_or C dL_dies_79 rfl ?_
        refine aw_istore (ls' := [(10, _), (0, _), (1, _), (2, _), (3, _), (6, _), (7, _), (8, _), (9, _), (11, _), (12, _)]) C dL_dies_80 (by decide) rfl rfl ?_
        refine aw_pick (ls' := [(0, _), (1, _), (2, _), (3, _), (6, _), (7, _), (8, _), (9, _), (10, _), (11, _), (12, _)]) [1, 2, 3, 4, 5, 6, 7, 8, 0, 9, 10] rfl ?_
        refine aw_iload C dL_dies_82 rfl rfl ?_
        refine aw_aload_n C dL_dies_84 rfl rfl rfl ?_
        refine aw_bipush (v := nI 16) C dL_dies_85 rfl rfl ?_
        refine aw_iload C dL_dies_87 rfl rfl ?_
        refine an_add C dL_dies_89 rfl ?_
        refine an_iald (k := 0) (i := 16 + k) (N := 40) (v := (L.1 0 (16 + k))) C hM rfl rfl (by omega) rfl dL_dies_90 rfl ?_
        have K117_2 : AW x (RQ x (ZP x.g al sg0 (n_dies L x0).1 (n_dies L x0).2) noX 1 14) 0 0 sg0 117 [(0, .int (nI (x0))), (1, .ref (al 0)), (2, .ref (al 1)), (3, .ref (al 2)), (6, .ref (al 10)), (7, .ref (al 11)), (8, .ref (al 12)), (9, .int (nI ((n_willN L x0 (L.1 10 1)).1) - 1)), (10, .int (nI ((n_dCh L x0 k) ||| (n_dies_79_s0 L x0 k)))), (12, .int (nI (k)))] [.int (nI ((n_dies_117_s0 L x0 k))), .int (nI (n_dPa L x0 k))] := by
          refine an_or C dL_dies_117 rfl ?_
          refine aw_istore (ls' := [(11, _), (0, _), (1, _), (2, _), (3, _), (6, _), (7, _), (8, _), (9, _), (10, _), (12, _)]) C dL_dies_118 (by decide) rfl rfl ?_
          refine aw_pick (ls' := [(0, _), (1, _), (2, _), (3, _), (6, _), (7, _), (8, _), (9, _), (10, _), (11, _), (12, _)]) [1, 2, 3, 4, 5, 6, 7, 8, 9, 0, 10] rfl ?_
          refine aw_iinc (v' := nI (k + 1)) (ls' := [(12, _), (0, _), (1, _), (2, _), (3, _), (6, _), (7, _), (8, _), (9, _), (10, _), (11, _)]) C dL_dies_120 rfl (by decide) (nI_add (k) 1) rfl rfl ?_
          refine aw_pick (ls' := [(0, _), (1, _), (2, _), (3, _), (6, _), (7, _), (8, _), (9, _), (10, _), (11, _), (12, _)]) [1, 2, 3, 4, 5, 6, 7, 8, 9, 10, 0] rfl ?_
          refine aw_goto (tgt := 37) C dL_dies_123 (by decide) ?_
          exact ih (k + 1) (by omega)
        refine an_if_ne (a := (L.1 0 (16 + k))) (tgt := 116) C dL_dies_91 (by have := hB 0 (16 + k); omega) (by decide) rfl (fun c91 => ?_) (fun c91 => ?_)
        · refine aw_iconst (v := nI 0) C dL_dies_116 rfl rfl ?_
          refine aw_pick (ls' := [(0, _), (1, _), (2, _), (3, _), (6, _), (7, _), (8, _), (9, _), (10, _), (12, _)]) [0, 1, 2, 3, 4, 5, 6, 7, 8, 10] rfl ?_
          have k9 := K117_2
          rw [show (n_dies_117_s0 L x0 k) = 0 from by rw [n_dies_117_s0, if_neg c91]] at k9
          exact k9
        · refine aw_aload_n C dL_dies_94 rfl rfl rfl ?_
          refine aw_bipush (v := nI 24) C dL_dies_95 rfl rfl ?_
          refine aw_iload_n C dL_dies_97 rfl rfl rfl ?_
          refine an_add C dL_dies_98 rfl ?_
          refine an_iald (k := 0) (i := 24 + x0) (N := 40) (v := (L.1 0 (24 + x0))) C hM rfl rfl (by omega) rfl dL_dies_99 rfl ?_
          refine aw_iload C dL_dies_100 rfl rfl ?_
          refine an_shr C (by omega) (by have := hB 0 (24 + x0); omega) dL_dies_102 rfl ?_
          refine aw_iconst (v := nI 1) C dL_dies_103 rfl rfl ?_
          refine an_and1 C dL_dies_104 rfl ?_
          refine aw_iconst (v := nI 1) C dL_dies_105 rfl rfl ?_
          refine an_icmp_ne (a := ((L.1 0 (24 + x0)) / 2 ^ k) % 2) (b := 1) (tgt := 116) C dL_dies_106 (by have := hB 0 (24 + x0); omega) (by decide) (by decide) rfl (fun c106 => ?_) (fun c106 => ?_)
          · refine aw_iconst (v := nI 0) C dL_dies_116 rfl rfl ?_
            refine aw_pick (ls' := [(0, _), (1, _), (2, _), (3, _), (6, _), (7, _), (8, _), (9, _), (10, _), (12, _)]) [0, 1, 2, 3, 4, 5, 6, 7, 8, 10] rfl ?_
            have k9 := K117_2
            rw [show (n_dies_117_s0 L x0 k) = 0 from by rw [n_dies_117_s0, if_pos c91, if_neg c106]] at k9
            exact k9
          · refine aw_iconst (v := nI 1) C dL_dies_109 rfl rfl ?_
            refine aw_iload C dL_dies_110 rfl rfl ?_
            refine an_shl C (by omega) (pow_k hk6) dL_dies_112 rfl ?_
            refine aw_goto (tgt := 117) C dL_dies_113 (by decide) ?_
            refine aw_pick (ls' := [(0, _), (1, _), (2, _), (3, _), (6, _), (7, _), (8, _), (9, _), (10, _), (12, _)]) [0, 1, 2, 3, 4, 5, 6, 7, 8, 10] rfl ?_
            have k9 := K117_2
            rw [show (n_dies_117_s0 L x0 k) = 1 * 2 ^ k from by rw [n_dies_117_s0, if_pos c91, if_pos c106]] at k9
            exact k9
      refine an_if_ne (a := (L.1 0 (16 + k))) (tgt := 78) C dL_dies_53 (by have := hB 0 (16 + k); omega) (by decide) rfl (fun c53 => ?_) (fun c53 => ?_)
      · refine aw_iconst (v := nI 0) C dL_dies_78 rfl rfl ?_
        refine aw_pick (ls' := [(0, _), (1, _), (2, _), (3, _), (6, _), (7, _), (8, _), (9, _), (11, _), (12, _)]) [0, 1, 2, 3, 4, 5, 6, 7, 9, 10] rfl ?_
        have k9 := K79_1
        rw [show (n_dies_79_s0 L x0 k) = 0 from by rw [n_dies_79_s0, if_neg c53]] at k9
        exact k9
      · refine aw_aload_n C dL_dies_56 rfl rfl rfl ?_
        refine aw_bipush (v := nI 24) C dL_dies_57 rfl rfl ?_
        refine aw_iload C dL_dies_59 rfl rfl ?_
        refine an_add C dL_dies_61 rfl ?_
        refine an_iald (k := 0) (i := 24 + k) (N := 40) (v := (L.1 0 (24 + k))) C hM rfl rfl (by omega) rfl dL_dies_62 rfl ?_
        refine aw_iload_n C dL_dies_63 rfl rfl rfl ?_
        refine an_shr C (by omega) (by have := hB 0 (24 + k); omega) dL_dies_64 rfl ?_
        refine aw_iconst (v := nI 1) C dL_dies_65 rfl rfl ?_
        refine an_and1 C dL_dies_66 rfl ?_
        refine aw_iconst (v := nI 1) C dL_dies_67 rfl rfl ?_
        refine an_icmp_ne (a := ((L.1 0 (24 + k)) / 2 ^ x0) % 2) (b := 1) (tgt := 78) C dL_dies_68 (by have := hB 0 (24 + k); omega) (by decide) (by decide) rfl (fun c68 => ?_) (fun c68 => ?_)
        · refine aw_iconst (v := nI 0) C dL_dies_78 rfl rfl ?_
          refine aw_pick (ls' := [(0, _), (1, _), (2, _), (3, _), (6, _), (7, _), (8, _), (9, _), (11, _), (12, _)]) [0, 1, 2, 3, 4, 5, 6, 7, 9, 10] rfl ?_
          have k9 := K79_1
          rw [show (n_dies_79_s0 L x0 k) = 0 from by rw [n_dies_79_s0, if_pos c53, if_neg c68]] at k9
          exact k9
        · refine aw_iconst (v := nI 1) C dL_dies_71 rfl rfl ?_
          refine aw_iload C dL_dies_72 rfl rfl ?_
          refine an_shl C (by omega) (pow_k hk6) dL_dies_74 rfl ?_
          refine aw_goto (tgt := 79) C dL_dies_75 (by decide) ?_
          refine aw_pick (ls' := [(0, _), (1, _), (2, _), (3, _), (6, _), (7, _), (8, _), (9, _), (11, _), (12, _)]) [0, 1, 2, 3, 4, 5, 6, 7, 9, 10] rfl ?_
          have k9 := K79_1
          rw [show (n_dies_79_s0 L x0 k) = 1 * 2 ^ k from by rw [n_dies_79_s0, if_pos c53, if_pos c68]] at k9
          exact k9
  refine aw_iload_n C dL_dies_14 rfl rfl rfl ?_
  refine aw_aload_n C dL_dies_15 rfl rfl rfl ?_
  refine aw_aload_n C dL_dies_16 rfl rfl rfl ?_
  refine aw_aload C dL_dies_17 rfl rfl ?_
  refine aw_aload C dL_dies_19 rfl rfl ?_
  refine aw_aload C dL_dies_21 rfl rfl ?_
  refine cw_callSp C k_L_93 (N_will hl hst hM hB (x0 := x0) (by omega) hn1) ⟨by decide, by decide⟩ rfl rfl (Nat.le_of_ble_eq_true rfl) (Nat.le_of_ble_eq_true rfl) (Nat.le_of_ble_eq_true rfl) dL_dies_23 rfl ?_
  refine aw_istore (ls' := [(9, _), (0, _), (1, _), (2, _), (3, _), (4, _), (5, _), (6, _), (7, _), (8, _)]) C dL_dies_26 (by decide) rfl rfl ?_
  refine aw_iconst (v := nI 0) C dL_dies_28 rfl rfl ?_
  refine aw_istore (ls' := [(10, _), (9, _), (0, _), (1, _), (2, _), (3, _), (4, _), (5, _), (6, _), (7, _), (8, _)]) C dL_dies_29 (by decide) rfl rfl ?_
  refine aw_iconst (v := nI 0) C dL_dies_31 rfl rfl ?_
  refine aw_istore (ls' := [(11, _), (10, _), (9, _), (0, _), (1, _), (2, _), (3, _), (4, _), (5, _), (6, _), (7, _), (8, _)]) C dL_dies_32 (by decide) rfl rfl ?_
  refine aw_iconst (v := nI 0) C dL_dies_34 rfl rfl ?_
  refine aw_istore (ls' := [(12, _), (11, _), (10, _), (9, _), (0, _), (1, _), (2, _), (3, _), (4, _), (5, _), (6, _), (7, _), (8, _)]) C dL_dies_35 (by decide) rfl rfl ?_
  refine aw_pick (ls' := [(0, _), (1, _), (2, _), (3, _), (6, _), (7, _), (8, _), (9, _), (10, _), (11, _), (12, _)]) [4, 5, 6, 7, 10, 11, 12, 3, 2, 1, 0] rfl ?_
  exact loopA 6 0 rfl
