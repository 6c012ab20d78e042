/-! a death: thing by thing -/
section DIR
variable {L : ZU} {u : MU} {N : Nat}
/-- what stands behind the first t things -/
def DP (L : ZU) (u : MU) (t : Nat) (v : MU) (M : ZU) : Prop := v.1 = u.1 ∧ v.2.2 = u.2.2 ∧ v.2.1 33 = u.2.1 33 ∧ v.2.1 34 = u.2.1 34 ∧ M.1 = L.1 ∧ (∀ i, 7 * t ≤ i → M.2 i = L.2 i) ∧ (∀ j, 13 * t ≤ j → j < 104 → v.2.1 41 j = u.2.1 33 j ∧ v.2.1 42 j = u.2.1 34 j) ∧ ∀ s, s < t → ∀ k, k < 7 → M.2 (7 * s + k) * vN (v.2.1 42 (13 * s + kk k)) = PARTS * vN (v.2.1 41 (13 * s + kk k))
theorem DP.z : DP L u 0 (lay u) L := ⟨rfl, rfl, by funext j; simp [lay, layP], by funext j; simp [lay, layP], rfl, fun _ _ => rfl, fun j _ hj => ⟨lay_41 hj, lay_42 hj⟩, fun s hs => absurd hs (Nat.not_lt_zero s)⟩
theorem DP.skip (h : ZR L u) {t : Nat} (ht : t < 2) {v : MU} {M : ZU} (hP : DP L u t v M) : DP L u (t + 1) v M := by
  obtain ⟨p1, p2, p3, p4, p5, p6, p7, p8⟩ := hP
  refine ⟨p1, p2, p3, p4, p5, fun i hi => p6 i (by omega), fun j hj => p7 j (by omega), fun s hs k hk => ?_⟩
  by_cases z : s = t
  · subst z
    have k13 := kk_13 hk
    obtain ⟨q1, q2⟩ := p7 (13 * s + kk k) (by omega) (by omega)
    rw [q1, q2, p6 _ (by omega)]
    exact h.s ht hk
  · exact p8 s (by omega) k hk
theorem n_dF_i {W : Nat → Nat} {F : ZU} {t : Nat} {b : Bool} (m : Nat) : n_dF W F t b m = true ↔ b = true ∧ ∀ k, k < m → (F.2 (7 * t + k) = W (7 * t + k) ∨ n_below (F.2 (7 * t + k)) ≤ 1000000) := by
  induction m with
  | zero => exact ⟨fun q => ⟨q, fun k hk => absurd hk (Nat.not_lt_zero k)⟩, fun q => q.1⟩
  | succ m ih =>
    have e : n_dF W F t b (m + 1) = true ↔ n_dF W F t b m = true ∧ (F.2 (7 * t + m) = W (7 * t + m) ∨ n_below (F.2 (7 * t + m)) ≤ 1000000) := by
      rw [n_dF, n_dies_489_s0]
      by_cases c1 : n_dF W F t b m = true
      · rw [if_pos c1]
        by_cases c2 : F.2 (7 * t + m) = W (7 * t + m)
        · rw [if_pos c2]
          exact ⟨fun _ => ⟨c1, Or.inl c2⟩, fun _ => rfl⟩
        · rw [if_neg c2]
          by_cases c3 : 1000000 < n_below (F.2 (7 * t + m))
          · rw [if_pos c3]
            refine ⟨fun q => (Bool.false_ne_true q).elim, fun q => ?_⟩
            rcases q.2 with y | y
            · exact absurd y c2
            · omega
          · rw [if_neg c3]
            exact ⟨fun _ => ⟨c1, Or.inr (by omega)⟩, fun _ => rfl⟩
      · rw [if_neg c1]
        exact ⟨fun q => (Bool.false_ne_true q).elim, fun q => absurd q.1 c1⟩
    rw [e, ih]
    constructor
    · rintro ⟨⟨q1, q2⟩, q3⟩
      refine ⟨q1, fun k hk => ?_⟩
      by_cases z : k = m
      · rw [z]; exact q3
      · exact q2 k (by omega)
    · rintro ⟨q1, q2⟩
      exact ⟨⟨q1, fun k hk => q2 k (by omega)⟩, q2 m (Nat.lt_succ_self m)⟩
theorem kk_of {j : Nat} (h : j < 6 ∨ j = 12) : ∃ k, k < 7 ∧ j = kk k := by
  rcases h with q | q
  · exact ⟨j, by omega, (kk_6 q).symm⟩
  · exact ⟨6, by decide, q⟩
/-- a part, in the law's numbers -/
theorem die_part (hZ : CZ N u) (h : ZR L u) (hK : ZKu u) {x0 : Nat} (hx : x0 < 6) {so al cc all : Nat} (x3 : (all - so * lvBy (lvMany u x0) * cc) / lvBy (lvMany u x0) = (al - so) * cc) (x4 : all - so * lvBy (lvMany u x0) * cc = (al - so) * lvBy (lvMany u x0) * cc) (hc : ¬ n_dc L x0 = 0 → n_dc L x0 - 1 < L.1 10 1 ∧ L.1 1 (n_dc L x0 - 1) / 64 % 8 ≠ x0 ∧ L.1 1 (n_dc L x0 - 1) / 64 % 8 < 6) (hw : willN u x0 (u.2.2.1 10) = nI (n_dc L x0) - 1) (k : Nat) (hk : k < 7) : lvPart u x0 (willN u x0 (u.2.2.1 10)) so al (lvCh u x0) (lvMany u x0) (kk k) * cc = (if ¬ n_dc L x0 = 0 ∧ k = L.1 1 (n_dc L x0 - 1) / 64 % 8 then so * lvBy (lvMany u x0) * cc else 0) + (if k = 6 then n_dies_420_s0 (lvMany u x0) all (so * lvBy (lvMany u x0) * cc) else n_dies_386_s0 (n_dies_138_s0 L x0) (lvMany u x0) all (so * lvBy (lvMany u x0) * cc) k) := by
  obtain ⟨-, -, k3, k4⟩ := r_heirs hZ h hK hx
  have hnd := h.nd
  have kl := kk_13 hk
  obtain ⟨c, ec⟩ : ∃ c, c = n_dc L x0 := ⟨_, rfl⟩
  rw [← ec] at hc hw ⊢
  have hc24 : c ≤ 24 := by rw [ec]; exact Nat.le_trans (n_willN_le _) hnd.2
  have a1 : (¬ willN u x0 (u.2.2.1 10) = -1 ∧ nI (kk k) = u.1 13 (willN u x0 (u.2.2.1 10)).toNatClampNeg) ↔ ¬ c = 0 ∧ k = L.1 1 (c - 1) / 64 % 8 := by
    rw [hw, nIm (by omega)]
    by_cases z : c = 0
    · exact ⟨fun q => absurd z q.1, fun q => absurd z q.1⟩
    · obtain ⟨j1, j2, j3⟩ := hc z
      rw [nI_sub1 z, nI_clamp (by omega), (h.d j1).tk.2, nIe (by omega) (by omega)]
      have : kk k = L.1 1 (c - 1) / 64 % 8 ↔ k = L.1 1 (c - 1) / 64 % 8 := by
        unfold kk
        split <;> omega
      rw [this]
  have a2 : (if lvGets u x0 (lvCh u x0) (lvMany u x0) (kk k) = true then al - so else 0) * cc = if k = 6 then n_dies_420_s0 (lvMany u x0) all (so * lvBy (lvMany u x0) * cc) else n_dies_386_s0 (n_dies_138_s0 L x0) (lvMany u x0) all (so * lvBy (lvMany u x0) * cc) k := by
    by_cases z : k = 6
    · subst z
      rw [show kk 6 = 12 from rfl, gets_12, if_pos rfl, n_dies_420_s0, x4]
      by_cases m0 : lvMany u x0 = 0
      · rw [if_pos (decide_eq_true m0), if_pos m0, m0]
        show (al - so) * cc = (al - so) * 1 * cc
        rw [Nat.mul_one]
      · rw [if_neg (fun q => m0 (of_decide_eq_true q)), if_neg m0, Nat.zero_mul]
    · have hk6 : k < 6 := by omega
      have e := k4 k hk6
      rw [kk_6 hk6, if_neg z, gets_lt (by omega), n_dies_386_s0, h.np]
      by_cases y : n_dies_138_s0 L x0 / 2 ^ k % 2 = 1
      · obtain ⟨y1, y2⟩ := e.mp y
        have hmp : 0 < lvMany u x0 := by
          have := n_dM_pos y hk6
          rw [(r_heirs hZ h hK hx).2.1]
          exact this
        have hby : lvBy (lvMany u x0) = lvMany u x0 := if_neg (by omega)
        rw [if_pos y, decide_eq_true hk6, decide_eq_false y1, decide_eq_true hmp, y2]
        show (al - so) * cc = _
        rw [← x3, hby]
      · rw [if_neg y]
        have g : ¬ (decide (k < 6) && (!decide (k = x0) && (decide (0 < lvMany u x0) && isHr u k x0 (lvCh u x0)))) = true := by
          rw [Bool.and_eq_true, Bool.and_eq_true, Bool.and_eq_true, Bool.not_eq_true', decide_eq_false_iff_not]
          rintro ⟨-, g1, -, g2⟩
          exact y (e.mpr ⟨g1, g2⟩)
        rw [if_neg g, Nat.zero_mul]
  rw [lvPart, Nat.add_mul, a2]
  congr 1
  by_cases z : ¬ c = 0 ∧ k = L.1 1 (c - 1) / 64 % 8
  · rw [if_pos (a1.mpr z), if_pos z]
  · rw [if_neg (fun q => z (a1.mp q)), if_neg z, Nat.zero_mul]
/-- the dead one's part of a thing goes on -/
theorem die_step (hZ : CZ N u) (h : ZR L u) (hK : ZKu u) {x0 : Nat} (hx : x0 < 6) {t : Nat} (ht : t < 2) (h0 : 0 < L.2 (7 * t + x0)) {v : MU} {M : ZU} (hP : DP L u t v M) (b : Bool) : DP L u (t + 1) (leaves v x0 t).2 (n_dM4 x0 (n_dc L x0) (n_dCh L x0 6) (n_dies_138_s0 L x0) (n_dM (n_dies_138_s0 L x0) 6) t M) ∧ ((leaves v x0 t).1 && b) = n_dF (n_dW L) (n_dM4 x0 (n_dc L x0) (n_dCh L x0 6) (n_dies_138_s0 L x0) (n_dM (n_dies_138_s0 L x0) 6) t M) t b 7 := by
  obtain ⟨p1, p2, p3, p4, p5, p6, p7, p8⟩ := hP
  obtain ⟨hFx, hAB, hB6, -, -⟩ := h.ff hZ ht (k := x0) (by omega)
  rw [kk_6 hx] at hFx hAB hB6
  obtain ⟨A, hA⟩ : ∃ A, A = vN (u.2.1 33 (13 * t + x0)) := ⟨_, rfl⟩
  obtain ⟨B, hB⟩ : ∃ B, B = vN (u.2.1 34 (13 * t + x0)) := ⟨_, rfl⟩
  rw [← hA] at hFx hAB
  rw [← hB] at hFx hAB hB6
  obtain ⟨q, hq⟩ := hFx.x144 hB6
  obtain ⟨so, al, cc, hcap, al1, al4, sol, by1, by4, hall, x3, x4, so0, hcn, hw, h291⟩ := die_c hZ h hK hx hq h0
  have hM0 : M.2 (7 * t + x0) = L.2 (7 * t + x0) := p6 _ (by omega)
  have hm := (r_heirs hZ h hK hx).2.1
  rw [← hm]
  have hcc : 0 < cc := by
    rcases Nat.eq_zero_or_pos cc with z | z
    · rw [z, Nat.mul_zero] at hall; omega
    · exact z
  -- the law's rows behind it
  have dpart := die_part hZ h hK hx (all := L.2 (7 * t + x0)) x3 x4 hcn hw
  obtain ⟨F, hF⟩ : ∃ F, F = n_dM4 x0 (n_dc L x0) (n_dCh L x0 6) (n_dies_138_s0 L x0) (lvMany u x0) t M := ⟨_, rfl⟩
  have hFv : ∀ k, k < 7 → F.2 (7 * t + k) = (if k = x0 then 0 else L.2 (7 * t + k)) + lvPart u x0 (willN u x0 (u.2.2.1 10)) so al (lvCh u x0) (lvMany u x0) (kk k) * cc := fun k hk => by
    rw [hF, n_dM4_v (fun z => by rw [p5]; exact (hcn z).2.1) k hk, dpart k hk, h291 M t p5 hM0, hM0, p5, p6 _ (by omega)]
  have hFo : ∀ i, i < 7 * t ∨ 7 * t + 7 ≤ i → F.2 i = M.2 i := fun i hi => by
    rw [hF]
    exact n_dM4_o hx (fun z => by rw [p5]; exact (hcn z).2.2) i hi
  have hF1 : F.1 = L.1 := by rw [hF, n_dM4_1, p5]
  rw [← hF]
  -- the class's scratch rows
  obtain ⟨w, hwe⟩ : ∃ w, w = willN u x0 (u.2.2.1 10) := ⟨_, rfl⟩
  rw [← hwe] at hw hcap hFv
  have pm : ∀ j, 6 ≤ j → j < 12 → lvPart u x0 w so al (lvCh u x0) (lvMany u x0) j = 0 := fun j j1 j2 => by
    have g1 : ¬ (¬ w = -1 ∧ nI j = u.1 13 w.toNatClampNeg) := by
      rintro ⟨y1, y2⟩
      have hnd := h.nd
      have hc24 : n_dc L x0 ≤ 24 := Nat.le_trans (n_willN_le _) hnd.2
      have z : ¬ n_dc L x0 = 0 := fun z => y1 (by rw [hw]; exact (nIm (by omega)).mpr z)
      obtain ⟨j3, -, j5⟩ := hcn z
      rw [hw, nI_sub1 z, nI_clamp (by omega), (h.d j3).tk.2, nIe (by omega) (by omega)] at y2
      omega
    have g2 : ¬ lvGets u x0 (lvCh u x0) (lvMany u x0) j = true := by
      rw [gets_lt (by omega), h.np, decide_eq_false (show ¬ j < 6 by omega), Bool.false_and]
      decide
    rw [lvPart, if_neg g1, if_neg g2]
  have px : lvPart u x0 w so al (lvCh u x0) (lvMany u x0) x0 = 0 := by
    have g1 : ¬ (¬ w = -1 ∧ nI x0 = u.1 13 w.toNatClampNeg) := by
      rintro ⟨y1, y2⟩
      have hnd := h.nd
      have hc24 : n_dc L x0 ≤ 24 := Nat.le_trans (n_willN_le _) hnd.2
      have z : ¬ n_dc L x0 = 0 := fun z => y1 (by rw [hw]; exact (nIm (by omega)).mpr z)
      obtain ⟨j3, j4, j5⟩ := hcn z
      rw [hw, nI_sub1 z, nI_clamp (by omega), (h.d j3).tk.2, nIe (by omega) (by omega)] at y2
      exact j4 y2.symm
    have g2 : ¬ lvGets u x0 (lvCh u x0) (lvMany u x0) x0 = true := by
      rw [gets_lt (by omega), decide_eq_true (show x0 = x0 from rfl)]
      simp
    rw [lvPart, if_neg g1, if_neg g2]
  have ep : lvPart v x0 w so al (lvCh u x0) (lvMany u x0) = lvPart u x0 w so al (lvCh u x0) (lvMany u x0) := funext fun k => by
    unfold lvPart lvGets
    rw [p1, p2, isHr_I p1]
  have hX : leavesX v x0 t = lvN v x0 t w A B so al (lvCh u x0) (lvMany u x0) 13 := by
    have ew : willN v x0 (v.2.2.1 10) = w := by rw [willN_I p1, p2, hwe]
    have ech : lvCh v x0 = lvCh u x0 := by rw [lvCh, lvCh, heirN_I p1, p2]
    have em : lvMany v x0 = lvMany u x0 := by rw [lvMany, lvMany, heirN_I p1, p2, ech]
    have es : lvS0 v w = lvS0 u w := by rw [lvS0, lvS0, p1]
    have ea : lvA0 v w = lvA0 u w := by rw [lvA0, lvA0, p1]
    obtain ⟨q1, q2⟩ := p7 (13 * t + x0) (by omega) (by omega)
    rw [leavesX, ew, ech, em, es, ea, ← hcap, q1, q2, ← hA, ← hB]
  have hS : ∀ j, j < 13 → 0 < lvPart v x0 w so al (lvCh u x0) (lvMany u x0) j → FF (L.2 (7 * t + (if j = 12 then 6 else j))) (vN (v.2.1 41 (13 * t + j))) (vN (v.2.1 42 (13 * t + j))) ∧ vN (v.2.1 41 (13 * t + j)) ≤ 1000000 ∧ vN (v.2.1 42 (13 * t + j)) ≤ 1000000 := fun j hj hp => by
    rw [ep] at hp
    obtain ⟨k, hk, rfl⟩ := kk_of (j := j) (by
      by_cases z : 6 ≤ j ∧ j < 12
      · rw [pm j z.1 z.2] at hp; omega
      · omega)
    have ek : (if kk k = 12 then 6 else kk k) = k := by unfold kk; (repeat' split) <;> omega
    obtain ⟨f1, f2, f3, -⟩ := h.ff hZ ht hk
    obtain ⟨q1, q2⟩ := p7 (13 * t + kk k) (by omega) (by omega)
    rw [ek, q1, q2]
    exact ⟨f1, Nat.le_trans f2 f3, f3⟩
  have hcm : ∀ x, x * cc * (B * al * lvBy (lvMany u x0)) = PARTS * (A * x) := fun x => by
    have e := hFx.1
    rw [hall] at e
    rw [← Nat.mul_assoc PARTS A x, ← e]
    ac_rfl
  obtain ⟨r1, r2, r3⟩ := lvN_F (u := v) (p := x0) (t := t) (w := w) (A := A) (B := B) (so := so) (al := al) (ch := lvCh u x0) (many := lvMany u x0) (cc := cc) (S := fun j => L.2 (7 * t + (if j = 12 then 6 else j))) hFx.2.1 al1 al4 by1 by4 (Nat.le_trans hAB hB6) hB6 sol hS hcm 13 (Nat.le_refl _)
  rw [ep] at r1 r2 r3
  have ek : ∀ k, k < 7 → (if kk k = 12 then 6 else kk k) = k := fun k hk => by unfold kk; (repeat' split) <;> omega
  refine ⟨⟨leaves_I.trans p1, leaves_N.trans p2, (leaves_k (by decide) (by decide)).trans p3, (leaves_k (by decide) (by decide)).trans p4, hF1, fun i hi => ?_, fun j j1 j2 => ?_, fun s hs k hk => ?_⟩, ?_⟩
  · rw [hFo i (by omega)]
    exact p6 i (by omega)
  · have e : ∀ i, i < 13 → j ≠ 13 * t + i := fun i hi => by omega
    rw [leaves_n (by omega) e, leaves_n (by omega) e]
    exact p7 j (by omega) j2
  · have k13 := kk_13 hk
    by_cases z : s = t
    · subst z
      by_cases y : k = x0
      · subst y
        rw [hFv k hk, if_pos rfl, kk_6 hx, px, Nat.zero_mul]
        have l41 : (leaves v k s).2.2.1 41 (13 * s + k) = 0 := by simp [leaves, uJ, vp_updL]
        rw [l41, show vN 0 = 0 from by decide, Nat.mul_zero, Nat.zero_add, Nat.zero_mul]
      · have hne : 13 * s + kk k ≠ 13 * s + x0 := by
          unfold kk
          split <;> omega
        have l : ∀ a, (leaves v x0 s).2.2.1 a (13 * s + kk k) = (lvN v x0 s w A B so al (lvCh u x0) (lvMany u x0) 13).2.2.1 a (13 * s + kk k) := fun a => by
          show (uJ (uJ (leavesX v x0 s).2 41 _ _) 42 _ _).2.1 a _ = _
          rw [uJ_n hne, uJ_n hne, hX]
        rw [l, l, hFv k hk, if_neg y]
        by_cases c : 0 < lvPart u x0 w so al (lvCh u x0) (lvMany u x0) (kk k)
        · have f := (r1 (kk k) k13 c).1
          have f : (L.2 (7 * s + (if kk k = 12 then 6 else kk k)) + lvPart u x0 w so al (lvCh u x0) (lvMany u x0) (kk k) * cc) * vN ((lvN v x0 s w A B so al (lvCh u x0) (lvMany u x0) 13).2.2.1 42 (13 * s + kk k)) = PARTS * vN ((lvN v x0 s w A B so al (lvCh u x0) (lvMany u x0) 13).2.2.1 41 (13 * s + kk k)) := f
          rw [ek k hk] at f
          exact f
        · obtain ⟨q1, q2⟩ := p7 (13 * s + kk k) (by omega) (by omega)
          rw [r2 (kk k) 41 (fun q => c q.2), r2 (kk k) 42 (fun q => c q.2), show lvPart u x0 w so al (lvCh u x0) (lvMany u x0) (kk k) = 0 by omega, Nat.zero_mul, Nat.add_zero, q1, q2]
          exact h.s ht hk
    · have e : ∀ i, i < 13 → 13 * s + kk k ≠ 13 * t + i := fun i hi => by omega
      rw [leaves_n (by omega) e, leaves_n (by omega) e, hFo _ (by omega)]
      exact p8 s (by omega) k hk
  · have hl : (leaves v x0 t).1 = (lvN v x0 t w A B so al (lvCh u x0) (lvMany u x0) 13).1 := by
      show (leavesX v x0 t).1 = _
      rw [hX]
    rw [Bool.eq_iff_iff, Bool.and_eq_true, hl, r3, n_dF_i]
    constructor
    · rintro ⟨q1, q2⟩
      refine ⟨q2, fun k hk => ?_⟩
      have k13 := kk_13 hk
      have eW : n_dW L (7 * t + k) = L.2 (7 * t + k) := if_pos (by omega)
      rw [hFv k hk, eW]
      by_cases y : k = x0
      · subst y
        rw [if_pos rfl, kk_6 hx, px, Nat.zero_mul]
        exact Or.inr (by decide)
      · rw [if_neg y]
        by_cases c : 0 < lvPart u x0 w so al (lvCh u x0) (lvMany u x0) (kk k)
        · have := q1 (kk k) k13 c
          have f : n_below (L.2 (7 * t + (if kk k = 12 then 6 else kk k)) + lvPart u x0 w so al (lvCh u x0) (lvMany u x0) (kk k) * cc) ≤ 1000000 := this
          rw [ek k hk] at f
          exact Or.inr f
        · rw [show lvPart u x0 w so al (lvCh u x0) (lvMany u x0) (kk k) = 0 by omega, Nat.zero_mul, Nat.add_zero]
          exact Or.inl rfl
    · rintro ⟨q1, q2⟩
      refine ⟨fun j hj hp => ?_, q1⟩
      obtain ⟨k, hk, rfl⟩ := kk_of (j := j) (by
        by_cases z : 6 ≤ j ∧ j < 12
        · rw [pm j z.1 z.2] at hp; omega
        · omega)
      have y : ¬ k = x0 := fun y => by
        rw [y, kk_6 hx, px] at hp
        omega
      have g := q2 k hk
      have eW : n_dW L (7 * t + k) = L.2 (7 * t + k) := if_pos (by omega)
      rw [hFv k hk, if_neg y, eW] at g
      show n_below (L.2 (7 * t + (if kk k = 12 then 6 else kk k)) + lvPart u x0 w so al (lvCh u x0) (lvMany u x0) (kk k) * cc) ≤ 1000000
      rw [ek k hk]
      rcases g with g | g
      · rw [g]
        obtain ⟨f1, f2, f3, -⟩ := h.ff hZ ht hk
        rw [f1.below]
        exact f3
      · exact g
end DIR
