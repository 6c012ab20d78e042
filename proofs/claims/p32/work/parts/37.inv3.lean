theorem loseN_k {u : MU} {d m a : Nat} (h : a ≠ 28) : (loseN u d m).1 a = u.1 a := by
  induction m with
  | zero => rfl
  | succ m ih => rw [loseN, uI_k h]; exact ih
theorem loseN_28 {u : MU} {d m i : Nat} : (loseN u d m).1 28 i = if 4 * d ≤ i ∧ i < 4 * d + m then u.1 28 (i + 1) else u.1 28 i := by
  induction m generalizing i with
  | zero => rw [if_neg (by omega)]; rfl
  | succ m ih =>
    rw [loseN, uI_I, if_pos rfl]
    by_cases e : i = 4 * d + m
    · rw [if_pos e, ih, if_neg (by omega), if_pos (by omega), e]
      rfl
    · rw [if_neg e, ih]
      by_cases q : 4 * d ≤ i ∧ i < 4 * d + m
      · rw [if_pos q, if_pos (by omega)]
      · rw [if_neg q, if_neg (by omega)]
theorem nI_sub1 {m : Nat} (h : m ≠ 0) : nI m - 1 = nI (m - 1) := by
  obtain ⟨k, rfl⟩ : ∃ k, m = k + 1 := ⟨m - 1, by omega⟩
  exact nI_pred k
theorem Inv.lose {N : Nat} {u : MU} (h : Inv N u) {v : Int32} : Inv (N + 1) (opLose u v).2.2 := by
  unfold opLose
  split
  · exact h.next
  · next h1 =>
    split
    · exact h.next
    · next h2 =>
      obtain ⟨d, hd, rfl⟩ := isDd_of h.W (nf_ h1)
      have h60 := h.W.2.1
      have hdc := clampI (n := d) (by omega)
      rw [hdc] at h2 ⊢
      obtain ⟨m, g, hm, em, g0, e0, hg⟩ := h.G d (by omega)
      have hm0 : m ≠ 0 := fun z => h2 (by rw [em, z]; rfl)
      have hmc := clampI (n := m) (by omega)
      show Inv (N + 1) (loseN (uI u 29 d (u.1 29 d - 1)) d ((u.1 29 d).toNatClampNeg - 1))
      rw [em, hmc, nI_sub1 hm0]
      refine h.papers (fun a a1 a2 => by rw [loseN_k a1, uI_k a2]) (by rw [loseN_N]; rfl) (fun e he => ?_)
      rw [loseN_k (by decide), uI_I, if_pos rfl]
      simp only [loseN_28, uI_k (show (28 : Nat) ≠ 29 by decide)]
      by_cases z : e = d
      · subst z
        refine ⟨m - 1, fun j => if j < m - 1 then g (j + 1) else g j, by omega, by rw [if_pos rfl], ?_, ?_, fun j hj => ?_⟩
        · show (if 0 < m - 1 then g (0 + 1) else g 0) ≤ N + 1
          split
          · have z : g (0 + 1) ≤ g 0 + 1 := (hg 1 (by omega)).2.1
            omega
          · omega
        · show (if 4 * e ≤ 4 * e ∧ 4 * e < 4 * e + (m - 1) then u.1 28 (4 * e + 1) else u.1 28 (4 * e)) = nI (if 0 < m - 1 then g (0 + 1) else g 0)
          by_cases y : 0 < m - 1
          · rw [if_pos (by omega), if_pos y]
            exact (hg 1 (by omega)).1
          · rw [if_neg (by omega), if_neg y]
            exact e0
        · show (if 4 * e ≤ 4 * e + j ∧ 4 * e + j < 4 * e + (m - 1) then u.1 28 (4 * e + j + 1) else u.1 28 (4 * e + j)) = nI (if j < m - 1 then g (j + 1) else g j) ∧ (if j < m - 1 then g (j + 1) else g j) ≤ (if 0 < m - 1 then g (0 + 1) else g 0) + 1 ∧ ∀ i, i < j → (if i < m - 1 then g (i + 1) else g i) ≤ (if j < m - 1 then g (j + 1) else g j)
          rw [if_pos (by omega), if_pos hj, if_pos (by omega)]
          obtain ⟨q1, q2, q3⟩ := hg (j + 1) (by omega)
          have h01 := (hg 1 (by omega)).2.2 0 (by decide)
          refine ⟨q1, ?_, fun i hi => ?_⟩
          · show g (j + 1) ≤ g 1 + 1
            omega
          · rw [if_pos (by omega)]
            exact q3 (i + 1) (by omega)
      · rw [if_neg z]
        obtain ⟨m2, g2, hm2, em2, g02, e02, hg2⟩ := h.G e he
        refine ⟨m2, g2, hm2, em2, by omega, ?_, fun j hj => ?_⟩
        · rw [if_neg (by omega)]
          exact e02
        · rw [if_neg (by omega)]
          exact hg2 j hj
theorem upRow_out {u : MU} {t p m a j : Nat} (h : ∀ k, k < m → j ≠ 13 * t + k) : (upRow u t p m).2.1 a j = u.2.1 a j := by
  induction m with
  | zero => rfl
  | succ m ih =>
    rw [upRow, uJ_n (h m (by omega)), uJ_n (h m (by omega))]
    exact ih (fun k hk => h k (by omega))
theorem upRow_in {u : MU} {t p m k : Nat} (h : k < m) : (upRow u t p m).2.1 33 (13 * t + k) = (if k = p then 1 else 0) ∧ (upRow u t p m).2.1 34 (13 * t + k) = 1 := by
  induction m with
  | zero => omega
  | succ m ih =>
    by_cases e : k = m
    · subst e
      rw [upRow]
      constructor
      · rw [uJ_k (by decide)]
        simp [uJ, vp_updL]
      · simp [uJ, vp_updL]
    · rw [upRow, uJ_n (by omega), uJ_n (by omega), uJ_n (by omega), uJ_n (by omega)]
      exact ih (by omega)
theorem Inv.thing {N : Nat} {u : MU} (h : Inv N u) {v w : Int32} : Inv N (opThing u v w).2.2 := by
  unfold opThing
  split
  · exact h
  · next h1 =>
    split
    · exact h
    · next h2 =>
      split
      · exact h
      · next h3 =>
        obtain ⟨q, hq1, hq2, rfl⟩ := inB_n (lo := 1) (hi := 1000000) (by decide) (by decide) (nf_ h2)
        have h8 := n8_of h.W (fun z => h3 (Or.inl z))
        obtain ⟨n, hn⟩ : ∃ n, n = u.2.2.1 31 := ⟨_, rfl⟩
        show Inv N (uN (upRow (uI u 32 (u.2.2.1 31) (nI q)) (u.2.2.1 31) v.toNatClampNeg 13) 31 (u.2.2.1 31 + 1))
        rw [← hn] at h8 ⊢
        obtain ⟨y, hy⟩ : ∃ y, y = upRow (uI u 32 n (nI q)) n v.toNatClampNeg 13 := ⟨_, rfl⟩
        rw [← hy]
        have yI : y.1 = (uI u 32 n (nI q)).1 := by rw [hy]; exact upRow_I
        have yN : y.2.2 = u.2.2 := by rw [hy, upRow_N]; rfl
        have f : ∀ a, a ≠ 32 → y.1 a = u.1 a := fun a ha => by rw [yI, uI_k ha]
        have nN : ∀ k, k ≠ 31 → (uN y 31 (n + 1)).2.2.1 k = u.2.2.1 k := fun k hk => by
          show (if k = 31 then n + 1 else y.2.2.1 k) = u.2.2.1 k
          rw [if_neg hk, yN]
        have n31 : (uN y 31 (n + 1)).2.2.1 31 = n + 1 := by
          show (if (31 : Nat) = 31 then n + 1 else y.2.2.1 31) = n + 1
          rw [if_pos rfl]
        refine ⟨?_, ?_, ?_, ?_, ?_, ?_, ?_, ?_, ?_, ?_, ?_, ?_⟩
        · have z := h.W
          unfold WN at *
          rw [n31, nN 2 (by decide), nN 10 (by decide), nN 30 (by decide), nN 35 (by decide)]
          exact ⟨z.1, z.2.1, z.2.2.1, by omega, z.2.2.2.2⟩
        · have z := h.P
          unfold WP at *
          rw [uN_I, f 8 (by decide)]
          exact z
        · have z := h.D
          unfold WD at *
          rw [uN_I, f 12 (by decide), f 13 (by decide)]
          exact z
        · have z := h.B
          unfold WB nm at *
          rw [uN_I, f 19 (by decide), f 22 (by decide), f 23 (by decide)]
          exact z
        · have z := h.C
          unfold WC nm at *
          rw [nN 10 (by decide), nN 30 (by decide), uN_I, f 19 (by decide), f 22 (by decide), f 23 (by decide)]
          exact z
        · have z := h.G
          unfold WH at *
          rw [uN_I, f 28 (by decide), f 29 (by decide)]
          exact z
        · intro t ht k hk
          rw [n31] at ht
          show ∃ a b, y.2.1 33 (13 * t + k) = lN a ∧ y.2.1 34 (13 * t + k) = lN b ∧ 0 < b ∧ b ≤ 1000000 ∧ a ≤ b
          by_cases e : t = n
          · rw [e, hy, (upRow_in hk).1, (upRow_in hk).2]
            by_cases z : k = v.toNatClampNeg
            · rw [if_pos z]
              exact ⟨1, 1, rfl, rfl, by decide, by decide, by decide⟩
            · rw [if_neg z]
              exact ⟨0, 1, rfl, rfl, by decide, by decide, by decide⟩
          · rw [hy, upRow_out (fun j hj => by omega), upRow_out (fun j hj => by omega)]
            exact h.S t (by omega) k hk
        · have z := h.K
          unfold WK isOfT at *
          rw [nN 10 (by decide), n31, uN_I, f 11 (by decide), f 12 (by decide), f 13 (by decide), f 14 (by decide), f 15 (by decide), f 16 (by decide)]
          intro d hd ho
          obtain ⟨z1, t, a, b, ht, z2⟩ := z d hd ho
          exact ⟨z1, t, a, b, by omega, z2⟩
        · intro t ht
          rw [n31] at ht
          show ∃ w, w ≤ 1000000 ∧ y.1 32 t = nI w
          rw [yI, uI_I, if_pos rfl]
          by_cases e : t = n
          · rw [if_pos e]
            exact ⟨q, hq2, rfl⟩
          · rw [if_neg e]
            exact h.V t (by omega)
        · have z := h.L
          unfold WL at *
          rw [nN 10 (by decide), uN_I, f 11 (by decide), f 12 (by decide), f 13 (by decide), f 15 (by decide), f 16 (by decide)]
          exact z
        · rw [uN_I, f 26 (by decide)]
          exact h.Z
        · rw [nN 30 (by decide), h.M]
          exact (cntC_fr (w := uN y 31 (n + 1)) (f 22 (by decide))).symm
