theorem HQ.v {u : MU} {a b i : Nat} {q : Rat} (h : HQ u a b i q) (h1 : q.num.toNat < 2 ^ 63) (h2 : q.den < 2 ^ 63) : vN (u.2.1 a i) = q.num.toNat ∧ vN (u.2.1 b i) = q.den := by
  rw [h.2.1, h.2.2, vN_lN h1, vN_lN h2]
  exact ⟨rfl, rfl⟩
theorem fPut_41 {u : MU} {i x m : Nat} {p : Bool} : (fPut u i x m p).2.1 41 i = lN (fUp (vN (u.2.1 41 i)) m x (vN (u.2.1 42 i)) p / Nat.gcd (fUp (vN (u.2.1 41 i)) m x (vN (u.2.1 42 i)) p) (vN (u.2.1 42 i) * m)) := by simp [fPut, uJ, vp_updL]
theorem fPut_42 {u : MU} {i x m : Nat} {p : Bool} : (fPut u i x m p).2.1 42 i = lN (vN (u.2.1 42 i) * m / Nat.gcd (fUp (vN (u.2.1 41 i)) m x (vN (u.2.1 42 i)) p) (vN (u.2.1 42 i) * m)) := by simp [fPut, uJ, vp_updL]
theorem HQ.dn {u : MU} {i x m : Nat} {q : Rat} (h : HQ u 41 42 i q) (h1 : q.num.toNat < 2 ^ 63) (h2 : q.den < 2 ^ 63) (hm : m ≠ 0) (hx : x * q.den ≤ q.num.toNat * m) (ok : fOk u i x m false = true) : HQ (fPut u i x m false) 41 42 i (q - mr x m) ∧ (q - mr x m).den ≤ 1000000 := by
  obtain ⟨e1, e2⟩ := h.v h1 h2
  obtain ⟨d1, d2, d3⟩ := fp_dn h.1 hm hx
  rw [fOk, e1, e2, decide_eq_true_eq] at ok
  refine ⟨⟨d3, ?_, ?_⟩, ?_⟩
  · rw [fPut_41, e1, e2, d1]
    rfl
  · rw [fPut_42, e1, e2, d2]
    rfl
  · rw [d2]
    exact ok
theorem HQ.up {u : MU} {i x m : Nat} {q : Rat} (h : HQ u 41 42 i q) (h1 : q.num.toNat < 2 ^ 63) (h2 : q.den < 2 ^ 63) (hm : m ≠ 0) (ok : fOk u i x m true = true) : HQ (fPut u i x m true) 41 42 i (q + mr x m) ∧ (q + mr x m).den ≤ 1000000 := by
  obtain ⟨e1, e2⟩ := h.v h1 h2
  obtain ⟨d1, d2⟩ := fp_up (x := x) h.1 hm
  rw [fOk, e1, e2, decide_eq_true_eq] at ok
  refine ⟨⟨Rat.add_nonneg h.1 (mr_nn hm), ?_, ?_⟩, ?_⟩
  · rw [fPut_41, e1, e2, d1]
    rfl
  · rw [fPut_42, e1, e2, d2]
    rfl
  · rw [d2]
    exact ok
theorem HQ.out {u : MU} {i j x m a b : Nat} {p : Bool} {q : Rat} (h : HQ u a b j q) (hj : j ≠ i) : HQ (fPut u i x m p) a b j q := by
  unfold HQ
  rw [fPut_n hj, fPut_n hj]
  exact h
theorem lay_k {u : MU} {k : Nat} (h1 : k ≠ 41) (h2 : k ≠ 42) : (lay u).2.1 k = u.2.1 k := by
  funext j
  simp [lay, layP, h1, h2]
theorem lay_HQ {u : MU} {i : Nat} {q : Rat} (hi : i < 104) (h : HQ u 33 34 i q) : HQ (lay u) 41 42 i q := by
  unfold HQ
  rw [lay_41 hi, lay_42 hi]
  exact h
theorem tak_HQ {u : MU} {i : Nat} {q : Rat} (hi : i < 104) (h : HQ u 41 42 i q) : HQ (tak u) 33 34 i q := by
  have e1 : (tak u).2.1 33 i = u.2.1 41 i := by simp [tak, takP, hi]
  have e2 : (tak u).2.1 34 i = u.2.1 42 i := by simp [tak, takP, hi]
  unfold HQ
  rw [e1, e2]
  exact h
theorem ent_k {u : MU} {d k : Nat} (h1 : k ≠ 41) (h2 : k ≠ 42) : (ent u d).2.2.1 k = u.2.1 k := by
  unfold ent entX
  split
  · rfl
  · split
    · rfl
    · split
      · exact lay_k h1 h2
      · show (fPut (fPut (lay u) _ _ _ _) _ _ _ _).2.1 k = u.2.1 k
        rw [fPut_k h1 h2, fPut_k h1 h2]
        exact lay_k h1 h2
theorem entX_t {u : MU} {d t x y a b : Nat} (hr : ready u d = true) (he : (entX u d t x y a b).1 = true) : (entX u d t x y a b).2 = lay u ∨
    (x * vN (u.2.1 34 (13 * t + a)) ≤ vN (u.2.1 33 (13 * t + a)) * y ∧ fOk (lay u) (13 * t + a) x y false = true ∧ fOk (fPut (lay u) (13 * t + a) x y false) (13 * t + b) x y true = true ∧ (entX u d t x y a b).2 = fPut (fPut (lay u) (13 * t + a) x y false) (13 * t + b) x y true) := by
  unfold entX at he ⊢
  rw [if_neg (by rw [hr]; decide)] at he ⊢
  by_cases hl : vN (u.2.1 33 (13 * t + a)) * y < x * vN (u.2.1 34 (13 * t + a))
  · rw [if_pos hl] at he
    cases he
  · rw [if_neg hl] at he ⊢
    by_cases h2 : u.1 11 d = 2
    · rw [if_pos h2]
      exact Or.inl rfl
    · rw [if_neg h2] at he ⊢
      have he' : (fOk (lay u) (13 * t + a) x y false && fOk (fPut (lay u) (13 * t + a) x y false) (13 * t + b) x y true) = true := he
      rw [Bool.and_eq_true] at he'
      exact Or.inr ⟨by omega, he'.1, he'.2, rfl⟩
theorem WQ.entS {N : Nat} {u : MU} (h : Inv N u) (hQ : WQ u) {d : Nat} (hd : d < u.2.2.1 10) (he : (ent u d).1 = true) : WQ (tak (ent u d).2) := by
  have hr := ent_r he
  obtain ⟨hof, -, -⟩ := ready_of hr
  have h60 := h.W.2.1
  have hN8 := h.W.2.2.2.1
  obtain ⟨⟨a, ha, ea⟩, b, hb, eb⟩ := h.D d (by omega)
  obtain ⟨hab, t, x, y, ht, e14, e15, e16, hx1, hxy, hy1⟩ := h.K d hd hof
  have hne : a ≠ b := fun z => hab (by rw [ea, eb, z])
  have hent : ent u d = entX u d t x y a b := by
    rw [ent, e14, e15, e16, ea, eb, clampI (by omega), clampI (by omega), clampI (by omega), clampI (by omega), clampI (by omega)]
  have hEN : (ent u d).2.2.2 = u.2.2 := ent_N
  rw [hent] at he hEN ⊢
  intro s hs
  have hs : s < u.2.2.1 31 := by rw [← hEN]; exact hs
  obtain ⟨f, hf, hsum⟩ := hQ s hs
  have small : ∀ k, k < 13 → (f k).num.toNat < 2 ^ 63 ∧ (f k).den < 2 ^ 63 := fun k hk => by
    have hle := sumQ_le (f := f) (m := 13) (i := k) (fun j hj => (hf j hj).1.1) hk
    rw [hsum] at hle
    have h1 := q_le1 (hf k hk).1.1 hle
    have h2 := (hf k hk).2
    omega
  rcases entX_t hr he with q | ⟨hx, o1, o2, q⟩
  · rw [q]
    exact ⟨f, fun k hk => ⟨tak_HQ (by omega) (lay_HQ (by omega) (hf k hk).1), (hf k hk).2⟩, hsum⟩
  · rw [q]
    by_cases e : s = t
    · rw [e] at hf
      have fa := hf a (by omega)
      have fb := hf b (by omega)
      have va := fa.1.v (small a (by omega)).1 (small a (by omega)).2
      rw [va.1, va.2] at hx
      have A := (lay_HQ (by omega) fa.1).dn (small a (by omega)).1 (small a (by omega)).2 (by omega) hx o1
      have B := ((lay_HQ (by omega) fb.1).out (i := 13 * t + a) (x := x) (m := y) (p := false) (by omega)).up (small b (by omega)).1 (small b (by omega)).2 (by omega) o2
      have A2 := A.1.out (i := 13 * t + b) (x := x) (m := y) (p := true) (by omega)
      refine ⟨fun k => if k = b then (fun k => if k = a then f k + -(mr x y) else f k) k + mr x y else (fun k => if k = a then f k + -(mr x y) else f k) k, fun k hk => ?_, ?_⟩
      · rw [e]
        by_cases kb : k = b
        · simp only [if_pos kb, if_neg (show ¬ k = a by omega)]
          rw [kb]
          exact ⟨tak_HQ (by omega) B.1, B.2⟩
        · by_cases ka : k = a
          · simp only [if_neg kb, if_pos ka]
            rw [ka, ← Rat.sub_eq_add_neg]
            exact ⟨tak_HQ (by omega) A2, A.2⟩
          · simp only [if_neg kb, if_neg ka]
            exact ⟨tak_HQ (by omega) (((lay_HQ (by omega) (hf k hk).1).out (by omega)).out (by omega)), (hf k hk).2⟩
      · rw [sumQ_up (by omega), sumQ_up (by omega), hsum, Rat.add_assoc, Rat.neg_add_cancel, Rat.add_zero]
    · exact ⟨f, fun k hk => ⟨tak_HQ (by omega) (((lay_HQ (by omega) (hf k hk).1).out (by omega)).out (by omega)), (hf k hk).2⟩, hsum⟩
theorem Inv.enter {N : Nat} {u : MU} (h : Inv N u) (hQ : WQ u) {v : Int32} : Inv N (opEnter u v).2.2 ∧ WQ (opEnter u v).2.2 := by
  unfold opEnter
  split
  · exact ⟨h, hQ⟩
  · next h1 =>
    obtain ⟨d, hd, rfl⟩ := isDd_of h.W (nf_ h1)
    have h60 := h.W.2.1
    have hdc := clampI (n := d) (by omega)
    rw [hdc]
    have k33 : (ent u d).2.2.1 33 = u.2.1 33 := ent_k (by decide) (by decide)
    have k34 : (ent u d).2.2.1 34 = u.2.1 34 := ent_k (by decide) (by decide)
    have hEI : (ent u d).2.1 = u.1 := ent_I
    have hEN : (ent u d).2.2.2 = u.2.2 := ent_N
    split
    · have q : WQ (ent u d).2 := hQ.fr k33 k34 (by rw [hEN])
      exact ⟨h.reg (fun a _ => by rw [hEI]) (fun k _ => by rw [hEN]) (by rw [hEN]; exact h.W.2.2.2.2) q.s, q⟩
    · next he =>
      have he := nf_ he
      obtain ⟨-, -, h35⟩ := ready_of (ent_r he)
      have h35b := n100_of h.W.2.2.2.2 h35
      have qt := hQ.entS h hd he
      refine ⟨h.reg (fun a ha => ?_) (fun k hk => ?_) ?_ (WQ.fr (u := tak (ent u d).2) qt rfl rfl rfl).s, WQ.fr (u := tak (ent u d).2) qt rfl rfl rfl⟩
      · show (uI (upComes _ _ _ _) 25 _ _).1 a = u.1 a
        rw [uI_k (by omega)]
        unfold upComes
        rw [uN_I, uI_k (by omega), uI_k (by omega), uI_k (by omega), uI_k (by omega)]
        exact congrFun hEI a
      · show (if k = 35 then _ else (ent u d).2.2.2.1 k) = u.2.2.1 k
        rw [if_neg hk, hEN]
      · show (ent u d).2.2.2.1 35 + 1 ≤ 100
        rw [hEN]
        omega
