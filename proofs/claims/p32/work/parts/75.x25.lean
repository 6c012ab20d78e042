/-! entering: the reference beside the shares -/
theorem ofT_in {k : Nat} (hk : k ≤ 4) : (!decide ((2 : Int32) < nI k)) = inB (nI k) 0 2 := by
  match k, hk with
  | 0, _ | 1, _ | 2, _ | 3, _ | 4, _ => decide
  | _ + 5, h => omega
theorem rdy_ready {N : Nat} {u : MU} (hI : CI N u) {d : Nat} (hd : d < u.2.2.1 10) : ready u d = (rdy u d && !decide (nI (u.2.2.1 35) = 100)) := by
  have e : isOfT u d = inB (u.1 11 d) 0 2 := by
    obtain ⟨k, hk, e⟩ := hI.kd hd
    unfold isOfT
    rw [e]
    exact ofT_in hk
  unfold ready rdy
  rw [e]
  simp only [Bool.and_assoc, Bool.and_comm, Bool.and_left_comm]
theorem ent_no {u : MU} {d : Nat} (h : ready u d = false) : (ent u d).1 = false := by
  rw [ent, entX, if_pos h]
theorem fOk_dn {u : MU} {i x m : Nat} {q : Rat} (h : HQ u 41 42 i q) (h1 : q.num.toNat < 2 ^ 63) (h2 : q.den < 2 ^ 63) (hm : m ≠ 0) (hx : x * q.den ≤ q.num.toNat * m) : fOk u i x m false = decide ((q - mr x m).den ≤ 1000000) ∧ HQ (fPut u i x m false) 41 42 i (q - mr x m) := by
  obtain ⟨e1, e2⟩ := h.v h1 h2
  obtain ⟨d1, d2, d3⟩ := fp_dn h.1 hm hx
  refine ⟨?_, d3, ?_, ?_⟩
  · rw [fOk, e1, e2, d2]
    rfl
  · rw [fPut_41, e1, e2, d1]
    rfl
  · rw [fPut_42, e1, e2, d2]
    rfl
theorem fOk_up {u : MU} {i x m : Nat} {q : Rat} (h : HQ u 41 42 i q) (h1 : q.num.toNat < 2 ^ 63) (h2 : q.den < 2 ^ 63) (hm : m ≠ 0) : fOk u i x m true = decide ((q + mr x m).den ≤ 1000000) ∧ HQ (fPut u i x m true) 41 42 i (q + mr x m) := by
  obtain ⟨e1, e2⟩ := h.v h1 h2
  obtain ⟨d1, d2⟩ := fp_up (x := x) h.1 hm
  refine ⟨?_, Rat.add_nonneg h.1 (mr_nn hm), ?_, ?_⟩
  · rw [fOk, e1, e2, d2]
    rfl
  · rw [fPut_41, e1, e2, d1]
    rfl
  · rw [fPut_42, e1, e2, d2]
    rfl
theorem allSm_cy {f : Nat → Rat} (hf : FOk f) {a b x y : Nat} (ha : a < 13) (hb : b < 13) (hab : a ≠ b) : allSm (cyF f a b x y) 13 = (decide ((f a - mr x y).den ≤ 1000000) && decide ((f b + mr x y).den ≤ 1000000)) := by
  have ea : cyF f a b x y a = f a - mr x y := by
    unfold cyF sq
    rw [if_pos rfl, if_neg (by decide), Rat.sub_eq_add_neg]
  have eb : cyF f a b x y b = f b + mr x y := by
    unfold cyF sq
    rw [if_neg (Ne.symm hab), if_pos rfl, if_pos rfl]
  rw [← ea, ← eb]
  by_cases h1 : (cyF f a b x y a).den ≤ 1000000
  · by_cases h2 : (cyF f a b x y b).den ≤ 1000000
    · rw [decide_eq_true h1, decide_eq_true h2, Bool.and_true]
      refine allSm_t.mpr (fun k hk => ?_)
      by_cases k1 : k = a
      · rw [k1]; exact h1
      · by_cases k2 : k = b
        · rw [k2]; exact h2
        · unfold cyF
          rw [if_neg k1, if_neg k2]
          exact (hf k hk).2.2
    · rw [decide_eq_false h2, Bool.and_false]
      exact allSm_f hb h2
  · rw [decide_eq_false h1, Bool.false_and]
    exact allSm_f ha h1
/-- what is known of a deed that is ready to be entered -/
def EN (u : MU) (d t x y a b : Nat) (f : Nat → Rat) : Prop := (ready u d = true) ∧ (t < 8) ∧ (ent u d = entX u d t x y a b) ∧ (a < 12) ∧ (b < 12) ∧ (a ≠ b) ∧ (1 ≤ x) ∧ (x ≤ y) ∧ (y ≤ 100) ∧ (∀ k, k < 13 → HQ u 33 34 (13 * t + k) (f k)) ∧ (FOk f)
theorem EN.r {u : MU} {d t x y a b : Nat} {f : Nat → Rat} (h : EN u d t x y a b f) : ready u d = true := h.1
theorem EN.t8 {u : MU} {d t x y a b : Nat} {f : Nat → Rat} (h : EN u d t x y a b f) : t < 8 := h.2.1
theorem EN.e {u : MU} {d t x y a b : Nat} {f : Nat → Rat} (h : EN u d t x y a b f) : ent u d = entX u d t x y a b := h.2.2.1
theorem EN.a13 {u : MU} {d t x y a b : Nat} {f : Nat → Rat} (h : EN u d t x y a b f) : a < 12 := h.2.2.2.1
theorem EN.b13 {u : MU} {d t x y a b : Nat} {f : Nat → Rat} (h : EN u d t x y a b f) : b < 12 := h.2.2.2.2.1
theorem EN.ab {u : MU} {d t x y a b : Nat} {f : Nat → Rat} (h : EN u d t x y a b f) : a ≠ b := h.2.2.2.2.2.1
theorem EN.x1 {u : MU} {d t x y a b : Nat} {f : Nat → Rat} (h : EN u d t x y a b f) : 1 ≤ x := h.2.2.2.2.2.2.1
theorem EN.xy {u : MU} {d t x y a b : Nat} {f : Nat → Rat} (h : EN u d t x y a b f) : x ≤ y := h.2.2.2.2.2.2.2.1
theorem EN.y1 {u : MU} {d t x y a b : Nat} {f : Nat → Rat} (h : EN u d t x y a b f) : y ≤ 100 := h.2.2.2.2.2.2.2.2.1
theorem EN.q {u : MU} {d t x y a b : Nat} {f : Nat → Rat} (h : EN u d t x y a b f) : ∀ k, k < 13 → HQ u 33 34 (13 * t + k) (f k) := h.2.2.2.2.2.2.2.2.2.1
theorem EN.f {u : MU} {d t x y a b : Nat} {f : Nat → Rat} (h : EN u d t x y a b f) : FOk f := h.2.2.2.2.2.2.2.2.2.2
theorem EN.v {u : MU} {d t x y a b : Nat} {f : Nat → Rat} (h : EN u d t x y a b f) {k : Nat} (hk : k < 13) : vN (u.2.1 33 (13 * t + k)) = (f k).num.toNat ∧ vN (u.2.1 34 (13 * t + k)) = (f k).den := (h.q k hk).v (h.f.s hk).1 (h.f.s hk).2.1
theorem EN.no {u : MU} {d t x y a b : Nat} {f : Nat → Rat} (h : EN u d t x y a b f) (hx : ¬ x * (f a).den ≤ (f a).num.toNat * y) : (ent u d).1 = false := by
  obtain ⟨v1, v2⟩ := h.v (k := a) (by have := h.a13; omega)
  rw [h.e, entX, if_neg (by rw [h.r]; decide), v1, v2, if_pos (by omega)]
theorem EN.pl {u : MU} {d t x y a b : Nat} {f : Nat → Rat} (h : EN u d t x y a b f) (hx : x * (f a).den ≤ (f a).num.toNat * y) (h2 : u.1 11 d = 2) : ent u d = (true, lay u) := by
  obtain ⟨v1, v2⟩ := h.v (k := a) (by have := h.a13; omega)
  rw [h.e, entX, if_neg (by rw [h.r]; decide), v1, v2, if_neg (by omega), if_pos h2]
theorem EN.cy {u : MU} {d t x y a b : Nat} {f : Nat → Rat} (h : EN u d t x y a b f) (hx : x * (f a).den ≤ (f a).num.toNat * y) (h2 : ¬ u.1 11 d = 2) : (ent u d).1 = allSm (cyF f a b x y) 13 ∧ (ent u d).2 = fPut (fPut (lay u) (13 * t + a) x y false) (13 * t + b) x y true ∧ ∀ k, k < 13 → HQ (tak (ent u d).2) 33 34 (13 * t + k) (cyF f a b x y k) := by
  have ha := h.a13
  have hb := h.b13
  have hab := h.ab
  have hy := h.x1
  have hxy := h.xy
  have t8 := h.t8
  obtain ⟨v1, v2⟩ := h.v (k := a) (by omega)
  have e : ent u d = (fOk (lay u) (13 * t + a) x y false && fOk (fPut (lay u) (13 * t + a) x y false) (13 * t + b) x y true, fPut (fPut (lay u) (13 * t + a) x y false) (13 * t + b) x y true) := by
    rw [h.e, entX, if_neg (by rw [h.r]; decide), v1, v2, if_neg (by omega), if_neg h2]
  have sa := h.f.s (k := a) (by omega)
  have sb := h.f.s (k := b) (by omega)
  obtain ⟨o1, A⟩ := fOk_dn (lay_HQ (by omega) (h.q a (by omega))) sa.1 sa.2.1 (by omega) hx
  obtain ⟨o2, B⟩ := fOk_up (x := x) (m := y) ((lay_HQ (u := u) (by omega) (h.q b (by omega))).out (i := 13 * t + a) (x := x) (m := y) (p := false) (by omega)) sb.1 sb.2.1 (by omega)
  rw [e]
  refine ⟨?_, rfl, fun k hk => ?_⟩
  · show (_ && _) = _
    rw [o1, o2, allSm_cy h.f (by omega) (by omega) hab]
  · refine tak_HQ (by omega) ?_
    show HQ (fPut (fPut (lay u) (13 * t + a) x y false) (13 * t + b) x y true) 41 42 (13 * t + k) _
    unfold cyF
    by_cases k1 : k = a
    · rw [if_pos k1, k1]
      have A2 := A.out (i := 13 * t + b) (x := x) (m := y) (p := true) (by omega)
      rw [Rat.sub_eq_add_neg] at A2
      exact A2
    · rw [if_neg k1]
      by_cases k2 : k = b
      · rw [if_pos k2, k2]
        exact B
      · rw [if_neg k2]
        exact ((lay_HQ (by omega) (h.q k hk)).out (by omega)).out (by omega)
theorem tak_lay {u : MU} : (tak (lay u)).2.1 33 = u.2.1 33 ∧ (tak (lay u)).2.1 34 = u.2.1 34 := by
  constructor
  · funext j
    by_cases h : j < 104
    · simp [tak, takP, lay, layP, h]
    · simp [tak, takP, lay, layP, h]
  · funext j
    by_cases h : j < 104
    · simp [tak, takP, lay, layP, h]
    · simp [tak, takP, lay, layP, h]
theorem tak_put {u : MU} {t a b x y j : Nat} {p q : Bool} (h : j < 104) (h1 : j ≠ 13 * t + a) (h2 : j ≠ 13 * t + b) : (tak (fPut (fPut (lay u) (13 * t + a) x y p) (13 * t + b) x y q)).2.1 33 j = u.2.1 33 j ∧ (tak (fPut (fPut (lay u) (13 * t + a) x y p) (13 * t + b) x y q)).2.1 34 j = u.2.1 34 j := by
  constructor
  · have e : (tak (fPut (fPut (lay u) (13 * t + a) x y p) (13 * t + b) x y q)).2.1 33 j = (fPut (fPut (lay u) (13 * t + a) x y p) (13 * t + b) x y q).2.1 41 j := by simp [tak, takP, h]
    rw [e, fPut_n h2, fPut_n h1, lay_41 h]
  · have e : (tak (fPut (fPut (lay u) (13 * t + a) x y p) (13 * t + b) x y q)).2.1 34 j = (fPut (fPut (lay u) (13 * t + a) x y p) (13 * t + b) x y q).2.1 42 j := by simp [tak, takP, h]
    rw [e, fPut_n h2, fPut_n h1, lay_42 h]
/-- the scratch rows are not the class's -/
theorem CS.scr {g : Gx} {ez : Nat} {ad : Nat → Nat → Nat} {u w : MU} {Y : GS} {sg : Sg} (h : CS g ez ad u Y sg) (e1 : w.1 = u.1) (e2 : w.2.2 = u.2.2) (e3 : w.2.1 33 = u.2.1 33) (e4 : w.2.1 34 = u.2.1 34) : CS g ez ad w Y sg := by
  obtain ⟨w1, w2, w3⟩ := w
  cases e1
  cases e2
  refine h.same (fun k i => ?_) rfl
  match k with
  | 0 | 1 | 2 | 4 | 5 | 6 | 7 | 8 | 9 | 12 | _ + 13 => rfl
  | 3 =>
    show (if i < u.2.2.1 2 then some (ob 7 (pcl ad (u.1, w2, u.2.2) i)) else none) = _
    rw [pcl_I (w := (u.1, w2, u.2.2)) (u := u) rfl]
    rfl
  | 10 =>
    show (if i = 8 then some (arJ g 13 (clip 13 0 Y.2.2.1)) else if i < u.2.2.1 31 then some (arJ g 13 (clip 13 0 (fun j => w2 33 (13 * i + j)))) else none) = _
    rw [show w2 33 = u.2.1 33 from e3]
    rfl
  | 11 =>
    show (if i = 8 then some (arJ g 13 (clip 13 0 Y.2.2.2)) else if i < u.2.2.1 31 then some (arJ g 13 (clip 13 0 (fun j => w2 34 (13 * i + j)))) else none) = _
    rw [show w2 34 = u.2.1 34 from e4]
    rfl
theorem CFr.y {g : Gx} {ez : Nat} {ad : Nat → Nat → Nat} {u w : MU} {Y Z : GS} {s0 s1 : Sg} (h : CFr g ez ad w Z s0 s1) (hN : SN w u) : CFr g ez ad u Y s0 s1 := fun a e he hno => h a e he (fun k i hc => hno k i (hN.ne hc))
/-- the end of a call that changes scratch rows and the trial alone -/
theorem CR.sc {g : Gx} {ez : Nat} {ad : Nat → Nat → Nat} {u w : MU} {Y Z : GS} {sg s' : Sg} (h : CS g ez ad u Z s') (hF : CFr g ez ad u Y sg s') (z1 : Z.1 = Y.1) (z2 : Z.2.1 = Y.2.1) (e1 : w.1 = u.1) (e2 : w.2.2 = u.2.2) (e3 : w.2.1 33 = u.2.1 33) (e4 : w.2.1 34 = u.2.1 34) : CR g ez ad u Y sg w s' :=
  ⟨ad, Z, h.scr e1 e2 e3 e4, rfl, hF, fun k i hc => Or.inl ⟨SN.ne (w := w) (u := u) ⟨by rw [e2], by rw [e2], by rw [e2], by rw [e2], by rw [e1]⟩ hc, rfl⟩, fun r => r.fr (by rw [e1]) e3 e4 (by rw [e2]) (by rw [e2]) z1 z2⟩
theorem CR.ent {g : Gx} {ez : Nat} {ad : Nat → Nat → Nat} {u : MU} {Y Z : GS} {sg s' : Sg} {d : Nat} (h : CS g ez ad u Z s') (hF : CFr g ez ad u Y sg s') (z1 : Z.1 = Y.1) (z2 : Z.2.1 = Y.2.1) : CR g ez ad u Y sg (ent u d).2 s' :=
  CR.sc h hF z1 z2 ent_I ent_N (ent_k (by decide) (by decide)) (ent_k (by decide) (by decide))
/-- an entry's move goes on the things' histories -/
theorem RP.entry {u : MU} {Y Z : GS} (h8 : u.2.2.1 31 ≤ 8) (h : RP u Y) {t : Nat} (ht : t < u.2.2.1 31) {mo : Option (Nat × Mv)} {f : Nat → Rat} (hq : ∀ k, k < 13 → HQ u 33 34 (13 * t + k) (f k)) (hf : FOk f) (hmo : moOk mo f) {J : Nat → Nat → Int64} (hG : ∀ k, k < 13 → HQ (uJJ u J) 33 34 (13 * t + k) (moF mo f k)) (hGf : FOk (moF mo f)) (hJ : ∀ s, s < u.2.2.1 31 → s ≠ t → ∀ k, k < 13 → J 33 (13 * s + k) = u.2.1 33 (13 * s + k) ∧ J 34 (13 * s + k) = u.2.1 34 (13 * s + k)) {w : MU} (w38 : ∀ e, e < u.2.2.1 35 → w.1 38 e = u.1 38 e) (w38n : w.1 38 (u.2.2.1 35) = nI t) (w2 : w.2.1 = J) (n31 : w.2.2.1 31 = u.2.2.1 31) (n35 : w.2.2.1 35 = u.2.2.1 35 + 1) (hZ : Z.1 = fun e => if e = u.2.2.1 35 then mo else Y.1 e) (hZ2 : Z.2.1 = Y.2.1) : RP w Z := by
  intro s hs
  rw [n31] at hs
  obtain ⟨r1, F, f0, f1, f2, f3⟩ := h s hs
  have eF : s = t → ∀ k, k < 13 → F (u.2.2.1 35) k = f k := fun e k hk => by
    have g1 := (f1 (u.2.2.1 35) (Nat.le_refl _)).s hk
    have g2 := hf.s hk
    exact (f3 k hk).eq (by rw [e]; exact hq k hk) g1.1 g1.2.1 g2.1 g2.2.1
  refine ⟨by rw [hZ2]; exact r1, fun e => if e ≤ u.2.2.1 35 then F e else if s = t then moF mo (F (u.2.2.1 35)) else F (u.2.2.1 35), ?_, fun e he => ?_, fun e he => ?_, fun k hk => ?_⟩
  · rw [hZ2, ← f0]
    exact if_pos (Nat.zero_le _)
  · by_cases e1 : e ≤ u.2.2.1 35
    · simp only [if_pos e1]
      exact f1 e e1
    · simp only [if_neg e1]
      by_cases e2 : s = t
      · simp only [if_pos e2]
        intro k hk
        rw [(mo_cg (eF e2) hmo).2 k hk]
        exact hGf k hk
      · simp only [if_neg e2]
        exact f1 _ (Nat.le_refl _)
  · rw [n35] at he
    by_cases e1 : e < u.2.2.1 35
    · simp only [if_pos (show e ≤ u.2.2.1 35 by omega), if_pos (show e + 1 ≤ u.2.2.1 35 by omega), w38 e e1, hZ, if_neg (show ¬ e = u.2.2.1 35 by omega)]
      exact f2 e e1
    · obtain rfl : e = u.2.2.1 35 := by omega
      simp only [if_pos (Nat.le_refl (u.2.2.1 35)), if_neg (show ¬ u.2.2.1 35 + 1 ≤ u.2.2.1 35 by omega), w38n, hZ, if_pos (rfl : u.2.2.1 35 = u.2.2.1 35)]
      by_cases e2 : s = t
      · simp only [if_pos e2]
        exact ⟨fun _ => RStep.of (mo_cg (eF e2) hmo).1, fun z => absurd (by rw [e2]) z⟩
      · simp only [if_neg e2]
        exact ⟨fun z => absurd ((nI_eq (by omega) (by omega)).mp z) (fun q => e2 q.symm), fun _ => trivial⟩
  · simp only [n35, if_neg (show ¬ u.2.2.1 35 + 1 ≤ u.2.2.1 35 by omega)]
    by_cases e2 : s = t
    · simp only [if_pos e2]
      rw [(mo_cg (eF e2) hmo).2 k hk]
      obtain ⟨q0, q1, q2⟩ := hG k hk
      exact ⟨q0, by rw [w2, e2]; exact q1, by rw [w2, e2]; exact q2⟩
    · simp only [if_neg e2]
      obtain ⟨q0, q1, q2⟩ := f3 k hk
      obtain ⟨j1, j2⟩ := hJ s hs e2 k hk
      exact ⟨q0, by rw [w2, j1]; exact q1, by rw [w2, j2]; exact q2⟩
theorem RP.fin {w v : MU} {Z : GS} (h : RP w Z) (e1 : v.1 38 = w.1 38) (e2 : v.2.1 = w.2.1) (e3 : v.2.2.1 = w.2.2.1) : RP v Z := h.fr e1 (by rw [e2]) (by rw [e2]) (by rw [e3]) (by rw [e3]) rfl rfl
