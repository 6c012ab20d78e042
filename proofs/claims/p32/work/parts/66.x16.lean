/-! the class: new objects in its state -/
theorem pcl_ad {ad ad' : Nat → Nat → Nat} {u : MU} {p : Nat} (h : rfo (ad' 3) (u.1 9 p) = rfo (ad 3) (u.1 9 p)) : pcl ad' u p = pcl ad u p := by
  unfold pcl
  rw [h]
/-- what the cells' names want of the state -/
def CV (u : MU) : Prop := (u.2.2.1 2 ≤ 12 ∧ u.2.2.1 10 ≤ 60 ∧ u.2.2.1 31 ≤ 8 ∧ u.2.2.1 35 ≤ 100) ∧ (∀ p, p < u.2.2.1 2 → u.1 9 p = -1 ∨ ∃ q, q < u.2.2.1 2 ∧ u.1 9 p = nI q) ∧ (∀ d, d < u.2.2.1 10 → (∃ a, a < u.2.2.1 2 ∧ u.1 12 d = nI a) ∧ ∃ b, b < u.2.2.1 2 ∧ u.1 13 d = nI b) ∧ (∀ d, d < u.2.2.1 10 → u.1 14 d = -1 ∨ ∃ t, t < u.2.2.1 31 ∧ u.1 14 d = nI t) ∧ (∀ d, d < u.2.2.1 10 → u.1 19 d = -1 ∨ ∃ b, b < u.2.2.1 10 ∧ u.1 19 d = nI b) ∧ ∀ e, e < u.2.2.1 35 → ∃ t, t < u.2.2.1 31 ∧ u.1 38 e = nI t
theorem CI.v {N : Nat} {u : MU} (h : CI N u) : CV u := ⟨⟨h.n2, h.n10, h.n31, h.n35⟩, fun _ hp => h.gu hp, fun _ hd => h.gt hd, fun _ hd => h.th hd, fun _ hd => h.so hd, fun _ he => h.et he⟩
theorem CV.n2 {u : MU} (h : CV u) : u.2.2.1 2 ≤ 12 := h.1.1
theorem CV.n10 {u : MU} (h : CV u) : u.2.2.1 10 ≤ 60 := h.1.2.1
theorem CV.n31 {u : MU} (h : CV u) : u.2.2.1 31 ≤ 8 := h.1.2.2.1
theorem CV.n35 {u : MU} (h : CV u) : u.2.2.1 35 ≤ 100 := h.1.2.2.2
theorem CV.gu {u : MU} (h : CV u) {p : Nat} (hp : p < u.2.2.1 2) : u.1 9 p = -1 ∨ ∃ q, q < u.2.2.1 2 ∧ u.1 9 p = nI q := h.2.1 p hp
theorem CV.gt {u : MU} (h : CV u) {d : Nat} (hd : d < u.2.2.1 10) : (∃ a, a < u.2.2.1 2 ∧ u.1 12 d = nI a) ∧ ∃ b, b < u.2.2.1 2 ∧ u.1 13 d = nI b := h.2.2.1 d hd
theorem CV.th {u : MU} (h : CV u) {d : Nat} (hd : d < u.2.2.1 10) : u.1 14 d = -1 ∨ ∃ t, t < u.2.2.1 31 ∧ u.1 14 d = nI t := h.2.2.2.1 d hd
theorem CV.so {u : MU} (h : CV u) {d : Nat} (hd : d < u.2.2.1 10) : u.1 19 d = -1 ∨ ∃ b, b < u.2.2.1 10 ∧ u.1 19 d = nI b := h.2.2.2.2.1 d hd
theorem CV.et {u : MU} (h : CV u) {e : Nat} (he : e < u.2.2.1 35) : ∃ t, t < u.2.2.1 31 ∧ u.1 38 e = nI t := h.2.2.2.2.2 e he
/-- the cells speak of live names alone -/
theorem cel_ad {g : Gx} {ez : Nat} {ad ad' : Nat → Nat → Nat} {u : MU} {Y : GS} (hI : CV u) (h : ∀ k i, cel g ez ad u Y k i ≠ none → ad' k i = ad k i) (k i : Nat) : cel g ez ad' u Y k i = cel g ez ad u Y k i := by
  have lv : ∀ {k i : Nat} {e : va_E}, cel g ez ad u Y k i = some e → ad' k i = ad k i := fun {k i e} he => h k i (by rw [he]; exact fun z => by cases z)
  have h12 := hI.n2
  have h10 := hI.n10
  have h8 := hI.n31
  match k with
  | 0 =>
    show (if i = 0 then some (ob 10 (ocl ad' u)) else none) = (if i = 0 then some (ob 10 (ocl ad u)) else none)
    unfold ocl
    rw [lv (k := 1) (i := 0) rfl, lv (k := 1) (i := 1) rfl, lv (k := 1) (i := 2) rfl, lv (k := 1) (i := 3) rfl, lv (k := 9) (i := 8) (if_pos (Or.inr rfl))]
  | 1 =>
    show (if i < 4 then some (ob 1 (lcl ez ad' u i)) else none) = (if i < 4 then some (ob 1 (lcl ez ad u i)) else none)
    by_cases hi : i < 4
    · rw [if_pos hi, if_pos hi]
      unfold lcl
      by_cases hz : ln u i = 0
      · rw [if_pos hz, if_pos hz]
      · rw [if_neg hz, if_neg hz, lv (k := 2) (i := i) (if_pos ⟨hi, by omega⟩)]
    · rw [if_neg hi, if_neg hi]
  | 2 =>
    show (if i < 4 ∧ 0 < ln u i then some (arO g (cap (ln u i)) (clip (ln u i) none (fun j => some (ad' (lk i) j)))) else none) = _
    by_cases hi : i < 4 ∧ 0 < ln u i
    · rw [if_pos hi, show cel g ez ad u Y 2 i = _ from if_pos hi]
      refine congrArg (fun f => some (arO g (cap (ln u i)) f)) (clip_cg (fun j hj => congrArg some ?_))
      match i, hi, hj with
      | 0, _, hj => exact lv (k := 3) (if_pos hj)
      | 1, _, hj => exact lv (k := 8) (if_pos hj)
      | 2, _, hj => exact lv (k := 4) (if_pos hj)
      | 3, _, hj => exact lv (k := 12) (if_pos hj)
      | _ + 4, hi, _ => omega
    · rw [if_neg hi, show cel g ez ad u Y 2 i = _ from if_neg hi]
  | 3 =>
    show (if i < u.2.2.1 2 then some (ob 7 (pcl ad' u i)) else none) = (if i < u.2.2.1 2 then some (ob 7 (pcl ad u i)) else none)
    by_cases hi : i < u.2.2.1 2
    · rw [if_pos hi, if_pos hi, pcl_ad]
      rcases hI.gu hi with e | ⟨q, hq, e⟩
      · rw [e, rfo_m, rfo_m]
      · rw [e, rfo_q (by omega), rfo_q (by omega), lv (k := 3) (if_pos hq)]
    · rw [if_neg hi, if_neg hi]
  | 4 =>
    show (if i < u.2.2.1 10 then some (ob 2 (dcl ad' u i)) else none) = (if i < u.2.2.1 10 then some (ob 2 (dcl ad u i)) else none)
    by_cases hi : i < u.2.2.1 10
    · rw [if_pos hi, if_pos hi]
      unfold dcl
      obtain ⟨⟨a, ha, ea⟩, b, hb, eb⟩ := hI.gt hi
      rw [ea, eb, nI_clamp (by omega), nI_clamp (by omega), lv (k := 3) (i := a) (if_pos ha), lv (k := 3) (i := b) (if_pos hb), lv (k := 5) (if_pos hi)]
      have e8 : rfo (ad' 8) (u.1 14 i) = rfo (ad 8) (u.1 14 i) := by
        rcases hI.th hi with e | ⟨t, ht, e⟩
        · rw [e, rfo_m, rfo_m]
        · rw [e, rfo_q (by omega), rfo_q (by omega), lv (k := 8) (if_pos ht)]
      rw [e8]
      by_cases hk : u.1 11 i = 3
      · rw [if_pos hk, if_pos hk, if_pos hk, if_pos hk, lv (k := 7) (if_pos ⟨hi, hk⟩)]
      · rw [if_neg hk, if_neg hk, if_neg hk, if_neg hk]
    · rw [if_neg hi, if_neg hi]
  | 5 =>
    show (if i < u.2.2.1 10 then some (ob 6 [.ref (ad' 6 i), .int (u.1 29 i)]) else none) = (if i < u.2.2.1 10 then some (ob 6 [.ref (ad 6 i), .int (u.1 29 i)]) else none)
    by_cases hi : i < u.2.2.1 10
    · rw [if_pos hi, if_pos hi, lv (k := 6) (if_pos hi)]
    · rw [if_neg hi, if_neg hi]
  | 6 => rfl
  | 7 =>
    show (if i < u.2.2.1 10 ∧ u.1 11 i = 3 then some (ob 4 (ncl ad' u i)) else none) = (if i < u.2.2.1 10 ∧ u.1 11 i = 3 then some (ob 4 (ncl ad u i)) else none)
    by_cases hi : i < u.2.2.1 10 ∧ u.1 11 i = 3
    · rw [if_pos hi, if_pos hi]
      unfold ncl
      rcases hI.so hi.1 with e | ⟨b, hb, e⟩
      · rw [e, rfo_m, rfo_m]
      · rw [e, rfo_q (by omega), rfo_q (by omega), lv (k := 4) (if_pos hb)]
    · rw [if_neg hi, if_neg hi]
  | 8 =>
    show (if i < u.2.2.1 31 then some (ob 9 [.int (nI i), .int (nI (Y.2.1 i)), .int (u.1 32 i), .ref (ad' 9 i)]) else none) = (if i < u.2.2.1 31 then some (ob 9 [.int (nI i), .int (nI (Y.2.1 i)), .int (u.1 32 i), .ref (ad 9 i)]) else none)
    by_cases hi : i < u.2.2.1 31
    · rw [if_pos hi, if_pos hi, lv (k := 9) (if_pos (Or.inl hi))]
    · rw [if_neg hi, if_neg hi]
  | 9 =>
    show (if i < u.2.2.1 31 ∨ i = 8 then some (ob 8 [.ref (ad' 10 i), .ref (ad' 11 i)]) else none) = (if i < u.2.2.1 31 ∨ i = 8 then some (ob 8 [.ref (ad 10 i), .ref (ad 11 i)]) else none)
    by_cases hi : i < u.2.2.1 31 ∨ i = 8
    · rw [if_pos hi, if_pos hi]
      rcases hi with hi | hi
      · rw [lv (k := 10) (cel_10 h8 hi), lv (k := 11) (cel_11 h8 hi)]
      · subst hi
        rw [lv (k := 10) cel_t10, lv (k := 11) cel_t11]
    · rw [if_neg hi, if_neg hi]
  | 10 => rfl
  | 11 => rfl
  | 12 =>
    show (if i < u.2.2.1 35 then some (ob 3 (ecl ad' u Y i)) else none) = (if i < u.2.2.1 35 then some (ob 3 (ecl ad u Y i)) else none)
    by_cases hi : i < u.2.2.1 35
    · rw [if_pos hi, if_pos hi]
      unfold ecl
      obtain ⟨t, ht, e⟩ := hI.et hi
      rw [e, nI_clamp (by omega), lv (k := 8) (if_pos ht)]
    · rw [if_neg hi, if_neg hi]
  | _ + 13 => rfl
/-- from one state of the class to another -/
def CQ (g : Gx) (ez : Nat) (ad : Nat → Nat → Nat) (u : MU) (Y : GS) (sg : Sg) (w : MU) (Y' : GS) (s' : Sg) : Prop := ∃ ad', CS g ez ad' w Y' s' ∧ ad' 0 0 = ad 0 0 ∧ CFr g ez ad u Y sg s' ∧ (∀ k i, cel g ez ad' w Y' k i ≠ none → (cel g ez ad u Y k i ≠ none ∧ ad' k i = ad k i) ∨ sg (ad' k i) = none) ∧ (∀ k i, cel g ez ad u Y k i ≠ none → ¬ k = 2 → cel g ez ad' w Y' k i ≠ none ∧ ad' k i = ad k i) ∧ ∀ a, sg a ≠ none → s' a ≠ none
theorem CR.of {g : Gx} {ez : Nat} {ad : Nat → Nat → Nat} {u w : MU} {Y Y' : GS} {sg s' : Sg} (h : CQ g ez ad u Y sg w Y' s') (hR : RP u Y → RP w Y') : CR g ez ad u Y sg w s' := by
  obtain ⟨ad', h1, h2, h3, h4, -⟩ := h
  exact ⟨ad', Y', h1, h2, h3, h4, hR⟩
theorem CS.grow {g : Gx} {ez : Nat} {ad ad' : Nat → Nat → Nat} {u u' : MU} {Y Y' : GS} {sg s' : Sg} (h : CS g ez ad u Y sg) (T : Nat → Nat → Prop)
    (hA : ∀ k i e, T k i → cel g ez ad' u' Y' k i = some e → s' (ad' k i) = some e)
    (hB : ∀ k i, ¬ T k i → cel g ez ad' u' Y' k i = cel g ez ad u Y k i)
    (hB2 : ∀ k i, ¬ T k i → cel g ez ad u Y k i ≠ none → ad' k i = ad k i ∧ s' (ad k i) = sg (ad k i))
    (hC : ∀ k i, T k i → cel g ez ad' u' Y' k i ≠ none → (cel g ez ad u Y k i ≠ none ∧ ad' k i = ad k i) ∨ sg (ad' k i) = none)
    (hD : ∀ k i j n, T k i → T j n → sg (ad' k i) = none → sg (ad' j n) = none → cel g ez ad' u' Y' k i ≠ none → cel g ez ad' u' Y' j n ≠ none → ad' k i = ad' j n → k = j ∧ i = n)
    (hM : ∀ e, e < u'.2.2.1 35 → ∀ a m, Y'.1 e = some (a, m) → s' a = some (ob 5 (vcl m)))
    (hF : CFr g ez ad u Y sg s') (h00 : ad' 0 0 = ad 0 0) (hK : ∀ k i, T k i → cel g ez ad u Y k i ≠ none → ¬ k = 2 → cel g ez ad' u' Y' k i ≠ none ∧ ad' k i = ad k i) (hm : ∀ a, sg a ≠ none → s' a ≠ none) : CQ g ez ad u Y sg u' Y' s' := by
  have cl : ∀ k i, cel g ez ad' u' Y' k i ≠ none → (cel g ez ad u Y k i ≠ none ∧ ad' k i = ad k i) ∨ (T k i ∧ sg (ad' k i) = none) := fun k i hc => by
    by_cases t : T k i
    · rcases hC k i t hc with q | q
      · exact Or.inl q
      · exact Or.inr ⟨t, q⟩
    · rw [hB k i t] at hc
      exact Or.inl ⟨hc, (hB2 k i t hc).1⟩
  have sm : ∀ k i, cel g ez ad u Y k i ≠ none → sg (ad k i) ≠ none := fun k i hc => by
    cases he : cel g ez ad u Y k i with
    | none => exact absurd he hc
    | some e => rw [h.1 k i e he]; exact fun z => by cases z
  refine ⟨ad', ⟨fun k i e he => ?_, fun k i j n h1 h2 e => ?_, hM⟩, h00, hF, fun k i hc => ?_, fun k i hc h2 => ?_, hm⟩
  · by_cases t : T k i
    · exact hA k i e t he
    · rw [hB k i t] at he
      obtain ⟨q1, q2⟩ := hB2 k i t (by rw [he]; exact fun z => by cases z)
      rw [q1, q2]
      exact h.1 k i e he
  · rcases cl k i h1 with ⟨a1, a2⟩ | ⟨a1, a2⟩
    · rcases cl j n h2 with ⟨b1, b2⟩ | ⟨b1, b2⟩
      · rw [a2, b2] at e
        exact h.2.1 k i j n a1 b1 e
      · rw [a2] at e
        exact absurd (by rw [e]; exact b2) (sm k i a1)
    · rcases cl j n h2 with ⟨b1, b2⟩ | ⟨b1, b2⟩
      · rw [b2] at e
        exact absurd (by rw [← e]; exact a2) (sm j n b1)
      · exact hD k i j n a1 b1 a2 b2 h1 h2 e
  · rcases cl k i hc with q | ⟨-, q⟩
    · exact Or.inl q
    · exact Or.inr q
  · by_cases t : T k i
    · exact hK k i t hc h2
    · exact ⟨by rw [hB k i t]; exact hc, (hB2 k i t hc).1⟩
theorem ln_uN {u : MU} {c n i : Nat} (h : lcn i ≠ c) : ln (uN u c n) i = ln u i := if_neg h
/-- one more of a kind: the other cells -/
theorem cel_uN {g : Gx} {ez : Nat} {ad : Nat → Nat → Nat} {u : MU} {Y : GS} {c n k i : Nat} (hc : c = 2 ∨ c = 31 ∨ c = 10 ∨ c = 35) (hn : u.2.2.1 c = n) (h1 : ¬ (k = 1 ∧ lcn i = c)) (h2 : ¬ (k = 2 ∧ lcn i = c)) (h3 : c = 2 → ¬ (k = 3 ∧ i = n)) (h4 : c = 31 → ¬ ((k = 8 ∨ k = 9 ∨ k = 10 ∨ k = 11) ∧ i = n)) (h5 : c = 10 → ¬ ((k = 4 ∨ k = 5 ∨ k = 6 ∨ k = 7) ∧ i = n)) (h6 : c = 35 → ¬ (k = 12 ∧ i = n)) : cel g ez ad (uN u c (n + 1)) Y k i = cel g ez ad u Y k i := by
  have lt : ∀ {m : Nat}, (c = m → i ≠ n) → ((i < (uN u c (n + 1)).2.2.1 m) = (i < u.2.2.1 m)) := fun {m} hm => by
    show (i < (if m = c then n + 1 else u.2.2.1 m)) = _
    by_cases e : m = c
    · have hne := hm e.symm
      rw [if_pos e, e, hn]
      exact propext ⟨fun z => by omega, fun z => by omega⟩
    · rw [if_neg e]
  match k with
  | 0 =>
    show (if i = 0 then some (ob 10 (ocl ad (uN u c (n + 1)))) else none) = (if i = 0 then some (ob 10 (ocl ad u)) else none)
    unfold ocl
    rw [show (uN u c (n + 1)).2.2.1 30 = u.2.2.1 30 from if_neg (by omega)]
    rfl
  | 1 =>
    show (if i < 4 then some (ob 1 (lcl ez ad (uN u c (n + 1)) i)) else none) = (if i < 4 then some (ob 1 (lcl ez ad u i)) else none)
    unfold lcl
    rw [ln_uN (fun z => h1 ⟨rfl, z⟩)]
  | 2 =>
    show (if i < 4 ∧ 0 < ln (uN u c (n + 1)) i then some (arO g (cap (ln (uN u c (n + 1)) i)) (clip (ln (uN u c (n + 1)) i) none (fun j => some (ad (lk i) j)))) else none) = _
    rw [ln_uN (fun z => h2 ⟨rfl, z⟩)]
    rfl
  | 3 =>
    show (if i < (uN u c (n + 1)).2.2.1 2 then some (ob 7 (pcl ad (uN u c (n + 1)) i)) else none) = _
    simp only [lt (m := 2) (fun z q => h3 z ⟨rfl, q⟩)]
    rw [pcl_I (w := uN u c (n + 1)) (u := u) rfl]
    rfl
  | 4 =>
    show (if i < (uN u c (n + 1)).2.2.1 10 then some (ob 2 (dcl ad u i)) else none) = _
    simp only [lt (m := 10) (fun z q => h5 z ⟨Or.inl rfl, q⟩)]
    rfl
  | 5 =>
    show (if i < (uN u c (n + 1)).2.2.1 10 then some (ob 6 [.ref (ad 6 i), .int (u.1 29 i)]) else none) = _
    simp only [lt (m := 10) (fun z q => h5 z ⟨Or.inr (Or.inl rfl), q⟩)]
    rfl
  | 6 =>
    show (if i < (uN u c (n + 1)).2.2.1 10 then some (arI g 4 (clip 4 0 (fun j => u.1 28 (4 * i + j)))) else none) = _
    simp only [lt (m := 10) (fun z q => h5 z ⟨Or.inr (Or.inr (Or.inl rfl)), q⟩)]
    rfl
  | 7 =>
    show (if i < (uN u c (n + 1)).2.2.1 10 ∧ u.1 11 i = 3 then some (ob 4 (ncl ad u i)) else none) = _
    simp only [lt (m := 10) (fun z q => h5 z ⟨Or.inr (Or.inr (Or.inr rfl)), q⟩)]
    rfl
  | 8 =>
    show (if i < (uN u c (n + 1)).2.2.1 31 then some (ob 9 [.int (nI i), .int (nI (Y.2.1 i)), .int (u.1 32 i), .ref (ad 9 i)]) else none) = _
    simp only [lt (m := 31) (fun z q => h4 z ⟨Or.inl rfl, q⟩)]
    rfl
  | 9 =>
    show (if i < (uN u c (n + 1)).2.2.1 31 ∨ i = 8 then some (ob 8 [.ref (ad 10 i), .ref (ad 11 i)]) else none) = _
    simp only [lt (m := 31) (fun z q => h4 z ⟨Or.inr (Or.inl rfl), q⟩)]
    rfl
  | 10 =>
    show (if i = 8 then some (arJ g 13 (clip 13 0 Y.2.2.1)) else if i < (uN u c (n + 1)).2.2.1 31 then some (arJ g 13 (clip 13 0 (fun j => u.2.1 33 (13 * i + j)))) else none) = _
    simp only [lt (m := 31) (fun z q => h4 z ⟨Or.inr (Or.inr (Or.inl rfl)), q⟩)]
    rfl
  | 11 =>
    show (if i = 8 then some (arJ g 13 (clip 13 0 Y.2.2.2)) else if i < (uN u c (n + 1)).2.2.1 31 then some (arJ g 13 (clip 13 0 (fun j => u.2.1 34 (13 * i + j)))) else none) = _
    simp only [lt (m := 31) (fun z q => h4 z ⟨Or.inr (Or.inr (Or.inr rfl)), q⟩)]
    rfl
  | 12 =>
    show (if i < (uN u c (n + 1)).2.2.1 35 then some (ob 3 (ecl ad u Y i)) else none) = _
    simp only [lt (m := 35) (fun z q => h6 z ⟨rfl, q⟩)]
    rfl
  | _ + 13 => rfl
theorem uN_at {u : MU} {c n : Nat} : (uN u c n).2.2.1 c = n := if_pos rfl
theorem uN_ne {u : MU} {c n m : Nat} (h : m ≠ c) : (uN u c n).2.2.1 m = u.2.2.1 m := if_neg h
