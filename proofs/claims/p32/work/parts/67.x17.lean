/-! the class: one more of a kind -/
abbrev KK (l k : Nat) : Prop := (l = 0 ∧ k = 3) ∨ (l = 1 ∧ (k = 8 ∨ k = 9 ∨ k = 10 ∨ k = 11)) ∨ (l = 2 ∧ (k = 4 ∨ k = 5 ∨ k = 6 ∨ k = 7)) ∨ (l = 3 ∧ k = 12)
def adN (ad : Nat → Nat → Nat) (l ea n : Nat) (f : Nat → Nat) : Nat → Nat → Nat := fun k i => if k = 2 ∧ i = l then ea else if KK l k ∧ i = n then f k else ad k i
theorem KK.n2 {l k : Nat} (h : KK l k) : ¬ k = 2 ∧ ¬ k = 1 ∧ ¬ k = 0 := by unfold KK at h; omega
theorem adN_2 {ad : Nat → Nat → Nat} {l ea n : Nat} {f : Nat → Nat} : adN ad l ea n f 2 l = ea := if_pos ⟨rfl, rfl⟩
theorem adN_n {ad : Nat → Nat → Nat} {l ea n k : Nat} {f : Nat → Nat} (h : KK l k) : adN ad l ea n f k n = f k := (if_neg (fun z => h.n2.1 z.1)).trans (if_pos ⟨h, rfl⟩)
theorem adN_o {ad : Nat → Nat → Nat} {l ea n k i : Nat} {f : Nat → Nat} (h1 : ¬ (k = 2 ∧ i = l)) (h2 : ¬ (KK l k ∧ i = n)) : adN ad l ea n f k i = ad k i := (if_neg h1).trans (if_neg h2)
theorem KK.lk {l : Nat} (hl : l < 4) : KK l (lk l) := by
  match l, hl with
  | 0, _ => exact Or.inl ⟨rfl, rfl⟩
  | 1, _ => exact Or.inr (Or.inl ⟨rfl, Or.inl rfl⟩)
  | 2, _ => exact Or.inr (Or.inr (Or.inl ⟨rfl, Or.inl rfl⟩))
  | 3, _ => exact Or.inr (Or.inr (Or.inr ⟨rfl, rfl⟩))
  | _ + 4, h => omega
theorem KK.dead {g : Gx} {ez : Nat} {ad : Nat → Nat → Nat} {u : MU} {Y : GS} {l k n : Nat} (h : KK l k) (hn : n = ln u l) (h8 : l = 1 → n < 8) : cel g ez ad u Y k n = none := by
  subst hn
  rcases h with ⟨rfl, rfl⟩ | ⟨rfl, rfl | rfl | rfl | rfl⟩ | ⟨rfl, rfl | rfl | rfl | rfl⟩ | ⟨rfl, rfl⟩
  · exact if_neg (Nat.lt_irrefl _)
  · exact if_neg (Nat.lt_irrefl _)
  · exact if_neg (fun z => z.elim (Nat.lt_irrefl _) (fun z => by have := h8 rfl; omega))
  · exact (if_neg (by have := h8 rfl; omega)).trans (if_neg (Nat.lt_irrefl _))
  · exact (if_neg (by have := h8 rfl; omega)).trans (if_neg (Nat.lt_irrefl _))
  · exact if_neg (Nat.lt_irrefl _)
  · exact if_neg (Nat.lt_irrefl _)
  · exact if_neg (Nat.lt_irrefl _)
  · exact if_neg (fun z => Nat.lt_irrefl _ z.1)
  · exact if_neg (Nat.lt_irrefl _)
theorem lcn_inj {i l : Nat} (hi : i < 4) (hl : l < 4) (h : lcn i = lcn l) : i = l := by
  match i, hi, l, hl, h with
  | 0, _, 0, _, _ | 1, _, 1, _, _ | 2, _, 2, _, _ | 3, _, 3, _, _ => rfl
  | 0, _, 1, _, h | 0, _, 2, _, h | 0, _, 3, _, h | 1, _, 0, _, h | 1, _, 2, _, h | 1, _, 3, _, h | 2, _, 0, _, h | 2, _, 1, _, h | 2, _, 3, _, h | 3, _, 0, _, h | 3, _, 1, _, h | 3, _, 2, _, h => exact absurd h (by decide)
  | _ + 4, h, _, _, _ => omega
  | _, _, _ + 4, h, _ => omega
/-- the list's array is named in the list alone -/
theorem cel_a2 {g : Gx} {ez : Nat} {ad ad' : Nat → Nat → Nat} {u : MU} {Y : GS} {k i : Nat} (h : ∀ k, k ≠ 2 → ad' k = ad k) (h1 : k = 1 → ad' 2 i = ad 2 i) : cel g ez ad' u Y k i = cel g ez ad u Y k i := by
  match k with
  | 0 =>
    show (if i = 0 then some (ob 10 (ocl ad' u)) else none) = (if i = 0 then some (ob 10 (ocl ad u)) else none)
    unfold ocl
    rw [h 1 (by decide), h 9 (by decide)]
  | 1 =>
    show (if i < 4 then some (ob 1 (lcl ez ad' u i)) else none) = (if i < 4 then some (ob 1 (lcl ez ad u i)) else none)
    unfold lcl
    rw [h1 rfl]
  | 2 =>
    show (if i < 4 ∧ 0 < ln u i then some (arO g (cap (ln u i)) (clip (ln u i) none (fun j => some (ad' (lk i) j)))) else none) = _
    rw [h (lk i) (by unfold lk; split <;> decide)]
    rfl
  | 3 =>
    show (if i < u.2.2.1 2 then some (ob 7 (pcl ad' u i)) else none) = (if i < u.2.2.1 2 then some (ob 7 (pcl ad u i)) else none)
    unfold pcl
    rw [h 3 (by decide)]
  | 4 =>
    show (if i < u.2.2.1 10 then some (ob 2 (dcl ad' u i)) else none) = (if i < u.2.2.1 10 then some (ob 2 (dcl ad u i)) else none)
    unfold dcl
    rw [h 3 (by decide), h 8 (by decide), h 5 (by decide), h 7 (by decide)]
  | 5 =>
    show (if i < u.2.2.1 10 then some (ob 6 [.ref (ad' 6 i), .int (u.1 29 i)]) else none) = _
    rw [h 6 (by decide)]
    rfl
  | 6 => rfl
  | 7 =>
    show (if i < u.2.2.1 10 ∧ u.1 11 i = 3 then some (ob 4 (ncl ad' u i)) else none) = (if i < u.2.2.1 10 ∧ u.1 11 i = 3 then some (ob 4 (ncl ad u i)) else none)
    unfold ncl
    rw [h 4 (by decide)]
  | 8 =>
    show (if i < u.2.2.1 31 then some (ob 9 [.int (nI i), .int (nI (Y.2.1 i)), .int (u.1 32 i), .ref (ad' 9 i)]) else none) = _
    rw [h 9 (by decide)]
    rfl
  | 9 =>
    show (if i < u.2.2.1 31 ∨ i = 8 then some (ob 8 [.ref (ad' 10 i), .ref (ad' 11 i)]) else none) = _
    rw [h 10 (by decide), h 11 (by decide)]
    rfl
  | 10 => rfl
  | 11 => rfl
  | 12 =>
    show (if i < u.2.2.1 35 then some (ob 3 (ecl ad' u Y i)) else none) = (if i < u.2.2.1 35 then some (ob 3 (ecl ad u Y i)) else none)
    unfold ecl
    rw [h 8 (by decide)]
  | _ + 13 => rfl
theorem cel_1n {g : Gx} {ez : Nat} {ad : Nat → Nat → Nat} {u : MU} {Y : GS} {i : Nat} (h : ¬ i < 4) : cel g ez ad u Y 1 i = none := if_neg h
theorem cel_2n {g : Gx} {ez : Nat} {ad : Nat → Nat → Nat} {u : MU} {Y : GS} {i : Nat} (h : ¬ i < 4) : cel g ez ad u Y 2 i = none := if_neg (fun z => h z.1)
theorem lcn_c {l : Nat} (hl : l < 4) : lcn l = 2 ∨ lcn l = 31 ∨ lcn l = 10 ∨ lcn l = 35 := by
  match l, hl with
  | 0, _ => exact Or.inl rfl
  | 1, _ => exact Or.inr (Or.inl rfl)
  | 2, _ => exact Or.inr (Or.inr (Or.inl rfl))
  | 3, _ => exact Or.inr (Or.inr (Or.inr rfl))
  | _ + 4, h => omega
theorem CS.gr {g : Gx} {ez : Nat} {ad : Nat → Nat → Nat} {u w : MU} {Y Y' : GS} {sg s' : Sg} (hI : CV u) (h : CS g ez ad u Y sg) {l n ea : Nat} {f : Nat → Nat} (hl : l < 4) (hn : n = ln u l) (h8 : l = 1 → n < 8)
    (hwN : w.2.2.1 = u.2.2.1) (hw : ∀ ad k i, ¬ (KK l k ∧ i = n) → cel g ez ad w Y' k i = cel g ez ad u Y k i)
    (hea : sg ea = none ∨ 0 < n ∧ ea = ad 2 l) (hL : LH g ez s' (ad 1 l) ea (n + 1) (fun j => if j = n then f (lk l) else ad (lk l) j))
    (hN : ∀ k e, KK l k → cel g ez (adN ad l ea n f) (uN w (lcn l) (n + 1)) Y' k n = some e → s' (f k) = some e ∧ sg (f k) = none ∧ ea ≠ f k)
    (hj : ∀ k j, KK l k → KK l j → cel g ez (adN ad l ea n f) (uN w (lcn l) (n + 1)) Y' k n ≠ none → cel g ez (adN ad l ea n f) (uN w (lcn l) (n + 1)) Y' j n ≠ none → f k = f j → k = j)
    (hfr : ∀ a, a ≠ ad 1 l → a ≠ ea → sg a ≠ none → s' a = sg a)
    (hM1 : ∀ e, e < u.2.2.1 35 → Y'.1 e = Y.1 e) (hM2 : l = 3 → ∀ a m, Y'.1 n = some (a, m) → s' a = some (ob 5 (vcl m))) : CQ g ez ad u Y sg (uN w (lcn l) (n + 1)) Y' s' := by
  have l1 : cel g ez ad u Y 1 l ≠ none := by rw [show cel g ez ad u Y 1 l = _ from if_pos hl]; exact fun z => by cases z
  have l2 : 0 < n → cel g ez ad u Y 2 l ≠ none := fun z => by rw [show cel g ez ad u Y 2 l = _ from if_pos ⟨hl, hn ▸ z⟩]; exact fun z => by cases z
  have sm : ∀ k i, cel g ez ad u Y k i ≠ none → sg (ad k i) ≠ none := fun k i hc => by
    cases he : cel g ez ad u Y k i with
    | none => exact absurd he hc
    | some e => rw [h.1 k i e he]; exact fun z => by cases z
  have nK1 : ¬ KK l 1 := fun z => z.n2.2.1 rfl
  have nK2 : ¬ KK l 2 := fun z => z.n2.1 rfl
  have a1 : ∀ i, adN ad l ea n f 1 i = ad 1 i := fun i => adN_o (fun z => by omega) (fun z => nK1 z.1)
  have ne1 : ∀ k i, cel g ez ad u Y k i ≠ none → ¬ (k = 1 ∧ i = l) → ¬ (k = 2 ∧ i = l) → s' (ad k i) = sg (ad k i) := fun k i hc z1 z2 => by
    refine hfr _ (fun z => z1 (h.2.1 k i 1 l hc l1 z)) (fun z => ?_) (sm k i hc)
    rcases hea with q | ⟨q1, q2⟩
    · exact sm k i hc (by rw [z]; exact q)
    · exact z2 (h.2.1 k i 2 l hc (l2 q1) (z.trans q2))
  refine CS.grow (ad' := adN ad l ea n f) (Y' := Y') h (fun k i => (k = 1 ∧ i = l) ∨ (k = 2 ∧ i = l) ∨ (KK l k ∧ i = n)) ?_ ?_ ?_ ?_ ?_ ?_ ?_ (adN_o (fun z => by omega) (fun z => z.1.n2.2.2 rfl)) ?_ (fun a ha => ?_)
  · rintro k i e (⟨rfl, rfl⟩ | ⟨rfl, rfl⟩ | ⟨hk, rfl⟩) he
    · rw [show cel g ez (adN ad i ea n f) (uN w (lcn i) (n + 1)) Y' 1 i = some (ob 1 (lcl ez (adN ad i ea n f) (uN w (lcn i) (n + 1)) i)) from if_pos hl] at he
      rw [a1, hL.1, ← he]
      unfold lcl
      rw [show ln (uN w (lcn i) (n + 1)) i = n + 1 from uN_at, if_neg (by omega), adN_2]
    · rw [show cel g ez (adN ad i ea n f) (uN w (lcn i) (n + 1)) Y' 2 i = some (arO g (cap (ln (uN w (lcn i) (n + 1)) i)) (clip (ln (uN w (lcn i) (n + 1)) i) none (fun j => some (adN ad i ea n f (lk i) j)))) from if_pos ⟨hl, by rw [show ln (uN w (lcn i) (n + 1)) i = n + 1 from uN_at]; omega⟩, show ln (uN w (lcn i) (n + 1)) i = n + 1 from uN_at] at he
      rw [adN_2, hL.2.2 (by omega), ← he]
      refine congrArg (fun F => some (arO g (cap (n + 1)) F)) (clip_cg (fun j hj => congrArg some ?_))
      by_cases z : j = n
      · show (if j = n then f (lk i) else ad (lk i) j) = _
        rw [if_pos z, z, adN_n (KK.lk hl)]
      · show (if j = n then f (lk i) else ad (lk i) j) = _
        rw [if_neg z, adN_o (fun q => (KK.lk hl).n2.1 q.1) (fun q => z q.2)]
    · rw [adN_n hk]
      exact (hN k e hk he).1
  · intro k i hT
    have hk1 : ¬ (k = 1 ∧ i = l) := fun z => hT (Or.inl z)
    have hk2 : ¬ (k = 2 ∧ i = l) := fun z => hT (Or.inr (Or.inl z))
    have hk3 : ¬ (KK l k ∧ i = n) := fun z => hT (Or.inr (Or.inr z))
    have e2 : cel g ez (adN ad l ea n f) u Y k i = cel g ez ad u Y k i := by
      let ad2 : Nat → Nat → Nat := fun k i => if KK l k ∧ i = n then f k else ad k i
      have e3 : cel g ez (adN ad l ea n f) u Y k i = cel g ez ad2 u Y k i := cel_a2 (fun j hj => funext fun m => if_neg (fun z => hj z.1)) (fun z => (if_neg (fun q => hk1 ⟨z, q.2⟩)))
      rw [e3]
      exact cel_ad hI (fun j m hc => if_neg (fun z => hc (by rw [z.2]; exact z.1.dead hn h8))) k i
    rw [← e2, ← hw _ k i hk3]
    by_cases h4 : (k = 1 ∨ k = 2) ∧ ¬ i < 4
    · rcases h4.1 with rfl | rfl
      · rw [cel_1n h4.2, cel_1n h4.2]
      · rw [cel_2n h4.2, cel_2n h4.2]
    · have h5 : (k = 1 ∨ k = 2) → i < 4 := fun z => Classical.byContradiction fun q => h4 ⟨z, q⟩
      refine cel_uN (lcn_c hl) (by rw [hwN]; exact hn.symm) (fun z => hk1 ⟨z.1, lcn_inj (h5 (Or.inl z.1)) hl z.2⟩) (fun z => hk2 ⟨z.1, lcn_inj (h5 (Or.inr z.1)) hl z.2⟩) (fun c z => hk3 ⟨?_, z.2⟩) (fun c z => hk3 ⟨?_, z.2⟩) (fun c z => hk3 ⟨?_, z.2⟩) (fun c z => hk3 ⟨?_, z.2⟩)
      · rw [lcn_inj hl (by decide : 0 < 4) c]; exact Or.inl ⟨rfl, z.1⟩
      · rw [lcn_inj hl (by decide : 1 < 4) c]; exact Or.inr (Or.inl ⟨rfl, z.1⟩)
      · rw [lcn_inj hl (by decide : 2 < 4) c]; exact Or.inr (Or.inr (Or.inl ⟨rfl, z.1⟩))
      · rw [lcn_inj hl (by decide : 3 < 4) c]; exact Or.inr (Or.inr (Or.inr ⟨rfl, z.1⟩))
  · intro k i hT hc
    have hk1 : ¬ (k = 1 ∧ i = l) := fun z => hT (Or.inl z)
    have hk2 : ¬ (k = 2 ∧ i = l) := fun z => hT (Or.inr (Or.inl z))
    have hk3 : ¬ (KK l k ∧ i = n) := fun z => hT (Or.inr (Or.inr z))
    exact ⟨adN_o hk2 hk3, ne1 k i hc hk1 hk2⟩
  · rintro k i (⟨rfl, rfl⟩ | ⟨rfl, rfl⟩ | ⟨hk, rfl⟩) hc
    · exact Or.inl ⟨l1, a1 _⟩
    · rw [adN_2]
      rcases hea with q | ⟨q1, q2⟩
      · exact Or.inr q
      · exact Or.inl ⟨l2 q1, q2⟩
    · rw [adN_n hk]
      cases he : cel g ez (adN ad l ea i f) (uN w (lcn l) (i + 1)) Y' k i with
      | none => exact absurd he hc
      | some e => exact Or.inr (hN k e hk he).2.1
  · rintro k i j m (⟨rfl, rfl⟩ | ⟨rfl, rfl⟩ | ⟨hk, rfl⟩) hT2 f1 f2 c1 c2 e
    · rw [a1] at f1
      exact absurd f1 (sm 1 i l1)
    · rcases hT2 with ⟨rfl, rfl⟩ | ⟨rfl, rfl⟩ | ⟨hk, rfl⟩
      · rw [a1] at f2
        exact absurd f2 (sm 1 _ l1)
      · exact ⟨rfl, rfl⟩
      · rw [adN_2, adN_n hk] at e
        cases he : cel g ez (adN ad i ea m f) (uN w (lcn i) (m + 1)) Y' j m with
        | none => exact absurd he c2
        | some b => exact absurd e (hN j b hk he).2.2
    · rcases hT2 with ⟨rfl, rfl⟩ | ⟨rfl, rfl⟩ | ⟨hk2, rfl⟩
      · rw [a1] at f2
        exact absurd f2 (sm 1 _ l1)
      · rw [adN_2, adN_n hk] at e
        cases he : cel g ez (adN ad m ea i f) (uN w (lcn m) (i + 1)) Y' k i with
        | none => exact absurd he c1
        | some b => exact absurd e.symm (hN k b hk he).2.2
      · rw [adN_n hk, adN_n hk2] at e
        exact ⟨hj k j hk hk2 c1 c2 e, rfl⟩
  · have old : ∀ e, e < u.2.2.1 35 → ∀ a m, Y'.1 e = some (a, m) → s' a = some (ob 5 (vcl m)) := fun e he a m hm => by
      rw [hM1 e he] at hm
      have hv := h.V he hm
      rw [hfr a (fun z => ?_) (fun z => ?_) (by rw [hv]; exact fun z => by cases z), hv]
      · rw [z, h.L hl] at hv
        cases hv
      · rcases hea with q | ⟨q1, q2⟩
        · rw [z, q] at hv; cases hv
        · rw [z, q2, h.E hl (hn ▸ q1)] at hv
          cases hv
    intro e he a m hm
    by_cases h3 : lcn l = 35
    · have l3 := lcn_inj hl (by decide : 3 < 4) h3
      subst l3
      have hn3 : n = u.2.2.1 35 := hn
      have he2 : e < n + 1 := by
        have q : (uN w (lcn 3) (n + 1)).2.2.1 35 = n + 1 := uN_at
        omega
      by_cases z : e = n
      · exact hM2 rfl a m (z ▸ hm)
      · exact old e (by omega) a m hm
    · rw [uN_ne (fun z => h3 z.symm), hwN] at he
      exact old e he a m hm
  · intro a e he hno
    rw [hfr a (hno 1 l l1) (fun z => ?_) (by rw [he]; exact fun z => by cases z), he]
    rcases hea with q | ⟨q1, q2⟩
    · rw [z, q] at he; cases he
    · exact hno 2 l (l2 q1) (z.trans q2)
  · rintro k i (⟨rfl, rfl⟩ | ⟨rfl, rfl⟩ | ⟨hk, rfl⟩) hc h2
    · exact ⟨by rw [show cel g ez (adN ad i ea n f) (uN w (lcn i) (n + 1)) Y' 1 i = _ from if_pos hl]; exact (fun z => by cases z), a1 _⟩
    · exact absurd rfl h2
    · exact absurd (hk.dead hn h8) hc
  · by_cases e1 : a = ad 1 l
    · rw [e1, hL.1]
      exact fun z => by cases z
    · by_cases e2 : a = ea
      · rw [e2, hL.2.2 (by omega)]
        exact fun z => by cases z
      · rw [hfr a e1 e2 ha]
        exact ha
/-- what is new does not touch it -/
theorem CS.ext {g : Gx} {ez : Nat} {ad : Nat → Nat → Nat} {u : MU} {Y : GS} {sg s' : Sg} (h : CS g ez ad u Y sg) (hf : ∀ a, sg a ≠ none → s' a = sg a) : CS g ez ad u Y s' :=
  ⟨fun k i e he => by rw [hf _ (by rw [h.1 k i e he]; exact fun z => by cases z), h.1 k i e he], h.2.1, fun e he a m hm => by rw [hf _ (by rw [h.2.2 e he a m hm]; exact fun z => by cases z), h.2.2 e he a m hm]⟩
theorem fr_new {sg : Sg} {q : Nat} {e : va_E} (hq : sg q = none) : ∀ a, sg a ≠ none → sgu sg q e a = sg a := fun a ha => sgu_n (fun z => ha (by rw [z]; exact hq))
/-- a new one and the list's growth -/
theorem CS.add {g : Gx} {ez : Nat} {ad : Nat → Nat → Nat} {u w : MU} {Y Y' : GS} {sg s1 s2 : Sg} (hI : CV u) (h : CS g ez ad u Y sg) {l n qa : Nat} {f : Nat → Nat} (hl : l < 4) (hn : n = ln u l) (h8 : l = 1 → n < 8)
    (hwN : w.2.2.1 = u.2.2.1) (hw : ∀ ad k i, ¬ (KK l k ∧ i = n) → cel g ez ad w Y' k i = cel g ez ad u Y k i) (h1 : ∀ a, sg a ≠ none → s1 a = sg a)
    (hq : s1 qa = none ∨ 0 < n ∧ qa = (if ln u l = 0 then ez else ad 2 l)) (hL : LH g ez s2 (ad 1 l) qa (n + 1) (fun j => if j = n then f (lk l) else ad (lk l) j)) (hfr2 : ∀ a, a ≠ qa → a ≠ ad 1 l → s2 a = s1 a)
    (hN : ∀ k e, KK l k → cel g ez (adN ad l qa n f) (uN w (lcn l) (n + 1)) Y' k n = some e → s1 (f k) = some e ∧ sg (f k) = none)
    (hj : ∀ k j, KK l k → KK l j → cel g ez (adN ad l qa n f) (uN w (lcn l) (n + 1)) Y' k n ≠ none → cel g ez (adN ad l qa n f) (uN w (lcn l) (n + 1)) Y' j n ≠ none → f k = f j → k = j)
    (hM1 : ∀ e, e < u.2.2.1 35 → Y'.1 e = Y.1 e) (hM2 : l = 3 → ∀ a m, Y'.1 n = some (a, m) → s1 a = some (ob 5 (vcl m))) : CQ g ez ad u Y sg (uN w (lcn l) (n + 1)) Y' s2 ∧ ∀ q, s1 q ≠ none → sg q = none → s2 q = s1 q := by
  have hea : sg qa = none ∨ 0 < n ∧ qa = ad 2 l := by
    rcases hq with q | ⟨q1, q2⟩
    · left
      cases e : sg qa with
      | none => rfl
      | some b => rw [h1 qa (by rw [e]; exact fun z => by cases z), e] at q; cases q
    · exact Or.inr ⟨q1, by rw [q2, if_neg (by omega)]⟩
  have fr : ∀ q, s1 q ≠ none → sg q = none → s2 q = s1 q ∧ qa ≠ q := fun q e1 e2 => by
    have n1 : qa ≠ q := fun z => by
      rcases hq with q0 | ⟨q1, q2⟩
      · exact e1 (by rw [← z]; exact q0)
      · rw [if_neg (by omega)] at q2
        have := h.E hl (hn ▸ q1)
        rw [← q2, z, e2] at this
        cases this
    refine ⟨hfr2 q (Ne.symm n1) (fun z => ?_), n1⟩
    have := h.L hl
    rw [← z, e2] at this
    cases this
  refine ⟨CS.gr hI h hl hn h8 hwN hw hea hL (fun k e hk he => ?_) hj (fun a a1 a2 a3 => (hfr2 a a2 a1).trans (h1 a a3)) hM1 (fun z a m hm => ?_), fun q e1 e2 => (fr q e1 e2).1⟩
  · obtain ⟨e1, e2⟩ := hN k e hk he
    obtain ⟨f1, f2⟩ := fr (f k) (by rw [e1]; exact fun z => by cases z) e2
    exact ⟨f1.trans e1, e2, f2⟩
  · have e1 := hM2 z a m hm
    rw [hfr2 a (fun y => ?_) (fun y => ?_), e1]
    · rcases hq with q0 | ⟨q1, q2⟩
      · rw [y, q0] at e1; cases e1
      · rw [if_neg (by omega)] at q2
        have e3 := h.E hl (hn ▸ q1)
        rw [y, q2, h1 _ (by rw [e3]; exact fun z => by cases z), e3] at e1
        cases e1
    · have e3 := h.L hl
      rw [y, h1 _ (by rw [e3]; exact fun z => by cases z), e3] at e1
      cases e1
def upPer (u : MU) (y : Int32) (f : Bool) : MU := uI (uI (uI (uI u 3 (u.2.2.1 2) y) 4 (u.2.2.1 2) u.2.2.2.1) 5 (u.2.2.1 2) (b2i f)) 9 (u.2.2.1 2) (-1)
theorem upPer_cel {N : Nat} {g : Gx} {ez : Nat} {ad : Nat → Nat → Nat} {u : MU} {Y : GS} {y : Int32} {f : Bool} (hI : CI N u) (k i : Nat) (hk : ¬ (KK 0 k ∧ i = u.2.2.1 2)) : cel g ez ad (upPer u y f) Y k i = cel g ez ad u Y k i := by
  have hk2 : ∀ r, kdOf r = 3 → ixOf r (u.2.2.1 2) = u.2.2.1 2 → ¬ (kdOf r = k ∧ ixOf r (u.2.2.1 2) = i) := fun r e1 e2 z => hk ⟨Or.inl ⟨rfl, by rw [← z.1, e1]⟩, by rw [← z.2, e2]⟩
  unfold upPer
  rw [cel_uI (((hI.P.u (by decide)).u (by decide)).u (by decide)) hI.W (by decide) (hk2 9 rfl rfl), cel_uI ((hI.P.u (by decide)).u (by decide)) hI.W (by decide) (hk2 5 rfl rfl), cel_uI (hI.P.u (by decide)) hI.W (by decide) (hk2 4 rfl rfl), cel_uI hI.P hI.W (by decide) (hk2 3 rfl rfl)]
theorem upPer_new {N : Nat} {u : MU} {y : Int32} {f : Bool} (hI : CI N u) (hn : u.2.2.1 2 < 12) {ad : Nat → Nat → Nat} {m : Nat} : pcl ad (uN (upPer u y f) 2 m) (u.2.2.1 2) = [.int (nI (u.2.2.1 2)), .int y, .int u.2.2.2.1, .int (b2i f), .int 1, .null, .int 0] := by
  obtain ⟨z6, z8⟩ := hI.f6 (p := u.2.2.1 2) (Nat.le_refl _) hn
  unfold pcl pbits
  have e3 : (uN (upPer u y f) 2 m).1 3 (u.2.2.1 2) = y := by unfold upPer; simp [uN, uI, upd]
  have e4 : (uN (upPer u y f) 2 m).1 4 (u.2.2.1 2) = u.2.2.2.1 := by unfold upPer; simp [uN, uI, upd]
  have e5 : (uN (upPer u y f) 2 m).1 5 (u.2.2.1 2) = b2i f := by unfold upPer; simp [uN, uI, upd]
  have e9 : (uN (upPer u y f) 2 m).1 9 (u.2.2.1 2) = -1 := by unfold upPer; simp [uN, uI, upd]
  have e6 : (uN (upPer u y f) 2 m).1 6 (u.2.2.1 2) = 0 := by rw [← z6]; rfl
  have e8 : (uN (upPer u y f) 2 m).1 8 (u.2.2.1 2) = 0 := by rw [← z8]; rfl
  rw [e3, e4, e5, e9, e6, e8, rfo_m]
  rfl
set_option maxRecDepth 100000 in
theorem F_person {g : Gx} {l : Launch} {ez : Nat} (G : GOK g l ez) {sg : Sg} {ad : Nat → Nat → Nat} {u : MU} {Y : GS} (hS : CS g ez ad u Y sg) {N : Nat} (hI : CI N u) {v : Int32} {f : Bool} : MM g l yX8_person cX8_person 4 (some .int) (rmC 9 12 2000) sg [.ref (ad 0 0), .int v, .int (b2i f)] (OPost g ez ad u Y sg (opPerson u v f)) (OX g ez ad u Y sg x2p (opPerson u v f)) := by
  refine MM.of G.1 G.2.1 (by decide) (Nat.le_of_ble_eq_true rfl) (fun x hg hlx C hin hout hargs => ?_)
  subst hg; subst hlx
  have C : AWC x cX8_person 4 RX8 (rmC 9 12 2000) (some .int) := C
  show AW x (RQ x _ _ _ _) 0 0 sg 0 [(0, .ref (ad 0 0)), (1, .int v), (2, .int (b2i f))] []
  refine aw_iload_n C dX8_person_0 rfl rfl rfl ?_
  refine aw_if_lt (tgt := 10) C dX8_person_1 (by decide) rfl (fun c1 => ?_) (fun c1 => ?_)
  · exact aw_thr C G thA 0 rfl dX8_person_10 dX8_person_13 dX8_person_14 dX8_person_16 dX8_person_19 hout ⟨by decide, (Nat.le_of_ble_eq_true rfl)⟩ (Nat.le_of_ble_eq_true rfl) (Nat.le_of_ble_eq_true rfl) (OX.of (c := 1) (r := 0) (w := u) (by rw [opPerson, if_pos (inB_f.mpr (Or.inl c1))]) (by decide) rfl (CR.rf hS)) (Nat.le_of_ble_eq_true rfl) (Nat.le_of_ble_eq_true rfl)
  · refine aw_iload_n C dX8_person_4 rfl rfl rfl ?_
    refine aw_bipush (v := 99) C dX8_person_5 rfl rfl ?_
    refine aw_icmp_le (tgt := 20) C dX8_person_7 (by decide) rfl (fun c7 => ?_) (fun c7 => ?_)
    · refine aw_aload_n C dX8_person_20 rfl rfl rfl ?_
      refine aw_getf C f_X8_12 hS.O rfl dX8_person_21 rfl ?_
      refine cw_callVp C k_X8_50 (L_size G (n := u.2.2.1 2) (hS.L (i := 0) (by decide))) ⟨by decide, by decide⟩ (ci := 1) rfl (hS.L (i := 0) (by decide)) rfl rfl (Nat.le_of_ble_eq_true rfl) (Nat.le_of_ble_eq_true rfl) (Nat.le_of_ble_eq_true rfl) dX8_person_24 rfl ?_
      refine aw_bipush (v := 12) C dX8_person_27 rfl rfl ?_
      refine aw_icmp_lt (tgt := 42) C dX8_person_29 (by decide) rfl (fun c29 => ?_) (fun c29 => ?_)
      · have hn : u.2.2.1 2 < 12 := by have h12 := hI.n2; exact (nI_ltI (b := 12) (by omega) (by decide)).mp c29
        refine aw_new (fs := [.int 0, .int 0, .int 0, .int 0, .int 0, .null, .int 0]) C cf_X5 h_X8_59 h_new_X5 h_ini_X5 (fun j hj => match j, hj with | 0, _ => rfl | 1, _ => rfl | 2, _ => rfl | 3, _ => rfl | 4, _ => rfl | 5, _ => rfl | 6, _ => rfl | _ + 7, h => absurd h (by omega)) (Nat.le_of_ble_eq_true rfl) (Nat.le_of_ble_eq_true rfl) dX8_person_42 rfl (fun q hq => ?_)
        have hq0 := hq
        have hS0 := hS.ext (fr_new (e := ob 7 [.int 0, .int 0, .int 0, .int 0, .int 0, .null, .int 0]) hq)
        refine aw_dup C dX8_person_45 rfl rfl ?_
        refine aw_aload_n C dX8_person_46 rfl rfl rfl ?_
        refine aw_getf C f_X8_12 hS0.O rfl dX8_person_47 rfl ?_
        refine cw_callVp C k_X8_50 (L_size G (n := u.2.2.1 2) (hS0.L (i := 0) (by decide))) ⟨by decide, by decide⟩ (ci := 1) rfl (hS0.L (i := 0) (by decide)) rfl rfl (Nat.le_of_ble_eq_true rfl) (Nat.le_of_ble_eq_true rfl) (Nat.le_of_ble_eq_true rfl) dX8_person_50 rfl ?_
        refine aw_iload_n C dX8_person_53 rfl rfl rfl ?_
        refine aw_aload_n C dX8_person_54 rfl rfl rfl ?_
        refine aw_getf C f_X8_32 hS0.O rfl dX8_person_55 rfl ?_
        refine aw_iload_n C dX8_person_58 rfl rfl rfl ?_
        refine aw_callIN C k_X8_61 (C_iPerson G sgu_s) ⟨by decide, by decide⟩ rfl rfl (Nat.le_of_ble_eq_true rfl) (Nat.le_of_ble_eq_true rfl) (Nat.le_of_ble_eq_true rfl) dX8_person_59 rfl (fun _ _ q => ax_no q) (fun v1 s1 hq => ?_)
        obtain ⟨rfl, hq1, hfr1⟩ := hq
        have h1 : ∀ a, sg a ≠ none → s1 a = sg a := fun a ha => (hfr1 a (fun z => ha (by rw [z]; exact hq0))).trans (fr_new hq0 a ha)
        have hS1 := hS.ext h1
        have hLs := hS1.L (i := 0) (by decide)
        refine aw_astore_n (ls' := [(3, _), (0, _), (1, _), (2, _)]) C dX8_person_62 rfl (by decide) rfl rfl ?_
        refine aw_aload_n C dX8_person_63 rfl rfl rfl ?_
        refine aw_getf C f_X8_12 hS1.O rfl dX8_person_64 rfl ?_
        refine aw_aload_n C dX8_person_67 rfl rfl rfl ?_
        refine aw_callV C k_X8_64 (L_add G (v := q) (hS1.H (i := 0) (by decide)) (by show u.2.2.1 2 < 109; omega) (ci := 7) rfl (fun i hi => ⟨_, hS1.P hi⟩) hq1) ⟨by decide, by decide⟩ (ci := 1) rfl hLs rfl rfl (Nat.le_of_ble_eq_true rfl) (Nat.le_of_ble_eq_true rfl) (Nat.le_of_ble_eq_true rfl) dX8_person_68 rfl (fun _ _ q => ax_no q) (fun v2 s2 hq2 => ?_)
        obtain ⟨rfl, qa, hqa, hL2, hfr2⟩ := hq2
        obtain ⟨hCQ, hfr⟩ := CS.add (Y' := Y) (w := upPer u v f) (f := fun _ => q) hI.v hS (l := 0) (n := u.2.2.1 2) (by decide) rfl (fun z => by omega) rfl (fun ad k i hk => upPer_cel hI k i hk) h1 hqa hL2 hfr2 (fun k e hk he => by
            obtain rfl : k = 3 := by unfold KK at hk; omega
            rw [show cel x.g ez (adN ad 0 qa (u.2.2.1 2) (fun _ => q)) (uN (upPer u v f) (lcn 0) (u.2.2.1 2 + 1)) Y 3 (u.2.2.1 2) = _ from if_pos (by rw [show (uN (upPer u v f) (lcn 0) (u.2.2.1 2 + 1)).2.2.1 2 = u.2.2.1 2 + 1 from uN_at]; omega)] at he
            rw [← he, show lcn 0 = 2 from rfl, upPer_new hI hn]
            exact ⟨hq1, hq0⟩) (fun k j hk hj _ _ _ => by unfold KK at hk hj; omega) (fun e he => rfl) (fun z => by omega)
        have hCR := CR.of hCQ (fun r => r.fr rfl rfl rfl rfl rfl rfl rfl)
        refine aw_pop C dX8_person_71 rfl rfl ?_
        refine aw_aload_n C dX8_person_72 rfl rfl rfl ?_
        refine aw_getf C f_X8_68 ((hfr q (by rw [hq1]; exact fun z => by cases z) hq0).trans hq1) rfl dX8_person_73 rfl ?_
        exact aw_iret C rfl (Nat.le_of_ble_eq_true rfl) (Nat.le_of_ble_eq_true rfl) (OPost.of (by rw [opPerson, if_neg (by rw [show inB v 0 99 = true from inB_t.mpr ⟨c1, Int32.not_lt.mpr c7⟩]; decide), if_neg (fun z => by rw [show (12 : Int32) = nI 12 from rfl, nI_eq (by omega) (by decide)] at z; omega)]; rfl) hCR) dX8_person_76
      · exact aw_thr C G thS 1 rfl dX8_person_32 dX8_person_35 dX8_person_36 dX8_person_38 dX8_person_41 hout ⟨by decide, (Nat.le_of_ble_eq_true rfl)⟩ (Nat.le_of_ble_eq_true rfl) (Nat.le_of_ble_eq_true rfl) (OX.of (c := 2) (r := 0) (w := u) (by rw [opPerson, if_neg (by rw [show inB v 0 99 = true from inB_t.mpr ⟨c1, Int32.not_lt.mpr c7⟩]; decide), if_pos (show nI (u.2.2.1 2) = 12 from by have h12 := hI.n2; have := mt (nI_ltI (a := u.2.2.1 2) (b := 12) (by omega) (by decide)).mpr c29; rw [show u.2.2.1 2 = 12 by omega]; rfl)]) (by decide) rfl (CR.rf hS)) (Nat.le_of_ble_eq_true rfl) (Nat.le_of_ble_eq_true rfl)
    · exact aw_thr C G thA 0 rfl dX8_person_10 dX8_person_13 dX8_person_14 dX8_person_16 dX8_person_19 hout ⟨by decide, (Nat.le_of_ble_eq_true rfl)⟩ (Nat.le_of_ble_eq_true rfl) (Nat.le_of_ble_eq_true rfl) (OX.of (c := 1) (r := 0) (w := u) (by rw [opPerson, if_pos (inB_f.mpr (Or.inr (Int32.not_le.mp c7)))]) (by decide) rfl (CR.rf hS)) (Nat.le_of_ble_eq_true rfl) (Nat.le_of_ble_eq_true rfl)
