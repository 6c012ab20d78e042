/-! the class's store: what it holds for the reference's state u; names (kind, number) of its cells -/
abbrev Mv : Type := Int32 × Int32 × Int32 × Int32 × Int32
/-- beside u: the entries' moves (address, terms), the things' first owners, the two rows of the trial -/
abbrev GS : Type := (Nat → Option (Nat × Mv)) × (Nat → Nat) × (Nat → Int64) × (Nat → Int64)
def clip {α : Type} (n : Nat) (z : α) (f : Nat → α) : Nat → α := fun j => if j < n then f j else z
def cap (n : Nat) : Nat := if n ≤ 10 then 10 else if n ≤ 15 then 15 else if n ≤ 22 then 22 else if n ≤ 33 then 33 else if n ≤ 49 then 49 else if n ≤ 73 then 73 else 109
/-- the list i holds objects of this kind -/
def lk : Nat → Nat
  | 0 => 3 | 1 => 8 | 2 => 4 | _ => 12
def lcn : Nat → Nat
  | 0 => 2 | 1 => 31 | 2 => 10 | _ => 35
abbrev ln (u : MU) (i : Nat) : Nat := u.2.2.1 (lcn i)
def rfo (f : Nat → Nat) (v : Int32) : Option Nat := if v = -1 then none else some (f v.toNatClampNeg)
/-- the parents among the first m, as bits -/
def pbN (u : MU) (p : Nat) : Nat → Nat
  | 0 => 0
  | m + 1 => pbN u p m ||| 2 ^ (u.1 7 (2 * p + m)).toNatClampNeg
def pbits (u : MU) (p : Nat) : Nat := pbN u p (u.1 8 p).toNatClampNeg
def pcl (ad : Nat → Nat → Nat) (u : MU) (p : Nat) : List Value := [.int (nI p), .int (u.1 3 p), .int (u.1 4 p), .int (u.1 5 p), .int (b2i (decide (u.1 6 p = 0))), va_rf (rfo (ad 3) (u.1 9 p)), .int (nI (pbits u p))]
def dcl (ad : Nat → Nat → Nat) (u : MU) (d : Nat) : List Value := [.int (nI d), .int (u.1 11 d), .ref (ad 3 (u.1 12 d).toNatClampNeg), .ref (ad 3 (u.1 13 d).toNatClampNeg), va_rf (rfo (ad 8) (u.1 14 d)), .int (if u.1 11 d = 3 then 0 else u.1 15 d), .int (if u.1 11 d = 3 then 1 else u.1 16 d), .ref (ad 5 d), va_rf (if u.1 11 d = 3 then some (ad 7 d) else none), .int (u.1 20 d), .int (u.1 21 d), .int (u.1 22 d), .int (u.1 23 d), .int (u.1 24 d), .int (u.1 25 d)]
def ncl (ad : Nat → Nat → Nat) (u : MU) (d : Nat) : List Value := [.int (u.1 17 d), .int (u.1 18 d), .int (u.1 26 d), .int (u.1 27 d), va_rf (rfo (ad 4) (u.1 19 d))]
def ecl (ad : Nat → Nat → Nat) (u : MU) (G : GS) (e : Nat) : List Value := [.int (u.1 36 e), .int (u.1 37 e), .ref (ad 8 (u.1 38 e).toNatClampNeg), .int (u.1 39 e), va_rf ((G.1 e).map (fun q => q.1))]
def ocl (ad : Nat → Nat → Nat) (u : MU) : List Value := [.ref (ad 1 0), .ref (ad 1 1), .ref (ad 1 2), .ref (ad 1 3), .ref (ad 9 8), .int u.2.2.2.1, .int (nI (u.2.2.1 30)), .long u.2.2.2.2]
def vcl (m : Mv) : List Value := [.int m.1, .int m.2.1, .int m.2.2.1, .int m.2.2.2.1, .int m.2.2.2.2]
def lcl (ez : Nat) (ad : Nat → Nat → Nat) (u : MU) (i : Nat) : List Value := [.int (nI (ln u i)), .ref (if ln u i = 0 then ez else ad 2 i), .int (nI (ln u i))]
def cel (g : Gx) (ez : Nat) (ad : Nat → Nat → Nat) (u : MU) (G : GS) : Nat → Nat → Option va_E
  | 0, i => if i = 0 then some (ob 10 (ocl ad u)) else none
  | 1, i => if i < 4 then some (ob 1 (lcl ez ad u i)) else none
  | 2, i => if i < 4 ∧ 0 < ln u i then some (arO g (cap (ln u i)) (clip (ln u i) none (fun j => some (ad (lk i) j)))) else none
  | 3, p => if p < u.2.2.1 2 then some (ob 7 (pcl ad u p)) else none
  | 4, d => if d < u.2.2.1 10 then some (ob 2 (dcl ad u d)) else none
  | 5, d => if d < u.2.2.1 10 then some (ob 6 [.ref (ad 6 d), .int (u.1 29 d)]) else none
  | 6, d => if d < u.2.2.1 10 then some (arI g 4 (clip 4 0 (fun j => u.1 28 (4 * d + j)))) else none
  | 7, d => if d < u.2.2.1 10 ∧ u.1 11 d = 3 then some (ob 4 (ncl ad u d)) else none
  | 8, t => if t < u.2.2.1 31 then some (ob 9 [.int (nI t), .int (nI (G.2.1 t)), .int (u.1 32 t), .ref (ad 9 t)]) else none
  | 9, t => if t < u.2.2.1 31 ∨ t = 8 then some (ob 8 [.ref (ad 10 t), .ref (ad 11 t)]) else none
  | 10, t => if t = 8 then some (arJ g 13 (clip 13 0 G.2.2.1)) else if t < u.2.2.1 31 then some (arJ g 13 (clip 13 0 (fun j => u.2.1 33 (13 * t + j)))) else none
  | 11, t => if t = 8 then some (arJ g 13 (clip 13 0 G.2.2.2)) else if t < u.2.2.1 31 then some (arJ g 13 (clip 13 0 (fun j => u.2.1 34 (13 * t + j)))) else none
  | 12, e => if e < u.2.2.1 35 then some (ob 3 (ecl ad u G e)) else none
  | _, _ => none
/-- the store holds the class's object at ad 0 0 -/
def CS (g : Gx) (ez : Nat) (ad : Nat → Nat → Nat) (u : MU) (G : GS) (sg : Sg) : Prop :=
  (∀ k i e, cel g ez ad u G k i = some e → sg (ad k i) = some e) ∧ (∀ k i j n, cel g ez ad u G k i ≠ none → cel g ez ad u G j n ≠ none → ad k i = ad j n → k = j ∧ i = n) ∧ ∀ e, e < u.2.2.1 35 → ∀ a m, G.1 e = some (a, m) → sg a = some (ob 5 (vcl m))
theorem cel_n5 {g : Gx} {ez : Nat} {ad : Nat → Nat → Nat} {u : MU} {G : GS} {k i : Nat} {fs : List Value} : cel g ez ad u G k i ≠ some (ob 5 fs) := by
  intro h
  match k with
  | 0 | 1 | 2 | 3 | 4 | 5 | 6 | 7 | 8 | 9 | 12 =>
    simp only [cel] at h
    split at h
    · simp at h
    · cases h
  | 10 | 11 =>
    simp only [cel] at h
    split at h
    · simp at h
    · split at h
      · simp at h
      · cases h
  | _ + 13 => simp [cel] at h
section CSA
variable {g : Gx} {ez : Nat} {ad : Nat → Nat → Nat} {u : MU} {G : GS} {sg : Sg}
theorem CS.O (h : CS g ez ad u G sg) : sg (ad 0 0) = some (ob 10 (ocl ad u)) := h.1 0 0 _ rfl
theorem CS.L (h : CS g ez ad u G sg) {i : Nat} (hi : i < 4) : sg (ad 1 i) = some (ob 1 (lcl ez ad u i)) := h.1 1 i _ (if_pos hi)
theorem CS.E (h : CS g ez ad u G sg) {i : Nat} (hi : i < 4) (hn : 0 < ln u i) : sg (ad 2 i) = some (arO g (cap (ln u i)) (clip (ln u i) none (fun j => some (ad (lk i) j)))) := h.1 2 i _ (if_pos ⟨hi, hn⟩)
theorem CS.P (h : CS g ez ad u G sg) {p : Nat} (hp : p < u.2.2.1 2) : sg (ad 3 p) = some (ob 7 (pcl ad u p)) := h.1 3 p _ (if_pos hp)
theorem CS.D (h : CS g ez ad u G sg) {d : Nat} (hd : d < u.2.2.1 10) : sg (ad 4 d) = some (ob 2 (dcl ad u d)) := h.1 4 d _ (if_pos hd)
theorem CS.Pp (h : CS g ez ad u G sg) {d : Nat} (hd : d < u.2.2.1 10) : sg (ad 5 d) = some (ob 6 [.ref (ad 6 d), .int (u.1 29 d)]) := h.1 5 d _ (if_pos hd)
theorem CS.Gr (h : CS g ez ad u G sg) {d : Nat} (hd : d < u.2.2.1 10) : sg (ad 6 d) = some (arI g 4 (clip 4 0 (fun j => u.1 28 (4 * d + j)))) := h.1 6 d _ (if_pos hd)
theorem CS.M (h : CS g ez ad u G sg) {d : Nat} (hd : d < u.2.2.1 10) (hk : u.1 11 d = 3) : sg (ad 7 d) = some (ob 4 (ncl ad u d)) := h.1 7 d _ (if_pos ⟨hd, hk⟩)
theorem CS.T (h : CS g ez ad u G sg) {t : Nat} (ht : t < u.2.2.1 31) : sg (ad 8 t) = some (ob 9 [.int (nI t), .int (nI (G.2.1 t)), .int (u.1 32 t), .ref (ad 9 t)]) := h.1 8 t _ (if_pos ht)
theorem CS.S (h : CS g ez ad u G sg) {t : Nat} (ht : t < u.2.2.1 31 ∨ t = 8) : sg (ad 9 t) = some (ob 8 [.ref (ad 10 t), .ref (ad 11 t)]) := h.1 9 t _ (if_pos ht)
theorem CS.En (h : CS g ez ad u G sg) {e : Nat} (he : e < u.2.2.1 35) : sg (ad 12 e) = some (ob 3 (ecl ad u G e)) := h.1 12 e _ (if_pos he)
theorem CS.V (h : CS g ez ad u G sg) {e a : Nat} {m : Mv} (he : e < u.2.2.1 35) (hm : G.1 e = some (a, m)) : sg a = some (ob 5 (vcl m)) := h.2.2 e he a m hm
/-- one cell's change -/
theorem CS.put (h : CS g ez ad u G sg) {u' : MU} {G' : GS} {k i : Nat} {e e' : va_E} (hc : cel g ez ad u G k i = some e) (hc' : cel g ez ad u' G' k i = some e') (ho : ∀ j n, ¬ (j = k ∧ n = i) → cel g ez ad u' G' j n = cel g ez ad u G j n) (h35 : u'.2.2.1 35 = u.2.2.1 35) (hG : G'.1 = G.1) : CS g ez ad u' G' (sgu sg (ad k i) e') := by
  obtain ⟨h1, h2, h3⟩ := h
  have hne : cel g ez ad u G k i ≠ none := by rw [hc]; exact fun z => by cases z
  have lv : ∀ j n, cel g ez ad u' G' j n ≠ none → cel g ez ad u G j n ≠ none := fun j n hz => by
    by_cases z : j = k ∧ n = i
    · obtain ⟨rfl, rfl⟩ := z; exact hne
    · rw [ho j n z] at hz; exact hz
  refine ⟨fun j n b hb => ?_, fun j n j' n' ha hb he => h2 j n j' n' (lv j n ha) (lv j' n' hb) he, fun b hb a m hm => ?_⟩
  · by_cases z : j = k ∧ n = i
    · obtain ⟨rfl, rfl⟩ := z
      rw [hc'] at hb
      cases hb
      exact sgu_s
    · rw [ho j n z] at hb
      rw [sgu_n (fun y => z (h2 j n k i (by rw [hb]; exact fun w => by cases w) hne y))]
      exact h1 j n b hb
  · rw [h35] at hb
    rw [hG] at hm
    have h4 := h3 b hb a m hm
    rw [sgu_n (fun z => ?_)]
    · exact h4
    · rw [z, h1 k i e hc] at h4
      cases h4
      exact cel_n5 hc
/-- the same cells: the same store -/
theorem CS.same (h : CS g ez ad u G sg) {u' : MU} (ho : ∀ j n, cel g ez ad u' G j n = cel g ez ad u G j n) (h35 : u'.2.2.1 35 = u.2.2.1 35) : CS g ez ad u' G sg :=
  ⟨fun k i e he => h.1 k i e (by rw [← ho]; exact he), fun k i j n a b c => h.2.1 k i j n (by rw [← ho]; exact a) (by rw [← ho]; exact b) c, fun e he => h.2.2 e (by rw [← h35]; exact he)⟩
end CSA
theorem uI_ne {u : MU} {r i a j : Nat} {v : Int32} (h : ¬ (r = a ∧ i = j)) : (uI u r i v).1 a j = u.1 a j := by
  show (if a = r then upd (u.1 r) i v else u.1 a) j = _
  by_cases z : a = r
  · subst z
    rw [if_pos rfl, upd, if_neg (fun y => h ⟨rfl, y.symm⟩)]
  · rw [if_neg z]
theorem uI_at {u : MU} {r i : Nat} {v : Int32} : (uI u r i v).1 r i = v := by
  show (if r = r then upd (u.1 r) i v else u.1 r) i = _
  rw [if_pos rfl, upd, if_pos rfl]
theorem uJ_ne {u : MU} {r i a j : Nat} {v : Int64} (h : ¬ (r = a ∧ i = j)) : (uJ u r i v).2.1 a j = u.2.1 a j := by
  show (if a = r then vp_updL (u.2.1 r) i v else u.2.1 a) j = _
  by_cases z : a = r
  · subst z
    rw [if_pos rfl, vp_updL, if_neg (fun y => h ⟨rfl, y.symm⟩)]
  · rw [if_neg z]
theorem uJ_at {u : MU} {r i : Nat} {v : Int64} : (uJ u r i v).2.1 r i = v := by
  show (if r = r then vp_updL (u.2.1 r) i v else u.2.1 r) i = _
  rw [if_pos rfl, vp_updL, if_pos rfl]
/-- the kind of cell that holds a row, and its number -/
def kdOf (r : Nat) : Nat := if r < 10 then 3 else if r = 17 ∨ r = 18 ∨ r = 19 ∨ r = 26 ∨ r = 27 then 7 else if r < 26 then 4 else if r = 28 then 6 else if r = 29 then 5 else if r = 32 then 8 else if r = 33 then 10 else if r = 34 then 11 else if 36 ≤ r ∧ r ≤ 39 then 12 else 99
def ixOf (r i : Nat) : Nat := if r = 7 then i / 2 else if r = 28 then i / 4 else if r = 33 ∨ r = 34 then i / 13 else i
theorem pbN_ne {u : MU} {r i p m : Nat} {v : Int32} (h : ¬ (kdOf r = 3 ∧ ixOf r i = p)) (hm : m ≤ 2) : pbN (uI u r i v) p m = pbN u p m := by
  induction m with
  | zero => rfl
  | succ m ih =>
    rw [pbN, pbN, ih (by omega), uI_ne (fun z => h ?_)]
    obtain ⟨rfl, rfl⟩ := z
    exact ⟨rfl, by show (2 * p + m) / 2 = p; omega⟩
theorem pbN_I {w u : MU} (h : w.1 = u.1) {p m : Nat} : pbN w p m = pbN u p m := by
  induction m with
  | zero => rfl
  | succ m ih => rw [pbN, pbN, ih, h]
theorem pcl_I {ad : Nat → Nat → Nat} {w u : MU} (h : w.1 = u.1) {p : Nat} : pcl ad w p = pcl ad u p := by
  unfold pcl pbits
  rw [pbN_I h, h]
theorem cel_uI {g : Gx} {ez : Nat} {ad : Nat → Nat → Nat} {u : MU} {G : GS} {r i k j : Nat} {v : Int32} (hP : WP u) (hW : WN u) (hr : r ≠ 11) (h : ¬ (kdOf r = k ∧ ixOf r i = j)) : cel g ez ad (uI u r i v) G k j = cel g ez ad u G k j := by
  have E : ∀ a n, kdOf a = k → ixOf a n = j → (uI u r i v).1 a n = u.1 a n := fun a n e1 e2 => uI_ne (fun z => h ⟨by rw [z.1]; exact e1, by rw [z.1, z.2]; exact e2⟩)
  have E11 : ∀ n, (uI u r i v).1 11 n = u.1 11 n := fun n => uI_ne (fun z => hr z.1)
  match k with
  | 0 => rfl
  | 1 => rfl
  | 2 => rfl
  | 3 =>
    show (if j < u.2.2.1 2 then _ else _) = (if j < u.2.2.1 2 then _ else _)
    by_cases hj : j < u.2.2.1 2
    · rw [if_pos hj, if_pos hj]
      have e8 := E 8 j rfl rfl
      have h12 := hW.1
      obtain ⟨m, hm, em⟩ := hP j (by omega)
      unfold pcl pbits
      rw [e8, em, nI_clamp (by omega), pbN_ne h hm, E 3 j rfl rfl, E 4 j rfl rfl, E 5 j rfl rfl, E 6 j rfl rfl, E 9 j rfl rfl]
    · rw [if_neg hj, if_neg hj]
  | 4 =>
    show (if j < u.2.2.1 10 then some (ob 2 (dcl ad (uI u r i v) j)) else none) = _
    unfold dcl
    rw [E11, E 12 j rfl rfl, E 13 j rfl rfl, E 14 j rfl rfl, E 15 j rfl rfl, E 16 j rfl rfl, E 20 j rfl rfl, E 21 j rfl rfl, E 22 j rfl rfl, E 23 j rfl rfl, E 24 j rfl rfl, E 25 j rfl rfl]
    rfl
  | 5 =>
    show (if j < u.2.2.1 10 then some (ob 6 [.ref (ad 6 j), .int ((uI u r i v).1 29 j)]) else none) = _
    rw [E 29 j rfl rfl]
    rfl
  | 6 =>
    show (if j < u.2.2.1 10 then some (arI g 4 (clip 4 0 (fun n => (uI u r i v).1 28 (4 * j + n)))) else none) = _
    rw [show clip 4 0 (fun n => (uI u r i v).1 28 (4 * j + n)) = clip 4 0 (fun n => u.1 28 (4 * j + n)) from funext fun n => by
      unfold clip
      by_cases hn : n < 4
      · rw [if_pos hn, if_pos hn]
        exact E 28 (4 * j + n) rfl (by show (4 * j + n) / 4 = j; omega)
      · rw [if_neg hn, if_neg hn]]
    rfl
  | 7 =>
    show (if j < u.2.2.1 10 ∧ (uI u r i v).1 11 j = 3 then some (ob 4 (ncl ad (uI u r i v) j)) else none) = _
    unfold ncl
    rw [E11, E 17 j rfl rfl, E 18 j rfl rfl, E 19 j rfl rfl, E 26 j rfl rfl, E 27 j rfl rfl]
    rfl
  | 8 =>
    show (if j < u.2.2.1 31 then some (ob 9 [.int (nI j), .int (nI (G.2.1 j)), .int ((uI u r i v).1 32 j), .ref (ad 9 j)]) else none) = _
    rw [E 32 j rfl rfl]
    rfl
  | 9 => rfl
  | 10 => rfl
  | 11 => rfl
  | 12 =>
    show (if j < u.2.2.1 35 then some (ob 3 (ecl ad (uI u r i v) G j)) else none) = _
    unfold ecl
    rw [E 36 j rfl rfl, E 37 j rfl rfl, E 38 j rfl rfl, E 39 j rfl rfl]
    rfl
  | _ + 13 => rfl
theorem cel_uJ {g : Gx} {ez : Nat} {ad : Nat → Nat → Nat} {u : MU} {G : GS} {r i k j : Nat} {v : Int64} (h : ¬ (kdOf r = k ∧ ixOf r i = j)) : cel g ez ad (uJ u r i v) G k j = cel g ez ad u G k j := by
  have E : ∀ a n, kdOf a = k → ixOf a n = j → (uJ u r i v).2.1 a n = u.2.1 a n := fun a n e1 e2 => uJ_ne (fun z => h ⟨by rw [z.1]; exact e1, by rw [z.1, z.2]; exact e2⟩)
  match k with
  | 0 | 1 | 2 | 4 | 5 | 6 | 7 | 8 | 9 | 12 => rfl
  | 3 =>
    show (if j < u.2.2.1 2 then some (ob 7 (pcl ad (uJ u r i v) j)) else none) = _
    rw [pcl_I (w := uJ u r i v) (u := u) rfl]
    rfl
  | 10 =>
    show (if j = 8 then some (arJ g 13 (clip 13 0 G.2.2.1)) else if j < u.2.2.1 31 then some (arJ g 13 (clip 13 0 (fun n => (uJ u r i v).2.1 33 (13 * j + n)))) else none) = _
    rw [show clip 13 0 (fun n => (uJ u r i v).2.1 33 (13 * j + n)) = clip 13 0 (fun n => u.2.1 33 (13 * j + n)) from funext fun n => by
      unfold clip
      by_cases hn : n < 13
      · rw [if_pos hn, if_pos hn]
        exact E 33 (13 * j + n) rfl (by show (13 * j + n) / 13 = j; omega)
      · rw [if_neg hn, if_neg hn]]
    rfl
  | 11 =>
    show (if j = 8 then some (arJ g 13 (clip 13 0 G.2.2.2)) else if j < u.2.2.1 31 then some (arJ g 13 (clip 13 0 (fun n => (uJ u r i v).2.1 34 (13 * j + n)))) else none) = _
    rw [show clip 13 0 (fun n => (uJ u r i v).2.1 34 (13 * j + n)) = clip 13 0 (fun n => u.2.1 34 (13 * j + n)) from funext fun n => by
      unfold clip
      by_cases hn : n < 13
      · rw [if_pos hn, if_pos hn]
        exact E 34 (13 * j + n) rfl (by show (13 * j + n) / 13 = j; omega)
      · rw [if_neg hn, if_neg hn]]
    rfl
  | _ + 13 => rfl
theorem cel_uD {g : Gx} {ez : Nat} {ad : Nat → Nat → Nat} {u : MU} {G : GS} {k j : Nat} {v : Int32} (h : k ≠ 0) : cel g ez ad (uD u v) G k j = cel g ez ad u G k j := by
  match k, h with
  | 0, h => exact absurd rfl h
  | 3, _ =>
    show (if j < u.2.2.1 2 then some (ob 7 (pcl ad (uD u v) j)) else none) = _
    rw [pcl_I (w := uD u v) (u := u) rfl]
    rfl
  | 1, _ | 2, _ | 4, _ | 5, _ | 6, _ | 7, _ | 8, _ | 9, _ | 10, _ | 11, _ | 12, _ | _ + 13, _ => rfl
theorem cel_uT {g : Gx} {ez : Nat} {ad : Nat → Nat → Nat} {u : MU} {G : GS} {k j : Nat} {v : Int64} (h : k ≠ 0) : cel g ez ad (uT u v) G k j = cel g ez ad u G k j := by
  match k, h with
  | 0, h => exact absurd rfl h
  | 3, _ =>
    show (if j < u.2.2.1 2 then some (ob 7 (pcl ad (uT u v) j)) else none) = _
    rw [pcl_I (w := uT u v) (u := u) rfl]
    rfl
  | 1, _ | 2, _ | 4, _ | 5, _ | 6, _ | 7, _ | 8, _ | 9, _ | 10, _ | 11, _ | 12, _ | _ + 13, _ => rfl
theorem cel_uN30 {g : Gx} {ez : Nat} {ad : Nat → Nat → Nat} {u : MU} {G : GS} {k j n : Nat} (h : k ≠ 0) : cel g ez ad (uN u 30 n) G k j = cel g ez ad u G k j := by
  match k, h with
  | 0, h => exact absurd rfl h
  | 1, _ =>
    show (if j < 4 then some (ob 1 (lcl ez ad (uN u 30 n) j)) else none) = (if j < 4 then some (ob 1 (lcl ez ad u j)) else none)
    have e : ln (uN u 30 n) j = ln u j := by
      match j with
      | 0 | 1 | 2 | _ + 3 => rfl
    unfold lcl
    rw [e]
  | 2, _ =>
    have e : ln (uN u 30 n) j = ln u j := by
      match j with
      | 0 | 1 | 2 | _ + 3 => rfl
    show (if j < 4 ∧ 0 < ln (uN u 30 n) j then some (arO g (cap (ln (uN u 30 n) j)) (clip (ln (uN u 30 n) j) none (fun j1 => some (ad (lk j) j1)))) else none) = _
    rw [e]
    rfl
  | 3, _ =>
    show (if j < u.2.2.1 2 then some (ob 7 (pcl ad (uN u 30 n) j)) else none) = _
    rw [pcl_I (w := uN u 30 n) (u := u) rfl]
    rfl
  | 4, _ | 5, _ | 6, _ | 7, _ | 8, _ | 9, _ | 10, _ | 11, _ | 12, _ | _ + 13, _ => rfl
