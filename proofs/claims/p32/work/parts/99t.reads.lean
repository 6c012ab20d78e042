/-! what the class tells, in the law's numbers -/
def n_same_140_s0 (k : Nat) : Int32 := (if k < 6 then (nI k) else (-1))
def n_same_446_s0 (L : ZU) (d : Nat) : Nat := (if 9 < (L.1 6 d) then 2 else 1)
def n_same_531_s0 (L : ZU) (d : Nat) : Int32 := (if ((L.1 5 d) % 4) = 0 then (-1) else (nI (L.1 7 d)))
def n_same_610_s0 (L : ZU) (d : Nat) : Bool := (if ((L.1 1 d) % 8) = 3 then (if (n_good L d) = true then true else false) else false)
def n_same_657_s0 (L : ZU) (d : Nat) : Nat := (if ((L.1 5 d) % 4) = 0 then 46 else 44)
def n_same_704_s0 (L : ZU) (d : Nat) : Nat := (if ((L.1 5 d) % 4) = 0 then 46 else (if ((L.1 5 d) % 4) = 1 then 102 else (if ((L.1 5 d) % 4) = 2 then 108 else 118)))
theorem dg_last : ∀ m, m < 61 → ((48 + (if digits (nI m) ≤ nI (if 9 < m then 2 else 1) then nI m - nI m / 10 * 10 else nI m / 10)).toUInt32 % 65536).toInt32 = nI (48 + m % 10) ∧ digits (nI m) = nI (if 9 < m then 2 else 1) := by decide +kernel
/-- the law's rows and the class in one store -/
def SV (g : Gx) (ez : Nat) (al : Nat → Nat) (q : Nat) (u : MU) (L : ZU) (sg : Sg) : Prop := ∃ ad Y, CS g ez ad u Y sg ∧ ad 0 0 = q ∧ ZS g al L sg
theorem SV.M {g : Gx} {ez : Nat} {al : Nat → Nat} {q : Nat} {u : MU} {L : ZU} {sg : Sg} (h : SV g ez al q u L sg) : ZS g al L sg := by
  obtain ⟨ad, Y, -, -, hM⟩ := h
  exact hM
/-- a call that changes nothing -/
theorem aw_ro {x : Cx} {Q : State → Prop} {k n : Nat} {sg : Sg} {pc pc' : Nat} {ls : List (Nat × Value)} {st st0 As : List Value} {cc : ByteArray} {nL : Nat} {own : String} {R : Room} {ret : Option FieldType} {idx : Nat} {y : MethodName} {bytes : ByteArray} {maxL np ez q : Nat} {rt : Option FieldType} {al : Nat → Nat} {u : MU} {L : ZU} {T : u_T} {Nn : Nat} {o : Op} {xn : Int32 → String} {r : Int32} (C : AWC x cc nL own R ret) (K : KV own idx y bytes maxL rt np) (hV : SV x.g ez al q u L sg) (hF : ∀ ad Y, CS x.g ez ad u Y sg → MM x.g x.l y bytes maxL rt (rmC 9 8 60) sg (.ref (ad 0 0) :: As) (OPost x.g ez ad u Y sg o) (OX x.g ez ad u Y sg xn o)) (ho : o = (0, r, u)) (hR : RmOk (rmC 9 8 60) R maxL) (hci : vwCl[10]? = some (y.cls, T, Nn)) (hn : As.length = np) (hst : st0 = As.reverse ++ .ref q :: st) (hW : (st.map fun v => v.category).sum ≤ 8) (hc : k + 8 ≤ R.cells) (hsl : n + 60 ≤ R.slots) (hdg : decode cc pc = .ok (.invokevirtual idx, 3)) (hpc : pc + 3 = pc') (kk : ∀ sg', SV x.g ez al q u L sg' → AW x Q (k + 8) (n + 60) sg' pc' ls (.int r :: st)) : AW x Q k n sg pc ls st0 := by
  obtain ⟨ad, Y, hS, rfl, hM⟩ := hV
  subst ho
  refine aw_callV C K (hF ad Y hS) hR hci hS.O hn hst hW hc hsl hdg hpc (fun E s hx => absurd rfl hx.1) (fun v s hq => ?_)
  obtain ⟨-, rfl, hC⟩ := hq
  have hM' := hM.keepC hS hC.fr
  obtain ⟨ad', Y', hS', e0, -⟩ := hC
  exact kk s ⟨ad', Y', hS', e0, hM'⟩
section RDS
variable {L : ZU} {u : MU} {N : Nat}
theorem q_isAble (hZ : CZ N u) (h : ZR L u) {p : Nat} (hp : p < 6) : opIsAble u (nI p) = (0, b2i (n_able L p), u) := by
  rw [opIsAble, if_neg (h.isp hZ hp), nI_clamp (by omega), r_able h hp]
theorem ZR.ist (h : ZR L u) (hZ : CZ N u) {t : Nat} (ht : t < 2) : isTh u (nI t) = true := isTh_in hZ.1.W (by rw [h.nt]; exact ht)
theorem q_share (hZ : CZ N u) (h : ZR L u) {t k : Nat} (ht : t < 2) (hk : k < 7) : opShare u (nI t) (n_same_140_s0 k) true = (0, nI (n_below (L.2 ((7 * t) + k))), u) ∧ opShare u (nI t) (n_same_140_s0 k) false = (0, nI ((L.2 ((7 * t) + k)) / (PARTS / (n_below (L.2 ((7 * t) + k))))), u) := by
  obtain ⟨f1, -, -, e33, e34⟩ := h.ff hZ ht hk
  have hi : 13 * (nI t).toNatClampNeg + (if n_same_140_s0 k = -1 then 12 else (n_same_140_s0 k).toNatClampNeg) = 13 * t + kk k := by
    rw [nI_clamp (by omega), n_same_140_s0]
    by_cases z : k < 6
    · rw [if_pos z, if_neg (nI_nm1 (by omega)), nI_clamp (by omega), kk_6 z]
    · rw [if_neg z, if_pos rfl, show k = 6 by omega]
      rfl
  have hg : ¬ (isTh u (nI t) = false ∨ (¬ n_same_140_s0 k = -1 ∧ isP u (n_same_140_s0 k) = false)) := by
    rw [h.ist hZ ht]
    rintro (q | ⟨q1, q2⟩)
    · cases q
    · rw [n_same_140_s0] at q1 q2
      by_cases z : k < 6
      · rw [if_pos z] at q2
        exact h.isp hZ z q2
      · rw [if_neg z] at q1
        exact q1 rfl
  rw [opShare, opShare, if_neg hg, if_neg hg, hi, if_pos rfl, if_neg (show ¬ false = true by decide), e33, e34, lN_i, lN_i, f1.num.1, f1.below]
  exact ⟨rfl, rfl⟩
/-- the pledges of a thing among the first e entries -/
def rkN (L : ZU) (t : Nat) : Nat → Nat
  | 0 => 0
  | e + 1 => rkN L t e + (if (L.1 12 e) % 8 = 2 ∧ (L.1 12 e) / 512 = t then 1 else 0)
theorem rkN_le {t : Nat} (e : Nat) : rkN L t e ≤ e := by
  induction e with
  | zero => exact Nat.le_refl _
  | succ e ih => rw [rkN]; split <;> omega
theorem ent_pl (h : ZR L u) {t e : Nat} (ht : t < 2) (he : e < L.1 10 3) : (u.1 36 e = 2 ∧ u.1 38 e = nI t) ↔ ((L.1 12 e) % 8 = 2 ∧ (L.1 12 e) / 512 = t) := by
  obtain ⟨a, b, c, d⟩ := h.e he
  rw [b, d, show (2 : Int32) = nI 2 from rfl, nIe (by omega) (by decide), nIe (by omega) (by omega)]
theorem plg_at (h : ZR L u) {t : Nat} (ht : t < 2) (j e : Nat) (he : e ≤ L.1 10 3) : plg u (nI t) 101 0 (rkN L t e + j) = plg u (nI t) (101 - e) e j := by
  have hn := h.ne
  induction e generalizing j with
  | zero => rw [rkN, Nat.zero_add]
  | succ e ih =>
    have hx := ent_pl h ht (e := e) (by omega)
    have e1 : 101 - e = (101 - (e + 1)) + 1 := by omega
    rw [rkN]
    by_cases z : (L.1 12 e) % 8 = 2 ∧ (L.1 12 e) / 512 = t
    · rw [if_pos z, show rkN L t e + 1 + j = rkN L t e + (j + 1) by omega, ih (j + 1) (by omega), e1, plg, if_pos (by omega), if_pos (hx.mpr z), if_neg (Nat.succ_ne_zero j), Nat.add_sub_cancel]
    · rw [if_neg z, Nat.add_zero, ih j (by omega), e1, plg, if_pos (by omega), if_neg (fun q => z (hx.mp q))]
theorem q_pledge (hZ : CZ N u) (h : ZR L u) {t e : Nat} (ht : t < 2) (he : e < L.1 10 3) (hp : (L.1 12 e) % 8 = 2 ∧ (L.1 12 e) / 512 = t) : opPledge u (nI t) (nI (rkN L t e)) = (0, nI (((L.1 12 e) / 8) % 64), u) := by
  have hn := h.ne
  have hr := rkN_le (L := L) (t := t) e
  have e1 : 101 - e = (101 - (e + 1)) + 1 := by omega
  have k : plg u (nI t) 101 0 (rkN L t e) = u.1 37 e := (plg_at h ht 0 e (by omega)).trans (by rw [e1, plg, if_pos (by omega), if_pos ((ent_pl h ht he).mpr hp), if_pos rfl])
  rw [opPledge, if_neg (by rw [h.ist hZ ht]; rintro (q | q); cases q; exact nI_pos (by omega) q), nI_clamp (by omega), k, (h.e he).2.2.1]
theorem q_pledge0 (hZ : CZ N u) (h : ZR L u) {t : Nat} (ht : t < 2) : opPledge u (nI t) (nI (rkN L t (L.1 10 3))) = (0, -1, u) := by
  have hn := h.ne
  have hr := rkN_le (L := L) (t := t) (L.1 10 3)
  have e1 : 101 - (L.1 10 3) = (101 - (L.1 10 3 + 1)) + 1 := by omega
  have k : plg u (nI t) 101 0 (rkN L t (L.1 10 3)) = -1 := (plg_at h ht 0 (L.1 10 3) (Nat.le_refl _)).trans (by rw [e1, plg, if_neg (by omega)])
  rw [opPledge, if_neg (by rw [h.ist hZ ht]; rintro (q | q); cases q; exact nI_pos (by omega) q), nI_clamp (by omega), k]
theorem q_entry (hZ : CZ N u) (h : ZR L u) {e : Nat} (he : e < L.1 10 3) : opEntry u (nI e) (nI 0) = (0, nI ((L.1 12 e) % 8), u) ∧ opEntry u (nI e) (nI 1) = (0, nI (((L.1 12 e) / 8) % 64), u) ∧ opEntry u (nI e) (nI 2) = (0, nI ((L.1 12 e) / 512), u) := by
  have hn := h.ne
  obtain ⟨a, b, c, d⟩ := h.e he
  have hi : ¬ isEn u (nI e) = false := by
    rw [isEn_in hZ.1.W (by omega)]
    decide
  have hco : (nI e).toNatClampNeg = e := nI_clamp (by omega)
  rw [opEntry, opEntry, opEntry, if_neg hi, if_neg hi, if_neg hi, hco, b, c, d]
  exact ⟨rfl, rfl, rfl⟩
theorem q_deed (hZ : CZ N u) (h : ZR L u) {d : Nat} (hd : d < L.1 10 1) : opDeed u (nI d) (nI 0) = (0, nI ((L.1 5 d) % 4), u) ∧ opDeed u (nI d) (nI 1) = (0, nI ((L.1 1 d) % 8), u) ∧ opDeed u (nI d) (nI 2) = (0, nI ((L.1 4 d) % 32), u) ∧ opDeed u (nI d) (nI 3) = (0, nI (L.1 6 d), u) ∧ opDeed u (nI d) (nI 4) = (0, n_same_531_s0 L d, u) ∧ opDeed u (nI d) (nI 5) = (0, nI (L.1 8 d) - 1, u) := by
  have D := h.d hd
  have hnd := h.nd
  have hi := h.isd hZ hd
  have hco : (nI d).toNatClampNeg = d := nI_clamp (by omega)
  have e24 : u.1 24 d = n_same_531_s0 L d := D.dy
  rw [opDeed, opDeed, opDeed, opDeed, opDeed, opDeed, if_neg hi, if_neg hi, if_neg hi, if_neg hi, if_neg hi, if_neg hi, hco, D.st.1, D.kd.2, D.pa.1, D.nr, e24, D.et.2]
  exact ⟨rfl, rfl, rfl, rfl, rfl, rfl⟩
theorem q_proof (hZ : CZ N u) (h : ZR L u) {d : Nat} (hd : d < L.1 10 1) : opProof u (nI d) = (0, nI (n_lst (L.1 9 d)) - 1, u) := by
  have hnd := h.nd
  rw [opProof, if_neg (h.isd hZ hd), nI_clamp (by omega), ← r_least h hd, n_least_k]
theorem n_goodN_f : ∀ r c, n_goodN L r c false = false := fun r => by
  induction r with
  | zero => intro c; rfl
  | succ r ih => intro c; rw [n_goodN]; split; rfl; rw [Bool.false_and]; exact ih _
theorem q_isGood (hZ : CZ N u) (h : ZR L u) {d : Nat} (hd : d < L.1 10 1) : opIsGood u (nI d) = (0, b2i (n_same_610_s0 L d), u) := by
  have hnd := h.nd
  have e : good u d = n_same_610_s0 L d := by
    rw [← r_good h hZ.1 hd, n_same_610_s0]
    by_cases z : (L.1 1 d) % 8 = 3
    · rw [if_pos z]
      cases n_good L d <;> rfl
    · have ha : n_alone L d = false := by
        rw [n_alone, n_alone_110_s0, if_neg z]
      rw [if_neg z, n_good, ha]
      exact n_goodN_f _ _
  rw [opIsGood, if_neg (h.isd hZ hd), nI_clamp (by omega), e]
theorem q_label (hZ : CZ N u) (h : ZR L u) {d : Nat} (hd : d < L.1 10 1) : opLabel u (nI d) (nI (n_same_446_s0 L d)) = (0, nI (48 + ((L.1 6 d) % 10)), u) ∧ opLabel u (nI d) (nI (n_same_446_s0 L d + 1)) = (0, nI (n_same_657_s0 L d), u) ∧ opLabel u (nI d) (nI (n_same_446_s0 L d + 2)) = (0, nI (n_same_704_s0 L d), u) := by
  have D := h.d hd
  have hnd := h.nd
  have b6 := h.B 6 d
  have hco : (nI d).toNatClampNeg = d := nI_clamp (by omega)
  have hm : L.1 6 d < 61 := by
    have e6 : nm u d = L.1 6 d := by rw [nm, D.nr]; exact nI_clamp (by omega)
    have := (hZ.1.I.B d (by omega)).1
    omega
  obtain ⟨l1, l2⟩ := dg_last (L.1 6 d) hm
  obtain ⟨g, hg⟩ : ∃ g, g = n_same_446_s0 L d := ⟨_, rfl⟩
  rw [← show g = if 9 < L.1 6 d then 2 else 1 from hg] at l1 l2
  rw [← hg]
  have g12 : g = 1 ∨ g = 2 := by
    rw [hg, n_same_446_s0]
    split
    · exact Or.inr rfl
    · exact Or.inl rfl
  have hi : ∀ w, w < 8 → ¬ (isDd u (nI d) = false ∨ nI w < 0) := fun w hw => by
    rintro (q | q)
    · exact h.isd hZ hd q
    · exact nI_pos (by omega) q
  have s0 : u.1 22 d = 0 ↔ L.1 5 d % 4 = 0 := r_22 h hd 0 (by decide)
  have s1 : u.1 22 d = 1 ↔ L.1 5 d % 4 = 1 := r_22 h hd 1 (by decide)
  have s2 : u.1 22 d = 2 ↔ L.1 5 d % 4 = 2 := r_22 h hd 2 (by decide)
  have w0 : ∀ w, w < 8 → ¬ w = 0 → ¬ nI w = 0 := fun w hw hn q => hn ((nIz (by omega)).mp q)
  refine ⟨?_, ?_, ?_⟩
  · rw [opLabel, if_neg (hi g (by omega)), hco, labelOf, if_neg (w0 g (by omega) (by omega)), D.nr, if_pos (by rw [l2, nI_ltI (by omega) (by omega)]; omega), l1]
  · have e5 : nI (g + 1) = nI g + 1 := (nI_add g 1).symm
    have e6 : nI (g + 1) ≤ nI g + 2 := by
      rw [show (2 : Int32) = nI 2 from rfl, nI_add, nI_leI (by omega) (by omega)]
      omega
    rw [opLabel, if_neg (hi (g + 1) (by omega)), hco, labelOf, if_neg (w0 (g + 1) (by omega) (by omega)), D.nr, if_neg (by rw [l2, nI_ltI (by omega) (by omega)]; omega), l2, n_same_657_s0]
    by_cases c : L.1 5 d % 4 = 0
    · rw [if_pos (Or.inl (s0.mpr c)), if_pos c]
      rfl
    · rw [if_neg (by rintro (q | q); exact c (s0.mp q); exact q e6), if_neg c, if_pos e5]
      rfl
  · have e3 : ¬ nI (g + 2) = nI g + 1 := by
      rw [show (1 : Int32) = nI 1 from rfl, nI_add, nIe (by omega) (by omega)]
      omega
    have e4 : nI (g + 2) ≤ nI g + 2 := by
      rw [show (2 : Int32) = nI 2 from rfl, nI_add, nI_leI (by omega) (by omega)]
      omega
    rw [opLabel, if_neg (hi (g + 2) (by omega)), hco, labelOf, if_neg (w0 (g + 2) (by omega) (by omega)), D.nr, if_neg (by rw [l2, nI_ltI (by omega) (by omega)]; omega), l2, n_same_704_s0]
    by_cases c : L.1 5 d % 4 = 0
    · rw [if_pos (Or.inl (s0.mpr c)), if_pos c]
      rfl
    · rw [if_neg (by rintro (q | q); exact c (s0.mp q); exact q e4), if_neg c, if_neg e3]
      by_cases c1 : L.1 5 d % 4 = 1
      · rw [if_pos (s1.mpr c1), if_pos c1]
        rfl
      · rw [if_neg (fun q => c1 (s1.mp q)), if_neg c1]
        by_cases c2 : L.1 5 d % 4 = 2
        · rw [if_pos (s2.mpr c2), if_pos c2]
          rfl
        · rw [if_neg (fun q => c2 (s2.mp q)), if_neg c2]
          rfl
end RDS
