/-! the three exceptions; what a call of the class leaves; bits -/
def exN : List String := ["java/lang/RuntimeException", "java/lang/Exception"]
def ThX (ik ic : Nat) (cls : String) : Prop := Bundle.fit cls = true ∧ Cond.classLink RX8 ik cls ∈ WS ∧ Cond.initialized cls ∈ WS ∧ (∀ w ∈ vx_atS RX8 ic cls exN, w ∈ WS) ∧ ∀ w ∈ Cond.classLink RX8 ik cls :: Cond.initialized cls :: vx_atS RX8 ic cls exN, vx_ot w = true
theorem exN_fit : ∀ n ∈ exN, Bundle.fit n = true := by decide +kernel
set_option maxRecDepth 100000 in
theorem thA_at : ∀ w ∈ vx_atS RX8 47 "java/lang/IllegalArgumentException" exN, w ∈ WS := ws_all [52, 177, 186, 190, 193, 195, 178, 179, 84, 85, 180, 185, 191, 211, 167, 212, 169, 213, 171, 181, 183, 173, 207, 208, 210, 173, 198, 199, 200, 201, 159, 201, 202, 203, 204, 161, 204, 205, 206, 207, 163, 197, 156, 157, 164, 165, 166, 168, 170, 172, 176, 175, 174] (by decide +kernel) (by decide +kernel)
set_option maxRecDepth 100000 in
theorem thA : ThX 43 47 "java/lang/IllegalArgumentException" := ⟨by decide +kernel, ws_of 155 (by decide +kernel), ws_of 55 (by decide +kernel), thA_at, by decide +kernel⟩
set_option maxRecDepth 100000 in
theorem thS_at : ∀ w ∈ vx_atS RX8 58 "java/lang/IllegalStateException" exN, w ∈ WS := ws_all [52, 177, 186, 190, 193, 195, 178, 179, 84, 85, 180, 185, 191, 211, 167, 212, 169, 213, 171, 181, 183, 173, 207, 208, 210, 173, 238, 239, 240, 201, 159, 201, 202, 203, 204, 161, 204, 205, 206, 207, 163, 237, 228, 229, 230, 188, 231, 232, 233, 234, 176, 175, 235] (by decide +kernel) (by decide +kernel)
set_option maxRecDepth 100000 in
theorem thS : ThX 54 58 "java/lang/IllegalStateException" := ⟨by decide +kernel, ws_of 227 (by decide +kernel), ws_of 56 (by decide +kernel), thS_at, by decide +kernel⟩
set_option maxRecDepth 100000 in
theorem thB_at : ∀ w ∈ vx_atS RX8 246 "java/lang/IndexOutOfBoundsException" exN, w ∈ WS := ws_all [52, 177, 186, 190, 193, 195, 178, 179, 84, 85, 180, 185, 191, 211, 167, 212, 169, 213, 171, 181, 183, 173, 207, 208, 210, 173, 356, 357, 358, 201, 159, 201, 202, 203, 204, 161, 204, 205, 206, 207, 163, 355, 346, 347, 348, 189, 349, 350, 351, 352, 176, 175, 353] (by decide +kernel) (by decide +kernel)
set_option maxRecDepth 100000 in
theorem thB : ThX 242 246 "java/lang/IndexOutOfBoundsException" := ⟨by decide +kernel, ws_of 345 (by decide +kernel), ws_of 62 (by decide +kernel), thB_at, by decide +kernel⟩
section AWT2
variable {x : Cx} {k n : Nat} {sg : Sg} {pc : Nat} {ls : List (Nat × Value)} {st : List Value} {cc : ByteArray} {nL : Nat} {R : Room} {ret : Option FieldType} {ez : Nat}
theorem aw_thr {cls text : String} {ik is ic mc ms : Nat} {P : Option Value → Sg → Prop} {PX : String → Sg → Prop} (C : AWC x cc nL RX8 R ret) (G : GOK x.g x.l ez) (t : ThX ik ic cls) (i : Nat) (hi : vstr[i]? = some (is, text)) (d0 : decode cc pc = .ok (.new ik, 3)) (d3 : decode cc (pc + 3) = .ok (.dup, 1)) (d4 : decode cc (pc + 4) = .ok (.ldc is, 2)) (d6 : decode cc (pc + 6) = .ok (.invokespecial ic, 3)) (d9 : decode cc (pc + 9) = .ok (.athrow, 1))
    (hout : ∀ z ∈ x.c.exceptionTable.toList, False) (hR : 5 < R.frames ∧ (st.map fun v => v.category).sum + 82 ≤ R.locals) (hcl : k + 1 ≤ R.cells) (hsl : n + 6 ≤ R.slots) (hPX : PX cls sg) (hmc : k + 1 ≤ mc) (hms : n + 6 ≤ ms) : AW x (RQ x P PX mc ms) k n sg pc ls st := by
  obtain ⟨t1, t2, t3, t4, t5⟩ := t
  have F := C.cx G
  obtain ⟨sa, hsa⟩ := F.2.2.2.2.2.1 _ (List.mem_of_getElem? hi)
  exact aw_throw C t1 exN_fit t2 t3 hsa t4 t5 F.2.2.2.1 F.2.2.2.2.1 d0 d3 d4 d6 d9 hout hR.1 hR.2 hcl hsl hPX hmc hms
theorem aw_thrW {cls text : String} {ik is ic mc ms : Nat} {P : Option Value → Sg → Prop} {PX : String → Sg → Prop} (C : AWC x cc nL RX8 R ret) (G : GOK x.g x.l ez) (t : ThX ik ic cls) (i : Nat) (hi : vstr[i]? = some (is, text)) (d0 : decode cc pc = .ok (.new ik, 3)) (d3 : decode cc (pc + 3) = .ok (.dup, 1)) (d4 : decode cc (pc + 4) = .ok (.ldc_w is, 3)) (d7 : decode cc (pc + 7) = .ok (.invokespecial ic, 3)) (d10 : decode cc (pc + 10) = .ok (.athrow, 1))
    (hout : ∀ z ∈ x.c.exceptionTable.toList, False) (hR : 5 < R.frames ∧ (st.map fun v => v.category).sum + 82 ≤ R.locals) (hcl : k + 1 ≤ R.cells) (hsl : n + 6 ≤ R.slots) (hPX : PX cls sg) (hmc : k + 1 ≤ mc) (hms : n + 6 ≤ ms) : AW x (RQ x P PX mc ms) k n sg pc ls st := by
  obtain ⟨t1, t2, t3, t4, t5⟩ := t
  have F := C.cx G
  obtain ⟨sa, hsa⟩ := F.2.2.2.2.2.1 _ (List.mem_of_getElem? hi)
  exact aw_throwW C t1 exN_fit t2 t3 hsa t4 t5 F.2.2.2.1 F.2.2.2.2.1 d0 d3 d4 d7 d10 hout hR.1 hR.2 hcl hsl hPX hmc hms
end AWT2
/-- what is not the class's stays -/
def CFr (g : Gx) (ez : Nat) (ad : Nat → Nat → Nat) (u : MU) (Y : GS) (sg0 sg : Sg) : Prop := ∀ a e, sg0 a = some e → (∀ k i, cel g ez ad u Y k i ≠ none → a ≠ ad k i) → sg a = some e
theorem CFr.rf {g : Gx} {ez : Nat} {ad : Nat → Nat → Nat} {u : MU} {Y : GS} {sg : Sg} : CFr g ez ad u Y sg sg := fun _ _ h _ => h
theorem CFr.put {g : Gx} {ez : Nat} {ad : Nat → Nat → Nat} {u : MU} {Y : GS} {sg0 sg : Sg} (h : CFr g ez ad u Y sg0 sg) {k i : Nat} {e : va_E} (hc : cel g ez ad u Y k i ≠ none) : CFr g ez ad u Y sg0 (sgu sg (ad k i) e) := fun a b hb hn => (sgu_n (hn k i hc)).trans (h a b hb hn)
theorem CFr.tr {g : Gx} {ez : Nat} {ad : Nat → Nat → Nat} {u w : MU} {Y Z : GS} {s0 s1 s2 : Sg} (h : CFr g ez ad u Y s0 s1) (h2 : CFr g ez ad w Z s1 s2) (hl : ∀ k i, cel g ez ad w Z k i ≠ none → cel g ez ad u Y k i ≠ none) : CFr g ez ad u Y s0 s2 := fun a e he hn => h2 a e (h a e he hn) (fun k i hc => hn k i (hl k i hc))
/-- the same names -/
def SN (w u : MU) : Prop := w.2.2.1 2 = u.2.2.1 2 ∧ w.2.2.1 10 = u.2.2.1 10 ∧ w.2.2.1 31 = u.2.2.1 31 ∧ w.2.2.1 35 = u.2.2.1 35 ∧ w.1 11 = u.1 11
theorem SN.rf {u : MU} : SN u u := ⟨rfl, rfl, rfl, rfl, rfl⟩
theorem SN.ln {w u : MU} (h : SN w u) (i : Nat) : ln w i = ln u i := by
  match i with
  | 0 => exact h.1
  | 1 => exact h.2.2.1
  | 2 => exact h.2.1
  | _ + 3 => exact h.2.2.2.1
theorem SN.ne {g : Gx} {ez : Nat} {ad : Nat → Nat → Nat} {u w : MU} {Y Z : GS} (h : SN w u) {k i : Nat} (hc : cel g ez ad w Z k i ≠ none) : cel g ez ad u Y k i ≠ none := by
  intro z
  apply hc
  have hl := h.ln i
  obtain ⟨h1, h2, h3, h4, h5⟩ := h
  match k with
  | 0 | 1 =>
    simp only [cel] at z ⊢
    split at z
    · cases z
    · rename_i q; rw [if_neg q]
  | 2 =>
    simp only [cel] at z ⊢
    rw [hl]
    split at z
    · cases z
    · rename_i q; rw [if_neg q]
  | 3 =>
    simp only [cel] at z ⊢
    rw [h1]
    split at z
    · cases z
    · rename_i q; rw [if_neg q]
  | 4 | 5 | 6 =>
    simp only [cel] at z ⊢
    rw [h2]
    split at z
    · cases z
    · rename_i q; rw [if_neg q]
  | 7 =>
    simp only [cel] at z ⊢
    rw [h2, h5]
    split at z
    · cases z
    · rename_i q; rw [if_neg q]
  | 8 | 9 =>
    simp only [cel] at z ⊢
    rw [h3]
    split at z
    · cases z
    · rename_i q; rw [if_neg q]
  | 10 | 11 =>
    simp only [cel] at z ⊢
    rw [h3]
    split at z
    · cases z
    · split at z
      · cases z
      · rename_i q r; rw [if_neg q, if_neg r]
  | 12 =>
    simp only [cel] at z ⊢
    rw [h4]
    split at z
    · cases z
    · rename_i q; rw [if_neg q]
  | _ + 13 => rfl
/-- the end of a method that changes the class's state to w, makes nothing new -/
def PS (g : Gx) (ez : Nat) (ad : Nat → Nat → Nat) (u : MU) (Y : GS) (sg : Sg) (r : Option Value) (w : MU) : Option Value → Sg → Prop := fun v s' => v = r ∧ CS g ez ad w Y s' ∧ CFr g ez ad u Y sg s'
section CWP
variable {x : Cx} {Q : State → Prop} {k n : Nat} {sg sg0 : Sg} {pc : Nat} {ls : List (Nat × Value)} {st : List Value} {cc : ByteArray} {nL : Nat} {own : String} {R : Room} {ret : Option FieldType} {pc' ez : Nat} {ad : Nat → Nat → Nat} {u u0 : MU} {Y : GS}
/-- a field of a cell of the class's state -/
theorem cw_put {idx ci kf i j N : Nat} {Cn : String} {T : u_T} {ty0 : Nat → FieldType} {fs : List Value} {v : Value} (u' : MU) (C : AWC x cc nL own R ret) (hS : CS x.g ez ad u Y sg) (hF : CFr x.g ez ad u0 Y sg0 sg) (hN : SN u u0) (F : FL own idx ci kf Cn T N ty0) (hf : (T kf).2.2.2 = false) (hc : cel x.g ez ad u Y i j = some (ob ci fs)) (hc' : cel x.g ez ad u' Y i j = some (ob ci (fs.set kf v))) (ho : ∀ a b, ¬ (a = i ∧ b = j) → cel x.g ez ad u' Y a b = cel x.g ez ad u Y a b) (h35 : u'.2.2.1 35 = u.2.2.1 35) (hn : narrow (ty0 kf) v = v) (hfit : fits (ty0 kf) v = true) (hl : kf < fs.length) (hdg : decode cc pc = .ok (.putfield idx, 3)) (hpc : pc + 3 = pc') (kk : ∀ sg', CS x.g ez ad u' Y sg' → CFr x.g ez ad u0 Y sg0 sg' → AW x Q k n sg' pc' ls st) : AW x Q k n sg pc ls (v :: .ref (ad i j) :: st) := by
  have hne : cel x.g ez ad u Y i j ≠ none := by rw [hc]; exact fun z => by cases z
  refine aw_putf C F hf (hS.1 i j _ hc) hn hfit hl rfl hdg hpc ?_
  exact kk _ (hS.put hc hc' ho h35 rfl) (hF.put (hN.ne hne))
/-- a place of a row of ints of the class's state -/
theorem cw_iast {i j N : Nat} {f : Nat → Int32} {z v : Int32} {m : Nat} (u' : MU) (C : AWC x cc nL own R ret) (hS : CS x.g ez ad u Y sg) (hF : CFr x.g ez ad u0 Y sg0 sg) (hN : SN u u0) (hc : cel x.g ez ad u Y i j = some (arI x.g N f)) (hz : z = nI m) (hm : m < N) (hN2 : N < 2 ^ 31) (hc' : cel x.g ez ad u' Y i j = some (arI x.g N (upd f m v))) (ho : ∀ a b, ¬ (a = i ∧ b = j) → cel x.g ez ad u' Y a b = cel x.g ez ad u Y a b) (h35 : u'.2.2.1 35 = u.2.2.1 35) (hdg : decode cc pc = .ok (.iastore, 1)) (hpc : pc + 1 = pc') (kk : ∀ sg', CS x.g ez ad u' Y sg' → CFr x.g ez ad u0 Y sg0 sg' → AW x Q k n sg' pc' ls st) : AW x Q k n sg pc ls (.int v :: .int z :: .ref (ad i j) :: st) := by
  subst hz
  have hne : cel x.g ez ad u Y i j ≠ none := by rw [hc]; exact fun z => by cases z
  refine aw_iast C (hS.1 i j _ hc) (vp_in_nI hm hN2) hdg hpc ?_
  rw [nI_clamp (by omega)]
  exact kk _ (hS.put hc hc' ho h35 rfl) (hF.put (hN.ne hne))
end CWP
theorem rfo_n {f : Nat → Nat} {v : Int32} (h : rfo f v = none) : v = -1 := by
  unfold rfo at h
  split at h
  · assumption
  · cases h
theorem rfo_s {f : Nat → Nat} {v : Int32} {a : Nat} (h : rfo f v = some a) : ¬ v = -1 := fun z => by
  unfold rfo at h
  rw [if_pos z] at h
  cases h
theorem rfo_e {f : Nat → Nat} {v : Int32} (h : ¬ v = -1) : rfo f v = some (f v.toNatClampNeg) := if_neg h
theorem rfo_m {f : Nat → Nat} : rfo f (-1) = none := if_pos rfl
/-! bits -/
def pcb (f : Nat → Bool) : Nat → Nat
  | 0 => 0
  | n + 1 => pcb f n + (if f n = true then 1 else 0)
def pcn (m : Nat) : Nat := pcb m.testBit 13
def bcI (x : Int32) : Int32 :=
  let a := x - ((x.toUInt32 >>> ((1 : Int32).toUInt32 &&& Int32.toUInt32 31)).toInt32 &&& 1431655765)
  let b := (a &&& 858993459) + ((a.toUInt32 >>> ((2 : Int32).toUInt32 &&& Int32.toUInt32 31)).toInt32 &&& 858993459)
  let c := (b + (b.toUInt32 >>> ((4 : Int32).toUInt32 &&& Int32.toUInt32 31)).toInt32) &&& 252645135
  let d := c + (c.toUInt32 >>> ((8 : Int32).toUInt32 &&& Int32.toUInt32 31)).toInt32
  (d + (d.toUInt32 >>> ((16 : Int32).toUInt32 &&& Int32.toUInt32 31)).toInt32) &&& 63
set_option maxRecDepth 100000 in
theorem bcI_dec : ∀ a, a < 128 → ∀ b, b < 64 → bcI (nI (64 * a + b)) = nI (pcn (64 * a + b)) := by decide +kernel
theorem bcI_eq {m : Nat} (h : m < 8192) : bcI (nI m) = nI (pcn m) := by
  have := bcI_dec (m / 64) (by omega) (m % 64) (by omega)
  rwa [show 64 * (m / 64) + m % 64 = m by omega] at this
theorem pcb_le {f : Nat → Bool} {n : Nat} : pcb f n ≤ n := by
  induction n with
  | zero => exact Nat.le_refl _
  | succ n ih => rw [pcb]; split <;> omega
theorem pcb_cong {f h : Nat → Bool} {n : Nat} (e : ∀ i, i < n → f i = h i) : pcb f n = pcb h n := by
  induction n with
  | zero => rfl
  | succ n ih => rw [pcb, pcb, ih (fun i hi => e i (by omega)), e n (by omega)]
/-- one bit more -/
theorem pcb_add {f h : Nat → Bool} {p n : Nat} (hp : p < n) (hf : f p = false) (e : ∀ i, h i = (f i || decide (i = p))) : pcb h n = pcb f n + 1 := by
  induction n with
  | zero => omega
  | succ n ih =>
    rw [pcb, pcb]
    by_cases z : p = n
    · subst z
      have e1 : pcb h p = pcb f p := pcb_cong (fun i hi => by rw [e i, decide_eq_false (by omega), Bool.or_false])
      have e2 : h p = true := by rw [e p, decide_eq_true rfl, Bool.or_true]
      rw [e1, e2, hf]
      simp
    · rw [ih (by omega), e n, decide_eq_false (by omega), Bool.or_false]
      omega
theorem pcb_0 {f : Nat → Bool} {n : Nat} (h : pcb f n = 0) : ∀ i, i < n → f i = false := by
  induction n with
  | zero => exact fun i hi => absurd hi (Nat.not_lt_zero i)
  | succ n ih =>
    rw [pcb] at h
    intro i hi
    by_cases z : i = n
    · subst z
      cases hf : f i with
      | false => rfl
      | true => rw [hf, if_pos rfl] at h; omega
    · exact ih (by omega) i (by omega)
theorem tb_or (n j i : Nat) : (n ||| 2 ^ j).testBit i = (n.testBit i || decide (i = j)) := by
  rw [Nat.testBit_or, Nat.testBit_two_pow]
  congr 1
  by_cases h : j = i
  · subst h; simp
  · simp [h, Ne.symm h]
theorem pow_le13 {j : Nat} (h : j < 13) : 2 ^ j < 8192 := Nat.pow_lt_pow_right (a := 2) (by decide) (m := j) (n := 13) h
theorem or_lt {a j : Nat} (ha : a < 8192) (h : j < 13) : a ||| 2 ^ j < 8192 := Nat.or_lt_two_pow (n := 13) ha (pow_le13 h)
theorem nI_or (a b : Nat) : nI a ||| nI b = nI (a ||| b) := by
  apply Int32.toBitVec.inj
  show BitVec.ofNat 32 a ||| BitVec.ofNat 32 b = BitVec.ofNat 32 (a ||| b)
  exact (BitVec.ofNat_or).symm
theorem nI_and (a b : Nat) : nI a &&& nI b = nI (a &&& b) := by
  apply Int32.toBitVec.inj
  show BitVec.ofNat 32 a &&& BitVec.ofNat 32 b = BitVec.ofNat 32 (a &&& b)
  exact (BitVec.ofNat_and).symm
theorem sh_one {p : Nat} (h : p < 13) : (1 : Int32) <<< (nI p &&& 31) = nI (2 ^ p) := by
  match p, h with
  | 0, _ | 1, _ | 2, _ | 3, _ | 4, _ | 5, _ | 6, _ | 7, _ | 8, _ | 9, _ | 10, _ | 11, _ | 12, _ => decide
theorem bit_of {m p : Nat} (hm : m < 8192) (h : p < 13) : nI m &&& ((1 : Int32) <<< (nI p &&& 31)) = 0 ↔ m.testBit p = false := by
  rw [sh_one h, nI_and, show (0 : Int32) = nI 0 from rfl, nI_eq (Nat.lt_of_le_of_lt Nat.and_le_left (by omega)) (by decide)]
  constructor
  · intro h
    have h1 : (m &&& 2 ^ p).testBit p = false := by rw [h]; simp
    rw [Nat.testBit_and] at h1
    simpa using h1
  · intro h
    apply Nat.eq_of_testBit_eq
    intro i
    rw [Nat.testBit_and]
    by_cases hi : p = i
    · subst hi; simp [h]
    · simp [Nat.testBit_two_pow, hi]
