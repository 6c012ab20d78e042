/-! the class: the face -/
def RStep (m : Option (Nat × Mv)) (F F' : Nat → Rat) : Prop := match m with
  | none => F' = F
  | some (_, m) => MvOk m F ∧ F' = mvF m F
/-- the entries' moves, carried out in their order, give the shares of t as they are -/
def RPt (u : MU) (Y : GS) (t : Nat) : Prop := ∃ F : Nat → Nat → Rat, F 0 = one (Y.2.1 t) ∧ (∀ e, e ≤ u.2.2.1 35 → FOk (F e)) ∧ (∀ e, e < u.2.2.1 35 → (u.1 38 e = nI t → RStep (Y.1 e) (F e) (F (e + 1))) ∧ (¬ u.1 38 e = nI t → F (e + 1) = F e)) ∧ ∀ k, k < 13 → HQ u 33 34 (13 * t + k) (F (u.2.2.1 35) k)
def RP (u : MU) (Y : GS) : Prop := ∀ t, t < u.2.2.1 31 → Y.2.1 t < 13 ∧ RPt u Y t
theorem RP.fr {w u : MU} {Y Z : GS} (h : RP u Y) (e1 : w.1 38 = u.1 38) (e2 : w.2.1 33 = u.2.1 33) (e3 : w.2.1 34 = u.2.1 34) (n1 : w.2.2.1 31 = u.2.2.1 31) (n2 : w.2.2.1 35 = u.2.2.1 35) (z1 : Z.1 = Y.1) (z2 : Z.2.1 = Y.2.1) : RP w Z := by
  unfold RP RPt HQ at *
  rw [e1, e2, e3, n1, n2, z1, z2]
  exact h
/-- what a call leaves: the class's state is w, what is not the class's stays, what is new was free -/
def CR (g : Gx) (ez : Nat) (ad : Nat → Nat → Nat) (u : MU) (Y : GS) (sg : Sg) (w : MU) (s' : Sg) : Prop := ∃ ad' Y', CS g ez ad' w Y' s' ∧ ad' 0 0 = ad 0 0 ∧ CFr g ez ad u Y sg s' ∧ (∀ k i, cel g ez ad' w Y' k i ≠ none → (cel g ez ad u Y k i ≠ none ∧ ad' k i = ad k i) ∨ sg (ad' k i) = none) ∧ (RP u Y → RP w Y')
theorem CR.rf {g : Gx} {ez : Nat} {ad : Nat → Nat → Nat} {u : MU} {Y : GS} {sg : Sg} (h : CS g ez ad u Y sg) : CR g ez ad u Y sg u sg := ⟨ad, Y, h, rfl, CFr.rf, fun _ _ q => Or.inl ⟨q, rfl⟩, id⟩
theorem CR.ps {g : Gx} {ez : Nat} {ad : Nat → Nat → Nat} {u w : MU} {Y : GS} {sg s' : Sg} (h : CS g ez ad w Y s') (hF : CFr g ez ad u Y sg s') (hN : SN w u) (e1 : w.1 38 = u.1 38) (e2 : w.2.1 = u.2.1) : CR g ez ad u Y sg w s' :=
  ⟨ad, Y, h, rfl, hF, fun _ _ q => Or.inl ⟨hN.ne q, rfl⟩, fun r => r.fr e1 (by rw [e2]) (by rw [e2]) hN.2.2.1 hN.2.2.2.1 rfl rfl⟩
def OPost (g : Gx) (ez : Nat) (ad : Nat → Nat → Nat) (u : MU) (Y : GS) (sg : Sg) (o : Op) : Option Value → Sg → Prop := fun v s' => o.1 = 0 ∧ v = some (.int o.2.1) ∧ CR g ez ad u Y sg o.2.2 s'
def OX (g : Gx) (ez : Nat) (ad : Nat → Nat → Nat) (u : MU) (Y : GS) (sg : Sg) (nm : Int32 → String) (o : Op) : String → Sg → Prop := fun E s' => ¬ o.1 = 0 ∧ E = nm o.1 ∧ CR g ez ad u Y sg o.2.2 s'
theorem OPost.of {g : Gx} {ez : Nat} {ad : Nat → Nat → Nat} {u w : MU} {Y : GS} {sg s' : Sg} {o : Op} {r : Int32} (h : o = (0, r, w)) (hC : CR g ez ad u Y sg w s') : OPost g ez ad u Y sg o (some (.int r)) s' := by subst h; exact ⟨rfl, rfl, hC⟩
theorem OX.of {g : Gx} {ez : Nat} {ad : Nat → Nat → Nat} {u w : MU} {Y : GS} {sg s' : Sg} {o : Op} {r c : Int32} {nm : Int32 → String} {E : String} (h : o = (c, r, w)) (hc : ¬ c = 0) (hE : E = nm c) (hC : CR g ez ad u Y sg w s') : OX g ez ad u Y sg nm o E s' := by subst h; exact ⟨hc, hE, hC⟩
def nB : String := "java/lang/IndexOutOfBoundsException"
def nAr : String := "java/lang/IllegalArgumentException"
def nSt : String := "java/lang/IllegalStateException"
/-- which exception has which number: three, two, two, two, one -/
def x3 (c : Int32) : String := if c = 1 then nB else if c = 2 then nAr else nSt
def x2s (c : Int32) : String := if c = 1 then nB else nSt
def x2a (c : Int32) : String := if c = 1 then nB else nAr
def x2p (c : Int32) : String := if c = 1 then nAr else nSt
def x1a (_ : Int32) : String := nAr
def x1b (_ : Int32) : String := nB
set_option maxRecDepth 100000 in
theorem F_isAble {g : Gx} {l : Launch} {ez : Nat} (G : GOK g l ez) {sg : Sg} {ad : Nat → Nat → Nat} {u : MU} {Y : GS} (hS : CS g ez ad u Y sg) {N : Nat} (hI : CI N u) {v : Int32} : MM g l yX8_isAble cX8_isAble 2 (some .boolean) (rmC 9 8 60) sg [.ref (ad 0 0), .int v] (OPost g ez ad u Y sg (opIsAble u v)) (OX g ez ad u Y sg x1b (opIsAble u v)) := by
  refine MM.of G.1 G.2.1 (by decide) (Nat.le_of_ble_eq_true rfl) (fun x hg hlx C hin hout hargs => ?_)
  subst hg; subst hlx
  have C : AWC x cX8_isAble 2 RX8 (rmC 9 8 60) (some .boolean) := C
  show AW x (RQ x _ _ _ _) 0 0 sg 0 [(0, .ref (ad 0 0)), (1, .int v)] []
  refine aw_aload_n C dX8_isAble_0 rfl rfl rfl ?_
  refine aw_iload_n C dX8_isAble_1 rfl rfl rfl ?_
  refine aw_callV C k_X8_71 (C_personAt G hS hI (v := v)) ⟨by decide, by decide⟩ (ci := 10) rfl hS.O rfl rfl (Nat.le_of_ble_eq_true rfl) (Nat.le_of_ble_eq_true rfl) (Nat.le_of_ble_eq_true rfl) dX8_isAble_2 rfl (fun E s1 hx => ?_) (fun v1 s1 hq => ?_)
  · obtain ⟨rfl, hx, rfl⟩ := hx
    exact ax_out C hout (Nat.le_of_ble_eq_true rfl) (Nat.le_of_ble_eq_true rfl) (OX.of (c := 1) (r := 0) (w := u) (by simp [opIsAble, hx]) (by decide) rfl (CR.rf hS))
  obtain ⟨p, hp, rfl, rfl, rfl⟩ := hq
  have ep := isP_in hI.W hp
  have kp : (nI p).toNatClampNeg = p := nI_clamp (by have := hI.n2; omega)
  refine aw_aload_n C dX8_isAble_5 rfl rfl rfl ?_
  refine aw_getf C f_X8_32 hS.O rfl dX8_isAble_6 rfl ?_
  refine cw_callVNp C k_X8_117 (C_isAbleOn G hS hp) ⟨by decide, by decide⟩ (ci := 7) rfl (hS.P hp) rfl rfl (Nat.le_of_ble_eq_true rfl) (Nat.le_of_ble_eq_true rfl) (Nat.le_of_ble_eq_true rfl) dX8_isAble_9 rfl ?_
  exact aw_iret C (nrw_b2i _) (Nat.le_of_ble_eq_true rfl) (Nat.le_of_ble_eq_true rfl) (OPost.of (by simp [opIsAble, ep, kp]) (CR.rf hS)) dX8_isAble_12
set_option maxRecDepth 100000 in
theorem F_isGood {g : Gx} {l : Launch} {ez : Nat} (G : GOK g l ez) {sg : Sg} {ad : Nat → Nat → Nat} {u : MU} {Y : GS} (hS : CS g ez ad u Y sg) {N : Nat} (hI : CI N u) {v : Int32} : MM g l yX8_isGood cX8_isGood 2 (some .boolean) (rmC 9 8 60) sg [.ref (ad 0 0), .int v] (OPost g ez ad u Y sg (opIsGood u v)) (OX g ez ad u Y sg x1b (opIsGood u v)) := by
  refine MM.of G.1 G.2.1 (by decide) (Nat.le_of_ble_eq_true rfl) (fun x hg hlx C hin hout hargs => ?_)
  subst hg; subst hlx
  have C : AWC x cX8_isGood 2 RX8 (rmC 9 8 60) (some .boolean) := C
  show AW x (RQ x _ _ _ _) 0 0 sg 0 [(0, .ref (ad 0 0)), (1, .int v)] []
  refine aw_aload_n C dX8_isGood_0 rfl rfl rfl ?_
  refine aw_aload_n C dX8_isGood_1 rfl rfl rfl ?_
  refine aw_iload_n C dX8_isGood_2 rfl rfl rfl ?_
  refine aw_callV C k_X8_159 (C_deedAt G hS hI (v := v)) ⟨by decide, by decide⟩ (ci := 10) rfl hS.O rfl rfl (Nat.le_of_ble_eq_true rfl) (Nat.le_of_ble_eq_true rfl) (Nat.le_of_ble_eq_true rfl) dX8_isGood_3 rfl (fun E s1 hx => ?_) (fun v1 s1 hq => ?_)
  · obtain ⟨rfl, hx, rfl⟩ := hx
    exact ax_out C hout (Nat.le_of_ble_eq_true rfl) (Nat.le_of_ble_eq_true rfl) (OX.of (c := 1) (r := 0) (w := u) (by simp [opIsGood, hx]) (by decide) rfl (CR.rf hS))
  obtain ⟨d, hd, rfl, rfl, rfl⟩ := hq
  have ed := isDd_in hI.W hd
  have kd : (nI d).toNatClampNeg = d := nI_clamp (by have := hI.n10; omega)
  refine cw_callVp C k_X8_277 (C_good G hS hI hd) ⟨by decide, by decide⟩ (ci := 10) rfl hS.O rfl rfl (Nat.le_of_ble_eq_true rfl) (Nat.le_of_ble_eq_true rfl) (Nat.le_of_ble_eq_true rfl) dX8_isGood_6 rfl ?_
  exact aw_iret C (nrw_b2i _) (Nat.le_of_ble_eq_true rfl) (Nat.le_of_ble_eq_true rfl) (OPost.of (by simp [opIsGood, ed, kd]) (CR.rf hS)) dX8_isGood_9
set_option maxRecDepth 100000 in
theorem F_proof {g : Gx} {l : Launch} {ez : Nat} (G : GOK g l ez) {sg : Sg} {ad : Nat → Nat → Nat} {u : MU} {Y : GS} (hS : CS g ez ad u Y sg) {N : Nat} (hI : CI N u) {v : Int32} : MM g l yX8_proof cX8_proof 2 (some .int) (rmC 9 8 60) sg [.ref (ad 0 0), .int v] (OPost g ez ad u Y sg (opProof u v)) (OX g ez ad u Y sg x1b (opProof u v)) := by
  refine MM.of G.1 G.2.1 (by decide) (Nat.le_of_ble_eq_true rfl) (fun x hg hlx C hin hout hargs => ?_)
  subst hg; subst hlx
  have C : AWC x cX8_proof 2 RX8 (rmC 9 8 60) (some .int) := C
  show AW x (RQ x _ _ _ _) 0 0 sg 0 [(0, .ref (ad 0 0)), (1, .int v)] []
  refine aw_aload_n C dX8_proof_0 rfl rfl rfl ?_
  refine aw_iload_n C dX8_proof_1 rfl rfl rfl ?_
  refine aw_callV C k_X8_159 (C_deedAt G hS hI (v := v)) ⟨by decide, by decide⟩ (ci := 10) rfl hS.O rfl rfl (Nat.le_of_ble_eq_true rfl) (Nat.le_of_ble_eq_true rfl) (Nat.le_of_ble_eq_true rfl) dX8_proof_2 rfl (fun E s1 hx => ?_) (fun v1 s1 hq => ?_)
  · obtain ⟨rfl, hx, rfl⟩ := hx
    exact ax_out C hout (Nat.le_of_ble_eq_true rfl) (Nat.le_of_ble_eq_true rfl) (OX.of (c := 1) (r := 0) (w := u) (by simp [opProof, hx]) (by decide) rfl (CR.rf hS))
  obtain ⟨d, hd, rfl, rfl, rfl⟩ := hq
  have ed := isDd_in hI.W hd
  have kd : (nI d).toNatClampNeg = d := nI_clamp (by have := hI.n10; omega)
  refine aw_getf C f_X8_224 (hS.D hd) rfl dX8_proof_5 rfl ?_
  refine cw_callVNp C k_X8_286 (C_least G hS hd) ⟨by decide, by decide⟩ (ci := 6) rfl (hS.Pp hd) rfl rfl (Nat.le_of_ble_eq_true rfl) (Nat.le_of_ble_eq_true rfl) (Nat.le_of_ble_eq_true rfl) dX8_proof_8 rfl ?_
  exact aw_iret C rfl (Nat.le_of_ble_eq_true rfl) (Nat.le_of_ble_eq_true rfl) (OPost.of (by simp [opProof, ed, kd]) (CR.rf hS)) dX8_proof_11
set_option maxRecDepth 100000 in
theorem F_entries {g : Gx} {l : Launch} {ez : Nat} (G : GOK g l ez) {sg : Sg} {ad : Nat → Nat → Nat} {u : MU} {Y : GS} (hS : CS g ez ad u Y sg) {N : Nat} (hI : CI N u) : MM g l yX8_entries cX8_entries 1 (some .int) (rmC 2 0 0) sg [.ref (ad 0 0)] (fun v s' => v = some (.int (nI (u.2.2.1 35))) ∧ CR g ez ad u Y sg u s') (noX) := by
  refine MM.of G.1 G.2.1 (by decide) (Nat.le_of_ble_eq_true rfl) (fun x hg hlx C hin hout hargs => ?_)
  subst hg; subst hlx
  have C : AWC x cX8_entries 1 RX8 (rmC 2 0 0) (some .int) := C
  show AW x (RQ x _ _ _ _) 0 0 sg 0 [(0, .ref (ad 0 0))] []
  refine aw_aload_n C dX8_entries_0 rfl rfl rfl ?_
  refine aw_getf C f_X8_22 hS.O rfl dX8_entries_1 rfl ?_
  refine cw_callVp C k_X8_50 (L_size G (n := u.2.2.1 35) (hS.L (i := 3) (by decide))) ⟨by decide, by decide⟩ (ci := 1) rfl (hS.L (i := 3) (by decide)) rfl rfl (Nat.le_of_ble_eq_true rfl) (Nat.le_of_ble_eq_true rfl) (Nat.le_of_ble_eq_true rfl) dX8_entries_4 rfl ?_
  exact aw_iret C rfl (Nat.le_of_ble_eq_true rfl) (Nat.le_of_ble_eq_true rfl) ⟨rfl, CR.rf hS⟩ dX8_entries_7
set_option maxRecDepth 100000 in
theorem F_duties {g : Gx} {l : Launch} {ez : Nat} (G : GOK g l ez) {sg : Sg} {ad : Nat → Nat → Nat} {u : MU} {Y : GS} (hS : CS g ez ad u Y sg) {N : Nat} (hI : CI N u) : MM g l yX8_duties cX8_duties 1 (some .long) (rmC 2 0 0) sg [.ref (ad 0 0)] (fun v s' => v = some (.long u.2.2.2.2) ∧ CR g ez ad u Y sg u s') (noX) := by
  refine MM.of G.1 G.2.1 (by decide) (Nat.le_of_ble_eq_true rfl) (fun x hg hlx C hin hout hargs => ?_)
  subst hg; subst hlx
  have C : AWC x cX8_duties 1 RX8 (rmC 2 0 0) (some .long) := C
  show AW x (RQ x _ _ _ _) 0 0 sg 0 [(0, .ref (ad 0 0))] []
  refine aw_aload_n C dX8_duties_0 rfl rfl rfl ?_
  refine aw_getf C f_X8_39 hS.O rfl dX8_duties_1 rfl ?_
  exact aw_lret C (Nat.le_of_ble_eq_true rfl) (Nat.le_of_ble_eq_true rfl) ⟨rfl, CR.rf hS⟩ dX8_duties_4
theorem SN.D {u : MU} {v : Int32} : SN (uD u v) u := ⟨rfl, rfl, rfl, rfl, rfl⟩
theorem cel_0 {g : Gx} {ez : Nat} {ad : Nat → Nat → Nat} {u : MU} {Y : GS} : cel g ez ad u Y 0 0 = some (ob 10 (ocl ad u)) := rfl
theorem cel_o0 {g : Gx} {ez : Nat} {ad : Nat → Nat → Nat} {u w : MU} {Y : GS} (h : ∀ {k j}, k ≠ 0 → cel g ez ad w Y k j = cel g ez ad u Y k j) : ∀ a b, ¬ (a = 0 ∧ b = 0) → cel g ez ad w Y a b = cel g ez ad u Y a b := fun a b hab => by
  by_cases z : a = 0
  · subst z
    have hb : ¬ b = 0 := fun q => hab ⟨rfl, q⟩
    exact (if_neg hb).trans (if_neg hb).symm
  · exact h z
set_option maxRecDepth 100000 in
theorem F_pass {g : Gx} {l : Launch} {ez : Nat} (G : GOK g l ez) {sg : Sg} {ad : Nat → Nat → Nat} {u : MU} {Y : GS} (hS : CS g ez ad u Y sg) {N : Nat} (hI : CI N u) {v : Int32} : MM g l yX8_pass cX8_pass 2 (some .int) (rmC 9 8 60) sg [.ref (ad 0 0), .int v] (OPost g ez ad u Y sg (opPass u v)) (OX g ez ad u Y sg x1a (opPass u v)) := by
  refine MM.of G.1 G.2.1 (by decide) (Nat.le_of_ble_eq_true rfl) (fun x hg hlx C hin hout hargs => ?_)
  subst hg; subst hlx
  have C : AWC x cX8_pass 2 RX8 (rmC 9 8 60) (some .int) := C
  show AW x (RQ x _ _ _ _) 0 0 sg 0 [(0, .ref (ad 0 0)), (1, .int v)] []
  refine aw_iload_n C dX8_pass_0 rfl rfl rfl ?_
  refine aw_iconst (v := 1) C dX8_pass_1 rfl rfl ?_
  refine aw_icmp_lt (tgt := 12) C dX8_pass_2 (by decide) rfl (fun c2 => ?_) (fun c2 => ?_)
  · exact aw_thrW C G thA 34 rfl dX8_pass_12 dX8_pass_15 dX8_pass_16 dX8_pass_19 dX8_pass_22 hout ⟨by decide, (Nat.le_of_ble_eq_true rfl)⟩ (Nat.le_of_ble_eq_true rfl) (Nat.le_of_ble_eq_true rfl) (OX.of (c := 1) (r := 0) (w := u) (by rw [opPass, if_pos (inB_f.mpr (Or.inl c2))]) (by decide) rfl (CR.rf hS)) (Nat.le_of_ble_eq_true rfl) (Nat.le_of_ble_eq_true rfl)
  · refine aw_iload_n C dX8_pass_5 rfl rfl rfl ?_
    refine aw_sipush (v := 10000) C dX8_pass_6 rfl rfl ?_
    refine aw_icmp_le (tgt := 23) C dX8_pass_9 (by decide) rfl (fun c9 => ?_) (fun c9 => ?_)
    · refine aw_aload_n C dX8_pass_23 rfl rfl rfl ?_
      refine aw_dup C dX8_pass_24 rfl rfl ?_
      refine aw_getf C f_X8_32 hS.O rfl dX8_pass_25 rfl ?_
      refine aw_iload_n C dX8_pass_28 rfl rfl rfl ?_
      refine aw_iadd C dX8_pass_29 rfl ?_
      refine cw_put (uD u (u.2.2.2.1 + v)) C hS CFr.rf SN.D f_X8_32 rfl cel_0 rfl (cel_o0 cel_uD) rfl rfl rfl (Nat.le_of_ble_eq_true rfl) dX8_pass_30 rfl (fun s1 hS1 hF1 => ?_)
      refine aw_aload_n C dX8_pass_33 rfl rfl rfl ?_
      refine aw_getf C f_X8_32 hS1.O rfl dX8_pass_34 rfl ?_
      exact aw_iret C rfl (Nat.le_of_ble_eq_true rfl) (Nat.le_of_ble_eq_true rfl) (OPost.of (by rw [opPass, if_neg (by rw [show inB v 1 10000 = true from inB_t.mpr ⟨c2, Int32.not_lt.mpr c9⟩]; decide)]; rfl) (CR.ps hS1 hF1 SN.D rfl rfl)) dX8_pass_37
    · exact aw_thrW C G thA 34 rfl dX8_pass_12 dX8_pass_15 dX8_pass_16 dX8_pass_19 dX8_pass_22 hout ⟨by decide, (Nat.le_of_ble_eq_true rfl)⟩ (Nat.le_of_ble_eq_true rfl) (Nat.le_of_ble_eq_true rfl) (OX.of (c := 1) (r := 0) (w := u) (by rw [opPass, if_pos (inB_f.mpr (Or.inr (Int32.not_le.mp c9)))]) (by decide) rfl (CR.rf hS)) (Nat.le_of_ble_eq_true rfl) (Nat.le_of_ble_eq_true rfl)
theorem and_4 {x : Int32} : x &&& 4 = 0 ∨ x &&& 4 = 4 := by
  have h : x.toBitVec &&& 4#32 = 0#32 ∨ x.toBitVec &&& 4#32 = 4#32 := by
    by_cases c : x.toBitVec.getLsbD 2 = true
    · right
      apply BitVec.eq_of_getLsbD_eq
      intro i hi
      rw [BitVec.getLsbD_and]
      by_cases e : i = 2
      · subst e; rw [c]; rfl
      · have : (4#32).getLsbD i = false := by rw [show (4#32 : BitVec 32) = BitVec.twoPow 32 2 from rfl, BitVec.getLsbD_twoPow]; simp [Ne.symm e]
        rw [this, Bool.and_false]
    · left
      apply BitVec.eq_of_getLsbD_eq
      intro i hi
      rw [BitVec.getLsbD_and]
      by_cases e : i = 2
      · subst e; rw [Bool.eq_false_iff.mpr c]; rfl
      · have : (4#32).getLsbD i = false := by rw [show (4#32 : BitVec 32) = BitVec.twoPow 32 2 from rfl, BitVec.getLsbD_twoPow]; simp [Ne.symm e]
        rw [this, Bool.and_false]; simp
  rcases h with h | h
  · left; exact Int32.toBitVec.inj h
  · right; exact Int32.toBitVec.inj h
theorem and_16 {x : Int32} : x &&& 16 = 0 ∨ x &&& 16 = 16 := by
  have h : x.toBitVec &&& 16#32 = 0#32 ∨ x.toBitVec &&& 16#32 = 16#32 := by
    by_cases c : x.toBitVec.getLsbD 4 = true
    · right
      apply BitVec.eq_of_getLsbD_eq
      intro i hi
      rw [BitVec.getLsbD_and]
      by_cases e : i = 4
      · subst e; rw [c]; rfl
      · have : (16#32).getLsbD i = false := by rw [show (16#32 : BitVec 32) = BitVec.twoPow 32 4 from rfl, BitVec.getLsbD_twoPow]; simp [Ne.symm e]
        rw [this, Bool.and_false]
    · left
      apply BitVec.eq_of_getLsbD_eq
      intro i hi
      rw [BitVec.getLsbD_and]
      by_cases e : i = 4
      · subst e; rw [Bool.eq_false_iff.mpr c]; rfl
      · have : (16#32).getLsbD i = false := by rw [show (16#32 : BitVec 32) = BitVec.twoPow 32 4 from rfl, BitVec.getLsbD_twoPow]; simp [Ne.symm e]
        rw [this, Bool.and_false]; simp
  rcases h with h | h
  · left; exact Int32.toBitVec.inj h
  · right; exact Int32.toBitVec.inj h
theorem add_b {x w : Int32} (hw : ¬ (¬ w = 4 ∧ ¬ w = 16)) (h : x &&& w = w) : ¬ x &&& w ≤ 0 := by
  rw [h]
  intro z
  apply hw
  exact ⟨fun e => by subst e; exact absurd z (by decide), fun e => by subst e; exact absurd z (by decide)⟩
theorem add_z {x w : Int32} (hw : ¬ (¬ w = 4 ∧ ¬ w = 16)) (h : ¬ x &&& w = w) : x &&& w ≤ 0 := by
  by_cases e : w = 4
  · subst e
    rcases and_4 (x := x) with q | q
    · rw [q]; decide
    · exact absurd q h
  · by_cases e2 : w = 16
    · subst e2
      rcases and_16 (x := x) with q | q
      · rw [q]; decide
      · exact absurd q h
    · exact absurd ⟨e, e2⟩ hw
set_option maxRecDepth 100000 in
theorem F_add {g : Gx} {l : Launch} {ez : Nat} (G : GOK g l ez) {sg : Sg} {ad : Nat → Nat → Nat} {u : MU} {Y : GS} (hS : CS g ez ad u Y sg) {N : Nat} (hI : CI N u) {v w : Int32} : MM g l yX8_add cX8_add 4 (some .int) (rmC 9 8 60) sg [.ref (ad 0 0), .int v, .int w] (OPost g ez ad u Y sg (opAdd u v w)) (OX g ez ad u Y sg x3 (opAdd u v w)) := by
  refine MM.of G.1 G.2.1 (by decide) (Nat.le_of_ble_eq_true rfl) (fun x hg hlx C hin hout hargs => ?_)
  subst hg; subst hlx
  have C : AWC x cX8_add 4 RX8 (rmC 9 8 60) (some .int) := C
  show AW x (RQ x _ _ _ _) 0 0 sg 0 [(0, .ref (ad 0 0)), (1, .int v), (2, .int w)] []
  refine aw_aload_n C dX8_add_0 rfl rfl rfl ?_
  refine aw_iload_n C dX8_add_1 rfl rfl rfl ?_
  refine aw_callV C k_X8_159 (C_deedAt G hS hI (v := v)) ⟨by decide, by decide⟩ (ci := 10) rfl hS.O rfl rfl (Nat.le_of_ble_eq_true rfl) (Nat.le_of_ble_eq_true rfl) (Nat.le_of_ble_eq_true rfl) dX8_add_2 rfl (fun E s1 hx => ?_) (fun v1 s1 hq => ?_)
  · obtain ⟨rfl, hx, rfl⟩ := hx
    exact ax_out C hout (Nat.le_of_ble_eq_true rfl) (Nat.le_of_ble_eq_true rfl) (OX.of (c := 1) (r := 0) (w := u) (by simp [opAdd, hx]) (by decide) rfl (CR.rf hS))
  obtain ⟨d, hd, rfl, rfl, rfl⟩ := hq
  have ed := isDd_in hI.W hd
  have kd : (nI d).toNatClampNeg = d := nI_clamp (by have := hI.n10; omega)
  refine aw_astore_n (ls' := [(3, _), (0, _), (1, _), (2, _)]) C dX8_add_5 rfl (by decide) rfl rfl ?_
  refine aw_iload_n C dX8_add_6 rfl rfl rfl ?_
  refine aw_iconst (v := 4) C dX8_add_7 rfl rfl ?_
  refine aw_icmp_eq (tgt := 27) C dX8_add_8 (by decide) rfl (fun c8 => ?_) (fun c8 => ?_)
  · have hw : ¬ (¬ w = 4 ∧ ¬ w = 16) := fun z => z.1 c8
    refine aw_aload_n C dX8_add_27 rfl rfl rfl ?_
    refine aw_iload_n C dX8_add_28 rfl rfl rfl ?_
    refine aw_callS C k_X8_163 (C_refuseClosed G hS hI hd (v := w)) ⟨by decide, by decide⟩ rfl rfl (Nat.le_of_ble_eq_true rfl) (Nat.le_of_ble_eq_true rfl) (Nat.le_of_ble_eq_true rfl) dX8_add_29 rfl (fun E s1 hx => ?_) (fun v1 s1 hq => ?_)
    · obtain ⟨rfl, hx, rfl⟩ := hx
      exact ax_out C hout (Nat.le_of_ble_eq_true rfl) (Nat.le_of_ble_eq_true rfl) (OX.of (c := 3) (r := 0) (w := u) (by rw [opAdd, if_neg (by simp [ed]), if_neg hw, kd, if_pos (hx.imp id (fun z => add_b hw z))]) (by decide) rfl (CR.rf hS))
    obtain ⟨rfl, h22, h20, rfl⟩ := hq
    refine aw_aload_n C dX8_add_32 rfl rfl rfl ?_
    refine aw_dup C dX8_add_33 rfl rfl ?_
    refine aw_getf C f_X8_171 (hS.D hd) rfl dX8_add_34 rfl ?_
    refine aw_iload_n C dX8_add_37 rfl rfl rfl ?_
    refine aw_ior C dX8_add_38 rfl ?_
    refine cw_put (uI u 20 d (u.1 20 d ||| w)) C hS CFr.rf SN.rf f_X8_171 rfl (cel_4 hd) (by rw [cel_4 (u := (uI u 20 d (u.1 20 d ||| w))) hd, dset20] <;> rfl) (cel_u4 hI.P hI.W rfl (by decide) rfl) rfl rfl rfl (Nat.le_of_ble_eq_true rfl) dX8_add_39 rfl (fun s1 hS1 hF1 => ?_)
    refine aw_aload_n C dX8_add_42 rfl rfl rfl ?_
    refine aw_getf C f_X8_171 (hS1.D hd) rfl dX8_add_43 rfl ?_
    exact aw_iret C rfl (Nat.le_of_ble_eq_true rfl) (Nat.le_of_ble_eq_true rfl) (OPost.of (by rw [opAdd, if_neg (by simp [ed]), if_neg hw, kd, if_neg (by rintro (z | z); exact z h22; exact z (add_z hw h20)), uI_at]) (CR.ps hS1 hF1 ⟨rfl, rfl, rfl, rfl, rfl⟩ rfl rfl)) dX8_add_46
  · refine aw_iload_n C dX8_add_11 rfl rfl rfl ?_
    refine aw_bipush (v := 16) C dX8_add_12 rfl rfl ?_
    refine aw_icmp_eq (tgt := 27) C dX8_add_14 (by decide) rfl (fun c14 => ?_) (fun c14 => ?_)
    · have hw : ¬ (¬ w = 4 ∧ ¬ w = 16) := fun z => z.2 c14
      refine aw_aload_n C dX8_add_27 rfl rfl rfl ?_
      refine aw_iload_n C dX8_add_28 rfl rfl rfl ?_
      refine aw_callS C k_X8_163 (C_refuseClosed G hS hI hd (v := w)) ⟨by decide, by decide⟩ rfl rfl (Nat.le_of_ble_eq_true rfl) (Nat.le_of_ble_eq_true rfl) (Nat.le_of_ble_eq_true rfl) dX8_add_29 rfl (fun E s1 hx => ?_) (fun v1 s1 hq => ?_)
      · obtain ⟨rfl, hx, rfl⟩ := hx
        exact ax_out C hout (Nat.le_of_ble_eq_true rfl) (Nat.le_of_ble_eq_true rfl) (OX.of (c := 3) (r := 0) (w := u) (by rw [opAdd, if_neg (by simp [ed]), if_neg hw, kd, if_pos (hx.imp id (fun z => add_b hw z))]) (by decide) rfl (CR.rf hS))
      obtain ⟨rfl, h22, h20, rfl⟩ := hq
      refine aw_aload_n C dX8_add_32 rfl rfl rfl ?_
      refine aw_dup C dX8_add_33 rfl rfl ?_
      refine aw_getf C f_X8_171 (hS.D hd) rfl dX8_add_34 rfl ?_
      refine aw_iload_n C dX8_add_37 rfl rfl rfl ?_
      refine aw_ior C dX8_add_38 rfl ?_
      refine cw_put (uI u 20 d (u.1 20 d ||| w)) C hS CFr.rf SN.rf f_X8_171 rfl (cel_4 hd) (by rw [cel_4 (u := (uI u 20 d (u.1 20 d ||| w))) hd, dset20] <;> rfl) (cel_u4 hI.P hI.W rfl (by decide) rfl) rfl rfl rfl (Nat.le_of_ble_eq_true rfl) dX8_add_39 rfl (fun s1 hS1 hF1 => ?_)
      refine aw_aload_n C dX8_add_42 rfl rfl rfl ?_
      refine aw_getf C f_X8_171 (hS1.D hd) rfl dX8_add_43 rfl ?_
      exact aw_iret C rfl (Nat.le_of_ble_eq_true rfl) (Nat.le_of_ble_eq_true rfl) (OPost.of (by rw [opAdd, if_neg (by simp [ed]), if_neg hw, kd, if_neg (by rintro (z | z); exact z h22; exact z (add_z hw h20)), uI_at]) (CR.ps hS1 hF1 ⟨rfl, rfl, rfl, rfl, rfl⟩ rfl rfl)) dX8_add_46
    · exact aw_thr C G thA 17 rfl dX8_add_17 dX8_add_20 dX8_add_21 dX8_add_23 dX8_add_26 hout ⟨by decide, (Nat.le_of_ble_eq_true rfl)⟩ (Nat.le_of_ble_eq_true rfl) (Nat.le_of_ble_eq_true rfl) (OX.of (c := 2) (r := 0) (w := u) (by rw [opAdd, if_neg (by simp [ed]), if_pos ⟨c8, c14⟩]) (by decide) rfl (CR.rf hS)) (Nat.le_of_ble_eq_true rfl) (Nat.le_of_ble_eq_true rfl)
