/-! ArrayList and what it calls -/
/-- the texts of the exceptions: place in the pool, text -/
def vstr : List (Nat × String) := [(45, "age is out of range"), (56, "there are 12 persons"), (400, "there is no such person"), (75, "the child was not told later"), (84, "the child has two parents, or this one"), (100, "one of both is dead"), (94, "nobody is its own guardian"), (107, "value is out of range"), (109, "there are 8 things, or the owner is dead"), (402, "there is no such thing"), (132, "kind or share is out of range, or both are the same"), (406, "there are 60 deeds"), (146, "days are out of range, or both are the same"), (157, "the share is out of range, or both are the same"), (404, "there is no such deed"), (411, "the deed is closed, or has this part"), (182, "that one cannot sign it so"), (184, "the part is neither READ nor TOLD"), (193, "the deed is closed, or has this witness"), (199, "that one cannot be a witness"), (204, "the deed is closed"), (234, "there is no such question"), (244, "place is below 0"), (269, "this is no closed POWER"), (284, "there is no paper to copy, or there are 4"), (289, "there is no paper"), (301, "it cannot be entered, or there are 100 entries"), (324, "the giver has too small a share, or a share has too much below"), (340, "that one is dead"), (465, "a share would have too much below"), (350, "there would be more than 100 entries"), (362, "there is no such entry"), (45, "age is out of range"), (374, "rank is below 0"), (398, "days are out of range")]
def CXF (A : Nat → Prop) (ez : Nat) (s : State) : Prop := va_Z "java/util/ArrayList" "DEFAULTCAPACITY_EMPTY_ELEMENTDATA" "[Ljava/lang/Object;" (.ref ez) A s s.heap ∧ va_T (.object "java/lang/Object") ez 0 (fun _ => .null) A s s.heap ∧ va_AO "java/lang/Object" s ∧ vx_Zq Bundle.tN "UNASSIGNED_STACK" Bundle.steD A s s.heap ∧ vx_Zq Bundle.tN "SUPPRESSED_SENTINEL" Bundle.listD A s s.heap ∧ (∀ q ∈ vstr, ∃ sa, vk_R RX8 q.1 q.2 sa s) ∧ va_Z "java/lang/String" "COMPACT_STRINGS" "Z" (.int 1) A s s.heap ∧ (∃ t, va_Z "java/lang/Integer" "DigitOnes" "[B" (.ref t) A s s.heap ∧ va_T .byte t 100 (fun j => .int (nI (48 + j % 10))) A s s.heap) ∧ (∃ t, va_Z "java/lang/Integer" "DigitTens" "[B" (.ref t) A s s.heap ∧ va_T .byte t 100 (fun j => .int (nI (48 + j / 10))) A s s.heap) ∧ va_Zq "jdk/internal/util/Preconditions" "SIOOBE_FORMATTER" "Ljava/util/function/BiFunction;" A s s.heap
/-- the launch, as the class's side wants it -/
def GOK (g : Gx) (l : Launch) (ez : Nat) : Prop := l.flags = flags0 ∧ g.Stable ∧ (∀ s, g.X s → CXF g.A ez s) ∧ ∃ mi, ∀ s, g.X s → va_Mi "[Ljava/lang/Object;" mi s
theorem AWC.cx {x : Cx} {cc : ByteArray} {nL : Nat} {own : String} {R : Room} {ret : Option FieldType} {ez : Nat} (C : AWC x cc nL own R ret) (G : GOK x.g x.l ez) : CXF x.g.A ez x.s := G.2.2.1 _ C.env.2.2
def rmC (h c s : Nat) : Room := { frames := h, cells := c, slots := s, locals := 44 * h }
/-- the end of a void method that changes nothing -/
def PV (sg : Sg) : Option Value → Sg → Prop := fun v s' => v = none ∧ s' = sg
section CWC
variable {x : Cx} {Q : State → Prop} {k n : Nat} {sg : Sg} {pc : Nat} {ls : List (Nat × Value)} {st : List Value} {cc : ByteArray} {nL : Nat} {own : String} {R : Room} {ret : Option FieldType} {pc' : Nat}
variable {idx np maxL : Nat} {y : MethodName} {bytes : ByteArray} {rt : Option FieldType} {rm : Room} {As : List Value} {w : Value} {st0 : List Value} {b ci : Nat} {fs : List Value} {T : u_T} {N : Nat}
theorem cw_callVp (C : AWC x cc nL own R ret) (L : KV own idx y bytes maxL rt np) (hM : MM x.g x.l y bytes maxL rt rm sg (.ref b :: As) (PP sg w) noX) (hR : RmOk rm R maxL) (hci : vwCl[ci]? = some (y.cls, T, N)) (hs : sg b = some (ob ci fs)) (hn : As.length = np) (hst : st0 = As.reverse ++ .ref b :: st) (hW : (st.map fun v => v.category).sum ≤ 8) (hc : k + rm.cells ≤ R.cells) (hsl : n + rm.slots ≤ R.slots) (hdg : decode cc pc = .ok (.invokevirtual idx, 3)) (hpc : pc + 3 = pc')
    (kk : AW x Q (k + rm.cells) (n + rm.slots) sg pc' ls (w :: st)) : AW x Q k n sg pc ls st0 :=
  aw_callV C L hM hR hci hs hn hst hW hc hsl hdg hpc (fun _ _ q => ax_no q) (fun v sg' q => by obtain ⟨rfl, rfl⟩ := q; exact kk)
theorem cw_callVNp (C : AWC x cc nL own R ret) (L : KVN own idx y bytes maxL rt np) (hM : MM x.g x.l y bytes maxL rt rm sg (.ref b :: As) (PP sg w) noX) (hR : RmOk rm R maxL) (hci : vwCl[ci]? = some (y.cls, T, N)) (hs : sg b = some (ob ci fs)) (hn : As.length = np) (hst : st0 = As.reverse ++ .ref b :: st) (hW : (st.map fun v => v.category).sum ≤ 8) (hc : k + rm.cells ≤ R.cells) (hsl : n + rm.slots ≤ R.slots) (hdg : decode cc pc = .ok (.invokevirtual idx, 3)) (hpc : pc + 3 = pc')
    (kk : AW x Q (k + rm.cells) (n + rm.slots) sg pc' ls (w :: st)) : AW x Q k n sg pc ls st0 :=
  aw_callVN C L hM hR hci hs hn hst hW hc hsl hdg hpc (fun _ _ q => ax_no q) (fun v sg' q => by obtain ⟨rfl, rfl⟩ := q; exact kk)
theorem cw_callSp (C : AWC x cc nL own R ret) (L : KS own idx y bytes maxL rt np) (hM : MM x.g x.l y bytes maxL rt rm sg (As) (PP sg w) noX) (hR : RmOk rm R maxL) (hn : As.length = np) (hst : st0 = As.reverse ++ st) (hW : (st.map fun v => v.category).sum ≤ 8) (hc : k + rm.cells ≤ R.cells) (hsl : n + rm.slots ≤ R.slots) (hdg : decode cc pc = .ok (.invokestatic idx, 3)) (hpc : pc + 3 = pc')
    (kk : AW x Q (k + rm.cells) (n + rm.slots) sg pc' ls (w :: st)) : AW x Q k n sg pc ls st0 :=
  aw_callS C L hM hR hn hst hW hc hsl hdg hpc (fun _ _ q => ax_no q) (fun v sg' q => by obtain ⟨rfl, rfl⟩ := q; exact kk)
theorem cw_callSNp (C : AWC x cc nL own R ret) (L : KSN own idx y bytes maxL rt np) (hM : MM x.g x.l y bytes maxL rt rm sg (As) (PP sg w) noX) (hR : RmOk rm R maxL) (hn : As.length = np) (hst : st0 = As.reverse ++ st) (hW : (st.map fun v => v.category).sum ≤ 8) (hc : k + rm.cells ≤ R.cells) (hsl : n + rm.slots ≤ R.slots) (hdg : decode cc pc = .ok (.invokestatic idx, 3)) (hpc : pc + 3 = pc')
    (kk : AW x Q (k + rm.cells) (n + rm.slots) sg pc' ls (w :: st)) : AW x Q k n sg pc ls st0 :=
  aw_callSN C L hM hR hn hst hW hc hsl hdg hpc (fun _ _ q => ax_no q) (fun v sg' q => by obtain ⟨rfl, rfl⟩ := q; exact kk)
theorem cw_callVv (C : AWC x cc nL own R ret) (L : KV own idx y bytes maxL rt np) (hM : MM x.g x.l y bytes maxL rt rm sg (.ref b :: As) (PV sg) noX) (hR : RmOk rm R maxL) (hci : vwCl[ci]? = some (y.cls, T, N)) (hs : sg b = some (ob ci fs)) (hn : As.length = np) (hst : st0 = As.reverse ++ .ref b :: st) (hW : (st.map fun v => v.category).sum ≤ 8) (hc : k + rm.cells ≤ R.cells) (hsl : n + rm.slots ≤ R.slots) (hdg : decode cc pc = .ok (.invokevirtual idx, 3)) (hpc : pc + 3 = pc')
    (kk : AW x Q (k + rm.cells) (n + rm.slots) sg pc' ls st) : AW x Q k n sg pc ls st0 :=
  aw_callV C L hM hR hci hs hn hst hW hc hsl hdg hpc (fun _ _ q => ax_no q) (fun v sg' q => by obtain ⟨rfl, rfl⟩ := q; exact kk)
theorem cw_callVNv (C : AWC x cc nL own R ret) (L : KVN own idx y bytes maxL rt np) (hM : MM x.g x.l y bytes maxL rt rm sg (.ref b :: As) (PV sg) noX) (hR : RmOk rm R maxL) (hci : vwCl[ci]? = some (y.cls, T, N)) (hs : sg b = some (ob ci fs)) (hn : As.length = np) (hst : st0 = As.reverse ++ .ref b :: st) (hW : (st.map fun v => v.category).sum ≤ 8) (hc : k + rm.cells ≤ R.cells) (hsl : n + rm.slots ≤ R.slots) (hdg : decode cc pc = .ok (.invokevirtual idx, 3)) (hpc : pc + 3 = pc')
    (kk : AW x Q (k + rm.cells) (n + rm.slots) sg pc' ls st) : AW x Q k n sg pc ls st0 :=
  aw_callVN C L hM hR hci hs hn hst hW hc hsl hdg hpc (fun _ _ q => ax_no q) (fun v sg' q => by obtain ⟨rfl, rfl⟩ := q; exact kk)
theorem cw_callSv (C : AWC x cc nL own R ret) (L : KS own idx y bytes maxL rt np) (hM : MM x.g x.l y bytes maxL rt rm sg (As) (PV sg) noX) (hR : RmOk rm R maxL) (hn : As.length = np) (hst : st0 = As.reverse ++ st) (hW : (st.map fun v => v.category).sum ≤ 8) (hc : k + rm.cells ≤ R.cells) (hsl : n + rm.slots ≤ R.slots) (hdg : decode cc pc = .ok (.invokestatic idx, 3)) (hpc : pc + 3 = pc')
    (kk : AW x Q (k + rm.cells) (n + rm.slots) sg pc' ls st) : AW x Q k n sg pc ls st0 :=
  aw_callS C L hM hR hn hst hW hc hsl hdg hpc (fun _ _ q => ax_no q) (fun v sg' q => by obtain ⟨rfl, rfl⟩ := q; exact kk)
theorem cw_callSNv (C : AWC x cc nL own R ret) (L : KSN own idx y bytes maxL rt np) (hM : MM x.g x.l y bytes maxL rt rm sg (As) (PV sg) noX) (hR : RmOk rm R maxL) (hn : As.length = np) (hst : st0 = As.reverse ++ st) (hW : (st.map fun v => v.category).sum ≤ 8) (hc : k + rm.cells ≤ R.cells) (hsl : n + rm.slots ≤ R.slots) (hdg : decode cc pc = .ok (.invokestatic idx, 3)) (hpc : pc + 3 = pc')
    (kk : AW x Q (k + rm.cells) (n + rm.slots) sg pc' ls st) : AW x Q k n sg pc ls st0 :=
  aw_callSN C L hM hR hn hst hW hc hsl hdg hpc (fun _ _ q => ax_no q) (fun v sg' q => by obtain ⟨rfl, rfl⟩ := q; exact kk)
end CWC
theorem f_Jx4a65c_63 : FL RJx4a65c 63 1 0 RJx4a65c TJx4a65c 3 tyJx4a65c := FL.of "java/util/ArrayList" cf_Jx4a65c (Nat.le_of_ble_eq_true rfl) (fun s args h y hy => u_same (h _ (ws_of 104 (by decide +kernel))) y hy) (ws_of 103 (by decide +kernel))
theorem cap_le {n : Nat} (h : n ≤ 109) : n ≤ cap n := by unfold cap; split <;> (try split) <;> (try split) <;> (try split) <;> (try split) <;> (try split) <;> omega
theorem cap_b (n : Nat) : cap n ≤ 109 ∧ 10 ≤ cap n := by unfold cap; split <;> (try split) <;> (try split) <;> (try split) <;> (try split) <;> (try split) <;> omega
theorem cap_s {n : Nat} (h0 : 0 < n) (h : n < 109) (hn : n < cap n) : cap (n + 1) = cap n := by unfold cap at *; repeat (first | split | split at hn | omega)
theorem cap_g {n : Nat} (h0 : 0 < n) (h : n < 109) (hn : n = cap n) : cap (n + 1) = n + n / 2 := by unfold cap at *; repeat (first | split | split at hn | omega)
/-- the list la of n objects f, its row ea -/
def LH (g : Gx) (ez : Nat) (sg : Sg) (la ea n : Nat) (f : Nat → Nat) : Prop := sg la = some (ob 1 [.int (nI n), .ref ea, .int (nI n)]) ∧ (n = 0 → ea = ez) ∧ (0 < n → sg ea = some (arO g (cap n) (clip n none (fun j => some (f j)))))
theorem sgu_2 {sg : Sg} {a b : Nat} {e : va_E} (h : b ≠ a) : sgu sg a e b = sg b := sgu_n h
set_option maxRecDepth 100000 in
theorem L_size {g : Gx} {l : Launch} {ez : Nat} (G : GOK g l ez) {sg : Sg} {la n : Nat} {m : Value} {q : Value} (hs : sg la = some (ob 1 [m, q, .int (nI n)])) : MM g l yJx4a65c_size_8abf5 cJx4a65c_size_8abf5 1 (some .int) (rmC 1 0 0) sg [.ref la] (PP sg (.int (nI n))) (noX) := by
  refine MM.of G.1 G.2.1 (by decide) (Nat.le_of_ble_eq_true rfl) (fun x hg hlx C hin hout hargs => ?_)
  subst hg; subst hlx
  have C : AWC x cJx4a65c_size_8abf5 1 RJx4a65c (rmC 1 0 0) (some .int) := C
  show AW x (RQ x _ _ _ _) 0 0 sg 0 [(0, .ref la)] []
  refine aw_aload_n C dJx4a65c_size_8abf5_0 rfl rfl rfl ?_
  refine aw_getf C f_Jx4a65c_48 hs rfl dJx4a65c_size_8abf5_1 rfl ?_
  exact aw_iret C rfl (Nat.le_of_ble_eq_true rfl) (Nat.le_of_ble_eq_true rfl) (PP.of rfl) dJx4a65c_size_8abf5_4
set_option maxRecDepth 100000 in
theorem L_check3 {g : Gx} {l : Launch} {ez : Nat} (G : GOK g l ez) {sg : Sg} {i n : Nat} (hi : i < n) (hn : n < 2 ^ 31) : MM g l yJ3_checkIndex_8e157 cJ3_checkIndex_8e157 3 (some .int) (rmC 1 0 0) sg [.int (nI i), .int (nI n), .null] (PP sg (.int (nI i))) (noX) := by
  refine MM.of G.1 G.2.1 (by decide) (Nat.le_of_ble_eq_true rfl) (fun x hg hlx C hin hout hargs => ?_)
  subst hg; subst hlx
  have C : AWC x cJ3_checkIndex_8e157 3 RJ3 (rmC 1 0 0) (some .int) := C
  show AW x (RQ x _ _ _ _) 0 0 sg 0 [(0, .int (nI i)), (1, .int (nI n)), (2, .null)] []
  refine aw_iload_n C dJ3_checkIndex_8e157_0 rfl rfl rfl ?_
  refine aw_if_lt (tgt := 9) C dJ3_checkIndex_8e157_1 (by decide) rfl (fun c1 => ?_) (fun c1 => ?_)
  · exact absurd c1 (nI_pos (by omega))
  · refine aw_iload_n C dJ3_checkIndex_8e157_4 rfl rfl rfl ?_
    refine aw_iload_n C dJ3_checkIndex_8e157_5 rfl rfl rfl ?_
    refine aw_icmp_lt (tgt := 16) C dJ3_checkIndex_8e157_6 (by decide) rfl (fun c6 => ?_) (fun c6 => ?_)
    · refine aw_iload_n C dJ3_checkIndex_8e157_16 rfl rfl rfl ?_
      exact aw_iret C rfl (Nat.le_of_ble_eq_true rfl) (Nat.le_of_ble_eq_true rfl) (PP.of rfl) dJ3_checkIndex_8e157_17
    · exact absurd c6 (fun z => z (nI_lt hi hn))
set_option maxRecDepth 100000 in
theorem L_check15 {g : Gx} {l : Launch} {ez : Nat} (G : GOK g l ez) {sg : Sg} {i n : Nat} (hi : i < n) (hn : n < 2 ^ 31) : MM g l yJ15_checkIndex_7cf53 cJ15_checkIndex_7cf53 2 (some .int) (rmC 2 0 0) sg [.int (nI i), .int (nI n)] (PP sg (.int (nI i))) (noX) := by
  refine MM.of G.1 G.2.1 (by decide) (Nat.le_of_ble_eq_true rfl) (fun x hg hlx C hin hout hargs => ?_)
  subst hg; subst hlx
  have C : AWC x cJ15_checkIndex_7cf53 2 RJ15 (rmC 2 0 0) (some .int) := C
  show AW x (RQ x _ _ _ _) 0 0 sg 0 [(0, .int (nI i)), (1, .int (nI n))] []
  refine aw_iload_n C dJ15_checkIndex_7cf53_0 rfl rfl rfl ?_
  refine aw_iload_n C dJ15_checkIndex_7cf53_1 rfl rfl rfl ?_
  refine aw_null C dJ15_checkIndex_7cf53_2 rfl ?_
  refine cw_callSp C k_J15_105 (L_check3 G hi hn) ⟨by decide, by decide⟩ rfl rfl (Nat.le_of_ble_eq_true rfl) (Nat.le_of_ble_eq_true rfl) (Nat.le_of_ble_eq_true rfl) dJ15_checkIndex_7cf53_3 rfl ?_
  exact aw_iret C rfl (Nat.le_of_ble_eq_true rfl) (Nat.le_of_ble_eq_true rfl) (PP.of rfl) dJ15_checkIndex_7cf53_6
set_option maxRecDepth 100000 in
theorem L_elem {g : Gx} {l : Launch} {ez : Nat} (G : GOK g l ez) {sg : Sg} {la ea n : Nat} {f : Nat → Nat} (hL : LH g ez sg la ea n f) {i : Nat} (hi : i < n) (hn : n ≤ 109) : MM g l yJx4a65c_elementData_915e3 cJx4a65c_elementData_915e3 2 (some (.object "java/lang/Object")) (rmC 1 0 0) sg [.ref la, .int (nI i)] (PP sg (.ref (f i))) (noX) := by
  refine MM.of G.1 G.2.1 (by decide) (Nat.le_of_ble_eq_true rfl) (fun x hg hlx C hin hout hargs => ?_)
  subst hg; subst hlx
  have C : AWC x cJx4a65c_elementData_915e3 2 RJx4a65c (rmC 1 0 0) (some (.object "java/lang/Object")) := C
  show AW x (RQ x _ _ _ _) 0 0 sg 0 [(0, .ref la), (1, .int (nI i))] []
  refine aw_aload_n C dJx4a65c_elementData_915e3_0 rfl rfl rfl ?_
  refine aw_getf C f_Jx4a65c_9 hL.1 rfl dJx4a65c_elementData_915e3_1 rfl ?_
  refine aw_iload_n C dJx4a65c_elementData_915e3_4 rfl rfl rfl ?_
  refine aw_aald C (hL.2.2 (by omega)) (vp_in_nI (Nat.lt_of_lt_of_le hi (cap_le hn)) (by have := (cap_b n).1; omega)) dJx4a65c_elementData_915e3_5 rfl ?_
  rw [nI_clamp (by omega), clip, if_pos hi]
  exact aw_aret C (Or.inl ⟨_, rfl⟩) (Nat.le_of_ble_eq_true rfl) (Nat.le_of_ble_eq_true rfl) (PP.of rfl) dJx4a65c_elementData_915e3_6
set_option maxRecDepth 100000 in
theorem L_get {g : Gx} {l : Launch} {ez : Nat} (G : GOK g l ez) {sg : Sg} {la ea n : Nat} {f : Nat → Nat} (hL : LH g ez sg la ea n f) {i : Nat} (hi : i < n) (hn : n ≤ 109) : MM g l yJx4a65c_get_915e3 cJx4a65c_get_915e3 2 (some (.object "java/lang/Object")) (rmC 3 0 0) sg [.ref la, .int (nI i)] (PP sg (.ref (f i))) (noX) := by
  refine MM.of G.1 G.2.1 (by decide) (Nat.le_of_ble_eq_true rfl) (fun x hg hlx C hin hout hargs => ?_)
  subst hg; subst hlx
  have C : AWC x cJx4a65c_get_915e3 2 RJx4a65c (rmC 3 0 0) (some (.object "java/lang/Object")) := C
  show AW x (RQ x _ _ _ _) 0 0 sg 0 [(0, .ref la), (1, .int (nI i))] []
  refine aw_iload_n C dJx4a65c_get_915e3_0 rfl rfl rfl ?_
  refine aw_aload_n C dJx4a65c_get_915e3_1 rfl rfl rfl ?_
  refine aw_getf C f_Jx4a65c_48 hL.1 rfl dJx4a65c_get_915e3_2 rfl ?_
  refine cw_callSp C k_Jx4a65c_118 (L_check15 G hi (by omega)) ⟨by decide, by decide⟩ rfl rfl (Nat.le_of_ble_eq_true rfl) (Nat.le_of_ble_eq_true rfl) (Nat.le_of_ble_eq_true rfl) dJx4a65c_get_915e3_5 rfl ?_
  refine aw_pop C dJx4a65c_get_915e3_8 rfl rfl ?_
  refine aw_aload_n C dJx4a65c_get_915e3_9 rfl rfl rfl ?_
  refine aw_iload_n C dJx4a65c_get_915e3_10 rfl rfl rfl ?_
  refine cw_callVp C k_Jx4a65c_123 (L_elem G hL hi hn) ⟨by decide, by decide⟩ (ci := 1) rfl hL.1 rfl rfl (Nat.le_of_ble_eq_true rfl) (Nat.le_of_ble_eq_true rfl) (Nat.le_of_ble_eq_true rfl) dJx4a65c_get_915e3_11 rfl ?_
  exact aw_aret (r := some (f i)) C (Or.inl ⟨_, rfl⟩) (Nat.le_of_ble_eq_true rfl) (Nat.le_of_ble_eq_true rfl) (PP.of rfl) dJx4a65c_get_915e3_14
set_option maxRecDepth 100000 in
theorem L_acI {g : Gx} {l : Launch} {ez : Nat} (G : GOK g l ez) {sg : Sg} {la : Nat} : MM g l yJxa1e45_init_da8c8 cJxa1e45_init_da8c8 1 none (rmC 2 0 0) sg [.ref la] (PV sg) (noX) := by
  refine MM.of G.1 G.2.1 (by decide) (Nat.le_of_ble_eq_true rfl) (fun x hg hlx C hin hout hargs => ?_)
  subst hg; subst hlx
  have C : AWC x cJxa1e45_init_da8c8 1 RJxa1e45 (rmC 2 0 0) none := C
  show AW x (RQ x _ _ _ _) 0 0 sg 0 [(0, .ref la)] []
  refine aw_aload_n C dJxa1e45_init_da8c8_0 rfl rfl rfl ?_
  refine aw_objI C (ws_of 97 (by decide +kernel)) (ws_of 84 (by decide +kernel)) (aw_mem_ws (i := 85) rfl rfl) (by decide) (by decide) dJxa1e45_init_da8c8_1 rfl ?_
  exact aw_vret C (Nat.le_of_ble_eq_true rfl) (Nat.le_of_ble_eq_true rfl) ⟨rfl, rfl⟩ dJxa1e45_init_da8c8_4
set_option maxRecDepth 100000 in
theorem L_alI {g : Gx} {l : Launch} {ez : Nat} (G : GOK g l ez) {sg : Sg} {la : Nat} {m q n : Value} (hs : sg la = some (ob 1 [m, q, n])) : MM g l yJxc12de_init_da8c8 cJxc12de_init_da8c8 1 none (rmC 3 0 0) sg [.ref la] (fun v s' => v = none ∧ s' = sgu sg la (ob 1 [.int 0, q, n])) (noX) := by
  refine MM.of G.1 G.2.1 (by decide) (Nat.le_of_ble_eq_true rfl) (fun x hg hlx C hin hout hargs => ?_)
  subst hg; subst hlx
  have C : AWC x cJxc12de_init_da8c8 1 RJxc12de (rmC 3 0 0) none := C
  show AW x (RQ x _ _ _ _) 0 0 sg 0 [(0, .ref la)] []
  refine aw_aload_n C dJxc12de_init_da8c8_0 rfl rfl rfl ?_
  refine aw_callI C k_Jxc12de_1 (L_acI G) ⟨by decide, by decide⟩ rfl rfl (Nat.le_of_ble_eq_true rfl) (Nat.le_of_ble_eq_true rfl) (Nat.le_of_ble_eq_true rfl) dJxc12de_init_da8c8_1 rfl (fun _ _ q => ax_no q) (fun v s1 hq => ?_)
  obtain ⟨rfl, rfl⟩ := hq
  refine aw_aload_n C dJxc12de_init_da8c8_4 rfl rfl rfl ?_
  refine aw_iconst (v := 0) C dJxc12de_init_da8c8_5 rfl rfl ?_
  refine aw_putf C f_Jxc12de_7 rfl hs rfl rfl (Nat.le_of_ble_eq_true rfl) rfl dJxc12de_init_da8c8_6 rfl ?_
  exact aw_vret C (Nat.le_of_ble_eq_true rfl) (Nat.le_of_ble_eq_true rfl) ⟨rfl, rfl⟩ dJxc12de_init_da8c8_9
set_option maxRecDepth 100000 in
theorem L_listI {g : Gx} {l : Launch} {ez : Nat} (G : GOK g l ez) {sg : Sg} {la : Nat} {m q : Value} (hs : sg la = some (ob 1 [m, q, .int 0])) : MM g l yJx4a65c_init_da8c8 cJx4a65c_init_da8c8 1 none (rmC 4 0 0) sg [.ref la] (fun v s' => v = none ∧ s' la = some (ob 1 [.int 0, .ref ez, .int 0]) ∧ ∀ a, a ≠ la → s' a = sg a) (noX) := by
  refine MM.of G.1 G.2.1 (by decide) (Nat.le_of_ble_eq_true rfl) (fun x hg hlx C hin hout hargs => ?_)
  subst hg; subst hlx
  have C : AWC x cJx4a65c_init_da8c8 1 RJx4a65c (rmC 4 0 0) none := C
  show AW x (RQ x _ _ _ _) 0 0 sg 0 [(0, .ref la)] []
  refine aw_aload_n C dJx4a65c_init_da8c8_0 rfl rfl rfl ?_
  refine aw_callI C k_Jx4a65c_1 (L_alI G hs) ⟨by decide, by decide⟩ rfl rfl (Nat.le_of_ble_eq_true rfl) (Nat.le_of_ble_eq_true rfl) (Nat.le_of_ble_eq_true rfl) dJx4a65c_init_da8c8_1 rfl (fun _ _ q => ax_no q) (fun v s1 hq => ?_)
  obtain ⟨rfl, rfl⟩ := hq
  refine aw_aload_n C dJx4a65c_init_da8c8_4 rfl rfl rfl ?_
  refine aw_gets C (C.cx G).1 (ws_of 98 (by decide +kernel)) dJx4a65c_init_da8c8_5 rfl ?_
  refine aw_putf C f_Jx4a65c_9 rfl sgu_s rfl rfl (Nat.le_of_ble_eq_true rfl) rfl dJx4a65c_init_da8c8_8 rfl ?_
  exact aw_vret C (Nat.le_of_ble_eq_true rfl) (Nat.le_of_ble_eq_true rfl) ⟨rfl, sgu_s, fun a ha => (sgu_n ha).trans (sgu_n ha)⟩ dJx4a65c_init_da8c8_11
set_option maxRecDepth 100000 in
theorem L_newLen {g : Gx} {l : Launch} {ez : Nat} (G : GOK g l ez) {sg : Sg} {n : Nat} (h2 : 2 ≤ n) (hn : n ≤ 1000) : MM g l yJ8_newLength_cabcc cJ8_newLength_cabcc 4 (some .int) (rmC 2 0 0) sg [.int (nI n), .int (nI 1), .int (nI (n / 2))] (PP sg (.int (nI (n + n / 2)))) (noX) := by
  refine MM.of G.1 G.2.1 (by decide) (Nat.le_of_ble_eq_true rfl) (fun x hg hlx C hin hout hargs => ?_)
  subst hg; subst hlx
  have C : AWC x cJ8_newLength_cabcc 4 RJ8 (rmC 2 0 0) (some .int) := C
  show AW x (RQ x _ _ _ _) 0 0 sg 0 [(0, .int (nI n)), (1, .int (nI 1)), (2, .int (nI (n / 2)))] []
  refine aw_iload_n C dJ8_newLength_cabcc_0 rfl rfl rfl ?_
  refine aw_iload_n C dJ8_newLength_cabcc_1 rfl rfl rfl ?_
  refine aw_iload_n C dJ8_newLength_cabcc_2 rfl rfl rfl ?_
  refine aw_max C (ws_of 295 (by decide +kernel)) (Nat.le_of_ble_eq_true rfl) (Nat.le_of_ble_eq_true rfl) (Nat.le_of_ble_eq_true rfl) (Nat.le_of_ble_eq_true rfl) dJ8_newLength_cabcc_3 rfl ?_
  rw [show (if nI 1 < nI (n / 2) then nI (n / 2) else nI 1) = nI (n / 2) from by
    by_cases h : 1 < n / 2
    · rw [if_pos (nI_lt h (by omega))]
    · rw [if_neg (nI_nlt (by omega) (by decide)), show n / 2 = 1 by omega]]
  refine aw_iadd C dJ8_newLength_cabcc_6 rfl ?_
  rw [nI_add]
  refine aw_istore_n (ls' := [(3, _), (0, _), (1, _), (2, _)]) C dJ8_newLength_cabcc_7 rfl (by decide) rfl rfl ?_
  refine aw_iconst (v := 0) C dJ8_newLength_cabcc_8 rfl rfl ?_
  refine aw_iload_n C dJ8_newLength_cabcc_9 rfl rfl rfl ?_
  refine aw_icmp_ge (tgt := 21) C dJ8_newLength_cabcc_10 (by decide) rfl (fun c10 => ?_) (fun c10 => ?_)
  · exact absurd c10 (nI_nle (by omega) (by omega))
  · refine aw_iload_n C dJ8_newLength_cabcc_13 rfl rfl rfl ?_
    refine aw_ldc C dJ8_newLength_cabcc_14 q_J8_200 rfl ?_
    refine aw_icmp_gt (tgt := 21) C dJ8_newLength_cabcc_16 (by decide) rfl (fun c16 => ?_) (fun c16 => ?_)
    · exact absurd c16 (nI_nlt (by omega) (by decide) : ¬ nI 2147483639 < nI (n + n / 2))
    · refine aw_iload_n C dJ8_newLength_cabcc_19 rfl rfl rfl ?_
      exact aw_iret C rfl (Nat.le_of_ble_eq_true rfl) (Nat.le_of_ble_eq_true rfl) (PP.of rfl) dJ8_newLength_cabcc_20
set_option maxRecDepth 100000 in
theorem L_copyOf3 {g : Gx} {l : Launch} {ez : Nat} (G : GOK g l ez) {sg : Sg} {ea n N ci : Nat} {f : Nat → Option Nat} (hs : sg ea = some (arO g n f)) (ho : isObj ci = true) (hel : ∀ i, i < n → ∀ y, f i = some y → ∃ fs, sg y = some (ob ci fs)) (hnN : n ≤ N) (hN : N ≤ 1000) {mi : Nat} (hmi : ∀ s, g.X s → va_Mi "[Ljava/lang/Object;" mi s) : MM g l yJ7_copyOf_6403c cJ7_copyOf_6403c 4 (some (.array (.object "java/lang/Object"))) (rmC 2 1 1000) sg [.ref ea, .int (nI N), .ref mi] (fun v s' => ∃ q, v = some (.ref q) ∧ sg q = none ∧ s' q = some (arO g N (va_cpy f (fun _ => none) 0 0 n)) ∧ ∀ a, a ≠ q → s' a = sg a) (noX) := by
  refine MM.of G.1 G.2.1 (by decide) (Nat.le_of_ble_eq_true rfl) (fun x hg hlx C hin hout hargs => ?_)
  subst hg; subst hlx
  have C : AWC x cJ7_copyOf_6403c 4 RJ7 (rmC 2 1 1000) (some (.array (.object "java/lang/Object"))) := C
  show AW x (RQ x _ _ _ _) 0 0 sg 0 [(0, .ref ea), (1, .int (nI N)), (2, .ref mi)] []
  have hmi := hmi _ C.env.2.2
  refine aw_aload_n C dJ7_copyOf_6403c_0 rfl rfl rfl ?_
  refine aw_ldcM C (ws_of 326 (by decide +kernel)) hmi dJ7_copyOf_6403c_1 rfl ?_
  refine aw_acmp_ne (rx := some mi) (ry := some mi) (tgt := 13) C dJ7_copyOf_6403c_3 (by decide) rfl (fun z => absurd rfl z) (fun _ => ?_)
  refine aw_iload_n C dJ7_copyOf_6403c_6 rfl rfl rfl ?_
  refine aw_newO (N := N) C (C.cx G).2.2.1 (ws_of 328 (by decide +kernel)) (nI_pos (by omega)) (nI_clamp (by omega)) (by omega) (Nat.le_of_ble_eq_true rfl) (by show 0 + N ≤ 1000; omega) dJ7_copyOf_6403c_7 rfl (fun q hq => ?_)
  have hne : ea ≠ q := fun z => by rw [z, hq] at hs; cases hs
  have hs1 : sgu sg q (arO x.g N (fun _ => none)) ea = some (arO x.g n f) := (sgu_n hne).trans hs
  refine aw_goto (tgt := 24) C dJ7_copyOf_6403c_10 (by decide) ?_
  refine aw_astore_n (ls' := [(3, _), (0, _), (1, _), (2, _)]) C dJ7_copyOf_6403c_24 rfl (by decide) rfl rfl ?_
  refine aw_aload_n C dJ7_copyOf_6403c_25 rfl rfl rfl ?_
  refine aw_iconst (v := 0) C dJ7_copyOf_6403c_26 rfl rfl ?_
  refine aw_aload_n C dJ7_copyOf_6403c_27 rfl rfl rfl ?_
  refine aw_iconst (v := 0) C dJ7_copyOf_6403c_28 rfl rfl ?_
  refine aw_aload_n C dJ7_copyOf_6403c_29 rfl rfl rfl ?_
  refine aw_alenO C hs1 dJ7_copyOf_6403c_30 rfl ?_
  refine aw_iload_n C dJ7_copyOf_6403c_31 rfl rfl rfl ?_
  refine aw_min C (ws_of 329 (by decide +kernel)) (Nat.le_of_ble_eq_true rfl) (Nat.le_of_ble_eq_true rfl) (Nat.le_of_ble_eq_true rfl) (by show 0 + N ≤ 1000; omega) dJ7_copyOf_6403c_32 rfl ?_
  rw [show (if nI N < nI n then nI N else nI n) = nI n from if_neg (nI_nlt hnN (by omega))]
  refine aw_copyO (N := n) (M := N) (ci := ci) C (ws_of 332 (by decide +kernel)) hs1 sgu_s ho (by decide) (by decide) (nI_pos (by omega)) (by rw [nI_clamp (by omega)]; show 0 + n ≤ n; omega) (by rw [nI_clamp (by omega)]; show 0 + n ≤ N; omega) (fun i hi y hy => ?_) (by decide) (by decide) dJ7_copyOf_6403c_35 rfl ?_
  · rw [nI_clamp (by omega)] at hi
    have hy : f (0 + i) = some y := hy
    rw [Nat.zero_add] at hy
    obtain ⟨fs, hfs⟩ := hel i hi y hy
    exact ⟨fs, (sgu_n (fun z => by rw [z, hq] at hfs; cases hfs)).trans hfs⟩
  rw [nI_clamp (by omega)]
  refine aw_aload_n C dJ7_copyOf_6403c_38 rfl rfl rfl ?_
  exact aw_aret (r := some q) C (Or.inr ⟨_, rfl⟩) (Nat.le_of_ble_eq_true rfl) (by show 0 + N ≤ 1000; omega) ⟨q, rfl, hq, sgu_s, fun a ha => (sgu_n ha).trans (sgu_n ha)⟩ dJ7_copyOf_6403c_39
set_option maxRecDepth 100000 in
theorem L_copyOf2 {g : Gx} {l : Launch} {ez : Nat} (G : GOK g l ez) {sg : Sg} {ea n N ci : Nat} {f : Nat → Option Nat} (hs : sg ea = some (arO g n f)) (ho : isObj ci = true) (hel : ∀ i, i < n → ∀ y, f i = some y → ∃ fs, sg y = some (ob ci fs)) (hnN : n ≤ N) (hN : N ≤ 1000) : MM g l yJ7_copyOf_1904c cJ7_copyOf_1904c 2 (some (.array (.object "java/lang/Object"))) (rmC 3 1 1000) sg [.ref ea, .int (nI N)] (fun v s' => ∃ q, v = some (.ref q) ∧ sg q = none ∧ s' q = some (arO g N (va_cpy f (fun _ => none) 0 0 n)) ∧ ∀ a, a ≠ q → s' a = sg a) (noX) := by
  refine MM.of G.1 G.2.1 (by decide) (Nat.le_of_ble_eq_true rfl) (fun x hg hlx C hin hout hargs => ?_)
  subst hg; subst hlx
  have C : AWC x cJ7_copyOf_1904c 2 RJ7 (rmC 3 1 1000) (some (.array (.object "java/lang/Object"))) := C
  show AW x (RQ x _ _ _ _) 0 0 sg 0 [(0, .ref ea), (1, .int (nI N))] []
  obtain ⟨mi, hmi⟩ := G.2.2.2
  refine aw_aload_n C dJ7_copyOf_1904c_0 rfl rfl rfl ?_
  refine aw_iload_n C dJ7_copyOf_1904c_1 rfl rfl rfl ?_
  refine aw_aload_n C dJ7_copyOf_1904c_2 rfl rfl rfl ?_
  refine aw_getC C (ws_of 305 (by decide +kernel)) (ws_of 1166 (by decide +kernel)) (ws_of 1165 (by decide +kernel)) (ws_of 306 (by decide +kernel)) (ws_of 322 (by decide +kernel)) (hmi _ C.env.2.2) hs (Nat.le_of_ble_eq_true rfl) (Nat.le_of_ble_eq_true rfl) dJ7_copyOf_1904c_3 rfl ?_
  refine aw_callS C k_J7_300 (L_copyOf3 G hs ho hel hnN hN hmi) ⟨by decide, by decide⟩ rfl rfl (Nat.le_of_ble_eq_true rfl) (Nat.le_of_ble_eq_true rfl) (Nat.le_of_ble_eq_true rfl) dJ7_copyOf_1904c_6 rfl (fun _ _ q => ax_no q) (fun v s1 hq => ?_)
  obtain ⟨q, rfl, hq⟩ := hq
  exact aw_aret (r := some q) C (Or.inr ⟨_, rfl⟩) (Nat.le_of_ble_eq_true rfl) (Nat.le_of_ble_eq_true rfl) ⟨q, rfl, hq⟩ dJ7_copyOf_1904c_9
theorem va_cpy_clip {n : Nat} {f : Nat → Option Nat} : va_cpy (clip n none f) (fun _ => none) 0 0 n = clip n none f := by
  funext j
  by_cases h : j < n
  · rw [pk_cpy_in (Nat.zero_le _) (by omega), show 0 + (j - 0) = j by omega]
  · rw [pk_cpy_out (Or.inr (by omega)), clip, if_neg h]
set_option maxRecDepth 100000 in
theorem L_grow1 {g : Gx} {l : Launch} {ez : Nat} (G : GOK g l ez) {sg : Sg} {la ea n ci : Nat} {f : Nat → Nat} {m : Value} (hs : sg la = some (ob 1 [m, .ref ea, .int (nI n)])) (h0 : n = 0 → ea = ez) (h1 : 0 < n → sg ea = some (arO g (cap n) (clip n none (fun j => some (f j))))) (hfull : n = 0 ∨ n = cap n) (hn : n < 109) (ho : isObj ci = true) (hel : ∀ i, i < n → ∃ fs, sg (f i) = some (ob ci fs)) : MM g l yJx4a65c_grow_92f84 cJx4a65c_grow_92f84 4 (some (.array (.object "java/lang/Object"))) (rmC 4 1 1000) sg [.ref la, .int (nI (n + 1))] (fun v s' => ∃ q, v = some (.ref q) ∧ sg q = none ∧ s' q = some (arO g (cap (n + 1)) (clip n none (fun j => some (f j)))) ∧ s' la = some (ob 1 [m, .ref q, .int (nI n)]) ∧ ∀ a, a ≠ q → a ≠ la → s' a = sg a) (noX) := by
  refine MM.of G.1 G.2.1 (by decide) (Nat.le_of_ble_eq_true rfl) (fun x hg hlx C hin hout hargs => ?_)
  subst hg; subst hlx
  have C : AWC x cJx4a65c_grow_92f84 4 RJx4a65c (rmC 4 1 1000) (some (.array (.object "java/lang/Object"))) := C
  show AW x (RQ x _ _ _ _) 0 0 sg 0 [(0, .ref la), (1, .int (nI (n + 1)))] []
  rcases Nat.eq_zero_or_pos n with h0z | h0
  · subst h0z
    obtain rfl : ez = ea := (h0 rfl).symm
    refine aw_aload_n C dJx4a65c_grow_92f84_0 rfl rfl rfl ?_
    refine aw_getf C f_Jx4a65c_9 hs rfl dJx4a65c_grow_92f84_1 rfl ?_
    refine aw_alenT C (C.cx G).2.1 dJx4a65c_grow_92f84_4 rfl ?_
    refine aw_istore_n (ls' := [(2, _), (0, _), (1, _)]) C dJx4a65c_grow_92f84_5 rfl (by decide) rfl rfl ?_
    refine aw_iload_n C dJx4a65c_grow_92f84_6 rfl rfl rfl ?_
    refine aw_if_gt (tgt := 20) C dJx4a65c_grow_92f84_7 (by decide) rfl (fun z => absurd z (by decide)) (fun _ => ?_)
    refine aw_aload_n C dJx4a65c_grow_92f84_10 rfl rfl rfl ?_
    refine aw_getf C f_Jx4a65c_9 hs rfl dJx4a65c_grow_92f84_11 rfl ?_
    refine aw_gets C (C.cx G).1 (ws_of 98 (by decide +kernel)) dJx4a65c_grow_92f84_14 rfl ?_
    refine aw_acmp_eq (rx := some ez) (ry := some ez) (tgt := 45) C dJx4a65c_grow_92f84_17 (by decide) rfl (fun _ => ?_) (fun z => absurd rfl z)
    refine aw_aload_n C dJx4a65c_grow_92f84_45 rfl rfl rfl ?_
    refine aw_bipush (v := 10) C dJx4a65c_grow_92f84_46 rfl rfl ?_
    refine aw_iload_n C dJx4a65c_grow_92f84_48 rfl rfl rfl ?_
    refine aw_max C (ws_of 335 (by decide +kernel)) (Nat.le_of_ble_eq_true rfl) (Nat.le_of_ble_eq_true rfl) (Nat.le_of_ble_eq_true rfl) (Nat.le_of_ble_eq_true rfl) dJx4a65c_grow_92f84_49 rfl ?_
    rw [show (if (10 : Int32) < nI (0 + 1) then nI (0 + 1) else 10) = nI 10 from by decide]
    refine aw_newO (N := 10) C (C.cx G).2.2.1 (ws_of 336 (by decide +kernel)) (by decide) (by decide) (by decide) (Nat.le_of_ble_eq_true rfl) (Nat.le_of_ble_eq_true rfl) dJx4a65c_grow_92f84_52 rfl (fun q hq => ?_)
    have hne : la ≠ q := fun z => by rw [z, hq] at hs; cases hs
    refine aw_dup_x1 C dJx4a65c_grow_92f84_55 rfl rfl rfl ?_
    refine aw_putf C f_Jx4a65c_9 rfl ((sgu_n hne).trans hs) rfl rfl (Nat.le_of_ble_eq_true rfl) rfl dJx4a65c_grow_92f84_56 rfl ?_
    exact aw_aret (r := some q) C (Or.inr ⟨_, rfl⟩) (Nat.le_of_ble_eq_true rfl) (Nat.le_of_ble_eq_true rfl) ⟨q, rfl, hq, (sgu_n (Ne.symm hne)).trans (sgu_s.trans (congrArg (fun f => some (arO x.g 10 f)) (funext fun j => rfl))), sgu_s, fun a ha hb => (sgu_n hb).trans (sgu_n ha)⟩ dJx4a65c_grow_92f84_59
  · have hfull : n = cap n := by omega
    have hcb := cap_b n
    refine aw_aload_n C dJx4a65c_grow_92f84_0 rfl rfl rfl ?_
    refine aw_getf C f_Jx4a65c_9 hs rfl dJx4a65c_grow_92f84_1 rfl ?_
    refine aw_alenO C (h1 h0) dJx4a65c_grow_92f84_4 rfl ?_
    rw [← hfull]
    refine aw_istore_n (ls' := [(2, _), (0, _), (1, _)]) C dJx4a65c_grow_92f84_5 rfl (by decide) rfl rfl ?_
    refine aw_iload_n C dJx4a65c_grow_92f84_6 rfl rfl rfl ?_
    refine aw_if_gt (tgt := 20) C dJx4a65c_grow_92f84_7 (by decide) rfl (fun _ => ?_) (fun z => absurd (by rw [Int32.lt_iff_toInt_lt, nI_toInt (by omega), Int32.toInt_zero]; omega) z)
    refine aw_iload_n C dJx4a65c_grow_92f84_20 rfl rfl rfl ?_
    refine aw_iload_n C dJx4a65c_grow_92f84_21 rfl rfl rfl ?_
    refine aw_iload_n C dJx4a65c_grow_92f84_22 rfl rfl rfl ?_
    refine aw_isub C dJx4a65c_grow_92f84_23 rfl ?_
    refine aw_iload_n C dJx4a65c_grow_92f84_24 rfl rfl rfl ?_
    refine aw_iconst (v := 1) C dJx4a65c_grow_92f84_25 rfl rfl ?_
    refine aw_ishr C dJx4a65c_grow_92f84_26 rfl ?_
    rw [pk_sub (by omega), show n + 1 - n = 1 by omega, show nI n >>> ((1 : Int32) &&& 31) = nI (n / 2) from by
      have k := pk_shrN (n := n) (by omega) ((1 : Int32) &&& 31) 1 (by decide)
      rw [Nat.pow_one] at k
      exact k]
    refine cw_callSp C k_Jx4a65c_73 (L_newLen G (n := n) (by omega) (by omega)) ⟨by decide, by decide⟩ rfl rfl (Nat.le_of_ble_eq_true rfl) (Nat.le_of_ble_eq_true rfl) (Nat.le_of_ble_eq_true rfl) dJx4a65c_grow_92f84_27 rfl ?_
    refine aw_istore_n (ls' := [(3, _), (2, _), (0, _), (1, _)]) C dJx4a65c_grow_92f84_30 rfl (by decide) rfl rfl ?_
    refine aw_aload_n C dJx4a65c_grow_92f84_31 rfl rfl rfl ?_
    refine aw_aload_n C dJx4a65c_grow_92f84_32 rfl rfl rfl ?_
    refine aw_getf C f_Jx4a65c_9 hs rfl dJx4a65c_grow_92f84_33 rfl ?_
    refine aw_iload_n C dJx4a65c_grow_92f84_36 rfl rfl rfl ?_
    refine aw_callS C k_Jx4a65c_66 (L_copyOf2 G (h1 h0) ho (fun i hi y hy => ?_) (by omega) (by omega)) ⟨by decide, by decide⟩ rfl rfl (Nat.le_of_ble_eq_true rfl) (Nat.le_of_ble_eq_true rfl) (Nat.le_of_ble_eq_true rfl) dJx4a65c_grow_92f84_37 rfl (fun _ _ q => ax_no q) (fun v s1 hq => ?_)
    · rw [clip, if_pos (by omega)] at hy
      cases hy
      exact hel i (by omega)
    obtain ⟨q, rfl, hq, hq1, hq2⟩ := hq
    have hne : la ≠ q := fun z => by rw [z, hq] at hs; cases hs
    refine aw_dup_x1 C dJx4a65c_grow_92f84_40 rfl rfl rfl ?_
    refine aw_putf C f_Jx4a65c_9 rfl ((hq2 la hne).trans hs) rfl rfl (Nat.le_of_ble_eq_true rfl) rfl dJx4a65c_grow_92f84_41 rfl ?_
    refine aw_aret (r := some q) C (Or.inr ⟨_, rfl⟩) (Nat.le_of_ble_eq_true rfl) (Nat.le_of_ble_eq_true rfl) ⟨q, rfl, hq, ?_, sgu_s, fun a ha hb => (sgu_n hb).trans (hq2 a ha)⟩ dJx4a65c_grow_92f84_44
    rw [sgu_n (Ne.symm hne), hq1, cap_g h0 hn hfull, ← hfull, va_cpy_clip]
set_option maxRecDepth 100000 in
theorem L_grow0 {g : Gx} {l : Launch} {ez : Nat} (G : GOK g l ez) {sg : Sg} {la ea n ci : Nat} {f : Nat → Nat} {m : Value} (hs : sg la = some (ob 1 [m, .ref ea, .int (nI n)])) (h0 : n = 0 → ea = ez) (h1 : 0 < n → sg ea = some (arO g (cap n) (clip n none (fun j => some (f j))))) (hfull : n = 0 ∨ n = cap n) (hn : n < 109) (ho : isObj ci = true) (hel : ∀ i, i < n → ∃ fs, sg (f i) = some (ob ci fs)) : MM g l yJx4a65c_grow_d5877 cJx4a65c_grow_d5877 1 (some (.array (.object "java/lang/Object"))) (rmC 5 1 1000) sg [.ref la] (fun v s' => ∃ q, v = some (.ref q) ∧ sg q = none ∧ s' q = some (arO g (cap (n + 1)) (clip n none (fun j => some (f j)))) ∧ s' la = some (ob 1 [m, .ref q, .int (nI n)]) ∧ ∀ a, a ≠ q → a ≠ la → s' a = sg a) (noX) := by
  refine MM.of G.1 G.2.1 (by decide) (Nat.le_of_ble_eq_true rfl) (fun x hg hlx C hin hout hargs => ?_)
  subst hg; subst hlx
  have C : AWC x cJx4a65c_grow_d5877 1 RJx4a65c (rmC 5 1 1000) (some (.array (.object "java/lang/Object"))) := C
  show AW x (RQ x _ _ _ _) 0 0 sg 0 [(0, .ref la)] []
  refine aw_aload_n C dJx4a65c_grow_d5877_0 rfl rfl rfl ?_
  refine aw_aload_n C dJx4a65c_grow_d5877_1 rfl rfl rfl ?_
  refine aw_getf C f_Jx4a65c_48 hs rfl dJx4a65c_grow_d5877_2 rfl ?_
  refine aw_iconst (v := 1) C dJx4a65c_grow_d5877_5 rfl rfl ?_
  refine aw_iadd C dJx4a65c_grow_d5877_6 rfl ?_
  rw [nI_1]
  refine aw_callV C k_Jx4a65c_69 (L_grow1 G hs h0 h1 hfull hn ho hel) ⟨by decide, by decide⟩ (ci := 1) rfl hs rfl rfl (Nat.le_of_ble_eq_true rfl) (Nat.le_of_ble_eq_true rfl) (Nat.le_of_ble_eq_true rfl) dJx4a65c_grow_d5877_7 rfl (fun _ _ q => ax_no q) (fun v s1 hq => ?_)
  obtain ⟨q, rfl, hq⟩ := hq
  exact aw_aret (r := some q) C (Or.inr ⟨_, rfl⟩) (Nat.le_of_ble_eq_true rfl) (Nat.le_of_ble_eq_true rfl) ⟨q, rfl, hq⟩ dJx4a65c_grow_d5877_10
theorem clip_add {n v : Nat} {f : Nat → Nat} : va_up (clip n none (fun j => some (f j))) n (some v) = clip (n + 1) none (fun j => some (if j = n then v else f j)) := by
  funext j
  unfold va_up clip
  by_cases h : j = n
  · rw [if_pos h, if_pos (by omega)]
    show some v = some (if j = n then v else f j)
    rw [if_pos h]
  · rw [if_neg h]
    by_cases h2 : j < n
    · rw [if_pos h2, if_pos (by omega)]
      show some (f j) = some (if j = n then v else f j)
      rw [if_neg h]
    · rw [if_neg h2, if_neg (by omega)]
theorem ob_ne {sg : Sg} {a b ci : Nat} {fs : List Value} {p : ClassId × vp_A} (ha : sg a = some (ob ci fs)) (hb : sg b = some (.inl p)) : a ≠ b := fun z => by
  rw [z, hb] at ha
  cases ha
theorem no_ne {sg : Sg} {a b : Nat} {e : va_E} (ha : sg a = some e) (hb : sg b = none) : a ≠ b := fun z => by
  rw [z, hb] at ha
  cases ha
set_option maxRecDepth 100000 in
theorem L_add3 {g : Gx} {l : Launch} {ez : Nat} (G : GOK g l ez) {sg : Sg} {la ea n ci v : Nat} {f : Nat → Nat} {m : Value} {fs : List Value} (hs : sg la = some (ob 1 [m, .ref ea, .int (nI n)])) (h0 : n = 0 → ea = ez) (h1 : 0 < n → sg ea = some (arO g (cap n) (clip n none (fun j => some (f j))))) (hn : n < 109) (ho : isObj ci = true) (hel : ∀ i, i < n → ∃ fs, sg (f i) = some (ob ci fs)) (hv : sg v = some (ob ci fs)) : MM g l yJx4a65c_add_72be8 cJx4a65c_add_72be8 4 none (rmC 6 1 1000) sg [.ref la, .ref v, .ref ea, .int (nI n)] (fun w s' => w = none ∧ ∃ q, (sg q = none ∨ 0 < n ∧ q = ea) ∧ s' q = some (arO g (cap (n + 1)) (clip (n + 1) none (fun j => some (if j = n then v else f j)))) ∧ s' la = some (ob 1 [m, .ref q, .int (nI (n + 1))]) ∧ ∀ a, a ≠ q → a ≠ la → s' a = sg a) (noX) := by
  refine MM.of G.1 G.2.1 (by decide) (Nat.le_of_ble_eq_true rfl) (fun x hg hlx C hin hout hargs => ?_)
  subst hg; subst hlx
  have C : AWC x cJx4a65c_add_72be8 4 RJx4a65c (rmC 6 1 1000) none := C
  show AW x (RQ x _ _ _ _) 0 0 sg 0 [(0, .ref la), (1, .ref v), (2, .ref ea), (3, .int (nI n))] []
  by_cases hfull : n = 0 ∨ n = cap n
  · refine aw_iload_n C dJx4a65c_add_72be8_0 rfl rfl rfl ?_
    refine aw_aload_n C dJx4a65c_add_72be8_1 rfl rfl rfl ?_
    have step : AW x (RQ x (fun w s' => w = none ∧ ∃ q, (sg q = none ∨ 0 < n ∧ q = ea) ∧ s' q = some (arO x.g (cap (n + 1)) (clip (n + 1) none (fun j => some (if j = n then v else f j)))) ∧ s' la = some (ob 1 [m, .ref q, .int (nI (n + 1))]) ∧ ∀ a, a ≠ q → a ≠ la → s' a = sg a) noX (rmC 6 1 1000).cells (rmC 6 1 1000).slots) 0 0 sg 3 [(0, .ref la), (1, .ref v), (2, .ref ea), (3, .int (nI n))] [.int (nI n), .int (nI n)] → AW x (RQ x (fun w s' => w = none ∧ ∃ q, (sg q = none ∨ 0 < n ∧ q = ea) ∧ s' q = some (arO x.g (cap (n + 1)) (clip (n + 1) none (fun j => some (if j = n then v else f j)))) ∧ s' la = some (ob 1 [m, .ref q, .int (nI (n + 1))]) ∧ ∀ a, a ≠ q → a ≠ la → s' a = sg a) noX (rmC 6 1 1000).cells (rmC 6 1 1000).slots) 0 0 sg 2 [(0, .ref la), (1, .ref v), (2, .ref ea), (3, .int (nI n))] [.ref ea, .int (nI n)] := fun step => ?_
    · refine step ?_
      refine aw_icmp_ne (tgt := 11) C dJx4a65c_add_72be8_3 (by decide) rfl (fun z => absurd rfl z) (fun _ => ?_)
      refine aw_aload_n C dJx4a65c_add_72be8_6 rfl rfl rfl ?_
      refine aw_callV C k_Jx4a65c_129 (L_grow0 G hs h0 h1 hfull hn ho hel) ⟨by decide, by decide⟩ (ci := 1) rfl hs rfl rfl (Nat.le_of_ble_eq_true rfl) (Nat.le_of_ble_eq_true rfl) (Nat.le_of_ble_eq_true rfl) dJx4a65c_add_72be8_7 rfl (fun _ _ q => ax_no q) (fun v1 s1 hq => ?_)
      obtain ⟨q, rfl, hq, hq1, hq2, hq3⟩ := hq
      have hlq : la ≠ q := no_ne hs hq
      have hvl : v ≠ la := fun z => by rw [z, hs] at hv; cases hv; cases ho
      have hv1 : s1 v = some (ob ci fs) := (hq3 v (no_ne hv hq) hvl).trans hv
      refine aw_astore_n (ls' := [(2, _), (0, _), (1, _), (3, _)]) C dJx4a65c_add_72be8_10 rfl (by decide) rfl rfl ?_
      refine aw_aload_n C dJx4a65c_add_72be8_11 rfl rfl rfl ?_
      refine aw_iload_n C dJx4a65c_add_72be8_12 rfl rfl rfl ?_
      refine aw_aload_n C dJx4a65c_add_72be8_13 rfl rfl rfl ?_
      refine aw_astO C hq1 hv1 ho (vp_in_nI (by have := cap_le (n := n + 1) (by omega); omega) (by have := (cap_b (n + 1)).1; omega)) dJx4a65c_add_72be8_14 rfl ?_
      rw [nI_clamp (by omega), clip_add]
      refine aw_aload_n C dJx4a65c_add_72be8_15 rfl rfl rfl ?_
      refine aw_iload_n C dJx4a65c_add_72be8_16 rfl rfl rfl ?_
      refine aw_iconst (v := 1) C dJx4a65c_add_72be8_17 rfl rfl ?_
      refine aw_iadd C dJx4a65c_add_72be8_18 rfl ?_
      rw [nI_1]
      refine aw_putf C f_Jx4a65c_48 rfl ((sgu_n hlq).trans hq2) rfl rfl (Nat.le_of_ble_eq_true rfl) rfl dJx4a65c_add_72be8_19 rfl ?_
      exact aw_vret C (Nat.le_of_ble_eq_true rfl) (Nat.le_of_ble_eq_true rfl) ⟨rfl, q, Or.inl hq, (sgu_n (Ne.symm hlq)).trans sgu_s, sgu_s, fun a ha hb => (sgu_n hb).trans ((sgu_n ha).trans (hq3 a ha hb))⟩ dJx4a65c_add_72be8_22
    · rcases Nat.eq_zero_or_pos n with h0z | h0p
      · obtain rfl : ez = ea := (h0 h0z).symm
        subst h0z
        exact aw_alenT C (C.cx G).2.1 dJx4a65c_add_72be8_2 rfl step
      · refine aw_alenO C (h1 h0p) dJx4a65c_add_72be8_2 rfl ?_
        rw [show cap n = n by omega]
        exact step
  · have hpos : 0 < n := by omega
    have hlt : n < cap n := by have := cap_le (n := n) (by omega); omega
    have hcs := cap_s hpos hn hlt
    have h2 := h1 hpos
    have hlq : la ≠ ea := ob_ne hs h2
    refine aw_iload_n C dJx4a65c_add_72be8_0 rfl rfl rfl ?_
    refine aw_aload_n C dJx4a65c_add_72be8_1 rfl rfl rfl ?_
    refine aw_alenO C h2 dJx4a65c_add_72be8_2 rfl ?_
    refine aw_icmp_ne (tgt := 11) C dJx4a65c_add_72be8_3 (by decide) rfl (fun _ => ?_) (fun z => absurd ((nI_eq (by omega) (by have := (cap_b n).1; omega)).mp z) (by omega))
    refine aw_aload_n C dJx4a65c_add_72be8_11 rfl rfl rfl ?_
    refine aw_iload_n C dJx4a65c_add_72be8_12 rfl rfl rfl ?_
    refine aw_aload_n C dJx4a65c_add_72be8_13 rfl rfl rfl ?_
    refine aw_astO C h2 hv ho (vp_in_nI hlt (by have := (cap_b n).1; omega)) dJx4a65c_add_72be8_14 rfl ?_
    rw [nI_clamp (by omega), clip_add]
    refine aw_aload_n C dJx4a65c_add_72be8_15 rfl rfl rfl ?_
    refine aw_iload_n C dJx4a65c_add_72be8_16 rfl rfl rfl ?_
    refine aw_iconst (v := 1) C dJx4a65c_add_72be8_17 rfl rfl ?_
    refine aw_iadd C dJx4a65c_add_72be8_18 rfl ?_
    rw [nI_1]
    refine aw_putf C f_Jx4a65c_48 rfl ((sgu_n hlq).trans hs) rfl rfl (Nat.le_of_ble_eq_true rfl) rfl dJx4a65c_add_72be8_19 rfl ?_
    exact aw_vret C (Nat.le_of_ble_eq_true rfl) (Nat.le_of_ble_eq_true rfl) ⟨rfl, ea, Or.inr ⟨hpos, rfl⟩, by rw [sgu_n (Ne.symm hlq), sgu_s, hcs], sgu_s, fun a ha hb => (sgu_n hb).trans (sgu_n ha)⟩ dJx4a65c_add_72be8_22
set_option maxRecDepth 100000 in
theorem L_add {g : Gx} {l : Launch} {ez : Nat} (G : GOK g l ez) {sg : Sg} {la ea n ci v : Nat} {f : Nat → Nat} {fs : List Value} (hL : LH g ez sg la ea n f) (hn : n < 109) (ho : isObj ci = true) (hel : ∀ i, i < n → ∃ fs, sg (f i) = some (ob ci fs)) (hv : sg v = some (ob ci fs)) : MM g l yJx4a65c_add_9ea2d cJx4a65c_add_9ea2d 2 (some .boolean) (rmC 7 1 1000) sg [.ref la, .ref v] (fun w s' => w = some (.int 1) ∧ ∃ q, (sg q = none ∨ 0 < n ∧ q = ea) ∧ LH g ez s' la q (n + 1) (fun j => if j = n then v else f j) ∧ ∀ a, a ≠ q → a ≠ la → s' a = sg a) (noX) := by
  refine MM.of G.1 G.2.1 (by decide) (Nat.le_of_ble_eq_true rfl) (fun x hg hlx C hin hout hargs => ?_)
  subst hg; subst hlx
  have C : AWC x cJx4a65c_add_9ea2d 2 RJx4a65c (rmC 7 1 1000) (some .boolean) := C
  show AW x (RQ x _ _ _ _) 0 0 sg 0 [(0, .ref la), (1, .ref v)] []
  obtain ⟨hs, h0, h1⟩ := hL
  refine aw_aload_n C dJx4a65c_add_9ea2d_0 rfl rfl rfl ?_
  refine aw_dup C dJx4a65c_add_9ea2d_1 rfl rfl ?_
  refine aw_getf C f_Jx4a65c_63 hs rfl dJx4a65c_add_9ea2d_2 rfl ?_
  refine aw_iconst (v := 1) C dJx4a65c_add_9ea2d_5 rfl rfl ?_
  refine aw_iadd C dJx4a65c_add_9ea2d_6 rfl ?_
  rw [nI_1]
  refine aw_putf C f_Jx4a65c_63 rfl hs rfl rfl (Nat.le_of_ble_eq_true rfl) rfl dJx4a65c_add_9ea2d_7 rfl ?_
  refine aw_aload_n C dJx4a65c_add_9ea2d_10 rfl rfl rfl ?_
  refine aw_aload_n C dJx4a65c_add_9ea2d_11 rfl rfl rfl ?_
  refine aw_aload_n C dJx4a65c_add_9ea2d_12 rfl rfl rfl ?_
  refine aw_getf C f_Jx4a65c_9 sgu_s rfl dJx4a65c_add_9ea2d_13 rfl ?_
  refine aw_aload_n C dJx4a65c_add_9ea2d_16 rfl rfl rfl ?_
  refine aw_getf C f_Jx4a65c_48 sgu_s rfl dJx4a65c_add_9ea2d_17 rfl ?_
  have hne : ∀ b ci2 fs2, sg b = some (ob ci2 fs2) → isObj ci2 = true → b ≠ la := fun b ci2 fs2 hb h2 z => by
    rw [z, hs] at hb
    cases hb
    cases h2
  refine aw_callV C k_Jx4a65c_131 (L_add3 G sgu_s h0 (fun z => (sgu_n (Ne.symm (ob_ne hs (h1 z)))).trans (h1 z)) hn ho (fun i hi => ?_) ((sgu_n (hne v ci fs hv ho)).trans hv)) ⟨by decide, by decide⟩ (ci := 1) rfl sgu_s rfl rfl (Nat.le_of_ble_eq_true rfl) (Nat.le_of_ble_eq_true rfl) (Nat.le_of_ble_eq_true rfl) dJx4a65c_add_9ea2d_20 rfl (fun _ _ q => ax_no q) (fun v1 s1 hq => ?_)
  · obtain ⟨fs2, hf2⟩ := hel i hi
    exact ⟨fs2, (sgu_n (hne _ _ _ hf2 ho)).trans hf2⟩
  obtain ⟨rfl, q, hq, hq1, hq2, hq3⟩ := hq
  refine aw_iconst (v := 1) C dJx4a65c_add_9ea2d_23 rfl rfl ?_
  exact aw_iret C rfl (Nat.le_of_ble_eq_true rfl) (Nat.le_of_ble_eq_true rfl) ⟨rfl, q, hq.imp (fun z => by rw [← z]; exact (sgu_n (fun y => by rw [y, sgu_s] at z; cases z)).symm) id, ⟨hq2, fun z => absurd z (by omega), fun _ => hq1⟩, fun a ha hb => (hq3 a ha hb).trans (sgu_n hb)⟩ dJx4a65c_add_9ea2d_24
