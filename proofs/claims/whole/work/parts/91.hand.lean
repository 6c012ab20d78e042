/-! the law's helpers: methods with an exception table; the reference beside the class in one store -/
def MMW (g : Gx) (l : Launch) (y : MethodName) (bytes : ByteArray) (maxL : Nat) (ret : Option FieldType) (hh : List (Nat × Nat × Nat × Nat)) (rm : Room) (sg : Sg) (As : List Value) (P : Option Value → Sg → Prop) (PX : String → Sg → Prop) : Prop :=
  vx_Met l y (Cond.codeWith y bytes maxL ret hh :: WS) rm (PreC g sg As) (QC g P) (QX g PX) rm.cells rm.slots g.A
def KSW (own : String) (idx : Nat) (y : MethodName) (bytes : ByteArray) (maxL : Nat) (ret : Option FieldType) (hh : List (Nat × Nat × Nat × Nat)) (np : Nat) : Prop := Cond.codeWith y bytes maxL ret hh ∈ WS ∧ Cond.initialized y.cls ∈ WS ∧ ((y.cls ≠ "java/lang/invoke/MethodHandle" ∧ y.cls ≠ "java/lang/invoke/VarHandle") ∧ (parseMethodDescriptor y.desc).map (fun d => d.parameters.length) = some np) ∧ Cond.methodLink own idx y ∈ WS ∧ Cond.static y ∈ WS
section AWW
variable {x : Cx} {Q : State → Prop} {k n : Nat} {sg : Sg} {pc : Nat} {ls : List (Nat × Value)} {st : List Value} {cc : ByteArray} {nL : Nat} {own : String} {R : Room} {ret : Option FieldType} {pc' : Nat}
variable {idx np maxL : Nat} {y : MethodName} {bytes : ByteArray} {rt : Option FieldType} {rm : Room} {As : List Value} {P : Option Value → Sg → Prop} {PX : String → Sg → Prop} {st0 : List Value} {hh : List (Nat × Nat × Nat × Nat)}
theorem aw_callSW (C : AWC x cc nL own R ret) (L : KSW own idx y bytes maxL rt hh np) (hM : MMW x.g x.l y bytes maxL rt hh rm sg As P PX) (hR : RmOk rm R maxL) (hn : As.length = np) (hst : st0 = As.reverse ++ st) (hW : (st.map fun v => v.category).sum ≤ 8) (hc : k + rm.cells ≤ R.cells) (hsl : n + rm.slots ≤ R.slots) (hdg : decode cc pc = .ok (.invokestatic idx, 3)) (hpc : pc + 3 = pc')
    (kx : ∀ E sg', PX E sg' → AX x Q (k + rm.cells) (n + rm.slots) sg' pc ls E) (kk : ∀ v sg', P v sg' → AW x Q (k + rm.cells) (n + rm.slots) sg' pc' ls (v.toList ++ st)) : AW x Q k n sg pc ls st0 := by
  refine aw_run (a := As.toArray) (rest := st) (fun H locs la ws h1 h2 h3 => ?_) hpc kx kk
  obtain ⟨L1, L2, L3, L4, L5⟩ := L
  exact vx_runSX (Ts := WS) ⟨C.hx, C.hb, C.hml, C.hown, C.hts⟩ hM ⟨⟨rfl, rfl, by rw [C.room]; exact hR.1, by rw [C.room]; exact hR.2, ws_pay C.hts L1, List.mem_cons_self⟩, C.hts _ L1, C.hts _ L2, L3.1, fun sig hs => (by have h := L3.2; rw [hs] at h; exact (Option.some.inj h).symm), C.hts _ L4, C.hts _ L5⟩ ⟨preC_blind C.stab, aw_pre C h1 h2⟩ rfl hn (by rw [← C.hml]; exact h3.1) hst (lv_room hW) hdg (by rw [C.room]; exact ⟨hc, hsl⟩)
/-- the handler that the table names -/
theorem ax_catch {E name : String} (C : AWC x cc nL own R ret) (pre : List ExceptionTableEntry) (z : ExceptionTableEntry) (suf : List ExceptionTableEntry) (hsplit : x.c.exceptionTable.toList = pre ++ z :: suf) (hpass : ∀ y ∈ pre, covers y pc = false ∨ (y.catchType ≠ 0 ∧ ∃ nm : String, Cond.classLink own y.catchType nm ∈ WS ∧ va_Nc E nm x.s)) (hx : covers z pc = true) (h0 : z.catchType ≠ 0) (hlink : Cond.classLink own z.catchType name ∈ WS) (hcast : Cond.castable E name ∈ WS) (hp : z.handlerPc = pc') (kk : ∀ q : Nat, AW x Q k n sg pc' ls [.ref q]) : AX x Q k n sg pc ls E := by
  subst hp
  intro H locs la ws q ce st h1 h2 h3 h4 h5 h6
  refine vx_catch C.hown pre z suf hsplit (fun y hy => ?_) hx h0 (C.hts _ hlink) (C.hts _ hcast) h4 h5 h6 (kk q H locs la ws h1 h2 h3)
  rcases hpass y hy with a | ⟨a, nm, b, c⟩
  · exact Or.inl a
  · exact Or.inr ⟨a, nm, C.hts _ b, c⟩
end AWW
/-- a contract of a method with an exception table, out of its body's walk -/
theorem MMW.of {g : Gx} {l : Launch} {y : MethodName} {bytes : ByteArray} {maxL : Nat} {ret : Option FieldType} {hh : List (Nat × Nat × Nat × Nat)} {rm : Room} {sg : Sg} {As : List Value} {P : Option Value → Sg → Prop} {PX : String → Sg → Prop} (hl : l.flags = flags0) (hst : g.Stable) (hy : plainName y.cls = true) (hnL : (lg_sl As).length ≤ maxL)
    (body : ∀ x : Cx, x.g = g → x.l = l → AWC x bytes maxL y.cls rm ret → x.c.exceptionTable.toList = tableOf hh → x.args = As.toArray → AW x (RQ x P PX rm.cells rm.slots) 0 0 sg 0 (lv_args 0 As) []) : MMW g l y bytes maxL ret hh rm sg As P PX := by
  refine vx_ofWH hy rfl ?_
  intro p e s m args below meth c s₁ B hml hv
  obtain ⟨rfl, henv, ws, hsat⟩ := hv
  have hts0 := atoms_spec (ws := Cond.codeWith y bytes maxL ret hh :: WS) B.pre
  have hns : l.stackTraces = false := by
    have : l.flags = flags0 := hl
    simp only [Launch.stackTraces, this]
    decide +kernel
  have C : AWC (g, p, l, e, rm, s, m, As.toArray, below, meth, c) bytes maxL y.cls rm ret := ⟨B.exec, B.bytes, hml, findClass_of_methodNamed B.named, fun w hw => hts0 w (List.mem_cons_of_mem _ hw), B.notSynchronized, henv, hst, rfl, hns, B.returns⟩
  have K := body (g, p, l, e, rm, s, m, As.toArray, below, meth, c) rfl rfl C (vx_table (x := y) B (hts0 _ List.mem_cons_self)) rfl
  rw [lg_entry_eq]
  exact K s.heap [] _ ws hsat va_S.rf (by
    have h := lv_entry As (n := maxL) hnL
    rw [← hml] at h ⊢
    exact h)
/-- of the three exceptions none is of another's class -/
def XNC (s : State) : Prop := va_Nc nAr nSt s ∧ va_Nc nAr nB s ∧ va_Nc nSt nAr s ∧ va_Nc nSt nB s ∧ va_Nc nB nAr s ∧ va_Nc nB nSt s
def GLk (g : Gx) (l : Launch) (ez : Nat) : Prop := GOK g l ez ∧ ∀ s, g.X s → XNC s
/-- what the reference's cells look like: no cell of the class does -/
def MForm (g : Gx) (e : va_E) : Prop := (∃ fs, e = ob 11 fs) ∨ (∃ N f, e = arI g N f ∧ N ≠ 4) ∨ (∃ N f, e = arZ g N f ∧ N ≠ 4) ∨ ∃ N f, e = arJ g N f ∧ N ≠ 13 ∧ N ≠ 1
theorem cel_form {g : Gx} {ez : Nat} {ad : Nat → Nat → Nat} {u : MU} {Y : GS} {k i : Nat} {e : va_E} (h : cel g ez ad u Y k i = some e) : (∃ c fs, e = ob c fs ∧ c ≠ 11) ∨ (∃ N f, e = arO g N f) ∨ (∃ f, e = arI g 4 f) ∨ ∃ f, e = arJ g 13 f := by
  match k with
  | 0 | 1 | 3 | 4 | 5 | 7 | 8 | 9 | 12 =>
    simp only [cel] at h
    split at h
    · cases h
      exact Or.inl ⟨_, _, rfl, by decide⟩
    · cases h
  | 2 =>
    simp only [cel] at h
    split at h
    · cases h
      exact Or.inr (Or.inl ⟨_, _, rfl⟩)
    · cases h
  | 6 =>
    simp only [cel] at h
    split at h
    · cases h
      exact Or.inr (Or.inr (Or.inl ⟨_, rfl⟩))
    · cases h
  | 10 | 11 =>
    simp only [cel] at h
    split at h
    · cases h
      exact Or.inr (Or.inr (Or.inr ⟨_, rfl⟩))
    · split at h
      · cases h
        exact Or.inr (Or.inr (Or.inr ⟨_, rfl⟩))
      · cases h
  | _ + 13 => simp [cel] at h
theorem cel_M {g : Gx} {ez : Nat} {ad : Nat → Nat → Nat} {u : MU} {Y : GS} {k i : Nat} {e : va_E} (h : cel g ez ad u Y k i = some e) : ¬ MForm g e := by
  rcases cel_form h with ⟨c, fs, rfl, hc⟩ | ⟨N, f, rfl⟩ | ⟨f, rfl⟩ | ⟨f, rfl⟩ <;> rintro (⟨fs', z⟩ | ⟨N', f', z, hn⟩ | ⟨N', f', z, hn⟩ | ⟨N', f', z, hn, hn1⟩)
  · cases z
    exact hc rfl
  · cases z
  · cases z
  · cases z
  · cases z
  · simp [arI, arO] at z
  · simp [arZ, arO] at z
  · simp [arJ, arO] at z
  · cases z
  · simp [arI] at z
    exact hn z.1.symm
  · simp [arI, arZ] at z
    exact hn z.2.1.symm
  · simp [arI, arJ] at z
  · cases z
  · simp [arI, arJ] at z
  · simp [arZ, arJ] at z
  · simp [arJ] at z
    exact hn z.1.symm
theorem cel_1 {g : Gx} {ez : Nat} {ad : Nat → Nat → Nat} {u : MU} {Y : GS} {k i : Nat} {f : Nat → Int64} : ¬ cel g ez ad u Y k i = some (arJ g 1 f) := by
  intro h
  rcases cel_form h with ⟨c, fs, z, -⟩ | ⟨N, f', z⟩ | ⟨f', z⟩ | ⟨f', z⟩
  · cases z
  · simp [arJ, arO] at z
  · simp [arJ, arI] at z
  · simp [arJ] at z
theorem MForm_1 {g : Gx} {f : Nat → Int64} : ¬ MForm g (arJ g 1 f) := by
  rintro (⟨fs', z⟩ | ⟨N', f', z, hn⟩ | ⟨N', f', z, hn⟩ | ⟨N', f', z, hn, hn1⟩)
  · cases z
  · simp [arJ, arI] at z
  · simp [arJ, arZ] at z
  · simp [arJ] at z
    exact hn1 z.1.symm
theorem MForm_5 {g : Gx} {fs : List Value} : ¬ MForm g (ob 5 fs) := by
  rintro (⟨fs', z⟩ | ⟨N', f', z, hn⟩ | ⟨N', f', z, hn⟩ | ⟨N', f', z, hn, hn1⟩)
  · cases z
  · cases z
  · cases z
  · cases z
theorem mlen_8 (k : Nat) : 8 ≤ mlen k ∧ mlen k ≠ 13 := by
  unfold mlen
  split <;> decide
theorem mk_or {k : Nat} (h : mk k ≠ 0) : k = 0 ∨ mk k = 1 ∨ mk k = 2 ∨ mk k = 3 := by
  by_cases e : k < 43
  · exact (by decide : ∀ k, k < 43 → mk k ≠ 0 → k = 0 ∨ mk k = 1 ∨ mk k = 2 ∨ mk k = 3) k e h
  · exact absurd (mk_lt h) e
theorem MS.form {g : Gx} {ad : Nat → Nat} {th : Int32} {u : MU} {sg : Sg} (h : MS g ad th u sg) {k : Nat} (hk : mk k ≠ 0) : ∃ e, sg (ad k) = some e ∧ MForm g e := by
  obtain ⟨h8, h13⟩ := mlen_8 k
  rcases mk_or hk with rfl | e | e | e
  · exact ⟨_, h.1, Or.inl ⟨_, rfl⟩⟩
  · exact ⟨_, h.2.1 k e, Or.inr (Or.inl ⟨_, _, rfl, by omega⟩)⟩
  · exact ⟨_, h.2.2.1 k e, Or.inr (Or.inr (Or.inl ⟨_, _, rfl, by omega⟩))⟩
  · exact ⟨_, h.2.2.2.1 k e, Or.inr (Or.inr (Or.inr ⟨_, _, rfl, h13, by omega⟩))⟩
/-- the same cells: the same object -/
theorem MS.eq {g : Gx} {ad : Nat → Nat} {th : Int32} {u : MU} {sg s' : Sg} (h : MS g ad th u sg) (he : ∀ k, mk k ≠ 0 → s' (ad k) = sg (ad k)) : MS g ad th u s' :=
  ⟨(he 0 (by decide)).trans h.1, fun k hk => (he k (by omega)).trans (h.2.1 k hk), fun k hk => (he k (by omega)).trans (h.2.2.1 k hk), fun k hk => (he k (by omega)).trans (h.2.2.2.1 k hk), h.2.2.2.2⟩
section KEEP
variable {g : Gx} {ez : Nat} {ad : Nat → Nat → Nat} {u v w : MU} {Y : GS} {sg s' : Sg} {am : Nat → Nat} {th : Int32} {ao : Nat} {F : Nat → Int64}
theorem mc_ne (hM : MS g am th v sg) (hS : CS g ez ad u Y sg) {k i j : Nat} (hk : mk k ≠ 0) (hc : cel g ez ad u Y i j ≠ none) : am k ≠ ad i j := fun z => by
  obtain ⟨e, h1, h2⟩ := hM.form hk
  cases q : cel g ez ad u Y i j with
  | none => exact hc q
  | some e2 =>
    have h3 := hS.1 i j e2 q
    rw [← z, h1] at h3
    cases h3
    exact cel_M q h2
theorem MS.keepC (hM : MS g am th v sg) (hS : CS g ez ad u Y sg) (hF : CFr g ez ad u Y sg s') : MS g am th v s' := hM.eq fun k hk => by
  obtain ⟨e, h1, -⟩ := hM.form hk
  rw [h1]
  exact hF _ _ h1 (fun i j hc => mc_ne hM hS hk hc)
theorem MS.keepO (hM : MS g am th v sg) (ho : sg ao = some (arJ g 1 F)) {e : va_E} : MS g am th v (sgu sg ao e) := hM.eq fun k hk => sgu_n (fun z => by
  obtain ⟨e, h1, h2⟩ := hM.form hk
  rw [z, ho] at h1
  cases h1
  exact MForm_1 h2)
theorem CS.eq (h : CS g ez ad u Y sg) (he : ∀ k i e, cel g ez ad u Y k i = some e → s' (ad k i) = some e) (hm : ∀ a fs, sg a = some (ob 5 fs) → s' a = some (ob 5 fs)) : CS g ez ad u Y s' := ⟨he, h.2.1, fun e he' a m hq => hm a _ (h.2.2 e he' a m hq)⟩
theorem CS.keepM (hS : CS g ez ad u Y sg) (hM : MS g am th v sg) (hF : MF am sg s') : CS g ez ad u Y s' := by
  refine hS.eq (fun k i e hc => ?_) (fun a fs ha => ?_)
  · rw [hF _ (fun j hj z => mc_ne hM hS hj (k := j) (i := k) (j := i) (by rw [hc]; exact fun q => by cases q) z.symm)]
    exact hS.1 k i e hc
  · rw [hF a (fun j hj z => ?_)]
    · exact ha
    · obtain ⟨e, h1, h2⟩ := hM.form hj
      rw [← z, ha] at h1
      cases h1
      exact MForm_5 h2
theorem CS.keepO (hS : CS g ez ad u Y sg) (ho : sg ao = some (arJ g 1 F)) {e : va_E} : CS g ez ad u Y (sgu sg ao e) := by
  refine hS.eq (fun k i e' hc => ?_) (fun a fs ha => ?_)
  · have h1 := hS.1 k i e' hc
    rw [sgu_n (fun z => ?_)]
    · exact h1
    · rw [z, ho] at h1
      cases h1
      exact cel_1 hc
  · rw [sgu_n (fun z => ?_)]
    · exact ha
    · rw [z, ho] at ha
      cases ha
theorem out_C (hS : CS g ez ad u Y sg) (ho : sg ao = some (arJ g 1 F)) (hF : CFr g ez ad u Y sg s') : s' ao = some (arJ g 1 F) := hF _ _ ho (fun k i hc z => by
  cases q : cel g ez ad u Y k i with
  | none => exact hc q
  | some e =>
    have h1 := hS.1 k i e q
    rw [← z, ho] at h1
    cases h1
    exact cel_1 q)
theorem out_M (hM : MS g am th v sg) (ho : sg ao = some (arJ g 1 F)) (hF : MF am sg s') : s' ao = some (arJ g 1 F) := (hF ao (fun k hk z => by
  obtain ⟨e, h1, h2⟩ := hM.form hk
  rw [← z, ho] at h1
  cases h1
  exact MForm_1 h2)).trans ho
end KEEP
theorem CR.fr {g : Gx} {ez : Nat} {ad : Nat → Nat → Nat} {u w : MU} {Y : GS} {sg s' : Sg} (h : CR g ez ad u Y sg w s') : CFr g ez ad u Y sg s' := by
  obtain ⟨ad', Y', -, -, h, -⟩ := h
  exact h
/-- what a helper answers and lays: the call's number, its answer in the row ao -/
def HP (g : Gx) (ez : Nat) (ad : Nat → Nat → Nat) (u : MU) (Y : GS) (sg : Sg) (ao : Nat) (F : Nat → Int64) (val : Int32 → Int64) (o : Op) : Option Value → Sg → Prop := fun v s' => v = some (.int o.1) ∧ ∃ s1, CR g ez ad u Y sg o.2.2 s1 ∧ ((o.1 = 0 ∧ s' = sgu s1 ao (arJ g 1 (vp_updL F (0 : Int32).toNatClampNeg (val o.2.1)))) ∨ (¬ o.1 = 0 ∧ s' = s1))
theorem HP.of0 {g : Gx} {ez : Nat} {ad : Nat → Nat → Nat} {u : MU} {Y : GS} {sg s1 : Sg} {ao : Nat} {F : Nat → Int64} {val : Int32 → Int64} {o : Op} (h : o.1 = 0) (hC : CR g ez ad u Y sg o.2.2 s1) : HP g ez ad u Y sg ao F val o (some (.int 0)) (sgu s1 ao (arJ g 1 (vp_updL F (0 : Int32).toNatClampNeg (val o.2.1)))) := ⟨by rw [h], s1, hC, Or.inl ⟨h, rfl⟩⟩
theorem HP.of1 {g : Gx} {ez : Nat} {ad : Nat → Nat → Nat} {u : MU} {Y : GS} {sg s1 : Sg} {ao : Nat} {F : Nat → Int64} {val : Int32 → Int64} {o : Op} {c : Int32} (h : o.1 = c) (hc : ¬ o.1 = 0) (hC : CR g ez ad u Y sg o.2.2 s1) : HP g ez ad u Y sg ao F val o (some (.int c)) s1 := ⟨by rw [h], s1, hC, Or.inr ⟨hc, rfl⟩⟩
def vL (v : Int32) : Int64 := v.toInt64
def bL (v : Int32) : Int64 := if v = 0 then 0 else 1
def rmH : Room := { frames := 10, cells := 60, slots := 12000, locals := 428 }
section AWB
variable {x : Cx} {Q : State → Prop} {k n : Nat} {sg : Sg} {pc p1 p2 p3 p4 : Nat} {ls : List (Nat × Value)} {st : List Value} {cc : ByteArray} {nL : Nat} {own : String} {R : Room} {ret : Option FieldType}
/-- v ? 1L : 0L -/
theorem aw_boolL {v : Int32} (C : AWC x cc nL own R ret) (d0 : decode cc pc = .ok (.ifCond .eq 7, 3)) (d1 : decode cc p1 = .ok (.lconst 1, 1)) (d2 : decode cc p2 = .ok (.goto 4, 3)) (d3 : decode cc p3 = .ok (.lconst 0, 1)) (e1 : pc + 3 = p1) (e2 : p1 + 1 = p2) (e3 : p2 + 3 = p3) (e4 : p3 + 1 = p4) (kk : AW x Q k n sg p4 ls (.long (bL v) :: st)) : AW x Q k n sg pc ls (.int v :: st) := by
  refine aw_if_eq (tgt := p3) C d0 (by omega) e1 (fun c => ?_) (fun c => ?_)
  · refine aw_lconst (v := 0) C d3 rfl e4 ?_
    rw [bL, if_pos c] at kk
    exact kk
  · refine aw_lconst (v := 1) C d1 rfl e2 ?_
    refine aw_goto (tgt := p4) C d2 (by omega) ?_
    rw [bL, if_neg c] at kk
    exact kk
/-- v != 0 -/
theorem aw_bool {v : Int32} (C : AWC x cc nL own R ret) (d0 : decode cc pc = .ok (.ifCond .eq 7, 3)) (d1 : decode cc p1 = .ok (.iconst 1, 1)) (d2 : decode cc p2 = .ok (.goto 4, 3)) (d3 : decode cc p3 = .ok (.iconst 0, 1)) (e1 : pc + 3 = p1) (e2 : p1 + 1 = p2) (e3 : p2 + 3 = p3) (e4 : p3 + 1 = p4) (kk : AW x Q k n sg p4 ls (.int (b2i (!decide (v = 0))) :: st)) : AW x Q k n sg pc ls (.int v :: st) := by
  refine aw_if_eq (tgt := p3) C d0 (by omega) e1 (fun c => ?_) (fun c => ?_)
  · refine aw_iconst (v := 0) C d3 rfl e4 ?_
    rw [decide_eq_true c] at kk
    exact kk
  · refine aw_iconst (v := 1) C d1 rfl e2 ?_
    refine aw_goto (tgt := p4) C d2 (by omega) ?_
    rw [decide_eq_false c] at kk
    exact kk
end AWB
set_option maxRecDepth 100000 in
theorem M_close2 {g : Gx} {l : Launch} (hl : l.flags = flags0) (hst : g.Stable) {ad : Nat → Nat} {th : Int32} {u : MU} {sg : Sg} (hM : MS g ad th u sg) (hW : WN u) (hD : WD u) {v : Int32} : MM g l yX9_close cX9_close 3 (some .int) (rmM 3) sg [.ref (ad 0), .int v] (PO g ad sg (opClose u v)) noX := by
  refine MM.of hl hst (by decide) (Nat.le_of_ble_eq_true rfl) (fun x hg hlx C hin hout hargs => ?_)
  subst hg; subst hlx
  have C : AWC x cX9_close 3 RX9 (rmM 3) (some .int) := C
  have hF : MF ad sg sg := MF.rf
  show AW x (RQ x _ _ _ _) 0 0 sg 0 [(0, .ref (ad 0)), (1, .int v)] []
  refine aw_aload_n C dX9_close_0 rfl rfl rfl ?_
  refine aw_aload_n C dX9_close_1 rfl rfl rfl ?_
  refine aw_iload_n C dX9_close_2 rfl rfl rfl ?_
  refine mw_callVp C k_X9_165 hM (M_isDeed hl hst hM) ⟨by decide, by decide⟩ rfl rfl rfl (Nat.le_of_ble_eq_true rfl) dX9_close_3 rfl ?_
  refine aw_if_ne (tgt := 13) C dX9_close_6 (by decide) rfl (fun c6 => ?_) (fun c6 => ?_)
  · have c6 := tr_of c6
    obtain ⟨p, hp, rfl⟩ := isDd_of hW c6
    have hp60 : p < 60 := by have := hW.2.1; omega
    have hpc := clampI (n := p) (by omega)
    obtain ⟨⟨a, ha, ea⟩, b, hb, eb⟩ := hD p hp60
    have hac := clampI (n := a) (by omega)
    have hbc := clampI (n := b) (by omega)
    refine aw_aload_n C dX9_close_13 rfl rfl rfl ?_
    refine aw_getf C f_X9_65 hM.1 rfl dX9_close_14 rfl ?_
    refine aw_iload_n C dX9_close_17 rfl rfl rfl ?_
    refine mw_iald (k := 22) (N := 60) C hM rfl rfl rfl (by omega) dX9_close_18 rfl ?_
    refine aw_if_ne (tgt := 50) C dX9_close_19 (by decide) rfl (fun c19 => ?_) (fun c19 => ?_)
    · refine aw_iconst (v := 2) C dX9_close_50 rfl rfl ?_
      refine aw_goto (tgt := 55) C dX9_close_51 (by decide) ?_
      refine mw_put (th' := _) (u' := _) C hM hF f_X9_117 rfl rfl rfl rfl rfl rfl dX9_close_55 rfl (fun sg hM hF => ?_)
      refine aw_aload_n C dX9_close_58 rfl rfl rfl ?_
      refine aw_getf C f_X9_117 hM.1 rfl dX9_close_59 rfl ?_
      refine aw_if_le (tgt := 67) C dX9_close_62 (by decide) rfl (fun h => by first | exact absurd h (by decide) | exact absurd (by decide) h) (fun _ => ?_)
      refine aw_iconst (v := 0) C dX9_close_65 rfl rfl ?_
      exact aw_iret C rfl (Nat.le_refl _) (Nat.le_refl _) (PO.of (by simp [opClose, c6, c19, hpc, ea, eb, hac, hbc]) hM hF) dX9_close_66
    · refine aw_aload_n C dX9_close_22 rfl rfl rfl ?_
      refine aw_getf C f_X9_20 hM.1 rfl dX9_close_23 rfl ?_
      refine aw_aload_n C dX9_close_26 rfl rfl rfl ?_
      refine aw_getf C f_X9_35 hM.1 rfl dX9_close_27 rfl ?_
      refine aw_iload_n C dX9_close_30 rfl rfl rfl ?_
      refine mw_iald (k := 12) (N := 60) C hM rfl rfl rfl (by omega) dX9_close_31 rfl ?_
      refine mw_zald (k := 6) (N := 12) C hM rfl rfl ea ha dX9_close_32 rfl ?_
      refine aw_if_ne (tgt := 50) C dX9_close_33 (by decide) rfl (fun c33 => ?_) (fun c33 => ?_)
      · refine aw_iconst (v := 2) C dX9_close_50 rfl rfl ?_
        refine aw_goto (tgt := 55) C dX9_close_51 (by decide) ?_
        refine mw_put (th' := _) (u' := _) C hM hF f_X9_117 rfl rfl rfl rfl rfl rfl dX9_close_55 rfl (fun sg hM hF => ?_)
        refine aw_aload_n C dX9_close_58 rfl rfl rfl ?_
        refine aw_getf C f_X9_117 hM.1 rfl dX9_close_59 rfl ?_
        refine aw_if_le (tgt := 67) C dX9_close_62 (by decide) rfl (fun h => by first | exact absurd h (by decide) | exact absurd (by decide) h) (fun _ => ?_)
        refine aw_iconst (v := 0) C dX9_close_65 rfl rfl ?_
        exact aw_iret C rfl (Nat.le_refl _) (Nat.le_refl _) (PO.of (by simp [opClose, c6, c19, c33, hpc, ea, eb, hac, hbc]) hM hF) dX9_close_66
      · refine aw_aload_n C dX9_close_36 rfl rfl rfl ?_
        refine aw_getf C f_X9_20 hM.1 rfl dX9_close_37 rfl ?_
        refine aw_aload_n C dX9_close_40 rfl rfl rfl ?_
        refine aw_getf C f_X9_38 hM.1 rfl dX9_close_41 rfl ?_
        refine aw_iload_n C dX9_close_44 rfl rfl rfl ?_
        refine mw_iald (k := 13) (N := 60) C hM rfl rfl rfl (by omega) dX9_close_45 rfl ?_
        refine mw_zald (k := 6) (N := 12) C hM rfl rfl eb hb dX9_close_46 rfl ?_
        refine aw_if_eq (tgt := 54) C dX9_close_47 (by decide) rfl (fun c47 => ?_) (fun c47 => ?_)
        · refine aw_iconst (v := 0) C dX9_close_54 rfl rfl ?_
          refine mw_put (th' := _) (u' := _) C hM hF f_X9_117 rfl rfl rfl rfl rfl rfl dX9_close_55 rfl (fun sg hM hF => ?_)
          refine aw_aload_n C dX9_close_58 rfl rfl rfl ?_
          refine aw_getf C f_X9_117 hM.1 rfl dX9_close_59 rfl ?_
          refine aw_if_le (tgt := 67) C dX9_close_62 (by decide) rfl (fun _ => ?_) (fun h => by first | exact absurd h (by decide) | exact absurd (by decide) h)
          refine aw_aload_n C dX9_close_67 rfl rfl rfl ?_
          refine aw_iload_n C dX9_close_68 rfl rfl rfl ?_
          refine mw_callVp C k_X9_178 hM (M_isOfThing hl hst hM hp60) ⟨by decide, by decide⟩ rfl rfl rfl (Nat.le_of_ble_eq_true rfl) dX9_close_69 rfl ?_
          refine aw_if_eq (tgt := 79) C dX9_close_72 (by decide) rfl (fun c72 => ?_) (fun c72 => ?_)
          · have c72 := fa_of c72
            refine aw_iconst (v := 1) C dX9_close_79 rfl rfl ?_
            refine aw_istore_n (ls' := [(2, _), (0, _), (1, _)]) C dX9_close_80 rfl (by decide) rfl rfl ?_
            refine aw_aload_n C dX9_close_81 rfl rfl rfl ?_
            refine aw_getf C f_X9_65 hM.1 rfl dX9_close_82 rfl ?_
            refine aw_iload_n C dX9_close_85 rfl rfl rfl ?_
            refine aw_aload_n C dX9_close_86 rfl rfl rfl ?_
            refine aw_getf C f_X9_59 hM.1 rfl dX9_close_87 rfl ?_
            refine aw_iload_n C dX9_close_90 rfl rfl rfl ?_
            refine mw_iald (k := 20) (N := 60) C hM rfl rfl rfl (by omega) dX9_close_91 rfl ?_
            refine aw_aload_n C dX9_close_92 rfl rfl rfl ?_
            refine aw_iload_n C dX9_close_93 rfl rfl rfl ?_
            refine mw_callVp C k_X9_181 hM (M_needs hl hst hM hD hp60) ⟨by decide, by decide⟩ rfl rfl rfl (Nat.le_of_ble_eq_true rfl) dX9_close_94 rfl ?_
            refine aw_iand C dX9_close_97 rfl ?_
            refine aw_aload_n C dX9_close_98 rfl rfl rfl ?_
            refine aw_iload_n C dX9_close_99 rfl rfl rfl ?_
            refine mw_callVp C k_X9_181 hM (M_needs hl hst hM hD hp60) ⟨by decide, by decide⟩ rfl rfl rfl (Nat.le_of_ble_eq_true rfl) dX9_close_100 rfl ?_
            refine aw_icmp_ne (tgt := 110) C dX9_close_103 (by decide) rfl (fun c103 => ?_) (fun c103 => ?_)
            · refine aw_aload_n C dX9_close_110 rfl rfl rfl ?_
              refine aw_getf C f_X9_59 hM.1 rfl dX9_close_111 rfl ?_
              refine aw_iload_n C dX9_close_114 rfl rfl rfl ?_
              refine mw_iald (k := 20) (N := 60) C hM rfl rfl rfl (by omega) dX9_close_115 rfl ?_
              refine aw_iload_n C dX9_close_116 rfl rfl rfl ?_
              refine aw_iand C dX9_close_117 rfl ?_
              refine aw_iload_n C dX9_close_118 rfl rfl rfl ?_
              refine aw_icmp_ne (tgt := 126) C dX9_close_119 (by decide) rfl (fun c119 => ?_) (fun c119 => ?_)
              · refine aw_iconst (v := 3) C dX9_close_126 rfl rfl ?_
                refine mw_iast (k := 22) (N := 60) C hM hF rfl rfl rfl (by omega) dX9_close_127 rfl (fun sg hM hF => ?_)
                refine aw_aload_n C dX9_close_128 rfl rfl rfl ?_
                refine aw_dup C dX9_close_129 rfl rfl ?_
                refine aw_getf C f_X9_185 hM.1 rfl dX9_close_130 rfl ?_
                refine aw_iconst (v := 1) C dX9_close_133 rfl rfl ?_
                refine aw_iadd C dX9_close_134 rfl ?_
                refine mw_put (th' := _) (u' := uN _ 30 (u.2.2.1 30 + 1)) C hM hF f_X9_185 rfl rfl rfl (by rw [nI_1]; rfl) rfl rfl dX9_close_135 rfl (fun sg hM hF => ?_)
                refine aw_aload_n C dX9_close_138 rfl rfl rfl ?_
                refine aw_getf C f_X9_68 hM.1 rfl dX9_close_139 rfl ?_
                refine aw_iload_n C dX9_close_142 rfl rfl rfl ?_
                refine aw_aload_n C dX9_close_143 rfl rfl rfl ?_
                refine aw_getf C f_X9_185 hM.1 rfl dX9_close_144 rfl ?_
                refine mw_iast (k := 23) (N := 60) C hM hF rfl rfl (v := nI (u.2.2.1 30 + 1)) rfl (by omega) dX9_close_147 rfl (fun sg hM hF => ?_)
                refine aw_aload_n C dX9_close_148 rfl rfl rfl ?_
                refine aw_getf C f_X9_71 hM.1 rfl dX9_close_149 rfl ?_
                refine aw_iload_n C dX9_close_152 rfl rfl rfl ?_
                refine aw_aload_n C dX9_close_153 rfl rfl rfl ?_
                refine aw_getf C f_X9_134 hM.1 rfl dX9_close_154 rfl ?_
                refine mw_iast (k := 24) (N := 60) C hM hF rfl rfl (v := u.2.2.2.1) rfl (by omega) dX9_close_157 rfl (fun sg hM hF => ?_)
                refine aw_aload_n C dX9_close_158 rfl rfl rfl ?_
                refine aw_getf C f_X9_86 hM.1 rfl dX9_close_159 rfl ?_
                refine aw_iload_n C dX9_close_162 rfl rfl rfl ?_
                refine aw_iconst (v := 1) C dX9_close_163 rfl rfl ?_
                refine mw_iast (k := 29) (N := 60) C hM hF rfl rfl rfl (by omega) dX9_close_164 rfl (fun sg hM hF => ?_)
                refine aw_aload_n C dX9_close_165 rfl rfl rfl ?_
                refine aw_getf C f_X9_65 hM.1 rfl dX9_close_166 rfl ?_
                refine aw_iload_n C dX9_close_169 rfl rfl rfl ?_
                refine mw_iald (k := 22) (N := 60) C hM rfl rfl rfl (by omega) dX9_close_170 rfl ?_
                exact aw_iret C rfl (Nat.le_refl _) (Nat.le_refl _) (PO.of (by rw [opClose, if_neg (by simp [c6]), hpc, if_neg (by simp [ea, eb, hac, hbc, c19, c33, c47])]; simp [stateBy, leastP, uI_I, uN_I, uI_N, c72, c103, c119]; try rfl) hM hF) dX9_close_171
              · refine aw_iconst (v := 2) C dX9_close_122 rfl rfl ?_
                refine aw_goto (tgt := 127) C dX9_close_123 (by decide) ?_
                refine mw_iast (k := 22) (N := 60) C hM hF rfl rfl rfl (by omega) dX9_close_127 rfl (fun sg hM hF => ?_)
                refine aw_aload_n C dX9_close_128 rfl rfl rfl ?_
                refine aw_dup C dX9_close_129 rfl rfl ?_
                refine aw_getf C f_X9_185 hM.1 rfl dX9_close_130 rfl ?_
                refine aw_iconst (v := 1) C dX9_close_133 rfl rfl ?_
                refine aw_iadd C dX9_close_134 rfl ?_
                refine mw_put (th' := _) (u' := uN _ 30 (u.2.2.1 30 + 1)) C hM hF f_X9_185 rfl rfl rfl (by rw [nI_1]; rfl) rfl rfl dX9_close_135 rfl (fun sg hM hF => ?_)
                refine aw_aload_n C dX9_close_138 rfl rfl rfl ?_
                refine aw_getf C f_X9_68 hM.1 rfl dX9_close_139 rfl ?_
                refine aw_iload_n C dX9_close_142 rfl rfl rfl ?_
                refine aw_aload_n C dX9_close_143 rfl rfl rfl ?_
                refine aw_getf C f_X9_185 hM.1 rfl dX9_close_144 rfl ?_
                refine mw_iast (k := 23) (N := 60) C hM hF rfl rfl (v := nI (u.2.2.1 30 + 1)) rfl (by omega) dX9_close_147 rfl (fun sg hM hF => ?_)
                refine aw_aload_n C dX9_close_148 rfl rfl rfl ?_
                refine aw_getf C f_X9_71 hM.1 rfl dX9_close_149 rfl ?_
                refine aw_iload_n C dX9_close_152 rfl rfl rfl ?_
                refine aw_aload_n C dX9_close_153 rfl rfl rfl ?_
                refine aw_getf C f_X9_134 hM.1 rfl dX9_close_154 rfl ?_
                refine mw_iast (k := 24) (N := 60) C hM hF rfl rfl (v := u.2.2.2.1) rfl (by omega) dX9_close_157 rfl (fun sg hM hF => ?_)
                refine aw_aload_n C dX9_close_158 rfl rfl rfl ?_
                refine aw_getf C f_X9_86 hM.1 rfl dX9_close_159 rfl ?_
                refine aw_iload_n C dX9_close_162 rfl rfl rfl ?_
                refine aw_iconst (v := 1) C dX9_close_163 rfl rfl ?_
                refine mw_iast (k := 29) (N := 60) C hM hF rfl rfl rfl (by omega) dX9_close_164 rfl (fun sg hM hF => ?_)
                refine aw_aload_n C dX9_close_165 rfl rfl rfl ?_
                refine aw_getf C f_X9_65 hM.1 rfl dX9_close_166 rfl ?_
                refine aw_iload_n C dX9_close_169 rfl rfl rfl ?_
                refine mw_iald (k := 22) (N := 60) C hM rfl rfl rfl (by omega) dX9_close_170 rfl ?_
                exact aw_iret C rfl (Nat.le_refl _) (Nat.le_refl _) (PO.of (by rw [opClose, if_neg (by simp [c6]), hpc, if_neg (by simp [ea, eb, hac, hbc, c19, c33, c47])]; simp [stateBy, leastP, uI_I, uN_I, uI_N, c72, c103, c119]; try rfl) hM hF) dX9_close_171
            · refine aw_iconst (v := 1) C dX9_close_106 rfl rfl ?_
              refine aw_goto (tgt := 127) C dX9_close_107 (by decide) ?_
              refine mw_iast (k := 22) (N := 60) C hM hF rfl rfl rfl (by omega) dX9_close_127 rfl (fun sg hM hF => ?_)
              refine aw_aload_n C dX9_close_128 rfl rfl rfl ?_
              refine aw_dup C dX9_close_129 rfl rfl ?_
              refine aw_getf C f_X9_185 hM.1 rfl dX9_close_130 rfl ?_
              refine aw_iconst (v := 1) C dX9_close_133 rfl rfl ?_
              refine aw_iadd C dX9_close_134 rfl ?_
              refine mw_put (th' := _) (u' := uN _ 30 (u.2.2.1 30 + 1)) C hM hF f_X9_185 rfl rfl rfl (by rw [nI_1]; rfl) rfl rfl dX9_close_135 rfl (fun sg hM hF => ?_)
              refine aw_aload_n C dX9_close_138 rfl rfl rfl ?_
              refine aw_getf C f_X9_68 hM.1 rfl dX9_close_139 rfl ?_
              refine aw_iload_n C dX9_close_142 rfl rfl rfl ?_
              refine aw_aload_n C dX9_close_143 rfl rfl rfl ?_
              refine aw_getf C f_X9_185 hM.1 rfl dX9_close_144 rfl ?_
              refine mw_iast (k := 23) (N := 60) C hM hF rfl rfl (v := nI (u.2.2.1 30 + 1)) rfl (by omega) dX9_close_147 rfl (fun sg hM hF => ?_)
              refine aw_aload_n C dX9_close_148 rfl rfl rfl ?_
              refine aw_getf C f_X9_71 hM.1 rfl dX9_close_149 rfl ?_
              refine aw_iload_n C dX9_close_152 rfl rfl rfl ?_
              refine aw_aload_n C dX9_close_153 rfl rfl rfl ?_
              refine aw_getf C f_X9_134 hM.1 rfl dX9_close_154 rfl ?_
              refine mw_iast (k := 24) (N := 60) C hM hF rfl rfl (v := u.2.2.2.1) rfl (by omega) dX9_close_157 rfl (fun sg hM hF => ?_)
              refine aw_aload_n C dX9_close_158 rfl rfl rfl ?_
              refine aw_getf C f_X9_86 hM.1 rfl dX9_close_159 rfl ?_
              refine aw_iload_n C dX9_close_162 rfl rfl rfl ?_
              refine aw_iconst (v := 1) C dX9_close_163 rfl rfl ?_
              refine mw_iast (k := 29) (N := 60) C hM hF rfl rfl rfl (by omega) dX9_close_164 rfl (fun sg hM hF => ?_)
              refine aw_aload_n C dX9_close_165 rfl rfl rfl ?_
              refine aw_getf C f_X9_65 hM.1 rfl dX9_close_166 rfl ?_
              refine aw_iload_n C dX9_close_169 rfl rfl rfl ?_
              refine mw_iald (k := 22) (N := 60) C hM rfl rfl rfl (by omega) dX9_close_170 rfl ?_
              exact aw_iret C rfl (Nat.le_refl _) (Nat.le_refl _) (PO.of (by rw [opClose, if_neg (by simp [c6]), hpc, if_neg (by simp [ea, eb, hac, hbc, c19, c33, c47])]; simp [stateBy, leastP, uI_I, uN_I, uI_N, c72, c103]; try rfl) hM hF) dX9_close_171
          · have c72 := tr_of c72
            refine aw_iconst (v := 3) C dX9_close_75 rfl rfl ?_
            refine aw_goto (tgt := 80) C dX9_close_76 (by decide) ?_
            refine aw_istore_n (ls' := [(2, _), (0, _), (1, _)]) C dX9_close_80 rfl (by decide) rfl rfl ?_
            refine aw_aload_n C dX9_close_81 rfl rfl rfl ?_
            refine aw_getf C f_X9_65 hM.1 rfl dX9_close_82 rfl ?_
            refine aw_iload_n C dX9_close_85 rfl rfl rfl ?_
            refine aw_aload_n C dX9_close_86 rfl rfl rfl ?_
            refine aw_getf C f_X9_59 hM.1 rfl dX9_close_87 rfl ?_
            refine aw_iload_n C dX9_close_90 rfl rfl rfl ?_
            refine mw_iald (k := 20) (N := 60) C hM rfl rfl rfl (by omega) dX9_close_91 rfl ?_
            refine aw_aload_n C dX9_close_92 rfl rfl rfl ?_
            refine aw_iload_n C dX9_close_93 rfl rfl rfl ?_
            refine mw_callVp C k_X9_181 hM (M_needs hl hst hM hD hp60) ⟨by decide, by decide⟩ rfl rfl rfl (Nat.le_of_ble_eq_true rfl) dX9_close_94 rfl ?_
            refine aw_iand C dX9_close_97 rfl ?_
            refine aw_aload_n C dX9_close_98 rfl rfl rfl ?_
            refine aw_iload_n C dX9_close_99 rfl rfl rfl ?_
            refine mw_callVp C k_X9_181 hM (M_needs hl hst hM hD hp60) ⟨by decide, by decide⟩ rfl rfl rfl (Nat.le_of_ble_eq_true rfl) dX9_close_100 rfl ?_
            refine aw_icmp_ne (tgt := 110) C dX9_close_103 (by decide) rfl (fun c103 => ?_) (fun c103 => ?_)
            · refine aw_aload_n C dX9_close_110 rfl rfl rfl ?_
              refine aw_getf C f_X9_59 hM.1 rfl dX9_close_111 rfl ?_
              refine aw_iload_n C dX9_close_114 rfl rfl rfl ?_
              refine mw_iald (k := 20) (N := 60) C hM rfl rfl rfl (by omega) dX9_close_115 rfl ?_
              refine aw_iload_n C dX9_close_116 rfl rfl rfl ?_
              refine aw_iand C dX9_close_117 rfl ?_
              refine aw_iload_n C dX9_close_118 rfl rfl rfl ?_
              refine aw_icmp_ne (tgt := 126) C dX9_close_119 (by decide) rfl (fun c119 => ?_) (fun c119 => ?_)
              · refine aw_iconst (v := 3) C dX9_close_126 rfl rfl ?_
                refine mw_iast (k := 22) (N := 60) C hM hF rfl rfl rfl (by omega) dX9_close_127 rfl (fun sg hM hF => ?_)
                refine aw_aload_n C dX9_close_128 rfl rfl rfl ?_
                refine aw_dup C dX9_close_129 rfl rfl ?_
                refine aw_getf C f_X9_185 hM.1 rfl dX9_close_130 rfl ?_
                refine aw_iconst (v := 1) C dX9_close_133 rfl rfl ?_
                refine aw_iadd C dX9_close_134 rfl ?_
                refine mw_put (th' := _) (u' := uN _ 30 (u.2.2.1 30 + 1)) C hM hF f_X9_185 rfl rfl rfl (by rw [nI_1]; rfl) rfl rfl dX9_close_135 rfl (fun sg hM hF => ?_)
                refine aw_aload_n C dX9_close_138 rfl rfl rfl ?_
                refine aw_getf C f_X9_68 hM.1 rfl dX9_close_139 rfl ?_
                refine aw_iload_n C dX9_close_142 rfl rfl rfl ?_
                refine aw_aload_n C dX9_close_143 rfl rfl rfl ?_
                refine aw_getf C f_X9_185 hM.1 rfl dX9_close_144 rfl ?_
                refine mw_iast (k := 23) (N := 60) C hM hF rfl rfl (v := nI (u.2.2.1 30 + 1)) rfl (by omega) dX9_close_147 rfl (fun sg hM hF => ?_)
                refine aw_aload_n C dX9_close_148 rfl rfl rfl ?_
                refine aw_getf C f_X9_71 hM.1 rfl dX9_close_149 rfl ?_
                refine aw_iload_n C dX9_close_152 rfl rfl rfl ?_
                refine aw_aload_n C dX9_close_153 rfl rfl rfl ?_
                refine aw_getf C f_X9_134 hM.1 rfl dX9_close_154 rfl ?_
                refine mw_iast (k := 24) (N := 60) C hM hF rfl rfl (v := u.2.2.2.1) rfl (by omega) dX9_close_157 rfl (fun sg hM hF => ?_)
                refine aw_aload_n C dX9_close_158 rfl rfl rfl ?_
                refine aw_getf C f_X9_86 hM.1 rfl dX9_close_159 rfl ?_
                refine aw_iload_n C dX9_close_162 rfl rfl rfl ?_
                refine aw_iconst (v := 1) C dX9_close_163 rfl rfl ?_
                refine mw_iast (k := 29) (N := 60) C hM hF rfl rfl rfl (by omega) dX9_close_164 rfl (fun sg hM hF => ?_)
                refine aw_aload_n C dX9_close_165 rfl rfl rfl ?_
                refine aw_getf C f_X9_65 hM.1 rfl dX9_close_166 rfl ?_
                refine aw_iload_n C dX9_close_169 rfl rfl rfl ?_
                refine mw_iald (k := 22) (N := 60) C hM rfl rfl rfl (by omega) dX9_close_170 rfl ?_
                exact aw_iret C rfl (Nat.le_refl _) (Nat.le_refl _) (PO.of (by rw [opClose, if_neg (by simp [c6]), hpc, if_neg (by simp [ea, eb, hac, hbc, c19, c33, c47])]; simp [stateBy, leastP, uI_I, uN_I, uI_N, c72, c103, c119]; try rfl) hM hF) dX9_close_171
              · refine aw_iconst (v := 2) C dX9_close_122 rfl rfl ?_
                refine aw_goto (tgt := 127) C dX9_close_123 (by decide) ?_
                refine mw_iast (k := 22) (N := 60) C hM hF rfl rfl rfl (by omega) dX9_close_127 rfl (fun sg hM hF => ?_)
                refine aw_aload_n C dX9_close_128 rfl rfl rfl ?_
                refine aw_dup C dX9_close_129 rfl rfl ?_
                refine aw_getf C f_X9_185 hM.1 rfl dX9_close_130 rfl ?_
                refine aw_iconst (v := 1) C dX9_close_133 rfl rfl ?_
                refine aw_iadd C dX9_close_134 rfl ?_
                refine mw_put (th' := _) (u' := uN _ 30 (u.2.2.1 30 + 1)) C hM hF f_X9_185 rfl rfl rfl (by rw [nI_1]; rfl) rfl rfl dX9_close_135 rfl (fun sg hM hF => ?_)
                refine aw_aload_n C dX9_close_138 rfl rfl rfl ?_
                refine aw_getf C f_X9_68 hM.1 rfl dX9_close_139 rfl ?_
                refine aw_iload_n C dX9_close_142 rfl rfl rfl ?_
                refine aw_aload_n C dX9_close_143 rfl rfl rfl ?_
                refine aw_getf C f_X9_185 hM.1 rfl dX9_close_144 rfl ?_
                refine mw_iast (k := 23) (N := 60) C hM hF rfl rfl (v := nI (u.2.2.1 30 + 1)) rfl (by omega) dX9_close_147 rfl (fun sg hM hF => ?_)
                refine aw_aload_n C dX9_close_148 rfl rfl rfl ?_
                refine aw_getf C f_X9_71 hM.1 rfl dX9_close_149 rfl ?_
                refine aw_iload_n C dX9_close_152 rfl rfl rfl ?_
                refine aw_aload_n C dX9_close_153 rfl rfl rfl ?_
                refine aw_getf C f_X9_134 hM.1 rfl dX9_close_154 rfl ?_
                refine mw_iast (k := 24) (N := 60) C hM hF rfl rfl (v := u.2.2.2.1) rfl (by omega) dX9_close_157 rfl (fun sg hM hF => ?_)
                refine aw_aload_n C dX9_close_158 rfl rfl rfl ?_
                refine aw_getf C f_X9_86 hM.1 rfl dX9_close_159 rfl ?_
                refine aw_iload_n C dX9_close_162 rfl rfl rfl ?_
                refine aw_iconst (v := 1) C dX9_close_163 rfl rfl ?_
                refine mw_iast (k := 29) (N := 60) C hM hF rfl rfl rfl (by omega) dX9_close_164 rfl (fun sg hM hF => ?_)
                refine aw_aload_n C dX9_close_165 rfl rfl rfl ?_
                refine aw_getf C f_X9_65 hM.1 rfl dX9_close_166 rfl ?_
                refine aw_iload_n C dX9_close_169 rfl rfl rfl ?_
                refine mw_iald (k := 22) (N := 60) C hM rfl rfl rfl (by omega) dX9_close_170 rfl ?_
                exact aw_iret C rfl (Nat.le_refl _) (Nat.le_refl _) (PO.of (by rw [opClose, if_neg (by simp [c6]), hpc, if_neg (by simp [ea, eb, hac, hbc, c19, c33, c47])]; simp [stateBy, leastP, uI_I, uN_I, uI_N, c72, c103, c119]; try rfl) hM hF) dX9_close_171
            · refine aw_iconst (v := 1) C dX9_close_106 rfl rfl ?_
              refine aw_goto (tgt := 127) C dX9_close_107 (by decide) ?_
              refine mw_iast (k := 22) (N := 60) C hM hF rfl rfl rfl (by omega) dX9_close_127 rfl (fun sg hM hF => ?_)
              refine aw_aload_n C dX9_close_128 rfl rfl rfl ?_
              refine aw_dup C dX9_close_129 rfl rfl ?_
              refine aw_getf C f_X9_185 hM.1 rfl dX9_close_130 rfl ?_
              refine aw_iconst (v := 1) C dX9_close_133 rfl rfl ?_
              refine aw_iadd C dX9_close_134 rfl ?_
              refine mw_put (th' := _) (u' := uN _ 30 (u.2.2.1 30 + 1)) C hM hF f_X9_185 rfl rfl rfl (by rw [nI_1]; rfl) rfl rfl dX9_close_135 rfl (fun sg hM hF => ?_)
              refine aw_aload_n C dX9_close_138 rfl rfl rfl ?_
              refine aw_getf C f_X9_68 hM.1 rfl dX9_close_139 rfl ?_
              refine aw_iload_n C dX9_close_142 rfl rfl rfl ?_
              refine aw_aload_n C dX9_close_143 rfl rfl rfl ?_
              refine aw_getf C f_X9_185 hM.1 rfl dX9_close_144 rfl ?_
              refine mw_iast (k := 23) (N := 60) C hM hF rfl rfl (v := nI (u.2.2.1 30 + 1)) rfl (by omega) dX9_close_147 rfl (fun sg hM hF => ?_)
              refine aw_aload_n C dX9_close_148 rfl rfl rfl ?_
              refine aw_getf C f_X9_71 hM.1 rfl dX9_close_149 rfl ?_
              refine aw_iload_n C dX9_close_152 rfl rfl rfl ?_
              refine aw_aload_n C dX9_close_153 rfl rfl rfl ?_
              refine aw_getf C f_X9_134 hM.1 rfl dX9_close_154 rfl ?_
              refine mw_iast (k := 24) (N := 60) C hM hF rfl rfl (v := u.2.2.2.1) rfl (by omega) dX9_close_157 rfl (fun sg hM hF => ?_)
              refine aw_aload_n C dX9_close_158 rfl rfl rfl ?_
              refine aw_getf C f_X9_86 hM.1 rfl dX9_close_159 rfl ?_
              refine aw_iload_n C dX9_close_162 rfl rfl rfl ?_
              refine aw_iconst (v := 1) C dX9_close_163 rfl rfl ?_
              refine mw_iast (k := 29) (N := 60) C hM hF rfl rfl rfl (by omega) dX9_close_164 rfl (fun sg hM hF => ?_)
              refine aw_aload_n C dX9_close_165 rfl rfl rfl ?_
              refine aw_getf C f_X9_65 hM.1 rfl dX9_close_166 rfl ?_
              refine aw_iload_n C dX9_close_169 rfl rfl rfl ?_
              refine mw_iald (k := 22) (N := 60) C hM rfl rfl rfl (by omega) dX9_close_170 rfl ?_
              exact aw_iret C rfl (Nat.le_refl _) (Nat.le_refl _) (PO.of (by rw [opClose, if_neg (by simp [c6]), hpc, if_neg (by simp [ea, eb, hac, hbc, c19, c33, c47])]; simp [stateBy, leastP, uI_I, uN_I, uI_N, c72, c103]; try rfl) hM hF) dX9_close_171
        · refine aw_iconst (v := 2) C dX9_close_50 rfl rfl ?_
          refine aw_goto (tgt := 55) C dX9_close_51 (by decide) ?_
          refine mw_put (th' := _) (u' := _) C hM hF f_X9_117 rfl rfl rfl rfl rfl rfl dX9_close_55 rfl (fun sg hM hF => ?_)
          refine aw_aload_n C dX9_close_58 rfl rfl rfl ?_
          refine aw_getf C f_X9_117 hM.1 rfl dX9_close_59 rfl ?_
          refine aw_if_le (tgt := 67) C dX9_close_62 (by decide) rfl (fun h => by first | exact absurd h (by decide) | exact absurd (by decide) h) (fun _ => ?_)
          refine aw_iconst (v := 0) C dX9_close_65 rfl rfl ?_
          exact aw_iret C rfl (Nat.le_refl _) (Nat.le_refl _) (PO.of (by simp [opClose, c6, c19, c33, c47, hpc, ea, eb, hac, hbc]) hM hF) dX9_close_66
  · have c6 := fa_of c6
    refine aw_iconst (v := 1) C dX9_close_9 rfl rfl ?_
    refine aw_goto (tgt := 55) C dX9_close_10 (by decide) ?_
    refine mw_put (th' := _) (u' := _) C hM hF f_X9_117 rfl rfl rfl rfl rfl rfl dX9_close_55 rfl (fun sg hM hF => ?_)
    refine aw_aload_n C dX9_close_58 rfl rfl rfl ?_
    refine aw_getf C f_X9_117 hM.1 rfl dX9_close_59 rfl ?_
    refine aw_if_le (tgt := 67) C dX9_close_62 (by decide) rfl (fun h => by first | exact absurd h (by decide) | exact absurd (by decide) h) (fun _ => ?_)
    refine aw_iconst (v := 0) C dX9_close_65 rfl rfl ?_
    exact aw_iret C rfl (Nat.le_refl _) (Nat.le_refl _) (PO.of (by simp [opClose, c6]) hM hF) dX9_close_66
