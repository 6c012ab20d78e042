/-! methods with an exception table; the law's own rows beside the class in one store -/
def MMW (g : Gx) (l : Launch) (y : MethodName) (bytes : ByteArray) (maxL : Nat) (ret : Option FieldType) (hh : List (Nat × Nat × Nat × Nat)) (rm : Room) (sg : Sg) (As : List Value) (P : Option Value → Sg → Prop) (PX : String → Sg → Prop) : Prop :=
  vx_Met l y (Cond.codeWith y bytes maxL ret hh :: WS) rm (PreC g sg As) (QC g P) (QX g PX) rm.cells rm.slots g.A
def KSW (own : String) (idx : Nat) (y : MethodName) (bytes : ByteArray) (maxL : Nat) (ret : Option FieldType) (hh : List (Nat × Nat × Nat × Nat)) (np : Nat) : Prop := Cond.codeWith y bytes maxL ret hh ∈ WS ∧ Cond.initialized y.cls ∈ WS ∧ ((y.cls ≠ "java/lang/invoke/MethodHandle" ∧ y.cls ≠ "java/lang/invoke/VarHandle") ∧ (parseMethodDescriptor y.desc).map (fun d => d.parameters.length) = some np) ∧ Cond.methodLink own idx y ∈ WS ∧ Cond.static y ∈ WS
section AWW
variable {x : Cx} {Q : State → Prop} {k n : Nat} {sg : Sg} {pc : Nat} {ls : List (Nat × Value)} {st : List Value} {cc : ByteArray} {nL : Nat} {own : String} {R : Room} {ret : Option FieldType} {pc' : Nat}
variable {idx np maxL : Nat} {y : MethodName} {bytes : ByteArray} {rt : Option FieldType} {rm : Room} {As : List Value} {P : Option Value → Sg → Prop} {PX : String → Sg → Prop} {st0 : List Value} {hh : List (Nat × Nat × Nat × Nat)}
theorem aw_callSW (C : AWC x cc nL own R ret) (L : KSW own idx y bytes maxL rt hh np) (hM : MMW x.g x.l y bytes maxL rt hh rm sg As P PX) (hR : RmOk rm R maxL) (hn : As.length = np) (hst : st0 = As.reverse ++ st) (hW : (st.map fun v => v.category).sum ≤ 8) (hc : k + rm.cells ≤ R.cells) (hsl : n + rm.slots ≤ R.slots) (hdg : decode cc pc = .ok (.invokestatic idx, 3)) (hpc : pc + 3 = pc')
    (kx : ∀ E sg', PX E sg' → AX x Q (k + rm.cells) (n + rm.slots) sg' pc ls E) (kk : ∀ v sg', P v sg' → AW x Q (k + rm.cells) (n + rm.slots) sg' pc' ls (v.toList ++ st)) : AW x Q k n sg pc ls st0 := by
  refine aw_run (a := As.toArray) (rest := st) (fun H locs la ws h1 h2 h3 => ?_) hpc kx kk
  obtain ⟨L1, L2, L3, L4, L5⟩ := L
  exact vx_runSX (Ts := WS) ⟨C.hx, C.hb, C.hml, C.hown, C.hts⟩ hM ⟨⟨rfl, rfl, by rw [C.room]; exact hR.1, by rw [C.room]; exact hR.2, ws_pay C.hts L1, List.mem_cons_self⟩, C.hts _ L1, C.hts _ L2, L3.1, fun sig hs => (by have h := L3.2; rw [hs] at h; exact (Option.some.inj h).symm), C.hts _ L4, C.hts _ L5⟩ ⟨preC_blind C.stab, aw_pre C h1 h2⟩ rfl hn (by rw [← C.hml]; exact h3.1) hst (lv_room hW) hdg (by rw [C.room]; exact ⟨hc, hsl⟩)
/-- the handler that the table names -/
theorem ax_catch {E name : String} (C : AWC x cc nL own R ret) (pre : List ExceptionTableEntry) (z : ExceptionTableEntry) (suf : List ExceptionTableEntry) (hsplit : x.c.exceptionTable.toList = pre ++ z :: suf) (hpass : ∀ y ∈ pre, covers y pc = false ∨ (y.catchType ≠ 0 ∧ ∃ nm : String, Cond.classLink own y.catchType nm ∈ WS ∧ va_Nc E nm x.s)) (hx : covers z pc = true) (h0 : z.catchType ≠ 0) (hlink : Cond.classLink own z.catchType name ∈ WS) (hcast : Cond.castable E name ∈ WS) (hp : z.handlerPc = pc') (kk : ∀ q : Nat, AW x Q k n sg pc' ls [.ref q]) : AX x Q k n sg pc ls E := by
  subst hp
  intro H locs la ws q ce st h1 h2 h3 h4 h5 h6
  refine vx_catch C.hown pre z suf hsplit (fun y hy => ?_) hx h0 (C.hts _ hlink) (C.hts _ hcast) h4 h5 h6 (kk q H locs la ws h1 h2 h3)
  rcases hpass y hy with a | ⟨a, nm, b, c⟩
  · exact Or.inl a
  · exact Or.inr ⟨a, nm, C.hts _ b, c⟩
end AWW
/-- a contract of a method with an exception table, out of its body's walk -/
theorem MMW.of {g : Gx} {l : Launch} {y : MethodName} {bytes : ByteArray} {maxL : Nat} {ret : Option FieldType} {hh : List (Nat × Nat × Nat × Nat)} {rm : Room} {sg : Sg} {As : List Value} {P : Option Value → Sg → Prop} {PX : String → Sg → Prop} (hl : l.flags = flags0) (hst : g.Stable) (hy : plainName y.cls = true) (hnL : (lg_sl As).length ≤ maxL)
    (body : ∀ x : Cx, x.g = g → x.l = l → AWC x bytes maxL y.cls rm ret → x.c.exceptionTable.toList = tableOf hh → x.args = As.toArray → AW x (RQ x P PX rm.cells rm.slots) 0 0 sg 0 (lv_args 0 As) []) : MMW g l y bytes maxL ret hh rm sg As P PX := by
  refine vx_ofWH hy rfl ?_
  intro p e s m args below meth c s₁ B hml hv
  obtain ⟨rfl, henv, ws, hsat⟩ := hv
  have hts0 := atoms_spec (ws := Cond.codeWith y bytes maxL ret hh :: WS) B.pre
  have hns : l.stackTraces = false := by
    have : l.flags = flags0 := hl
    simp only [Launch.stackTraces, this]
    decide +kernel
  have C : AWC (g, p, l, e, rm, s, m, As.toArray, below, meth, c) bytes maxL y.cls rm ret := ⟨B.exec, B.bytes, hml, findClass_of_methodNamed B.named, fun w hw => hts0 w (List.mem_cons_of_mem _ hw), B.notSynchronized, henv, hst, rfl, hns, B.returns⟩
  have K := body (g, p, l, e, rm, s, m, As.toArray, below, meth, c) rfl rfl C (vx_table (x := y) B (hts0 _ List.mem_cons_self)) rfl
  rw [lg_entry_eq]
  exact K s.heap [] _ ws hsat va_S.rf (by
    have h := lv_entry As (n := maxL) hnL
    rw [← hml] at h ⊢
    exact h)
/-- of the three exceptions none is of another's class -/
def XNC (s : State) : Prop := va_Nc nAr nSt s ∧ va_Nc nAr nB s ∧ va_Nc nSt nAr s ∧ va_Nc nSt nB s ∧ va_Nc nB nAr s ∧ va_Nc nB nSt s
def GLk (g : Gx) (l : Launch) (ez : Nat) : Prop := GOK g l ez ∧ ∀ s, g.X s → XNC s
theorem cel_form {g : Gx} {ez : Nat} {ad : Nat → Nat → Nat} {u : MU} {Y : GS} {k i : Nat} {e : va_E} (h : cel g ez ad u Y k i = some e) : (∃ c fs, e = ob c fs ∧ c ≠ 11) ∨ (∃ N f, e = arO g N f) ∨ (∃ f, e = arI g 4 f) ∨ ∃ f, e = arJ g 13 f := by
  match k with
  | 0 | 1 | 3 | 4 | 5 | 7 | 8 | 9 | 12 =>
    simp only [cel] at h
    split at h
    · cases h
      exact Or.inl ⟨_, _, rfl, by decide⟩
    · cases h
  | 2 =>
    simp only [cel] at h
    split at h
    · cases h
      exact Or.inr (Or.inl ⟨_, _, rfl⟩)
    · cases h
  | 6 =>
    simp only [cel] at h
    split at h
    · cases h
      exact Or.inr (Or.inr (Or.inl ⟨_, rfl⟩))
    · cases h
  | 10 | 11 =>
    simp only [cel] at h
    split at h
    · cases h
      exact Or.inr (Or.inr (Or.inr ⟨_, rfl⟩))
    · split at h
      · cases h
        exact Or.inr (Or.inr (Or.inr ⟨_, rfl⟩))
      · cases h
  | _ + 13 => simp [cel] at h
section KEEP
variable {g : Gx} {ez : Nat} {ad : Nat → Nat → Nat} {u v w : MU} {Y : GS} {sg s' : Sg}
theorem CS.eq (h : CS g ez ad u Y sg) (he : ∀ k i e, cel g ez ad u Y k i = some e → s' (ad k i) = some e) (hm : ∀ a fs, sg a = some (ob 5 fs) → s' a = some (ob 5 fs)) : CS g ez ad u Y s' := ⟨he, h.2.1, fun e he' a m hq => hm a _ (h.2.2 e he' a m hq)⟩
end KEEP
theorem CR.fr {g : Gx} {ez : Nat} {ad : Nat → Nat → Nat} {u w : MU} {Y : GS} {sg s' : Sg} (h : CR g ez ad u Y sg w s') : CFr g ez ad u Y sg s' := by
  obtain ⟨ad', Y', -, -, h, -⟩ := h
  exact h
/-! the law's rows: p 0, a 1, b 2, c 3, e 4, f 5, g 6, h 7, i 8, j 9, n 10, the shares 11, r 12 -/
abbrev ZU : Type := (Nat → Nat → Nat) × (Nat → Nat)
def zlen : Nat → Nat
  | 0 => 40 | 10 => 5 | 12 => 32 | _ => 24
def zar (k : Nat) : Bool := decide (k < 13) && !decide (k = 11)
def zI (L : ZU) (k i v : Nat) : ZU := (fun a => if a = k then (fun j => if j = i then v else L.1 k j) else L.1 a, L.2)
def zJ (L : ZU) (i v : Nat) : ZU := (L.1, fun j => if j = i then v else L.2 j)
theorem zI_s {L : ZU} {k i v : Nat} : (zI L k i v).1 k i = v := by
  show (if k = k then (fun j => if j = i then v else L.1 k j) else L.1 k) i = v
  rw [if_pos rfl]
  exact if_pos rfl
theorem zI_k {L : ZU} {k a i j v : Nat} (h : a ≠ k) : (zI L k i v).1 a j = L.1 a j := by
  show (if a = k then (fun j => if j = i then v else L.1 k j) else L.1 a) j = _
  rw [if_neg h]
theorem zI_n {L : ZU} {k i j v : Nat} (h : j ≠ i) : (zI L k i v).1 k j = L.1 k j := by
  show (if k = k then (fun j => if j = i then v else L.1 k j) else L.1 k) j = _
  rw [if_pos rfl]
  exact if_neg h
theorem zI_a {L : ZU} {k a i j v : Nat} : (zI L k i v).1 a j = if a = k ∧ j = i then v else L.1 a j := by
  by_cases h : a = k
  · subst h
    by_cases h2 : j = i
    · subst h2
      rw [zI_s, if_pos ⟨rfl, rfl⟩]
    · rw [zI_n h2, if_neg (fun q => h2 q.2)]
  · rw [zI_k h, if_neg (fun q => h q.1)]
theorem zI_2 {L : ZU} {k i v : Nat} : (zI L k i v).2 = L.2 := rfl
theorem zJ_1 {L : ZU} {i v : Nat} : (zJ L i v).1 = L.1 := rfl
theorem zJ_s {L : ZU} {i v : Nat} : (zJ L i v).2 i = v := if_pos rfl
theorem zJ_n {L : ZU} {i j v : Nat} (h : j ≠ i) : (zJ L i v).2 j = L.2 j := if_neg h
theorem zJ_a {L : ZU} {i j v : Nat} : (zJ L i v).2 j = if j = i then v else L.2 j := rfl
/-- the store holds the law's rows at al -/
def ZS (g : Gx) (al : Nat → Nat) (L : ZU) (sg : Sg) : Prop := (∀ k, zar k = true → sg (al k) = some (arI g (zlen k) (fun i => nI (L.1 k i)))) ∧ sg (al 11) = some (arJ g 14 (fun i => lN (L.2 i))) ∧ ∀ i j, i < 13 → j < 13 → al i = al j → i = j
/-- beside the law's rows nothing has changed -/
def ZFr (al : Nat → Nat) (sg0 sg : Sg) : Prop := ∀ a e, sg0 a = some e → (∀ i, i < 13 → a ≠ al i) → sg a = some e
theorem ZFr.rf {al : Nat → Nat} {sg : Sg} : ZFr al sg sg := fun _ _ h _ => h
theorem ZFr.tr {al : Nat → Nat} {s1 s2 s3 : Sg} (h1 : ZFr al s1 s2) (h2 : ZFr al s2 s3) : ZFr al s1 s3 := fun a e h k => h2 a e (h1 a e h k) k
theorem ZFr.put {al : Nat → Nat} {s1 s2 : Sg} (h : ZFr al s1 s2) {k : Nat} (hk : k < 13) {e : va_E} : ZFr al s1 (sgu s2 (al k) e) := fun a b ha hn => by
  rw [sgu_n (hn k hk)]
  exact h a b ha hn
theorem zar_lt {k : Nat} (h : zar k = true) : k < 13 := by
  simp only [zar, Bool.and_eq_true, decide_eq_true_eq] at h
  exact h.1
theorem zar_n {k : Nat} (h : zar k = true) : k ≠ 11 := by
  simp only [zar, Bool.and_eq_true, decide_eq_true_eq, Bool.not_eq_true', decide_eq_false_iff_not] at h
  exact h.2
theorem upd_nI {L : ZU} {k i v : Nat} : upd (fun j => nI (L.1 k j)) i (nI v) = fun j => nI ((zI L k i v).1 k j) := by
  funext j
  show (if j = i then nI v else nI (L.1 k j)) = _
  by_cases h : j = i
  · subst h; rw [if_pos rfl, zI_s]
  · rw [if_neg h, zI_n h]
theorem upd_lN {L : ZU} {i v : Nat} : vp_updL (fun j => lN (L.2 j)) i (lN v) = fun j => lN ((zJ L i v).2 j) := by
  funext j
  show (if j = i then lN v else lN (L.2 j)) = lN (if j = i then v else L.2 j)
  by_cases h : j = i
  · rw [if_pos h, if_pos h]
  · rw [if_neg h, if_neg h]
theorem ZS.setI {g : Gx} {al : Nat → Nat} {L : ZU} {sg : Sg} (h : ZS g al L sg) {k i v : Nat} (hk : zar k = true) : ZS g al (zI L k i v) (sgu sg (al k) (arI g (zlen k) (upd (fun j => nI (L.1 k j)) i (nI v)))) := by
  obtain ⟨h1, h2, h3⟩ := h
  have k13 := zar_lt hk
  refine ⟨fun a ha => ?_, ?_, h3⟩
  · by_cases e : a = k
    · subst e
      rw [sgu_s, upd_nI]
    · rw [sgu_n (fun z => e (h3 a k (zar_lt ha) k13 z)), h1 a ha]
      exact congrArg some (congrArg (arI g (zlen a)) (funext fun j => by rw [zI_k e]))
  · rw [sgu_n (fun z => zar_n hk (h3 11 k (by decide) k13 z).symm)]
    exact h2
theorem ZS.setJ {g : Gx} {al : Nat → Nat} {L : ZU} {sg : Sg} (h : ZS g al L sg) {i v : Nat} : ZS g al (zJ L i v) (sgu sg (al 11) (arJ g 14 (vp_updL (fun j => lN (L.2 j)) i (lN v)))) := by
  obtain ⟨h1, h2, h3⟩ := h
  refine ⟨fun a ha => ?_, ?_, h3⟩
  · rw [sgu_n (fun z => zar_n ha (h3 a 11 (zar_lt ha) (by decide) z))]
    exact h1 a ha
  · rw [sgu_s, upd_lN]
/-- the law's rows look like no cell of the class -/
def ZForm (g : Gx) (e : va_E) : Prop := (∃ N f, e = arI g N f ∧ N ≠ 4) ∨ ∃ f, e = arJ g 14 f
theorem cel_Z {g : Gx} {ez : Nat} {ad : Nat → Nat → Nat} {u : MU} {Y : GS} {k i : Nat} {e : va_E} (h : cel g ez ad u Y k i = some e) : ¬ ZForm g e := by
  rcases cel_form h with ⟨c, fs, rfl, hc⟩ | ⟨N, f, rfl⟩ | ⟨f, rfl⟩ | ⟨f, rfl⟩ <;> rintro (⟨N', f', z, hn⟩ | ⟨f', z⟩)
  · cases z
  · cases z
  · simp [arI, arO] at z
  · simp [arJ, arO] at z
  · simp [arI] at z
    exact hn z.1.symm
  · simp [arI, arJ] at z
  · simp [arI, arJ] at z
  · simp [arJ] at z
theorem ZForm_5 {g : Gx} {fs : List Value} : ¬ ZForm g (ob 5 fs) := by
  rintro (⟨N', f', z, hn⟩ | ⟨f', z⟩)
  · cases z
  · cases z
theorem zlen_4 (k : Nat) : 5 ≤ zlen k ∧ zlen k ≤ 40 := by
  unfold zlen
  split <;> decide
theorem ZS.form {g : Gx} {al : Nat → Nat} {L : ZU} {sg : Sg} (h : ZS g al L sg) {k : Nat} (hk : k < 13) : ∃ e, sg (al k) = some e ∧ ZForm g e := by
  have h5 := (zlen_4 k).1
  by_cases e : k = 11
  · subst e
    exact ⟨_, h.2.1, Or.inr ⟨_, rfl⟩⟩
  · exact ⟨_, h.1 k (by simp [zar, hk, e]), Or.inl ⟨_, _, rfl, by omega⟩⟩
theorem ZS.eq {g : Gx} {al : Nat → Nat} {L : ZU} {sg s' : Sg} (h : ZS g al L sg) (he : ∀ k, k < 13 → s' (al k) = sg (al k)) : ZS g al L s' :=
  ⟨fun k hk => (he k (zar_lt hk)).trans (h.1 k hk), (he 11 (by decide)).trans h.2.1, h.2.2⟩
section KEEPL
variable {g : Gx} {ez : Nat} {ad : Nat → Nat → Nat} {u v w : MU} {Y : GS} {sg s' : Sg} {al : Nat → Nat} {L : ZU}
theorem zc_ne (hM : ZS g al L sg) (hS : CS g ez ad u Y sg) {k i j : Nat} (hk : k < 13) (hc : cel g ez ad u Y i j ≠ none) : al k ≠ ad i j := fun z => by
  obtain ⟨e, h1, h2⟩ := hM.form hk
  cases q : cel g ez ad u Y i j with
  | none => exact hc q
  | some e2 =>
    have h3 := hS.1 i j e2 q
    rw [← z, h1] at h3
    cases h3
    exact cel_Z q h2
theorem ZS.keepC (hM : ZS g al L sg) (hS : CS g ez ad u Y sg) (hF : CFr g ez ad u Y sg s') : ZS g al L s' := hM.eq fun k hk => by
  obtain ⟨e, h1, -⟩ := hM.form hk
  rw [h1]
  exact hF _ _ h1 (fun i j hc => zc_ne hM hS hk hc)
theorem CS.keepZ (hS : CS g ez ad u Y sg) (hM : ZS g al L sg) (hF : ZFr al sg s') : CS g ez ad u Y s' := by
  refine hS.eq (fun k i e hc => ?_) (fun a fs ha => ?_)
  · exact hF _ _ (hS.1 k i e hc) (fun j hj z => zc_ne hM hS hj (k := j) (i := k) (j := i) (by rw [hc]; exact fun q => by cases q) z.symm)
  · refine hF a _ ha (fun j hj z => ?_)
    obtain ⟨e, h1, h2⟩ := hM.form hj
    rw [← z, ha] at h1
    cases h1
    exact ZForm_5 h2
end KEEPL
/-- the end of a helper that changes the rows to L' -/
def ZP (g : Gx) (al : Nat → Nat) (sg : Sg) (r : Int32) (L' : ZU) : Option Value → Sg → Prop := fun v s' => v = some (.int r) ∧ ZS g al L' s' ∧ ZFr al sg s'
theorem ZP.of {g : Gx} {al : Nat → Nat} {sg s' : Sg} {r r' : Int32} {L' L1 : ZU} (h : r = r') (hL : L1 = L') (hM : ZS g al L1 s') (hF : ZFr al sg s') : ZP g al sg r' L' (some (.int r)) s' := by
  subst h; subst hL
  exact ⟨rfl, hM, hF⟩
def rmZ (h : Nat) : Room := { frames := h, cells := 0, slots := 0, locals := 44 * h }
