/-! rows of AW that touch cells, calls, ends -/
def CF (ci : Nat) (Cn : String) (T : u_T) (N : Nat) (ty0 : Nat → FieldType) : Prop := vwCl[ci]? = some (Cn, T, N) ∧ (∀ w ∈ u_ws Cn T N, w ∈ WS) ∧ (∀ k, k < N → parseFieldDescriptor (T k).2.2.1 = some (ty0 k)) ∧ (∀ a, a < N → ∀ b, b < N → a ≠ b → (T a).2.1 ≠ (T b).2.1)
def FSame (ref : String) (T : u_T) (kf : Nat) : Prop := ∀ (s : State) (args : Array Value), (∀ w ∈ WS, w.before args s = true) → ∀ y, s.fieldFound? (T kf).1 (T kf).2.1 (T kf).2.2.1 = some y → s.fieldFound? ref (T kf).2.1 (T kf).2.2.1 = some y
theorem fsame_rf {T : u_T} {kf : Nat} {ref : String} (h : (T kf).1 = ref) : FSame ref T kf := fun _ _ _ _ hy => h ▸ hy
def FL (own : String) (idx ci kf : Nat) (Cn : String) (T : u_T) (N : Nat) (ty0 : Nat → FieldType) : Prop := CF ci Cn T N ty0 ∧ kf < N ∧ ∃ ref : String, FSame ref T kf ∧ (Cond.fieldLink own idx ref (T kf).2.1 (T kf).2.2.1 ∈ WS ∨ ∃ host, Cond.fieldLinkNest own idx ref (T kf).2.1 (T kf).2.2.1 host ∈ WS)
theorem FL.of {own : String} {idx ci kf : Nat} {Cn : String} {T : u_T} {N : Nat} {ty0 : Nat → FieldType} (ref : String) (h : CF ci Cn T N ty0) (hk : kf < N) (hs : FSame ref T kf) (hw : Cond.fieldLink own idx ref (T kf).2.1 (T kf).2.2.1 ∈ WS) : FL own idx ci kf Cn T N ty0 := ⟨h, hk, ref, hs, Or.inl hw⟩
theorem FL.ofN {own : String} {idx ci kf : Nat} {Cn : String} {T : u_T} {N : Nat} {ty0 : Nat → FieldType} (ref host : String) (h : CF ci Cn T N ty0) (hk : kf < N) (hs : FSame ref T kf) (hw : Cond.fieldLinkNest own idx ref (T kf).2.1 (T kf).2.2.1 host ∈ WS) : FL own idx ci kf Cn T N ty0 := ⟨h, hk, ref, hs, Or.inr ⟨host, hw⟩⟩
/-- a method's end: what is answered, or what is thrown -/
def QC (g : Gx) (P : Option Value → Sg → Prop) : Array Value → State → Outcome → State → Prop := fun _ st o t => (∃ v sg', o = .returned v ∧ P v sg' ∧ Sats g sg' t) ∧ va_F g.A st t
def QX (g : Gx) (PX : String → Sg → Prop) : String → State → State → Prop := fun E st t => (∃ sg', PX E sg' ∧ Sats g sg' t) ∧ va_F g.A st t
def RQ (x : Cx) (P : Option Value → Sg → Prop) (PX : String → Sg → Prop) (mc ms : Nat) : State → Prop := vx_MQ x.below (QC x.g P) (QX x.g PX) x.args x.s mc ms x.g.A
def PreC (g : Gx) (sg : Sg) (As : List Value) : Array Value → State → Prop := va_Pc As (fun U => Env0 g U ∧ Sats g sg U)
/-- a method's contract over stores -/
def MM (g : Gx) (l : Launch) (y : MethodName) (bytes : ByteArray) (maxL : Nat) (ret : Option FieldType) (rm : Room) (sg : Sg) (As : List Value) (P : Option Value → Sg → Prop) (PX : String → Sg → Prop) : Prop :=
  vx_Met l y (Cond.code y bytes maxL ret :: WS) rm (PreC g sg As) (QC g P) (QX g PX) rm.cells rm.slots g.A
def noX : String → Sg → Prop := fun _ _ => False
theorem Env0.moved {g : Gx} {u U : State} {H0 : Heap} {locs : List Loc} (hst : g.Stable) (h : Env0 g u) (hW : u.WarmedH U.vm) (hS : va_S g.A u.heap U.heap locs) : Env0 g U :=
  ⟨va_K.moved hW.alike h.1, Nat.le_trans h.2.1 hS.1, hst u U hW (fun q hq => hS.2.1 q (Nat.lt_of_lt_of_le hq h.2.1) (Nat.not_le.mpr hq)) h.2.1 (Nat.le_trans h.2.1 hS.1) h.2.2⟩
theorem preC_blind {g : Gx} {sg : Sg} {As : List Value} (hst : g.Stable) : FrameBlind (PreC g sg As) := by
  intro a U gg mk h
  obtain ⟨h1, h2, h3⟩ := h
  refine ⟨h1, ?_, h3⟩
  exact ⟨va_K.moved (u := U) (U := U.calling gg mk a) (Vm.Alike.refl U.vm) h2.1, h2.2.1, hst U (U.calling gg mk a) (State.WarmedH.refl U) (fun _ _ => rfl) h2.2.1 h2.2.1 h2.2.2⟩
section AWH
variable {x : Cx} {Q : State → Prop} {k n : Nat} {sg : Sg} {pc : Nat} {ls : List (Nat × Value)} {st : List Value} {cc : ByteArray} {nL : Nat} {own : String} {R : Room} {ret : Option FieldType} {pc' : Nat}
theorem aw_getf {idx ci kf : Nat} {Cn : String} {T : u_T} {N : Nat} {ty0 : Nat → FieldType} {a : Nat} {fs : List Value} {v : Value} (C : AWC x cc nL own R ret) (F : FL own idx ci kf Cn T N ty0) (hs : sg a = some (ob ci fs)) (hv : fs[kf]? = some v) (hdg : decode cc pc = .ok (.getfield idx, 3)) (hpc : pc + 3 = pc') (kk : AW x Q k n sg pc' ls (v :: st)) : AW x Q k n sg pc ls (.ref a :: st) := by
  subst hpc
  intro H locs la ws h1 h2 h3
  obtain ⟨⟨hc, hin, -, -⟩, hk, ref, hsame, hl⟩ := F
  obtain ⟨q0, hq⟩ := h1.at hs
  rcases hl with hl | ⟨host, hl⟩
  · exact va_get C.hx C.hb C.hts hin C.hown C.env.1 h1.1 q0 hq hc kf hk (C.hts _ hl) (hsame _ _ C.hts) hv hdg (kk H locs la ws h1 h2 h3)
  · exact va_getN C.hx C.hb C.hts hin C.hown C.env.1 h1.1 q0 hq hc kf hk (C.hts _ hl) (hsame _ _ C.hts) hv hdg (kk H locs la ws h1 h2 h3)
theorem aw_putf {idx ci kf : Nat} {Cn : String} {T : u_T} {N : Nat} {ty0 : Nat → FieldType} {a : Nat} {fs fs' : List Value} {v : Value} (C : AWC x cc nL own R ret) (F : FL own idx ci kf Cn T N ty0) (hf : (T kf).2.2.2 = false) (hs : sg a = some (ob ci fs)) (hn : narrow (ty0 kf) v = v) (hfit : fits (ty0 kf) v = true) (hl : kf < fs.length) (hfs : fs.set kf v = fs') (hdg : decode cc pc = .ok (.putfield idx, 3)) (hpc : pc + 3 = pc') (kk : AW x Q k n (sgu sg a (ob ci fs')) pc' ls st) : AW x Q k n sg pc ls (v :: .ref a :: st) := by
  subst hpc
  subst hfs
  intro H locs la ws h1 h2 h3
  obtain ⟨⟨hc, hin, hty, hnm⟩, hk, ref, hsame, hlk⟩ := F
  obtain ⟨q0, hq⟩ := h1.at hs
  rcases hlk with hlk | ⟨host, hlk⟩
  · exact va_put C.hx C.hb C.hts hin ty0 hty hnm C.hown C.env.1 h1.1 h1.2.1 h2 q0 hq hc kf hk (C.hts _ hlk) (hsame _ _ C.hts) hf (hty kf hk) hn hfit hl hdg (fun H1 l1 p1 d1 s1 => kk H1 l1 la _ (h1.set hq p1 d1) s1 h3)
  · exact va_putN C.hx C.hb C.hts hin ty0 hty hnm C.hown C.env.1 h1.1 h1.2.1 h2 q0 hq hc kf hk (C.hts _ hlk) (hsame _ _ C.hts) hf (hty kf hk) hn hfit hl hdg (fun H1 l1 p1 d1 s1 => kk H1 l1 la _ (h1.set hq p1 d1) s1 h3)
/-- a final field, in the constructor of its class -/
theorem aw_putF {idx ci kf : Nat} {Cn : String} {T : u_T} {N : Nat} {ty0 : Nat → FieldType} {a : Nat} {fs fs' : List Value} {v : Value} (C : AWC x cc nL own R ret) (hinit : x.meth.name = "<init>") (h : CF ci Cn T N ty0) (hk : kf < N) (hw : Cond.fieldLink own idx own (T kf).2.1 (T kf).2.2.1 ∈ WS) (hf : (T kf).2.2.2 = true) (hd : (T kf).1 = own) (hs : sg a = some (ob ci fs)) (hn : narrow (ty0 kf) v = v) (hfit : fits (ty0 kf) v = true) (hl : kf < fs.length) (hfs : fs.set kf v = fs') (hdg : decode cc pc = .ok (.putfield idx, 3)) (hpc : pc + 3 = pc') (kk : AW x Q k n (sgu sg a (ob ci fs')) pc' ls st) : AW x Q k n sg pc ls (v :: .ref a :: st) := by
  subst hpc
  subst hfs
  intro H locs la ws h1 h2 h3
  obtain ⟨hc, hin, hty, hnm⟩ := h
  obtain ⟨q0, hq⟩ := h1.at hs
  exact va_putF C.hx C.hb C.hts hin ty0 hty hnm C.hown C.env.1 h1.1 h1.2.1 h2 q0 hq hc kf hk (C.hts _ hw) (fun y hy => hd ▸ hy) hf hinit hd (hty kf hk) hn hfit hl hdg (fun H1 l1 p1 d1 s1 => kk H1 l1 la _ (h1.set hq p1 d1) s1 h3)
theorem aw_iald {a N : Nat} {f : Nat → Int32} {i : Int32} (C : AWC x cc nL own R ret) (hs : sg a = some (arI x.g N f)) (hi : vp_in i N) (hdg : decode cc pc = .ok (.iaload, 1)) (hpc : pc + 1 = pc') (kk : AW x Q k n sg pc' ls (.int (f i.toNatClampNeg) :: st)) : AW x Q k n sg pc ls (.int i :: .ref a :: st) := by
  subst hpc
  intro H locs la ws h1 h2 h3
  obtain ⟨q0, hq⟩ := h1.at hs
  exact va_iald C.hx C.hb C.env.1 h1.1 q0 0 hq rfl hi hdg (kk H locs la ws h1 h2 h3)
theorem aw_lald {a N : Nat} {f : Nat → Int64} {i : Int32} (C : AWC x cc nL own R ret) (hs : sg a = some (arJ x.g N f)) (hi : vp_in i N) (hdg : decode cc pc = .ok (.laload, 1)) (hpc : pc + 1 = pc') (kk : AW x Q k n sg pc' ls (.long (f i.toNatClampNeg) :: st)) : AW x Q k n sg pc ls (.int i :: .ref a :: st) := by
  subst hpc
  intro H locs la ws h1 h2 h3
  obtain ⟨q0, hq⟩ := h1.at hs
  exact va_lald C.hx C.hb C.env.1 h1.1 q0 2 hq rfl hi hdg (kk H locs la ws h1 h2 h3)
theorem aw_aald {a N : Nat} {f : Nat → Option Nat} {i : Int32} (C : AWC x cc nL own R ret) (hs : sg a = some (arO x.g N f)) (hi : vp_in i N) (hdg : decode cc pc = .ok (.aaload, 1)) (hpc : pc + 1 = pc') (kk : AW x Q k n sg pc' ls (va_rf (f i.toNatClampNeg) :: st)) : AW x Q k n sg pc ls (.int i :: .ref a :: st) := by
  subst hpc
  intro H locs la ws h1 h2 h3
  obtain ⟨q0, hq⟩ := h1.at hs
  exact va_aldq C.hx C.hb C.env.1 h1.1 q0 3 hq rfl hi hdg (kk H locs la ws h1 h2 h3)
theorem aw_iast {a N : Nat} {f : Nat → Int32} {i v : Int32} (C : AWC x cc nL own R ret) (hs : sg a = some (arI x.g N f)) (hi : vp_in i N) (hdg : decode cc pc = .ok (.iastore, 1)) (hpc : pc + 1 = pc') (kk : AW x Q k n (sgu sg a (arI x.g N (upd f i.toNatClampNeg v))) pc' ls st) : AW x Q k n sg pc ls (.int v :: .int i :: .ref a :: st) := by
  subst hpc
  intro H locs la ws h1 h2 h3
  obtain ⟨q0, hq⟩ := h1.at hs
  exact va_iast C.hx C.hb C.env.1 h1.1 h1.2.1 h2 q0 0 hq rfl hi hdg (fun H1 l1 p1 d1 s1 => kk H1 l1 la _ (h1.set hq p1 d1) s1 h3)
theorem aw_last {a N : Nat} {f : Nat → Int64} {i : Int32} {v : Int64} (C : AWC x cc nL own R ret) (hs : sg a = some (arJ x.g N f)) (hi : vp_in i N) (hdg : decode cc pc = .ok (.lastore, 1)) (hpc : pc + 1 = pc') (kk : AW x Q k n (sgu sg a (arJ x.g N (vp_updL f i.toNatClampNeg v))) pc' ls st) : AW x Q k n sg pc ls (.long v :: .int i :: .ref a :: st) := by
  subst hpc
  intro H locs la ws h1 h2 h3
  obtain ⟨q0, hq⟩ := h1.at hs
  exact va_last C.hx C.hb C.env.1 h1.1 h1.2.1 h2 q0 2 hq rfl hi hdg (fun H1 l1 p1 d1 s1 => kk H1 l1 la _ (h1.set hq p1 d1) s1 h3)
theorem aw_alenI {a N : Nat} {f : Nat → Int32} (C : AWC x cc nL own R ret) (hs : sg a = some (arI x.g N f)) (hdg : decode cc pc = .ok (.arraylength, 1)) (hpc : pc + 1 = pc') (kk : AW x Q k n sg pc' ls (.int (nI N) :: st)) : AW x Q k n sg pc ls (.ref a :: st) := by
  subst hpc
  intro H locs la ws h1 h2 h3
  obtain ⟨q0, hq⟩ := h1.at hs
  exact va_alen C.hx C.hb C.env.1 h1.1 q0 0 hq rfl rfl hdg (kk H locs la ws h1 h2 h3)
theorem aw_alenO {a N : Nat} {f : Nat → Option Nat} (C : AWC x cc nL own R ret) (hs : sg a = some (arO x.g N f)) (hdg : decode cc pc = .ok (.arraylength, 1)) (hpc : pc + 1 = pc') (kk : AW x Q k n sg pc' ls (.int (nI N) :: st)) : AW x Q k n sg pc ls (.ref a :: st) := by
  subst hpc
  intro H locs la ws h1 h2 h3
  obtain ⟨q0, hq⟩ := h1.at hs
  exact va_alen C.hx C.hb C.env.1 h1.1 q0 3 hq rfl rfl hdg (kk H locs la ws h1 h2 h3)
theorem aw_alenB {a N : Nat} {f : Nat → Int32} (C : AWC x cc nL own R ret) (hs : sg a = some (arB x.g N f)) (hdg : decode cc pc = .ok (.arraylength, 1)) (hpc : pc + 1 = pc') (kk : AW x Q k n sg pc' ls (.int (nI N) :: st)) : AW x Q k n sg pc ls (.ref a :: st) := by
  subst hpc
  intro H locs la ws h1 h2 h3
  obtain ⟨q0, hq⟩ := h1.at hs
  exact va_alen C.hx C.hb C.env.1 h1.1 q0 4 hq rfl rfl hdg (kk H locs la ws h1 h2 h3)
theorem aw_new {idx ci : Nat} {Cn : String} {T : u_T} {N : Nat} {ty0 : Nat → FieldType} {fs : List Value} (C : AWC x cc nL own R ret) (h : CF ci Cn T N ty0) (hcl : Cond.classLink own idx Cn ∈ WS) (hinst : Cond.instantiable Cn N ∈ WS) (hini : Cond.initialized Cn ∈ WS) (hfs : ∀ j, j < N → defaultValue (ty0 j) = vp_V fs j) (hcells : k + 1 ≤ R.cells) (hslots : n + N ≤ R.slots) (hdg : decode cc pc = .ok (.new idx, 3)) (hpc : pc + 3 = pc') (kk : ∀ q, sg q = none → AW x Q (k + 1) (n + N) (sgu sg q (ob ci fs)) pc' ls (.ref q :: st)) : AW x Q k n sg pc ls st := by
  subst hpc
  intro H locs la ws h1 h2 h3
  obtain ⟨hc, hin, hty, hnm⟩ := h
  refine va_new C.hx C.hb C.hts hin ty0 hty C.hown (C.hts _ hcl) (C.hts _ hinst) (C.hts _ hini) C.env.1 h1.1 h1.2.1 h2 (fun q hq => Nat.le_trans C.env.2.1 hq) hc hfs (by rw [C.room]; exact hcells) (by rw [C.room]; exact hslots) hdg (fun q H1 p1 d1 s1 => ?_)
  obtain ⟨hn, hp⟩ := h1.push p1 d1
  exact kk q hn H1 locs la _ hp s1 h3
theorem aw_newarr {t0 : Nat} {atype : ArrayType} {ty : FieldType} {cA0 : ClassId} {i : Int32} {N : Nat} {a0 : vp_A} (C : AWC x cc nL own R ret) (harr : Cond.arrayClass (newarray.typeOf atype) ∈ WS) (hty : newarray.typeOf atype = ty) (ht : x.g.tys[t0]? = some (cA0, ty)) (hb : ∀ o, ty ≠ .object o) (ha : ∀ cA : ClassId, vp_cell cA a0 = arrV cA N (fun _ => defaultValue ty)) (hn : ¬ i < 0) (hN : i.toNatClampNeg = N) (hbytes : N * componentBytes ty ≤ 536870912) (hcells : k + 1 ≤ R.cells) (hslots : n + N ≤ R.slots) (hdg : decode cc pc = .ok (.newarray atype, 2)) (hpc : pc + 2 = pc') (kk : ∀ q, sg q = none → AW x Q (k + 1) (n + N) (sgu sg q (.inl (cA0, a0))) pc' ls (.ref q :: st)) : AW x Q k n sg pc ls (.int i :: st) := by
  subst hpc
  intro H locs la ws h1 h2 h3
  refine va_newa C.hx C.hb (C.hts _ harr) hty C.env.1 h1.1 h1.2.1 h2 (fun q hq => Nat.le_trans C.env.2.1 hq) ha hn hN hbytes (by rw [C.room]; exact hcells) (by rw [C.room]; exact hslots) hdg (fun q cA H1 k1 p1 d1 s1 => ?_)
  have e1 : va_RA x.s cA ty := (k1.2 x.g.tys.length (cA, ty) (by rw [List.getElem?_append_right (Nat.le_refl _), Nat.sub_self]; rfl)).2
  have e2 : va_RA x.s cA0 ty := (C.env.1.2 t0 (cA0, ty) ht).2
  have e3 : cA = cA0 := by
    cases ty with
    | object o => exact absurd rfl (hb o)
    | _ => exact Option.some.inj (Eq.trans (Eq.symm e1) e2)
  subst e3
  obtain ⟨hn, hp⟩ := h1.push p1 d1
  exact kk q hn H1 locs la _ hp s1 h3
/-! ends -/
theorem aw_iret {P : Option Value → Sg → Prop} {PX : String → Sg → Prop} {mc ms : Nat} {ty : FieldType} {v : Int32} (C : AWC x cc nL own R (some ty)) (hn : narrow ty (.int v) = .int v) (hc : k ≤ mc) (hsl : n ≤ ms) (hP : P (some (.int v)) sg) (hdg : decode cc pc = .ok (.ireturn, 1)) : AW x (RQ x P PX mc ms) k n sg pc ls [.int v] := by
  refine aw_widen hc hsl fun H locs la ws h1 h2 h3 => vx_ret ?_
  exact W.zret C.hx C.hb C.hr hn (fun t ht hw => ⟨⟨_, _, rfl, hP, ws, by rw [ht]; exact h1⟩, h2.F ht⟩) h2.2.2 hdg C.hlk
theorem aw_lret {P : Option Value → Sg → Prop} {PX : String → Sg → Prop} {mc ms : Nat} {v : Int64} (C : AWC x cc nL own R (some .long)) (hc : k ≤ mc) (hsl : n ≤ ms) (hP : P (some (.long v)) sg) (hdg : decode cc pc = .ok (.lreturn, 1)) : AW x (RQ x P PX mc ms) k n sg pc ls [.long v] := by
  refine aw_widen hc hsl fun H locs la ws h1 h2 h3 => vx_ret ?_
  exact W.lret C.hx C.hb C.hr (fun t ht hw => ⟨⟨_, _, rfl, hP, ws, by rw [ht]; exact h1⟩, h2.F ht⟩) h2.2.2 hdg C.hlk
theorem aw_vret {P : Option Value → Sg → Prop} {PX : String → Sg → Prop} {mc ms : Nat} (C : AWC x cc nL own R none) (hc : k ≤ mc) (hsl : n ≤ ms) (hP : P none sg) (hdg : decode cc pc = .ok (.return_, 1)) : AW x (RQ x P PX mc ms) k n sg pc ls [] := by
  refine aw_widen hc hsl fun H locs la ws h1 h2 h3 => vx_ret ?_
  exact W.vret C.hx C.hb C.hr (fun t ht hw => ⟨⟨_, _, rfl, hP, ws, by rw [ht]; exact h1⟩, h2.F ht⟩) h2.2.2 hdg C.hlk
theorem aw_aret {P : Option Value → Sg → Prop} {PX : String → Sg → Prop} {mc ms : Nat} {ty : FieldType} {r : Option Nat} (C : AWC x cc nL own R (some ty)) (hty : (∃ o, ty = .object o) ∨ ∃ t, ty = .array t) (hc : k ≤ mc) (hsl : n ≤ ms) (hP : P (some (va_rf r)) sg) (hdg : decode cc pc = .ok (.areturn, 1)) : AW x (RQ x P PX mc ms) k n sg pc ls [va_rf r] := by
  refine aw_widen hc hsl fun H locs la ws h1 h2 h3 => vx_ret ?_
  exact W.aret C.hx C.hb C.hr hty (va_rf_or r) (fun t ht hw => ⟨⟨_, _, rfl, hP, ws, by rw [ht]; exact h1⟩, h2.F ht⟩) h2.2.2 hdg C.hlk
/-! calls -/
theorem aw_run {a : Array Value} {mc ms : Nat} {st0 rest : List Value} {P : Option Value → Sg → Prop} {PX : String → Sg → Prop} (hr : ∀ H locs la ws, Sat x.g sg H ws → va_S x.g.A x.s.heap H locs → lv_has la x.c.maxLocals ls → vx_Run x.p x.l x.e x.R x.s x.m x.args x.below x.meth x.c H locs k n mc ms (F0 x.m pc la st0) rest (QC x.g P a) (QX x.g PX) x.g.A) (hpc : pc + 3 = pc')
    (kx : ∀ E sg', PX E sg' → AX x Q (k + mc) (n + ms) sg' pc ls E) (kk : ∀ v sg', P v sg' → AW x Q (k + mc) (n + ms) sg' pc' ls (v.toList ++ rest)) : AW x Q k n sg pc ls st0 := by
  subst hpc
  intro H locs la ws h1 h2 h3 T hT X
  rcases hr H locs la ws h1 h2 h3 T hT X with ⟨v, st₀, t, T', L, h0, X', hL, e1, e2, ⟨⟨v', sg', hv, hp, ws', hb⟩, hF⟩, stp⟩ | ⟨q, st₀, t, T', L, E, ce, h0, X', hL, e1, e2, ⟨⟨sg', hp, ws', hb⟩, hF⟩, hce, hcv, hcl, stp⟩
  · cases hv
    obtain ⟨k1, k2, k3⟩ := vx_keep h0 e1 h2 (fun q _ h => h) (fun q h => h) hL hF
    obtain ⟨t2, a1, b1⟩ := kk v sg' hp T'.heap (locs ++ L) la ws' (by rw [e1]; exact hb) k3 h3 T' rfl X'
    exact ⟨t2, stp t2 a1, b1⟩
  · obtain ⟨k1, k2, k3⟩ := vx_keep h0 e1 h2 (fun q _ h => h) (fun q h => h) hL hF
    obtain ⟨t2, a1, b1⟩ := kx E sg' hp T'.heap (locs ++ L) la ws' q ce rest (by rw [e1]; exact hb) k3 h3 (by rw [e1]; exact hce) hcv hcl T' rfl X'
    exact ⟨t2, stp.trans a1, b1⟩
end AWH
/-- what a call's place in the code gives -/
def KB (own : String) (idx : Nat) (y : MethodName) (bytes : ByteArray) (maxL : Nat) (ret : Option FieldType) (np : Nat) : Prop := Cond.code y bytes maxL ret ∈ WS ∧ Cond.initialized y.cls ∈ WS ∧ ((y.cls ≠ "java/lang/invoke/MethodHandle" ∧ y.cls ≠ "java/lang/invoke/VarHandle") ∧ (parseMethodDescriptor y.desc).map (fun d => d.parameters.length) = some np)
def KV (own : String) (idx : Nat) (y : MethodName) (bytes : ByteArray) (maxL : Nat) (ret : Option FieldType) (np : Nat) : Prop := KB own idx y bytes maxL ret np ∧ Cond.methodLink own idx y ∈ WS ∧ Cond.instanceMethod y ∈ WS ∧ Cond.selects y.cls y y ∈ WS
def KVN (own : String) (idx : Nat) (y : MethodName) (bytes : ByteArray) (maxL : Nat) (ret : Option FieldType) (np : Nat) : Prop := KB own idx y bytes maxL ret np ∧ (∃ host, Cond.methodLinkNest own idx y host ∈ WS) ∧ Cond.instanceMethod y ∈ WS ∧ Cond.selects y.cls y y ∈ WS
def KS (own : String) (idx : Nat) (y : MethodName) (bytes : ByteArray) (maxL : Nat) (ret : Option FieldType) (np : Nat) : Prop := KB own idx y bytes maxL ret np ∧ Cond.methodLink own idx y ∈ WS ∧ Cond.static y ∈ WS
def KSN (own : String) (idx : Nat) (y : MethodName) (bytes : ByteArray) (maxL : Nat) (ret : Option FieldType) (np : Nat) : Prop := KB own idx y bytes maxL ret np ∧ (∃ host, Cond.methodLinkNest own idx y host ∈ WS) ∧ Cond.static y ∈ WS
def KI (own : String) (idx : Nat) (y : MethodName) (bytes : ByteArray) (maxL : Nat) (np : Nat) : Prop := KB own idx y bytes maxL none np ∧ Cond.methodLink own idx y ∈ WS ∧ y.name = "<init>" ∧ Cond.instanceMethod y ∈ WS
def KIN (own : String) (idx : Nat) (y : MethodName) (bytes : ByteArray) (maxL : Nat) (np : Nat) : Prop := KB own idx y bytes maxL none np ∧ (∃ host, Cond.methodLinkNest own idx y host ∈ WS) ∧ y.name = "<init>" ∧ Cond.instanceMethod y ∈ WS
def RmOk (rm R : Room) (maxL : Nat) : Prop := rm.frames + 1 ≤ R.frames ∧ 8 + (maxL + 11) + rm.locals ≤ R.locals
section AWCall
variable {x : Cx} {Q : State → Prop} {k n : Nat} {sg : Sg} {pc : Nat} {ls : List (Nat × Value)} {st : List Value} {cc : ByteArray} {nL : Nat} {own : String} {R : Room} {ret : Option FieldType} {pc' : Nat}
variable {idx np maxL : Nat} {y : MethodName} {bytes : ByteArray} {rt : Option FieldType} {rm : Room} {As : List Value} {P : Option Value → Sg → Prop} {PX : String → Sg → Prop} {st0 : List Value} {b ci : Nat} {fs : List Value} {T : u_T} {N : Nat}
theorem aw_callB (C : AWC x cc nL own R ret) (L : KB own idx y bytes maxL rt np) (hl : Cond.methodLink own idx y ∈ WS) (hR : RmOk rm R maxL) : CallB x.R x.s x.args own idx y bytes maxL rt (Cond.code y bytes maxL rt :: WS) rm rm.cells rm.slots np :=
  ⟨rfl, rfl, by rw [C.room]; exact hR.1, by rw [C.room]; exact hR.2, ws_pay C.hts L.1, List.mem_cons_self, C.hts _ L.1, C.hts _ L.2.1, L.2.2.1, fun sig hs => (by have h := L.2.2.2; rw [hs] at h; exact (Option.some.inj h).symm), C.hts _ hl⟩
theorem aw_callN {host : String} (C : AWC x cc nL own R ret) (L : KB own idx y bytes maxL rt np) (hl : Cond.methodLinkNest own idx y host ∈ WS) (hR : RmOk rm R maxL) : va_CN x.R x.s x.args own idx y host bytes maxL rt (Cond.code y bytes maxL rt :: WS) rm rm.cells rm.slots np :=
  ⟨⟨rfl, rfl, by rw [C.room]; exact hR.1, by rw [C.room]; exact hR.2, ws_pay C.hts L.1, List.mem_cons_self⟩, C.hts _ L.1, C.hts _ L.2.1, L.2.2.1, fun sig hs => (by have h := L.2.2.2; rw [hs] at h; exact (Option.some.inj h).symm), C.hts _ hl⟩
theorem aw_pre (C : AWC x cc nL own R ret) {H : Heap} {locs : List Loc} {ws : va_W} (h1 : Sat x.g sg H ws) (h2 : va_S x.g.A x.s.heap H locs) : ∀ U : State, U.heap = H → x.s.WarmedH U.vm → PreC x.g sg As As.toArray U := by
  intro U hU hW
  subst hU
  exact ⟨rfl, Env0.moved (H0 := x.s.heap) C.stab C.env hW h2, ws, h1⟩
theorem aw_callV (C : AWC x cc nL own R ret) (L : KV own idx y bytes maxL rt np) (hM : MM x.g x.l y bytes maxL rt rm sg (.ref b :: As) P PX) (hR : RmOk rm R maxL) (hci : vwCl[ci]? = some (y.cls, T, N)) (hs : sg b = some (ob ci fs)) (hn : As.length = np) (hst : st0 = As.reverse ++ .ref b :: st) (hW : (st.map fun v => v.category).sum ≤ 8) (hc : k + rm.cells ≤ R.cells) (hsl : n + rm.slots ≤ R.slots) (hdg : decode cc pc = .ok (.invokevirtual idx, 3)) (hpc : pc + 3 = pc')
    (kx : ∀ E sg', PX E sg' → AX x Q (k + rm.cells) (n + rm.slots) sg' pc ls E) (kk : ∀ v sg', P v sg' → AW x Q (k + rm.cells) (n + rm.slots) sg' pc' ls (v.toList ++ st)) : AW x Q k n sg pc ls st0 := by
  refine aw_run (a := (Value.ref b :: As).toArray) (rest := st) (fun H locs la ws h1 h2 h3 => ?_) hpc kx kk
  obtain ⟨q0, hq⟩ := h1.at hs
  exact vx_runV (Ts := WS) ⟨C.hx, C.hb, C.hml, C.hown, C.hts⟩ hM ⟨aw_callB C L.1 L.2.1 hR, C.hts _ L.2.2.1, C.hts _ L.2.2.2⟩ ⟨preC_blind C.stab, va_recv C.env.1 h1.1 hci hq, aw_pre C h1 h2⟩ rfl hn (by rw [← C.hml]; exact h3.1) hst (lv_room hW) hdg (by rw [C.room]; exact ⟨hc, hsl⟩)
theorem aw_callVN (C : AWC x cc nL own R ret) (L : KVN own idx y bytes maxL rt np) (hM : MM x.g x.l y bytes maxL rt rm sg (.ref b :: As) P PX) (hR : RmOk rm R maxL) (hci : vwCl[ci]? = some (y.cls, T, N)) (hs : sg b = some (ob ci fs)) (hn : As.length = np) (hst : st0 = As.reverse ++ .ref b :: st) (hW : (st.map fun v => v.category).sum ≤ 8) (hc : k + rm.cells ≤ R.cells) (hsl : n + rm.slots ≤ R.slots) (hdg : decode cc pc = .ok (.invokevirtual idx, 3)) (hpc : pc + 3 = pc')
    (kx : ∀ E sg', PX E sg' → AX x Q (k + rm.cells) (n + rm.slots) sg' pc ls E) (kk : ∀ v sg', P v sg' → AW x Q (k + rm.cells) (n + rm.slots) sg' pc' ls (v.toList ++ st)) : AW x Q k n sg pc ls st0 := by
  refine aw_run (a := (Value.ref b :: As).toArray) (rest := st) (fun H locs la ws h1 h2 h3 => ?_) hpc kx kk
  obtain ⟨q0, hq⟩ := h1.at hs
  obtain ⟨L1, ⟨host, L2⟩, L3, L4⟩ := L
  exact vx_runVN (Ts := WS) ⟨C.hx, C.hb, C.hml, C.hown, C.hts⟩ hM ⟨aw_callN C L1 L2 hR, C.hts _ L3, C.hts _ L4⟩ ⟨preC_blind C.stab, va_recv C.env.1 h1.1 hci hq, aw_pre C h1 h2⟩ rfl hn (by rw [← C.hml]; exact h3.1) hst (lv_room hW) hdg (by rw [C.room]; exact ⟨hc, hsl⟩)
theorem aw_callS (C : AWC x cc nL own R ret) (L : KS own idx y bytes maxL rt np) (hM : MM x.g x.l y bytes maxL rt rm sg As P PX) (hR : RmOk rm R maxL) (hn : As.length = np) (hst : st0 = As.reverse ++ st) (hW : (st.map fun v => v.category).sum ≤ 8) (hc : k + rm.cells ≤ R.cells) (hsl : n + rm.slots ≤ R.slots) (hdg : decode cc pc = .ok (.invokestatic idx, 3)) (hpc : pc + 3 = pc')
    (kx : ∀ E sg', PX E sg' → AX x Q (k + rm.cells) (n + rm.slots) sg' pc ls E) (kk : ∀ v sg', P v sg' → AW x Q (k + rm.cells) (n + rm.slots) sg' pc' ls (v.toList ++ st)) : AW x Q k n sg pc ls st0 := by
  refine aw_run (a := As.toArray) (rest := st) (fun H locs la ws h1 h2 h3 => ?_) hpc kx kk
  exact vx_runS (Ts := WS) ⟨C.hx, C.hb, C.hml, C.hown, C.hts⟩ hM ⟨aw_callB C L.1 L.2.1 hR, C.hts _ L.2.2⟩ ⟨preC_blind C.stab, aw_pre C h1 h2⟩ rfl hn (by rw [← C.hml]; exact h3.1) hst (lv_room hW) hdg (by rw [C.room]; exact ⟨hc, hsl⟩)
theorem aw_callSN (C : AWC x cc nL own R ret) (L : KSN own idx y bytes maxL rt np) (hM : MM x.g x.l y bytes maxL rt rm sg As P PX) (hR : RmOk rm R maxL) (hn : As.length = np) (hst : st0 = As.reverse ++ st) (hW : (st.map fun v => v.category).sum ≤ 8) (hc : k + rm.cells ≤ R.cells) (hsl : n + rm.slots ≤ R.slots) (hdg : decode cc pc = .ok (.invokestatic idx, 3)) (hpc : pc + 3 = pc')
    (kx : ∀ E sg', PX E sg' → AX x Q (k + rm.cells) (n + rm.slots) sg' pc ls E) (kk : ∀ v sg', P v sg' → AW x Q (k + rm.cells) (n + rm.slots) sg' pc' ls (v.toList ++ st)) : AW x Q k n sg pc ls st0 := by
  refine aw_run (a := As.toArray) (rest := st) (fun H locs la ws h1 h2 h3 => ?_) hpc kx kk
  obtain ⟨L1, ⟨host, L2⟩, L3⟩ := L
  exact vx_runSN (Ts := WS) ⟨C.hx, C.hb, C.hml, C.hown, C.hts⟩ hM ⟨aw_callN C L1 L2 hR, C.hts _ L3, trivial⟩ ⟨preC_blind C.stab, aw_pre C h1 h2⟩ rfl hn (by rw [← C.hml]; exact h3.1) hst (lv_room hW) hdg (by rw [C.room]; exact ⟨hc, hsl⟩)
theorem aw_callI (C : AWC x cc nL own R ret) (L : KI own idx y bytes maxL np) (hM : MM x.g x.l y bytes maxL none rm sg (.ref b :: As) P PX) (hR : RmOk rm R maxL) (hn : As.length = np) (hst : st0 = As.reverse ++ .ref b :: st) (hW : (st.map fun v => v.category).sum ≤ 8) (hc : k + rm.cells ≤ R.cells) (hsl : n + rm.slots ≤ R.slots) (hdg : decode cc pc = .ok (.invokespecial idx, 3)) (hpc : pc + 3 = pc')
    (kx : ∀ E sg', PX E sg' → AX x Q (k + rm.cells) (n + rm.slots) sg' pc ls E) (kk : ∀ v sg', P v sg' → AW x Q (k + rm.cells) (n + rm.slots) sg' pc' ls (v.toList ++ st)) : AW x Q k n sg pc ls st0 := by
  refine aw_run (a := (Value.ref b :: As).toArray) (rest := st) (fun H locs la ws h1 h2 h3 => ?_) hpc kx kk
  exact vx_runI (Ts := WS) ⟨C.hx, C.hb, C.hml, C.hown, C.hts⟩ hM ⟨aw_callB C L.1 L.2.1 hR, L.2.2.1, C.hts _ L.2.2.2⟩ ⟨preC_blind C.stab, aw_pre C h1 h2⟩ rfl hn (by rw [← C.hml]; exact h3.1) hst (lv_room hW) hdg (by rw [C.room]; exact ⟨hc, hsl⟩)
theorem aw_callIN (C : AWC x cc nL own R ret) (L : KIN own idx y bytes maxL np) (hM : MM x.g x.l y bytes maxL none rm sg (.ref b :: As) P PX) (hR : RmOk rm R maxL) (hn : As.length = np) (hst : st0 = As.reverse ++ .ref b :: st) (hW : (st.map fun v => v.category).sum ≤ 8) (hc : k + rm.cells ≤ R.cells) (hsl : n + rm.slots ≤ R.slots) (hdg : decode cc pc = .ok (.invokespecial idx, 3)) (hpc : pc + 3 = pc')
    (kx : ∀ E sg', PX E sg' → AX x Q (k + rm.cells) (n + rm.slots) sg' pc ls E) (kk : ∀ v sg', P v sg' → AW x Q (k + rm.cells) (n + rm.slots) sg' pc' ls (v.toList ++ st)) : AW x Q k n sg pc ls st0 := by
  refine aw_run (a := (Value.ref b :: As).toArray) (rest := st) (fun H locs la ws h1 h2 h3 => ?_) hpc kx kk
  obtain ⟨L1, ⟨host, L2⟩, L3, L4⟩ := L
  exact vx_runIN (Ts := WS) ⟨C.hx, C.hb, C.hml, C.hown, C.hts⟩ hM ⟨aw_callN C L1 L2 hR, L3, C.hts _ L4⟩ ⟨preC_blind C.stab, aw_pre C h1 h2⟩ rfl hn (by rw [← C.hml]; exact h3.1) hst (lv_room hW) hdg (by rw [C.room]; exact ⟨hc, hsl⟩)
/-- Object's constructor -/
theorem aw_objI (C : AWC x cc nL own R ret) (hl : Cond.methodLink own idx Lib.objectInit ∈ WS) (hi : Cond.instanceMethod Lib.objectInit ∈ WS) (hco : Cond.code Lib.objectInit ⟨#[0xb1]⟩ 1 none ∈ WS) (hf : 1 ≤ R.frames) (hlo : (st.map fun v => v.category).sum + 12 ≤ R.locals) (hdg : decode cc pc = .ok (.invokespecial idx, 3)) (hpc : pc + 3 = pc') (kk : AW x Q k n sg pc' ls st) : AW x Q k n sg pc ls (.ref b :: st) := by
  subst hpc
  intro H locs la ws h1 h2 h3
  exact W.objInit C.hx C.hb C.hown (C.hts _ hl) (C.hts _ hi) (C.hts _ hco) rfl h3.1 rfl hdg (by rw [C.room]; exact hf) (by rw [C.room]; show 2 * 0 + _ + 12 ≤ _; omega) (kk H locs la ws h1 h2 h3)
/-- the exception goes on to the caller -/
theorem ax_out {E : String} {mc ms : Nat} (C : AWC x cc nL own R ret) (hout : ∀ z ∈ x.c.exceptionTable.toList, False) (hc : k ≤ mc) (hsl : n ≤ ms) (hP : PX E sg) : AX x (RQ x P PX mc ms) k n sg pc ls E := by
  intro H locs la ws q ce st h1 h2 h3 h4 h5 h6
  exact vx_out (fun z hz => (hout z hz).elim) C.hlk h4 h5 h6 (fun t ht hv => ⟨⟨sg, hP, ws, by rw [ht]; exact h1⟩, h2.F ht⟩) h2.2.2 hc hsl
end AWCall
/-- a method's contract out of its body's walk -/
theorem MM.of {g : Gx} {l : Launch} {y : MethodName} {bytes : ByteArray} {maxL : Nat} {ret : Option FieldType} {rm : Room} {sg : Sg} {As : List Value} {P : Option Value → Sg → Prop} {PX : String → Sg → Prop} (hl : l.flags = flags0) (hst : g.Stable) (hy : plainName y.cls = true) (hnL : (lg_sl As).length ≤ maxL)
    (body : ∀ x : Cx, x.g = g → x.l = l → AWC x bytes maxL y.cls rm ret → x.meth.name = y.name → (∀ z ∈ x.c.exceptionTable.toList, False) → x.args = As.toArray → AW x (RQ x P PX rm.cells rm.slots) 0 0 sg 0 (lv_args 0 As) []) : MM g l y bytes maxL ret rm sg As P PX := by
  refine vx_ofW hy rfl ?_
  intro p e s m args below meth c s₁ B hml hout hv
  obtain ⟨rfl, henv, ws, hsat⟩ := hv
  have hts0 := atoms_spec (ws := Cond.code y bytes maxL ret :: WS) B.pre
  have hns : l.stackTraces = false := by
    have : l.flags = flags0 := hl
    simp only [Launch.stackTraces, this]
    decide +kernel
  have C : AWC (g, p, l, e, rm, s, m, As.toArray, below, meth, c) bytes maxL y.cls rm ret := ⟨B.exec, B.bytes, hml, findClass_of_methodNamed B.named, fun w hw => hts0 w (List.mem_cons_of_mem _ hw), B.notSynchronized, henv, hst, rfl, hns, B.returns⟩
  have K := body (g, p, l, e, rm, s, m, As.toArray, below, meth, c) rfl rfl C (name_of_methodNamed B.named B.method).1 hout rfl
  rw [lg_entry_eq]
  exact K s.heap [] _ ws hsat va_S.rf (by
    have h := lv_entry As (n := maxL) hnL
    rw [← hml] at h ⊢
    exact h)
