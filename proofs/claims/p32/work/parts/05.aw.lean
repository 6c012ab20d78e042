/-! AW: the machine at pc, the locals ls, the stack st, over a store sg of named cells, all at base or above -/
def goodW (w : Cond) : Bool := goodWord w || (match w with
  | .fieldLinkNest _ _ _ _ _ _ => true
  | .methodLinkNest _ _ _ _ => true
  | .castable _ _ => true
  | .declares _ => true
  | _ => false)
/-- the tables' words that a warmer machine keeps -/
def WS : List Cond := Cond.selects RJ4 yJ5_ensureCapacityInternal_d00df yJ5_ensureCapacityInternal_d00df :: lw_tbl.filter goodW
theorem aw_mem_ws {w : Cond} {i : Nat} (h : lw_tbl[i]? = some w) (g : goodW w = true) : w ∈ WS := List.mem_cons_of_mem _ (List.mem_filter.mpr ⟨List.mem_of_getElem? h, g⟩)
theorem ws_of {w : Cond} (i : Nat) (h : (lw_tbl[i]?).any (fun v => decide (v = w) && goodW w) = true) : w ∈ WS := by
  cases hv : lw_tbl[i]? with
  | none => rw [hv] at h; cases h
  | some v =>
    rw [hv] at h
    simp only [Option.any_some, Bool.and_eq_true, decide_eq_true_eq] at h
    obtain ⟨rfl, h2⟩ := h
    exact aw_mem_ws hv h2
theorem ws_all {L : List Cond} (ps : List Nat) (h : L = ps.filterMap (fun i => lw_tbl[i]?)) (g : L.all goodW = true) : ∀ w ∈ L, w ∈ WS := by
  intro w hw
  have h1 := List.all_eq_true.mp g w hw
  rw [h] at hw
  obtain ⟨i, -, hi⟩ := List.mem_filterMap.mp hw
  exact aw_mem_ws hi h1
theorem ws_stab {w : Cond} (h : w ∈ WS) {s U : State} {args a' : Array Value} (hW : s.WarmedH U.vm) (hb : w.before args s = true) : w.before a' U = true := by
  have hg : goodW w = true := by
    rcases List.mem_cons.mp h with e | e
    · subst e
      rfl
    · exact (List.mem_filter.mp e).2
  simp only [goodW, Bool.or_eq_true] at hg
  rcases hg with hg | hg
  · exact word_at hW (good_of_word hg) hb
  · cases w <;> first | exact va_Nw.use rfl (va_Nw.warmF hW (va_Nw.of rfl hb)) | exact va_Nw.use rfl (va_Nw.warmM hW (va_Nw.of rfl hb)) | exact va_Nw.use rfl (va_Nw.warmC hW (va_Nw.of rfl hb)) | exact va_Nw.use rfl (va_Nw.warmD hW (va_Nw.of rfl hb)) | exact absurd hg Bool.false_ne_true
theorem ws_pay {s : State} {args : Array Value} (hts : ∀ w ∈ WS, w.before args s = true) {w0 : Cond} (h0 : w0 ∈ WS) : ∀ w ∈ w0 :: WS, ∀ (a' : Array Value) (U : State), s.WarmedH U.vm → w.before a' U = true := by
  intro w h a' U hW
  rcases List.mem_cons.mp h with rfl | h
  · exact ws_stab h0 hW (hts _ h0)
  · exact ws_stab h hW (hts _ h)
abbrev Sg : Type := Nat → Option va_E
abbrev Gx : Type := va_G × (Nat → ClassId) × Nat × (State → Prop)
abbrev Gx.D (g : Gx) : va_G := g.1
abbrev Gx.ca (g : Gx) : Nat → ClassId := g.2.1
abbrev Gx.base (g : Gx) : Nat := g.2.2.1
abbrev Gx.X (g : Gx) : State → Prop := g.2.2.2
abbrev Gx.tys (g : Gx) : List (ClassId × FieldType) := [(g.ca 0, .int), (g.ca 1, .int), (g.ca 2, .long), (g.ca 3, .object "java/lang/Object"), (g.ca 4, .byte)]
abbrev Gx.A (g : Gx) : Nat → Prop := fun q => g.base ≤ q
/-- the launch's own facts last: below base nothing is written -/
def Gx.Stable (g : Gx) : Prop := ∀ u U : State, u.WarmedH U.vm → (∀ q, q < g.base → U.heap[q]? = u.heap[q]?) → g.base ≤ u.heap.size → g.base ≤ U.heap.size → g.X u → g.X U
abbrev Cx : Type := Gx × Program × Launch × Env × Room × State × MethodId × Array Value × List Frame × Method × Code
abbrev Cx.g (x : Cx) : Gx := x.1
abbrev Cx.p (x : Cx) : Program := x.2.1
abbrev Cx.l (x : Cx) : Launch := x.2.2.1
abbrev Cx.e (x : Cx) : Env := x.2.2.2.1
abbrev Cx.R (x : Cx) : Room := x.2.2.2.2.1
abbrev Cx.s (x : Cx) : State := x.2.2.2.2.2.1
abbrev Cx.m (x : Cx) : MethodId := x.2.2.2.2.2.2.1
abbrev Cx.args (x : Cx) : Array Value := x.2.2.2.2.2.2.2.1
abbrev Cx.below (x : Cx) : List Frame := x.2.2.2.2.2.2.2.2.1
abbrev Cx.meth (x : Cx) : Method := x.2.2.2.2.2.2.2.2.2.1
abbrev Cx.c (x : Cx) : Code := x.2.2.2.2.2.2.2.2.2.2
abbrev arI (g : Gx) (n : Nat) (f : Nat → Int32) : va_E := .inl (g.ca 0, n, .inl f)
abbrev arZ (g : Gx) (n : Nat) (f : Nat → Int32) : va_E := .inl (g.ca 1, n, .inl f)
abbrev arJ (g : Gx) (n : Nat) (f : Nat → Int64) : va_E := .inl (g.ca 2, n, .inr (.inl f))
abbrev arO (g : Gx) (n : Nat) (f : Nat → Option Nat) : va_E := .inl (g.ca 3, n, .inr (.inr (.inr (.inr f))))
abbrev arB (g : Gx) (n : Nat) (f : Nat → Int32) : va_E := .inl (g.ca 4, n, .inl f)
abbrev ob (ci : Nat) (fs : List Value) : va_E := .inr (ci, fs)
def sgu (sg : Sg) (a : Nat) (e : va_E) : Sg := fun q => if q = a then some e else sg q
theorem sgu_s {sg : Sg} {a : Nat} {e : va_E} : sgu sg a e a = some e := if_pos rfl
theorem sgu_n {sg : Sg} {a b : Nat} {e : va_E} (h : b ≠ a) : sgu sg a e b = sg b := if_neg h
def Sat (g : Gx) (sg : Sg) (H : Heap) (ws : va_W) : Prop := va_P g.D vwCl ws H ∧ va_D g.A ws ∧ ∀ a e, sg a = some e → (a, e) ∈ ws
def Sats (g : Gx) (sg : Sg) (U : State) : Prop := ∃ ws, Sat g sg U.heap ws
def Env0 (g : Gx) (U : State) : Prop := va_K g.D vwCl g.tys U ∧ g.base ≤ U.heap.size ∧ g.X U
/-- the frame's facts -/
def AWC (x : Cx) (cc : ByteArray) (nL : Nat) (own : String) (R : Room) (ret : Option FieldType) : Prop :=
  x.p.tables.exec = Jvm.exec ∧ x.c.code = cc ∧ x.c.maxLocals = nL ∧ x.s.vm.findClass own = some x.m.cls ∧ (∀ w ∈ WS, w.before x.args x.s = true) ∧ x.meth.locks = false ∧ Env0 x.g x.s ∧ x.g.Stable ∧ x.R = R ∧ x.l.stackTraces = false ∧ x.meth.sig.returnType = ret
theorem AWC.hx {x cc nL own R ret} (h : AWC x cc nL own R ret) : x.p.tables.exec = Jvm.exec := h.1
theorem AWC.hb {x cc nL own R ret} (h : AWC x cc nL own R ret) : x.c.code = cc := h.2.1
theorem AWC.hml {x cc nL own R ret} (h : AWC x cc nL own R ret) : x.c.maxLocals = nL := h.2.2.1
theorem AWC.hown {x cc nL own R ret} (h : AWC x cc nL own R ret) : x.s.vm.findClass own = some x.m.cls := h.2.2.2.1
theorem AWC.hts {x cc nL own R ret} (h : AWC x cc nL own R ret) : ∀ w ∈ WS, w.before x.args x.s = true := h.2.2.2.2.1
theorem AWC.hlk {x cc nL own R ret} (h : AWC x cc nL own R ret) : x.meth.locks = false := h.2.2.2.2.2.1
theorem AWC.env {x cc nL own R ret} (h : AWC x cc nL own R ret) : Env0 x.g x.s := h.2.2.2.2.2.2.1
theorem AWC.stab {x cc nL own R ret} (h : AWC x cc nL own R ret) : x.g.Stable := h.2.2.2.2.2.2.2.1
theorem AWC.room {x cc nL own R ret} (h : AWC x cc nL own R ret) : x.R = R := h.2.2.2.2.2.2.2.2.1
theorem AWC.nost {x cc nL own R ret} (h : AWC x cc nL own R ret) : x.l.stackTraces = false := h.2.2.2.2.2.2.2.2.2.1
theorem AWC.hr {x cc nL own R ret} (h : AWC x cc nL own R ret) : x.meth.sig.returnType = ret := h.2.2.2.2.2.2.2.2.2.2
/-- the room is full at k cells, n slots: one judgement for every heap that holds the store -/
def AW (x : Cx) (Q : State → Prop) (k n : Nat) (sg : Sg) (pc : Nat) (ls : List (Nat × Value)) (st : List Value) : Prop :=
  ∀ (H : Heap) (locs : List Loc) (la : Array Slot) (ws : va_W), Sat x.g sg H ws → va_S x.g.A x.s.heap H locs → lv_has la x.c.maxLocals ls → W x.p x.l x.e x.R x.s x.m x.args x.below x.meth x.c H locs k n Q (F0 x.m pc la st)
/-- the same, with an exception of the class E on its way -/
def AX (x : Cx) (Q : State → Prop) (k n : Nat) (sg : Sg) (pc : Nat) (ls : List (Nat × Value)) (E : String) : Prop :=
  ∀ (H : Heap) (locs : List Loc) (la : Array Slot) (ws : va_W) (q : Addr) (ce : Cell) (st : List Value), Sat x.g sg H ws → va_S x.g.A x.s.heap H locs → lv_has la x.c.maxLocals ls → H[q]? = some ce → ce.vm = .none → x.s.vm.findClass E = some ce.cls → vx_W x.p x.l x.e x.R x.s x.m x.args x.below x.meth x.c H locs k n Q (F0 x.m pc la st) q
def lget (ls : List (Nat × Value)) (i : Nat) : Option Value := (ls.find? (fun q => q.1 == i)).map (fun q => q.2)
theorem lget_at {la : Array Slot} {nL : Nat} {ls : List (Nat × Value)} (h : lv_has la nL ls) {i : Nat} {v : Value} (hg : lget ls i = some v) : la[i]? = some (.val v) := by
  unfold lget at hg
  cases hf : ls.find? (fun q => q.1 == i) with
  | none => rw [hf] at hg; cases hg
  | some q =>
    rw [hf] at hg
    cases hg
    have h1 := List.mem_of_find?_eq_some hf
    have h2 : (q.1 == i) = true := by simpa using List.find?_some hf
    have h3 : q.1 = i := by simpa using h2
    rw [← h3]
    exact h.2.2 q h1
def lst1 (ls : List (Nat × Value)) (i : Nat) (v : Value) : List (Nat × Value) := (i, v) :: ls.filter (fun q => !(q.1 == i) && !(q.1 + 1 == i && q.2.category == 2))
def lst2 (ls : List (Nat × Value)) (i : Nat) (v : Value) : List (Nat × Value) := (i, v) :: ls.filter (fun q => !(q.1 == i) && (!(q.1 == i + 1) && !(q.1 + 1 == i && q.2.category == 2)))
theorem Sat.at {g : Gx} {sg : Sg} {H : Heap} {ws : va_W} (h : Sat g sg H ws) {a : Nat} {e : va_E} (ha : sg a = some e) : ∃ k : Nat, ws[k]? = some (a, e) := List.getElem?_of_mem (h.2.2 a e ha)
theorem Sat.set {g : Gx} {sg : Sg} {H H1 : Heap} {ws : va_W} (h : Sat g sg H ws) {a k : Nat} {e e' : va_E} (hk : ws[k]? = some (a, e)) (hP : va_P g.D vwCl (ws.set k (a, e')) H1) (hD : va_D g.A (ws.set k (a, e'))) : Sat g (sgu sg a e') H1 (ws.set k (a, e')) := by
  have hl := (List.getElem?_eq_some_iff.mp hk).1
  refine ⟨hP, hD, fun b e2 hb => ?_⟩
  by_cases hba : b = a
  · subst hba
    rw [sgu_s] at hb
    cases hb
    exact List.mem_of_getElem? (i := k) (by rw [List.getElem?_set_self hl])
  · rw [sgu_n hba] at hb
    obtain ⟨j, hj⟩ := h.at hb
    have hjk : k ≠ j := fun z => by
      subst z
      rw [hk] at hj
      cases hj
      exact hba rfl
    exact List.mem_of_getElem? (i := j) (by rw [List.getElem?_set_ne hjk]; exact hj)
theorem Sat.push {g : Gx} {sg : Sg} {H H1 : Heap} {ws : va_W} (h : Sat g sg H ws) {q : Nat} {e : va_E} (hP : va_P g.D vwCl (ws ++ [(q, e)]) H1) (hD : va_D g.A (ws ++ [(q, e)])) : sg q = none ∧ Sat g (sgu sg q e) H1 (ws ++ [(q, e)]) := by
  have hq : (ws ++ [(q, e)])[ws.length]? = some (q, e) := by rw [List.getElem?_append_right (Nat.le_refl _), Nat.sub_self]; rfl
  have hn : sg q = none := by
    cases hs : sg q with
    | none => rfl
    | some e2 =>
      obtain ⟨j, hj⟩ := h.at hs
      have hl := (List.getElem?_eq_some_iff.mp hj).1
      have h1 : (ws ++ [(q, e)])[j]? = some (q, e2) := by rw [List.getElem?_append_left hl]; exact hj
      have := hD.1 j ws.length _ _ h1 hq rfl
      omega
  refine ⟨hn, hP, hD, fun b e2 hb => ?_⟩
  by_cases hba : b = q
  · subst hba
    rw [sgu_s] at hb
    cases hb
    exact List.mem_append_right _ List.mem_cons_self
  · rw [sgu_n hba] at hb
    exact List.mem_append_left _ (h.2.2 b e2 hb)
theorem Sat.apart {g : Gx} {sg : Sg} {H : Heap} {ws : va_W} (h : Sat g sg H ws) {a : Nat} {e : va_E} (ha : sg a = some e) : g.base ≤ a ∧ a < H.size := by
  obtain ⟨k, hk⟩ := h.at ha
  exact ⟨h.2.1.2 k _ hk, (h.1 k _ hk).lt⟩
section AWR
variable {x : Cx} {Q : State → Prop} {k n : Nat} {sg : Sg} {pc : Nat} {ls ls' : List (Nat × Value)} {st : List Value} {cc : ByteArray} {nL : Nat} {own : String} {R : Room} {ret : Option FieldType} {pc' : Nat}
theorem aw_sub {ls' : List (Nat × Value)} (h : ∀ q ∈ ls', q ∈ ls) (kk : AW x Q k n sg pc ls' st) : AW x Q k n sg pc ls st := fun H locs la ws h1 h2 h3 => kk H locs la ws h1 h2 ⟨h3.1, h3.2.1, fun q hq => h3.2.2 q (h q hq)⟩
theorem aw_widen {k' n' : Nat} (h1 : k ≤ k') (h2 : n ≤ n') (kk : AW x Q k' n' sg pc ls st) : AW x Q k n sg pc ls st := fun H locs la ws a b c => W.widen h1 h2 (kk H locs la ws a b c)
theorem aw_sg {sg' : Sg} (h : ∀ a e, sg' a = some e → sg a = some e) (kk : AW x Q k n sg' pc ls st) : AW x Q k n sg pc ls st := fun H locs la ws a b c => kk H locs la ws ⟨a.1, a.2.1, fun q e hq => a.2.2 q e (h q e hq)⟩ b c
theorem ax_widen {E : String} {k' n' : Nat} (h1 : k ≤ k') (h2 : n ≤ n') (kk : AX x Q k' n' sg pc ls E) : AX x Q k n sg pc ls E := fun H locs la ws q ce st a b c d e f => vx_widen h1 h2 (kk H locs la ws q ce st a b c d e f)
theorem aw_iconst {z : Int} {v : Int32} (C : AWC x cc nL own R ret) (hdg : decode cc pc = .ok (.iconst z, 1)) (hv : Int32.ofInt z = v) (hpc : pc + 1 = pc') (kk : AW x Q k n sg pc' ls (.int v :: st)) : AW x Q k n sg pc ls (st) := by
  subst hpc
  exact fun H locs la ws h1 h2 h3 => lv_iconst C.hx C.hb hdg hv (kk H locs la ws h1 h2 h3)
theorem aw_bipush {z : Int} {v : Int32} (C : AWC x cc nL own R ret) (hdg : decode cc pc = .ok (.bipush z, 2)) (hv : (Int8.ofInt z).toInt32 = v) (hpc : pc + 2 = pc') (kk : AW x Q k n sg pc' ls (.int v :: st)) : AW x Q k n sg pc ls (st) := by
  subst hpc
  exact fun H locs la ws h1 h2 h3 => lv_bipush C.hx C.hb hdg hv (kk H locs la ws h1 h2 h3)
theorem aw_sipush {z : Int} {v : Int32} (C : AWC x cc nL own R ret) (hdg : decode cc pc = .ok (.sipush z, 3)) (hv : (Int16.ofInt z).toInt32 = v) (hpc : pc + 3 = pc') (kk : AW x Q k n sg pc' ls (.int v :: st)) : AW x Q k n sg pc ls (st) := by
  subst hpc
  exact fun H locs la ws h1 h2 h3 => lv_sipush C.hx C.hb hdg hv (kk H locs la ws h1 h2 h3)
theorem aw_lconst {z : Fin 2} {v : Int64} (C : AWC x cc nL own R ret) (hdg : decode cc pc = .ok (.lconst z, 1)) (hv : Int64.ofNat (z : Nat) = v) (hpc : pc + 1 = pc') (kk : AW x Q k n sg pc' ls (.long v :: st)) : AW x Q k n sg pc ls (st) := by
  subst hpc
  exact fun H locs la ws h1 h2 h3 => lv_lconst C.hx C.hb hdg hv (kk H locs la ws h1 h2 h3)
theorem aw_ldc {index : Nat} {v : Int32} (C : AWC x cc nL own R ret) (hdg : decode cc pc = .ok (.ldc index, 2)) (hw : Cond.constant own index v ∈ WS) (hpc : pc + 2 = pc') (kk : AW x Q k n sg pc' ls (.int v :: st)) : AW x Q k n sg pc ls (st) := by
  subst hpc
  exact fun H locs la ws h1 h2 h3 => lv_ldc C.hx C.hb C.hown (C.hts _ hw) hdg (kk H locs la ws h1 h2 h3)
theorem aw_ldcw {index : Nat} {v : Int32} (C : AWC x cc nL own R ret) (hdg : decode cc pc = .ok (.ldc_w index, 3)) (hw : Cond.constant own index v ∈ WS) (hpc : pc + 3 = pc') (kk : AW x Q k n sg pc' ls (.int v :: st)) : AW x Q k n sg pc ls (st) := by
  subst hpc
  exact fun H locs la ws h1 h2 h3 => lv_ldcw C.hx C.hb C.hown (C.hts _ hw) hdg (kk H locs la ws h1 h2 h3)
theorem aw_ldc2 {index : Nat} {v : Int64} (C : AWC x cc nL own R ret) (hdg : decode cc pc = .ok (.ldc2_w index, 3)) (hw : Cond.constantLong own index v ∈ WS) (hpc : pc + 3 = pc') (kk : AW x Q k n sg pc' ls (.long v :: st)) : AW x Q k n sg pc ls (st) := by
  subst hpc
  exact fun H locs la ws h1 h2 h3 => lv_ldc2 C.hx C.hb C.hown (C.hts _ hw) hdg (kk H locs la ws h1 h2 h3)
theorem aw_iload_n {j : Fin 4} {i : Nat} {v : Int32} (C : AWC x cc nL own R ret) (hdg : decode cc pc = .ok (.iload_n j, 1)) (hi : (j : Nat) = i) (hg : lget ls i = some (.int v)) (hpc : pc + 1 = pc') (kk : AW x Q k n sg pc' ls (.int v :: st)) : AW x Q k n sg pc ls st := by
  subst hpc
  exact fun H locs la ws h1 h2 h3 => lv_iload_n C.hx C.hb hdg hi (lget_at h3 hg) (kk H locs la ws h1 h2 h3)
theorem aw_iload {i : Nat} {v : Int32} (C : AWC x cc nL own R ret) (hdg : decode cc pc = .ok (.iload i, 2)) (hg : lget ls i = some (.int v)) (hpc : pc + 2 = pc') (kk : AW x Q k n sg pc' ls (.int v :: st)) : AW x Q k n sg pc ls st := by
  subst hpc
  exact fun H locs la ws h1 h2 h3 => lv_iload C.hx C.hb hdg (lget_at h3 hg) (kk H locs la ws h1 h2 h3)
theorem aw_lload_n {j : Fin 4} {i : Nat} {v : Int64} (C : AWC x cc nL own R ret) (hdg : decode cc pc = .ok (.lload_n j, 1)) (hi : (j : Nat) = i) (hg : lget ls i = some (.long v)) (hpc : pc + 1 = pc') (kk : AW x Q k n sg pc' ls (.long v :: st)) : AW x Q k n sg pc ls st := by
  subst hpc
  exact fun H locs la ws h1 h2 h3 => lv_lload_n C.hx C.hb hdg hi (lget_at h3 hg) (kk H locs la ws h1 h2 h3)
theorem aw_lload {i : Nat} {v : Int64} (C : AWC x cc nL own R ret) (hdg : decode cc pc = .ok (.lload i, 2)) (hg : lget ls i = some (.long v)) (hpc : pc + 2 = pc') (kk : AW x Q k n sg pc' ls (.long v :: st)) : AW x Q k n sg pc ls st := by
  subst hpc
  exact fun H locs la ws h1 h2 h3 => lv_lload C.hx C.hb hdg (lget_at h3 hg) (kk H locs la ws h1 h2 h3)
theorem aw_aload_n {j : Fin 4} {i : Nat} {v : Nat} (C : AWC x cc nL own R ret) (hdg : decode cc pc = .ok (.aload_n j, 1)) (hi : (j : Nat) = i) (hg : lget ls i = some (.ref v)) (hpc : pc + 1 = pc') (kk : AW x Q k n sg pc' ls (.ref v :: st)) : AW x Q k n sg pc ls st := by
  subst hpc
  exact fun H locs la ws h1 h2 h3 => lv_aload_n C.hx C.hb hdg hi (lget_at h3 hg) (kk H locs la ws h1 h2 h3)
theorem aw_aload {i : Nat} {v : Nat} (C : AWC x cc nL own R ret) (hdg : decode cc pc = .ok (.aload i, 2)) (hg : lget ls i = some (.ref v)) (hpc : pc + 2 = pc') (kk : AW x Q k n sg pc' ls (.ref v :: st)) : AW x Q k n sg pc ls st := by
  subst hpc
  exact fun H locs la ws h1 h2 h3 => lv_aload C.hx C.hb hdg (lget_at h3 hg) (kk H locs la ws h1 h2 h3)
theorem aw_aload_nN {j : Fin 4} {i : Nat} (C : AWC x cc nL own R ret) (hdg : decode cc pc = .ok (.aload_n j, 1)) (hi : (j : Nat) = i) (hg : lget ls i = some .null) (hpc : pc + 1 = pc') (kk : AW x Q k n sg pc' ls (.null :: st)) : AW x Q k n sg pc ls st := by
  subst hpc
  exact fun H locs la ws h1 h2 h3 => lv_aload_nN C.hx C.hb hdg hi (lget_at h3 hg) (kk H locs la ws h1 h2 h3)
theorem aw_aloadN {i : Nat} (C : AWC x cc nL own R ret) (hdg : decode cc pc = .ok (.aload i, 2)) (hg : lget ls i = some .null) (hpc : pc + 2 = pc') (kk : AW x Q k n sg pc' ls (.null :: st)) : AW x Q k n sg pc ls st := by
  subst hpc
  exact fun H locs la ws h1 h2 h3 => lv_aloadN C.hx C.hb hdg (lget_at h3 hg) (kk H locs la ws h1 h2 h3)
/-- a reference or null, whichever -/
theorem aw_aload_nq {j : Fin 4} {i : Nat} {r : Option Nat} (C : AWC x cc nL own R ret) (hdg : decode cc pc = .ok (.aload_n j, 1)) (hi : (j : Nat) = i) (hg : lget ls i = some (va_rf r)) (hpc : pc + 1 = pc') (kk : AW x Q k n sg pc' ls (va_rf r :: st)) : AW x Q k n sg pc ls st := by
  cases r with
  | none => exact aw_aload_nN C hdg hi hg hpc kk
  | some a => exact aw_aload_n C hdg hi hg hpc kk
theorem aw_aloadq {i : Nat} {r : Option Nat} (C : AWC x cc nL own R ret) (hdg : decode cc pc = .ok (.aload i, 2)) (hg : lget ls i = some (va_rf r)) (hpc : pc + 2 = pc') (kk : AW x Q k n sg pc' ls (va_rf r :: st)) : AW x Q k n sg pc ls st := by
  cases r with
  | none => exact aw_aloadN C hdg hg hpc kk
  | some a => exact aw_aload C hdg hg hpc kk
theorem aw_istore_n {j : Fin 4} {i : Nat} {v : Int32} (C : AWC x cc nL own R ret) (hdg : decode cc pc = .ok (.istore_n j, 1)) (hi : (j : Nat) = i) (hn : i < nL) (hl : lst1 ls i (.int v) = ls') (hpc : pc + 1 = pc') (kk : AW x Q k n sg pc' ls' st) : AW x Q k n sg pc ls (.int v :: st) := by
  subst hpc
  exact fun H locs la ws h1 h2 h3 => lv_istore_n C.hx C.hb hdg hi (by rw [← C.hml]; exact h3) hn hl (fun la2 h4 => kk H locs la2 ws h1 h2 (by rw [C.hml]; exact h4))
theorem aw_istore {i : Nat} {v : Int32} (C : AWC x cc nL own R ret) (hdg : decode cc pc = .ok (.istore i, 2)) (hn : i < nL) (hl : lst1 ls i (.int v) = ls') (hpc : pc + 2 = pc') (kk : AW x Q k n sg pc' ls' st) : AW x Q k n sg pc ls (.int v :: st) := by
  subst hpc
  exact fun H locs la ws h1 h2 h3 => lv_istore C.hx C.hb hdg (by rw [← C.hml]; exact h3) hn hl (fun la2 h4 => kk H locs la2 ws h1 h2 (by rw [C.hml]; exact h4))
theorem aw_lstore_n {j : Fin 4} {i : Nat} {v : Int64} (C : AWC x cc nL own R ret) (hdg : decode cc pc = .ok (.lstore_n j, 1)) (hi : (j : Nat) = i) (hn : i + 1 < nL) (hl : lst2 ls i (.long v) = ls') (hpc : pc + 1 = pc') (kk : AW x Q k n sg pc' ls' st) : AW x Q k n sg pc ls (.long v :: st) := by
  subst hpc
  exact fun H locs la ws h1 h2 h3 => lv_lstore_n C.hx C.hb hdg hi (by rw [← C.hml]; exact h3) hn hl (fun la2 h4 => kk H locs la2 ws h1 h2 (by rw [C.hml]; exact h4))
theorem aw_lstore {i : Nat} {v : Int64} (C : AWC x cc nL own R ret) (hdg : decode cc pc = .ok (.lstore i, 2)) (hn : i + 1 < nL) (hl : lst2 ls i (.long v) = ls') (hpc : pc + 2 = pc') (kk : AW x Q k n sg pc' ls' st) : AW x Q k n sg pc ls (.long v :: st) := by
  subst hpc
  exact fun H locs la ws h1 h2 h3 => lv_lstore C.hx C.hb hdg (by rw [← C.hml]; exact h3) hn hl (fun la2 h4 => kk H locs la2 ws h1 h2 (by rw [C.hml]; exact h4))
theorem aw_astore_n {j : Fin 4} {i : Nat} {v : Nat} (C : AWC x cc nL own R ret) (hdg : decode cc pc = .ok (.astore_n j, 1)) (hi : (j : Nat) = i) (hn : i < nL) (hl : lst1 ls i (.ref v) = ls') (hpc : pc + 1 = pc') (kk : AW x Q k n sg pc' ls' st) : AW x Q k n sg pc ls (.ref v :: st) := by
  subst hpc
  exact fun H locs la ws h1 h2 h3 => lv_astore_n C.hx C.hb hdg hi (by rw [← C.hml]; exact h3) hn hl (fun la2 h4 => kk H locs la2 ws h1 h2 (by rw [C.hml]; exact h4))
theorem aw_astore {i : Nat} {v : Nat} (C : AWC x cc nL own R ret) (hdg : decode cc pc = .ok (.astore i, 2)) (hn : i < nL) (hl : lst1 ls i (.ref v) = ls') (hpc : pc + 2 = pc') (kk : AW x Q k n sg pc' ls' st) : AW x Q k n sg pc ls (.ref v :: st) := by
  subst hpc
  exact fun H locs la ws h1 h2 h3 => lv_astore C.hx C.hb hdg (by rw [← C.hml]; exact h3) hn hl (fun la2 h4 => kk H locs la2 ws h1 h2 (by rw [C.hml]; exact h4))
theorem aw_astore_nN {j : Fin 4} {i : Nat} (C : AWC x cc nL own R ret) (hdg : decode cc pc = .ok (.astore_n j, 1)) (hi : (j : Nat) = i) (hn : i < nL) (hl : lst1 ls i .null = ls') (hpc : pc + 1 = pc') (kk : AW x Q k n sg pc' ls' st) : AW x Q k n sg pc ls (.null :: st) := by
  subst hpc
  exact fun H locs la ws h1 h2 h3 => lv_astore_nN C.hx C.hb hdg hi (by rw [← C.hml]; exact h3) hn hl (fun la2 h4 => kk H locs la2 ws h1 h2 (by rw [C.hml]; exact h4))
theorem aw_astoreN {i : Nat} (C : AWC x cc nL own R ret) (hdg : decode cc pc = .ok (.astore i, 2)) (hn : i < nL) (hl : lst1 ls i .null = ls') (hpc : pc + 2 = pc') (kk : AW x Q k n sg pc' ls' st) : AW x Q k n sg pc ls (.null :: st) := by
  subst hpc
  exact fun H locs la ws h1 h2 h3 => lv_astoreN C.hx C.hb hdg (by rw [← C.hml]; exact h3) hn hl (fun la2 h4 => kk H locs la2 ws h1 h2 (by rw [C.hml]; exact h4))
theorem aw_astore_nq {j : Fin 4} {i : Nat} {r : Option Nat} (C : AWC x cc nL own R ret) (hdg : decode cc pc = .ok (.astore_n j, 1)) (hi : (j : Nat) = i) (hn : i < nL) (hl : lst1 ls i (va_rf r) = ls') (hpc : pc + 1 = pc') (kk : AW x Q k n sg pc' ls' st) : AW x Q k n sg pc ls (va_rf r :: st) := by
  cases r with
  | none => exact aw_astore_nN C hdg hi hn hl hpc kk
  | some a => exact aw_astore_n C hdg hi hn hl hpc kk
theorem aw_astoreq {i : Nat} {r : Option Nat} (C : AWC x cc nL own R ret) (hdg : decode cc pc = .ok (.astore i, 2)) (hn : i < nL) (hl : lst1 ls i (va_rf r) = ls') (hpc : pc + 2 = pc') (kk : AW x Q k n sg pc' ls' st) : AW x Q k n sg pc ls (va_rf r :: st) := by
  cases r with
  | none => exact aw_astoreN C hdg hn hl hpc kk
  | some a => exact aw_astore C hdg hn hl hpc kk
theorem aw_iinc {i : Nat} {z : Int} {v v' : Int32} (C : AWC x cc nL own R ret) (hdg : decode cc pc = .ok (.iinc i z, 3)) (hg : lget ls i = some (.int v)) (hn : i < nL) (hv : v + Int32.ofInt z = v') (hl : lst1 ls i (.int v') = ls') (hpc : pc + 3 = pc') (kk : AW x Q k n sg pc' ls' st) : AW x Q k n sg pc ls st := by
  subst hpc
  intro H locs la ws h1 h2 h3
  unfold lget at hg
  cases hf : ls.find? (fun q => q.1 == i) with
  | none => rw [hf] at hg; cases hg
  | some q =>
    rw [hf] at hg
    have h5 := List.mem_of_find?_eq_some hf
    have h6 : (q.1 == i) = true := by simpa using List.find?_some hf
    obtain ⟨j, hj⟩ := List.getElem?_of_mem h5
    obtain ⟨q1, q2⟩ := q
    have h7 : q1 = i := by simpa using h6
    have h8 : q2 = .int v := by simpa using hg
    subst h7
    subst h8
    exact lv_iinc (k := j) C.hx C.hb hdg (by rw [← C.hml]; exact h3) hj hv hn hl (fun la2 h4 => kk H locs la2 ws h1 h2 (by rw [C.hml]; exact h4))
theorem aw_iadd {a b : Int32} (C : AWC x cc nL own R ret) (hdg : decode cc pc = .ok (.iadd, 1)) (hpc : pc + 1 = pc') (kk : AW x Q k n sg pc' ls (.int (a + b) :: st)) : AW x Q k n sg pc ls (.int b :: .int a :: st) := by
  subst hpc
  exact fun H locs la ws h1 h2 h3 => lv_iadd C.hx C.hb hdg (kk H locs la ws h1 h2 h3)
theorem aw_isub {a b : Int32} (C : AWC x cc nL own R ret) (hdg : decode cc pc = .ok (.isub, 1)) (hpc : pc + 1 = pc') (kk : AW x Q k n sg pc' ls (.int (a - b) :: st)) : AW x Q k n sg pc ls (.int b :: .int a :: st) := by
  subst hpc
  exact fun H locs la ws h1 h2 h3 => lv_isub C.hx C.hb hdg (kk H locs la ws h1 h2 h3)
theorem aw_imul {a b : Int32} (C : AWC x cc nL own R ret) (hdg : decode cc pc = .ok (.imul, 1)) (hpc : pc + 1 = pc') (kk : AW x Q k n sg pc' ls (.int (a * b) :: st)) : AW x Q k n sg pc ls (.int b :: .int a :: st) := by
  subst hpc
  exact fun H locs la ws h1 h2 h3 => lv_imul C.hx C.hb hdg (kk H locs la ws h1 h2 h3)
theorem aw_iand {a b : Int32} (C : AWC x cc nL own R ret) (hdg : decode cc pc = .ok (.iand, 1)) (hpc : pc + 1 = pc') (kk : AW x Q k n sg pc' ls (.int (a &&& b) :: st)) : AW x Q k n sg pc ls (.int b :: .int a :: st) := by
  subst hpc
  exact fun H locs la ws h1 h2 h3 => lv_iand C.hx C.hb hdg (kk H locs la ws h1 h2 h3)
theorem aw_ior {a b : Int32} (C : AWC x cc nL own R ret) (hdg : decode cc pc = .ok (.ior, 1)) (hpc : pc + 1 = pc') (kk : AW x Q k n sg pc' ls (.int (a ||| b) :: st)) : AW x Q k n sg pc ls (.int b :: .int a :: st) := by
  subst hpc
  exact fun H locs la ws h1 h2 h3 => lv_ior C.hx C.hb hdg (kk H locs la ws h1 h2 h3)
theorem aw_ixor {a b : Int32} (C : AWC x cc nL own R ret) (hdg : decode cc pc = .ok (.ixor, 1)) (hpc : pc + 1 = pc') (kk : AW x Q k n sg pc' ls (.int (a ^^^ b) :: st)) : AW x Q k n sg pc ls (.int b :: .int a :: st) := by
  subst hpc
  exact fun H locs la ws h1 h2 h3 => lv_ixor C.hx C.hb hdg (kk H locs la ws h1 h2 h3)
theorem aw_ishl {a b : Int32} (C : AWC x cc nL own R ret) (hdg : decode cc pc = .ok (.ishl, 1)) (hpc : pc + 1 = pc') (kk : AW x Q k n sg pc' ls (.int (a <<< (b &&& 31)) :: st)) : AW x Q k n sg pc ls (.int b :: .int a :: st) := by
  subst hpc
  exact fun H locs la ws h1 h2 h3 => lv_ishl C.hx C.hb hdg (kk H locs la ws h1 h2 h3)
theorem aw_ishr {a b : Int32} (C : AWC x cc nL own R ret) (hdg : decode cc pc = .ok (.ishr, 1)) (hpc : pc + 1 = pc') (kk : AW x Q k n sg pc' ls (.int (a >>> (b &&& 31)) :: st)) : AW x Q k n sg pc ls (.int b :: .int a :: st) := by
  subst hpc
  exact fun H locs la ws h1 h2 h3 => lv_ishr C.hx C.hb hdg (kk H locs la ws h1 h2 h3)
theorem aw_idiv {a b : Int32} (C : AWC x cc nL own R ret) (hdg : decode cc pc = .ok (.idiv, 1)) (hne : ¬ b = 0) (hpc : pc + 1 = pc') (kk : AW x Q k n sg pc' ls (.int (a / b) :: st)) : AW x Q k n sg pc ls (.int b :: .int a :: st) := by
  subst hpc
  exact fun H locs la ws h1 h2 h3 => lv_idiv C.hx C.hb hdg hne (kk H locs la ws h1 h2 h3)
theorem aw_irem {a b : Int32} (C : AWC x cc nL own R ret) (hdg : decode cc pc = .ok (.irem, 1)) (hne : ¬ b = 0) (hpc : pc + 1 = pc') (kk : AW x Q k n sg pc' ls (.int (a - a / b * b) :: st)) : AW x Q k n sg pc ls (.int b :: .int a :: st) := by
  subst hpc
  exact fun H locs la ws h1 h2 h3 => lv_irem C.hx C.hb hdg hne (kk H locs la ws h1 h2 h3)
theorem aw_ineg {a : Int32} (C : AWC x cc nL own R ret) (hdg : decode cc pc = .ok (.ineg, 1)) (hpc : pc + 1 = pc') (kk : AW x Q k n sg pc' ls (.int (-a) :: st)) : AW x Q k n sg pc ls (.int a :: st) := by
  subst hpc
  exact fun H locs la ws h1 h2 h3 => lv_ineg C.hx C.hb hdg (kk H locs la ws h1 h2 h3)
theorem aw_ladd {a b : Int64} (C : AWC x cc nL own R ret) (hdg : decode cc pc = .ok (.ladd, 1)) (hpc : pc + 1 = pc') (kk : AW x Q k n sg pc' ls (.long (a + b) :: st)) : AW x Q k n sg pc ls (.long b :: .long a :: st) := by
  subst hpc
  exact fun H locs la ws h1 h2 h3 => lv_ladd C.hx C.hb hdg (kk H locs la ws h1 h2 h3)
theorem aw_lsub {a b : Int64} (C : AWC x cc nL own R ret) (hdg : decode cc pc = .ok (.lsub, 1)) (hpc : pc + 1 = pc') (kk : AW x Q k n sg pc' ls (.long (a - b) :: st)) : AW x Q k n sg pc ls (.long b :: .long a :: st) := by
  subst hpc
  exact fun H locs la ws h1 h2 h3 => lv_lsub C.hx C.hb hdg (kk H locs la ws h1 h2 h3)
theorem aw_lmul {a b : Int64} (C : AWC x cc nL own R ret) (hdg : decode cc pc = .ok (.lmul, 1)) (hpc : pc + 1 = pc') (kk : AW x Q k n sg pc' ls (.long (a * b) :: st)) : AW x Q k n sg pc ls (.long b :: .long a :: st) := by
  subst hpc
  exact fun H locs la ws h1 h2 h3 => lv_lmul C.hx C.hb hdg (kk H locs la ws h1 h2 h3)
theorem aw_ldiv {a b : Int64} (C : AWC x cc nL own R ret) (hdg : decode cc pc = .ok (.ldiv, 1)) (hne : ¬ b = 0) (hpc : pc + 1 = pc') (kk : AW x Q k n sg pc' ls (.long (a / b) :: st)) : AW x Q k n sg pc ls (.long b :: .long a :: st) := by
  subst hpc
  exact fun H locs la ws h1 h2 h3 => lv_ldiv C.hx C.hb hdg hne (kk H locs la ws h1 h2 h3)
theorem aw_lrem {a b : Int64} (C : AWC x cc nL own R ret) (hdg : decode cc pc = .ok (.lrem, 1)) (hne : ¬ b = 0) (hpc : pc + 1 = pc') (kk : AW x Q k n sg pc' ls (.long (a - a / b * b) :: st)) : AW x Q k n sg pc ls (.long b :: .long a :: st) := by
  subst hpc
  exact fun H locs la ws h1 h2 h3 => lv_lrem C.hx C.hb hdg hne (kk H locs la ws h1 h2 h3)
theorem aw_lneg {a : Int64} (C : AWC x cc nL own R ret) (hdg : decode cc pc = .ok (.lneg, 1)) (hpc : pc + 1 = pc') (kk : AW x Q k n sg pc' ls (.long (-a) :: st)) : AW x Q k n sg pc ls (.long a :: st) := by
  subst hpc
  exact fun H locs la ws h1 h2 h3 => lv_lneg C.hx C.hb hdg (kk H locs la ws h1 h2 h3)
theorem aw_lcmp {a b : Int64} (C : AWC x cc nL own R ret) (hdg : decode cc pc = .ok (.lcmp, 1)) (hpc : pc + 1 = pc') (kk : AW x Q k n sg pc' ls (.int (lg_cmp a b) :: st)) : AW x Q k n sg pc ls (.long b :: .long a :: st) := by
  subst hpc
  exact fun H locs la ws h1 h2 h3 => W.lcmp C.hx C.hb hdg (kk H locs la ws h1 h2 h3)
theorem aw_i2l {a : Int32} (C : AWC x cc nL own R ret) (hdg : decode cc pc = .ok (.i2l, 1)) (hpc : pc + 1 = pc') (kk : AW x Q k n sg pc' ls (.long a.toInt64 :: st)) : AW x Q k n sg pc ls (.int a :: st) := by
  subst hpc
  exact fun H locs la ws h1 h2 h3 => lv_i2l C.hx C.hb hdg rfl (kk H locs la ws h1 h2 h3)
theorem aw_l2i {a : Int64} (C : AWC x cc nL own R ret) (hdg : decode cc pc = .ok (.l2i, 1)) (hpc : pc + 1 = pc') (kk : AW x Q k n sg pc' ls (.int a.toInt32 :: st)) : AW x Q k n sg pc ls (.long a :: st) := by
  subst hpc
  exact fun H locs la ws h1 h2 h3 => lv_l2i C.hx C.hb hdg rfl (kk H locs la ws h1 h2 h3)
theorem aw_i2c {a : Int32} (C : AWC x cc nL own R ret) (hdg : decode cc pc = .ok (.i2c, 1)) (hpc : pc + 1 = pc') (kk : AW x Q k n sg pc' ls (.int (a.toUInt32 % 65536).toInt32 :: st)) : AW x Q k n sg pc ls (.int a :: st) := by
  subst hpc
  exact fun H locs la ws h1 h2 h3 => lv_i2c C.hx C.hb hdg rfl (kk H locs la ws h1 h2 h3)
theorem aw_i2b {a : Int32} (C : AWC x cc nL own R ret) (hdg : decode cc pc = .ok (.i2b, 1)) (hpc : pc + 1 = pc') (kk : AW x Q k n sg pc' ls (.int a.toInt8.toInt32 :: st)) : AW x Q k n sg pc ls (.int a :: st) := by
  subst hpc
  exact fun H locs la ws h1 h2 h3 => lv_i2b C.hx C.hb hdg rfl (kk H locs la ws h1 h2 h3)
theorem aw_dup {v : Value} (C : AWC x cc nL own R ret) (hdg : decode cc pc = .ok (.dup, 1)) (hv : v.category = 1) (hpc : pc + 1 = pc') (kk : AW x Q k n sg pc' ls (v :: v :: st)) : AW x Q k n sg pc ls (v :: st) := by
  subst hpc
  exact fun H locs la ws h1 h2 h3 => lv_dup C.hx C.hb hdg hv (kk H locs la ws h1 h2 h3)
theorem aw_pop {v : Value} (C : AWC x cc nL own R ret) (hdg : decode cc pc = .ok (.pop, 1)) (hv : v.category = 1) (hpc : pc + 1 = pc') (kk : AW x Q k n sg pc' ls (st)) : AW x Q k n sg pc ls (v :: st) := by
  subst hpc
  exact fun H locs la ws h1 h2 h3 => lv_pop C.hx C.hb hdg hv (kk H locs la ws h1 h2 h3)
theorem aw_dup_x1 {v w : Value} (C : AWC x cc nL own R ret) (hdg : decode cc pc = .ok (.dup_x1, 1)) (hv : v.category = 1) (hw : w.category = 1) (hpc : pc + 1 = pc') (kk : AW x Q k n sg pc' ls (v :: w :: v :: st)) : AW x Q k n sg pc ls (v :: w :: st) := by
  subst hpc
  exact fun H locs la ws h1 h2 h3 => lv_dup_x1 C.hx C.hb hdg hv hw (kk H locs la ws h1 h2 h3)
theorem aw_dup2 {v w : Value} (C : AWC x cc nL own R ret) (hdg : decode cc pc = .ok (.dup2, 1)) (hv : v.category = 1) (hw : w.category = 1) (hpc : pc + 1 = pc') (kk : AW x Q k n sg pc' ls (v :: w :: v :: w :: st)) : AW x Q k n sg pc ls (v :: w :: st) := by
  subst hpc
  exact fun H locs la ws h1 h2 h3 => lv_dup2_11 C.hx C.hb hdg hv hw (kk H locs la ws h1 h2 h3)
theorem aw_null  (C : AWC x cc nL own R ret) (hdg : decode cc pc = .ok (.aconst_null, 1)) (hpc : pc + 1 = pc') (kk : AW x Q k n sg pc' ls (.null :: st)) : AW x Q k n sg pc ls (st) := by
  subst hpc
  exact fun H locs la ws h1 h2 h3 => lv_null C.hx C.hb hdg (kk H locs la ws h1 h2 h3)
theorem aw_goto {off : Int} {tgt : Nat} (C : AWC x cc nL own R ret) (hdg : decode cc pc = .ok (.goto off, 3)) (ht : (pc : Int) + off = (tgt : Int)) (kk : AW x Q k n sg tgt ls st) : AW x Q k n sg pc ls st := fun H locs la ws h1 h2 h3 => lv_goto C.hx C.hb hdg ht (kk H locs la ws h1 h2 h3)
theorem aw_if_eq {a : Int32} {off : Int} {tgt : Nat} (C : AWC x cc nL own R ret) (hdg : decode cc pc = .ok (.ifCond .eq off, 3)) (ht : (pc : Int) + off = (tgt : Int)) (hpc : pc + 3 = pc') (kt : a = 0 → AW x Q k n sg tgt ls st) (kf : ¬ a = 0 → AW x Q k n sg pc' ls st) : AW x Q k n sg pc ls (.int a :: st) := by
  subst hpc
  exact fun H locs la ws h1 h2 h3 => lv_if_eq C.hx C.hb hdg ht (fun h => kt h H locs la ws h1 h2 h3) (fun h => kf h H locs la ws h1 h2 h3)
theorem aw_icmp_eq {a b : Int32} {off : Int} {tgt : Nat} (C : AWC x cc nL own R ret) (hdg : decode cc pc = .ok (.if_icmp .eq off, 3)) (ht : (pc : Int) + off = (tgt : Int)) (hpc : pc + 3 = pc') (kt : a = b → AW x Q k n sg tgt ls st) (kf : ¬ a = b → AW x Q k n sg pc' ls st) : AW x Q k n sg pc ls (.int b :: .int a :: st) := by
  subst hpc
  exact fun H locs la ws h1 h2 h3 => lv_icmp_eq C.hx C.hb hdg ht (fun h => kt h H locs la ws h1 h2 h3) (fun h => kf h H locs la ws h1 h2 h3)
theorem aw_if_ne {a : Int32} {off : Int} {tgt : Nat} (C : AWC x cc nL own R ret) (hdg : decode cc pc = .ok (.ifCond .ne off, 3)) (ht : (pc : Int) + off = (tgt : Int)) (hpc : pc + 3 = pc') (kt : ¬ a = 0 → AW x Q k n sg tgt ls st) (kf : a = 0 → AW x Q k n sg pc' ls st) : AW x Q k n sg pc ls (.int a :: st) := by
  subst hpc
  exact fun H locs la ws h1 h2 h3 => lv_if_ne C.hx C.hb hdg ht (fun h => kt h H locs la ws h1 h2 h3) (fun h => kf h H locs la ws h1 h2 h3)
theorem aw_icmp_ne {a b : Int32} {off : Int} {tgt : Nat} (C : AWC x cc nL own R ret) (hdg : decode cc pc = .ok (.if_icmp .ne off, 3)) (ht : (pc : Int) + off = (tgt : Int)) (hpc : pc + 3 = pc') (kt : ¬ a = b → AW x Q k n sg tgt ls st) (kf : a = b → AW x Q k n sg pc' ls st) : AW x Q k n sg pc ls (.int b :: .int a :: st) := by
  subst hpc
  exact fun H locs la ws h1 h2 h3 => lv_icmp_ne C.hx C.hb hdg ht (fun h => kt h H locs la ws h1 h2 h3) (fun h => kf h H locs la ws h1 h2 h3)
theorem aw_if_lt {a : Int32} {off : Int} {tgt : Nat} (C : AWC x cc nL own R ret) (hdg : decode cc pc = .ok (.ifCond .lt off, 3)) (ht : (pc : Int) + off = (tgt : Int)) (hpc : pc + 3 = pc') (kt : a < 0 → AW x Q k n sg tgt ls st) (kf : ¬ a < 0 → AW x Q k n sg pc' ls st) : AW x Q k n sg pc ls (.int a :: st) := by
  subst hpc
  exact fun H locs la ws h1 h2 h3 => lv_if_lt C.hx C.hb hdg ht (fun h => kt h H locs la ws h1 h2 h3) (fun h => kf h H locs la ws h1 h2 h3)
theorem aw_icmp_lt {a b : Int32} {off : Int} {tgt : Nat} (C : AWC x cc nL own R ret) (hdg : decode cc pc = .ok (.if_icmp .lt off, 3)) (ht : (pc : Int) + off = (tgt : Int)) (hpc : pc + 3 = pc') (kt : a < b → AW x Q k n sg tgt ls st) (kf : ¬ a < b → AW x Q k n sg pc' ls st) : AW x Q k n sg pc ls (.int b :: .int a :: st) := by
  subst hpc
  exact fun H locs la ws h1 h2 h3 => lv_icmp_lt C.hx C.hb hdg ht (fun h => kt h H locs la ws h1 h2 h3) (fun h => kf h H locs la ws h1 h2 h3)
theorem aw_if_ge {a : Int32} {off : Int} {tgt : Nat} (C : AWC x cc nL own R ret) (hdg : decode cc pc = .ok (.ifCond .ge off, 3)) (ht : (pc : Int) + off = (tgt : Int)) (hpc : pc + 3 = pc') (kt : 0 ≤ a → AW x Q k n sg tgt ls st) (kf : ¬ 0 ≤ a → AW x Q k n sg pc' ls st) : AW x Q k n sg pc ls (.int a :: st) := by
  subst hpc
  exact fun H locs la ws h1 h2 h3 => lv_if_ge C.hx C.hb hdg ht (fun h => kt h H locs la ws h1 h2 h3) (fun h => kf h H locs la ws h1 h2 h3)
theorem aw_icmp_ge {a b : Int32} {off : Int} {tgt : Nat} (C : AWC x cc nL own R ret) (hdg : decode cc pc = .ok (.if_icmp .ge off, 3)) (ht : (pc : Int) + off = (tgt : Int)) (hpc : pc + 3 = pc') (kt : b ≤ a → AW x Q k n sg tgt ls st) (kf : ¬ b ≤ a → AW x Q k n sg pc' ls st) : AW x Q k n sg pc ls (.int b :: .int a :: st) := by
  subst hpc
  exact fun H locs la ws h1 h2 h3 => lv_icmp_ge C.hx C.hb hdg ht (fun h => kt h H locs la ws h1 h2 h3) (fun h => kf h H locs la ws h1 h2 h3)
theorem aw_if_gt {a : Int32} {off : Int} {tgt : Nat} (C : AWC x cc nL own R ret) (hdg : decode cc pc = .ok (.ifCond .gt off, 3)) (ht : (pc : Int) + off = (tgt : Int)) (hpc : pc + 3 = pc') (kt : 0 < a → AW x Q k n sg tgt ls st) (kf : ¬ 0 < a → AW x Q k n sg pc' ls st) : AW x Q k n sg pc ls (.int a :: st) := by
  subst hpc
  exact fun H locs la ws h1 h2 h3 => lv_if_gt C.hx C.hb hdg ht (fun h => kt h H locs la ws h1 h2 h3) (fun h => kf h H locs la ws h1 h2 h3)
theorem aw_icmp_gt {a b : Int32} {off : Int} {tgt : Nat} (C : AWC x cc nL own R ret) (hdg : decode cc pc = .ok (.if_icmp .gt off, 3)) (ht : (pc : Int) + off = (tgt : Int)) (hpc : pc + 3 = pc') (kt : b < a → AW x Q k n sg tgt ls st) (kf : ¬ b < a → AW x Q k n sg pc' ls st) : AW x Q k n sg pc ls (.int b :: .int a :: st) := by
  subst hpc
  exact fun H locs la ws h1 h2 h3 => lv_icmp_gt C.hx C.hb hdg ht (fun h => kt h H locs la ws h1 h2 h3) (fun h => kf h H locs la ws h1 h2 h3)
theorem aw_if_le {a : Int32} {off : Int} {tgt : Nat} (C : AWC x cc nL own R ret) (hdg : decode cc pc = .ok (.ifCond .le off, 3)) (ht : (pc : Int) + off = (tgt : Int)) (hpc : pc + 3 = pc') (kt : a ≤ 0 → AW x Q k n sg tgt ls st) (kf : ¬ a ≤ 0 → AW x Q k n sg pc' ls st) : AW x Q k n sg pc ls (.int a :: st) := by
  subst hpc
  exact fun H locs la ws h1 h2 h3 => lv_if_le C.hx C.hb hdg ht (fun h => kt h H locs la ws h1 h2 h3) (fun h => kf h H locs la ws h1 h2 h3)
theorem aw_icmp_le {a b : Int32} {off : Int} {tgt : Nat} (C : AWC x cc nL own R ret) (hdg : decode cc pc = .ok (.if_icmp .le off, 3)) (ht : (pc : Int) + off = (tgt : Int)) (hpc : pc + 3 = pc') (kt : a ≤ b → AW x Q k n sg tgt ls st) (kf : ¬ a ≤ b → AW x Q k n sg pc' ls st) : AW x Q k n sg pc ls (.int b :: .int a :: st) := by
  subst hpc
  exact fun H locs la ws h1 h2 h3 => lv_icmp_le C.hx C.hb hdg ht (fun h => kt h H locs la ws h1 h2 h3) (fun h => kf h H locs la ws h1 h2 h3)
theorem aw_ifnull {r : Option Nat} {off : Int} {tgt : Nat} (C : AWC x cc nL own R ret) (hdg : decode cc pc = .ok (.ifnull off, 3)) (ht : (pc : Int) + off = (tgt : Int)) (hpc : pc + 3 = pc') (kt : r = none → AW x Q k n sg tgt ls st) (kf : ∀ a, r = some a → AW x Q k n sg pc' ls st) : AW x Q k n sg pc ls (va_rf r :: st) := by
  subst hpc
  cases r with
  | none => exact fun H locs la ws h1 h2 h3 => lv_ifnullN C.hx C.hb hdg ht (kt rfl H locs la ws h1 h2 h3)
  | some a => exact fun H locs la ws h1 h2 h3 => lv_ifnull C.hx C.hb hdg (kf a rfl H locs la ws h1 h2 h3)
theorem aw_ifnonnull {r : Option Nat} {off : Int} {tgt : Nat} (C : AWC x cc nL own R ret) (hdg : decode cc pc = .ok (.ifnonnull off, 3)) (ht : (pc : Int) + off = (tgt : Int)) (hpc : pc + 3 = pc') (kt : ∀ a, r = some a → AW x Q k n sg tgt ls st) (kf : r = none → AW x Q k n sg pc' ls st) : AW x Q k n sg pc ls (va_rf r :: st) := by
  subst hpc
  cases r with
  | none => exact fun H locs la ws h1 h2 h3 => lv_ifnonnullN C.hx C.hb hdg (kf rfl H locs la ws h1 h2 h3)
  | some a => exact fun H locs la ws h1 h2 h3 => lv_ifnonnull C.hx C.hb hdg ht (kt a rfl H locs la ws h1 h2 h3)
theorem aw_acmp_eq {rx ry : Option Nat} {off : Int} {tgt : Nat} (C : AWC x cc nL own R ret) (hdg : decode cc pc = .ok (.if_acmp .eq off, 3)) (ht : (pc : Int) + off = (tgt : Int)) (hpc : pc + 3 = pc') (kt : rx = ry → AW x Q k n sg tgt ls st) (kf : ¬ rx = ry → AW x Q k n sg pc' ls st) : AW x Q k n sg pc ls (va_rf ry :: va_rf rx :: st) := by
  subst hpc
  exact fun H locs la ws h1 h2 h3 => lv_acmp_eq C.hx C.hb hdg ht (fun h => kt h H locs la ws h1 h2 h3) (fun h => kf h H locs la ws h1 h2 h3)
theorem aw_acmp_ne {rx ry : Option Nat} {off : Int} {tgt : Nat} (C : AWC x cc nL own R ret) (hdg : decode cc pc = .ok (.if_acmp .ne off, 3)) (ht : (pc : Int) + off = (tgt : Int)) (hpc : pc + 3 = pc') (kt : ¬ rx = ry → AW x Q k n sg tgt ls st) (kf : rx = ry → AW x Q k n sg pc' ls st) : AW x Q k n sg pc ls (va_rf ry :: va_rf rx :: st) := by
  subst hpc
  exact fun H locs la ws h1 h2 h3 => lv_acmp_ne C.hx C.hb hdg ht (fun h => kt h H locs la ws h1 h2 h3) (fun h => kf h H locs la ws h1 h2 h3)
theorem aw_tableOut {dflt lo hi : Int} {offs : Array Int} {len : Nat} {a : Int32} {tgt : Nat} (C : AWC x cc nL own R ret) (hdg : decode cc pc = .ok (.tableswitch dflt lo hi offs, len)) (h : a.toInt < lo ∨ hi < a.toInt) (ht : (pc : Int) + dflt = (tgt : Int)) (kk : AW x Q k n sg tgt ls st) : AW x Q k n sg pc ls (.int a :: st) := fun H locs la ws h1 h2 h3 => lv_tableOut C.hx C.hb hdg h ht (kk H locs la ws h1 h2 h3)
theorem aw_tableIn {dflt lo hi : Int} {offs : Array Int} {len : Nat} {a : Int32} {off : Int} {tgt : Nat} (C : AWC x cc nL own R ret) (hdg : decode cc pc = .ok (.tableswitch dflt lo hi offs, len)) (h1 : ¬ a.toInt < lo) (h2 : ¬ hi < a.toInt) (ho : offs[(a.toInt - lo).toNat]? = some off) (ht : (pc : Int) + off = (tgt : Int)) (kk : AW x Q k n sg tgt ls st) : AW x Q k n sg pc ls (.int a :: st) := fun H locs la ws q1 q2 q3 => lv_tableIn C.hx C.hb hdg h1 h2 ho ht (kk H locs la ws q1 q2 q3)
theorem aw_lookup {dflt : Int} {ps : Array (Int × Int)} {len : Nat} {a : Int32} {off : Int} {tgt : Nat} (C : AWC x cc nL own R ret) (hdg : decode cc pc = .ok (.lookupswitch dflt ps, len)) (hp : (ps.toList.zip (ps.toList.drop 1)).all (fun (a, next) => a.1 < next.1) = true) (ho : Op.lookupswitch.offset ps.toList dflt a.toInt = off) (ht : (pc : Int) + off = (tgt : Int)) (kk : AW x Q k n sg tgt ls st) : AW x Q k n sg pc ls (.int a :: st) := fun H locs la ws q1 q2 q3 => lv_lookup C.hx C.hb hdg hp ho ht (kk H locs la ws q1 q2 q3)
end AWR
