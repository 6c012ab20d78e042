/-! further rows: statics, arrays of references, casts, class objects, Math -/
theorem h_maxS : Cond.static Lib.Math.max.name ∈ WS := ws_of 296 (by decide +kernel)
set_option maxRecDepth 100000 in
theorem h_maxC : Cond.code Lib.Math.max.name Lib.Math.max.code 2 (some .int) ∈ WS := aw_mem_ws (i := 297) rfl rfl
theorem h_minS : Cond.static Lib.Math.min.name ∈ WS := ws_of 330 (by decide +kernel)
set_option maxRecDepth 100000 in
theorem h_minC : Cond.code Lib.Math.min.name Lib.Math.min.code 2 (some .int) ∈ WS := aw_mem_ws (i := 331) rfl rfl
theorem h_iniMath : Cond.initialized "java/lang/Math" ∈ WS := ws_of 59 (by decide +kernel)
theorem h_iniSys : Cond.initialized "java/lang/System" ∈ WS := ws_of 61 (by decide +kernel)
theorem h_copS : Cond.static arraycopyName ∈ WS := ws_of 333 (by decide +kernel)
theorem h_copN : Cond.native arraycopyName ∈ WS := ws_of 334 (by decide +kernel)
/-- the classes whose objects lie in rows of Object -/
def isObj (ci : Nat) : Bool := ci == 2 || (ci == 3 || (ci == 7 || ci == 9))
theorem h_obj {ci : Nat} (h : isObj ci = true) : ∃ r, vwCl[ci]? = some r ∧ Cond.castable r.1 "java/lang/Object" ∈ WS := by
  simp only [isObj, Bool.or_eq_true, beq_iff_eq] at h
  rcases h with rfl | rfl | rfl | rfl
  · exact ⟨_, rfl, ws_of 1156 (by decide +kernel)⟩
  · exact ⟨_, rfl, ws_of 1160 (by decide +kernel)⟩
  · exact ⟨_, rfl, ws_of 1153 (by decide +kernel)⟩
  · exact ⟨_, rfl, ws_of 1155 (by decide +kernel)⟩
section AW2
variable {x : Cx} {Q : State → Prop} {k n : Nat} {sg : Sg} {pc : Nat} {ls : List (Nat × Value)} {st : List Value} {cc : ByteArray} {nL : Nat} {own : String} {R : Room} {ret : Option FieldType} {pc' : Nat}
theorem aw_iushr {a b : Int32} (C : AWC x cc nL own R ret) (hdg : decode cc pc = .ok (.iushr, 1)) (hpc : pc + 1 = pc') (kk : AW x Q k n sg pc' ls (.int ((a.toUInt32 >>> (b.toUInt32 &&& Int32.toUInt32 31)).toInt32) :: st)) : AW x Q k n sg pc ls (.int b :: .int a :: st) := by
  subst hpc
  exact fun H locs la ws h1 h2 h3 => lv_iushr C.hx C.hb hdg rfl (kk H locs la ws h1 h2 h3)
theorem aw_gets {Cn nn d : String} {v : Value} {idx : Nat} (C : AWC x cc nL own R ret) (hZ : va_Z Cn nn d v x.g.A x.s x.s.heap) (hl : Cond.fieldLink own idx Cn nn d ∈ WS) (hdg : decode cc pc = .ok (.getstatic idx, 3)) (hpc : pc + 3 = pc') (kk : AW x Q k n sg pc' ls (v :: st)) : AW x Q k n sg pc ls st := by
  subst hpc
  exact fun H locs la ws h1 h2 h3 => va_gets C.hx C.hb hZ h2 C.hown (C.hts _ hl) (fun _ h => h) hdg (kk H locs la ws h1 h2 h3)
theorem aw_alenT {ty : FieldType} {t N : Nat} {f : Nat → Value} (C : AWC x cc nL own R ret) (hT : va_T ty t N f x.g.A x.s x.s.heap) (hdg : decode cc pc = .ok (.arraylength, 1)) (hpc : pc + 1 = pc') (kk : AW x Q k n sg pc' ls (.int (nI N) :: st)) : AW x Q k n sg pc ls (.ref t :: st) := by
  subst hpc
  exact fun H locs la ws h1 h2 h3 => va_tlen C.hx C.hb hT h2 rfl hdg (kk H locs la ws h1 h2 h3)
theorem aw_bald {a N : Nat} {f : Nat → Int32} {i : Int32} (C : AWC x cc nL own R ret) (hs : sg a = some (arB x.g N f)) (hi : vp_in i N) (hdg : decode cc pc = .ok (.baload, 1)) (hpc : pc + 1 = pc') (kk : AW x Q k n sg pc' ls (.int (f i.toNatClampNeg) :: st)) : AW x Q k n sg pc ls (.int i :: .ref a :: st) := by
  subst hpc
  intro H locs la ws h1 h2 h3
  obtain ⟨q0, hq⟩ := h1.at hs
  exact va_bald C.hx C.hb C.env.1 h1.1 q0 4 hq rfl hi hdg (kk H locs la ws h1 h2 h3)
theorem aw_bast {a N : Nat} {f : Nat → Int32} {i v : Int32} (C : AWC x cc nL own R ret) (hs : sg a = some (arB x.g N f)) (hi : vp_in i N) (hv : vp_nar .byte v = v) (hdg : decode cc pc = .ok (.bastore, 1)) (hpc : pc + 1 = pc') (kk : AW x Q k n (sgu sg a (arB x.g N (upd f i.toNatClampNeg v))) pc' ls st) : AW x Q k n sg pc ls (.int v :: .int i :: .ref a :: st) := by
  subst hpc
  intro H locs la ws h1 h2 h3
  obtain ⟨q0, hq⟩ := h1.at hs
  exact va_bast C.hx C.hb C.env.1 h1.1 h1.2.1 h2 q0 4 hq rfl hi hdg (by rw [hv]; exact fun H1 l1 p1 d1 s1 => kk H1 l1 la _ (h1.set hq p1 d1) s1 h3)
theorem aw_bldT {t N : Nat} {f : Nat → Value} {i : Int32} {v : Value} (C : AWC x cc nL own R ret) (hT : va_T .byte t N f x.g.A x.s x.s.heap) (hi : vp_in i N) (hv : f i.toNatClampNeg = v) (hdg : decode cc pc = .ok (.baload, 1)) (hpc : pc + 1 = pc') (kk : AW x Q k n sg pc' ls (v :: st)) : AW x Q k n sg pc ls (.int i :: .ref t :: st) := by
  subst hpc
  exact fun H locs la ws h1 h2 h3 => va_tb C.hx C.hb hT h2 hi hv hdg (kk H locs la ws h1 h2 h3)
theorem aw_newO {idx : Nat} {i : Int32} {N : Nat} (C : AWC x cc nL own R ret) (hov : va_AO "java/lang/Object" x.s) (hcl : Cond.classLink own idx "java/lang/Object" ∈ WS) (hn : ¬ i < 0) (hN : i.toNatClampNeg = N) (hbytes : N * 4 ≤ 536870912) (hcells : k + 1 ≤ R.cells) (hslots : n + N ≤ R.slots) (hdg : decode cc pc = .ok (.anewarray idx, 3)) (hpc : pc + 3 = pc') (kk : ∀ q, sg q = none → AW x Q (k + 1) (n + N) (sgu sg q (arO x.g N (fun _ => none))) pc' ls (.ref q :: st)) : AW x Q k n sg pc ls (.int i :: st) := by
  subst hpc
  intro H locs la ws h1 h2 h3
  refine va_newq C.hx C.hb C.hown (C.hts _ hcl) hov C.env.1 h1.1 h1.2.1 h2 (fun q hq => Nat.le_trans C.env.2.1 hq) hn hN hbytes (by rw [C.room]; exact hcells) (by rw [C.room]; exact hslots) hdg (fun q cA H1 k1 p1 d1 s1 => ?_)
  have e1 : va_RA x.s cA (.object "java/lang/Object") := (k1.2 x.g.tys.length (cA, .object "java/lang/Object") (by rw [List.getElem?_append_right (Nat.le_refl _), Nat.sub_self]; rfl)).2
  have e2 : va_RA x.s (x.g.ca 3) (.object "java/lang/Object") := (C.env.1.2 3 _ rfl).2
  have e3 : cA = x.g.ca 3 := by
    obtain ⟨-, -, -, -, -, z1⟩ := e1
    obtain ⟨-, -, -, -, -, z2⟩ := e2
    exact Option.some.inj (z1.symm.trans z2)
  subst e3
  obtain ⟨hq, hp⟩ := h1.push p1 d1
  exact kk q hq H1 locs la _ hp s1 h3
theorem aw_astO {a N v ci : Nat} {f : Nat → Option Nat} {fs : List Value} {i : Int32} (C : AWC x cc nL own R ret) (hs : sg a = some (arO x.g N f)) (hv : sg v = some (ob ci fs)) (ho : isObj ci = true) (hi : vp_in i N) (hdg : decode cc pc = .ok (.aastore, 1)) (hpc : pc + 1 = pc') (kk : AW x Q k n (sgu sg a (arO x.g N (va_up f i.toNatClampNeg (some v)))) pc' ls st) : AW x Q k n sg pc ls (.ref v :: .int i :: .ref a :: st) := by
  subst hpc
  intro H locs la ws h1 h2 h3
  obtain ⟨q0, hq⟩ := h1.at hs
  obtain ⟨qk, hqk⟩ := h1.at hv
  obtain ⟨r, hr, hc⟩ := h_obj ho
  exact va_astqO C.hx C.hb C.env.1 h1.1 h1.2.1 h2 q0 3 qk ci hq rfl (va_Nw.of rfl (C.hts _ hc)) hqk hr hi hdg (fun H1 l1 p1 d1 s1 => kk H1 l1 la _ (h1.set hq p1 d1) s1 h3)
theorem aw_cast {idx ci N a : Nat} {nm : String} {T : u_T} {fs : List Value} (C : AWC x cc nL own R ret) (hl : Cond.classLink own idx nm ∈ WS) (hc : vwCl[ci]? = some (nm, T, N)) (hs : sg a = some (ob ci fs)) (hdg : decode cc pc = .ok (.checkcast idx, 3)) (hpc : pc + 3 = pc') (kk : AW x Q k n sg pc' ls (.ref a :: st)) : AW x Q k n sg pc ls (.ref a :: st) := by
  subst hpc
  intro H locs la ws h1 h2 h3
  obtain ⟨q0, hq⟩ := h1.at hs
  exact va_castS C.hx C.hb C.hown (C.hts _ hl) (C.env.1.1 ci _ hc).2 (va_recv C.env.1 h1.1 hc hq) hdg (kk H locs la ws h1 h2 h3)
theorem aw_ldcM {idx mi : Nat} {nm : String} (C : AWC x cc nL own R ret) (hl : Cond.classLink own idx nm ∈ WS) (hM : va_Mi nm mi x.s) (hdg : decode cc pc = .ok (.ldc idx, 2)) (hpc : pc + 2 = pc') (kk : AW x Q k n sg pc' ls (.ref mi :: st)) : AW x Q k n sg pc ls st := by
  subst hpc
  exact fun H locs la ws h1 h2 h3 => va_ldcM C.hx C.hb C.hown (C.hts _ hl) hM hdg (kk H locs la ws h1 h2 h3)
theorem aw_getC {idx mi a N : Nat} {f : Nat → Option Nat} (C : AWC x cc nL own R ret) (hl : Cond.methodLink own idx ⟨"java/lang/Object", "getClass", "()Ljava/lang/Class;"⟩ ∈ WS) (hd : Cond.declares ⟨"java/lang/Object", "getClass", "()Ljava/lang/Class;"⟩ ∈ WS) (hse : Cond.selects "[Ljava/lang/Object;" ⟨"java/lang/Object", "getClass", "()Ljava/lang/Class;"⟩ ⟨"java/lang/Object", "getClass", "()Ljava/lang/Class;"⟩ ∈ WS) (hi : Cond.instanceMethod ⟨"java/lang/Object", "getClass", "()Ljava/lang/Class;"⟩ ∈ WS) (hna : Cond.native ⟨"java/lang/Object", "getClass", "()Ljava/lang/Class;"⟩ ∈ WS) (hM : va_Mi "[Ljava/lang/Object;" mi x.s) (hs : sg a = some (arO x.g N f)) (hfr : 1 ≤ R.frames) (hlo : (st.map fun v => v.category).sum + 14 ≤ R.locals) (hdg : decode cc pc = .ok (.invokevirtual idx, 3)) (hpc : pc + 3 = pc') (kk : AW x Q k n sg pc' ls (.ref mi :: st)) : AW x Q k n sg pc ls (.ref a :: st) := by
  subst hpc
  intro H locs la ws h1 h2 h3
  obtain ⟨q0, hq⟩ := h1.at hs
  have hnm : x.s.vm.findClass "[Ljava/lang/Object;" = some (x.g.ca 3) := va_nmO (C.env.1.2 3 _ rfl).2 (by decide)
  have hcell := h1.1 q0 _ hq
  have hr : ∃ cell : Cell, H[a]? = some cell ∧ cell.vm.isStatics = false ∧ x.s.vm.findClass "[Ljava/lang/Object;" = some cell.cls := ⟨_, hcell, rfl, hnm⟩
  exact va_getC C.hx C.hb h3.1.symm C.hown (C.hts _ hl) (C.hts _ hd) (C.hts _ hse) (C.hts _ hi) (C.hts _ hna) hM hr (by rw [C.room]; exact hfr) (by rw [C.room]; exact hlo) hdg (kk H locs la ws h1 h2 h3)
theorem aw_copyO {idx a b N M ci : Nat} {f g : Nat → Option Nat} {sp dp m : Int32} (C : AWC x cc nL own R ret) (hl : Cond.methodLink own idx arraycopyName ∈ WS) (hsa : sg a = some (arO x.g N f)) (hsb : sg b = some (arO x.g M g)) (ho : isObj ci = true) (h1 : ¬ sp < 0) (h2 : ¬ dp < 0) (h3 : ¬ m < 0) (h4 : sp.toNatClampNeg + m.toNatClampNeg ≤ N) (h5 : dp.toNatClampNeg + m.toNatClampNeg ≤ M) (hel : ∀ i : Nat, i < m.toNatClampNeg → ∀ y : Nat, f (sp.toNatClampNeg + i) = some y → ∃ fs, sg y = some (ob ci fs))
    (hfr : 1 ≤ R.frames) (hlo : (st.map fun v => v.category).sum + 30 ≤ R.locals) (hdg : decode cc pc = .ok (.invokestatic idx, 3)) (hpc : pc + 3 = pc') (kk : AW x Q k n (sgu sg b (arO x.g M (va_cpy f g sp.toNatClampNeg dp.toNatClampNeg m.toNatClampNeg))) pc' ls st) : AW x Q k n sg pc ls (.int m :: .int dp :: .ref b :: .int sp :: .ref a :: st) := by
  subst hpc
  intro H locs la ws g1 g2 g3
  obtain ⟨q0, hq⟩ := g1.at hsa
  obtain ⟨q1, hq1⟩ := g1.at hsb
  obtain ⟨r, hr, hc⟩ := h_obj ho
  refine va_copyq (C := r.1) C.hx C.hb g3.1.symm C.hown (C.hts _ hl) (C.hts _ h_copN) (C.hts _ h_copS) (C.hts _ h_iniSys) C.env.1 g1.1 g1.2.1 g2 q0 q1 3 3 hq hq1 rfl rfl h1 h2 h3 h4 h5 (fun i hi y hy => ?_) (fun comp c0 k1 k2 => ?_) (by rw [C.room]; exact hfr) (by rw [C.room]; have hw : nativeFrameWords "java/lang/System" "arraycopy" 5 ≤ 19 := (by decide); omega) hdg (fun H1 l1 p1 d1 s1 => kk H1 l1 la _ (g1.set hq1 p1 d1) s1 g3)
  · obtain ⟨fs, hfs⟩ := hel i hi y hy
    obtain ⟨q2, hq2⟩ := g1.at hfs
    exact va_recv C.env.1 g1.1 hr hq2
  · obtain ⟨c1, t1, f1, f2, f3⟩ := Cond.castable_spec (C.hts _ hc)
    cases k2.symm.trans f1
    cases k1.symm.trans f2
    exact f3
theorem aw_max {idx : Nat} {a b : Int32} (C : AWC x cc nL own R ret) (hl : Cond.methodLink own idx Lib.Math.max.name ∈ WS) (hfr : 1 ≤ R.frames) (hlo : (st.map fun v => v.category).sum + 13 ≤ R.locals) (hc : k ≤ R.cells) (hs : n ≤ R.slots) (hdg : decode cc pc = .ok (.invokestatic idx, 3)) (hpc : pc + 3 = pc') (kk : AW x Q k n sg pc' ls (.int (if a < b then b else a) :: st)) : AW x Q k n sg pc ls (.int b :: .int a :: st) := by
  subst hpc
  exact fun H locs la ws h1 h2 h3 => va_mmax C.hx C.hb h3.1.symm C.hown (C.hts _ hl) (C.hts _ h_maxS) (C.hts _ h_iniMath) (C.hts _ h_maxC) (by rw [C.room]; exact hfr) (by rw [C.room]; exact hlo) (by rw [C.room]; exact hc) (by rw [C.room]; exact hs) hdg (kk H locs la ws h1 h2 h3)
theorem aw_min {idx : Nat} {a b : Int32} (C : AWC x cc nL own R ret) (hl : Cond.methodLink own idx Lib.Math.min.name ∈ WS) (hfr : 1 ≤ R.frames) (hlo : (st.map fun v => v.category).sum + 13 ≤ R.locals) (hc : k ≤ R.cells) (hs : n ≤ R.slots) (hdg : decode cc pc = .ok (.invokestatic idx, 3)) (hpc : pc + 3 = pc') (kk : AW x Q k n sg pc' ls (.int (if b < a then b else a) :: st)) : AW x Q k n sg pc ls (.int b :: .int a :: st) := by
  subst hpc
  exact fun H locs la ws h1 h2 h3 => va_mmin C.hx C.hb h3.1.symm C.hown (C.hts _ hl) (C.hts _ h_minS) (C.hts _ h_iniMath) (C.hts _ h_minC) (by rw [C.room]; exact hfr) (by rw [C.room]; exact hlo) (by rw [C.room]; exact hc) (by rw [C.room]; exact hs) hdg (kk H locs la ws h1 h2 h3)
end AW2
