/-! calls of inherited methods: by invokevirtual on a private or inherited one, by super -/
theorem cls_ni {x y z : MethodName} {C : String} {s : State} {args : Array Value} {mk : MethodId} (hnamed : s.methodNamed? y = some mk) (hz : z.cls = y.cls) (hsel : (Cond.selects C x z).before args s = true) : (s.vm.classes[mk.cls]?).any (fun q => !q.isInterface) = true := by
  simp only [Cond.before, Cond.holds, Cond.value] at hsel
  split at hsel
  · next c2 r m e0 e1 e3 =>
    have f1 := findClass_of_methodNamed hnamed
    have f2 := findClass_of_methodNamed e3
    rw [hz, f1] at f2
    rw [Option.some.inj f2]
    split at hsel
    · simp at hsel
      obtain ⟨-, h2⟩ := hsel
      simpa using h2
    · simp at hsel
  · simp at hsel
theorem sel_priv {x y z : MethodName} {C : String} {s : State} {args : Array Value} {n : Nat} (hy : y.cls ≠ "java/lang/invoke/MethodHandle" ∧ y.cls ≠ "java/lang/invoke/VarHandle") (hins : (Cond.instantiable C n).before args s = true) (hpriv : (Cond.privateMethod y).before args s = true) (hinst : (Cond.instanceMethod y).before args s = true) (hz : z.cls = y.cls) (hsel : (Cond.selects C x z).before args s = true) : (Cond.selects C y y).before args s = true := by
  obtain ⟨c, k, hc, hk, -, -, -, -⟩ := Cond.instantiable_spec hins
  obtain ⟨mk, methM, hnamed, hmethM, -, -⟩ := Cond.instanceMethod_spec hinst
  have hfound : s.methodFound? y.cls y.name y.desc = some mk := State.methodFound?_of_named hnamed hy
  have hsl : selectMethod {} s.vm c mk = .method mk := selectMethod_private hmethM (Cond.privateMethod_at hpriv mk methM hnamed hmethM)
  have hcls := cls_ni hnamed hz hsel
  simp only [Cond.before, Cond.holds, Cond.value, hc, hfound, hnamed, hsl]
  simp
  simpa using hcls
theorem same_of {x y z : MethodName} {C : String} {s : State} {args : Array Value} (hy : y.cls ≠ "java/lang/invoke/MethodHandle" ∧ y.cls ≠ "java/lang/invoke/VarHandle") (hinst : (Cond.instanceMethod y).before args s = true) (hz : z.cls = y.cls) (hsel : (Cond.selects C x z).before args s = true) : (Cond.sameMethod y.cls y.cls y.name y.desc).before args s = true := by
  obtain ⟨mk, methM, hnamed, hmethM, -, -⟩ := Cond.instanceMethod_spec hinst
  have hfound : s.methodFound? y.cls y.name y.desc = some mk := State.methodFound?_of_named hnamed hy
  have hcls := cls_ni hnamed hz hsel
  have hf := findClass_of_methodNamed hnamed
  have hnamed2 : s.methodNamed? ⟨y.cls, y.name, y.desc⟩ = some mk := hnamed
  simp only [Cond.before, Cond.holds, Cond.value, hf, hfound, hnamed2]
  simp
  simpa using hcls
section AWSup
variable {x : Cx} {Q : State → Prop} {k n : Nat} {sg : Sg} {pc : Nat} {ls : List (Nat × Value)} {st : List Value} {cc : ByteArray} {nL : Nat} {own : String} {R : Room} {ret : Option FieldType} {pc' : Nat}
variable {idx np maxL : Nat} {y : MethodName} {bytes : ByteArray} {rt : Option FieldType} {rm : Room} {As : List Value} {P : Option Value → Sg → Prop} {PX : String → Sg → Prop} {st0 : List Value} {b ci : Nat} {fs : List Value} {T : u_T} {N : Nat} {Cn : String}
/-- invokevirtual on a method that the receiver's class inherits -/
theorem aw_callC (C : AWC x cc nL own R ret) (L : KB own idx y bytes maxL rt np) (hl : Cond.methodLink own idx y ∈ WS) (hi : Cond.instanceMethod y ∈ WS) (hsel : (Cond.selects Cn y y).before x.args x.s = true) (hM : MM x.g x.l y bytes maxL rt rm sg (.ref b :: As) P PX) (hR : RmOk rm R maxL) (hci : vwCl[ci]? = some (Cn, T, N)) (hs : sg b = some (ob ci fs)) (hn : As.length = np) (hst : st0 = As.reverse ++ .ref b :: st) (hW : (st.map fun v => v.category).sum ≤ 8) (hc : k + rm.cells ≤ R.cells) (hsl : n + rm.slots ≤ R.slots) (hdg : decode cc pc = .ok (.invokevirtual idx, 3)) (hpc : pc + 3 = pc')
    (kx : ∀ E sg', PX E sg' → AX x Q (k + rm.cells) (n + rm.slots) sg' pc ls E) (kk : ∀ v sg', P v sg' → AW x Q (k + rm.cells) (n + rm.slots) sg' pc' ls (v.toList ++ st)) : AW x Q k n sg pc ls st0 := by
  refine aw_run (a := (Value.ref b :: As).toArray) (rest := st) (fun H locs la ws h1 h2 h3 => ?_) hpc kx kk
  obtain ⟨q0, hq⟩ := h1.at hs
  exact vx_runV (Ts := WS) ⟨C.hx, C.hb, C.hml, C.hown, C.hts⟩ hM ⟨aw_callB C L hl hR, C.hts _ hi, hsel⟩ ⟨preC_blind C.stab, va_recv C.env.1 h1.1 hci hq, aw_pre C h1 h2⟩ rfl hn (by rw [← C.hml]; exact h3.1) hst (lv_room hW) hdg (by rw [C.room]; exact ⟨hc, hsl⟩)
/-- super.m(..) -/
theorem aw_callSU {zx z : MethodName} {zC : String} {m0 : Nat} (C : AWC x cc nL own R ret) (L : KB own idx y bytes maxL rt np) (hl : Cond.methodLink own idx y ∈ WS) (hi : Cond.instanceMethod y ∈ WS) (hsup : Cond.superclass own y.cls ∈ WS) (hz : z.cls = y.cls) (hsz : Cond.selects zC zx z ∈ WS) (hno : y.name ≠ "<init>") (hins : Cond.instantiable Cn m0 ∈ WS) (hM : MM x.g x.l y bytes maxL rt rm sg (.ref b :: As) P PX) (hR : RmOk rm R maxL) (hci : vwCl[ci]? = some (Cn, T, N)) (hs : sg b = some (ob ci fs)) (hn : As.length = np) (hst : st0 = As.reverse ++ .ref b :: st) (hW : (st.map fun v => v.category).sum ≤ 8) (hc : k + rm.cells ≤ R.cells) (hsl : n + rm.slots ≤ R.slots) (hdg : decode cc pc = .ok (.invokespecial idx, 3)) (hpc : pc + 3 = pc')
    (kx : ∀ E sg', PX E sg' → AX x Q (k + rm.cells) (n + rm.slots) sg' pc ls E) (kk : ∀ v sg', P v sg' → AW x Q (k + rm.cells) (n + rm.slots) sg' pc' ls (v.toList ++ st)) : AW x Q k n sg pc ls st0 := by
  refine aw_run (a := (Value.ref b :: As).toArray) (rest := st) (fun H locs la ws h1 h2 h3 => ?_) hpc kx kk
  obtain ⟨q0, hq⟩ := h1.at hs
  obtain ⟨c, kc, hcl, hk, ho, -, -, -⟩ := Cond.instantiable_spec (C.hts _ hins)
  have hB := aw_callB C L hl hR
  exact vx_runSU (Ts := WS) ⟨hcl, kc, hk, ho⟩ ⟨C.hx, C.hb, C.hml, C.hown, C.hts⟩ hM ⟨⟨rfl, rfl, by rw [C.room]; exact hR.1, by rw [C.room]; exact hR.2, ws_pay C.hts L.1, List.mem_cons_self⟩, C.hts _ hl, same_of L.2.2.1 (C.hts _ hi) hz (C.hts _ hsz), C.hts _ hsup, C.hts _ hi, C.hts _ L.2.1, C.hts _ L.1, hno, fun sig hs2 => (by have h := L.2.2.2; rw [hs2] at h; exact (Option.some.inj h).symm)⟩ ⟨preC_blind C.stab, va_recv C.env.1 h1.1 hci hq, aw_pre C h1 h2⟩ rfl hn (by rw [← C.hml]; exact h3.1) hst (lv_room hW) hdg (by rw [C.room]; exact ⟨hc, hsl⟩)
end AWSup
