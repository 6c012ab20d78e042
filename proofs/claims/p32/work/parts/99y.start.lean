/-! the start: what the launch gives -/
abbrev nwL : List Cond := flatC (Cond.and given_1 narrow_1)
theorem lw_of {w : Cond} (i : Nat) (h : (lw_tbl[i]?).any (fun v => decide (v = w)) = true) : w ∈ lw_tbl := by
  cases hv : lw_tbl[i]? with
  | none => rw [hv] at h; cases h
  | some v =>
    rw [hv] at h
    simp only [Option.any_some, decide_eq_true_eq] at h
    subst h
    exact List.mem_of_getElem? hv
theorem nw_of {w : Cond} (i : Nat) (h : (nwL[i]?).any (fun v => decide (v = w)) = true) : w ∈ nwL := by
  cases hv : nwL[i]? with
  | none => rw [hv] at h; cases h
  | some v =>
    rw [hv] at h
    simp only [Option.any_some, decide_eq_true_eq] at h
    subst h
    exact List.mem_of_getElem? hv
theorem nw_ones : ∀ j, j < 100 → (nwL[18 + j]?).any (fun v => decide (v = Cond.eq (.elem (.static "java/lang/Integer" "DigitOnes" "[B") (.int (Int32.ofNat j))) (.int (nI (48 + j % 10))))) = true := by decide +kernel
theorem nw_tens : ∀ j, j < 100 → (nwL[121 + j]?).any (fun v => decide (v = Cond.eq (.elem (.static "java/lang/Integer" "DigitTens" "[B") (.int (Int32.ofNat j))) (.int (nI (48 + j / 10))))) = true := by decide +kernel
def vpl : List (Nat × Nat) := [(196, 235), (236, 258), (354, 282), (856, 1162), (862, 1194), (448, 506), (871, 1236), (376, 309), (377, 334), (432, 403), (439, 429), (444, 484), (538, 529), (570, 576), (579, 627), (591, 652), (621, 692), (626, 722), (635, 759), (647, 802), (662, 834), (955, 1311), (972, 1340), (677, 856), (682, 883), (691, 928), (703, 949), (770, 999), (811, 1065), (846, 1085), (847, 1122), (954, 1285), (196, 235), (949, 1266), (410, 378)]
theorem vpl_fst : (vstr.zip vpl).map Prod.fst = vstr := by decide +kernel
theorem vpl_ok : (vstr.zip vpl).all (fun z => (lw_tbl[z.2.1]?).any (fun v => decide (v = Cond.stringRef RX8 z.1.1 z.1.2)) && (nwL[z.2.2]?).any (fun v => decide (v = Cond.exactly (.string RX8 z.1.1) "java/lang/String"))) = true := by decide +kernel
theorem vstr_at {q : Nat × String} (h : q ∈ vstr) : Cond.stringRef RX8 q.1 q.2 ∈ lw_tbl ∧ Cond.exactly (.string RX8 q.1) "java/lang/String" ∈ nwL := by
  rw [← vpl_fst] at h
  obtain ⟨z, hz, rfl⟩ := List.mem_map.mp h
  have h1 := List.all_eq_true.mp vpl_ok z hz
  rw [Bool.and_eq_true] at h1
  exact ⟨lw_of _ h1.1, nw_of _ h1.2⟩
def LX (base ez mi b L : Nat) (xs : Nat → Int32) (s : State) : Prop := CXF (fun q : Nat => base ≤ q) ez s ∧ va_X b L xs s s.heap ∧ va_Mi "[Ljava/lang/Object;" mi s
theorem LX.st {base ez mi b L : Nat} {xs : Nat → Int32} {u U : State} (hb : b < base) (hW : u.WarmedH U.vm) (hq : ∀ q, q < base → U.heap[q]? = u.heap[q]?) (h : LX base ez mi b L xs u) : LX base ez mi b L xs U := by
  have hvm := hW.alike
  have hk : ∀ a : Nat, a < u.heap.size → ¬ (fun q : Nat => base ≤ q) a → U.heap[a]? = u.heap[a]? := fun a _ h => hq a (Nat.lt_of_not_le h)
  obtain ⟨⟨a1, a2, a3, a4, a5, a6, a7, ⟨t1, b1, c1⟩, ⟨t2, b2, c2⟩, a10⟩, hx, hm⟩ := h
  exact ⟨⟨(va_Z.moved hvm a1).kept hk, (va_T.moved hvm a2).kept hk, va_AO.moved hvm a3, (vx_Zq.moved hvm a4).kept hk, (vx_Zq.moved hvm a5).kept hk, fun q hv => (a6 q hv).imp fun sa h => h.warm hW, (va_Z.moved hvm a7).kept hk, ⟨t1, (va_Z.moved hvm b1).kept hk, (va_T.moved hvm c1).kept hk⟩, ⟨t2, (va_Z.moved hvm b2).kept hk, (va_T.moved hvm c2).kept hk⟩, (va_Zq.moved hvm a10).kept hk⟩, (va_X.moved hvm hx).kept (hq b hb), hm.moved hvm⟩
theorem lx_start {s : State} {args : Array Value} {b L : Nat} {xs : Nat → Int32} (hX : va_X b L xs s s.heap) (hts : ∀ w ∈ lw_tbl, w.before args s = true) (hfl : ∀ w ∈ nwL, w.before args s = true) : ∃ ez mi, LX s.heap.size ez mi b L xs s := by
  have hA : ∀ a : Nat, a < s.heap.size → ¬ (fun q : Nat => s.heap.size ≤ q) a := fun a h => Nat.not_le.mpr h
  obtain ⟨ez, he, hT⟩ := va_Tof (args := args) (s := s) (tm := .static "java/util/ArrayList" "DEFAULTCAPACITY_EMPTY_ELEMENTDATA" "[Ljava/lang/Object;") (ty := .object "java/lang/Object") (N := 0) (f := fun _ => .null) (A := fun q : Nat => s.heap.size ≤ q) (by decide) (hfl _ (nw_of 5 (by decide +kernel))) (va_eqt (hfl _ (nw_of 7 (by decide +kernel)))) (fun j hj => absurd hj (Nat.not_lt_zero j)) hA
  obtain ⟨t1, h1, T1⟩ := va_Tof (args := args) (s := s) (tm := .static "java/lang/Integer" "DigitOnes" "[B") (ty := .byte) (N := 100) (f := fun j => .int (nI (48 + j % 10))) (A := fun q : Nat => s.heap.size ≤ q) (by decide) (hfl _ (nw_of 16 (by decide +kernel))) (va_eqt (hfl _ (nw_of 17 (by decide +kernel)))) (fun j hj => va_eqt (hfl _ (nw_of _ (nw_ones j hj)))) hA
  obtain ⟨t2, h2, T2⟩ := va_Tof (args := args) (s := s) (tm := .static "java/lang/Integer" "DigitTens" "[B") (ty := .byte) (N := 100) (f := fun j => .int (nI (48 + j / 10))) (A := fun q : Nat => s.heap.size ≤ q) (by decide) (hfl _ (nw_of 119 (by decide +kernel))) (va_eqt (hfl _ (nw_of 120 (by decide +kernel)))) (fun j hj => va_eqt (hfl _ (nw_of _ (nw_tens j hj)))) hA
  obtain ⟨mi, hmi⟩ := va_Mi.of (args := args) (s := s) (C := "[Ljava/lang/Object;") (hfl _ (nw_of 234 (by decide +kernel)))
  refine ⟨ez, mi, ⟨va_Zof (hts _ (lw_of 99 (by decide +kernel))) (hts _ (lw_of 50 (by decide +kernel))) he hA, hT, va_AO.of (hts _ (lw_of 327 (by decide +kernel))), vx_Zqof (hts _ (lw_of 182 (by decide +kernel))) (hts _ (lw_of 52 (by decide +kernel))) (hfl _ (nw_of 8 (by decide +kernel))) hA, vx_Zqof (hts _ (lw_of 184 (by decide +kernel))) (hts _ (lw_of 52 (by decide +kernel))) (hfl _ (nw_of 9 (by decide +kernel))) hA, fun q hq => ?_, va_Zof (hts _ (lw_of 983 (by decide +kernel))) (hts _ (lw_of 75 (by decide +kernel))) (va_eqi (hfl _ (nw_of 10 (by decide +kernel)))) hA, ⟨t1, va_Zof (hts _ (lw_of 1098 (by decide +kernel))) (hts _ (lw_of 70 (by decide +kernel))) h1 hA, T1⟩, ⟨t2, va_Zof (hts _ (lw_of 1100 (by decide +kernel))) (hts _ (lw_of 70 (by decide +kernel))) h2 hA, T2⟩, va_Zqof (hts _ (lw_of 1061 (by decide +kernel))) (hts _ (lw_of 64 (by decide +kernel))) (hfl _ (nw_of 11 (by decide +kernel))) hA⟩, hX, hmi⟩
  obtain ⟨g1, g2⟩ := vstr_at hq
  obtain ⟨a, c, cA, kA, f1, -⟩ := Cond.exactly_spec (args := args) (first := s) (o := none) (s := s) (idx := []) (t := .string RX8 q.1) (cls := "java/lang/String") (hfl _ g2)
  exact ⟨a, vk_R.of (hts _ g1) f1⟩
theorem ar_prim {args : Array Value} {s : State} {ty : FieldType} (h : (Cond.arrayClass ty).before args s = true) (hb : ∀ o, ty ≠ .object o) : ∃ c, ArrOfT s c ty ∧ va_RA s c ty := by
  obtain ⟨c, kA, comp, h1, h2, h3⟩ := Cond.arrayClass_spec (args := args) (first := s) (o := none) (s := s) (idx := []) h
  refine ⟨c, fun n z => ⟨fun k h => (by cases h), kA, h2, comp, h3⟩, ?_⟩
  cases ty with
  | object o => exact absurd rfl (hb o)
  | _ => exact h1
theorem ar_obj {args : Array Value} {s : State} {o : String} (h : (Cond.arrayOver (.object o)).before args s = true) : ∃ c, ArrOfT s c (.object o) ∧ va_RA s c (.object o) := by
  obtain ⟨comp, c, k, h1, h2, h3, h4, h5⟩ := Cond.arrayOver_spec h
  exact ⟨c, fun n z => ⟨fun k h => (by cases h), k, h3, comp, h4⟩, k, comp, h3, h4, h1, h5⟩
theorem ks_start {args : Array Value} {s : State} (hWS : ∀ w ∈ WS, w.before args s = true) (hts : ∀ w ∈ lw_tbl, w.before args s = true) : ∃ (D : va_G) (ca : Nat → ClassId), va_K D vwCl [(ca 0, .int), (ca 1, .int), (ca 2, .long), (ca 3, .object "java/lang/Object"), (ca 4, .byte)] s := by
  have h0 : ∀ c : Nat, ∃ z : ClassId × (Nat → Nat), ∀ q, vwCl[c]? = some q → u_Kn s q.1 q.2.1 q.2.2 z.1 z.2 := by
    intro c
    match c with
    | 0 =>
      obtain ⟨a, b, h⟩ := u_known hWS cf_J4.2.1 (hWS _ h_new_J4)
      exact ⟨(a, b), fun q hq => by cases hq; exact h⟩
    | 1 =>
      obtain ⟨a, b, h⟩ := u_known hWS cf_Jx4a65c.2.1 (hWS _ h_new_Jx4a65c)
      exact ⟨(a, b), fun q hq => by cases hq; exact h⟩
    | 2 =>
      obtain ⟨a, b, h⟩ := u_known hWS cf_X0.2.1 (hWS _ h_new_X0)
      exact ⟨(a, b), fun q hq => by cases hq; exact h⟩
    | 3 =>
      obtain ⟨a, b, h⟩ := u_known hWS cf_X1.2.1 (hWS _ h_new_X1)
      exact ⟨(a, b), fun q hq => by cases hq; exact h⟩
    | 4 =>
      obtain ⟨a, b, h⟩ := u_known hWS cf_X2.2.1 (hWS _ h_new_X2)
      exact ⟨(a, b), fun q hq => by cases hq; exact h⟩
    | 5 =>
      obtain ⟨a, b, h⟩ := u_known hWS cf_X3.2.1 (hWS _ h_new_X3)
      exact ⟨(a, b), fun q hq => by cases hq; exact h⟩
    | 6 =>
      obtain ⟨a, b, h⟩ := u_known hWS cf_X4.2.1 (hWS _ h_new_X4)
      exact ⟨(a, b), fun q hq => by cases hq; exact h⟩
    | 7 =>
      obtain ⟨a, b, h⟩ := u_known hWS cf_X5.2.1 (hWS _ h_new_X5)
      exact ⟨(a, b), fun q hq => by cases hq; exact h⟩
    | 8 =>
      obtain ⟨a, b, h⟩ := u_known hWS cf_X6.2.1 (hWS _ h_new_X6)
      exact ⟨(a, b), fun q hq => by cases hq; exact h⟩
    | 9 =>
      obtain ⟨a, b, h⟩ := u_known hWS cf_X7.2.1 (hWS _ h_new_X7)
      exact ⟨(a, b), fun q hq => by cases hq; exact h⟩
    | 10 =>
      obtain ⟨a, b, h⟩ := u_known hWS cf_X8.2.1 (hWS _ h_new_X8)
      exact ⟨(a, b), fun q hq => by cases hq; exact h⟩
    | c + 11 => exact ⟨(0, fun _ => 0), fun q hq => by simp [vwCl] at hq⟩
  obtain ⟨Z, hZ⟩ := Classical.axiomOfChoice h0
  obtain ⟨c0, p0⟩ := ar_prim (ty := .int) (hWS _ h_arr_int) (fun o h => by cases h)
  obtain ⟨c2, p2⟩ := ar_prim (ty := .long) (hWS _ h_arr_long) (fun o h => by cases h)
  obtain ⟨c3, p3⟩ := ar_obj (o := "java/lang/Object") (hts _ (lw_of 327 (by decide +kernel)))
  obtain ⟨c4, p4⟩ := ar_prim (ty := .byte) (hWS _ h_arr_byte) (fun o h => by cases h)
  refine ⟨(fun c => (Z c).1, fun c => (Z c).2), fun k => if k = 0 then c0 else if k = 1 then c0 else if k = 2 then c2 else if k = 3 then c3 else c4, fun c q hq => hZ c q hq, fun k q hq => ?_⟩
  match k, hq with
  | 0, hq => cases hq; exact p0
  | 1, hq => cases hq; exact p0
  | 2, hq => cases hq; exact p2
  | 3, hq => cases hq; exact p3
  | 4, hq => cases hq; exact p4
  | k + 5, hq => simp at hq
theorem ws_start {args : Array Value} {s : State} (hts : ∀ w ∈ lw_tbl, w.before args s = true) : ∀ w ∈ WS, w.before args s = true := by
  intro w hw
  rcases List.mem_cons.mp hw with e | e
  · rw [e]
    exact sel_priv (x := yJ5_isLatin1_aae02) (z := yJ5_isLatin1_aae02) (n := 4) ⟨by decide, by decide⟩ (hts _ (lw_of 974 (by decide +kernel))) (hts _ (lw_of 1014 (by decide +kernel))) (hts _ (lw_of 1015 (by decide +kernel))) rfl (hts _ (lw_of 1036 (by decide +kernel)))
  · exact hts _ (List.mem_filter.mp e).1
