/-! the claim -/
def R_law : String := "DeedProtocolLaw"
def lw_P (b : Addr) (xs : List Int32) (args : Array Value) (s : State) : Prop := args = #[.ref b] ∧ s.IntsAt b xs ∧ xs.length ≤ 260 ∧ (Jvm.Cond.and given_1 narrow_1).before args s = true
def lw_Q (_ : Array Value) (s : State) (o : Outcome) (t : State) : Prop := o = .returned (some (.int 1)) ∧ Framed s o t [] 707461 6979387
def lw_Z (below : List Frame) (a : Array Value) (s : State) : State → Prop := fun t => ∃ o, t.status = .running ∧ Ended t below o ∧ lw_Q a s o t
/-- the law's own end, with 1 on the stack, nothing written that was there before, its room as the claim has it -/
theorem lw_ret {p : Program} {l : Launch} {e : Env} {s : State} {m : MethodId} {below : List Frame} {meth : Method} {c : Code} {b : Nat} (hx : p.tables.exec = Jvm.exec) (hb : c.code = code) (hr : meth.sig.returnType = ret) (hlocks : meth.locks = false) {pc : Nat} {H : Heap} {ls : Array Slot} (hdg : decode code pc = .ok (.ireturn, 1)) : W p l e room_1 s m #[Value.ref b] below meth c H [] 707461 6979387 (lw_Z below #[Value.ref b] s) (F0 m pc ls [.int 1]) := by
  intro T hT X
  obtain ⟨fs, hret, hrun, hended, hW, hframe⟩ := X.leave (v := some (.int 1)) (hlocks := hlocks) (fun h => by rw [hr] at h; cases h)
  have hmeth' : T.vm.method? m = some meth := X.method'
  refine ⟨T.setFrames fs, ?_, .returned (some (.int 1)), hrun, hended, rfl, ⟨_, rfl⟩, hW, hframe⟩
  jvm_step X.here [X.here.top, hx, hb, hdg, hmeth', hr, ret, narrow_b1]
  (try refine ⟨rfl, ?_⟩); (try refine ⟨rfl, ?_⟩)
  first | (intro acts; rw [hret _ acts rfl rfl rfl]) | rw [hret _ _ rfl rfl rfl]
  exact Steps.refl _
/-- what holds at the law's entry: the machine, the code, the tables' words (any of lw_tbl by 'hts w (by decide +kernel)'), the script of L ints xs at the cell b, what the Statement gives of the start (any of its parts by flat_of_before) -/
def lw_At (p : Program) (s : State) (m : MethodId) (meth : Method) (c : Code) (b L : Nat) (xs : Nat → Int32) : Prop :=
  p.tables.exec = Jvm.exec ∧ c.code = code ∧ meth.sig.returnType = ret ∧ c.maxLocals = 25 ∧ s.vm.findClass R_law = some m.cls ∧ (∀ w ∈ lw_tbl, w.before #[Value.ref b] s = true) ∧ va_X b L xs s s.heap ∧ b < s.heap.size ∧ meth.locks = false ∧ (Jvm.Cond.and given_1 narrow_1).before #[Value.ref b] s = true
set_option maxRecDepth 100000 in
theorem whole_start {p : Program} {e : Env} {s : State} {m : MethodId} {below : List Frame} {meth : Method} {c : Code} (l : Launch) (hflags : l.flags = flags0) {b L : Nat} {xs : Nat → Int32} (hL : L ≤ 260) (C0 : lw_At p s m meth c b L xs) : W p l e room_1 s m #[Value.ref b] below meth c s.heap [] 0 0 (lw_Z below #[Value.ref b] s) (entryFrame m ([Value.ref b] : List Value).toArray 25) := by
  obtain ⟨hx, hb, hr, hml, hown, hts, hXs, hbl, hlocks, hgv⟩ := C0
  have hfl : ∀ w ∈ nwL, w.before #[Value.ref b] s = true := flat_of_before _ hgv
  have hWS : ∀ w ∈ WS, w.before #[Value.ref b] s = true := ws_start hts
  obtain ⟨ez, mi, hLX⟩ := lx_start hXs hts hfl
  obtain ⟨D, ca, hK⟩ := ks_start hWS hts
  have hns : l.stackTraces = false := by
    simp only [Launch.stackTraces, hflags]
    decide +kernel
  obtain ⟨x, ex⟩ : ∃ x : Cx, x = ((D, ca, s.heap.size, LX s.heap.size ez mi b L xs), p, l, e, room_1, s, m, #[Value.ref b], below, meth, c) := ⟨_, rfl⟩
  have hst : x.g.Stable := by
    rw [ex]
    exact fun u U hW hq _ _ h => h.st hbl hW hq
  have C : AWC x cL_law 25 RL room_1 (some .boolean) := by
    rw [ex] at hst ⊢
    exact ⟨hx, hb, hml, hown, hWS, hlocks, ⟨hK, Nat.le_refl _, hLX⟩, hst, rfl, hns, hr⟩
  have G : GOK x.g x.l ez := by
    rw [ex] at hst ⊢
    exact ⟨hflags, hst, fun s h => h.1, mi, fun s h => h.2.2⟩
  have hX : ∀ s, x.g.X s → va_X b L xs s s.heap := by
    rw [ex]
    exact fun s h => h.2.1
  have hb2 : b < x.g.base := by
    rw [ex]
    exact hbl
  have hend : ∀ sg ls, AW x (lw_Z below #[Value.ref b] s) 707461 6979387 sg 1019 ls [.int 1] := by
    rw [ex]
    intro sg ls H locs la ws h1 h2 h3
    exact va_forget (fun q hq => h2.2.2 q hq) (lw_ret hx hb hr hlocks dL_law_1019)
  have key : AW x (lw_Z below #[Value.ref b] s) 0 0 (fun _ => none) 0 [(0, .ref b)] [] := by
    refine aw_new (fs := [.null, .null, .null, .null, .null, .int 0, .int 0, .long 0]) C cf_X8 h_L_11 h_new_X8 h_ini_X8 (fun j hj => match j, hj with | 0, _ => rfl | 1, _ => rfl | 2, _ => rfl | 3, _ => rfl | 4, _ => rfl | 5, _ => rfl | 6, _ => rfl | 7, _ => rfl | _ + 8, h => absurd h (by omega)) (Nat.le_of_ble_eq_true rfl) (Nat.le_of_ble_eq_true rfl) dL_law_0 rfl (fun q1 hq1 => ?_)
    refine aw_dup C dL_law_3 rfl rfl ?_
    refine aw_callI C k_L_155 (C_init G sgu_s) ⟨by decide, by decide⟩ rfl rfl (Nat.le_of_ble_eq_true rfl) (Nat.le_of_ble_eq_true rfl) (Nat.le_of_ble_eq_true rfl) dL_law_4 rfl (fun _ _ q => ax_no q) (fun v1 s1 hq => ?_)
    obtain ⟨rfl, ad, hS1, e1, -, -⟩ := hq
    refine aw_astore_n (ls' := [(1, _), (0, _)]) C dL_law_7 rfl (by decide) rfl rfl ?_
    refine aw_pick (ls' := [(0, _), (1, _)]) [1, 0] rfl ?_
    refine aw_bipush (v := nI 40) C dL_law_8 rfl rfl ?_
    refine aw_newarr (atype := .int) (t0 := 0) (cA0 := x.g.ca 0) (ty := .int) (N := 40) (a0 := (40, .inl fun _ => 0)) C h_arr_int rfl rfl (fun o h => by cases h) (fun _ => rfl) (by decide) rfl (by decide) (Nat.le_of_ble_eq_true rfl) (Nat.le_of_ble_eq_true rfl) dL_law_10 rfl (fun r0 h0 => ?_)
    refine aw_astore_n (ls' := [(2, _), (0, _), (1, _)]) C dL_law_12 rfl (by decide) rfl rfl ?_
    refine aw_pick (ls' := [(0, _), (1, _), (2, _)]) [1, 2, 0] rfl ?_
    refine aw_bipush (v := nI 24) C dL_law_13 rfl rfl ?_
    refine aw_newarr (atype := .int) (t0 := 0) (cA0 := x.g.ca 0) (ty := .int) (N := 24) (a0 := (24, .inl fun _ => 0)) C h_arr_int rfl rfl (fun o h => by cases h) (fun _ => rfl) (by decide) rfl (by decide) (Nat.le_of_ble_eq_true rfl) (Nat.le_of_ble_eq_true rfl) dL_law_15 rfl (fun r1 h1 => ?_)
    refine aw_astore_n (ls' := [(3, _), (0, _), (1, _), (2, _)]) C dL_law_17 rfl (by decide) rfl rfl ?_
    refine aw_pick (ls' := [(0, _), (1, _), (2, _), (3, _)]) [1, 2, 3, 0] rfl ?_
    refine aw_bipush (v := nI 24) C dL_law_18 rfl rfl ?_
    refine aw_newarr (atype := .int) (t0 := 0) (cA0 := x.g.ca 0) (ty := .int) (N := 24) (a0 := (24, .inl fun _ => 0)) C h_arr_int rfl rfl (fun o h => by cases h) (fun _ => rfl) (by decide) rfl (by decide) (Nat.le_of_ble_eq_true rfl) (Nat.le_of_ble_eq_true rfl) dL_law_20 rfl (fun r2 h2 => ?_)
    refine aw_astore (ls' := [(4, _), (0, _), (1, _), (2, _), (3, _)]) C dL_law_22 (by decide) rfl rfl ?_
    refine aw_pick (ls' := [(0, _), (1, _), (2, _), (3, _), (4, _)]) [1, 2, 3, 4, 0] rfl ?_
    refine aw_bipush (v := nI 24) C dL_law_24 rfl rfl ?_
    refine aw_newarr (atype := .int) (t0 := 0) (cA0 := x.g.ca 0) (ty := .int) (N := 24) (a0 := (24, .inl fun _ => 0)) C h_arr_int rfl rfl (fun o h => by cases h) (fun _ => rfl) (by decide) rfl (by decide) (Nat.le_of_ble_eq_true rfl) (Nat.le_of_ble_eq_true rfl) dL_law_26 rfl (fun r3 h3 => ?_)
    refine aw_astore (ls' := [(5, _), (0, _), (1, _), (2, _), (3, _), (4, _)]) C dL_law_28 (by decide) rfl rfl ?_
    refine aw_pick (ls' := [(0, _), (1, _), (2, _), (3, _), (4, _), (5, _)]) [1, 2, 3, 4, 5, 0] rfl ?_
    refine aw_bipush (v := nI 24) C dL_law_30 rfl rfl ?_
    refine aw_newarr (atype := .int) (t0 := 0) (cA0 := x.g.ca 0) (ty := .int) (N := 24) (a0 := (24, .inl fun _ => 0)) C h_arr_int rfl rfl (fun o h => by cases h) (fun _ => rfl) (by decide) rfl (by decide) (Nat.le_of_ble_eq_true rfl) (Nat.le_of_ble_eq_true rfl) dL_law_32 rfl (fun r4 h4 => ?_)
    refine aw_astore (ls' := [(6, _), (0, _), (1, _), (2, _), (3, _), (4, _), (5, _)]) C dL_law_34 (by decide) rfl rfl ?_
    refine aw_pick (ls' := [(0, _), (1, _), (2, _), (3, _), (4, _), (5, _), (6, _)]) [1, 2, 3, 4, 5, 6, 0] rfl ?_
    refine aw_bipush (v := nI 24) C dL_law_36 rfl rfl ?_
    refine aw_newarr (atype := .int) (t0 := 0) (cA0 := x.g.ca 0) (ty := .int) (N := 24) (a0 := (24, .inl fun _ => 0)) C h_arr_int rfl rfl (fun o h => by cases h) (fun _ => rfl) (by decide) rfl (by decide) (Nat.le_of_ble_eq_true rfl) (Nat.le_of_ble_eq_true rfl) dL_law_38 rfl (fun r5 h5 => ?_)
    refine aw_astore (ls' := [(7, _), (0, _), (1, _), (2, _), (3, _), (4, _), (5, _), (6, _)]) C dL_law_40 (by decide) rfl rfl ?_
    refine aw_pick (ls' := [(0, _), (1, _), (2, _), (3, _), (4, _), (5, _), (6, _), (7, _)]) [1, 2, 3, 4, 5, 6, 7, 0] rfl ?_
    refine aw_bipush (v := nI 24) C dL_law_42 rfl rfl ?_
    refine aw_newarr (atype := .int) (t0 := 0) (cA0 := x.g.ca 0) (ty := .int) (N := 24) (a0 := (24, .inl fun _ => 0)) C h_arr_int rfl rfl (fun o h => by cases h) (fun _ => rfl) (by decide) rfl (by decide) (Nat.le_of_ble_eq_true rfl) (Nat.le_of_ble_eq_true rfl) dL_law_44 rfl (fun r6 h6 => ?_)
    refine aw_astore (ls' := [(8, _), (0, _), (1, _), (2, _), (3, _), (4, _), (5, _), (6, _), (7, _)]) C dL_law_46 (by decide) rfl rfl ?_
    refine aw_pick (ls' := [(0, _), (1, _), (2, _), (3, _), (4, _), (5, _), (6, _), (7, _), (8, _)]) [1, 2, 3, 4, 5, 6, 7, 8, 0] rfl ?_
    refine aw_bipush (v := nI 24) C dL_law_48 rfl rfl ?_
    refine aw_newarr (atype := .int) (t0 := 0) (cA0 := x.g.ca 0) (ty := .int) (N := 24) (a0 := (24, .inl fun _ => 0)) C h_arr_int rfl rfl (fun o h => by cases h) (fun _ => rfl) (by decide) rfl (by decide) (Nat.le_of_ble_eq_true rfl) (Nat.le_of_ble_eq_true rfl) dL_law_50 rfl (fun r7 h7 => ?_)
    refine aw_astore (ls' := [(9, _), (0, _), (1, _), (2, _), (3, _), (4, _), (5, _), (6, _), (7, _), (8, _)]) C dL_law_52 (by decide) rfl rfl ?_
    refine aw_pick (ls' := [(0, _), (1, _), (2, _), (3, _), (4, _), (5, _), (6, _), (7, _), (8, _), (9, _)]) [1, 2, 3, 4, 5, 6, 7, 8, 9, 0] rfl ?_
    refine aw_bipush (v := nI 24) C dL_law_54 rfl rfl ?_
    refine aw_newarr (atype := .int) (t0 := 0) (cA0 := x.g.ca 0) (ty := .int) (N := 24) (a0 := (24, .inl fun _ => 0)) C h_arr_int rfl rfl (fun o h => by cases h) (fun _ => rfl) (by decide) rfl (by decide) (Nat.le_of_ble_eq_true rfl) (Nat.le_of_ble_eq_true rfl) dL_law_56 rfl (fun r8 h8 => ?_)
    refine aw_astore (ls' := [(10, _), (0, _), (1, _), (2, _), (3, _), (4, _), (5, _), (6, _), (7, _), (8, _), (9, _)]) C dL_law_58 (by decide) rfl rfl ?_
    refine aw_pick (ls' := [(0, _), (1, _), (2, _), (3, _), (4, _), (5, _), (6, _), (7, _), (8, _), (9, _), (10, _)]) [1, 2, 3, 4, 5, 6, 7, 8, 9, 10, 0] rfl ?_
    refine aw_bipush (v := nI 24) C dL_law_60 rfl rfl ?_
    refine aw_newarr (atype := .int) (t0 := 0) (cA0 := x.g.ca 0) (ty := .int) (N := 24) (a0 := (24, .inl fun _ => 0)) C h_arr_int rfl rfl (fun o h => by cases h) (fun _ => rfl) (by decide) rfl (by decide) (Nat.le_of_ble_eq_true rfl) (Nat.le_of_ble_eq_true rfl) dL_law_62 rfl (fun r9 h9 => ?_)
    refine aw_astore (ls' := [(11, _), (0, _), (1, _), (2, _), (3, _), (4, _), (5, _), (6, _), (7, _), (8, _), (9, _), (10, _)]) C dL_law_64 (by decide) rfl rfl ?_
    refine aw_pick (ls' := [(0, _), (1, _), (2, _), (3, _), (4, _), (5, _), (6, _), (7, _), (8, _), (9, _), (10, _), (11, _)]) [1, 2, 3, 4, 5, 6, 7, 8, 9, 10, 11, 0] rfl ?_
    refine aw_iconst (v := nI 5) C dL_law_66 rfl rfl ?_
    refine aw_newarr (atype := .int) (t0 := 0) (cA0 := x.g.ca 0) (ty := .int) (N := 5) (a0 := (5, .inl fun _ => 0)) C h_arr_int rfl rfl (fun o h => by cases h) (fun _ => rfl) (by decide) rfl (by decide) (Nat.le_of_ble_eq_true rfl) (Nat.le_of_ble_eq_true rfl) dL_law_67 rfl (fun r10 h10 => ?_)
    refine aw_astore (ls' := [(12, _), (0, _), (1, _), (2, _), (3, _), (4, _), (5, _), (6, _), (7, _), (8, _), (9, _), (10, _), (11, _)]) C dL_law_69 (by decide) rfl rfl ?_
    refine aw_pick (ls' := [(0, _), (1, _), (2, _), (3, _), (4, _), (5, _), (6, _), (7, _), (8, _), (9, _), (10, _), (11, _), (12, _)]) [1, 2, 3, 4, 5, 6, 7, 8, 9, 10, 11, 12, 0] rfl ?_
    refine aw_bipush (v := nI 14) C dL_law_71 rfl rfl ?_
    refine aw_newarr (atype := .long) (t0 := 2) (cA0 := x.g.ca 2) (ty := .long) (N := 14) (a0 := (14, .inr (.inl fun _ => 0))) C h_arr_long rfl rfl (fun o h => by cases h) (fun _ => rfl) (by decide) rfl (by decide) (Nat.le_of_ble_eq_true rfl) (Nat.le_of_ble_eq_true rfl) dL_law_73 rfl (fun r11 h11 => ?_)
    refine aw_astore (ls' := [(13, _), (0, _), (1, _), (2, _), (3, _), (4, _), (5, _), (6, _), (7, _), (8, _), (9, _), (10, _), (11, _), (12, _)]) C dL_law_75 (by decide) rfl rfl ?_
    refine aw_pick (ls' := [(0, _), (1, _), (2, _), (3, _), (4, _), (5, _), (6, _), (7, _), (8, _), (9, _), (10, _), (11, _), (12, _), (13, _)]) [1, 2, 3, 4, 5, 6, 7, 8, 9, 10, 11, 12, 13, 0] rfl ?_
    refine aw_bipush (v := nI 32) C dL_law_77 rfl rfl ?_
    refine aw_newarr (atype := .int) (t0 := 0) (cA0 := x.g.ca 0) (ty := .int) (N := 32) (a0 := (32, .inl fun _ => 0)) C h_arr_int rfl rfl (fun o h => by cases h) (fun _ => rfl) (by decide) rfl (by decide) (Nat.le_of_ble_eq_true rfl) (Nat.le_of_ble_eq_true rfl) dL_law_79 rfl (fun r12 h12 => ?_)
    refine aw_astore (ls' := [(14, _), (0, _), (1, _), (2, _), (3, _), (4, _), (5, _), (6, _), (7, _), (8, _), (9, _), (10, _), (11, _), (12, _), (13, _)]) C dL_law_81 (by decide) rfl rfl ?_
    refine aw_pick (ls' := [(0, _), (1, _), (2, _), (3, _), (4, _), (5, _), (6, _), (7, _), (8, _), (9, _), (10, _), (11, _), (12, _), (13, _), (14, _)]) [1, 2, 3, 4, 5, 6, 7, 8, 9, 10, 11, 12, 13, 14, 0] rfl ?_
    obtain ⟨q, eq⟩ : ∃ q : Nat → Nat, q = fun k => match k with | 0 => r0 | 1 => r1 | 2 => r2 | 3 => r3 | 4 => r4 | 5 => r5 | 6 => r6 | 7 => r7 | 8 => r8 | 9 => r9 | 10 => r10 | 11 => r11 | _ => r12 := ⟨_, rfl⟩
    have hfr : ∀ k, k < 13 → sgN x.g s1 q k (q k) = none := by
      rw [eq]
      intro k hk
      match k, hk with
      | 0, _ => exact h0
      | 1, _ => exact h1
      | 2, _ => exact h2
      | 3, _ => exact h3
      | 4, _ => exact h4
      | 5, _ => exact h5
      | 6, _ => exact h6
      | 7, _ => exact h7
      | 8, _ => exact h8
      | 9, _ => exact h9
      | 10, _ => exact h10
      | 11, _ => exact h11
      | 12, _ => exact h12
      | k + 13, h => exact absurd h (by omega)
    have hS2 : CS x.g ez ad u00 Y00 (sgN x.g s1 q 13) := hS1.ext (sgN_old 13 hfr)
    have hM2 : ZS x.g q Z00 (sgN x.g s1 q 13) := ZS.first hfr
    have fin := law_first G C (sg := sgN x.g s1 q 13) (al := q) (b := b) (Q := lw_Z below #[Value.ref b] s) hS2 e1 hM2 (c := 34) (n := 400) (by decide) (by decide) (fun sg hW => aw_widen (by decide) (by decide) (law_loop G C hX hb2 hL hend 130 0 sg (by decide) hW))
    rw [e1, eq] at fin
    exact aw_widen (by decide) (by decide) fin
  rw [ex] at key
  rw [lg_entry_eq]
  exact key s.heap [] _ [] ⟨fun k q h => by simp at h, ⟨fun i j p q h => by simp at h, fun k q h => by simp at h⟩, fun a e h => by cases h⟩ va_S.rf (by
    have h := lv_entry [Value.ref b] (n := 25) (Nat.le_of_ble_eq_true rfl)
    rw [← hml] at h ⊢
    exact h)
set_option maxHeartbeats 4000000 in
theorem lw_walk (l : Launch) (hflags : l.flags = flags0) (b : Addr) (xs : List Int32) : MetFree l x (headSpec (Jvm.Cond.code x code maxLocals ret :: tables_1) room_1) (lw_P b xs) (fun _ _ _ _ _ => True) lw_Q := by
  refine MetFree.of_bodyS (code := code) (maxLocals := maxLocals) (ret := ret) (by decide) ?_ ?_
  · intro args s m h hn
    obtain ⟨meth, c, h1, h2, h3, h4, h5, h6, -, -⟩ := Cond.code_spec hn (atoms_spec (ws := Jvm.Cond.code x code maxLocals ret :: tables_1) h _ List.mem_cons_self)
    exact ⟨meth, c, h1, h2, h3, h4, h5, h6⟩
  · intro p e s m args below meth c s₁ B hml0 hP _
    obtain ⟨rfl, hx, hbd, hgv⟩ := hP
    obtain ⟨scr, harrAt, hlist, hof, hsmall⟩ := hx
    obtain ⟨hcb, hkn, -, -⟩ := State.arrayAt?_spec harrAt
    have hown : s.vm.findClass R_law = some m.cls := findClass_of_methodNamed B.named
    have hts0 : ∀ c ∈ (Jvm.Cond.code x code maxLocals ret :: tables_1), c.before #[Value.ref b] s = true := atoms_spec (ws := Jvm.Cond.code x code maxLocals ret :: tables_1) B.pre
    have hts : ∀ w ∈ lw_tbl, w.before #[Value.ref b] s = true := k2_hts_sels lw_privs (fun w hw => hts0 w (List.mem_cons_of_mem _ hw)) lw_privs_ok
    have hml : c.maxLocals = 25 := B.maxLocals_eq (hts0 _ List.mem_cons_self)
    have X₀ : Stand p l e room_1 s m #[Value.ref b] below meth c s₁ [] 0 0 := Stand.of_body B
    have hh0 : s₁.heap = s.heap := by rw [B.state]; rfl
    have hsz : scr.slots.size = xs.length := by rw [← Array.length_toList, hlist, List.length_map]
    have hval : ∀ j : Nat, j < xs.length → scr.slots[j]? = some (.int (xs.getD j 0)) := fun j hj => by
      rw [← Array.getElem?_toList, hlist]
      simp [hj]
    have hbl : b < s.heap.size := (Array.getElem?_eq_some_iff.mp hcb).1
    have hX : va_X b xs.length (fun j => xs.getD j 0) s s.heap := ⟨scr, hcb, hof, hkn, hsz, hval⟩
    have K : W p l e room_1 s m #[Value.ref b] below meth c s₁.heap [] 0 0 (lw_Z below #[Value.ref b] s) (entryFrame m ([Value.ref b] : List Value).toArray 25) := by
      rw [hh0]
      exact whole_start l hflags hbd ⟨B.exec, B.bytes, B.returns, hml, hown, hts, hX, hbl, B.notSynchronized, hgv⟩
    obtain ⟨t, a1, o, b1, b2, b3⟩ := K s₁ rfl X₀
    exact ⟨t, o, a1, b1, b2, b3⟩
theorem lw_pre_spec {args : Array Value} {s : State} (h : (Jvm.Cond.and given_1 narrow_1).before args s = true) (hr : rest_1_c.before args s = true) : ∃ (b : Addr) (xs : List Int32), lw_P b xs args s := by
  have hs := flat_of_before _ h
  have hq := flat_of_before _ hr
  have hc : (Cond.count 1).before args s = true := hs _ (by decide +kernel)
  have harr : (Cond.arrayOf (.arg 0) .int).before args s = true := hs _ (by decide +kernel)
  have hle : (Cond.le (.length (.arg 0)) (.int 260)).before args s = true := hs _ (by decide +kernel)
  have hlen : (Cond.isInt (.length (.arg 0))).before args s = true := hq _ (by decide +kernel)
  have hall : (Cond.all (.arg 0) (.isInt (.elem (.arg 0) (.index 0)))).before args s = true := hq _ (by decide +kernel)
  obtain ⟨b, xs, hb, hx⟩ := State.ints_of_pre rfl harr hlen hall
  have hsm : xs.length < 2 ^ 31 := hx.choose_spec.2.2.2
  have hev : (Term.length (.arg 0)).eval args s none [] s = some (.int xs.length.toInt32) := hx.length_eval hb
  have hv := Cond.le_ints hev (show (Term.int 260).eval args s none [] s = some (.int 260) from rfl)
  have hd : xs.length.toInt32 ≤ 260 := by
    simpa [Cond.before, Cond.holds, hv] using hle
  have hN : xs.length ≤ 260 := (Int32.ofNat_le_ofNat hsm (by decide)).mp (show Int32.ofNat xs.length ≤ Int32.ofNat 260 from hd)
  exact ⟨b, xs, Cond.one_arg hc (show args[0]? = some (.ref b) from hb), hx, hN, h⟩
theorem lw_comes (l : Launch) (hflags : l.flags = flags0) : Comes l x (Jvm.Cond.code x code maxLocals ret :: tables_1) room_1 (fun tb e args s => Calls_1 tb e args s ∧ rest_1 tb e args s ∧ Pre_1 tb e args s)
    (fun _ _ args s o t => lw_Q args s o t) := by
  intro p e ha hc hk s m args below hf hfit hheap happ hpre
  obtain ⟨b, xs, hP⟩ := lw_pre_spec hpre.2.2 hpre.2.1
  obtain ⟨k, o, h1, h2, h3, hQ⟩ := lw_walk l hflags b xs p e ha hc hk s m args below hf ((Spec.applies_iff_loose hf).mp happ).1 hP trivial
  exact ⟨k, o, h1, h2, h3, hQ⟩
theorem lw_frame {s t : State} {o : Outcome} {args : Array Value} (h : Framed s o t [] 707461 6979387) :
    Framed s o t (fieldLocs frame_1_writes args s ++ arrayLocs frame_1_arrays args s ++ staticLocs frame_1_statics s) 707461 6979387 := h
theorem lw_limb (L : Cond) (hL : ∀ (args : Array Value) (s t : State), L.after args s (.returned (some (.int 1))) t = true) :
    ArmFor flags0 classFile x code maxLocals ret World_1 tables_1 room_1 Calls_1 rest_1 Pre_1
      (fun tb e a s o t => postC L tb e a s o t ∧ Framed s o t (fieldLocs frame_1_writes a s ++ arrayLocs frame_1_arrays a s ++ staticLocs frame_1_statics s) 707461 6979387) := by
  intro l hflags _ _ p e ha hc hk s m args below hf hfit hheap happ hpre
  obtain ⟨k, o, h1, h2, h3, rfl, hF⟩ := lw_comes l hflags p e ha hc hk s m args below hf hfit hheap happ hpre
  exact ⟨k, _, h1, h2, h3, hL args s _, lw_frame hF⟩
theorem i_vc : Claimed_1_1 ∧ Claimed_1_2 := ⟨lw_limb limb_1_1 (fun args s t => by simp [limb_1_1, Cond.after, Cond.holds, Cond.value]), lw_limb limb_1_2 (fun args s t => Cond.after_iff.mpr (by
  first | (rw [show limb_1_2 = Cond.eq .result (.int 1) from rfl, Cond.eq_ints (x := 1) (y := 1) rfl rfl]; simp; done) | (simp [limb_1_2, Cond.value, Term.eval]; done)))⟩
