/-! the law's helpers with loops -/
section SCRR
variable {x : Cx} {Q : State → Prop} {k n : Nat} {sg : Sg} {pc p1 : Nat} {ls : List (Nat × Value)} {st : List Value} {cc : ByteArray} {nL : Nat} {own : String} {R : Room} {ret : Option FieldType} {b Lx j : Nat} {xs : Nat → Int32}
theorem an_sld (C : AWC x cc nL own R ret) (hX : va_X b Lx xs x.s x.s.heap) (hb : b < x.s.heap.size) (hb2 : b < x.g.base) (hj : j < Lx) (hL : Lx < 2 ^ 31) (hdg : decode cc pc = .ok (.iaload, 1)) (hpc : pc + 1 = p1) (kk : AW x Q k n sg p1 ls (.int (xs j) :: st)) : AW x Q k n sg pc ls (.int (nI j) :: .ref b :: st) := by
  subst hpc
  intro H locs la ws h1 h2 h3
  refine va_sld C.hx C.hb hX hb (Nat.not_le.mpr hb2) h2 (vp_in_nI hj hL) hdg ?_
  rw [nI_clamp (by omega)]
  exact kk H locs la ws h1 h2 h3
theorem an_slen (C : AWC x cc nL own R ret) (hX : va_X b Lx xs x.s x.s.heap) (hb : b < x.s.heap.size) (hb2 : b < x.g.base) (hdg : decode cc pc = .ok (.arraylength, 1)) (hpc : pc + 1 = p1) (kk : AW x Q k n sg p1 ls (.int (nI Lx) :: st)) : AW x Q k n sg pc ls (.ref b :: st) := by
  subst hpc
  intro H locs la ws h1 h2 h3
  exact va_slen C.hx C.hb hX hb (Nat.not_le.mpr hb2) h2 hdg (kk H locs la ws h1 h2 h3)
end SCRR
set_option maxRecDepth 100000 in
theorem N_cell {g : Gx} {l : Launch} (hl : l.flags = flags0) (hst : g.Stable) {sg0 : Sg} {b Lx : Nat} {xs : Nat → Int32} (hX : ∀ s, g.X s → va_X b Lx xs s s.heap) (hb : b < g.base) (hL : Lx ≤ 260) {t : Nat} (ht : t < 1000) : MM g l yL_cell cL_cell 2 (some .int) (rmZ 1) sg0 [.ref (b), .int (nI (t))] (fun v s' => ∃ c, v = some (.int c) ∧ s' = sg0) noX := by
  refine MM.of hl hst (by decide) (Nat.le_of_ble_eq_true rfl) (fun x hg hlx C hin hout hargs => ?_)
  subst hg; subst hlx
  have C : AWC x cL_cell 2 RL (rmZ 1) (some .int) := C
  show AW x (RQ x (fun v s' => ∃ c, v = some (.int c) ∧ s' = sg0) noX 0 0) 0 0 sg0 0 [(0, .ref (b)), (1, .int (nI (t)))] []
  have hX2 := hX x.s C.env.2.2
  have hb2 : b < x.s.heap.size := Nat.lt_of_lt_of_le hb C.env.2.1
  refine aw_iload_n C dL_cell_0 rfl rfl rfl ?_
  refine aw_aload_n C dL_cell_1 rfl rfl rfl ?_
  refine an_slen C hX2 hb2 hb dL_cell_2 rfl ?_
  refine an_icmp_ge (a := t) (b := Lx) (tgt := 12) C dL_cell_3 (by omega) (by omega) (by decide) rfl (fun c3 => ?_) (fun c3 => ?_)
  · refine aw_ldc C dL_cell_12 q_L_7 rfl ?_
    refine aw_iload_n C dL_cell_14 rfl rfl rfl ?_
    refine aw_bipush (v := 59) C dL_cell_15 rfl rfl ?_
    refine aw_iadd C dL_cell_17 rfl ?_
    refine aw_imul C dL_cell_18 rfl ?_
    refine aw_ldc C dL_cell_19 q_L_8 rfl ?_
    refine aw_iadd C dL_cell_21 rfl ?_
    exact aw_iret C rfl (Nat.le_refl _) (Nat.le_refl _) ⟨_, rfl, rfl⟩ dL_cell_22
  · refine aw_aload_n C dL_cell_6 rfl rfl rfl ?_
    refine aw_iload_n C dL_cell_7 rfl rfl rfl ?_
    refine an_sld C hX2 hb2 hb c3 (by omega) dL_cell_8 rfl ?_
    refine aw_goto (tgt := 22) C dL_cell_9 (by decide) ?_
    exact aw_iret C rfl (Nat.le_refl _) (Nat.le_refl _) ⟨_, rfl, rfl⟩ dL_cell_22
def n_low (v : Int32) (N : Nat) : Nat := v.toBitVec.toNat % 2 ^ 31 % N
theorem n_low_lt {v : Int32} {N : Nat} (h : 0 < N) : n_low v N < N := Nat.mod_lt _ h
set_option maxRecDepth 100000 in
theorem N_low {g : Gx} {l : Launch} (hl : l.flags = flags0) (hst : g.Stable) {sg0 : Sg} {v : Int32} {N : Nat} (h0 : 0 < N) (hN : N < 2 ^ 31) : MM g l yL_low cL_low 2 (some .int) (rmZ 1) sg0 [.int (v), .int (nI (N))] (PP sg0 (.int (nI (n_low v N)))) noX := by
  refine MM.of hl hst (by decide) (Nat.le_of_ble_eq_true rfl) (fun x hg hlx C hin hout hargs => ?_)
  subst hg; subst hlx
  have C : AWC x cL_low 2 RL (rmZ 1) (some .int) := C
  show AW x (RQ x (PP sg0 (.int (nI (n_low v N)))) noX 0 0) 0 0 sg0 0 [(0, .int (v)), (1, .int (nI (N)))] []
  refine aw_iload_n C dL_low_0 rfl rfl rfl ?_
  refine aw_ldc C dL_low_1 q_L_9 rfl ?_
  refine aw_iand C dL_low_3 rfl ?_
  rw [pk_and v 31 (by decide)]
  refine aw_iload_n C dL_low_4 rfl rfl rfl ?_
  refine an_rem C (Nat.mod_lt _ (by decide)) h0 hN dL_low_5 rfl ?_
  exact aw_iret C rfl (Nat.le_refl _) (Nat.le_refl _) (PP.of (by rw [n_low])) dL_low_6
def PARTS : Nat := 80244904034304
theorem PARTS_e : PARTS = 2 ^ 24 * 3 ^ 14 := by decide
def n_below (s : Nat) : Nat := if s = 0 then 1 else PARTS / Nat.gcd s PARTS
theorem n_below_le {s : Nat} : n_below s ≤ PARTS := by
  unfold n_below
  split
  · decide
  · exact Nat.div_le_self _ _
theorem n_below_lt {s : Nat} : n_below s < 2 ^ 62 := Nat.lt_of_le_of_lt n_below_le (by decide)
set_option maxRecDepth 100000 in
theorem N_below {g : Gx} {l : Launch} (hl : l.flags = flags0) (hst : g.Stable) {sg0 : Sg} {s : Nat} (hs : s < 2 ^ 62) : MM g l yL_below cL_below 8 (some .long) (rmZ 1) sg0 [.long (lN (s))] (PP sg0 (.long (lN (n_below s)))) noX := by
  refine MM.of hl hst (by decide) (Nat.le_of_ble_eq_true rfl) (fun x hg hlx C hin hout hargs => ?_)
  subst hg; subst hlx
  have C : AWC x cL_below 8 RL (rmZ 1) (some .long) := C
  show AW x (RQ x (PP sg0 (.long (lN (n_below s)))) noX 0 0) 0 0 sg0 0 [(0, .long (lN (s)))] []
  have hP : (80244904034304 : Nat) = PARTS := rfl
  have hG : 0 < Nat.gcd s PARTS := Nat.gcd_pos_of_pos_right _ (by decide)
  have loop : ∀ (r u v : Nat), u ≤ r → u < 2 ^ 62 → v < 2 ^ 62 → Nat.gcd u v = Nat.gcd s PARTS → AW x (RQ x (PP sg0 (.long (lN (n_below s)))) noX 0 0) 0 0 sg0 7 [(0, .long (lN s)), (2, .long (lN u)), (4, .long (lN v))] [] := by
    have fin : ∀ (v : Nat), v < 2 ^ 62 → Nat.gcd 0 v = Nat.gcd s PARTS → AW x (RQ x (PP sg0 (.long (lN (n_below s)))) noX 0 0) 0 0 sg0 28 [(0, .long (lN s)), (2, .long (lN 0)), (4, .long (lN v))] [] := by
      intro v hv hg
      rw [Nat.gcd_zero_left] at hg
      subst hg
      refine aw_lload_n C dL_below_28 rfl rfl rfl ?_
      refine aw_lconst (v := lN 0) C dL_below_29 rfl rfl ?_
      refine an_lc_ne (p1 := 30) (a := s) (b := 0) (tgt := 38) C dL_below_30 rfl dL_below_31 (by omega) (by omega) (by decide) rfl (fun c => ?_) (fun c => ?_)
      · refine aw_ldc2 (v := lN 80244904034304) C dL_below_38 q_L_77 rfl ?_
        refine aw_lload C dL_below_41 rfl rfl ?_
        refine an_ldiv C (by decide) hG (by omega) dL_below_43 rfl ?_
        exact aw_lret C (Nat.le_refl _) (Nat.le_refl _) (PP.of (by rw [n_below, if_neg c]; rfl)) dL_below_44
      · refine aw_lconst (v := lN 1) C dL_below_34 rfl rfl ?_
        refine aw_goto (tgt := 44) C dL_below_35 (by decide) ?_
        exact aw_lret C (Nat.le_refl _) (Nat.le_refl _) (PP.of (by rw [n_below, if_pos c])) dL_below_44
    intro r
    induction r with
    | zero =>
      intro u v hu hu2 hv hg
      obtain rfl : u = 0 := by omega
      refine aw_lload_n C dL_below_7 rfl rfl rfl ?_
      refine aw_lconst (v := lN 0) C dL_below_8 rfl rfl ?_
      exact an_lc_le (p1 := 9) (a := 0) (b := 0) (tgt := 28) C dL_below_9 rfl dL_below_10 (by omega) (by omega) (by decide) rfl (fun c => fin v hv hg) (fun c => absurd c (by omega))
    | succ r ih =>
      intro u v hu hu2 hv hg
      refine aw_lload_n C dL_below_7 rfl rfl rfl ?_
      refine aw_lconst (v := lN 0) C dL_below_8 rfl rfl ?_
      refine an_lc_le (p1 := 9) (a := u) (b := 0) (tgt := 28) C dL_below_9 rfl dL_below_10 (by omega) (by omega) (by decide) rfl (fun c => ?_) (fun c => ?_)
      · obtain rfl : u = 0 := by omega
        exact fin v hv hg
      refine aw_lload C dL_below_13 rfl rfl ?_
      refine aw_lload_n C dL_below_15 rfl rfl rfl ?_
      refine an_lrem C (by omega) c (by omega) dL_below_16 rfl ?_
      refine aw_lstore (ls' := [(6, _), (0, _), (2, _), (4, _)]) C dL_below_17 (by decide) rfl rfl ?_
      refine aw_lload_n C dL_below_19 rfl rfl rfl ?_
      refine aw_lstore (ls' := [(4, _), (6, _), (0, _), (2, _)]) C dL_below_20 (by decide) rfl rfl ?_
      refine aw_lload C dL_below_22 rfl rfl ?_
      refine aw_lstore_n (ls' := [(2, _), (4, _), (6, _), (0, _)]) C dL_below_24 rfl (by decide) rfl rfl ?_
      refine aw_goto (tgt := 7) C dL_below_25 (by decide) ?_
      refine aw_pick (ls' := [(0, _), (2, _), (4, _)]) [3, 0, 1] rfl ?_
      have hlt := Nat.mod_lt v c
      exact ih (v % u) u (by omega) (by omega) hu2 ((Nat.gcd_rec u v).symm.trans hg)
  refine aw_lload_n C dL_below_0 rfl rfl rfl ?_
  refine aw_lstore_n (ls' := [(2, _), (0, _)]) C dL_below_1 rfl (by decide) rfl rfl ?_
  refine aw_ldc2 (v := lN 80244904034304) C dL_below_2 q_L_77 rfl ?_
  refine aw_lstore (ls' := [(4, _), (2, _), (0, _)]) C dL_below_5 (by decide) rfl rfl ?_
  refine aw_pick (ls' := [(0, _), (2, _), (4, _)]) [2, 1, 0] rfl ?_
  exact loop s s PARTS (Nat.le_refl _) hs (by decide) rfl
def n_leastN (p : Nat) : Nat → Nat → Nat
  | 0, k => k
  | r + 1, k => if p / 2 ^ (3 * k) % 8 = 0 then n_leastN p r (k + 1) else k
def n_least (p : Nat) : Int32 := if n_leastN p 9 0 = 9 then -1 else nI (n_leastN p 9 0)
set_option maxRecDepth 100000 in
theorem N_least {g : Gx} {l : Launch} (hl : l.flags = flags0) (hst : g.Stable) {sg0 : Sg} {p : Nat} (hp : p < 2 ^ 30) : MM g l yL_least cL_least 2 (some .int) (rmZ 1) sg0 [.int (nI (p))] (PP sg0 (.int (n_least p))) noX := by
  refine MM.of hl hst (by decide) (Nat.le_of_ble_eq_true rfl) (fun x hg hlx C hin hout hargs => ?_)
  subst hg; subst hlx
  have C : AWC x cL_least 2 RL (rmZ 1) (some .int) := C
  show AW x (RQ x (PP sg0 (.int (n_least p))) noX 0 0) 0 0 sg0 0 [(0, .int (nI (p)))] []
  have loop : ∀ (r k : Nat), k + r = 9 → n_leastN p r k = n_leastN p 9 0 → AW x (RQ x (PP sg0 (.int (n_least p))) noX 0 0) 0 0 sg0 2 [(0, .int (nI p)), (1, .int (nI k))] [] := by
    have fin : ∀ k, k ≤ 9 → k = n_leastN p 9 0 → AW x (RQ x (PP sg0 (.int (n_least p))) noX 0 0) 0 0 sg0 25 [(0, .int (nI p)), (1, .int (nI k))] [] := by
      intro k hk e
      refine aw_iload_n C dL_least_25 rfl rfl rfl ?_
      refine aw_bipush (v := nI 9) C dL_least_26 rfl rfl ?_
      refine an_icmp_ne (a := k) (b := 9) (tgt := 35) C dL_least_28 (by omega) (by decide) (by decide) rfl (fun c => ?_) (fun c => ?_)
      · refine aw_iload_n C dL_least_35 rfl rfl rfl ?_
        exact aw_iret C rfl (Nat.le_refl _) (Nat.le_refl _) (PP.of (by rw [n_least, ← e, if_neg c])) dL_least_36
      · refine aw_iconst (v := -1) C dL_least_31 rfl rfl ?_
        refine aw_goto (tgt := 36) C dL_least_32 (by decide) ?_
        exact aw_iret C rfl (Nat.le_refl _) (Nat.le_refl _) (PP.of (by rw [n_least, ← e, if_pos c])) dL_least_36
    intro r
    induction r with
    | zero =>
      intro k hk e
      refine aw_iload_n C dL_least_2 rfl rfl rfl ?_
      refine aw_bipush (v := nI 9) C dL_least_3 rfl rfl ?_
      exact an_icmp_ge (a := k) (b := 9) (tgt := 25) C dL_least_5 (by omega) (by decide) (by decide) rfl (fun c => fin k (by omega) e) (fun c => absurd c (by omega))
    | succ r ih =>
      intro k hk e
      refine aw_iload_n C dL_least_2 rfl rfl rfl ?_
      refine aw_bipush (v := nI 9) C dL_least_3 rfl rfl ?_
      refine an_icmp_ge (a := k) (b := 9) (tgt := 25) C dL_least_5 (by omega) (by decide) (by decide) rfl (fun c => absurd (show k < 9 by omega) c) (fun c => ?_)
      refine aw_iload_n C dL_least_8 rfl rfl rfl ?_
      refine aw_iconst (v := nI 3) C dL_least_9 rfl rfl ?_
      refine aw_iload_n C dL_least_10 rfl rfl rfl ?_
      refine an_mul C dL_least_11 rfl ?_
      refine an_shr C (by omega) (by omega) dL_least_12 rfl ?_
      refine aw_bipush (v := nI 7) C dL_least_13 rfl rfl ?_
      refine an_and7 C dL_least_15 rfl ?_
      refine an_if_ne (a := p / 2 ^ (3 * k) % 8) (tgt := 25) C dL_least_16 (by omega) (by decide) rfl (fun c2 => ?_) (fun c2 => ?_)
      · exact fin k (by omega) (by rw [n_leastN, if_neg c2] at e; exact e)
      refine aw_iinc (v' := nI (k + 1)) (ls' := [(1, _), (0, _)]) C dL_least_19 rfl (by decide) (nI_add k 1) rfl rfl ?_
      refine aw_goto (tgt := 2) C dL_least_22 (by decide) ?_
      refine aw_pick (ls' := [(0, _), (1, _)]) [1, 0] rfl ?_
      exact ih (k + 1) (by omega) (by rw [n_leastN, if_pos c2] at e; exact e)
  refine aw_iconst (v := nI 0) C dL_least_0 rfl rfl ?_
  refine aw_istore_n (ls' := [(1, _), (0, _)]) C dL_least_1 rfl (by decide) rfl rfl ?_
  refine aw_pick (ls' := [(0, _), (1, _)]) [1, 0] rfl ?_
  exact loop 9 0 rfl rfl
def n_many (p : Nat) : Nat → Nat
  | 0 => 0
  | k + 1 => n_many p k + p / 2 ^ (3 * k) % 8
theorem n_many_le {p : Nat} (k : Nat) : n_many p k ≤ 7 * k := by
  induction k with
  | zero => exact Nat.le_refl _
  | succ k ih => rw [n_many]; omega
set_option maxRecDepth 100000 in
theorem N_many {g : Gx} {l : Launch} (hl : l.flags = flags0) (hst : g.Stable) {sg0 : Sg} {p : Nat} (hp : p < 2 ^ 30) : MM g l yL_many cL_many 3 (some .int) (rmZ 1) sg0 [.int (nI (p))] (PP sg0 (.int (nI (n_many p 9)))) noX := by
  refine MM.of hl hst (by decide) (Nat.le_of_ble_eq_true rfl) (fun x hg hlx C hin hout hargs => ?_)
  subst hg; subst hlx
  have C : AWC x cL_many 3 RL (rmZ 1) (some .int) := C
  show AW x (RQ x (PP sg0 (.int (nI (n_many p 9)))) noX 0 0) 0 0 sg0 0 [(0, .int (nI (p)))] []
  have loop : ∀ (r k : Nat), k + r = 9 → AW x (RQ x (PP sg0 (.int (nI (n_many p 9)))) noX 0 0) 0 0 sg0 4 [(0, .int (nI p)), (1, .int (nI (n_many p k))), (2, .int (nI k))] [] := by
    intro r
    induction r with
    | zero =>
      intro k hk
      obtain rfl : k = 9 := by omega
      refine aw_iload_n C dL_many_4 rfl rfl rfl ?_
      refine aw_bipush (v := nI 9) C dL_many_5 rfl rfl ?_
      refine an_icmp_ge (a := 9) (b := 9) (tgt := 27) C dL_many_7 (by omega) (by decide) (by decide) rfl (fun c => ?_) (fun c => absurd c (by omega))
      refine aw_iload_n C dL_many_27 rfl rfl rfl ?_
      exact aw_iret C rfl (Nat.le_refl _) (Nat.le_refl _) (PP.of rfl) dL_many_28
    | succ r ih =>
      intro k hk
      refine aw_iload_n C dL_many_4 rfl rfl rfl ?_
      refine aw_bipush (v := nI 9) C dL_many_5 rfl rfl ?_
      refine an_icmp_ge (a := k) (b := 9) (tgt := 27) C dL_many_7 (by omega) (by decide) (by decide) rfl (fun c => absurd (show k < 9 by omega) c) (fun c => ?_)
      refine aw_iload_n C dL_many_10 rfl rfl rfl ?_
      refine aw_iload_n C dL_many_11 rfl rfl rfl ?_
      refine aw_iconst (v := nI 3) C dL_many_12 rfl rfl ?_
      refine aw_iload_n C dL_many_13 rfl rfl rfl ?_
      refine an_mul C dL_many_14 rfl ?_
      refine an_shr C (by omega) (by omega) dL_many_15 rfl ?_
      refine aw_bipush (v := nI 7) C dL_many_16 rfl rfl ?_
      refine an_and7 C dL_many_18 rfl ?_
      refine an_add C dL_many_19 rfl ?_
      refine aw_istore_n (ls' := [(1, _), (0, _), (2, _)]) C dL_many_20 rfl (by decide) rfl rfl ?_
      refine aw_iinc (v' := nI (k + 1)) (ls' := [(2, _), (1, _), (0, _)]) C dL_many_21 rfl (by decide) (nI_add k 1) rfl rfl ?_
      refine aw_goto (tgt := 4) C dL_many_24 (by decide) ?_
      refine aw_pick (ls' := [(0, _), (1, _), (2, _)]) [2, 1, 0] rfl ?_
      exact ih (k + 1) (by omega)
  refine aw_iconst (v := nI 0) C dL_many_0 rfl rfl ?_
  refine aw_istore_n (ls' := [(1, _), (0, _)]) C dL_many_1 rfl (by decide) rfl rfl ?_
  refine aw_iconst (v := nI 0) C dL_many_2 rfl rfl ?_
  refine aw_istore_n (ls' := [(2, _), (1, _), (0, _)]) C dL_many_3 rfl (by decide) rfl rfl ?_
  refine aw_pick (ls' := [(0, _), (1, _), (2, _)]) [2, 1, 0] rfl ?_
  exact loop 9 0 rfl
/-- from a deed on, whose power c stands at the chain's next place: c is its number and one more, 0 for none -/
def n_goodN (L : ZU) : Nat → Nat → Bool → Bool
  | 0, _, b => b
  | r + 1, c, b => if c = 0 then b else n_goodN L r (L.1 3 (c - 1)) (b && (n_alone L (c - 1) && decide (L.1 2 (c - 1) % 2 = 1)))
def n_good (L : ZU) (d : Nat) : Bool := n_goodN L 64 (L.1 3 d) (n_alone L d)
set_option maxRecDepth 100000 in
theorem N_good {g : Gx} {l : Launch} (hl : l.flags = flags0) (hst : g.Stable) {sg0 : Sg} {al : Nat → Nat} {L : ZU} {d : Nat} (hM : ZS g al L sg0) (hB : ZB L) (hd : d < 24) (hc : ∀ i, i < 24 → L.1 3 i ≤ 24) : MM g l yL_good cL_good 11 (some .boolean) (rmZ 2) sg0 [.int (nI (d)), .ref (al 0), .ref (al 1), .ref (al 2), .ref (al 3), .ref (al 5), .ref (al 7), .ref (al 10)] (PP sg0 (.int (b2i (n_good L d)))) noX := by
  refine MM.of hl hst (by decide) (Nat.le_of_ble_eq_true rfl) (fun x hg hlx C hin hout hargs => ?_)
  subst hg; subst hlx
  have C : AWC x cL_good 11 RL (rmZ 2) (some .boolean) := C
  have hF : ZFr al sg0 sg0 := ZFr.rf
  show AW x (RQ x (PP sg0 (.int (b2i (n_good L d)))) noX 0 0) 0 0 sg0 0 [(0, .int (nI (d))), (1, .ref (al 0)), (2, .ref (al 1)), (3, .ref (al 2)), (4, .ref (al 3)), (5, .ref (al 5)), (6, .ref (al 7)), (7, .ref (al 10))] []
  have hst := C.stab
  have next : ∀ (r m c : Nat) (b b2 : Bool), (∀ (c : Nat) (b : Bool), c ≤ 24 → n_goodN L r c b = n_good L d → AW x (RQ x (PP sg0 (.int (b2i (n_good L d)))) noX 0 0) 0 0 sg0 26 [(0, .int (nI d)), (1, .ref (al 0)), (2, .ref (al 1)), (3, .ref (al 2)), (4, .ref (al 3)), (5, .ref (al 5)), (6, .ref (al 7)), (7, .ref (al 10)), (8, .int (b2i b)), (9, .int (nI c - 1)), (10, .int (nI (m + 1)))] []) → m < 64 → c < 24 → n_goodN L r (L.1 3 c) b2 = n_good L d → b2 = b2 → AW x (RQ x (PP sg0 (.int (b2i (n_good L d)))) noX 0 0) 0 0 sg0 75 [(0, .int (nI d)), (1, .ref (al 0)), (2, .ref (al 1)), (3, .ref (al 2)), (4, .ref (al 3)), (5, .ref (al 5)), (6, .ref (al 7)), (7, .ref (al 10)), (8, .int (b2i b)), (9, .int (nI c)), (10, .int (nI m))] [.int (b2i b2)] := by
    intro r m c b b2 ih hm hc2 e _
    refine aw_istore (ls' := [(8, _), (0, _), (1, _), (2, _), (3, _), (4, _), (5, _), (6, _), (7, _), (9, _), (10, _)]) C dL_good_75 (by decide) rfl rfl ?_
    refine aw_aload C dL_good_77 rfl rfl ?_
    refine aw_iload C dL_good_79 rfl rfl ?_
    refine an_iald (k := 3) (i := c) (N := 24) (v := (L.1 3 c)) C hM rfl rfl hc2 rfl dL_good_81 rfl ?_
    refine aw_iconst (v := 1) C dL_good_82 rfl rfl ?_
    refine aw_isub C dL_good_83 rfl ?_
    refine aw_istore (ls' := [(9, _), (8, _), (0, _), (1, _), (2, _), (3, _), (4, _), (5, _), (6, _), (7, _), (10, _)]) C dL_good_84 (by decide) rfl rfl ?_
    refine aw_iinc (v' := nI (m + 1)) (ls' := [(10, _), (9, _), (8, _), (0, _), (1, _), (2, _), (3, _), (4, _), (5, _), (6, _), (7, _)]) C dL_good_86 rfl (by decide) (nI_add m 1) rfl rfl ?_
    refine aw_goto (tgt := 26) C dL_good_89 (by decide) ?_
    refine aw_pick (ls' := [(0, _), (1, _), (2, _), (3, _), (4, _), (5, _), (6, _), (7, _), (8, _), (9, _), (10, _)]) [3, 4, 5, 6, 7, 8, 9, 10, 2, 1, 0] rfl ?_
    exact ih (L.1 3 c) b2 (hc c hc2) e
  have fin : ∀ (m : Nat) (z : Int32) (b : Bool), b = n_good L d → AW x (RQ x (PP sg0 (.int (b2i (n_good L d)))) noX 0 0) 0 0 sg0 92 [(0, .int (nI d)), (1, .ref (al 0)), (2, .ref (al 1)), (3, .ref (al 2)), (4, .ref (al 3)), (5, .ref (al 5)), (6, .ref (al 7)), (7, .ref (al 10)), (8, .int (b2i b)), (9, .int z), (10, .int (nI m))] [] := by
    intro m z b e
    refine aw_iload C dL_good_92 rfl rfl ?_
    exact aw_iret C (nrw_b2i _) (Nat.le_refl _) (Nat.le_refl _) (PP.of (by rw [e])) dL_good_94
  have loop : ∀ (r m c : Nat) (b : Bool), m + r = 64 → c ≤ 24 → n_goodN L r c b = n_good L d → AW x (RQ x (PP sg0 (.int (b2i (n_good L d)))) noX 0 0) 0 0 sg0 26 [(0, .int (nI d)), (1, .ref (al 0)), (2, .ref (al 1)), (3, .ref (al 2)), (4, .ref (al 3)), (5, .ref (al 5)), (6, .ref (al 7)), (7, .ref (al 10)), (8, .int (b2i b)), (9, .int (nI c - 1)), (10, .int (nI m))] [] := by
    intro r
    induction r with
    | zero =>
      intro m c b hm hc2 e
      refine aw_iload C dL_good_26 rfl rfl ?_
      refine aw_bipush (v := nI 64) C dL_good_28 rfl rfl ?_
      exact an_icmp_ge (a := m) (b := 64) (tgt := 92) C dL_good_30 (by omega) (by decide) (by decide) rfl (fun c => fin _ _ _ e) (fun c => absurd c (by omega))
    | succ r ih =>
      intro m c b hm hc2 e
      refine aw_iload C dL_good_26 rfl rfl ?_
      refine aw_bipush (v := nI 64) C dL_good_28 rfl rfl ?_
      refine an_icmp_ge (a := m) (b := 64) (tgt := 92) C dL_good_30 (by omega) (by decide) (by decide) rfl (fun c => absurd (show m < 64 by omega) c) (fun _ => ?_)
      refine aw_iload C dL_good_33 rfl rfl ?_
      have ih2 : ∀ (c : Nat) (b : Bool), c ≤ 24 → n_goodN L r c b = n_good L d → AW x (RQ x (PP sg0 (.int (b2i (n_good L d)))) noX 0 0) 0 0 sg0 26 [(0, .int (nI d)), (1, .ref (al 0)), (2, .ref (al 1)), (3, .ref (al 2)), (4, .ref (al 3)), (5, .ref (al 5)), (6, .ref (al 7)), (7, .ref (al 10)), (8, .int (b2i b)), (9, .int (nI c - 1)), (10, .int (nI (m + 1)))] [] := fun c b h1 h2 => ih (m + 1) c b (by omega) h1 h2
      by_cases hz : c = 0
      · subst hz
        refine aw_if_lt (tgt := 92) C dL_good_35 (by decide) rfl (fun _ => fin _ _ _ (by rw [n_goodN, if_pos rfl] at e; exact e)) (fun q => absurd (by decide) q)
      obtain ⟨c, rfl⟩ : ∃ k, c = k + 1 := ⟨c - 1, by omega⟩
      rw [nI_pred]
      rw [n_goodN, if_neg hz, Nat.add_sub_cancel] at e
      refine aw_if_lt (tgt := 92) C dL_good_35 (by decide) rfl (fun q => absurd q (nI_pos (by omega))) (fun _ => ?_)
      refine aw_iload C dL_good_38 rfl rfl ?_
      refine an_bif_eq (z := b) (tgt := 74) C dL_good_40 (by decide) rfl (fun cb => ?_) (fun cb => ?_)
      · refine aw_iconst (v := nI 0) C dL_good_74 rfl rfl ?_
        rw [b2i_n0]
        exact next r m c b false ih2 (by omega) (by omega) (by rw [Bool.not_eq_true] at cb; rw [cb, Bool.false_and] at e; exact e) rfl
      subst cb
      rw [Bool.true_and] at e
      refine aw_iload C dL_good_43 rfl rfl ?_
      refine aw_aload_n C dL_good_45 rfl rfl rfl ?_
      refine aw_aload_n C dL_good_46 rfl rfl rfl ?_
      refine aw_aload_n C dL_good_47 rfl rfl rfl ?_
      refine aw_aload C dL_good_48 rfl rfl ?_
      refine aw_aload C dL_good_50 rfl rfl ?_
      refine aw_aload C dL_good_52 rfl rfl ?_
      refine cw_callSp C k_L_63 (N_alone hl hst hM hB (d := c) (by omega)) ⟨by decide, by decide⟩ rfl rfl (Nat.le_of_ble_eq_true rfl) (Nat.le_refl _) (Nat.le_refl _) dL_good_54 rfl ?_
      refine an_bif_eq (z := n_alone L c) (tgt := 74) C dL_good_57 (by decide) rfl (fun ca => ?_) (fun ca => ?_)
      · refine aw_iconst (v := nI 0) C dL_good_74 rfl rfl ?_
        rw [b2i_n0]
        exact next r m c true false ih2 (by omega) (by omega) (by rw [Bool.not_eq_true] at ca; rw [ca, Bool.false_and] at e; exact e) rfl
      rw [ca, Bool.true_and] at e
      refine aw_aload_n C dL_good_60 rfl rfl rfl ?_
      refine aw_iload C dL_good_61 rfl rfl ?_
      refine an_iald (k := 2) (i := c) (N := 24) (v := (L.1 2 c)) C hM rfl rfl (by omega) rfl dL_good_63 rfl ?_
      refine aw_iconst (v := nI 2) C dL_good_64 rfl rfl ?_
      refine an_rem C (by have := hB 2 c; omega) (by decide) (by decide) dL_good_65 rfl ?_
      refine aw_iconst (v := nI 1) C dL_good_66 rfl rfl ?_
      refine an_icmp_ne (a := L.1 2 c % 2) (b := 1) (tgt := 74) C dL_good_67 (by omega) (by decide) (by decide) rfl (fun c67 => ?_) (fun c67 => ?_)
      · refine aw_iconst (v := nI 0) C dL_good_74 rfl rfl ?_
        rw [b2i_n0]
        exact next r m c true false ih2 (by omega) (by omega) (by rw [decide_eq_false c67] at e; exact e) rfl
      · refine aw_iconst (v := nI 1) C dL_good_70 rfl rfl ?_
        refine aw_goto (tgt := 75) C dL_good_71 (by decide) ?_
        rw [b2i_n1]
        exact next r m c true true ih2 (by omega) (by omega) (by rw [decide_eq_true c67] at e; exact e) rfl
  refine aw_iload_n C dL_good_0 rfl rfl rfl ?_
  refine aw_aload_n C dL_good_1 rfl rfl rfl ?_
  refine aw_aload_n C dL_good_2 rfl rfl rfl ?_
  refine aw_aload_n C dL_good_3 rfl rfl rfl ?_
  refine aw_aload C dL_good_4 rfl rfl ?_
  refine aw_aload C dL_good_6 rfl rfl ?_
  refine aw_aload C dL_good_8 rfl rfl ?_
  refine cw_callSp C k_L_63 (N_alone hl hst hM hB hd) ⟨by decide, by decide⟩ rfl rfl (Nat.le_of_ble_eq_true rfl) (Nat.le_refl _) (Nat.le_refl _) dL_good_10 rfl ?_
  refine aw_istore (ls' := [(8, _), (0, _), (1, _), (2, _), (3, _), (4, _), (5, _), (6, _), (7, _)]) C dL_good_13 (by decide) rfl rfl ?_
  refine aw_aload C dL_good_15 rfl rfl ?_
  refine aw_iload_n C dL_good_17 rfl rfl rfl ?_
  refine an_iald (k := 3) (i := d) (N := 24) (v := (L.1 3 d)) C hM rfl rfl hd rfl dL_good_18 rfl ?_
  refine aw_iconst (v := 1) C dL_good_19 rfl rfl ?_
  refine aw_isub C dL_good_20 rfl ?_
  refine aw_istore (ls' := [(9, _), (8, _), (0, _), (1, _), (2, _), (3, _), (4, _), (5, _), (6, _), (7, _)]) C dL_good_21 (by decide) rfl rfl ?_
  refine aw_iconst (v := nI 0) C dL_good_23 rfl rfl ?_
  refine aw_istore (ls' := [(10, _), (9, _), (8, _), (0, _), (1, _), (2, _), (3, _), (4, _), (5, _), (6, _), (7, _)]) C dL_good_24 (by decide) rfl rfl ?_
  refine aw_pick (ls' := [(0, _), (1, _), (2, _), (3, _), (4, _), (5, _), (6, _), (7, _), (8, _), (9, _), (10, _)]) [3, 4, 5, 6, 7, 8, 9, 10, 2, 1, 0] rfl ?_
  exact loop 64 0 (L.1 3 d) _ rfl (hc d hd) rfl
