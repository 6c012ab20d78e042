/-! the law's calls of the class that may be refused -/
def rmK : Room := { frames := 10, cells := 60, slots := 12000, locals := 428 }
/-- what a call tells: its answer, or -1003 -/
def opr (o : Op) : Int32 := if o.1 = 0 then o.2.1 else -1003
def opb (o : Op) : Int32 := if o.1 = 0 then (if o.2.1 = 0 then 0 else 1) else -1003
def HZq (g : Gx) (ez : Nat) (ad : Nat → Nat → Nat) (u : MU) (Y : GS) (sg : Sg) (r : Int32) (w : MU) : Option Value → Sg → Prop := fun v s' => v = some (.int r) ∧ CR g ez ad u Y sg w s'
theorem HZq.of {g : Gx} {ez : Nat} {ad : Nat → Nat → Nat} {u : MU} {Y : GS} {sg s' : Sg} {r r' : Int32} {w : MU} (h : r = r') (hC : CR g ez ad u Y sg w s') : HZq g ez ad u Y sg r' w (some (.int r)) s' := by
  subst h
  exact ⟨rfl, hC⟩
section IS1
variable {x : Cx} {Q : State → Prop} {k n : Nat} {sg : Sg} {pc p1 p2 p3 p4 p5 : Nat} {ls : List (Nat × Value)} {st : List Value} {cc : ByteArray} {nL : Nat} {own : String} {R : Room} {ret : Option FieldType}
theorem aw_is1 {v : Int32} (C : AWC x cc nL own R ret) (d0 : decode cc pc = .ok (.iconst 1, 1)) (d1 : decode cc p1 = .ok (.if_icmp .ne 7, 3)) (d2 : decode cc p2 = .ok (.iconst 1, 1)) (d3 : decode cc p3 = .ok (.goto 4, 3)) (d4 : decode cc p4 = .ok (.iconst 0, 1)) (e1 : pc + 1 = p1) (e2 : p1 + 3 = p2) (e3 : p2 + 1 = p3) (e4 : p3 + 3 = p4) (e5 : p4 + 1 = p5) (kk : AW x Q k n sg p5 ls (.int (b2i (decide (v = 1))) :: st)) : AW x Q k n sg pc ls (.int v :: st) := by
  refine aw_iconst (v := 1) C d0 rfl e1 ?_
  refine aw_icmp_ne (tgt := p4) C d1 (by omega) e2 (fun c => ?_) (fun c => ?_)
  · refine aw_iconst (v := 0) C d4 rfl e5 ?_
    rw [decide_eq_false c] at kk
    exact kk
  · refine aw_iconst (v := 1) C d2 rfl e3 ?_
    refine aw_goto (tgt := p5) C d3 (by omega) ?_
    rw [decide_eq_true c] at kk
    exact kk
theorem aw_b01 {v : Int32} (C : AWC x cc nL own R ret) (d0 : decode cc pc = .ok (.ifCond .eq 7, 3)) (kk1 : ¬ v = 0 → AW x Q k n sg (pc + 3) ls st) (kk0 : v = 0 → AW x Q k n sg (pc + 7) ls st) : AW x Q k n sg pc ls (.int v :: st) :=
  aw_if_eq (tgt := pc + 7) C d0 (by omega) rfl kk0 kk1
end IS1
theorem kL_calls : KSW RL 101 yL_calls cL_calls 9 (some .int) [(0, 246, 247, 61)] 8 := ⟨ws_of 422 (by decide +kernel), h_ini_L, ⟨⟨by decide, by decide⟩, by decide +kernel⟩, ws_of 420 (by decide +kernel), ws_of 421 (by decide +kernel)⟩
set_option maxRecDepth 100000 in
theorem H_draft {g : Gx} {l : Launch} {ez : Nat} (G : GOK g l ez) {sg : Sg} {ad : Nat → Nat → Nat} {u : MU} {Y : GS} (hS : CS g ez ad u Y sg) {N : Nat} (hI : CI N u) {a b c d e f : Int32} (hcd : (opDraft u a b c d e f).1 = 0 ∨ (opDraft u a b c d e f).1 = 3) : MMW g l yL_calls cL_calls 9 (some .int) [(0, 246, 247, 61)] rmK sg [.ref (ad 0 0), .int (nI 0), .int a, .int b, .int c, .int d, .int e, .int f] (HZq g ez ad u Y sg (opr (opDraft u a b c d e f)) (opDraft u a b c d e f).2.2) noX := by
  refine MMW.of G.1 G.2.1 (by decide) (Nat.le_of_ble_eq_true rfl) (fun x hg hlx C ht hargs => ?_)
  subst hg; subst hlx
  have C : AWC x cL_calls 9 RL rmK (some .int) := C
  show AW x (RQ x _ _ _ _) 0 0 sg 0 [(0, .ref (ad 0 0)), (1, .int (nI 0)), (2, .int a), (3, .int b), (4, .int c), (5, .int d), (6, .int e), (7, .int f)] []
  refine aw_iload_n C dL_calls_0 rfl rfl rfl ?_
  refine aw_if_ne (tgt := 21) C dL_calls_1 (by decide) rfl (fun h => by first | exact absurd h (by decide) | exact absurd (by decide) h) (fun _ => ?_)
  refine aw_aload_n C dL_calls_4 rfl rfl rfl ?_
  refine aw_iload_n C dL_calls_5 rfl rfl rfl ?_
  refine aw_iload_n C dL_calls_6 rfl rfl rfl ?_
  refine aw_iload C dL_calls_7 rfl rfl ?_
  refine aw_iload C dL_calls_9 rfl rfl ?_
  refine aw_iload C dL_calls_11 rfl rfl ?_
  refine aw_iload C dL_calls_13 rfl rfl ?_
  refine aw_callV C k_L_10 (F_draft G hS hI (sk := a) (v := b) (w := c) (t := d) (x0 := e) (y0 := f)) ⟨by decide, by decide⟩ (ci := 10) rfl hS.O rfl rfl (Nat.le_of_ble_eq_true rfl) (Nat.le_of_ble_eq_true rfl) (Nat.le_of_ble_eq_true rfl) dL_calls_15 rfl (fun E s1 hx => ?_) (fun v1 s1 hq => ?_)
  · obtain ⟨h0, rfl, hC⟩ := hx
    rcases hcd with ec | ec
    · exact absurd ec h0
    rw [show x3 (opDraft u a b c d e f).1 = nSt from by rw [ec]; rfl]
    refine ax_catch (pc' := 247) (name := nSt) C [] ⟨0, 246, 247, 61⟩ [] (ht.trans rfl) (fun y hy => absurd hy List.not_mem_nil) (by decide) (by decide) h_L_61 (ws_of 229 (by decide +kernel)) rfl (fun q => ?_)
    refine aw_astore (ls' := [(8, _), (0, _), (1, _), (2, _), (3, _), (4, _), (5, _), (6, _), (7, _)]) C dL_calls_247 (by decide) rfl rfl ?_
    refine aw_sipush (v := -1003) C dL_calls_249 rfl rfl ?_
    exact aw_iret C rfl (Nat.le_of_ble_eq_true rfl) (Nat.le_of_ble_eq_true rfl) (HZq.of (by rw [opr, if_neg h0]) hC) dL_calls_252
  obtain ⟨h0, rfl, hC⟩ := hq
  refine aw_goto (tgt := 246) C dL_calls_18 (by decide) ?_
  exact aw_iret C rfl (Nat.le_of_ble_eq_true rfl) (Nat.le_of_ble_eq_true rfl) (HZq.of (by rw [opr, if_pos h0]) hC) dL_calls_246
set_option maxRecDepth 100000 in
theorem H_power {g : Gx} {l : Launch} {ez : Nat} (G : GOK g l ez) {sg : Sg} {ad : Nat → Nat → Nat} {u : MU} {Y : GS} (hS : CS g ez ad u Y sg) {N : Nat} (hI : CI N u) {a b c d e f : Int32} (hcd : (opPower u a b c d (decide (e = 1))).1 = 0 ∨ (opPower u a b c d (decide (e = 1))).1 = 3) : MMW g l yL_calls cL_calls 9 (some .int) [(0, 246, 247, 61)] rmK sg [.ref (ad 0 0), .int (nI 1), .int a, .int b, .int c, .int d, .int e, .int f] (HZq g ez ad u Y sg (opr (opPower u a b c d (decide (e = 1)))) (opPower u a b c d (decide (e = 1))).2.2) noX := by
  refine MMW.of G.1 G.2.1 (by decide) (Nat.le_of_ble_eq_true rfl) (fun x hg hlx C ht hargs => ?_)
  subst hg; subst hlx
  have C : AWC x cL_calls 9 RL rmK (some .int) := C
  show AW x (RQ x _ _ _ _) 0 0 sg 0 [(0, .ref (ad 0 0)), (1, .int (nI 1)), (2, .int a), (3, .int b), (4, .int c), (5, .int d), (6, .int e), (7, .int f)] []
  refine aw_iload_n C dL_calls_0 rfl rfl rfl ?_
  refine aw_if_ne (tgt := 21) C dL_calls_1 (by decide) rfl (fun _ => ?_) (fun h => by first | exact absurd h (by decide) | exact absurd (by decide) h)
  refine aw_iload_n C dL_calls_21 rfl rfl rfl ?_
  refine aw_iconst (v := 1) C dL_calls_22 rfl rfl ?_
  refine aw_icmp_ne (tgt := 50) C dL_calls_23 (by decide) rfl (fun h => by first | exact absurd h (by decide) | exact absurd (by decide) h) (fun _ => ?_)
  refine aw_aload_n C dL_calls_26 rfl rfl rfl ?_
  refine aw_iload_n C dL_calls_27 rfl rfl rfl ?_
  refine aw_iload_n C dL_calls_28 rfl rfl rfl ?_
  refine aw_iload C dL_calls_29 rfl rfl ?_
  refine aw_iload C dL_calls_31 rfl rfl ?_
  refine aw_iload C dL_calls_33 rfl rfl ?_
  refine aw_is1 (p1 := 36) (p2 := 39) (p3 := 40) (p4 := 43) (p5 := 44) C dL_calls_35 dL_calls_36 dL_calls_39 dL_calls_40 dL_calls_43 rfl rfl rfl rfl rfl ?_
  refine aw_callV C k_L_16 (F_power G hS hI (v := a) (w := b) (t := c) (dd := d) (on := decide (e = 1))) ⟨by decide, by decide⟩ (ci := 10) rfl hS.O rfl rfl (Nat.le_of_ble_eq_true rfl) (Nat.le_of_ble_eq_true rfl) (Nat.le_of_ble_eq_true rfl) dL_calls_44 rfl (fun E s1 hx => ?_) (fun v1 s1 hq => ?_)
  · obtain ⟨h0, rfl, hC⟩ := hx
    rcases hcd with ec | ec
    · exact absurd ec h0
    rw [show x3 (opPower u a b c d (decide (e = 1))).1 = nSt from by rw [ec]; rfl]
    refine ax_catch (pc' := 247) (name := nSt) C [] ⟨0, 246, 247, 61⟩ [] (ht.trans rfl) (fun y hy => absurd hy List.not_mem_nil) (by decide) (by decide) h_L_61 (ws_of 229 (by decide +kernel)) rfl (fun q => ?_)
    refine aw_astore (ls' := [(8, _), (0, _), (1, _), (2, _), (3, _), (4, _), (5, _), (6, _), (7, _)]) C dL_calls_247 (by decide) rfl rfl ?_
    refine aw_sipush (v := -1003) C dL_calls_249 rfl rfl ?_
    exact aw_iret C rfl (Nat.le_of_ble_eq_true rfl) (Nat.le_of_ble_eq_true rfl) (HZq.of (by rw [opr, if_neg h0]) hC) dL_calls_252
  obtain ⟨h0, rfl, hC⟩ := hq
  refine aw_goto (tgt := 246) C dL_calls_47 (by decide) ?_
  exact aw_iret C rfl (Nat.le_of_ble_eq_true rfl) (Nat.le_of_ble_eq_true rfl) (HZq.of (by rw [opr, if_pos h0]) hC) dL_calls_246
set_option maxRecDepth 100000 in
theorem H_will {g : Gx} {l : Launch} {ez : Nat} (G : GOK g l ez) {sg : Sg} {ad : Nat → Nat → Nat} {u : MU} {Y : GS} (hS : CS g ez ad u Y sg) {N : Nat} (hI : CI N u) {a b c d e f : Int32} (hcd : (opWill u a b c d).1 = 0 ∨ (opWill u a b c d).1 = 3) : MMW g l yL_calls cL_calls 9 (some .int) [(0, 246, 247, 61)] rmK sg [.ref (ad 0 0), .int (nI 2), .int a, .int b, .int c, .int d, .int e, .int f] (HZq g ez ad u Y sg (opr (opWill u a b c d)) (opWill u a b c d).2.2) noX := by
  refine MMW.of G.1 G.2.1 (by decide) (Nat.le_of_ble_eq_true rfl) (fun x hg hlx C ht hargs => ?_)
  subst hg; subst hlx
  have C : AWC x cL_calls 9 RL rmK (some .int) := C
  show AW x (RQ x _ _ _ _) 0 0 sg 0 [(0, .ref (ad 0 0)), (1, .int (nI 2)), (2, .int a), (3, .int b), (4, .int c), (5, .int d), (6, .int e), (7, .int f)] []
  refine aw_iload_n C dL_calls_0 rfl rfl rfl ?_
  refine aw_if_ne (tgt := 21) C dL_calls_1 (by decide) rfl (fun _ => ?_) (fun h => by first | exact absurd h (by decide) | exact absurd (by decide) h)
  refine aw_iload_n C dL_calls_21 rfl rfl rfl ?_
  refine aw_iconst (v := 1) C dL_calls_22 rfl rfl ?_
  refine aw_icmp_ne (tgt := 50) C dL_calls_23 (by decide) rfl (fun _ => ?_) (fun h => by first | exact absurd h (by decide) | exact absurd (by decide) h)
  refine aw_iload_n C dL_calls_50 rfl rfl rfl ?_
  refine aw_iconst (v := 2) C dL_calls_51 rfl rfl ?_
  refine aw_icmp_ne (tgt := 68) C dL_calls_52 (by decide) rfl (fun h => by first | exact absurd h (by decide) | exact absurd (by decide) h) (fun _ => ?_)
  refine aw_aload_n C dL_calls_55 rfl rfl rfl ?_
  refine aw_iload_n C dL_calls_56 rfl rfl rfl ?_
  refine aw_iload_n C dL_calls_57 rfl rfl rfl ?_
  refine aw_iload C dL_calls_58 rfl rfl ?_
  refine aw_iload C dL_calls_60 rfl rfl ?_
  refine aw_callV C k_L_20 (F_will G hS hI (v := a) (w := b) (x0 := c) (y0 := d)) ⟨by decide, by decide⟩ (ci := 10) rfl hS.O rfl rfl (Nat.le_of_ble_eq_true rfl) (Nat.le_of_ble_eq_true rfl) (Nat.le_of_ble_eq_true rfl) dL_calls_62 rfl (fun E s1 hx => ?_) (fun v1 s1 hq => ?_)
  · obtain ⟨h0, rfl, hC⟩ := hx
    rcases hcd with ec | ec
    · exact absurd ec h0
    rw [show x3 (opWill u a b c d).1 = nSt from by rw [ec]; rfl]
    refine ax_catch (pc' := 247) (name := nSt) C [] ⟨0, 246, 247, 61⟩ [] (ht.trans rfl) (fun y hy => absurd hy List.not_mem_nil) (by decide) (by decide) h_L_61 (ws_of 229 (by decide +kernel)) rfl (fun q => ?_)
    refine aw_astore (ls' := [(8, _), (0, _), (1, _), (2, _), (3, _), (4, _), (5, _), (6, _), (7, _)]) C dL_calls_247 (by decide) rfl rfl ?_
    refine aw_sipush (v := -1003) C dL_calls_249 rfl rfl ?_
    exact aw_iret C rfl (Nat.le_of_ble_eq_true rfl) (Nat.le_of_ble_eq_true rfl) (HZq.of (by rw [opr, if_neg h0]) hC) dL_calls_252
  obtain ⟨h0, rfl, hC⟩ := hq
  refine aw_goto (tgt := 246) C dL_calls_65 (by decide) ?_
  exact aw_iret C rfl (Nat.le_of_ble_eq_true rfl) (Nat.le_of_ble_eq_true rfl) (HZq.of (by rw [opr, if_pos h0]) hC) dL_calls_246
set_option maxRecDepth 100000 in
theorem H_sign {g : Gx} {l : Launch} {ez : Nat} (G : GOK g l ez) {sg : Sg} {ad : Nat → Nat → Nat} {u : MU} {Y : GS} (hS : CS g ez ad u Y sg) {N : Nat} (hI : CI N u) {a b c d e f : Int32} (hcd : (opSign u a b (decide (c = 1)) d).1 = 0 ∨ (opSign u a b (decide (c = 1)) d).1 = 2) : MMW g l yL_calls cL_calls 9 (some .int) [(0, 246, 247, 61)] rmK sg [.ref (ad 0 0), .int (nI 3), .int a, .int b, .int c, .int d, .int e, .int f] (HZq g ez ad u Y sg (opr (opSign u a b (decide (c = 1)) d)) (opSign u a b (decide (c = 1)) d).2.2) noX := by
  refine MMW.of G.1 G.2.1 (by decide) (Nat.le_of_ble_eq_true rfl) (fun x hg hlx C ht hargs => ?_)
  subst hg; subst hlx
  have C : AWC x cL_calls 9 RL rmK (some .int) := C
  show AW x (RQ x _ _ _ _) 0 0 sg 0 [(0, .ref (ad 0 0)), (1, .int (nI 3)), (2, .int a), (3, .int b), (4, .int c), (5, .int d), (6, .int e), (7, .int f)] []
  refine aw_iload_n C dL_calls_0 rfl rfl rfl ?_
  refine aw_if_ne (tgt := 21) C dL_calls_1 (by decide) rfl (fun _ => ?_) (fun h => by first | exact absurd h (by decide) | exact absurd (by decide) h)
  refine aw_iload_n C dL_calls_21 rfl rfl rfl ?_
  refine aw_iconst (v := 1) C dL_calls_22 rfl rfl ?_
  refine aw_icmp_ne (tgt := 50) C dL_calls_23 (by decide) rfl (fun _ => ?_) (fun h => by first | exact absurd h (by decide) | exact absurd (by decide) h)
  refine aw_iload_n C dL_calls_50 rfl rfl rfl ?_
  refine aw_iconst (v := 2) C dL_calls_51 rfl rfl ?_
  refine aw_icmp_ne (tgt := 68) C dL_calls_52 (by decide) rfl (fun _ => ?_) (fun h => by first | exact absurd h (by decide) | exact absurd (by decide) h)
  refine aw_iload_n C dL_calls_68 rfl rfl rfl ?_
  refine aw_iconst (v := 3) C dL_calls_69 rfl rfl ?_
  refine aw_icmp_ne (tgt := 95) C dL_calls_70 (by decide) rfl (fun h => by first | exact absurd h (by decide) | exact absurd (by decide) h) (fun _ => ?_)
  refine aw_aload_n C dL_calls_73 rfl rfl rfl ?_
  refine aw_iload_n C dL_calls_74 rfl rfl rfl ?_
  refine aw_iload_n C dL_calls_75 rfl rfl rfl ?_
  refine aw_iload C dL_calls_76 rfl rfl ?_
  refine aw_is1 (p1 := 79) (p2 := 82) (p3 := 83) (p4 := 86) (p5 := 87) C dL_calls_78 dL_calls_79 dL_calls_82 dL_calls_83 dL_calls_86 rfl rfl rfl rfl rfl ?_
  refine aw_iload C dL_calls_87 rfl rfl ?_
  refine aw_callV C k_L_24 (F_sign G hS hI (v := a) (w := b) (ig := decide (c = 1)) (kp0 := d)) ⟨by decide, by decide⟩ (ci := 10) rfl hS.O rfl rfl (Nat.le_of_ble_eq_true rfl) (Nat.le_of_ble_eq_true rfl) (Nat.le_of_ble_eq_true rfl) dL_calls_89 rfl (fun E s1 hx => ?_) (fun v1 s1 hq => ?_)
  · obtain ⟨h0, rfl, hC⟩ := hx
    rcases hcd with ec | ec
    · exact absurd ec h0
    rw [show x2s (opSign u a b (decide (c = 1)) d).1 = nSt from by rw [ec]; rfl]
    refine ax_catch (pc' := 247) (name := nSt) C [] ⟨0, 246, 247, 61⟩ [] (ht.trans rfl) (fun y hy => absurd hy List.not_mem_nil) (by decide) (by decide) h_L_61 (ws_of 229 (by decide +kernel)) rfl (fun q => ?_)
    refine aw_astore (ls' := [(8, _), (0, _), (1, _), (2, _), (3, _), (4, _), (5, _), (6, _), (7, _)]) C dL_calls_247 (by decide) rfl rfl ?_
    refine aw_sipush (v := -1003) C dL_calls_249 rfl rfl ?_
    exact aw_iret C rfl (Nat.le_of_ble_eq_true rfl) (Nat.le_of_ble_eq_true rfl) (HZq.of (by rw [opr, if_neg h0]) hC) dL_calls_252
  obtain ⟨h0, rfl, hC⟩ := hq
  refine aw_goto (tgt := 246) C dL_calls_92 (by decide) ?_
  exact aw_iret C rfl (Nat.le_of_ble_eq_true rfl) (Nat.le_of_ble_eq_true rfl) (HZq.of (by rw [opr, if_pos h0]) hC) dL_calls_246
set_option maxRecDepth 100000 in
theorem H_add {g : Gx} {l : Launch} {ez : Nat} (G : GOK g l ez) {sg : Sg} {ad : Nat → Nat → Nat} {u : MU} {Y : GS} (hS : CS g ez ad u Y sg) {N : Nat} (hI : CI N u) {a b c d e f : Int32} (hcd : (opAdd u a b).1 = 0 ∨ (opAdd u a b).1 = 3) : MMW g l yL_calls cL_calls 9 (some .int) [(0, 246, 247, 61)] rmK sg [.ref (ad 0 0), .int (nI 4), .int a, .int b, .int c, .int d, .int e, .int f] (HZq g ez ad u Y sg (opr (opAdd u a b)) (opAdd u a b).2.2) noX := by
  refine MMW.of G.1 G.2.1 (by decide) (Nat.le_of_ble_eq_true rfl) (fun x hg hlx C ht hargs => ?_)
  subst hg; subst hlx
  have C : AWC x cL_calls 9 RL rmK (some .int) := C
  show AW x (RQ x _ _ _ _) 0 0 sg 0 [(0, .ref (ad 0 0)), (1, .int (nI 4)), (2, .int a), (3, .int b), (4, .int c), (5, .int d), (6, .int e), (7, .int f)] []
  refine aw_iload_n C dL_calls_0 rfl rfl rfl ?_
  refine aw_if_ne (tgt := 21) C dL_calls_1 (by decide) rfl (fun _ => ?_) (fun h => by first | exact absurd h (by decide) | exact absurd (by decide) h)
  refine aw_iload_n C dL_calls_21 rfl rfl rfl ?_
  refine aw_iconst (v := 1) C dL_calls_22 rfl rfl ?_
  refine aw_icmp_ne (tgt := 50) C dL_calls_23 (by decide) rfl (fun _ => ?_) (fun h => by first | exact absurd h (by decide) | exact absurd (by decide) h)
  refine aw_iload_n C dL_calls_50 rfl rfl rfl ?_
  refine aw_iconst (v := 2) C dL_calls_51 rfl rfl ?_
  refine aw_icmp_ne (tgt := 68) C dL_calls_52 (by decide) rfl (fun _ => ?_) (fun h => by first | exact absurd h (by decide) | exact absurd (by decide) h)
  refine aw_iload_n C dL_calls_68 rfl rfl rfl ?_
  refine aw_iconst (v := 3) C dL_calls_69 rfl rfl ?_
  refine aw_icmp_ne (tgt := 95) C dL_calls_70 (by decide) rfl (fun _ => ?_) (fun h => by first | exact absurd h (by decide) | exact absurd (by decide) h)
  refine aw_iload_n C dL_calls_95 rfl rfl rfl ?_
  refine aw_iconst (v := 4) C dL_calls_96 rfl rfl ?_
  refine aw_icmp_ne (tgt := 109) C dL_calls_97 (by decide) rfl (fun h => by first | exact absurd h (by decide) | exact absurd (by decide) h) (fun _ => ?_)
  refine aw_aload_n C dL_calls_100 rfl rfl rfl ?_
  refine aw_iload_n C dL_calls_101 rfl rfl rfl ?_
  refine aw_iload_n C dL_calls_102 rfl rfl rfl ?_
  refine aw_callV C k_L_28 (F_add G hS hI (v := a) (w := b)) ⟨by decide, by decide⟩ (ci := 10) rfl hS.O rfl rfl (Nat.le_of_ble_eq_true rfl) (Nat.le_of_ble_eq_true rfl) (Nat.le_of_ble_eq_true rfl) dL_calls_103 rfl (fun E s1 hx => ?_) (fun v1 s1 hq => ?_)
  · obtain ⟨h0, rfl, hC⟩ := hx
    rcases hcd with ec | ec
    · exact absurd ec h0
    rw [show x3 (opAdd u a b).1 = nSt from by rw [ec]; rfl]
    refine ax_catch (pc' := 247) (name := nSt) C [] ⟨0, 246, 247, 61⟩ [] (ht.trans rfl) (fun y hy => absurd hy List.not_mem_nil) (by decide) (by decide) h_L_61 (ws_of 229 (by decide +kernel)) rfl (fun q => ?_)
    refine aw_astore (ls' := [(8, _), (0, _), (1, _), (2, _), (3, _), (4, _), (5, _), (6, _), (7, _)]) C dL_calls_247 (by decide) rfl rfl ?_
    refine aw_sipush (v := -1003) C dL_calls_249 rfl rfl ?_
    exact aw_iret C rfl (Nat.le_of_ble_eq_true rfl) (Nat.le_of_ble_eq_true rfl) (HZq.of (by rw [opr, if_neg h0]) hC) dL_calls_252
  obtain ⟨h0, rfl, hC⟩ := hq
  refine aw_goto (tgt := 246) C dL_calls_106 (by decide) ?_
  exact aw_iret C rfl (Nat.le_of_ble_eq_true rfl) (Nat.le_of_ble_eq_true rfl) (HZq.of (by rw [opr, if_pos h0]) hC) dL_calls_246
set_option maxRecDepth 100000 in
theorem H_witness {g : Gx} {l : Launch} {ez : Nat} (G : GOK g l ez) {sg : Sg} {ad : Nat → Nat → Nat} {u : MU} {Y : GS} (hS : CS g ez ad u Y sg) {N : Nat} (hI : CI N u) {a b c d e f : Int32} (hcd : (opWitness u a b).1 = 0 ∨ (opWitness u a b).1 = 2) : MMW g l yL_calls cL_calls 9 (some .int) [(0, 246, 247, 61)] rmK sg [.ref (ad 0 0), .int (nI 5), .int a, .int b, .int c, .int d, .int e, .int f] (HZq g ez ad u Y sg (opr (opWitness u a b)) (opWitness u a b).2.2) noX := by
  refine MMW.of G.1 G.2.1 (by decide) (Nat.le_of_ble_eq_true rfl) (fun x hg hlx C ht hargs => ?_)
  subst hg; subst hlx
  have C : AWC x cL_calls 9 RL rmK (some .int) := C
  show AW x (RQ x _ _ _ _) 0 0 sg 0 [(0, .ref (ad 0 0)), (1, .int (nI 5)), (2, .int a), (3, .int b), (4, .int c), (5, .int d), (6, .int e), (7, .int f)] []
  refine aw_iload_n C dL_calls_0 rfl rfl rfl ?_
  refine aw_if_ne (tgt := 21) C dL_calls_1 (by decide) rfl (fun _ => ?_) (fun h => by first | exact absurd h (by decide) | exact absurd (by decide) h)
  refine aw_iload_n C dL_calls_21 rfl rfl rfl ?_
  refine aw_iconst (v := 1) C dL_calls_22 rfl rfl ?_
  refine aw_icmp_ne (tgt := 50) C dL_calls_23 (by decide) rfl (fun _ => ?_) (fun h => by first | exact absurd h (by decide) | exact absurd (by decide) h)
  refine aw_iload_n C dL_calls_50 rfl rfl rfl ?_
  refine aw_iconst (v := 2) C dL_calls_51 rfl rfl ?_
  refine aw_icmp_ne (tgt := 68) C dL_calls_52 (by decide) rfl (fun _ => ?_) (fun h => by first | exact absurd h (by decide) | exact absurd (by decide) h)
  refine aw_iload_n C dL_calls_68 rfl rfl rfl ?_
  refine aw_iconst (v := 3) C dL_calls_69 rfl rfl ?_
  refine aw_icmp_ne (tgt := 95) C dL_calls_70 (by decide) rfl (fun _ => ?_) (fun h => by first | exact absurd h (by decide) | exact absurd (by decide) h)
  refine aw_iload_n C dL_calls_95 rfl rfl rfl ?_
  refine aw_iconst (v := 4) C dL_calls_96 rfl rfl ?_
  refine aw_icmp_ne (tgt := 109) C dL_calls_97 (by decide) rfl (fun _ => ?_) (fun h => by first | exact absurd h (by decide) | exact absurd (by decide) h)
  refine aw_iload_n C dL_calls_109 rfl rfl rfl ?_
  refine aw_iconst (v := 5) C dL_calls_110 rfl rfl ?_
  refine aw_icmp_ne (tgt := 123) C dL_calls_111 (by decide) rfl (fun h => by first | exact absurd h (by decide) | exact absurd (by decide) h) (fun _ => ?_)
  refine aw_aload_n C dL_calls_114 rfl rfl rfl ?_
  refine aw_iload_n C dL_calls_115 rfl rfl rfl ?_
  refine aw_iload_n C dL_calls_116 rfl rfl rfl ?_
  refine aw_callV C k_L_32 (F_witness G hS hI (v := a) (w := b)) ⟨by decide, by decide⟩ (ci := 10) rfl hS.O rfl rfl (Nat.le_of_ble_eq_true rfl) (Nat.le_of_ble_eq_true rfl) (Nat.le_of_ble_eq_true rfl) dL_calls_117 rfl (fun E s1 hx => ?_) (fun v1 s1 hq => ?_)
  · obtain ⟨h0, rfl, hC⟩ := hx
    rcases hcd with ec | ec
    · exact absurd ec h0
    rw [show x2s (opWitness u a b).1 = nSt from by rw [ec]; rfl]
    refine ax_catch (pc' := 247) (name := nSt) C [] ⟨0, 246, 247, 61⟩ [] (ht.trans rfl) (fun y hy => absurd hy List.not_mem_nil) (by decide) (by decide) h_L_61 (ws_of 229 (by decide +kernel)) rfl (fun q => ?_)
    refine aw_astore (ls' := [(8, _), (0, _), (1, _), (2, _), (3, _), (4, _), (5, _), (6, _), (7, _)]) C dL_calls_247 (by decide) rfl rfl ?_
    refine aw_sipush (v := -1003) C dL_calls_249 rfl rfl ?_
    exact aw_iret C rfl (Nat.le_of_ble_eq_true rfl) (Nat.le_of_ble_eq_true rfl) (HZq.of (by rw [opr, if_neg h0]) hC) dL_calls_252
  obtain ⟨h0, rfl, hC⟩ := hq
  refine aw_goto (tgt := 246) C dL_calls_120 (by decide) ?_
  exact aw_iret C rfl (Nat.le_of_ble_eq_true rfl) (Nat.le_of_ble_eq_true rfl) (HZq.of (by rw [opr, if_pos h0]) hC) dL_calls_246
set_option maxRecDepth 100000 in
theorem H_close {g : Gx} {l : Launch} {ez : Nat} (G : GOK g l ez) {sg : Sg} {ad : Nat → Nat → Nat} {u : MU} {Y : GS} (hS : CS g ez ad u Y sg) {N : Nat} (hI : CI N u) {a b c d e f : Int32} (hcd : (opClose u a).1 = 0 ∨ (opClose u a).1 = 2) : MMW g l yL_calls cL_calls 9 (some .int) [(0, 246, 247, 61)] rmK sg [.ref (ad 0 0), .int (nI 6), .int a, .int b, .int c, .int d, .int e, .int f] (HZq g ez ad u Y sg (opr (opClose u a)) (opClose u a).2.2) noX := by
  refine MMW.of G.1 G.2.1 (by decide) (Nat.le_of_ble_eq_true rfl) (fun x hg hlx C ht hargs => ?_)
  subst hg; subst hlx
  have C : AWC x cL_calls 9 RL rmK (some .int) := C
  show AW x (RQ x _ _ _ _) 0 0 sg 0 [(0, .ref (ad 0 0)), (1, .int (nI 6)), (2, .int a), (3, .int b), (4, .int c), (5, .int d), (6, .int e), (7, .int f)] []
  refine aw_iload_n C dL_calls_0 rfl rfl rfl ?_
  refine aw_if_ne (tgt := 21) C dL_calls_1 (by decide) rfl (fun _ => ?_) (fun h => by first | exact absurd h (by decide) | exact absurd (by decide) h)
  refine aw_iload_n C dL_calls_21 rfl rfl rfl ?_
  refine aw_iconst (v := 1) C dL_calls_22 rfl rfl ?_
  refine aw_icmp_ne (tgt := 50) C dL_calls_23 (by decide) rfl (fun _ => ?_) (fun h => by first | exact absurd h (by decide) | exact absurd (by decide) h)
  refine aw_iload_n C dL_calls_50 rfl rfl rfl ?_
  refine aw_iconst (v := 2) C dL_calls_51 rfl rfl ?_
  refine aw_icmp_ne (tgt := 68) C dL_calls_52 (by decide) rfl (fun _ => ?_) (fun h => by first | exact absurd h (by decide) | exact absurd (by decide) h)
  refine aw_iload_n C dL_calls_68 rfl rfl rfl ?_
  refine aw_iconst (v := 3) C dL_calls_69 rfl rfl ?_
  refine aw_icmp_ne (tgt := 95) C dL_calls_70 (by decide) rfl (fun _ => ?_) (fun h => by first | exact absurd h (by decide) | exact absurd (by decide) h)
  refine aw_iload_n C dL_calls_95 rfl rfl rfl ?_
  refine aw_iconst (v := 4) C dL_calls_96 rfl rfl ?_
  refine aw_icmp_ne (tgt := 109) C dL_calls_97 (by decide) rfl (fun _ => ?_) (fun h => by first | exact absurd h (by decide) | exact absurd (by decide) h)
  refine aw_iload_n C dL_calls_109 rfl rfl rfl ?_
  refine aw_iconst (v := 5) C dL_calls_110 rfl rfl ?_
  refine aw_icmp_ne (tgt := 123) C dL_calls_111 (by decide) rfl (fun _ => ?_) (fun h => by first | exact absurd h (by decide) | exact absurd (by decide) h)
  refine aw_iload_n C dL_calls_123 rfl rfl rfl ?_
  refine aw_bipush (v := 6) C dL_calls_124 rfl rfl ?_
  refine aw_icmp_ne (tgt := 137) C dL_calls_126 (by decide) rfl (fun h => by first | exact absurd h (by decide) | exact absurd (by decide) h) (fun _ => ?_)
  refine aw_aload_n C dL_calls_129 rfl rfl rfl ?_
  refine aw_iload_n C dL_calls_130 rfl rfl rfl ?_
  refine aw_callV C k_L_35 (F_close G hS hI (v := a)) ⟨by decide, by decide⟩ (ci := 10) rfl hS.O rfl rfl (Nat.le_of_ble_eq_true rfl) (Nat.le_of_ble_eq_true rfl) (Nat.le_of_ble_eq_true rfl) dL_calls_131 rfl (fun E s1 hx => ?_) (fun v1 s1 hq => ?_)
  · obtain ⟨h0, rfl, hC⟩ := hx
    rcases hcd with ec | ec
    · exact absurd ec h0
    rw [show x2s (opClose u a).1 = nSt from by rw [ec]; rfl]
    refine ax_catch (pc' := 247) (name := nSt) C [] ⟨0, 246, 247, 61⟩ [] (ht.trans rfl) (fun y hy => absurd hy List.not_mem_nil) (by decide) (by decide) h_L_61 (ws_of 229 (by decide +kernel)) rfl (fun q => ?_)
    refine aw_astore (ls' := [(8, _), (0, _), (1, _), (2, _), (3, _), (4, _), (5, _), (6, _), (7, _)]) C dL_calls_247 (by decide) rfl rfl ?_
    refine aw_sipush (v := -1003) C dL_calls_249 rfl rfl ?_
    exact aw_iret C rfl (Nat.le_of_ble_eq_true rfl) (Nat.le_of_ble_eq_true rfl) (HZq.of (by rw [opr, if_neg h0]) hC) dL_calls_252
  obtain ⟨h0, rfl, hC⟩ := hq
  refine aw_goto (tgt := 246) C dL_calls_134 (by decide) ?_
  exact aw_iret C rfl (Nat.le_of_ble_eq_true rfl) (Nat.le_of_ble_eq_true rfl) (HZq.of (by rw [opr, if_pos h0]) hC) dL_calls_246
set_option maxRecDepth 100000 in
theorem H_revoke {g : Gx} {l : Launch} {ez : Nat} (G : GOK g l ez) {sg : Sg} {ad : Nat → Nat → Nat} {u : MU} {Y : GS} (hS : CS g ez ad u Y sg) {N : Nat} (hI : CI N u) {a b c d e f : Int32} (hcd : (opRevoke u a (decide (b = 1))).1 = 0 ∨ (opRevoke u a (decide (b = 1))).1 = 2) : MMW g l yL_calls cL_calls 9 (some .int) [(0, 246, 247, 61)] rmK sg [.ref (ad 0 0), .int (nI 7), .int a, .int b, .int c, .int d, .int e, .int f] (HZq g ez ad u Y sg (opb (opRevoke u a (decide (b = 1)))) (opRevoke u a (decide (b = 1))).2.2) noX := by
  refine MMW.of G.1 G.2.1 (by decide) (Nat.le_of_ble_eq_true rfl) (fun x hg hlx C ht hargs => ?_)
  subst hg; subst hlx
  have C : AWC x cL_calls 9 RL rmK (some .int) := C
  show AW x (RQ x _ _ _ _) 0 0 sg 0 [(0, .ref (ad 0 0)), (1, .int (nI 7)), (2, .int a), (3, .int b), (4, .int c), (5, .int d), (6, .int e), (7, .int f)] []
  refine aw_iload_n C dL_calls_0 rfl rfl rfl ?_
  refine aw_if_ne (tgt := 21) C dL_calls_1 (by decide) rfl (fun _ => ?_) (fun h => by first | exact absurd h (by decide) | exact absurd (by decide) h)
  refine aw_iload_n C dL_calls_21 rfl rfl rfl ?_
  refine aw_iconst (v := 1) C dL_calls_22 rfl rfl ?_
  refine aw_icmp_ne (tgt := 50) C dL_calls_23 (by decide) rfl (fun _ => ?_) (fun h => by first | exact absurd h (by decide) | exact absurd (by decide) h)
  refine aw_iload_n C dL_calls_50 rfl rfl rfl ?_
  refine aw_iconst (v := 2) C dL_calls_51 rfl rfl ?_
  refine aw_icmp_ne (tgt := 68) C dL_calls_52 (by decide) rfl (fun _ => ?_) (fun h => by first | exact absurd h (by decide) | exact absurd (by decide) h)
  refine aw_iload_n C dL_calls_68 rfl rfl rfl ?_
  refine aw_iconst (v := 3) C dL_calls_69 rfl rfl ?_
  refine aw_icmp_ne (tgt := 95) C dL_calls_70 (by decide) rfl (fun _ => ?_) (fun h => by first | exact absurd h (by decide) | exact absurd (by decide) h)
  refine aw_iload_n C dL_calls_95 rfl rfl rfl ?_
  refine aw_iconst (v := 4) C dL_calls_96 rfl rfl ?_
  refine aw_icmp_ne (tgt := 109) C dL_calls_97 (by decide) rfl (fun _ => ?_) (fun h => by first | exact absurd h (by decide) | exact absurd (by decide) h)
  refine aw_iload_n C dL_calls_109 rfl rfl rfl ?_
  refine aw_iconst (v := 5) C dL_calls_110 rfl rfl ?_
  refine aw_icmp_ne (tgt := 123) C dL_calls_111 (by decide) rfl (fun _ => ?_) (fun h => by first | exact absurd h (by decide) | exact absurd (by decide) h)
  refine aw_iload_n C dL_calls_123 rfl rfl rfl ?_
  refine aw_bipush (v := 6) C dL_calls_124 rfl rfl ?_
  refine aw_icmp_ne (tgt := 137) C dL_calls_126 (by decide) rfl (fun _ => ?_) (fun h => by first | exact absurd h (by decide) | exact absurd (by decide) h)
  refine aw_iload_n C dL_calls_137 rfl rfl rfl ?_
  refine aw_bipush (v := 7) C dL_calls_138 rfl rfl ?_
  refine aw_icmp_ne (tgt := 169) C dL_calls_140 (by decide) rfl (fun h => by first | exact absurd h (by decide) | exact absurd (by decide) h) (fun _ => ?_)
  refine aw_aload_n C dL_calls_143 rfl rfl rfl ?_
  refine aw_iload_n C dL_calls_144 rfl rfl rfl ?_
  refine aw_iload_n C dL_calls_145 rfl rfl rfl ?_
  refine aw_is1 (p1 := 147) (p2 := 150) (p3 := 151) (p4 := 154) (p5 := 155) C dL_calls_146 dL_calls_147 dL_calls_150 dL_calls_151 dL_calls_154 rfl rfl rfl rfl rfl ?_
  refine aw_callV C k_L_39 (F_revoke G hS hI (v := a) (t := decide (b = 1))) ⟨by decide, by decide⟩ (ci := 10) rfl hS.O rfl rfl (Nat.le_of_ble_eq_true rfl) (Nat.le_of_ble_eq_true rfl) (Nat.le_of_ble_eq_true rfl) dL_calls_155 rfl (fun E s1 hx => ?_) (fun v1 s1 hq => ?_)
  · obtain ⟨h0, rfl, hC⟩ := hx
    rcases hcd with ec | ec
    · exact absurd ec h0
    rw [show x2s (opRevoke u a (decide (b = 1))).1 = nSt from by rw [ec]; rfl]
    refine ax_catch (pc' := 247) (name := nSt) C [] ⟨0, 246, 247, 61⟩ [] (ht.trans rfl) (fun y hy => absurd hy List.not_mem_nil) (by decide) (by decide) h_L_61 (ws_of 229 (by decide +kernel)) rfl (fun q => ?_)
    refine aw_astore (ls' := [(8, _), (0, _), (1, _), (2, _), (3, _), (4, _), (5, _), (6, _), (7, _)]) C dL_calls_247 (by decide) rfl rfl ?_
    refine aw_sipush (v := -1003) C dL_calls_249 rfl rfl ?_
    exact aw_iret C rfl (Nat.le_of_ble_eq_true rfl) (Nat.le_of_ble_eq_true rfl) (HZq.of (by rw [opb, if_neg h0]) hC) dL_calls_252
  obtain ⟨h0, rfl, hC⟩ := hq
  refine aw_if_eq (tgt := 165) C dL_calls_158 (by decide) rfl (fun c158 => ?_) (fun c158 => ?_)
  · refine aw_iconst (v := 0) C dL_calls_165 rfl rfl ?_
    refine aw_goto (tgt := 246) C dL_calls_166 (by decide) ?_
    exact aw_iret C rfl (Nat.le_of_ble_eq_true rfl) (Nat.le_of_ble_eq_true rfl) (HZq.of (by rw [opb, if_pos h0, if_pos c158]) hC) dL_calls_246
  · refine aw_iconst (v := 1) C dL_calls_161 rfl rfl ?_
    refine aw_goto (tgt := 246) C dL_calls_162 (by decide) ?_
    exact aw_iret C rfl (Nat.le_of_ble_eq_true rfl) (Nat.le_of_ble_eq_true rfl) (HZq.of (by rw [opb, if_pos h0, if_neg c158]) hC) dL_calls_246
set_option maxRecDepth 100000 in
theorem H_copy {g : Gx} {l : Launch} {ez : Nat} (G : GOK g l ez) {sg : Sg} {ad : Nat → Nat → Nat} {u : MU} {Y : GS} (hS : CS g ez ad u Y sg) {N : Nat} (hI : CI N u) {a b c d e f : Int32} (hcd : (opCopy u a).1 = 0 ∨ (opCopy u a).1 = 2) : MMW g l yL_calls cL_calls 9 (some .int) [(0, 246, 247, 61)] rmK sg [.ref (ad 0 0), .int (nI 8), .int a, .int b, .int c, .int d, .int e, .int f] (HZq g ez ad u Y sg (opr (opCopy u a)) (opCopy u a).2.2) noX := by
  refine MMW.of G.1 G.2.1 (by decide) (Nat.le_of_ble_eq_true rfl) (fun x hg hlx C ht hargs => ?_)
  subst hg; subst hlx
  have C : AWC x cL_calls 9 RL rmK (some .int) := C
  show AW x (RQ x _ _ _ _) 0 0 sg 0 [(0, .ref (ad 0 0)), (1, .int (nI 8)), (2, .int a), (3, .int b), (4, .int c), (5, .int d), (6, .int e), (7, .int f)] []
  refine aw_iload_n C dL_calls_0 rfl rfl rfl ?_
  refine aw_if_ne (tgt := 21) C dL_calls_1 (by decide) rfl (fun _ => ?_) (fun h => by first | exact absurd h (by decide) | exact absurd (by decide) h)
  refine aw_iload_n C dL_calls_21 rfl rfl rfl ?_
  refine aw_iconst (v := 1) C dL_calls_22 rfl rfl ?_
  refine aw_icmp_ne (tgt := 50) C dL_calls_23 (by decide) rfl (fun _ => ?_) (fun h => by first | exact absurd h (by decide) | exact absurd (by decide) h)
  refine aw_iload_n C dL_calls_50 rfl rfl rfl ?_
  refine aw_iconst (v := 2) C dL_calls_51 rfl rfl ?_
  refine aw_icmp_ne (tgt := 68) C dL_calls_52 (by decide) rfl (fun _ => ?_) (fun h => by first | exact absurd h (by decide) | exact absurd (by decide) h)
  refine aw_iload_n C dL_calls_68 rfl rfl rfl ?_
  refine aw_iconst (v := 3) C dL_calls_69 rfl rfl ?_
  refine aw_icmp_ne (tgt := 95) C dL_calls_70 (by decide) rfl (fun _ => ?_) (fun h => by first | exact absurd h (by decide) | exact absurd (by decide) h)
  refine aw_iload_n C dL_calls_95 rfl rfl rfl ?_
  refine aw_iconst (v := 4) C dL_calls_96 rfl rfl ?_
  refine aw_icmp_ne (tgt := 109) C dL_calls_97 (by decide) rfl (fun _ => ?_) (fun h => by first | exact absurd h (by decide) | exact absurd (by decide) h)
  refine aw_iload_n C dL_calls_109 rfl rfl rfl ?_
  refine aw_iconst (v := 5) C dL_calls_110 rfl rfl ?_
  refine aw_icmp_ne (tgt := 123) C dL_calls_111 (by decide) rfl (fun _ => ?_) (fun h => by first | exact absurd h (by decide) | exact absurd (by decide) h)
  refine aw_iload_n C dL_calls_123 rfl rfl rfl ?_
  refine aw_bipush (v := 6) C dL_calls_124 rfl rfl ?_
  refine aw_icmp_ne (tgt := 137) C dL_calls_126 (by decide) rfl (fun _ => ?_) (fun h => by first | exact absurd h (by decide) | exact absurd (by decide) h)
  refine aw_iload_n C dL_calls_137 rfl rfl rfl ?_
  refine aw_bipush (v := 7) C dL_calls_138 rfl rfl ?_
  refine aw_icmp_ne (tgt := 169) C dL_calls_140 (by decide) rfl (fun _ => ?_) (fun h => by first | exact absurd h (by decide) | exact absurd (by decide) h)
  refine aw_iload_n C dL_calls_169 rfl rfl rfl ?_
  refine aw_bipush (v := 8) C dL_calls_170 rfl rfl ?_
  refine aw_icmp_ne (tgt := 183) C dL_calls_172 (by decide) rfl (fun h => by first | exact absurd h (by decide) | exact absurd (by decide) h) (fun _ => ?_)
  refine aw_aload_n C dL_calls_175 rfl rfl rfl ?_
  refine aw_iload_n C dL_calls_176 rfl rfl rfl ?_
  refine aw_callV C k_L_43 (F_copy G hS hI (v := a)) ⟨by decide, by decide⟩ (ci := 10) rfl hS.O rfl rfl (Nat.le_of_ble_eq_true rfl) (Nat.le_of_ble_eq_true rfl) (Nat.le_of_ble_eq_true rfl) dL_calls_177 rfl (fun E s1 hx => ?_) (fun v1 s1 hq => ?_)
  · obtain ⟨h0, rfl, hC⟩ := hx
    rcases hcd with ec | ec
    · exact absurd ec h0
    rw [show x2s (opCopy u a).1 = nSt from by rw [ec]; rfl]
    refine ax_catch (pc' := 247) (name := nSt) C [] ⟨0, 246, 247, 61⟩ [] (ht.trans rfl) (fun y hy => absurd hy List.not_mem_nil) (by decide) (by decide) h_L_61 (ws_of 229 (by decide +kernel)) rfl (fun q => ?_)
    refine aw_astore (ls' := [(8, _), (0, _), (1, _), (2, _), (3, _), (4, _), (5, _), (6, _), (7, _)]) C dL_calls_247 (by decide) rfl rfl ?_
    refine aw_sipush (v := -1003) C dL_calls_249 rfl rfl ?_
    exact aw_iret C rfl (Nat.le_of_ble_eq_true rfl) (Nat.le_of_ble_eq_true rfl) (HZq.of (by rw [opr, if_neg h0]) hC) dL_calls_252
  obtain ⟨h0, rfl, hC⟩ := hq
  refine aw_goto (tgt := 246) C dL_calls_180 (by decide) ?_
  exact aw_iret C rfl (Nat.le_of_ble_eq_true rfl) (Nat.le_of_ble_eq_true rfl) (HZq.of (by rw [opr, if_pos h0]) hC) dL_calls_246
set_option maxRecDepth 100000 in
theorem H_lose {g : Gx} {l : Launch} {ez : Nat} (G : GOK g l ez) {sg : Sg} {ad : Nat → Nat → Nat} {u : MU} {Y : GS} (hS : CS g ez ad u Y sg) {N : Nat} (hI : CI N u) {a b c d e f : Int32} (hcd : (opLose u a).1 = 0 ∨ (opLose u a).1 = 2) : MMW g l yL_calls cL_calls 9 (some .int) [(0, 246, 247, 61)] rmK sg [.ref (ad 0 0), .int (nI 9), .int a, .int b, .int c, .int d, .int e, .int f] (HZq g ez ad u Y sg (opr (opLose u a)) (opLose u a).2.2) noX := by
  refine MMW.of G.1 G.2.1 (by decide) (Nat.le_of_ble_eq_true rfl) (fun x hg hlx C ht hargs => ?_)
  subst hg; subst hlx
  have C : AWC x cL_calls 9 RL rmK (some .int) := C
  show AW x (RQ x _ _ _ _) 0 0 sg 0 [(0, .ref (ad 0 0)), (1, .int (nI 9)), (2, .int a), (3, .int b), (4, .int c), (5, .int d), (6, .int e), (7, .int f)] []
  refine aw_iload_n C dL_calls_0 rfl rfl rfl ?_
  refine aw_if_ne (tgt := 21) C dL_calls_1 (by decide) rfl (fun _ => ?_) (fun h => by first | exact absurd h (by decide) | exact absurd (by decide) h)
  refine aw_iload_n C dL_calls_21 rfl rfl rfl ?_
  refine aw_iconst (v := 1) C dL_calls_22 rfl rfl ?_
  refine aw_icmp_ne (tgt := 50) C dL_calls_23 (by decide) rfl (fun _ => ?_) (fun h => by first | exact absurd h (by decide) | exact absurd (by decide) h)
  refine aw_iload_n C dL_calls_50 rfl rfl rfl ?_
  refine aw_iconst (v := 2) C dL_calls_51 rfl rfl ?_
  refine aw_icmp_ne (tgt := 68) C dL_calls_52 (by decide) rfl (fun _ => ?_) (fun h => by first | exact absurd h (by decide) | exact absurd (by decide) h)
  refine aw_iload_n C dL_calls_68 rfl rfl rfl ?_
  refine aw_iconst (v := 3) C dL_calls_69 rfl rfl ?_
  refine aw_icmp_ne (tgt := 95) C dL_calls_70 (by decide) rfl (fun _ => ?_) (fun h => by first | exact absurd h (by decide) | exact absurd (by decide) h)
  refine aw_iload_n C dL_calls_95 rfl rfl rfl ?_
  refine aw_iconst (v := 4) C dL_calls_96 rfl rfl ?_
  refine aw_icmp_ne (tgt := 109) C dL_calls_97 (by decide) rfl (fun _ => ?_) (fun h => by first | exact absurd h (by decide) | exact absurd (by decide) h)
  refine aw_iload_n C dL_calls_109 rfl rfl rfl ?_
  refine aw_iconst (v := 5) C dL_calls_110 rfl rfl ?_
  refine aw_icmp_ne (tgt := 123) C dL_calls_111 (by decide) rfl (fun _ => ?_) (fun h => by first | exact absurd h (by decide) | exact absurd (by decide) h)
  refine aw_iload_n C dL_calls_123 rfl rfl rfl ?_
  refine aw_bipush (v := 6) C dL_calls_124 rfl rfl ?_
  refine aw_icmp_ne (tgt := 137) C dL_calls_126 (by decide) rfl (fun _ => ?_) (fun h => by first | exact absurd h (by decide) | exact absurd (by decide) h)
  refine aw_iload_n C dL_calls_137 rfl rfl rfl ?_
  refine aw_bipush (v := 7) C dL_calls_138 rfl rfl ?_
  refine aw_icmp_ne (tgt := 169) C dL_calls_140 (by decide) rfl (fun _ => ?_) (fun h => by first | exact absurd h (by decide) | exact absurd (by decide) h)
  refine aw_iload_n C dL_calls_169 rfl rfl rfl ?_
  refine aw_bipush (v := 8) C dL_calls_170 rfl rfl ?_
  refine aw_icmp_ne (tgt := 183) C dL_calls_172 (by decide) rfl (fun _ => ?_) (fun h => by first | exact absurd h (by decide) | exact absurd (by decide) h)
  refine aw_iload_n C dL_calls_183 rfl rfl rfl ?_
  refine aw_bipush (v := 9) C dL_calls_184 rfl rfl ?_
  refine aw_icmp_ne (tgt := 197) C dL_calls_186 (by decide) rfl (fun h => by first | exact absurd h (by decide) | exact absurd (by decide) h) (fun _ => ?_)
  refine aw_aload_n C dL_calls_189 rfl rfl rfl ?_
  refine aw_iload_n C dL_calls_190 rfl rfl rfl ?_
  refine aw_callV C k_L_46 (F_lose G hS hI (v := a)) ⟨by decide, by decide⟩ (ci := 10) rfl hS.O rfl rfl (Nat.le_of_ble_eq_true rfl) (Nat.le_of_ble_eq_true rfl) (Nat.le_of_ble_eq_true rfl) dL_calls_191 rfl (fun E s1 hx => ?_) (fun v1 s1 hq => ?_)
  · obtain ⟨h0, rfl, hC⟩ := hx
    rcases hcd with ec | ec
    · exact absurd ec h0
    rw [show x2s (opLose u a).1 = nSt from by rw [ec]; rfl]
    refine ax_catch (pc' := 247) (name := nSt) C [] ⟨0, 246, 247, 61⟩ [] (ht.trans rfl) (fun y hy => absurd hy List.not_mem_nil) (by decide) (by decide) h_L_61 (ws_of 229 (by decide +kernel)) rfl (fun q => ?_)
    refine aw_astore (ls' := [(8, _), (0, _), (1, _), (2, _), (3, _), (4, _), (5, _), (6, _), (7, _)]) C dL_calls_247 (by decide) rfl rfl ?_
    refine aw_sipush (v := -1003) C dL_calls_249 rfl rfl ?_
    exact aw_iret C rfl (Nat.le_of_ble_eq_true rfl) (Nat.le_of_ble_eq_true rfl) (HZq.of (by rw [opr, if_neg h0]) hC) dL_calls_252
  obtain ⟨h0, rfl, hC⟩ := hq
  refine aw_goto (tgt := 246) C dL_calls_194 (by decide) ?_
  exact aw_iret C rfl (Nat.le_of_ble_eq_true rfl) (Nat.le_of_ble_eq_true rfl) (HZq.of (by rw [opr, if_pos h0]) hC) dL_calls_246
set_option maxRecDepth 100000 in
theorem H_enter {g : Gx} {l : Launch} {ez : Nat} (G : GOK g l ez) {sg : Sg} {ad : Nat → Nat → Nat} {u : MU} {Y : GS} (hS : CS g ez ad u Y sg) {N : Nat} (hI : CI N u) {a b c d e f : Int32} (hcd : (opEnter u a).1 = 0 ∨ (opEnter u a).1 = 2) : MMW g l yL_calls cL_calls 9 (some .int) [(0, 246, 247, 61)] rmK sg [.ref (ad 0 0), .int (nI 10), .int a, .int b, .int c, .int d, .int e, .int f] (HZq g ez ad u Y sg (opr (opEnter u a)) (opEnter u a).2.2) noX := by
  refine MMW.of G.1 G.2.1 (by decide) (Nat.le_of_ble_eq_true rfl) (fun x hg hlx C ht hargs => ?_)
  subst hg; subst hlx
  have C : AWC x cL_calls 9 RL rmK (some .int) := C
  show AW x (RQ x _ _ _ _) 0 0 sg 0 [(0, .ref (ad 0 0)), (1, .int (nI 10)), (2, .int a), (3, .int b), (4, .int c), (5, .int d), (6, .int e), (7, .int f)] []
  refine aw_iload_n C dL_calls_0 rfl rfl rfl ?_
  refine aw_if_ne (tgt := 21) C dL_calls_1 (by decide) rfl (fun _ => ?_) (fun h => by first | exact absurd h (by decide) | exact absurd (by decide) h)
  refine aw_iload_n C dL_calls_21 rfl rfl rfl ?_
  refine aw_iconst (v := 1) C dL_calls_22 rfl rfl ?_
  refine aw_icmp_ne (tgt := 50) C dL_calls_23 (by decide) rfl (fun _ => ?_) (fun h => by first | exact absurd h (by decide) | exact absurd (by decide) h)
  refine aw_iload_n C dL_calls_50 rfl rfl rfl ?_
  refine aw_iconst (v := 2) C dL_calls_51 rfl rfl ?_
  refine aw_icmp_ne (tgt := 68) C dL_calls_52 (by decide) rfl (fun _ => ?_) (fun h => by first | exact absurd h (by decide) | exact absurd (by decide) h)
  refine aw_iload_n C dL_calls_68 rfl rfl rfl ?_
  refine aw_iconst (v := 3) C dL_calls_69 rfl rfl ?_
  refine aw_icmp_ne (tgt := 95) C dL_calls_70 (by decide) rfl (fun _ => ?_) (fun h => by first | exact absurd h (by decide) | exact absurd (by decide) h)
  refine aw_iload_n C dL_calls_95 rfl rfl rfl ?_
  refine aw_iconst (v := 4) C dL_calls_96 rfl rfl ?_
  refine aw_icmp_ne (tgt := 109) C dL_calls_97 (by decide) rfl (fun _ => ?_) (fun h => by first | exact absurd h (by decide) | exact absurd (by decide) h)
  refine aw_iload_n C dL_calls_109 rfl rfl rfl ?_
  refine aw_iconst (v := 5) C dL_calls_110 rfl rfl ?_
  refine aw_icmp_ne (tgt := 123) C dL_calls_111 (by decide) rfl (fun _ => ?_) (fun h => by first | exact absurd h (by decide) | exact absurd (by decide) h)
  refine aw_iload_n C dL_calls_123 rfl rfl rfl ?_
  refine aw_bipush (v := 6) C dL_calls_124 rfl rfl ?_
  refine aw_icmp_ne (tgt := 137) C dL_calls_126 (by decide) rfl (fun _ => ?_) (fun h => by first | exact absurd h (by decide) | exact absurd (by decide) h)
  refine aw_iload_n C dL_calls_137 rfl rfl rfl ?_
  refine aw_bipush (v := 7) C dL_calls_138 rfl rfl ?_
  refine aw_icmp_ne (tgt := 169) C dL_calls_140 (by decide) rfl (fun _ => ?_) (fun h => by first | exact absurd h (by decide) | exact absurd (by decide) h)
  refine aw_iload_n C dL_calls_169 rfl rfl rfl ?_
  refine aw_bipush (v := 8) C dL_calls_170 rfl rfl ?_
  refine aw_icmp_ne (tgt := 183) C dL_calls_172 (by decide) rfl (fun _ => ?_) (fun h => by first | exact absurd h (by decide) | exact absurd (by decide) h)
  refine aw_iload_n C dL_calls_183 rfl rfl rfl ?_
  refine aw_bipush (v := 9) C dL_calls_184 rfl rfl ?_
  refine aw_icmp_ne (tgt := 197) C dL_calls_186 (by decide) rfl (fun _ => ?_) (fun h => by first | exact absurd h (by decide) | exact absurd (by decide) h)
  refine aw_iload_n C dL_calls_197 rfl rfl rfl ?_
  refine aw_bipush (v := 10) C dL_calls_198 rfl rfl ?_
  refine aw_icmp_ne (tgt := 211) C dL_calls_200 (by decide) rfl (fun h => by first | exact absurd h (by decide) | exact absurd (by decide) h) (fun _ => ?_)
  refine aw_aload_n C dL_calls_203 rfl rfl rfl ?_
  refine aw_iload_n C dL_calls_204 rfl rfl rfl ?_
  refine aw_callV C k_L_49 (F_enter G hS hI (v := a)) ⟨by decide, by decide⟩ (ci := 10) rfl hS.O rfl rfl (Nat.le_of_ble_eq_true rfl) (Nat.le_of_ble_eq_true rfl) (Nat.le_of_ble_eq_true rfl) dL_calls_205 rfl (fun E s1 hx => ?_) (fun v1 s1 hq => ?_)
  · obtain ⟨h0, rfl, hC⟩ := hx
    rcases hcd with ec | ec
    · exact absurd ec h0
    rw [show x2s (opEnter u a).1 = nSt from by rw [ec]; rfl]
    refine ax_catch (pc' := 247) (name := nSt) C [] ⟨0, 246, 247, 61⟩ [] (ht.trans rfl) (fun y hy => absurd hy List.not_mem_nil) (by decide) (by decide) h_L_61 (ws_of 229 (by decide +kernel)) rfl (fun q => ?_)
    refine aw_astore (ls' := [(8, _), (0, _), (1, _), (2, _), (3, _), (4, _), (5, _), (6, _), (7, _)]) C dL_calls_247 (by decide) rfl rfl ?_
    refine aw_sipush (v := -1003) C dL_calls_249 rfl rfl ?_
    exact aw_iret C rfl (Nat.le_of_ble_eq_true rfl) (Nat.le_of_ble_eq_true rfl) (HZq.of (by rw [opr, if_neg h0]) hC) dL_calls_252
  obtain ⟨h0, rfl, hC⟩ := hq
  refine aw_goto (tgt := 246) C dL_calls_208 (by decide) ?_
  exact aw_iret C rfl (Nat.le_of_ble_eq_true rfl) (Nat.le_of_ble_eq_true rfl) (HZq.of (by rw [opr, if_pos h0]) hC) dL_calls_246
set_option maxRecDepth 100000 in
theorem H_die {g : Gx} {l : Launch} {ez : Nat} (G : GOK g l ez) {sg : Sg} {ad : Nat → Nat → Nat} {u : MU} {Y : GS} (hS : CS g ez ad u Y sg) {N : Nat} (hI : CI N u) (hNS : NSf u) {a b c d e f : Int32} (hcd : (opDie u a).1 = 0 ∨ (opDie u a).1 = 2) : MMW g l yL_calls cL_calls 9 (some .int) [(0, 246, 247, 61)] rmK sg [.ref (ad 0 0), .int (nI 11), .int a, .int b, .int c, .int d, .int e, .int f] (HZq g ez ad u Y sg (opr (opDie u a)) (opDie u a).2.2) noX := by
  refine MMW.of G.1 G.2.1 (by decide) (Nat.le_of_ble_eq_true rfl) (fun x hg hlx C ht hargs => ?_)
  subst hg; subst hlx
  have C : AWC x cL_calls 9 RL rmK (some .int) := C
  show AW x (RQ x _ _ _ _) 0 0 sg 0 [(0, .ref (ad 0 0)), (1, .int (nI 11)), (2, .int a), (3, .int b), (4, .int c), (5, .int d), (6, .int e), (7, .int f)] []
  refine aw_iload_n C dL_calls_0 rfl rfl rfl ?_
  refine aw_if_ne (tgt := 21) C dL_calls_1 (by decide) rfl (fun _ => ?_) (fun h => by first | exact absurd h (by decide) | exact absurd (by decide) h)
  refine aw_iload_n C dL_calls_21 rfl rfl rfl ?_
  refine aw_iconst (v := 1) C dL_calls_22 rfl rfl ?_
  refine aw_icmp_ne (tgt := 50) C dL_calls_23 (by decide) rfl (fun _ => ?_) (fun h => by first | exact absurd h (by decide) | exact absurd (by decide) h)
  refine aw_iload_n C dL_calls_50 rfl rfl rfl ?_
  refine aw_iconst (v := 2) C dL_calls_51 rfl rfl ?_
  refine aw_icmp_ne (tgt := 68) C dL_calls_52 (by decide) rfl (fun _ => ?_) (fun h => by first | exact absurd h (by decide) | exact absurd (by decide) h)
  refine aw_iload_n C dL_calls_68 rfl rfl rfl ?_
  refine aw_iconst (v := 3) C dL_calls_69 rfl rfl ?_
  refine aw_icmp_ne (tgt := 95) C dL_calls_70 (by decide) rfl (fun _ => ?_) (fun h => by first | exact absurd h (by decide) | exact absurd (by decide) h)
  refine aw_iload_n C dL_calls_95 rfl rfl rfl ?_
  refine aw_iconst (v := 4) C dL_calls_96 rfl rfl ?_
  refine aw_icmp_ne (tgt := 109) C dL_calls_97 (by decide) rfl (fun _ => ?_) (fun h => by first | exact absurd h (by decide) | exact absurd (by decide) h)
  refine aw_iload_n C dL_calls_109 rfl rfl rfl ?_
  refine aw_iconst (v := 5) C dL_calls_110 rfl rfl ?_
  refine aw_icmp_ne (tgt := 123) C dL_calls_111 (by decide) rfl (fun _ => ?_) (fun h => by first | exact absurd h (by decide) | exact absurd (by decide) h)
  refine aw_iload_n C dL_calls_123 rfl rfl rfl ?_
  refine aw_bipush (v := 6) C dL_calls_124 rfl rfl ?_
  refine aw_icmp_ne (tgt := 137) C dL_calls_126 (by decide) rfl (fun _ => ?_) (fun h => by first | exact absurd h (by decide) | exact absurd (by decide) h)
  refine aw_iload_n C dL_calls_137 rfl rfl rfl ?_
  refine aw_bipush (v := 7) C dL_calls_138 rfl rfl ?_
  refine aw_icmp_ne (tgt := 169) C dL_calls_140 (by decide) rfl (fun _ => ?_) (fun h => by first | exact absurd h (by decide) | exact absurd (by decide) h)
  refine aw_iload_n C dL_calls_169 rfl rfl rfl ?_
  refine aw_bipush (v := 8) C dL_calls_170 rfl rfl ?_
  refine aw_icmp_ne (tgt := 183) C dL_calls_172 (by decide) rfl (fun _ => ?_) (fun h => by first | exact absurd h (by decide) | exact absurd (by decide) h)
  refine aw_iload_n C dL_calls_183 rfl rfl rfl ?_
  refine aw_bipush (v := 9) C dL_calls_184 rfl rfl ?_
  refine aw_icmp_ne (tgt := 197) C dL_calls_186 (by decide) rfl (fun _ => ?_) (fun h => by first | exact absurd h (by decide) | exact absurd (by decide) h)
  refine aw_iload_n C dL_calls_197 rfl rfl rfl ?_
  refine aw_bipush (v := 10) C dL_calls_198 rfl rfl ?_
  refine aw_icmp_ne (tgt := 211) C dL_calls_200 (by decide) rfl (fun _ => ?_) (fun h => by first | exact absurd h (by decide) | exact absurd (by decide) h)
  refine aw_iload_n C dL_calls_211 rfl rfl rfl ?_
  refine aw_bipush (v := 11) C dL_calls_212 rfl rfl ?_
  refine aw_icmp_ne (tgt := 225) C dL_calls_214 (by decide) rfl (fun h => by first | exact absurd h (by decide) | exact absurd (by decide) h) (fun _ => ?_)
  refine aw_aload_n C dL_calls_217 rfl rfl rfl ?_
  refine aw_iload_n C dL_calls_218 rfl rfl rfl ?_
  refine aw_callV C k_L_52 (F_die G hS hI (fun p hp => hNS p (by have := hI.n2; omega)) (v := a)) ⟨by decide, by decide⟩ (ci := 10) rfl hS.O rfl rfl (Nat.le_of_ble_eq_true rfl) (Nat.le_of_ble_eq_true rfl) (Nat.le_of_ble_eq_true rfl) dL_calls_219 rfl (fun E s1 hx => ?_) (fun v1 s1 hq => ?_)
  · obtain ⟨h0, rfl, hC⟩ := hx
    rcases hcd with ec | ec
    · exact absurd ec h0
    rw [show x2s (opDie u a).1 = nSt from by rw [ec]; rfl]
    refine ax_catch (pc' := 247) (name := nSt) C [] ⟨0, 246, 247, 61⟩ [] (ht.trans rfl) (fun y hy => absurd hy List.not_mem_nil) (by decide) (by decide) h_L_61 (ws_of 229 (by decide +kernel)) rfl (fun q => ?_)
    refine aw_astore (ls' := [(8, _), (0, _), (1, _), (2, _), (3, _), (4, _), (5, _), (6, _), (7, _)]) C dL_calls_247 (by decide) rfl rfl ?_
    refine aw_sipush (v := -1003) C dL_calls_249 rfl rfl ?_
    exact aw_iret C rfl (Nat.le_of_ble_eq_true rfl) (Nat.le_of_ble_eq_true rfl) (HZq.of (by rw [opr, if_neg h0]) hC) dL_calls_252
  obtain ⟨h0, rfl, hC⟩ := hq
  refine aw_goto (tgt := 246) C dL_calls_222 (by decide) ?_
  exact aw_iret C rfl (Nat.le_of_ble_eq_true rfl) (Nat.le_of_ble_eq_true rfl) (HZq.of (by rw [opr, if_pos h0]) hC) dL_calls_246
set_option maxRecDepth 100000 in
theorem H_child {g : Gx} {l : Launch} {ez : Nat} (G : GOK g l ez) {sg : Sg} {ad : Nat → Nat → Nat} {u : MU} {Y : GS} (hS : CS g ez ad u Y sg) {N : Nat} (hI : CI N u) {a b c d e f : Int32} (hcd : (opChild u a b).1 = 0 ∨ (opChild u a b).1 = 3) : MMW g l yL_calls cL_calls 9 (some .int) [(0, 246, 247, 61)] rmK sg [.ref (ad 0 0), .int (nI 12), .int a, .int b, .int c, .int d, .int e, .int f] (HZq g ez ad u Y sg (opr (opChild u a b)) (opChild u a b).2.2) noX := by
  refine MMW.of G.1 G.2.1 (by decide) (Nat.le_of_ble_eq_true rfl) (fun x hg hlx C ht hargs => ?_)
  subst hg; subst hlx
  have C : AWC x cL_calls 9 RL rmK (some .int) := C
  show AW x (RQ x _ _ _ _) 0 0 sg 0 [(0, .ref (ad 0 0)), (1, .int (nI 12)), (2, .int a), (3, .int b), (4, .int c), (5, .int d), (6, .int e), (7, .int f)] []
  refine aw_iload_n C dL_calls_0 rfl rfl rfl ?_
  refine aw_if_ne (tgt := 21) C dL_calls_1 (by decide) rfl (fun _ => ?_) (fun h => by first | exact absurd h (by decide) | exact absurd (by decide) h)
  refine aw_iload_n C dL_calls_21 rfl rfl rfl ?_
  refine aw_iconst (v := 1) C dL_calls_22 rfl rfl ?_
  refine aw_icmp_ne (tgt := 50) C dL_calls_23 (by decide) rfl (fun _ => ?_) (fun h => by first | exact absurd h (by decide) | exact absurd (by decide) h)
  refine aw_iload_n C dL_calls_50 rfl rfl rfl ?_
  refine aw_iconst (v := 2) C dL_calls_51 rfl rfl ?_
  refine aw_icmp_ne (tgt := 68) C dL_calls_52 (by decide) rfl (fun _ => ?_) (fun h => by first | exact absurd h (by decide) | exact absurd (by decide) h)
  refine aw_iload_n C dL_calls_68 rfl rfl rfl ?_
  refine aw_iconst (v := 3) C dL_calls_69 rfl rfl ?_
  refine aw_icmp_ne (tgt := 95) C dL_calls_70 (by decide) rfl (fun _ => ?_) (fun h => by first | exact absurd h (by decide) | exact absurd (by decide) h)
  refine aw_iload_n C dL_calls_95 rfl rfl rfl ?_
  refine aw_iconst (v := 4) C dL_calls_96 rfl rfl ?_
  refine aw_icmp_ne (tgt := 109) C dL_calls_97 (by decide) rfl (fun _ => ?_) (fun h => by first | exact absurd h (by decide) | exact absurd (by decide) h)
  refine aw_iload_n C dL_calls_109 rfl rfl rfl ?_
  refine aw_iconst (v := 5) C dL_calls_110 rfl rfl ?_
  refine aw_icmp_ne (tgt := 123) C dL_calls_111 (by decide) rfl (fun _ => ?_) (fun h => by first | exact absurd h (by decide) | exact absurd (by decide) h)
  refine aw_iload_n C dL_calls_123 rfl rfl rfl ?_
  refine aw_bipush (v := 6) C dL_calls_124 rfl rfl ?_
  refine aw_icmp_ne (tgt := 137) C dL_calls_126 (by decide) rfl (fun _ => ?_) (fun h => by first | exact absurd h (by decide) | exact absurd (by decide) h)
  refine aw_iload_n C dL_calls_137 rfl rfl rfl ?_
  refine aw_bipush (v := 7) C dL_calls_138 rfl rfl ?_
  refine aw_icmp_ne (tgt := 169) C dL_calls_140 (by decide) rfl (fun _ => ?_) (fun h => by first | exact absurd h (by decide) | exact absurd (by decide) h)
  refine aw_iload_n C dL_calls_169 rfl rfl rfl ?_
  refine aw_bipush (v := 8) C dL_calls_170 rfl rfl ?_
  refine aw_icmp_ne (tgt := 183) C dL_calls_172 (by decide) rfl (fun _ => ?_) (fun h => by first | exact absurd h (by decide) | exact absurd (by decide) h)
  refine aw_iload_n C dL_calls_183 rfl rfl rfl ?_
  refine aw_bipush (v := 9) C dL_calls_184 rfl rfl ?_
  refine aw_icmp_ne (tgt := 197) C dL_calls_186 (by decide) rfl (fun _ => ?_) (fun h => by first | exact absurd h (by decide) | exact absurd (by decide) h)
  refine aw_iload_n C dL_calls_197 rfl rfl rfl ?_
  refine aw_bipush (v := 10) C dL_calls_198 rfl rfl ?_
  refine aw_icmp_ne (tgt := 211) C dL_calls_200 (by decide) rfl (fun _ => ?_) (fun h => by first | exact absurd h (by decide) | exact absurd (by decide) h)
  refine aw_iload_n C dL_calls_211 rfl rfl rfl ?_
  refine aw_bipush (v := 11) C dL_calls_212 rfl rfl ?_
  refine aw_icmp_ne (tgt := 225) C dL_calls_214 (by decide) rfl (fun _ => ?_) (fun h => by first | exact absurd h (by decide) | exact absurd (by decide) h)
  refine aw_iload_n C dL_calls_225 rfl rfl rfl ?_
  refine aw_bipush (v := 12) C dL_calls_226 rfl rfl ?_
  refine aw_icmp_ne (tgt := 240) C dL_calls_228 (by decide) rfl (fun h => by first | exact absurd h (by decide) | exact absurd (by decide) h) (fun _ => ?_)
  refine aw_aload_n C dL_calls_231 rfl rfl rfl ?_
  refine aw_iload_n C dL_calls_232 rfl rfl rfl ?_
  refine aw_iload_n C dL_calls_233 rfl rfl rfl ?_
  refine aw_callV C k_L_55 (F_child G hS hI (v := a) (w := b)) ⟨by decide, by decide⟩ (ci := 10) rfl hS.O rfl rfl (Nat.le_of_ble_eq_true rfl) (Nat.le_of_ble_eq_true rfl) (Nat.le_of_ble_eq_true rfl) dL_calls_234 rfl (fun E s1 hx => ?_) (fun v1 s1 hq => ?_)
  · obtain ⟨h0, rfl, hC⟩ := hx
    rcases hcd with ec | ec
    · exact absurd ec h0
    rw [show x3 (opChild u a b).1 = nSt from by rw [ec]; rfl]
    refine ax_catch (pc' := 247) (name := nSt) C [] ⟨0, 246, 247, 61⟩ [] (ht.trans rfl) (fun y hy => absurd hy List.not_mem_nil) (by decide) (by decide) h_L_61 (ws_of 229 (by decide +kernel)) rfl (fun q => ?_)
    refine aw_astore (ls' := [(8, _), (0, _), (1, _), (2, _), (3, _), (4, _), (5, _), (6, _), (7, _)]) C dL_calls_247 (by decide) rfl rfl ?_
    refine aw_sipush (v := -1003) C dL_calls_249 rfl rfl ?_
    exact aw_iret C rfl (Nat.le_of_ble_eq_true rfl) (Nat.le_of_ble_eq_true rfl) (HZq.of (by rw [opr, if_neg h0]) hC) dL_calls_252
  obtain ⟨h0, rfl, hC⟩ := hq
  refine aw_goto (tgt := 246) C dL_calls_237 (by decide) ?_
  exact aw_iret C rfl (Nat.le_of_ble_eq_true rfl) (Nat.le_of_ble_eq_true rfl) (HZq.of (by rw [opr, if_pos h0]) hC) dL_calls_246
set_option maxRecDepth 100000 in
theorem H_guard {g : Gx} {l : Launch} {ez : Nat} (G : GOK g l ez) {sg : Sg} {ad : Nat → Nat → Nat} {u : MU} {Y : GS} (hS : CS g ez ad u Y sg) {N : Nat} (hI : CI N u) {a b c d e f : Int32} (hcd : (opGuard u a b).1 = 0 ∨ (opGuard u a b).1 = 3) : MMW g l yL_calls cL_calls 9 (some .int) [(0, 246, 247, 61)] rmK sg [.ref (ad 0 0), .int (nI 13), .int a, .int b, .int c, .int d, .int e, .int f] (HZq g ez ad u Y sg (opr (opGuard u a b)) (opGuard u a b).2.2) noX := by
  refine MMW.of G.1 G.2.1 (by decide) (Nat.le_of_ble_eq_true rfl) (fun x hg hlx C ht hargs => ?_)
  subst hg; subst hlx
  have C : AWC x cL_calls 9 RL rmK (some .int) := C
  show AW x (RQ x _ _ _ _) 0 0 sg 0 [(0, .ref (ad 0 0)), (1, .int (nI 13)), (2, .int a), (3, .int b), (4, .int c), (5, .int d), (6, .int e), (7, .int f)] []
  refine aw_iload_n C dL_calls_0 rfl rfl rfl ?_
  refine aw_if_ne (tgt := 21) C dL_calls_1 (by decide) rfl (fun _ => ?_) (fun h => by first | exact absurd h (by decide) | exact absurd (by decide) h)
  refine aw_iload_n C dL_calls_21 rfl rfl rfl ?_
  refine aw_iconst (v := 1) C dL_calls_22 rfl rfl ?_
  refine aw_icmp_ne (tgt := 50) C dL_calls_23 (by decide) rfl (fun _ => ?_) (fun h => by first | exact absurd h (by decide) | exact absurd (by decide) h)
  refine aw_iload_n C dL_calls_50 rfl rfl rfl ?_
  refine aw_iconst (v := 2) C dL_calls_51 rfl rfl ?_
  refine aw_icmp_ne (tgt := 68) C dL_calls_52 (by decide) rfl (fun _ => ?_) (fun h => by first | exact absurd h (by decide) | exact absurd (by decide) h)
  refine aw_iload_n C dL_calls_68 rfl rfl rfl ?_
  refine aw_iconst (v := 3) C dL_calls_69 rfl rfl ?_
  refine aw_icmp_ne (tgt := 95) C dL_calls_70 (by decide) rfl (fun _ => ?_) (fun h => by first | exact absurd h (by decide) | exact absurd (by decide) h)
  refine aw_iload_n C dL_calls_95 rfl rfl rfl ?_
  refine aw_iconst (v := 4) C dL_calls_96 rfl rfl ?_
  refine aw_icmp_ne (tgt := 109) C dL_calls_97 (by decide) rfl (fun _ => ?_) (fun h => by first | exact absurd h (by decide) | exact absurd (by decide) h)
  refine aw_iload_n C dL_calls_109 rfl rfl rfl ?_
  refine aw_iconst (v := 5) C dL_calls_110 rfl rfl ?_
  refine aw_icmp_ne (tgt := 123) C dL_calls_111 (by decide) rfl (fun _ => ?_) (fun h => by first | exact absurd h (by decide) | exact absurd (by decide) h)
  refine aw_iload_n C dL_calls_123 rfl rfl rfl ?_
  refine aw_bipush (v := 6) C dL_calls_124 rfl rfl ?_
  refine aw_icmp_ne (tgt := 137) C dL_calls_126 (by decide) rfl (fun _ => ?_) (fun h => by first | exact absurd h (by decide) | exact absurd (by decide) h)
  refine aw_iload_n C dL_calls_137 rfl rfl rfl ?_
  refine aw_bipush (v := 7) C dL_calls_138 rfl rfl ?_
  refine aw_icmp_ne (tgt := 169) C dL_calls_140 (by decide) rfl (fun _ => ?_) (fun h => by first | exact absurd h (by decide) | exact absurd (by decide) h)
  refine aw_iload_n C dL_calls_169 rfl rfl rfl ?_
  refine aw_bipush (v := 8) C dL_calls_170 rfl rfl ?_
  refine aw_icmp_ne (tgt := 183) C dL_calls_172 (by decide) rfl (fun _ => ?_) (fun h => by first | exact absurd h (by decide) | exact absurd (by decide) h)
  refine aw_iload_n C dL_calls_183 rfl rfl rfl ?_
  refine aw_bipush (v := 9) C dL_calls_184 rfl rfl ?_
  refine aw_icmp_ne (tgt := 197) C dL_calls_186 (by decide) rfl (fun _ => ?_) (fun h => by first | exact absurd h (by decide) | exact absurd (by decide) h)
  refine aw_iload_n C dL_calls_197 rfl rfl rfl ?_
  refine aw_bipush (v := 10) C dL_calls_198 rfl rfl ?_
  refine aw_icmp_ne (tgt := 211) C dL_calls_200 (by decide) rfl (fun _ => ?_) (fun h => by first | exact absurd h (by decide) | exact absurd (by decide) h)
  refine aw_iload_n C dL_calls_211 rfl rfl rfl ?_
  refine aw_bipush (v := 11) C dL_calls_212 rfl rfl ?_
  refine aw_icmp_ne (tgt := 225) C dL_calls_214 (by decide) rfl (fun _ => ?_) (fun h => by first | exact absurd h (by decide) | exact absurd (by decide) h)
  refine aw_iload_n C dL_calls_225 rfl rfl rfl ?_
  refine aw_bipush (v := 12) C dL_calls_226 rfl rfl ?_
  refine aw_icmp_ne (tgt := 240) C dL_calls_228 (by decide) rfl (fun _ => ?_) (fun h => by first | exact absurd h (by decide) | exact absurd (by decide) h)
  refine aw_aload_n C dL_calls_240 rfl rfl rfl ?_
  refine aw_iload_n C dL_calls_241 rfl rfl rfl ?_
  refine aw_iload_n C dL_calls_242 rfl rfl rfl ?_
  refine aw_callV C k_L_58 (F_guard G hS hI (v := a) (w := b)) ⟨by decide, by decide⟩ (ci := 10) rfl hS.O rfl rfl (Nat.le_of_ble_eq_true rfl) (Nat.le_of_ble_eq_true rfl) (Nat.le_of_ble_eq_true rfl) dL_calls_243 rfl (fun E s1 hx => ?_) (fun v1 s1 hq => ?_)
  · obtain ⟨h0, rfl, hC⟩ := hx
    rcases hcd with ec | ec
    · exact absurd ec h0
    rw [show x3 (opGuard u a b).1 = nSt from by rw [ec]; rfl]
    refine ax_catch (pc' := 247) (name := nSt) C [] ⟨0, 246, 247, 61⟩ [] (ht.trans rfl) (fun y hy => absurd hy List.not_mem_nil) (by decide) (by decide) h_L_61 (ws_of 229 (by decide +kernel)) rfl (fun q => ?_)
    refine aw_astore (ls' := [(8, _), (0, _), (1, _), (2, _), (3, _), (4, _), (5, _), (6, _), (7, _)]) C dL_calls_247 (by decide) rfl rfl ?_
    refine aw_sipush (v := -1003) C dL_calls_249 rfl rfl ?_
    exact aw_iret C rfl (Nat.le_of_ble_eq_true rfl) (Nat.le_of_ble_eq_true rfl) (HZq.of (by rw [opr, if_neg h0]) hC) dL_calls_252
  obtain ⟨h0, rfl, hC⟩ := hq
  exact aw_iret C rfl (Nat.le_of_ble_eq_true rfl) (Nat.le_of_ble_eq_true rfl) (HZq.of (by rw [opr, if_pos h0]) hC) dL_calls_246
