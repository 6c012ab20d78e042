/-! the law: a turn and its cases -/
theorem ZKu.pass {u : MU} (h : ZKu u) {v : Int32} : ZKu (opPass u v).2.2 := by
  unfold opPass
  (repeat' split) <;> first | exact h | exact h.eq rfl rfl
def n_law_526_s0 (L : ZU) (one : Nat) : Bool := (if (L.1 0 (16 + one)) = 0 then true else false)
def n_law_561_s0 (L : ZU) (one : Nat) : Nat := (if (n_law_526_s0 L one) = true then 0 else (L.1 0 (32 + one)))
def n_law_588_s0 (L : ZU) (one : Nat) : Int32 := (if (n_law_526_s0 L one) = true then (nI (L.1 0 (32 + one)) - 1) else (-1003))
theorem law_canB {L : ZU} {one : Nat} : n_law_526_s0 L one = true ↔ L.1 0 (16 + one) = 0 ∧ (0 ≠ 0 → L.1 0 (16 + (0 - 1)) = 0) := by
  unfold n_law_526_s0
  by_cases q : L.1 0 (16 + one) = 0
  · rw [if_pos q]
    exact ⟨fun _ => ⟨q, fun z => absurd rfl z⟩, fun _ => rfl⟩
  · rw [if_neg q]
    exact ⟨fun z => (Bool.false_ne_true z).elim, fun z => absurd z.1 q⟩
def n_law_432_s0 (L : ZU) (one gd : Nat) : Bool := (if (L.1 0 (16 + one)) + (L.1 0 (16 + gd)) = 0 then true else false)
def n_law_470_s0 (L : ZU) (one gd : Nat) : Nat := (if (n_law_432_s0 L one gd) = true then gd + 1 else (L.1 0 (32 + one)))
def n_law_498_s0 (L : ZU) (one gd : Nat) : Int32 := (if (n_law_432_s0 L one gd) = true then (nI (L.1 0 (32 + one)) - 1) else (-1003))
theorem law_canA {L : ZU} {one gd : Nat} : n_law_432_s0 L one gd = true ↔ L.1 0 (16 + one) = 0 ∧ (gd + 1 ≠ 0 → L.1 0 (16 + (gd + 1 - 1)) = 0) := by
  unfold n_law_432_s0
  by_cases q : (L.1 0 (16 + one)) + (L.1 0 (16 + gd)) = 0
  · rw [if_pos q]
    exact ⟨fun _ => ⟨by omega, fun _ => by rw [Nat.add_sub_cancel]; omega⟩, fun _ => rfl⟩
  · rw [if_neg q]
    refine ⟨fun z => (Bool.false_ne_true z).elim, fun z => absurd ?_ q⟩
    have h1 := z.2 (by omega)
    rw [Nat.add_sub_cancel] at h1
    have h0 := z.1
    omega
def n_law_750_s0 (L : ZU) (pa one : Nat) : Bool := (if (n_dM (L.1 0 (24 + one)) 6) < 2 then (if ((L.1 0 (24 + one)) / 2 ^ pa) % 2 = 0 then (if (L.1 0 (16 + one)) + (L.1 0 (16 + pa)) = 0 then true else false) else false) else false)
def n_law_779_s0 (L : ZU) (pa one : Nat) : Nat := (if (n_law_750_s0 L pa one) = true then 1 * 2 ^ pa else 0)
def n_law_810_s0 (L : ZU) (pa one : Nat) : Int32 := (if (n_law_750_s0 L pa one) = true then (nI ((n_dM (L.1 0 (24 + one)) 6) + 1)) else (-1003))
theorem law_canC {L : ZU} {pa one : Nat} : n_law_750_s0 L pa one = true ↔ n_dM (L.1 0 (24 + one)) 6 < 2 ∧ L.1 0 (24 + one) / 2 ^ pa % 2 = 0 ∧ L.1 0 (16 + one) = 0 ∧ L.1 0 (16 + pa) = 0 := by
  unfold n_law_750_s0
  by_cases q1 : n_dM (L.1 0 (24 + one)) 6 < 2
  · rw [if_pos q1]
    by_cases q2 : L.1 0 (24 + one) / 2 ^ pa % 2 = 0
    · rw [if_pos q2]
      by_cases q3 : L.1 0 (16 + one) + L.1 0 (16 + pa) = 0
      · rw [if_pos q3]
        exact ⟨fun _ => ⟨q1, q2, by omega, by omega⟩, fun _ => rfl⟩
      · rw [if_neg q3]
        refine ⟨fun z => (Bool.false_ne_true z).elim, fun z => absurd ?_ q3⟩
        have h1 := z.2.2.1
        have h2 := z.2.2.2
        omega
    · rw [if_neg q2]
      exact ⟨fun z => (Bool.false_ne_true z).elim, fun z => absurd z.2.1 q2⟩
  · rw [if_neg q1]
    exact ⟨fun z => (Bool.false_ne_true z).elim, fun z => absurd z.1 q1⟩
theorem law_orC {L : ZU} {pa one : Nat} : n_law_779_s0 L pa one = if n_law_750_s0 L pa one = true then 2 ^ pa else 0 := by
  unfold n_law_779_s0
  rw [Nat.one_mul]
theorem law_vC {L : ZU} {pa one : Nat} : L.1 0 (24 + one) ||| n_law_779_s0 L pa one = L.1 0 (24 + one) ∨ L.1 0 (24 + one) ||| n_law_779_s0 L pa one = L.1 0 (24 + one) ||| 2 ^ pa := by
  rw [law_orC]
  split
  · exact Or.inr rfl
  · exact Or.inl (Nat.or_zero _)
set_option maxRecDepth 100000 in
theorem T_drafts {x : Cx} {Q : State → Prop} {ez : Nat} (G : GOK x.g x.l ez) (C : AWC x cL_law 25 RL room_1 (some .boolean)) {ad : Nat → Nat → Nat} {u : MU} {Y : GS} {L : ZU} {al : Nat → Nat} {sg0 : Sg} {m b tn c n : Nat} {zz : Int32}  (hS : CS x.g ez ad u Y sg0) (hM : ZS x.g al L sg0) (hZ : CZ m u) (hR : ZR L u) (hK : ZKu u) (hT0 : L.1 10 0 ≤ 400 * m) (hT4 : L.1 10 4 ≤ 6000 * m) (hm : m ≤ 130) (hcc : c + 64 ≤ 707461) (hnn : n + 12100 ≤ 6979387) (next : ∀ sg, ZW x.g ez al (ad 0 0) (m + 1) sg → AW x Q (c + 64) (n + 12100) sg 964 [(0, .ref (b)), (1, .ref ((ad 0 0))), (2, .ref (al 0)), (3, .ref (al 1)), (4, .ref (al 2)), (5, .ref (al 3)), (6, .ref (al 4)), (7, .ref (al 5)), (8, .ref (al 6)), (9, .ref (al 7)), (10, .ref (al 8)), (11, .ref (al 9)), (12, .ref (al 10)), (13, .ref (al 11)), (14, .ref (al 12)), (15, .int (nI (1))), (16, .int (nI (tn))), (19, .int (zz))] [])  : AW x Q (c) (n) sg0 288 [(0, .ref (b)), (1, .ref ((ad 0 0))), (2, .ref (al 0)), (3, .ref (al 1)), (4, .ref (al 2)), (5, .ref (al 3)), (6, .ref (al 4)), (7, .ref (al 5)), (8, .ref (al 6)), (9, .ref (al 7)), (10, .ref (al 8)), (11, .ref (al 9)), (12, .ref (al 10)), (13, .ref (al 11)), (14, .ref (al 12)), (16, .int (nI (tn))), (19, .int (zz))] [] := by
  have hl := G.1
  have hst := G.2.1
  have hB := hR.B
  have hM0 := hM
  have hF : ZFr al sg0 sg0 := ZFr.rf
  have hI := hZ.1
  have hn3 := hR.ne.2
  have hn1 := hR.nd.2
  have z1 : (rmZ 1).cells = 0 ∧ (rmZ 1).slots = 0 ∧ rmK.cells = 60 ∧ rmK.slots = 12000 ∧ rmA.cells = 60 ∧ rmA.slots = 12000 ∧ rmD.cells = 1 ∧ rmD.slots = 14 ∧ (rmC 9 8 60).cells = 8 ∧ (rmC 9 8 60).slots = 60 := ⟨rfl, rfl, rfl, rfl, rfl, rfl, rfl, rfl, rfl, rfl⟩
  refine aw_aload C dL_law_288 rfl rfl ?_
  refine aw_iconst (v := nI 1) C dL_law_290 rfl rfl ?_
  refine an_iald (k := 10) (i := 1) (N := 5) (v := (L.1 10 1)) C hM rfl rfl (by decide) rfl dL_law_291 rfl ?_
  refine aw_bipush (v := nI 24) C dL_law_292 rfl rfl ?_
  refine an_icmp_eq (a := (L.1 10 1)) (b := 24) (tgt := 312) C dL_law_294 (by have := hB 10 1; omega) (by decide) (by decide) rfl (fun c294 => ?_) (fun c294 => ?_)
  · refine aw_iconst (v := nI 1) C dL_law_312 rfl rfl ?_
    refine aw_goto (tgt := 317) C dL_law_313 (by decide) ?_
    refine aw_istore (ls' := [(15, _), (0, _), (1, _), (2, _), (3, _), (4, _), (5, _), (6, _), (7, _), (8, _), (9, _), (10, _), (11, _), (12, _), (13, _), (14, _), (16, _), (19, _)]) C dL_law_317 (by decide) rfl rfl ?_
    refine aw_pick (ls' := [(0, _), (1, _), (2, _), (3, _), (4, _), (5, _), (6, _), (7, _), (8, _), (9, _), (10, _), (11, _), (12, _), (13, _), (14, _), (15, _), (16, _), (19, _)]) [1, 2, 3, 4, 5, 6, 7, 8, 9, 10, 11, 12, 13, 14, 15, 0, 16, 17] rfl ?_
    refine aw_goto (tgt := 964) C dL_law_319 (by decide) ?_
    exact aw_widen (by omega) (by omega) (next _ ⟨ad, u, Y, L, hS, rfl, hM, hZ.next, hR, hK, by omega, by omega⟩)
  · refine aw_aload_n C dL_law_297 rfl rfl rfl ?_
    refine aw_iload C dL_law_298 rfl rfl ?_
    refine aw_aload_n C dL_law_300 rfl rfl rfl ?_
    refine aw_aload_n C dL_law_301 rfl rfl rfl ?_
    refine aw_aload C dL_law_302 rfl rfl ?_
    refine aw_aload C dL_law_304 rfl rfl ?_
    refine aw_callS C k_L_167 (N_drafts G hS hM hZ hR hK hT0 hT4 hm (by omega)) ⟨by decide, by decide⟩ rfl rfl (Nat.le_of_ble_eq_true rfl) (show c + 60 ≤ 707461 by omega) (show n + 12000 ≤ 6979387 by omega) dL_law_306 rfl (fun _ _ q => ax_no q) (fun v1 sg hq => ?_)
    obtain ⟨rfl, hW⟩ := hq
    refine an_if_eq (a := 1) (tgt := 316) C dL_law_309 (by decide) (by decide) rfl (fun q => absurd q (by decide)) (fun _ => ?_)
    refine aw_iconst (v := nI 1) C dL_law_312 rfl rfl ?_
    refine aw_goto (tgt := 317) C dL_law_313 (by decide) ?_
    refine aw_istore (ls' := [(15, _), (0, _), (1, _), (2, _), (3, _), (4, _), (5, _), (6, _), (7, _), (8, _), (9, _), (10, _), (11, _), (12, _), (13, _), (14, _), (16, _), (19, _)]) C dL_law_317 (by decide) rfl rfl ?_
    refine aw_pick (ls' := [(0, _), (1, _), (2, _), (3, _), (4, _), (5, _), (6, _), (7, _), (8, _), (9, _), (10, _), (11, _), (12, _), (13, _), (14, _), (15, _), (16, _), (19, _)]) [1, 2, 3, 4, 5, 6, 7, 8, 9, 10, 11, 12, 13, 14, 15, 0, 16, 17] rfl ?_
    refine aw_goto (tgt := 964) C dL_law_319 (by decide) ?_
    exact aw_widen (by omega) (by omega) (next sg hW)
set_option maxRecDepth 100000 in
theorem T_acts {x : Cx} {Q : State → Prop} {ez : Nat} (G : GOK x.g x.l ez) (C : AWC x cL_law 25 RL room_1 (some .boolean)) {ad : Nat → Nat → Nat} {u : MU} {Y : GS} {L : ZU} {al : Nat → Nat} {sg0 : Sg} {m b tn c n : Nat} {zz : Int32} {act : Nat} (hS : CS x.g ez ad u Y sg0) (hM : ZS x.g al L sg0) (hZ : CZ m u) (hR : ZR L u) (hK : ZKu u) (hT0 : L.1 10 0 ≤ 400 * m) (hT4 : L.1 10 4 ≤ 6000 * m) (hm : m ≤ 130) (hcc : c + 64 ≤ 707461) (hnn : n + 12100 ≤ 6979387) (next : ∀ sg, ZW x.g ez al (ad 0 0) (m + 1) sg → AW x Q (c + 64) (n + 12100) sg 964 [(0, .ref (b)), (1, .ref ((ad 0 0))), (2, .ref (al 0)), (3, .ref (al 1)), (4, .ref (al 2)), (5, .ref (al 3)), (6, .ref (al 4)), (7, .ref (al 5)), (8, .ref (al 6)), (9, .ref (al 7)), (10, .ref (al 8)), (11, .ref (al 9)), (12, .ref (al 10)), (13, .ref (al 11)), (14, .ref (al 12)), (15, .int (nI (1))), (16, .int (nI (tn))), (19, .int (zz))] []) (h5 : 5 ≤ act) (h24 : act < 24) (hn0 : 0 < L.1 10 1) : AW x Q (c) (n) sg0 329 [(0, .ref (b)), (1, .ref ((ad 0 0))), (2, .ref (al 0)), (3, .ref (al 1)), (4, .ref (al 2)), (5, .ref (al 3)), (6, .ref (al 4)), (7, .ref (al 5)), (8, .ref (al 6)), (9, .ref (al 7)), (10, .ref (al 8)), (11, .ref (al 9)), (12, .ref (al 10)), (13, .ref (al 11)), (14, .ref (al 12)), (16, .int (nI (tn))), (18, .int (nI (act))), (19, .int (zz))] [] := by
  have hl := G.1
  have hst := G.2.1
  have hB := hR.B
  have hM0 := hM
  have hF : ZFr al sg0 sg0 := ZFr.rf
  have hI := hZ.1
  have hn3 := hR.ne.2
  have hn1 := hR.nd.2
  have z1 : (rmZ 1).cells = 0 ∧ (rmZ 1).slots = 0 ∧ rmK.cells = 60 ∧ rmK.slots = 12000 ∧ rmA.cells = 60 ∧ rmA.slots = 12000 ∧ rmD.cells = 1 ∧ rmD.slots = 14 ∧ (rmC 9 8 60).cells = 8 ∧ (rmC 9 8 60).slots = 60 := ⟨rfl, rfl, rfl, rfl, rfl, rfl, rfl, rfl, rfl, rfl⟩
  refine aw_aload_n C dL_law_329 rfl rfl rfl ?_
  refine aw_iload C dL_law_330 rfl rfl ?_
  refine aw_iconst (v := nI 5) C dL_law_332 rfl rfl ?_
  refine an_sub C h5 dL_law_333 rfl ?_
  refine aw_iload C dL_law_334 rfl rfl ?_
  refine aw_aload_n C dL_law_336 rfl rfl rfl ?_
  refine aw_aload_n C dL_law_337 rfl rfl rfl ?_
  refine aw_aload C dL_law_338 rfl rfl ?_
  refine aw_aload C dL_law_340 rfl rfl ?_
  refine aw_aload C dL_law_342 rfl rfl ?_
  refine aw_aload C dL_law_344 rfl rfl ?_
  refine aw_aload C dL_law_346 rfl rfl ?_
  refine aw_aload C dL_law_348 rfl rfl ?_
  refine aw_aload C dL_law_350 rfl rfl ?_
  refine aw_aload C dL_law_352 rfl rfl ?_
  refine aw_aload C dL_law_354 rfl rfl ?_
  refine aw_aload C dL_law_356 rfl rfl ?_
  refine aw_aload C dL_law_358 rfl rfl ?_
  refine aw_callS C k_L_171 (N_acts G hS hM hZ hR hK hT0 hT4 hm (act := act - 5) (by omega) hn0) ⟨by decide, by decide⟩ rfl rfl (Nat.le_of_ble_eq_true rfl) (show c + 60 ≤ 707461 by omega) (show n + 12000 ≤ 6979387 by omega) dL_law_360 rfl (fun _ _ q => ax_no q) (fun v1 sg hq => ?_)
  obtain ⟨rfl, hW⟩ := hq
  refine aw_istore (ls' := [(15, _), (0, _), (1, _), (2, _), (3, _), (4, _), (5, _), (6, _), (7, _), (8, _), (9, _), (10, _), (11, _), (12, _), (13, _), (14, _), (16, _), (18, _), (19, _)]) C dL_law_363 (by decide) rfl rfl ?_
  refine aw_pick (ls' := [(0, _), (1, _), (2, _), (3, _), (4, _), (5, _), (6, _), (7, _), (8, _), (9, _), (10, _), (11, _), (12, _), (13, _), (14, _), (15, _), (16, _), (18, _), (19, _)]) [1, 2, 3, 4, 5, 6, 7, 8, 9, 10, 11, 12, 13, 14, 15, 0, 16, 17, 18] rfl ?_
  refine aw_goto (tgt := 964) C dL_law_365 (by decide) ?_
  refine aw_pick (ls' := [(0, _), (1, _), (2, _), (3, _), (4, _), (5, _), (6, _), (7, _), (8, _), (9, _), (10, _), (11, _), (12, _), (13, _), (14, _), (15, _), (16, _), (19, _)]) [0, 1, 2, 3, 4, 5, 6, 7, 8, 9, 10, 11, 12, 13, 14, 15, 16, 18] rfl ?_
  exact aw_widen (by omega) (by omega) (next sg hW)
set_option maxRecDepth 100000 in
theorem T_guardB {x : Cx} {Q : State → Prop} {ez : Nat} (G : GOK x.g x.l ez) (C : AWC x cL_law 25 RL room_1 (some .boolean)) {ad : Nat → Nat → Nat} {u : MU} {Y : GS} {L : ZU} {al : Nat → Nat} {sg0 : Sg} {m b tn c n : Nat} {zz : Int32} {one : Nat} (hS : CS x.g ez ad u Y sg0) (hM : ZS x.g al L sg0) (hZ : CZ m u) (hR : ZR L u) (hK : ZKu u) (hT0 : L.1 10 0 ≤ 400 * m) (hT4 : L.1 10 4 ≤ 6000 * m) (hm : m ≤ 130) (hcc : c + 64 ≤ 707461) (hnn : n + 12100 ≤ 6979387) (next : ∀ sg, ZW x.g ez al (ad 0 0) (m + 1) sg → AW x Q (c + 64) (n + 12100) sg 964 [(0, .ref (b)), (1, .ref ((ad 0 0))), (2, .ref (al 0)), (3, .ref (al 1)), (4, .ref (al 2)), (5, .ref (al 3)), (6, .ref (al 4)), (7, .ref (al 5)), (8, .ref (al 6)), (9, .ref (al 7)), (10, .ref (al 8)), (11, .ref (al 9)), (12, .ref (al 10)), (13, .ref (al 11)), (14, .ref (al 12)), (15, .int (nI (1))), (16, .int (nI (tn))), (19, .int (zz))] []) (ho : one < 6) : AW x Q (c) (n) sg0 511 [(0, .ref (b)), (1, .ref ((ad 0 0))), (2, .ref (al 0)), (3, .ref (al 1)), (4, .ref (al 2)), (5, .ref (al 3)), (6, .ref (al 4)), (7, .ref (al 5)), (8, .ref (al 6)), (9, .ref (al 7)), (10, .ref (al 8)), (11, .ref (al 9)), (12, .ref (al 10)), (13, .ref (al 11)), (14, .ref (al 12)), (16, .int (nI (tn))), (19, .int (zz)), (20, .int (nI (one)))] [] := by
  have hl := G.1
  have hst := G.2.1
  have hB := hR.B
  have hM0 := hM
  have hF : ZFr al sg0 sg0 := ZFr.rf
  have hI := hZ.1
  have hn3 := hR.ne.2
  have hn1 := hR.nd.2
  have z1 : (rmZ 1).cells = 0 ∧ (rmZ 1).slots = 0 ∧ rmK.cells = 60 ∧ rmK.slots = 12000 ∧ rmA.cells = 60 ∧ rmA.slots = 12000 ∧ rmD.cells = 1 ∧ rmD.slots = 14 ∧ (rmC 9 8 60).cells = 8 ∧ (rmC 9 8 60).slots = 60 := ⟨rfl, rfl, rfl, rfl, rfl, rfl, rfl, rfl, rfl, rfl⟩
  refine aw_aload_n C dL_law_511 rfl rfl rfl ?_
  refine aw_bipush (v := nI 16) C dL_law_512 rfl rfl ?_
  refine aw_iload C dL_law_514 rfl rfl ?_
  refine an_add C dL_law_516 rfl ?_
  refine an_iald (k := 0) (i := 16 + one) (N := 40) (v := (L.1 0 (16 + one))) C hM rfl rfl (by omega) rfl dL_law_517 rfl ?_
  have K526_1 : AW x Q c n sg0 526 [(0, .ref (b)), (1, .ref ((ad 0 0))), (2, .ref (al 0)), (3, .ref (al 1)), (4, .ref (al 2)), (5, .ref (al 3)), (6, .ref (al 4)), (7, .ref (al 5)), (8, .ref (al 6)), (9, .ref (al 7)), (10, .ref (al 8)), (11, .ref (al 9)), (12, .ref (al 10)), (13, .ref (al 11)), (14, .ref (al 12)), (16, .int (nI (tn))), (19, .int (zz)), (20, .int (nI (one)))] [.int (b2i ((n_law_526_s0 L one)))] := by
    refine aw_istore (ls' := [(22, _), (0, _), (1, _), (2, _), (3, _), (4, _), (5, _), (6, _), (7, _), (8, _), (9, _), (10, _), (11, _), (12, _), (13, _), (14, _), (16, _), (19, _), (20, _)]) C dL_law_526 (by decide) rfl rfl ?_
    refine aw_pick (ls' := [(0, _), (1, _), (2, _), (3, _), (4, _), (5, _), (6, _), (7, _), (8, _), (9, _), (10, _), (11, _), (12, _), (13, _), (14, _), (16, _), (19, _), (20, _), (22, _)]) [1, 2, 3, 4, 5, 6, 7, 8, 9, 10, 11, 12, 13, 14, 15, 16, 17, 18, 0] rfl ?_
    refine aw_aload_n C dL_law_528 rfl rfl rfl ?_
    refine aw_bipush (v := nI 32) C dL_law_529 rfl rfl ?_
    refine aw_iload C dL_law_531 rfl rfl ?_
    refine an_add C dL_law_533 rfl ?_
    refine an_iald (k := 0) (i := 32 + one) (N := 40) (v := (L.1 0 (32 + one))) C hM rfl rfl (by omega) rfl dL_law_534 rfl ?_
    refine aw_iconst (v := nI 1) C dL_law_535 rfl rfl ?_
    refine aw_isub C dL_law_536 rfl ?_
    rw [show nI (L.1 0 (32 + one)) - nI 1 = nI (L.1 0 (32 + one)) - 1 from rfl]
    refine aw_istore (ls' := [(23, _), (0, _), (1, _), (2, _), (3, _), (4, _), (5, _), (6, _), (7, _), (8, _), (9, _), (10, _), (11, _), (12, _), (13, _), (14, _), (16, _), (19, _), (20, _), (22, _)]) C dL_law_537 (by decide) rfl rfl ?_
    refine aw_pick (ls' := [(0, _), (1, _), (2, _), (3, _), (4, _), (5, _), (6, _), (7, _), (8, _), (9, _), (10, _), (11, _), (12, _), (13, _), (14, _), (16, _), (19, _), (20, _), (22, _), (23, _)]) [1, 2, 3, 4, 5, 6, 7, 8, 9, 10, 11, 12, 13, 14, 15, 16, 17, 18, 19, 0] rfl ?_
    refine aw_aload_n C dL_law_539 rfl rfl rfl ?_
    refine aw_bipush (v := nI 32) C dL_law_540 rfl rfl ?_
    refine aw_iload C dL_law_542 rfl rfl ?_
    refine an_add C dL_law_544 rfl ?_
    refine aw_iload C dL_law_545 rfl rfl ?_
    have K561_2 : AW x Q c n sg0 561 [(0, .ref (b)), (1, .ref ((ad 0 0))), (2, .ref (al 0)), (3, .ref (al 1)), (4, .ref (al 2)), (5, .ref (al 3)), (6, .ref (al 4)), (7, .ref (al 5)), (8, .ref (al 6)), (9, .ref (al 7)), (10, .ref (al 8)), (11, .ref (al 9)), (12, .ref (al 10)), (13, .ref (al 11)), (14, .ref (al 12)), (16, .int (nI (tn))), (19, .int (zz)), (20, .int (nI (one))), (22, .int (b2i ((n_law_526_s0 L one)))), (23, .int (nI ((L.1 0 (32 + one))) - 1))] [.int (nI ((n_law_561_s0 L one))), .int (nI (32 + one)), .ref (al 0)] := by
      refine an_iast (k := 0) (i := 32 + one) (N := 40) (v := (n_law_561_s0 L one)) C hM hF rfl rfl (by omega) dL_law_561 rfl (fun sg hM hF => ?_)
      refine aw_aload_n C dL_law_562 rfl rfl rfl ?_
      refine aw_bipush (v := nI 13) C dL_law_563 rfl rfl ?_
      refine aw_iload C dL_law_565 rfl rfl ?_
      refine aw_iconst (v := -1) C dL_law_567 rfl rfl ?_
      refine aw_iconst (v := nI 0) C dL_law_568 rfl rfl ?_
      refine aw_iconst (v := nI 0) C dL_law_569 rfl rfl ?_
      refine aw_iconst (v := nI 0) C dL_law_570 rfl rfl ?_
      refine aw_iconst (v := nI 0) C dL_law_571 rfl rfl ?_
      have hg := r_guard hZ hR ho (gq := 0) (can := (n_law_526_s0 L one)) (by omega) (by omega) law_canB
      rw [show nI 0 - 1 = (-1 : Int32) from by decide] at hg
      have hS := hS.keepZ hM0 hF
      refine aw_callSW C kL_calls (H_guard G hS hI (a := nI (one)) (b := (-1)) (c := nI (0)) (d := nI (0)) (e := nI (0)) (f := nI (0)) hg.1) ⟨by decide, by decide⟩ rfl rfl (Nat.le_of_ble_eq_true rfl) (show c + 60 ≤ 707461 by omega) (show n + 12000 ≤ 6979387 by omega) dL_law_572 rfl (fun _ _ q => ax_no q) (fun v1 sg hq => ?_)
      obtain ⟨rfl, hC⟩ := hq
      have hM := hM.keepC hS hC.fr
      obtain ⟨ad', Y', hS1, e0, -, -, -⟩ := hC
      refine aw_iload C dL_law_575 rfl rfl ?_
      have K588_3 : AW x Q (c + 60) (n + 12000) sg 588 [(0, .ref (b)), (1, .ref ((ad 0 0))), (2, .ref (al 0)), (3, .ref (al 1)), (4, .ref (al 2)), (5, .ref (al 3)), (6, .ref (al 4)), (7, .ref (al 5)), (8, .ref (al 6)), (9, .ref (al 7)), (10, .ref (al 8)), (11, .ref (al 9)), (12, .ref (al 10)), (13, .ref (al 11)), (14, .ref (al 12)), (16, .int (nI (tn))), (19, .int (zz))] [.int ((n_law_588_s0 L one)), .int ((opr (opGuard u (nI one) (-1))))] := by
        refine aw_icmp_ne (tgt := 595) C dL_law_588 (by decide) rfl (fun q => absurd hg.2.1 q) (fun _ => ?_)
        refine aw_iconst (v := nI 1) C dL_law_591 rfl rfl ?_
        refine aw_goto (tgt := 596) C dL_law_592 (by decide) ?_
        refine aw_istore (ls' := [(15, _), (0, _), (1, _), (2, _), (3, _), (4, _), (5, _), (6, _), (7, _), (8, _), (9, _), (10, _), (11, _), (12, _), (13, _), (14, _), (16, _), (19, _)]) C dL_law_596 (by decide) rfl rfl ?_
        refine aw_pick (ls' := [(0, _), (1, _), (2, _), (3, _), (4, _), (5, _), (6, _), (7, _), (8, _), (9, _), (10, _), (11, _), (12, _), (13, _), (14, _), (15, _), (16, _), (19, _)]) [1, 2, 3, 4, 5, 6, 7, 8, 9, 10, 11, 12, 13, 14, 15, 0, 16, 17] rfl ?_
        refine aw_goto (tgt := 964) C dL_law_598 (by decide) ?_
        exact aw_widen (by omega) (by omega) (next _ ⟨ad', _, Y', _, hS1, e0, hM, hZ.guard.next, hg.2.2, hK.guard, (by rw [zI_k (by decide)]; omega), (by rw [zI_k (by decide)]; omega)⟩)
      refine an_bif_eq (z := (n_law_526_s0 L one)) (tgt := 585) C dL_law_577 (by decide) rfl (fun c577 => ?_) (fun c577 => ?_)
      · refine aw_sipush (v := -1003) C dL_law_585 rfl rfl ?_
        refine aw_pick (ls' := [(0, _), (1, _), (2, _), (3, _), (4, _), (5, _), (6, _), (7, _), (8, _), (9, _), (10, _), (11, _), (12, _), (13, _), (14, _), (16, _), (19, _)]) [0, 1, 2, 3, 4, 5, 6, 7, 8, 9, 10, 11, 12, 13, 14, 15, 16] rfl ?_
        have k9 := K588_3
        rw [show (n_law_588_s0 L one) = (-1003) from by rw [n_law_588_s0, if_neg c577]] at k9
        exact k9
      · refine aw_iload C dL_law_580 rfl rfl ?_
        refine aw_goto (tgt := 588) C dL_law_582 (by decide) ?_
        refine aw_pick (ls' := [(0, _), (1, _), (2, _), (3, _), (4, _), (5, _), (6, _), (7, _), (8, _), (9, _), (10, _), (11, _), (12, _), (13, _), (14, _), (16, _), (19, _)]) [0, 1, 2, 3, 4, 5, 6, 7, 8, 9, 10, 11, 12, 13, 14, 15, 16] rfl ?_
        have k9 := K588_3
        rw [show (n_law_588_s0 L one) = (nI (L.1 0 (32 + one)) - 1) from by rw [n_law_588_s0, if_pos c577]] at k9
        exact k9
    refine an_bif_eq (z := (n_law_526_s0 L one)) (tgt := 554) C dL_law_547 (by decide) rfl (fun c547 => ?_) (fun c547 => ?_)
    · refine aw_aload_n C dL_law_554 rfl rfl rfl ?_
      refine aw_bipush (v := nI 32) C dL_law_555 rfl rfl ?_
      refine aw_iload C dL_law_557 rfl rfl ?_
      refine an_add C dL_law_559 rfl ?_
      refine an_iald (k := 0) (i := 32 + one) (N := 40) (v := (L.1 0 (32 + one))) C hM rfl rfl (by omega) rfl dL_law_560 rfl ?_
      have k9 := K561_2
      rw [show (n_law_561_s0 L one) = (L.1 0 (32 + one)) from by rw [n_law_561_s0, if_neg c547]] at k9
      exact k9
    · refine aw_iconst (v := nI 0) C dL_law_550 rfl rfl ?_
      refine aw_goto (tgt := 561) C dL_law_551 (by decide) ?_
      have k9 := K561_2
      rw [show (n_law_561_s0 L one) = 0 from by rw [n_law_561_s0, if_pos c547]] at k9
      exact k9
  refine an_if_ne (a := (L.1 0 (16 + one))) (tgt := 525) C dL_law_518 (by have := hB 0 (16 + one); omega) (by decide) rfl (fun c518 => ?_) (fun c518 => ?_)
  · refine aw_iconst (v := nI 0) C dL_law_525 rfl rfl ?_
    have k9 := K526_1
    rw [show (n_law_526_s0 L one) = false from by rw [n_law_526_s0, if_neg c518]] at k9
    exact k9
  · refine aw_iconst (v := nI 1) C dL_law_521 rfl rfl ?_
    refine aw_goto (tgt := 526) C dL_law_522 (by decide) ?_
    have k9 := K526_1
    rw [show (n_law_526_s0 L one) = true from by rw [n_law_526_s0, if_pos c518]] at k9
    exact k9
set_option maxRecDepth 100000 in
theorem T_guardA {x : Cx} {Q : State → Prop} {ez : Nat} (G : GOK x.g x.l ez) (C : AWC x cL_law 25 RL room_1 (some .boolean)) {ad : Nat → Nat → Nat} {u : MU} {Y : GS} {L : ZU} {al : Nat → Nat} {sg0 : Sg} {m b tn c n : Nat} {zz : Int32} {one gd : Nat} (hS : CS x.g ez ad u Y sg0) (hM : ZS x.g al L sg0) (hZ : CZ m u) (hR : ZR L u) (hK : ZKu u) (hT0 : L.1 10 0 ≤ 400 * m) (hT4 : L.1 10 4 ≤ 6000 * m) (hm : m ≤ 130) (hcc : c + 64 ≤ 707461) (hnn : n + 12100 ≤ 6979387) (next : ∀ sg, ZW x.g ez al (ad 0 0) (m + 1) sg → AW x Q (c + 64) (n + 12100) sg 964 [(0, .ref (b)), (1, .ref ((ad 0 0))), (2, .ref (al 0)), (3, .ref (al 1)), (4, .ref (al 2)), (5, .ref (al 3)), (6, .ref (al 4)), (7, .ref (al 5)), (8, .ref (al 6)), (9, .ref (al 7)), (10, .ref (al 8)), (11, .ref (al 9)), (12, .ref (al 10)), (13, .ref (al 11)), (14, .ref (al 12)), (15, .int (nI (1))), (16, .int (nI (tn))), (19, .int (zz))] []) (ho : one < 6) (hgd : gd < 6) (hne : gd ≠ one) : AW x Q (c) (n) sg0 409 [(0, .ref (b)), (1, .ref ((ad 0 0))), (2, .ref (al 0)), (3, .ref (al 1)), (4, .ref (al 2)), (5, .ref (al 3)), (6, .ref (al 4)), (7, .ref (al 5)), (8, .ref (al 6)), (9, .ref (al 7)), (10, .ref (al 8)), (11, .ref (al 9)), (12, .ref (al 10)), (13, .ref (al 11)), (14, .ref (al 12)), (16, .int (nI (tn))), (19, .int (zz)), (20, .int (nI (one))), (21, .int (nI (gd)))] [] := by
  have hl := G.1
  have hst := G.2.1
  have hB := hR.B
  have hM0 := hM
  have hF : ZFr al sg0 sg0 := ZFr.rf
  have hI := hZ.1
  have hn3 := hR.ne.2
  have hn1 := hR.nd.2
  have z1 : (rmZ 1).cells = 0 ∧ (rmZ 1).slots = 0 ∧ rmK.cells = 60 ∧ rmK.slots = 12000 ∧ rmA.cells = 60 ∧ rmA.slots = 12000 ∧ rmD.cells = 1 ∧ rmD.slots = 14 ∧ (rmC 9 8 60).cells = 8 ∧ (rmC 9 8 60).slots = 60 := ⟨rfl, rfl, rfl, rfl, rfl, rfl, rfl, rfl, rfl, rfl⟩
  refine aw_aload_n C dL_law_409 rfl rfl rfl ?_
  refine aw_bipush (v := nI 16) C dL_law_410 rfl rfl ?_
  refine aw_iload C dL_law_412 rfl rfl ?_
  refine an_add C dL_law_414 rfl ?_
  refine an_iald (k := 0) (i := 16 + one) (N := 40) (v := (L.1 0 (16 + one))) C hM rfl rfl (by omega) rfl dL_law_415 rfl ?_
  refine aw_aload_n C dL_law_416 rfl rfl rfl ?_
  refine aw_bipush (v := nI 16) C dL_law_417 rfl rfl ?_
  refine aw_iload C dL_law_419 rfl rfl ?_
  refine an_add C dL_law_421 rfl ?_
  refine an_iald (k := 0) (i := 16 + gd) (N := 40) (v := (L.1 0 (16 + gd))) C hM rfl rfl (by omega) rfl dL_law_422 rfl ?_
  refine an_add C dL_law_423 rfl ?_
  have K432_1 : AW x Q c n sg0 432 [(0, .ref (b)), (1, .ref ((ad 0 0))), (2, .ref (al 0)), (3, .ref (al 1)), (4, .ref (al 2)), (5, .ref (al 3)), (6, .ref (al 4)), (7, .ref (al 5)), (8, .ref (al 6)), (9, .ref (al 7)), (10, .ref (al 8)), (11, .ref (al 9)), (12, .ref (al 10)), (13, .ref (al 11)), (14, .ref (al 12)), (16, .int (nI (tn))), (19, .int (zz)), (20, .int (nI (one))), (21, .int (nI (gd)))] [.int (b2i ((n_law_432_s0 L one gd)))] := by
    refine aw_istore (ls' := [(22, _), (0, _), (1, _), (2, _), (3, _), (4, _), (5, _), (6, _), (7, _), (8, _), (9, _), (10, _), (11, _), (12, _), (13, _), (14, _), (16, _), (19, _), (20, _), (21, _)]) C dL_law_432 (by decide) rfl rfl ?_
    refine aw_pick (ls' := [(0, _), (1, _), (2, _), (3, _), (4, _), (5, _), (6, _), (7, _), (8, _), (9, _), (10, _), (11, _), (12, _), (13, _), (14, _), (16, _), (19, _), (20, _), (21, _), (22, _)]) [1, 2, 3, 4, 5, 6, 7, 8, 9, 10, 11, 12, 13, 14, 15, 16, 17, 18, 19, 0] rfl ?_
    refine aw_aload_n C dL_law_434 rfl rfl rfl ?_
    refine aw_bipush (v := nI 32) C dL_law_435 rfl rfl ?_
    refine aw_iload C dL_law_437 rfl rfl ?_
    refine an_add C dL_law_439 rfl ?_
    refine an_iald (k := 0) (i := 32 + one) (N := 40) (v := (L.1 0 (32 + one))) C hM rfl rfl (by omega) rfl dL_law_440 rfl ?_
    refine aw_iconst (v := nI 1) C dL_law_441 rfl rfl ?_
    refine aw_isub C dL_law_442 rfl ?_
    rw [show nI (L.1 0 (32 + one)) - nI 1 = nI (L.1 0 (32 + one)) - 1 from rfl]
    refine aw_istore (ls' := [(23, _), (0, _), (1, _), (2, _), (3, _), (4, _), (5, _), (6, _), (7, _), (8, _), (9, _), (10, _), (11, _), (12, _), (13, _), (14, _), (16, _), (19, _), (20, _), (21, _), (22, _)]) C dL_law_443 (by decide) rfl rfl ?_
    refine aw_pick (ls' := [(0, _), (1, _), (2, _), (3, _), (4, _), (5, _), (6, _), (7, _), (8, _), (9, _), (10, _), (11, _), (12, _), (13, _), (14, _), (16, _), (19, _), (20, _), (21, _), (22, _), (23, _)]) [1, 2, 3, 4, 5, 6, 7, 8, 9, 10, 11, 12, 13, 14, 15, 16, 17, 18, 19, 20, 0] rfl ?_
    refine aw_aload_n C dL_law_445 rfl rfl rfl ?_
    refine aw_bipush (v := nI 32) C dL_law_446 rfl rfl ?_
    refine aw_iload C dL_law_448 rfl rfl ?_
    refine an_add C dL_law_450 rfl ?_
    refine aw_iload C dL_law_451 rfl rfl ?_
    have K470_2 : AW x Q c n sg0 470 [(0, .ref (b)), (1, .ref ((ad 0 0))), (2, .ref (al 0)), (3, .ref (al 1)), (4, .ref (al 2)), (5, .ref (al 3)), (6, .ref (al 4)), (7, .ref (al 5)), (8, .ref (al 6)), (9, .ref (al 7)), (10, .ref (al 8)), (11, .ref (al 9)), (12, .ref (al 10)), (13, .ref (al 11)), (14, .ref (al 12)), (16, .int (nI (tn))), (19, .int (zz)), (20, .int (nI (one))), (21, .int (nI (gd))), (22, .int (b2i ((n_law_432_s0 L one gd)))), (23, .int (nI ((L.1 0 (32 + one))) - 1))] [.int (nI ((n_law_470_s0 L one gd))), .int (nI (32 + one)), .ref (al 0)] := by
      refine an_iast (k := 0) (i := 32 + one) (N := 40) (v := (n_law_470_s0 L one gd)) C hM hF rfl rfl (by omega) dL_law_470 rfl (fun sg hM hF => ?_)
      refine aw_aload_n C dL_law_471 rfl rfl rfl ?_
      refine aw_bipush (v := nI 13) C dL_law_472 rfl rfl ?_
      refine aw_iload C dL_law_474 rfl rfl ?_
      refine aw_iload C dL_law_476 rfl rfl ?_
      refine aw_iconst (v := nI 0) C dL_law_478 rfl rfl ?_
      refine aw_iconst (v := nI 0) C dL_law_479 rfl rfl ?_
      refine aw_iconst (v := nI 0) C dL_law_480 rfl rfl ?_
      refine aw_iconst (v := nI 0) C dL_law_481 rfl rfl ?_
      have hg := r_guard hZ hR ho (gq := gd + 1) (can := (n_law_432_s0 L one gd)) (by omega) (by omega) law_canA
      rw [nI_pred] at hg
      have hS := hS.keepZ hM0 hF
      refine aw_callSW C kL_calls (H_guard G hS hI (a := nI (one)) (b := nI (gd)) (c := nI (0)) (d := nI (0)) (e := nI (0)) (f := nI (0)) hg.1) ⟨by decide, by decide⟩ rfl rfl (Nat.le_of_ble_eq_true rfl) (show c + 60 ≤ 707461 by omega) (show n + 12000 ≤ 6979387 by omega) dL_law_482 rfl (fun _ _ q => ax_no q) (fun v1 sg hq => ?_)
      obtain ⟨rfl, hC⟩ := hq
      have hM := hM.keepC hS hC.fr
      obtain ⟨ad', Y', hS1, e0, -, -, -⟩ := hC
      refine aw_iload C dL_law_485 rfl rfl ?_
      have K498_3 : AW x Q (c + 60) (n + 12000) sg 498 [(0, .ref (b)), (1, .ref ((ad 0 0))), (2, .ref (al 0)), (3, .ref (al 1)), (4, .ref (al 2)), (5, .ref (al 3)), (6, .ref (al 4)), (7, .ref (al 5)), (8, .ref (al 6)), (9, .ref (al 7)), (10, .ref (al 8)), (11, .ref (al 9)), (12, .ref (al 10)), (13, .ref (al 11)), (14, .ref (al 12)), (16, .int (nI (tn))), (19, .int (zz))] [.int ((n_law_498_s0 L one gd)), .int ((opr (opGuard u (nI one) (nI gd))))] := by
        refine aw_icmp_ne (tgt := 505) C dL_law_498 (by decide) rfl (fun q => absurd hg.2.1 q) (fun _ => ?_)
        refine aw_iconst (v := nI 1) C dL_law_501 rfl rfl ?_
        refine aw_goto (tgt := 506) C dL_law_502 (by decide) ?_
        refine aw_istore (ls' := [(15, _), (0, _), (1, _), (2, _), (3, _), (4, _), (5, _), (6, _), (7, _), (8, _), (9, _), (10, _), (11, _), (12, _), (13, _), (14, _), (16, _), (19, _)]) C dL_law_506 (by decide) rfl rfl ?_
        refine aw_pick (ls' := [(0, _), (1, _), (2, _), (3, _), (4, _), (5, _), (6, _), (7, _), (8, _), (9, _), (10, _), (11, _), (12, _), (13, _), (14, _), (15, _), (16, _), (19, _)]) [1, 2, 3, 4, 5, 6, 7, 8, 9, 10, 11, 12, 13, 14, 15, 0, 16, 17] rfl ?_
        refine aw_goto (tgt := 598) C dL_law_508 (by decide) ?_
        refine aw_goto (tgt := 964) C dL_law_598 (by decide) ?_
        exact aw_widen (by omega) (by omega) (next _ ⟨ad', _, Y', _, hS1, e0, hM, hZ.guard.next, hg.2.2, hK.guard, (by rw [zI_k (by decide)]; omega), (by rw [zI_k (by decide)]; omega)⟩)
      refine an_bif_eq (z := (n_law_432_s0 L one gd)) (tgt := 495) C dL_law_487 (by decide) rfl (fun c487 => ?_) (fun c487 => ?_)
      · refine aw_sipush (v := -1003) C dL_law_495 rfl rfl ?_
        refine aw_pick (ls' := [(0, _), (1, _), (2, _), (3, _), (4, _), (5, _), (6, _), (7, _), (8, _), (9, _), (10, _), (11, _), (12, _), (13, _), (14, _), (16, _), (19, _)]) [0, 1, 2, 3, 4, 5, 6, 7, 8, 9, 10, 11, 12, 13, 14, 15, 16] rfl ?_
        have k9 := K498_3
        rw [show (n_law_498_s0 L one gd) = (-1003) from by rw [n_law_498_s0, if_neg c487]] at k9
        exact k9
      · refine aw_iload C dL_law_490 rfl rfl ?_
        refine aw_goto (tgt := 498) C dL_law_492 (by decide) ?_
        refine aw_pick (ls' := [(0, _), (1, _), (2, _), (3, _), (4, _), (5, _), (6, _), (7, _), (8, _), (9, _), (10, _), (11, _), (12, _), (13, _), (14, _), (16, _), (19, _)]) [0, 1, 2, 3, 4, 5, 6, 7, 8, 9, 10, 11, 12, 13, 14, 15, 16] rfl ?_
        have k9 := K498_3
        rw [show (n_law_498_s0 L one gd) = (nI (L.1 0 (32 + one)) - 1) from by rw [n_law_498_s0, if_pos c487]] at k9
        exact k9
    refine an_bif_eq (z := (n_law_432_s0 L one gd)) (tgt := 463) C dL_law_453 (by decide) rfl (fun c453 => ?_) (fun c453 => ?_)
    · refine aw_aload_n C dL_law_463 rfl rfl rfl ?_
      refine aw_bipush (v := nI 32) C dL_law_464 rfl rfl ?_
      refine aw_iload C dL_law_466 rfl rfl ?_
      refine an_add C dL_law_468 rfl ?_
      refine an_iald (k := 0) (i := 32 + one) (N := 40) (v := (L.1 0 (32 + one))) C hM rfl rfl (by omega) rfl dL_law_469 rfl ?_
      have k9 := K470_2
      rw [show (n_law_470_s0 L one gd) = (L.1 0 (32 + one)) from by rw [n_law_470_s0, if_neg c453]] at k9
      exact k9
    · refine aw_iload C dL_law_456 rfl rfl ?_
      refine aw_iconst (v := nI 1) C dL_law_458 rfl rfl ?_
      refine an_add C dL_law_459 rfl ?_
      refine aw_goto (tgt := 470) C dL_law_460 (by decide) ?_
      have k9 := K470_2
      rw [show (n_law_470_s0 L one gd) = gd + 1 from by rw [n_law_470_s0, if_pos c453]] at k9
      exact k9
  refine an_if_ne (a := (L.1 0 (16 + one)) + (L.1 0 (16 + gd))) (tgt := 431) C dL_law_424 (by have := hB 0 (16 + one); have := hB 0 (16 + gd); omega) (by decide) rfl (fun c424 => ?_) (fun c424 => ?_)
  · refine aw_iconst (v := nI 0) C dL_law_431 rfl rfl ?_
    have k9 := K432_1
    rw [show (n_law_432_s0 L one gd) = false from by rw [n_law_432_s0, if_neg c424]] at k9
    exact k9
  · refine aw_iconst (v := nI 1) C dL_law_427 rfl rfl ?_
    refine aw_goto (tgt := 432) C dL_law_428 (by decide) ?_
    have k9 := K432_1
    rw [show (n_law_432_s0 L one gd) = true from by rw [n_law_432_s0, if_pos c424]] at k9
    exact k9
set_option maxRecDepth 100000 in
theorem T_guard {x : Cx} {Q : State → Prop} {ez : Nat} (G : GOK x.g x.l ez) (C : AWC x cL_law 25 RL room_1 (some .boolean)) {ad : Nat → Nat → Nat} {u : MU} {Y : GS} {L : ZU} {al : Nat → Nat} {sg0 : Sg} {m b tn c n : Nat} {zz : Int32}  (hS : CS x.g ez ad u Y sg0) (hM : ZS x.g al L sg0) (hZ : CZ m u) (hR : ZR L u) (hK : ZKu u) (hT0 : L.1 10 0 ≤ 400 * m) (hT4 : L.1 10 4 ≤ 6000 * m) (hm : m ≤ 130) (hcc : c + 64 ≤ 707461) (hnn : n + 12100 ≤ 6979387) (next : ∀ sg, ZW x.g ez al (ad 0 0) (m + 1) sg → AW x Q (c + 64) (n + 12100) sg 964 [(0, .ref (b)), (1, .ref ((ad 0 0))), (2, .ref (al 0)), (3, .ref (al 1)), (4, .ref (al 2)), (5, .ref (al 3)), (6, .ref (al 4)), (7, .ref (al 5)), (8, .ref (al 6)), (9, .ref (al 7)), (10, .ref (al 8)), (11, .ref (al 9)), (12, .ref (al 10)), (13, .ref (al 11)), (14, .ref (al 12)), (15, .int (nI (1))), (16, .int (nI (tn))), (19, .int (zz))] [])  : AW x Q (c) (n) sg0 375 [(0, .ref (b)), (1, .ref ((ad 0 0))), (2, .ref (al 0)), (3, .ref (al 1)), (4, .ref (al 2)), (5, .ref (al 3)), (6, .ref (al 4)), (7, .ref (al 5)), (8, .ref (al 6)), (9, .ref (al 7)), (10, .ref (al 8)), (11, .ref (al 9)), (12, .ref (al 10)), (13, .ref (al 11)), (14, .ref (al 12)), (16, .int (nI (tn))), (19, .int (zz))] [] := by
  have hl := G.1
  have hst := G.2.1
  have hB := hR.B
  have hM0 := hM
  have hF : ZFr al sg0 sg0 := ZFr.rf
  have hI := hZ.1
  have hn3 := hR.ne.2
  have hn1 := hR.nd.2
  have z1 : (rmZ 1).cells = 0 ∧ (rmZ 1).slots = 0 ∧ rmK.cells = 60 ∧ rmK.slots = 12000 ∧ rmA.cells = 60 ∧ rmA.slots = 12000 ∧ rmD.cells = 1 ∧ rmD.slots = 14 ∧ (rmC 9 8 60).cells = 8 ∧ (rmC 9 8 60).slots = 60 := ⟨rfl, rfl, rfl, rfl, rfl, rfl, rfl, rfl, rfl, rfl⟩
  refine aw_iload C dL_law_375 rfl rfl ?_
  refine aw_bipush (v := nI 6) C dL_law_377 rfl rfl ?_
  refine cw_callSp C k_L_98 (N_low hl hst (v := zz) (N := 6) (by decide) (by decide)) ⟨by decide, by decide⟩ rfl rfl (Nat.le_of_ble_eq_true rfl) (show c + 0 ≤ 707461 by omega) (show n + 0 ≤ 6979387 by omega) dL_law_379 rfl ?_
  obtain ⟨one, eone⟩ : ∃ q, q = n_low zz 6 := ⟨_, rfl⟩
  rw [← eone]
  have hone : one < 6 := by rw [eone]; exact n_low_lt (by decide)
  refine aw_istore (ls' := [(20, _), (0, _), (1, _), (2, _), (3, _), (4, _), (5, _), (6, _), (7, _), (8, _), (9, _), (10, _), (11, _), (12, _), (13, _), (14, _), (16, _), (19, _)]) C dL_law_382 (by decide) rfl rfl ?_
  refine aw_pick (ls' := [(0, _), (1, _), (2, _), (3, _), (4, _), (5, _), (6, _), (7, _), (8, _), (9, _), (10, _), (11, _), (12, _), (13, _), (14, _), (16, _), (19, _), (20, _)]) [1, 2, 3, 4, 5, 6, 7, 8, 9, 10, 11, 12, 13, 14, 15, 16, 17, 0] rfl ?_
  refine aw_iload C dL_law_384 rfl rfl ?_
  refine aw_iconst (v := nI 3) C dL_law_386 rfl rfl ?_
  refine aw_ishr C dL_law_387 rfl ?_
  refine aw_bipush (v := nI 8) C dL_law_388 rfl rfl ?_
  refine cw_callSp C k_L_98 (N_low hl hst (v := (zz >>> (nI 3 &&& 31))) (N := 8) (by decide) (by decide)) ⟨by decide, by decide⟩ rfl rfl (Nat.le_of_ble_eq_true rfl) (show c + 0 ≤ 707461 by omega) (show n + 0 ≤ 6979387 by omega) dL_law_390 rfl ?_
  obtain ⟨gd, egd⟩ : ∃ q, q = n_low (zz >>> (nI 3 &&& 31)) 8 := ⟨_, rfl⟩
  rw [← egd]
  have hgd : gd < 8 := by rw [egd]; exact n_low_lt (by decide)
  refine aw_istore (ls' := [(21, _), (0, _), (1, _), (2, _), (3, _), (4, _), (5, _), (6, _), (7, _), (8, _), (9, _), (10, _), (11, _), (12, _), (13, _), (14, _), (16, _), (19, _), (20, _)]) C dL_law_393 (by decide) rfl rfl ?_
  refine aw_pick (ls' := [(0, _), (1, _), (2, _), (3, _), (4, _), (5, _), (6, _), (7, _), (8, _), (9, _), (10, _), (11, _), (12, _), (13, _), (14, _), (16, _), (19, _), (20, _), (21, _)]) [1, 2, 3, 4, 5, 6, 7, 8, 9, 10, 11, 12, 13, 14, 15, 16, 17, 18, 0] rfl ?_
  refine aw_iload C dL_law_395 rfl rfl ?_
  refine aw_iload C dL_law_397 rfl rfl ?_
  refine an_icmp_eq (a := gd) (b := one) (tgt := 511) C dL_law_399 (by omega) (by omega) (by decide) rfl (fun c399 => ?_) (fun c399 => ?_)
  · refine aw_pick (ls' := [(0, _), (1, _), (2, _), (3, _), (4, _), (5, _), (6, _), (7, _), (8, _), (9, _), (10, _), (11, _), (12, _), (13, _), (14, _), (16, _), (19, _), (20, _)]) [0, 1, 2, 3, 4, 5, 6, 7, 8, 9, 10, 11, 12, 13, 14, 15, 16, 17] rfl ?_
    exact T_guardB G C hS hM hZ hR hK hT0 hT4 hm hcc hnn next hone
  · refine aw_iload C dL_law_402 rfl rfl ?_
    refine aw_bipush (v := nI 6) C dL_law_404 rfl rfl ?_
    refine an_icmp_ge (a := gd) (b := 6) (tgt := 511) C dL_law_406 (by omega) (by decide) (by decide) rfl (fun c406 => ?_) (fun c406 => ?_)
    · refine aw_pick (ls' := [(0, _), (1, _), (2, _), (3, _), (4, _), (5, _), (6, _), (7, _), (8, _), (9, _), (10, _), (11, _), (12, _), (13, _), (14, _), (16, _), (19, _), (20, _)]) [0, 1, 2, 3, 4, 5, 6, 7, 8, 9, 10, 11, 12, 13, 14, 15, 16, 17] rfl ?_
      exact T_guardB G C hS hM hZ hR hK hT0 hT4 hm hcc hnn next hone
    · exact T_guardA G C hS hM hZ hR hK hT0 hT4 hm hcc hnn next hone c406 c399
set_option maxRecDepth 100000 in
theorem T_child2 {x : Cx} {Q : State → Prop} {ez : Nat} (G : GOK x.g x.l ez) (C : AWC x cL_law 25 RL room_1 (some .boolean)) {ad : Nat → Nat → Nat} {u : MU} {Y : GS} {L : ZU} {al : Nat → Nat} {sg0 : Sg} {m b tn c n : Nat} {zz : Int32} {pa one : Nat} (hS : CS x.g ez ad u Y sg0) (hM : ZS x.g al L sg0) (hZ : CZ m u) (hR : ZR L u) (hK : ZKu u) (hT0 : L.1 10 0 ≤ 400 * m) (hT4 : L.1 10 4 ≤ 6000 * m) (hm : m ≤ 130) (hcc : c + 64 ≤ 707461) (hnn : n + 12100 ≤ 6979387) (next : ∀ sg, ZW x.g ez al (ad 0 0) (m + 1) sg → AW x Q (c + 64) (n + 12100) sg 964 [(0, .ref (b)), (1, .ref ((ad 0 0))), (2, .ref (al 0)), (3, .ref (al 1)), (4, .ref (al 2)), (5, .ref (al 3)), (6, .ref (al 4)), (7, .ref (al 5)), (8, .ref (al 6)), (9, .ref (al 7)), (10, .ref (al 8)), (11, .ref (al 9)), (12, .ref (al 10)), (13, .ref (al 11)), (14, .ref (al 12)), (15, .int (nI (1))), (16, .int (nI (tn))), (19, .int (zz))] []) (hpo : pa < one) (ho : one < 6) : AW x Q (c) (n) sg0 706 [(0, .ref (b)), (1, .ref ((ad 0 0))), (2, .ref (al 0)), (3, .ref (al 1)), (4, .ref (al 2)), (5, .ref (al 3)), (6, .ref (al 4)), (7, .ref (al 5)), (8, .ref (al 6)), (9, .ref (al 7)), (10, .ref (al 8)), (11, .ref (al 9)), (12, .ref (al 10)), (13, .ref (al 11)), (14, .ref (al 12)), (15, .int (nI (1))), (16, .int (nI (tn))), (19, .int (zz)), (20, .int (nI (pa))), (21, .int (nI (one))), (22, .int (nI ((n_kids L pa 6)))), (23, .int (nI ((n_dM (L.1 0 (24 + one)) 6))))] [] := by
  have hl := G.1
  have hst := G.2.1
  have hB := hR.B
  have hM0 := hM
  have hF : ZFr al sg0 sg0 := ZFr.rf
  have hI := hZ.1
  have hn3 := hR.ne.2
  have hn1 := hR.nd.2
  have z1 : (rmZ 1).cells = 0 ∧ (rmZ 1).slots = 0 ∧ rmK.cells = 60 ∧ rmK.slots = 12000 ∧ rmA.cells = 60 ∧ rmA.slots = 12000 ∧ rmD.cells = 1 ∧ rmD.slots = 14 ∧ (rmC 9 8 60).cells = 8 ∧ (rmC 9 8 60).slots = 60 := ⟨rfl, rfl, rfl, rfl, rfl, rfl, rfl, rfl, rfl, rfl⟩
  refine aw_iload C dL_law_706 rfl rfl ?_
  refine aw_iconst (v := nI 2) C dL_law_708 rfl rfl ?_
  have K750_1 : AW x Q c n sg0 750 [(0, .ref (b)), (1, .ref ((ad 0 0))), (2, .ref (al 0)), (3, .ref (al 1)), (4, .ref (al 2)), (5, .ref (al 3)), (6, .ref (al 4)), (7, .ref (al 5)), (8, .ref (al 6)), (9, .ref (al 7)), (10, .ref (al 8)), (11, .ref (al 9)), (12, .ref (al 10)), (13, .ref (al 11)), (14, .ref (al 12)), (15, .int (nI (1))), (16, .int (nI (tn))), (19, .int (zz)), (20, .int (nI (pa))), (21, .int (nI (one))), (22, .int (nI ((n_kids L pa 6)))), (23, .int (nI ((n_dM (L.1 0 (24 + one)) 6))))] [.int (b2i ((n_law_750_s0 L pa one)))] := by
    refine aw_istore (ls' := [(24, _), (0, _), (1, _), (2, _), (3, _), (4, _), (5, _), (6, _), (7, _), (8, _), (9, _), (10, _), (11, _), (12, _), (13, _), (14, _), (15, _), (16, _), (19, _), (20, _), (21, _), (22, _), (23, _)]) C dL_law_750 (by decide) rfl rfl ?_
    refine aw_pick (ls' := [(0, _), (1, _), (2, _), (3, _), (4, _), (5, _), (6, _), (7, _), (8, _), (9, _), (10, _), (11, _), (12, _), (13, _), (14, _), (15, _), (16, _), (19, _), (20, _), (21, _), (22, _), (23, _), (24, _)]) [1, 2, 3, 4, 5, 6, 7, 8, 9, 10, 11, 12, 13, 14, 15, 16, 17, 18, 19, 20, 21, 22, 0] rfl ?_
    refine aw_iload C dL_law_752 rfl rfl ?_
    refine aw_iconst (v := nI 4) C dL_law_754 rfl rfl ?_
    refine an_icmp_ge (a := (n_kids L pa 6)) (b := 4) (tgt := 820) C dL_law_755 (by have := n_kids_le (L := L) (pa := pa) 6; omega) (by decide) (by decide) rfl (fun c755 => ?_) (fun c755 => ?_)
    · refine aw_goto (tgt := 964) C dL_law_820 (by decide) ?_
      refine aw_pick (ls' := [(0, _), (1, _), (2, _), (3, _), (4, _), (5, _), (6, _), (7, _), (8, _), (9, _), (10, _), (11, _), (12, _), (13, _), (14, _), (15, _), (16, _), (19, _)]) [0, 1, 2, 3, 4, 5, 6, 7, 8, 9, 10, 11, 12, 13, 14, 15, 16, 17] rfl ?_
      exact aw_widen (by omega) (by omega) (next _ ⟨ad, u, Y, L, hS, rfl, hM, hZ.next, hR, hK, by omega, by omega⟩)
    · refine aw_aload_n C dL_law_758 rfl rfl rfl ?_
      refine aw_bipush (v := nI 24) C dL_law_759 rfl rfl ?_
      refine aw_iload C dL_law_761 rfl rfl ?_
      refine an_add C dL_law_763 rfl ?_
      refine aw_dup2 C dL_law_764 rfl rfl rfl ?_
      refine an_iald (k := 0) (i := 24 + one) (N := 40) (v := (L.1 0 (24 + one))) C hM rfl rfl (by omega) rfl dL_law_765 rfl ?_
      refine aw_iload C dL_law_766 rfl rfl ?_
      have K779_2 : AW x Q c n sg0 779 [(0, .ref (b)), (1, .ref ((ad 0 0))), (2, .ref (al 0)), (3, .ref (al 1)), (4, .ref (al 2)), (5, .ref (al 3)), (6, .ref (al 4)), (7, .ref (al 5)), (8, .ref (al 6)), (9, .ref (al 7)), (10, .ref (al 8)), (11, .ref (al 9)), (12, .ref (al 10)), (13, .ref (al 11)), (14, .ref (al 12)), (16, .int (nI (tn))), (19, .int (zz)), (20, .int (nI (pa))), (21, .int (nI (one))), (23, .int (nI ((n_dM (L.1 0 (24 + one)) 6)))), (24, .int (b2i ((n_law_750_s0 L pa one))))] [.int (nI ((n_law_779_s0 L pa one))), .int (nI ((L.1 0 (24 + one)))), .int (nI (24 + one)), .ref (al 0)] := by
        refine an_or C dL_law_779 rfl ?_
        refine an_iast (k := 0) (i := 24 + one) (N := 40) (v := (L.1 0 (24 + one)) ||| (n_law_779_s0 L pa one)) C hM hF rfl rfl (by omega) dL_law_780 rfl (fun sg hM hF => ?_)
        refine aw_aload_n C dL_law_781 rfl rfl rfl ?_
        refine aw_bipush (v := nI 12) C dL_law_782 rfl rfl ?_
        refine aw_iload C dL_law_784 rfl rfl ?_
        refine aw_iload C dL_law_786 rfl rfl ?_
        refine aw_iconst (v := nI 0) C dL_law_788 rfl rfl ?_
        refine aw_iconst (v := nI 0) C dL_law_789 rfl rfl ?_
        refine aw_iconst (v := nI 0) C dL_law_790 rfl rfl ?_
        refine aw_iconst (v := nI 0) C dL_law_791 rfl rfl ?_
        have hg := r_child hZ hR hpo ho (can := (n_law_750_s0 L pa one)) law_canC
        rw [← law_orC] at hg
        have hS := hS.keepZ hM0 hF
        refine aw_callSW C kL_calls (H_child G hS hI (a := nI (pa)) (b := nI (one)) (c := nI (0)) (d := nI (0)) (e := nI (0)) (f := nI (0)) hg.1) ⟨by decide, by decide⟩ rfl rfl (Nat.le_of_ble_eq_true rfl) (show c + 60 ≤ 707461 by omega) (show n + 12000 ≤ 6979387 by omega) dL_law_792 rfl (fun _ _ q => ax_no q) (fun v1 sg hq => ?_)
        obtain ⟨rfl, hC⟩ := hq
        have hM := hM.keepC hS hC.fr
        obtain ⟨ad', Y', hS1, e0, -, -, -⟩ := hC
        refine aw_iload C dL_law_795 rfl rfl ?_
        have K810_3 : AW x Q (c + 60) (n + 12000) sg 810 [(0, .ref (b)), (1, .ref ((ad 0 0))), (2, .ref (al 0)), (3, .ref (al 1)), (4, .ref (al 2)), (5, .ref (al 3)), (6, .ref (al 4)), (7, .ref (al 5)), (8, .ref (al 6)), (9, .ref (al 7)), (10, .ref (al 8)), (11, .ref (al 9)), (12, .ref (al 10)), (13, .ref (al 11)), (14, .ref (al 12)), (16, .int (nI (tn))), (19, .int (zz))] [.int ((n_law_810_s0 L pa one)), .int ((opr (opChild u (nI pa) (nI one))))] := by
          refine aw_icmp_ne (tgt := 817) C dL_law_810 (by decide) rfl (fun q => absurd hg.2.1 q) (fun _ => ?_)
          refine aw_iconst (v := nI 1) C dL_law_813 rfl rfl ?_
          refine aw_goto (tgt := 818) C dL_law_814 (by decide) ?_
          refine aw_istore (ls' := [(15, _), (0, _), (1, _), (2, _), (3, _), (4, _), (5, _), (6, _), (7, _), (8, _), (9, _), (10, _), (11, _), (12, _), (13, _), (14, _), (16, _), (19, _)]) C dL_law_818 (by decide) rfl rfl ?_
          refine aw_pick (ls' := [(0, _), (1, _), (2, _), (3, _), (4, _), (5, _), (6, _), (7, _), (8, _), (9, _), (10, _), (11, _), (12, _), (13, _), (14, _), (15, _), (16, _), (19, _)]) [1, 2, 3, 4, 5, 6, 7, 8, 9, 10, 11, 12, 13, 14, 15, 0, 16, 17] rfl ?_
          refine aw_goto (tgt := 964) C dL_law_820 (by decide) ?_
          exact aw_widen (by omega) (by omega) (next _ ⟨ad', _, Y', _, hS1, e0, hM, hZ.child.next, hg.2.2, hK.childR hR hg.2.2 (by omega) ho law_vC c755, (by rw [zI_k (by decide)]; omega), (by rw [zI_k (by decide)]; omega)⟩)
        refine an_bif_eq (z := (n_law_750_s0 L pa one)) (tgt := 807) C dL_law_797 (by decide) rfl (fun c797 => ?_) (fun c797 => ?_)
        · refine aw_sipush (v := -1003) C dL_law_807 rfl rfl ?_
          refine aw_pick (ls' := [(0, _), (1, _), (2, _), (3, _), (4, _), (5, _), (6, _), (7, _), (8, _), (9, _), (10, _), (11, _), (12, _), (13, _), (14, _), (16, _), (19, _)]) [0, 1, 2, 3, 4, 5, 6, 7, 8, 9, 10, 11, 12, 13, 14, 15, 16] rfl ?_
          have k9 := K810_3
          rw [show (n_law_810_s0 L pa one) = (-1003) from by rw [n_law_810_s0, if_neg c797]] at k9
          exact k9
        · refine aw_iload C dL_law_800 rfl rfl ?_
          refine aw_iconst (v := nI 1) C dL_law_802 rfl rfl ?_
          refine an_add C dL_law_803 rfl ?_
          refine aw_goto (tgt := 810) C dL_law_804 (by decide) ?_
          refine aw_pick (ls' := [(0, _), (1, _), (2, _), (3, _), (4, _), (5, _), (6, _), (7, _), (8, _), (9, _), (10, _), (11, _), (12, _), (13, _), (14, _), (16, _), (19, _)]) [0, 1, 2, 3, 4, 5, 6, 7, 8, 9, 10, 11, 12, 13, 14, 15, 16] rfl ?_
          have k9 := K810_3
          rw [show (n_law_810_s0 L pa one) = (nI ((n_dM (L.1 0 (24 + one)) 6) + 1)) from by rw [n_law_810_s0, if_pos c797]] at k9
          exact k9
      refine an_bif_eq (z := (n_law_750_s0 L pa one)) (tgt := 778) C dL_law_768 (by decide) rfl (fun c768 => ?_) (fun c768 => ?_)
      · refine aw_iconst (v := nI 0) C dL_law_778 rfl rfl ?_
        refine aw_pick (ls' := [(0, _), (1, _), (2, _), (3, _), (4, _), (5, _), (6, _), (7, _), (8, _), (9, _), (10, _), (11, _), (12, _), (13, _), (14, _), (16, _), (19, _), (20, _), (21, _), (23, _), (24, _)]) [0, 1, 2, 3, 4, 5, 6, 7, 8, 9, 10, 11, 12, 13, 14, 16, 17, 18, 19, 21, 22] rfl ?_
        have k9 := K779_2
        rw [show (n_law_779_s0 L pa one) = 0 from by rw [n_law_779_s0, if_neg c768]] at k9
        exact k9
      · refine aw_iconst (v := nI 1) C dL_law_771 rfl rfl ?_
        refine aw_iload C dL_law_772 rfl rfl ?_
        refine an_shl C (by omega) (pow_k (by omega)) dL_law_774 rfl ?_
        refine aw_goto (tgt := 779) C dL_law_775 (by decide) ?_
        refine aw_pick (ls' := [(0, _), (1, _), (2, _), (3, _), (4, _), (5, _), (6, _), (7, _), (8, _), (9, _), (10, _), (11, _), (12, _), (13, _), (14, _), (16, _), (19, _), (20, _), (21, _), (23, _), (24, _)]) [0, 1, 2, 3, 4, 5, 6, 7, 8, 9, 10, 11, 12, 13, 14, 16, 17, 18, 19, 21, 22] rfl ?_
        have k9 := K779_2
        rw [show (n_law_779_s0 L pa one) = 1 * 2 ^ pa from by rw [n_law_779_s0, if_pos c768]] at k9
        exact k9
  refine an_icmp_ge (a := (n_dM (L.1 0 (24 + one)) 6)) (b := 2) (tgt := 749) C dL_law_709 (by have := hB 0 (24 + one); have := n_dM_le (h := L.1 0 (24 + one)) 6; omega) (by decide) (by decide) rfl (fun c709 => ?_) (fun c709 => ?_)
  · refine aw_iconst (v := nI 0) C dL_law_749 rfl rfl ?_
    have k9 := K750_1
    rw [show (n_law_750_s0 L pa one) = false from by rw [n_law_750_s0, if_neg c709]] at k9
    exact k9
  · refine aw_aload_n C dL_law_712 rfl rfl rfl ?_
    refine aw_bipush (v := nI 24) C dL_law_713 rfl rfl ?_
    refine aw_iload C dL_law_715 rfl rfl ?_
    refine an_add C dL_law_717 rfl ?_
    refine an_iald (k := 0) (i := 24 + one) (N := 40) (v := (L.1 0 (24 + one))) C hM rfl rfl (by omega) rfl dL_law_718 rfl ?_
    refine aw_iload C dL_law_719 rfl rfl ?_
    refine an_shr C (by omega) (by have := hB 0 (24 + one); omega) dL_law_721 rfl ?_
    refine aw_iconst (v := nI 1) C dL_law_722 rfl rfl ?_
    refine an_and1 C dL_law_723 rfl ?_
    refine an_if_ne (a := ((L.1 0 (24 + one)) / 2 ^ pa) % 2) (tgt := 749) C dL_law_724 (by have := hB 0 (24 + one); omega) (by decide) rfl (fun c724 => ?_) (fun c724 => ?_)
    · refine aw_iconst (v := nI 0) C dL_law_749 rfl rfl ?_
      have k9 := K750_1
      rw [show (n_law_750_s0 L pa one) = false from by rw [n_law_750_s0, if_pos c709, if_neg c724]] at k9
      exact k9
    · refine aw_aload_n C dL_law_727 rfl rfl rfl ?_
      refine aw_bipush (v := nI 16) C dL_law_728 rfl rfl ?_
      refine aw_iload C dL_law_730 rfl rfl ?_
      refine an_add C dL_law_732 rfl ?_
      refine an_iald (k := 0) (i := 16 + one) (N := 40) (v := (L.1 0 (16 + one))) C hM rfl rfl (by omega) rfl dL_law_733 rfl ?_
      refine aw_aload_n C dL_law_734 rfl rfl rfl ?_
      refine aw_bipush (v := nI 16) C dL_law_735 rfl rfl ?_
      refine aw_iload C dL_law_737 rfl rfl ?_
      refine an_add C dL_law_739 rfl ?_
      refine an_iald (k := 0) (i := 16 + pa) (N := 40) (v := (L.1 0 (16 + pa))) C hM rfl rfl (by omega) rfl dL_law_740 rfl ?_
      refine an_add C dL_law_741 rfl ?_
      refine an_if_ne (a := (L.1 0 (16 + one)) + (L.1 0 (16 + pa))) (tgt := 749) C dL_law_742 (by have := hB 0 (16 + one); have := hB 0 (16 + pa); omega) (by decide) rfl (fun c742 => ?_) (fun c742 => ?_)
      · refine aw_iconst (v := nI 0) C dL_law_749 rfl rfl ?_
        have k9 := K750_1
        rw [show (n_law_750_s0 L pa one) = false from by rw [n_law_750_s0, if_pos c709, if_pos c724, if_neg c742]] at k9
        exact k9
      · refine aw_iconst (v := nI 1) C dL_law_745 rfl rfl ?_
        refine aw_goto (tgt := 750) C dL_law_746 (by decide) ?_
        have k9 := K750_1
        rw [show (n_law_750_s0 L pa one) = true from by rw [n_law_750_s0, if_pos c709, if_pos c724, if_pos c742]] at k9
        exact k9
set_option maxRecDepth 100000 in
theorem T_childN {x : Cx} {Q : State → Prop} {ez : Nat} (G : GOK x.g x.l ez) (C : AWC x cL_law 25 RL room_1 (some .boolean)) {ad : Nat → Nat → Nat} {u : MU} {Y : GS} {L : ZU} {al : Nat → Nat} {sg0 : Sg} {m b tn c n : Nat} {zz : Int32} {pa one : Nat} (hS : CS x.g ez ad u Y sg0) (hM : ZS x.g al L sg0) (hZ : CZ m u) (hR : ZR L u) (hK : ZKu u) (hT0 : L.1 10 0 ≤ 400 * m) (hT4 : L.1 10 4 ≤ 6000 * m) (hm : m ≤ 130) (hcc : c + 64 ≤ 707461) (hnn : n + 12100 ≤ 6979387) (next : ∀ sg, ZW x.g ez al (ad 0 0) (m + 1) sg → AW x Q (c + 64) (n + 12100) sg 964 [(0, .ref (b)), (1, .ref ((ad 0 0))), (2, .ref (al 0)), (3, .ref (al 1)), (4, .ref (al 2)), (5, .ref (al 3)), (6, .ref (al 4)), (7, .ref (al 5)), (8, .ref (al 6)), (9, .ref (al 7)), (10, .ref (al 8)), (11, .ref (al 9)), (12, .ref (al 10)), (13, .ref (al 11)), (14, .ref (al 12)), (15, .int (nI (1))), (16, .int (nI (tn))), (19, .int (zz))] []) (hpo : pa < one) (ho : one < 6) : AW x Q (c) (n) sg0 673 [(0, .ref (b)), (1, .ref ((ad 0 0))), (2, .ref (al 0)), (3, .ref (al 1)), (4, .ref (al 2)), (5, .ref (al 3)), (6, .ref (al 4)), (7, .ref (al 5)), (8, .ref (al 6)), (9, .ref (al 7)), (10, .ref (al 8)), (11, .ref (al 9)), (12, .ref (al 10)), (13, .ref (al 11)), (14, .ref (al 12)), (15, .int (nI (1))), (16, .int (nI (tn))), (19, .int (zz)), (20, .int (nI (pa))), (21, .int (nI (one))), (22, .int (nI ((n_kids L pa 6)))), (23, .int (nI (0)))] [] := by
  have hl := G.1
  have hst := G.2.1
  have hB := hR.B
  have hM0 := hM
  have hF : ZFr al sg0 sg0 := ZFr.rf
  have hI := hZ.1
  have hn3 := hR.ne.2
  have hn1 := hR.nd.2
  have z1 : (rmZ 1).cells = 0 ∧ (rmZ 1).slots = 0 ∧ rmK.cells = 60 ∧ rmK.slots = 12000 ∧ rmA.cells = 60 ∧ rmA.slots = 12000 ∧ rmD.cells = 1 ∧ rmD.slots = 14 ∧ (rmC 9 8 60).cells = 8 ∧ (rmC 9 8 60).slots = 60 := ⟨rfl, rfl, rfl, rfl, rfl, rfl, rfl, rfl, rfl, rfl⟩
  have loop : ∀ (r k : Nat), k + r = 6 → AW x Q (c) (n) sg0 676 [(0, .ref (b)), (1, .ref ((ad 0 0))), (2, .ref (al 0)), (3, .ref (al 1)), (4, .ref (al 2)), (5, .ref (al 3)), (6, .ref (al 4)), (7, .ref (al 5)), (8, .ref (al 6)), (9, .ref (al 7)), (10, .ref (al 8)), (11, .ref (al 9)), (12, .ref (al 10)), (13, .ref (al 11)), (14, .ref (al 12)), (15, .int (nI (1))), (16, .int (nI (tn))), (19, .int (zz)), (20, .int (nI (pa))), (21, .int (nI (one))), (22, .int (nI ((n_kids L pa 6)))), (23, .int (nI ((n_dM (L.1 0 (24 + one)) k)))), (24, .int (nI (k)))] [] := by
    intro r
    induction r with
    | zero =>
      intro k hk
      obtain rfl : k = 6 := by omega
      refine aw_iload C dL_law_676 rfl rfl ?_
      refine aw_bipush (v := nI 6) C dL_law_678 rfl rfl ?_
      refine an_icmp_ge (a := 6) (b := 6) (tgt := 706) C dL_law_680 (by decide) (by decide) (by decide) rfl (fun _ => ?_) (fun q => absurd q (by decide))
      refine aw_pick (ls' := [(0, _), (1, _), (2, _), (3, _), (4, _), (5, _), (6, _), (7, _), (8, _), (9, _), (10, _), (11, _), (12, _), (13, _), (14, _), (15, _), (16, _), (19, _), (20, _), (21, _), (22, _), (23, _)]) [0, 1, 2, 3, 4, 5, 6, 7, 8, 9, 10, 11, 12, 13, 14, 15, 16, 17, 18, 19, 20, 21] rfl ?_
      exact T_child2 G C hS hM hZ hR hK hT0 hT4 hm hcc hnn next hpo ho
    | succ r ih =>
      intro k hk
      have c9001 : k < 6 := by omega
      refine aw_iload C dL_law_676 rfl rfl ?_
      refine aw_bipush (v := nI 6) C dL_law_678 rfl rfl ?_
      refine an_icmp_ge (a := k) (b := 6) (tgt := 706) C dL_law_680 (by omega) (by decide) (by decide) rfl (fun q => absurd c9001 q) (fun _ => ?_)
      refine aw_iload C dL_law_683 rfl rfl ?_
      refine aw_aload_n C dL_law_685 rfl rfl rfl ?_
      refine aw_bipush (v := nI 24) C dL_law_686 rfl rfl ?_
      refine aw_iload C dL_law_688 rfl rfl ?_
      refine an_add C dL_law_690 rfl ?_
      refine an_iald (k := 0) (i := 24 + one) (N := 40) (v := (L.1 0 (24 + one))) C hM rfl rfl (by omega) rfl dL_law_691 rfl ?_
      refine aw_iload C dL_law_692 rfl rfl ?_
      refine an_shr C (by omega) (by have := hB 0 (24 + one); omega) dL_law_694 rfl ?_
      refine aw_iconst (v := nI 1) C dL_law_695 rfl rfl ?_
      refine an_and1 C dL_law_696 rfl ?_
      refine an_add C dL_law_697 rfl ?_
      refine aw_istore (ls' := [(23, _), (0, _), (1, _), (2, _), (3, _), (4, _), (5, _), (6, _), (7, _), (8, _), (9, _), (10, _), (11, _), (12, _), (13, _), (14, _), (15, _), (16, _), (19, _), (20, _), (21, _), (22, _), (24, _)]) C dL_law_698 (by decide) rfl rfl ?_
      refine aw_pick (ls' := [(0, _), (1, _), (2, _), (3, _), (4, _), (5, _), (6, _), (7, _), (8, _), (9, _), (10, _), (11, _), (12, _), (13, _), (14, _), (15, _), (16, _), (19, _), (20, _), (21, _), (22, _), (23, _), (24, _)]) [1, 2, 3, 4, 5, 6, 7, 8, 9, 10, 11, 12, 13, 14, 15, 16, 17, 18, 19, 20, 21, 0, 22] rfl ?_
      refine aw_iinc (v' := nI (k + 1)) (ls' := [(24, _), (0, _), (1, _), (2, _), (3, _), (4, _), (5, _), (6, _), (7, _), (8, _), (9, _), (10, _), (11, _), (12, _), (13, _), (14, _), (15, _), (16, _), (19, _), (20, _), (21, _), (22, _), (23, _)]) C dL_law_700 rfl (by decide) (nI_add (k) 1) rfl rfl ?_
      refine aw_pick (ls' := [(0, _), (1, _), (2, _), (3, _), (4, _), (5, _), (6, _), (7, _), (8, _), (9, _), (10, _), (11, _), (12, _), (13, _), (14, _), (15, _), (16, _), (19, _), (20, _), (21, _), (22, _), (23, _), (24, _)]) [1, 2, 3, 4, 5, 6, 7, 8, 9, 10, 11, 12, 13, 14, 15, 16, 17, 18, 19, 20, 21, 22, 0] rfl ?_
      refine aw_goto (tgt := 676) C dL_law_703 (by decide) ?_
      exact ih (k + 1) (by omega)
  refine aw_iconst (v := nI 0) C dL_law_673 rfl rfl ?_
  refine aw_istore (ls' := [(24, _), (0, _), (1, _), (2, _), (3, _), (4, _), (5, _), (6, _), (7, _), (8, _), (9, _), (10, _), (11, _), (12, _), (13, _), (14, _), (15, _), (16, _), (19, _), (20, _), (21, _), (22, _), (23, _)]) C dL_law_674 (by decide) rfl rfl ?_
  refine aw_pick (ls' := [(0, _), (1, _), (2, _), (3, _), (4, _), (5, _), (6, _), (7, _), (8, _), (9, _), (10, _), (11, _), (12, _), (13, _), (14, _), (15, _), (16, _), (19, _), (20, _), (21, _), (22, _), (23, _), (24, _)]) [1, 2, 3, 4, 5, 6, 7, 8, 9, 10, 11, 12, 13, 14, 15, 16, 17, 18, 19, 20, 21, 22, 0] rfl ?_
  exact loop 6 0 (by omega)
set_option maxRecDepth 100000 in
theorem T_childK {x : Cx} {Q : State → Prop} {ez : Nat} (G : GOK x.g x.l ez) (C : AWC x cL_law 25 RL room_1 (some .boolean)) {ad : Nat → Nat → Nat} {u : MU} {Y : GS} {L : ZU} {al : Nat → Nat} {sg0 : Sg} {m b tn c n : Nat} {zz : Int32} {pa one : Nat} (hS : CS x.g ez ad u Y sg0) (hM : ZS x.g al L sg0) (hZ : CZ m u) (hR : ZR L u) (hK : ZKu u) (hT0 : L.1 10 0 ≤ 400 * m) (hT4 : L.1 10 4 ≤ 6000 * m) (hm : m ≤ 130) (hcc : c + 64 ≤ 707461) (hnn : n + 12100 ≤ 6979387) (next : ∀ sg, ZW x.g ez al (ad 0 0) (m + 1) sg → AW x Q (c + 64) (n + 12100) sg 964 [(0, .ref (b)), (1, .ref ((ad 0 0))), (2, .ref (al 0)), (3, .ref (al 1)), (4, .ref (al 2)), (5, .ref (al 3)), (6, .ref (al 4)), (7, .ref (al 5)), (8, .ref (al 6)), (9, .ref (al 7)), (10, .ref (al 8)), (11, .ref (al 9)), (12, .ref (al 10)), (13, .ref (al 11)), (14, .ref (al 12)), (15, .int (nI (1))), (16, .int (nI (tn))), (19, .int (zz))] []) (hpo : pa < one) (ho : one < 6) : AW x Q (c) (n) sg0 637 [(0, .ref (b)), (1, .ref ((ad 0 0))), (2, .ref (al 0)), (3, .ref (al 1)), (4, .ref (al 2)), (5, .ref (al 3)), (6, .ref (al 4)), (7, .ref (al 5)), (8, .ref (al 6)), (9, .ref (al 7)), (10, .ref (al 8)), (11, .ref (al 9)), (12, .ref (al 10)), (13, .ref (al 11)), (14, .ref (al 12)), (15, .int (nI (1))), (16, .int (nI (tn))), (19, .int (zz)), (20, .int (nI (pa))), (21, .int (nI (one))), (22, .int (nI (0)))] [] := by
  have hl := G.1
  have hst := G.2.1
  have hB := hR.B
  have hM0 := hM
  have hF : ZFr al sg0 sg0 := ZFr.rf
  have hI := hZ.1
  have hn3 := hR.ne.2
  have hn1 := hR.nd.2
  have z1 : (rmZ 1).cells = 0 ∧ (rmZ 1).slots = 0 ∧ rmK.cells = 60 ∧ rmK.slots = 12000 ∧ rmA.cells = 60 ∧ rmA.slots = 12000 ∧ rmD.cells = 1 ∧ rmD.slots = 14 ∧ (rmC 9 8 60).cells = 8 ∧ (rmC 9 8 60).slots = 60 := ⟨rfl, rfl, rfl, rfl, rfl, rfl, rfl, rfl, rfl, rfl⟩
  have loop : ∀ (r k : Nat), k + r = 6 → AW x Q (c) (n) sg0 640 [(0, .ref (b)), (1, .ref ((ad 0 0))), (2, .ref (al 0)), (3, .ref (al 1)), (4, .ref (al 2)), (5, .ref (al 3)), (6, .ref (al 4)), (7, .ref (al 5)), (8, .ref (al 6)), (9, .ref (al 7)), (10, .ref (al 8)), (11, .ref (al 9)), (12, .ref (al 10)), (13, .ref (al 11)), (14, .ref (al 12)), (15, .int (nI (1))), (16, .int (nI (tn))), (19, .int (zz)), (20, .int (nI (pa))), (21, .int (nI (one))), (22, .int (nI ((n_kids L pa k)))), (23, .int (nI (k)))] [] := by
    intro r
    induction r with
    | zero =>
      intro k hk
      obtain rfl : k = 6 := by omega
      refine aw_iload C dL_law_640 rfl rfl ?_
      refine aw_bipush (v := nI 6) C dL_law_642 rfl rfl ?_
      refine an_icmp_ge (a := 6) (b := 6) (tgt := 670) C dL_law_644 (by decide) (by decide) (by decide) rfl (fun _ => ?_) (fun q => absurd q (by decide))
      refine aw_iconst (v := nI 0) C dL_law_670 rfl rfl ?_
      refine aw_istore (ls' := [(23, _), (0, _), (1, _), (2, _), (3, _), (4, _), (5, _), (6, _), (7, _), (8, _), (9, _), (10, _), (11, _), (12, _), (13, _), (14, _), (15, _), (16, _), (19, _), (20, _), (21, _), (22, _)]) C dL_law_671 (by decide) rfl rfl ?_
      refine aw_pick (ls' := [(0, _), (1, _), (2, _), (3, _), (4, _), (5, _), (6, _), (7, _), (8, _), (9, _), (10, _), (11, _), (12, _), (13, _), (14, _), (15, _), (16, _), (19, _), (20, _), (21, _), (22, _), (23, _)]) [1, 2, 3, 4, 5, 6, 7, 8, 9, 10, 11, 12, 13, 14, 15, 16, 17, 18, 19, 20, 21, 0] rfl ?_
      exact T_childN G C hS hM hZ hR hK hT0 hT4 hm hcc hnn next hpo ho
    | succ r ih =>
      intro k hk
      have c9001 : k < 6 := by omega
      refine aw_iload C dL_law_640 rfl rfl ?_
      refine aw_bipush (v := nI 6) C dL_law_642 rfl rfl ?_
      refine an_icmp_ge (a := k) (b := 6) (tgt := 670) C dL_law_644 (by omega) (by decide) (by decide) rfl (fun q => absurd c9001 q) (fun _ => ?_)
      refine aw_iload C dL_law_647 rfl rfl ?_
      refine aw_aload_n C dL_law_649 rfl rfl rfl ?_
      refine aw_bipush (v := nI 24) C dL_law_650 rfl rfl ?_
      refine aw_iload C dL_law_652 rfl rfl ?_
      refine an_add C dL_law_654 rfl ?_
      refine an_iald (k := 0) (i := 24 + k) (N := 40) (v := (L.1 0 (24 + k))) C hM rfl rfl (by omega) rfl dL_law_655 rfl ?_
      refine aw_iload C dL_law_656 rfl rfl ?_
      refine an_shr C (by omega) (by have := hB 0 (24 + k); omega) dL_law_658 rfl ?_
      refine aw_iconst (v := nI 1) C dL_law_659 rfl rfl ?_
      refine an_and1 C dL_law_660 rfl ?_
      refine an_add C dL_law_661 rfl ?_
      refine aw_istore (ls' := [(22, _), (0, _), (1, _), (2, _), (3, _), (4, _), (5, _), (6, _), (7, _), (8, _), (9, _), (10, _), (11, _), (12, _), (13, _), (14, _), (15, _), (16, _), (19, _), (20, _), (21, _), (23, _)]) C dL_law_662 (by decide) rfl rfl ?_
      refine aw_pick (ls' := [(0, _), (1, _), (2, _), (3, _), (4, _), (5, _), (6, _), (7, _), (8, _), (9, _), (10, _), (11, _), (12, _), (13, _), (14, _), (15, _), (16, _), (19, _), (20, _), (21, _), (22, _), (23, _)]) [1, 2, 3, 4, 5, 6, 7, 8, 9, 10, 11, 12, 13, 14, 15, 16, 17, 18, 19, 20, 0, 21] rfl ?_
      refine aw_iinc (v' := nI (k + 1)) (ls' := [(23, _), (0, _), (1, _), (2, _), (3, _), (4, _), (5, _), (6, _), (7, _), (8, _), (9, _), (10, _), (11, _), (12, _), (13, _), (14, _), (15, _), (16, _), (19, _), (20, _), (21, _), (22, _)]) C dL_law_664 rfl (by decide) (nI_add (k) 1) rfl rfl ?_
      refine aw_pick (ls' := [(0, _), (1, _), (2, _), (3, _), (4, _), (5, _), (6, _), (7, _), (8, _), (9, _), (10, _), (11, _), (12, _), (13, _), (14, _), (15, _), (16, _), (19, _), (20, _), (21, _), (22, _), (23, _)]) [1, 2, 3, 4, 5, 6, 7, 8, 9, 10, 11, 12, 13, 14, 15, 16, 17, 18, 19, 20, 21, 0] rfl ?_
      refine aw_goto (tgt := 640) C dL_law_667 (by decide) ?_
      exact ih (k + 1) (by omega)
  refine aw_iconst (v := nI 0) C dL_law_637 rfl rfl ?_
  refine aw_istore (ls' := [(23, _), (0, _), (1, _), (2, _), (3, _), (4, _), (5, _), (6, _), (7, _), (8, _), (9, _), (10, _), (11, _), (12, _), (13, _), (14, _), (15, _), (16, _), (19, _), (20, _), (21, _), (22, _)]) C dL_law_638 (by decide) rfl rfl ?_
  refine aw_pick (ls' := [(0, _), (1, _), (2, _), (3, _), (4, _), (5, _), (6, _), (7, _), (8, _), (9, _), (10, _), (11, _), (12, _), (13, _), (14, _), (15, _), (16, _), (19, _), (20, _), (21, _), (22, _), (23, _)]) [1, 2, 3, 4, 5, 6, 7, 8, 9, 10, 11, 12, 13, 14, 15, 16, 17, 18, 19, 20, 21, 0] rfl ?_
  exact loop 6 0 (by omega)
set_option maxRecDepth 100000 in
theorem T_child {x : Cx} {Q : State → Prop} {ez : Nat} (G : GOK x.g x.l ez) (C : AWC x cL_law 25 RL room_1 (some .boolean)) {ad : Nat → Nat → Nat} {u : MU} {Y : GS} {L : ZU} {al : Nat → Nat} {sg0 : Sg} {m b tn c n : Nat} {zz : Int32}  (hS : CS x.g ez ad u Y sg0) (hM : ZS x.g al L sg0) (hZ : CZ m u) (hR : ZR L u) (hK : ZKu u) (hT0 : L.1 10 0 ≤ 400 * m) (hT4 : L.1 10 4 ≤ 6000 * m) (hm : m ≤ 130) (hcc : c + 64 ≤ 707461) (hnn : n + 12100 ≤ 6979387) (next : ∀ sg, ZW x.g ez al (ad 0 0) (m + 1) sg → AW x Q (c + 64) (n + 12100) sg 964 [(0, .ref (b)), (1, .ref ((ad 0 0))), (2, .ref (al 0)), (3, .ref (al 1)), (4, .ref (al 2)), (5, .ref (al 3)), (6, .ref (al 4)), (7, .ref (al 5)), (8, .ref (al 6)), (9, .ref (al 7)), (10, .ref (al 8)), (11, .ref (al 9)), (12, .ref (al 10)), (13, .ref (al 11)), (14, .ref (al 12)), (15, .int (nI (1))), (16, .int (nI (tn))), (19, .int (zz))] [])  : AW x Q (c) (n) sg0 608 [(0, .ref (b)), (1, .ref ((ad 0 0))), (2, .ref (al 0)), (3, .ref (al 1)), (4, .ref (al 2)), (5, .ref (al 3)), (6, .ref (al 4)), (7, .ref (al 5)), (8, .ref (al 6)), (9, .ref (al 7)), (10, .ref (al 8)), (11, .ref (al 9)), (12, .ref (al 10)), (13, .ref (al 11)), (14, .ref (al 12)), (15, .int (nI (1))), (16, .int (nI (tn))), (19, .int (zz))] [] := by
  have hl := G.1
  have hst := G.2.1
  have hB := hR.B
  have hM0 := hM
  have hF : ZFr al sg0 sg0 := ZFr.rf
  have hI := hZ.1
  have hn3 := hR.ne.2
  have hn1 := hR.nd.2
  have z1 : (rmZ 1).cells = 0 ∧ (rmZ 1).slots = 0 ∧ rmK.cells = 60 ∧ rmK.slots = 12000 ∧ rmA.cells = 60 ∧ rmA.slots = 12000 ∧ rmD.cells = 1 ∧ rmD.slots = 14 ∧ (rmC 9 8 60).cells = 8 ∧ (rmC 9 8 60).slots = 60 := ⟨rfl, rfl, rfl, rfl, rfl, rfl, rfl, rfl, rfl, rfl⟩
  refine aw_iload C dL_law_608 rfl rfl ?_
  refine aw_iconst (v := nI 5) C dL_law_610 rfl rfl ?_
  refine cw_callSp C k_L_98 (N_low hl hst (v := zz) (N := 5) (by decide) (by decide)) ⟨by decide, by decide⟩ rfl rfl (Nat.le_of_ble_eq_true rfl) (show c + 0 ≤ 707461 by omega) (show n + 0 ≤ 6979387 by omega) dL_law_611 rfl ?_
  obtain ⟨pa, epa⟩ : ∃ q, q = n_low zz 5 := ⟨_, rfl⟩
  rw [← epa]
  have hpa : pa < 5 := by rw [epa]; exact n_low_lt (by decide)
  refine aw_istore (ls' := [(20, _), (0, _), (1, _), (2, _), (3, _), (4, _), (5, _), (6, _), (7, _), (8, _), (9, _), (10, _), (11, _), (12, _), (13, _), (14, _), (15, _), (16, _), (19, _)]) C dL_law_614 (by decide) rfl rfl ?_
  refine aw_pick (ls' := [(0, _), (1, _), (2, _), (3, _), (4, _), (5, _), (6, _), (7, _), (8, _), (9, _), (10, _), (11, _), (12, _), (13, _), (14, _), (15, _), (16, _), (19, _), (20, _)]) [1, 2, 3, 4, 5, 6, 7, 8, 9, 10, 11, 12, 13, 14, 15, 16, 17, 18, 0] rfl ?_
  refine aw_iload C dL_law_616 rfl rfl ?_
  refine aw_iconst (v := nI 1) C dL_law_618 rfl rfl ?_
  refine an_add C dL_law_619 rfl ?_
  refine aw_iload C dL_law_620 rfl rfl ?_
  refine aw_iconst (v := nI 3) C dL_law_622 rfl rfl ?_
  refine aw_ishr C dL_law_623 rfl ?_
  refine aw_iconst (v := nI 5) C dL_law_624 rfl rfl ?_
  refine aw_iload C dL_law_625 rfl rfl ?_
  refine an_sub C (by omega) dL_law_627 rfl ?_
  refine cw_callSp C k_L_98 (N_low hl hst (v := (zz >>> (nI 3 &&& 31))) (N := 5 - pa) (by omega) (by omega)) ⟨by decide, by decide⟩ rfl rfl (Nat.le_of_ble_eq_true rfl) (show c + 0 ≤ 707461 by omega) (show n + 0 ≤ 6979387 by omega) dL_law_628 rfl ?_
  obtain ⟨g5, eg5⟩ : ∃ q, q = n_low (zz >>> (nI 3 &&& 31)) (5 - pa) := ⟨_, rfl⟩
  rw [← eg5]
  have hg5 : g5 < 5 - pa := by rw [eg5]; exact n_low_lt (by omega)
  refine an_add C dL_law_631 rfl ?_
  refine aw_istore (ls' := [(21, _), (0, _), (1, _), (2, _), (3, _), (4, _), (5, _), (6, _), (7, _), (8, _), (9, _), (10, _), (11, _), (12, _), (13, _), (14, _), (15, _), (16, _), (19, _), (20, _)]) C dL_law_632 (by decide) rfl rfl ?_
  refine aw_pick (ls' := [(0, _), (1, _), (2, _), (3, _), (4, _), (5, _), (6, _), (7, _), (8, _), (9, _), (10, _), (11, _), (12, _), (13, _), (14, _), (15, _), (16, _), (19, _), (20, _), (21, _)]) [1, 2, 3, 4, 5, 6, 7, 8, 9, 10, 11, 12, 13, 14, 15, 16, 17, 18, 19, 0] rfl ?_
  refine aw_iconst (v := nI 0) C dL_law_634 rfl rfl ?_
  refine aw_istore (ls' := [(22, _), (0, _), (1, _), (2, _), (3, _), (4, _), (5, _), (6, _), (7, _), (8, _), (9, _), (10, _), (11, _), (12, _), (13, _), (14, _), (15, _), (16, _), (19, _), (20, _), (21, _)]) C dL_law_635 (by decide) rfl rfl ?_
  refine aw_pick (ls' := [(0, _), (1, _), (2, _), (3, _), (4, _), (5, _), (6, _), (7, _), (8, _), (9, _), (10, _), (11, _), (12, _), (13, _), (14, _), (15, _), (16, _), (19, _), (20, _), (21, _), (22, _)]) [1, 2, 3, 4, 5, 6, 7, 8, 9, 10, 11, 12, 13, 14, 15, 16, 17, 18, 19, 20, 0] rfl ?_
  exact T_childK G C hS hM hZ hR hK hT0 hT4 hm hcc hnn next (by omega) (by omega)
set_option maxRecDepth 100000 in
theorem T_die {x : Cx} {Q : State → Prop} {ez : Nat} (G : GOK x.g x.l ez) (C : AWC x cL_law 25 RL room_1 (some .boolean)) {ad : Nat → Nat → Nat} {u : MU} {Y : GS} {L : ZU} {al : Nat → Nat} {sg0 : Sg} {m b tn c n : Nat} {zz : Int32}  (hS : CS x.g ez ad u Y sg0) (hM : ZS x.g al L sg0) (hZ : CZ m u) (hR : ZR L u) (hK : ZKu u) (hT0 : L.1 10 0 ≤ 400 * m) (hT4 : L.1 10 4 ≤ 6000 * m) (hm : m ≤ 130) (hcc : c + 64 ≤ 707461) (hnn : n + 12100 ≤ 6979387) (next : ∀ sg, ZW x.g ez al (ad 0 0) (m + 1) sg → AW x Q (c + 64) (n + 12100) sg 964 [(0, .ref (b)), (1, .ref ((ad 0 0))), (2, .ref (al 0)), (3, .ref (al 1)), (4, .ref (al 2)), (5, .ref (al 3)), (6, .ref (al 4)), (7, .ref (al 5)), (8, .ref (al 6)), (9, .ref (al 7)), (10, .ref (al 8)), (11, .ref (al 9)), (12, .ref (al 10)), (13, .ref (al 11)), (14, .ref (al 12)), (15, .int (nI (1))), (16, .int (nI (tn))), (19, .int (zz))] [])  : AW x Q (c) (n) sg0 830 [(0, .ref (b)), (1, .ref ((ad 0 0))), (2, .ref (al 0)), (3, .ref (al 1)), (4, .ref (al 2)), (5, .ref (al 3)), (6, .ref (al 4)), (7, .ref (al 5)), (8, .ref (al 6)), (9, .ref (al 7)), (10, .ref (al 8)), (11, .ref (al 9)), (12, .ref (al 10)), (13, .ref (al 11)), (14, .ref (al 12)), (16, .int (nI (tn))), (19, .int (zz))] [] := by
  have hl := G.1
  have hst := G.2.1
  have hB := hR.B
  have hM0 := hM
  have hF : ZFr al sg0 sg0 := ZFr.rf
  have hI := hZ.1
  have hn3 := hR.ne.2
  have hn1 := hR.nd.2
  have z1 : (rmZ 1).cells = 0 ∧ (rmZ 1).slots = 0 ∧ rmK.cells = 60 ∧ rmK.slots = 12000 ∧ rmA.cells = 60 ∧ rmA.slots = 12000 ∧ rmD.cells = 1 ∧ rmD.slots = 14 ∧ (rmC 9 8 60).cells = 8 ∧ (rmC 9 8 60).slots = 60 := ⟨rfl, rfl, rfl, rfl, rfl, rfl, rfl, rfl, rfl, rfl⟩
  have hJ : ∀ i, L.2 i < 2 ^ 48 := fun i => Nat.lt_of_le_of_lt (hR.bJ hZ i) (by decide)
  have hw : ∀ i, L.1 1 i % 8 = 4 → i < L.1 10 1 → 1 ≤ L.1 2 i % 128 ∧ L.1 2 i / 128 ≤ L.1 2 i % 128 ∧ L.1 1 i / 64 % 8 < 6 := fun i h4 hi => by
    have D := hR.d hi
    obtain ⟨s1, s2, s3, -⟩ := D.sh (by omega)
    exact ⟨by omega, s2, D.tk.1⟩
  refine aw_iload C dL_law_830 rfl rfl ?_
  refine aw_bipush (v := nI 6) C dL_law_832 rfl rfl ?_
  refine cw_callSp C k_L_98 (N_low hl hst (v := zz) (N := 6) (by decide) (by decide)) ⟨by decide, by decide⟩ rfl rfl (Nat.le_of_ble_eq_true rfl) (show c + 0 ≤ 707461 by omega) (show n + 0 ≤ 6979387 by omega) dL_law_834 rfl ?_
  obtain ⟨one, eone⟩ : ∃ q, q = n_low zz 6 := ⟨_, rfl⟩
  rw [← eone]
  have hone : one < 6 := by rw [eone]; exact n_low_lt (by decide)
  refine aw_istore (ls' := [(20, _), (0, _), (1, _), (2, _), (3, _), (4, _), (5, _), (6, _), (7, _), (8, _), (9, _), (10, _), (11, _), (12, _), (13, _), (14, _), (16, _), (19, _)]) C dL_law_837 (by decide) rfl rfl ?_
  refine aw_pick (ls' := [(0, _), (1, _), (2, _), (3, _), (4, _), (5, _), (6, _), (7, _), (8, _), (9, _), (10, _), (11, _), (12, _), (13, _), (14, _), (16, _), (19, _), (20, _)]) [1, 2, 3, 4, 5, 6, 7, 8, 9, 10, 11, 12, 13, 14, 15, 16, 17, 0] rfl ?_
  refine aw_aload C dL_law_839 rfl rfl ?_
  refine aw_iconst (v := nI 3) C dL_law_841 rfl rfl ?_
  refine an_iald (k := 10) (i := 3) (N := 5) (v := (L.1 10 3)) C hM rfl rfl (by decide) rfl dL_law_842 rfl ?_
  refine aw_bipush (v := nI 25) C dL_law_843 rfl rfl ?_
  refine an_icmp_gt (a := (L.1 10 3)) (b := 25) (tgt := 894) C dL_law_845 (by have := hB 10 3; omega) (by decide) (by decide) rfl (fun c845 => ?_) (fun c845 => ?_)
  · refine aw_iconst (v := nI 1) C dL_law_894 rfl rfl ?_
    refine aw_goto (tgt := 899) C dL_law_895 (by decide) ?_
    refine aw_istore (ls' := [(15, _), (0, _), (1, _), (2, _), (3, _), (4, _), (5, _), (6, _), (7, _), (8, _), (9, _), (10, _), (11, _), (12, _), (13, _), (14, _), (16, _), (19, _), (20, _)]) C dL_law_899 (by decide) rfl rfl ?_
    refine aw_pick (ls' := [(0, _), (1, _), (2, _), (3, _), (4, _), (5, _), (6, _), (7, _), (8, _), (9, _), (10, _), (11, _), (12, _), (13, _), (14, _), (15, _), (16, _), (19, _), (20, _)]) [1, 2, 3, 4, 5, 6, 7, 8, 9, 10, 11, 12, 13, 14, 15, 0, 16, 17, 18] rfl ?_
    refine aw_goto (tgt := 964) C dL_law_901 (by decide) ?_
    refine aw_pick (ls' := [(0, _), (1, _), (2, _), (3, _), (4, _), (5, _), (6, _), (7, _), (8, _), (9, _), (10, _), (11, _), (12, _), (13, _), (14, _), (15, _), (16, _), (19, _)]) [0, 1, 2, 3, 4, 5, 6, 7, 8, 9, 10, 11, 12, 13, 14, 15, 16, 17] rfl ?_
    exact aw_widen (by omega) (by omega) (next _ ⟨ad, u, Y, L, hS, rfl, hM, hZ.next, hR, hK, by omega, by omega⟩)
  · refine aw_iload C dL_law_848 rfl rfl ?_
    refine aw_iconst (v := nI 3) C dL_law_850 rfl rfl ?_
    refine aw_ishr C dL_law_851 rfl ?_
    refine aw_iconst (v := nI 2) C dL_law_852 rfl rfl ?_
    refine cw_callSp C k_L_98 (N_low hl hst (v := (zz >>> (nI 3 &&& 31))) (N := 2) (by decide) (by decide)) ⟨by decide, by decide⟩ rfl rfl (Nat.le_of_ble_eq_true rfl) (show c + 0 ≤ 707461 by omega) (show n + 0 ≤ 6979387 by omega) dL_law_853 rfl ?_
    obtain ⟨q2, eq2⟩ : ∃ q, q = n_low (zz >>> (nI 3 &&& 31)) 2 := ⟨_, rfl⟩
    rw [← eq2]
    have hq2 : q2 < 2 := by rw [eq2]; exact n_low_lt (by decide)
    refine an_if_eq (a := q2) (tgt := 894) C dL_law_856 (by omega) (by decide) rfl (fun c856 => ?_) (fun c856 => ?_)
    · refine aw_iconst (v := nI 1) C dL_law_894 rfl rfl ?_
      refine aw_goto (tgt := 899) C dL_law_895 (by decide) ?_
      refine aw_istore (ls' := [(15, _), (0, _), (1, _), (2, _), (3, _), (4, _), (5, _), (6, _), (7, _), (8, _), (9, _), (10, _), (11, _), (12, _), (13, _), (14, _), (16, _), (19, _), (20, _)]) C dL_law_899 (by decide) rfl rfl ?_
      refine aw_pick (ls' := [(0, _), (1, _), (2, _), (3, _), (4, _), (5, _), (6, _), (7, _), (8, _), (9, _), (10, _), (11, _), (12, _), (13, _), (14, _), (15, _), (16, _), (19, _), (20, _)]) [1, 2, 3, 4, 5, 6, 7, 8, 9, 10, 11, 12, 13, 14, 15, 0, 16, 17, 18] rfl ?_
      refine aw_goto (tgt := 964) C dL_law_901 (by decide) ?_
      refine aw_pick (ls' := [(0, _), (1, _), (2, _), (3, _), (4, _), (5, _), (6, _), (7, _), (8, _), (9, _), (10, _), (11, _), (12, _), (13, _), (14, _), (15, _), (16, _), (19, _)]) [0, 1, 2, 3, 4, 5, 6, 7, 8, 9, 10, 11, 12, 13, 14, 15, 16, 17] rfl ?_
      exact aw_widen (by omega) (by omega) (next _ ⟨ad, u, Y, L, hS, rfl, hM, hZ.next, hR, hK, by omega, by omega⟩)
    · refine aw_aload_n C dL_law_859 rfl rfl rfl ?_
      refine aw_bipush (v := nI 11) C dL_law_860 rfl rfl ?_
      refine aw_iload C dL_law_862 rfl rfl ?_
      refine aw_iconst (v := nI 0) C dL_law_864 rfl rfl ?_
      refine aw_iconst (v := nI 0) C dL_law_865 rfl rfl ?_
      refine aw_iconst (v := nI 0) C dL_law_866 rfl rfl ?_
      refine aw_iconst (v := nI 0) C dL_law_867 rfl rfl ?_
      refine aw_iconst (v := nI 0) C dL_law_868 rfl rfl ?_
      have hd := r_die hZ hR hK c845 hone
      refine aw_callSW C kL_calls (H_die G hS hI hZ.2 (a := nI (one)) (b := nI (0)) (c := nI (0)) (d := nI (0)) (e := nI (0)) (f := nI (0)) hd.1) ⟨by decide, by decide⟩ rfl rfl (Nat.le_of_ble_eq_true rfl) (show c + 60 ≤ 707461 by omega) (show n + 12000 ≤ 6979387 by omega) dL_law_869 rfl (fun _ _ q => ax_no q) (fun v1 sg hq => ?_)
      obtain ⟨rfl, hC⟩ := hq
      have hM := hM.keepC hS hC.fr
      obtain ⟨ad', Y', hS1, e0, -, -, -⟩ := hC
      refine aw_iload C dL_law_872 rfl rfl ?_
      refine aw_aload_n C dL_law_874 rfl rfl rfl ?_
      refine aw_aload_n C dL_law_875 rfl rfl rfl ?_
      refine aw_aload C dL_law_876 rfl rfl ?_
      refine aw_aload C dL_law_878 rfl rfl ?_
      refine aw_aload C dL_law_880 rfl rfl ?_
      refine aw_aload C dL_law_882 rfl rfl ?_
      refine aw_aload C dL_law_884 rfl rfl ?_
      refine aw_aload C dL_law_886 rfl rfl ?_
      have hMc := hM
      refine aw_callS C k_L_175 (N_dies hl hst hM hB hone hJ hn1 (by omega) hw) ⟨by decide, by decide⟩ rfl rfl (Nat.le_of_ble_eq_true rfl) (show (c + 60) + 1 ≤ 707461 by omega) (show (n + 12000) + 14 ≤ 6979387 by omega) dL_law_888 rfl (fun _ _ q => ax_no q) (fun v2 sg hq => ?_)
      obtain ⟨rfl, hM, hF⟩ := hq
      refine aw_icmp_ne (tgt := 898) C dL_law_891 (by decide) rfl (fun q => absurd hd.2.1 q) (fun _ => ?_)
      refine aw_iconst (v := nI 1) C dL_law_894 rfl rfl ?_
      refine aw_goto (tgt := 899) C dL_law_895 (by decide) ?_
      refine aw_istore (ls' := [(15, _), (0, _), (1, _), (2, _), (3, _), (4, _), (5, _), (6, _), (7, _), (8, _), (9, _), (10, _), (11, _), (12, _), (13, _), (14, _), (16, _), (19, _), (20, _)]) C dL_law_899 (by decide) rfl rfl ?_
      refine aw_pick (ls' := [(0, _), (1, _), (2, _), (3, _), (4, _), (5, _), (6, _), (7, _), (8, _), (9, _), (10, _), (11, _), (12, _), (13, _), (14, _), (15, _), (16, _), (19, _), (20, _)]) [1, 2, 3, 4, 5, 6, 7, 8, 9, 10, 11, 12, 13, 14, 15, 0, 16, 17, 18] rfl ?_
      refine aw_goto (tgt := 964) C dL_law_901 (by decide) ?_
      refine aw_pick (ls' := [(0, _), (1, _), (2, _), (3, _), (4, _), (5, _), (6, _), (7, _), (8, _), (9, _), (10, _), (11, _), (12, _), (13, _), (14, _), (15, _), (16, _), (19, _)]) [0, 1, 2, 3, 4, 5, 6, 7, 8, 9, 10, 11, 12, 13, 14, 15, 16, 17] rfl ?_
      exact aw_widen (by omega) (by omega) (next _ ⟨ad', _, Y', _, hS1.keepZ hMc hF, e0, hM, hZ.die.next, hd.2.2.1, hK.die, (by rw [hd.2.2.2.1]; omega), (by rw [hd.2.2.2.2]; omega)⟩)
set_option maxRecDepth 100000 in
theorem T_pass {x : Cx} {Q : State → Prop} {ez : Nat} (G : GOK x.g x.l ez) (C : AWC x cL_law 25 RL room_1 (some .boolean)) {ad : Nat → Nat → Nat} {u : MU} {Y : GS} {L : ZU} {al : Nat → Nat} {sg0 : Sg} {m b tn c n : Nat} {zz : Int32} {act : Nat} (hS : CS x.g ez ad u Y sg0) (hM : ZS x.g al L sg0) (hZ : CZ m u) (hR : ZR L u) (hK : ZKu u) (hT0 : L.1 10 0 ≤ 400 * m) (hT4 : L.1 10 4 ≤ 6000 * m) (hm : m ≤ 130) (hcc : c + 64 ≤ 707461) (hnn : n + 12100 ≤ 6979387) (next : ∀ sg, ZW x.g ez al (ad 0 0) (m + 1) sg → AW x Q (c + 64) (n + 12100) sg 964 [(0, .ref (b)), (1, .ref ((ad 0 0))), (2, .ref (al 0)), (3, .ref (al 1)), (4, .ref (al 2)), (5, .ref (al 3)), (6, .ref (al 4)), (7, .ref (al 5)), (8, .ref (al 6)), (9, .ref (al 7)), (10, .ref (al 8)), (11, .ref (al 9)), (12, .ref (al 10)), (13, .ref (al 11)), (14, .ref (al 12)), (15, .int (nI (1))), (16, .int (nI (tn))), (19, .int (zz))] []) (ha : act < 32) : AW x Q (c) (n) sg0 904 [(0, .ref (b)), (1, .ref ((ad 0 0))), (2, .ref (al 0)), (3, .ref (al 1)), (4, .ref (al 2)), (5, .ref (al 3)), (6, .ref (al 4)), (7, .ref (al 5)), (8, .ref (al 6)), (9, .ref (al 7)), (10, .ref (al 8)), (11, .ref (al 9)), (12, .ref (al 10)), (13, .ref (al 11)), (14, .ref (al 12)), (16, .int (nI (tn))), (18, .int (nI (act))), (19, .int (zz))] [] := by
  have hl := G.1
  have hst := G.2.1
  have hB := hR.B
  have hM0 := hM
  have hF : ZFr al sg0 sg0 := ZFr.rf
  have hI := hZ.1
  have hn3 := hR.ne.2
  have hn1 := hR.nd.2
  have z1 : (rmZ 1).cells = 0 ∧ (rmZ 1).slots = 0 ∧ rmK.cells = 60 ∧ rmK.slots = 12000 ∧ rmA.cells = 60 ∧ rmA.slots = 12000 ∧ rmD.cells = 1 ∧ rmD.slots = 14 ∧ (rmC 9 8 60).cells = 8 ∧ (rmC 9 8 60).slots = 60 := ⟨rfl, rfl, rfl, rfl, rfl, rfl, rfl, rfl, rfl, rfl⟩
  refine aw_iload C dL_law_904 rfl rfl ?_
  refine aw_bipush (v := nI 28) C dL_law_906 rfl rfl ?_
  refine an_icmp_ne (a := act) (b := 28) (tgt := 924) C dL_law_908 (by omega) (by decide) (by decide) rfl (fun c908 => ?_) (fun c908 => ?_)
  · refine aw_iconst (v := nI 1) C dL_law_924 rfl rfl ?_
    refine aw_iload C dL_law_925 rfl rfl ?_
    refine aw_bipush (v := nI 12) C dL_law_927 rfl rfl ?_
    refine cw_callSp C k_L_98 (N_low hl hst (v := zz) (N := 12) (by decide) (by decide)) ⟨by decide, by decide⟩ rfl rfl (Nat.le_of_ble_eq_true rfl) (show c + 0 ≤ 707461 by omega) (show n + 0 ≤ 6979387 by omega) dL_law_929 rfl ?_
    obtain ⟨q12, eq12⟩ : ∃ q, q = n_low zz 12 := ⟨_, rfl⟩
    rw [← eq12]
    have hq12 : q12 < 12 := by rw [eq12]; exact n_low_lt (by decide)
    refine an_add C dL_law_932 rfl ?_
    refine aw_istore (ls' := [(20, _), (0, _), (1, _), (2, _), (3, _), (4, _), (5, _), (6, _), (7, _), (8, _), (9, _), (10, _), (11, _), (12, _), (13, _), (14, _), (16, _), (18, _), (19, _)]) C dL_law_933 (by decide) rfl rfl ?_
    refine aw_pick (ls' := [(0, _), (1, _), (2, _), (3, _), (4, _), (5, _), (6, _), (7, _), (8, _), (9, _), (10, _), (11, _), (12, _), (13, _), (14, _), (16, _), (18, _), (19, _), (20, _)]) [1, 2, 3, 4, 5, 6, 7, 8, 9, 10, 11, 12, 13, 14, 15, 16, 17, 18, 0] rfl ?_
    refine aw_aload C dL_law_935 rfl rfl ?_
    refine aw_iconst (v := nI 0) C dL_law_937 rfl rfl ?_
    refine aw_dup2 C dL_law_938 rfl rfl rfl ?_
    refine an_iald (k := 10) (i := 0) (N := 5) (v := (L.1 10 0)) C hM rfl rfl (by decide) rfl dL_law_939 rfl ?_
    refine aw_iload C dL_law_940 rfl rfl ?_
    refine an_add C dL_law_942 rfl ?_
    refine an_iast (k := 10) (i := 0) (N := 5) (v := (L.1 10 0) + (1 + q12)) C hM hF rfl rfl (by decide) dL_law_943 rfl (fun sg hM hF => ?_)
    refine aw_aload_n C dL_law_944 rfl rfl rfl ?_
    refine aw_iload C dL_law_945 rfl rfl ?_
    have hp := r_pass hR (k := 1 + q12) (by omega) (by omega) (by omega)
    have hS := hS.keepZ hM0 hF
    refine aw_callV C k_L_179 (F_pass G hS hI (v := nI (1 + q12))) ⟨by decide, by decide⟩ (ci := 10) rfl hS.O rfl rfl (Nat.le_of_ble_eq_true rfl) (show c + 8 ≤ 707461 by omega) (show n + 60 ≤ 6979387 by omega) dL_law_947 rfl (fun E s1 hx => absurd hp.1 hx.1) (fun v1 sg hq => ?_)
    obtain ⟨-, rfl, hC⟩ := hq
    have hM := hM.keepC hS hC.fr
    obtain ⟨ad', Y', hS1, e0, -, -, -⟩ := hC
    refine aw_aload C dL_law_950 rfl rfl ?_
    refine aw_iconst (v := nI 0) C dL_law_952 rfl rfl ?_
    refine an_iald (k := 10) (i := 0) (N := 5) (v := ((L.1 10 0) + (1 + q12))) C hM rfl rfl (by decide) zI_s dL_law_953 rfl ?_
    refine aw_icmp_ne (tgt := 961) C dL_law_954 (by decide) rfl (fun q => absurd hp.2.1 q) (fun _ => ?_)
    refine aw_iconst (v := nI 1) C dL_law_957 rfl rfl ?_
    refine aw_goto (tgt := 962) C dL_law_958 (by decide) ?_
    refine aw_istore (ls' := [(15, _), (0, _), (1, _), (2, _), (3, _), (4, _), (5, _), (6, _), (7, _), (8, _), (9, _), (10, _), (11, _), (12, _), (13, _), (14, _), (16, _), (18, _), (19, _), (20, _)]) C dL_law_962 (by decide) rfl rfl ?_
    refine aw_pick (ls' := [(0, _), (1, _), (2, _), (3, _), (4, _), (5, _), (6, _), (7, _), (8, _), (9, _), (10, _), (11, _), (12, _), (13, _), (14, _), (15, _), (16, _), (18, _), (19, _), (20, _)]) [1, 2, 3, 4, 5, 6, 7, 8, 9, 10, 11, 12, 13, 14, 15, 0, 16, 17, 18, 19] rfl ?_
    refine aw_pick (ls' := [(0, _), (1, _), (2, _), (3, _), (4, _), (5, _), (6, _), (7, _), (8, _), (9, _), (10, _), (11, _), (12, _), (13, _), (14, _), (15, _), (16, _), (19, _)]) [0, 1, 2, 3, 4, 5, 6, 7, 8, 9, 10, 11, 12, 13, 14, 15, 16, 18] rfl ?_
    exact aw_widen (by omega) (by omega) (next _ ⟨ad', _, Y', _, hS1, e0, hM, hZ.pass.next, hp.2.2, hK.pass, (by rw [zI_s]; omega), (by rw [zI_n (by decide)]; omega)⟩)
  · refine aw_iconst (v := nI 1) C dL_law_911 rfl rfl ?_
    refine aw_iload C dL_law_912 rfl rfl ?_
    refine aw_sipush (v := nI 400) C dL_law_914 rfl rfl ?_
    refine cw_callSp C k_L_98 (N_low hl hst (v := zz) (N := 400) (by decide) (by decide)) ⟨by decide, by decide⟩ rfl rfl (Nat.le_of_ble_eq_true rfl) (show c + 0 ≤ 707461 by omega) (show n + 0 ≤ 6979387 by omega) dL_law_917 rfl ?_
    obtain ⟨q400, eq400⟩ : ∃ q, q = n_low zz 400 := ⟨_, rfl⟩
    rw [← eq400]
    have hq400 : q400 < 400 := by rw [eq400]; exact n_low_lt (by decide)
    refine an_add C dL_law_920 rfl ?_
    refine aw_goto (tgt := 933) C dL_law_921 (by decide) ?_
    refine aw_istore (ls' := [(20, _), (0, _), (1, _), (2, _), (3, _), (4, _), (5, _), (6, _), (7, _), (8, _), (9, _), (10, _), (11, _), (12, _), (13, _), (14, _), (16, _), (18, _), (19, _)]) C dL_law_933 (by decide) rfl rfl ?_
    refine aw_pick (ls' := [(0, _), (1, _), (2, _), (3, _), (4, _), (5, _), (6, _), (7, _), (8, _), (9, _), (10, _), (11, _), (12, _), (13, _), (14, _), (16, _), (18, _), (19, _), (20, _)]) [1, 2, 3, 4, 5, 6, 7, 8, 9, 10, 11, 12, 13, 14, 15, 16, 17, 18, 0] rfl ?_
    refine aw_aload C dL_law_935 rfl rfl ?_
    refine aw_iconst (v := nI 0) C dL_law_937 rfl rfl ?_
    refine aw_dup2 C dL_law_938 rfl rfl rfl ?_
    refine an_iald (k := 10) (i := 0) (N := 5) (v := (L.1 10 0)) C hM rfl rfl (by decide) rfl dL_law_939 rfl ?_
    refine aw_iload C dL_law_940 rfl rfl ?_
    refine an_add C dL_law_942 rfl ?_
    refine an_iast (k := 10) (i := 0) (N := 5) (v := (L.1 10 0) + (1 + q400)) C hM hF rfl rfl (by decide) dL_law_943 rfl (fun sg hM hF => ?_)
    refine aw_aload_n C dL_law_944 rfl rfl rfl ?_
    refine aw_iload C dL_law_945 rfl rfl ?_
    have hp := r_pass hR (k := 1 + q400) (by omega) (by omega) (by omega)
    have hS := hS.keepZ hM0 hF
    refine aw_callV C k_L_179 (F_pass G hS hI (v := nI (1 + q400))) ⟨by decide, by decide⟩ (ci := 10) rfl hS.O rfl rfl (Nat.le_of_ble_eq_true rfl) (show c + 8 ≤ 707461 by omega) (show n + 60 ≤ 6979387 by omega) dL_law_947 rfl (fun E s1 hx => absurd hp.1 hx.1) (fun v1 sg hq => ?_)
    obtain ⟨-, rfl, hC⟩ := hq
    have hM := hM.keepC hS hC.fr
    obtain ⟨ad', Y', hS1, e0, -, -, -⟩ := hC
    refine aw_aload C dL_law_950 rfl rfl ?_
    refine aw_iconst (v := nI 0) C dL_law_952 rfl rfl ?_
    refine an_iald (k := 10) (i := 0) (N := 5) (v := ((L.1 10 0) + (1 + q400))) C hM rfl rfl (by decide) zI_s dL_law_953 rfl ?_
    refine aw_icmp_ne (tgt := 961) C dL_law_954 (by decide) rfl (fun q => absurd hp.2.1 q) (fun _ => ?_)
    refine aw_iconst (v := nI 1) C dL_law_957 rfl rfl ?_
    refine aw_goto (tgt := 962) C dL_law_958 (by decide) ?_
    refine aw_istore (ls' := [(15, _), (0, _), (1, _), (2, _), (3, _), (4, _), (5, _), (6, _), (7, _), (8, _), (9, _), (10, _), (11, _), (12, _), (13, _), (14, _), (16, _), (18, _), (19, _), (20, _)]) C dL_law_962 (by decide) rfl rfl ?_
    refine aw_pick (ls' := [(0, _), (1, _), (2, _), (3, _), (4, _), (5, _), (6, _), (7, _), (8, _), (9, _), (10, _), (11, _), (12, _), (13, _), (14, _), (15, _), (16, _), (18, _), (19, _), (20, _)]) [1, 2, 3, 4, 5, 6, 7, 8, 9, 10, 11, 12, 13, 14, 15, 0, 16, 17, 18, 19] rfl ?_
    refine aw_pick (ls' := [(0, _), (1, _), (2, _), (3, _), (4, _), (5, _), (6, _), (7, _), (8, _), (9, _), (10, _), (11, _), (12, _), (13, _), (14, _), (15, _), (16, _), (19, _)]) [0, 1, 2, 3, 4, 5, 6, 7, 8, 9, 10, 11, 12, 13, 14, 15, 16, 18] rfl ?_
    exact aw_widen (by omega) (by omega) (next _ ⟨ad', _, Y', _, hS1, e0, hM, hZ.pass.next, hp.2.2, hK.pass, (by rw [zI_s]; omega), (by rw [zI_n (by decide)]; omega)⟩)
