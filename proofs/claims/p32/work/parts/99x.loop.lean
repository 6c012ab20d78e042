/-! the law: its loop -/
set_option maxRecDepth 100000 in
theorem T_turn {x : Cx} {Q : State → Prop} {ez : Nat} (G : GOK x.g x.l ez) (C : AWC x cL_law 25 RL room_1 (some .boolean)) {al : Nat → Nat} {sg0 : Sg} {q m b Lx c n : Nat} {xs : Nat → Int32} (hX : ∀ s, x.g.X s → va_X b Lx xs s s.heap) (hb : b < x.g.base) (hLx : Lx ≤ 260) (hm : m < 130) (hW : ZW x.g ez al q m sg0) (hcc : c + 64 ≤ 707461) (hnn : n + 12100 ≤ 6979387) (next : ∀ sg, ∀ zz : Int32, ZW x.g ez al q (m + 1) sg → AW x Q (c + 64) (n + 12100) sg 964 [(0, .ref (b)), (1, .ref (q)), (2, .ref (al 0)), (3, .ref (al 1)), (4, .ref (al 2)), (5, .ref (al 3)), (6, .ref (al 4)), (7, .ref (al 5)), (8, .ref (al 6)), (9, .ref (al 7)), (10, .ref (al 8)), (11, .ref (al 9)), (12, .ref (al 10)), (13, .ref (al 11)), (14, .ref (al 12)), (15, .int (nI (1))), (16, .int (nI (m))), (19, .int (zz))] []) : AW x Q (c) (n) sg0 239 [(0, .ref (b)), (1, .ref (q)), (2, .ref (al 0)), (3, .ref (al 1)), (4, .ref (al 2)), (5, .ref (al 3)), (6, .ref (al 4)), (7, .ref (al 5)), (8, .ref (al 6)), (9, .ref (al 7)), (10, .ref (al 8)), (11, .ref (al 9)), (12, .ref (al 10)), (13, .ref (al 11)), (14, .ref (al 12)), (15, .int (nI (1))), (16, .int (nI (m)))] [] := by
  have hl := G.1
  have hst := G.2.1
  have z1 : (rmZ 1).cells = 0 ∧ (rmZ 1).slots = 0 ∧ rmS.cells = 2900 ∧ rmS.slots = 21800 := ⟨rfl, rfl, rfl, rfl⟩
  obtain ⟨ad, u, Y, L, hS, rfl, hM, hZ, hR, hK, hT0, hT4⟩ := hW
  have hB := hR.B
  have hn3 := hR.ne.2
  have hn1 := hR.nd.2
  have hm2 : m ≤ 130 := by omega
  have c9001 : m < 130 := hm
  refine aw_iload C dL_law_239 rfl rfl ?_
  refine aw_sipush (v := nI 130) C dL_law_241 rfl rfl ?_
  refine an_icmp_ge (a := m) (b := 130) (tgt := 1017) C dL_law_244 (by omega) (by decide) (by decide) rfl (fun q => absurd c9001 q) (fun _ => ?_)
  refine aw_iload C dL_law_247 rfl rfl ?_
  refine an_if_eq (a := 1) (tgt := 1017) C dL_law_249 (by decide) (by decide) rfl (fun q => absurd q (by decide)) (fun _ => ?_)
  refine aw_aload_n C dL_law_252 rfl rfl rfl ?_
  refine aw_iload C dL_law_253 rfl rfl ?_
  refine aw_callS C k_L_163 (N_cell hl hst hX hb hLx (by omega)) ⟨by decide, by decide⟩ rfl rfl (Nat.le_of_ble_eq_true rfl) (show c + 0 ≤ 707461 by omega) (show n + 0 ≤ 6979387 by omega) dL_law_255 rfl (fun _ _ q => ax_no q) (fun v1 sg hq => ?_)
  obtain ⟨vv, rfl, rfl⟩ := hq
  refine aw_istore (ls' := [(17, _), (0, _), (1, _), (2, _), (3, _), (4, _), (5, _), (6, _), (7, _), (8, _), (9, _), (10, _), (11, _), (12, _), (13, _), (14, _), (15, _), (16, _)]) C dL_law_258 (by decide) rfl rfl ?_
  refine aw_pick (ls' := [(0, _), (1, _), (2, _), (3, _), (4, _), (5, _), (6, _), (7, _), (8, _), (9, _), (10, _), (11, _), (12, _), (13, _), (14, _), (15, _), (16, _), (17, _)]) [1, 2, 3, 4, 5, 6, 7, 8, 9, 10, 11, 12, 13, 14, 15, 16, 17, 0] rfl ?_
  refine aw_iload C dL_law_260 rfl rfl ?_
  refine aw_bipush (v := nI 32) C dL_law_262 rfl rfl ?_
  refine cw_callSp C k_L_98 (N_low hl hst (v := vv) (N := 32) (by decide) (by decide)) ⟨by decide, by decide⟩ rfl rfl (Nat.le_of_ble_eq_true rfl) (show c + 0 ≤ 707461 by omega) (show n + 0 ≤ 6979387 by omega) dL_law_264 rfl ?_
  obtain ⟨act, eact⟩ : ∃ q, q = n_low vv 32 := ⟨_, rfl⟩
  rw [← eact]
  have hact : act < 32 := by rw [eact]; exact n_low_lt (by decide)
  refine aw_istore (ls' := [(18, _), (0, _), (1, _), (2, _), (3, _), (4, _), (5, _), (6, _), (7, _), (8, _), (9, _), (10, _), (11, _), (12, _), (13, _), (14, _), (15, _), (16, _), (17, _)]) C dL_law_267 (by decide) rfl rfl ?_
  refine aw_pick (ls' := [(0, _), (1, _), (2, _), (3, _), (4, _), (5, _), (6, _), (7, _), (8, _), (9, _), (10, _), (11, _), (12, _), (13, _), (14, _), (15, _), (16, _), (17, _), (18, _)]) [1, 2, 3, 4, 5, 6, 7, 8, 9, 10, 11, 12, 13, 14, 15, 16, 17, 18, 0] rfl ?_
  refine aw_iload C dL_law_269 rfl rfl ?_
  refine aw_iconst (v := nI 5) C dL_law_271 rfl rfl ?_
  refine aw_ishr C dL_law_272 rfl ?_
  refine aw_istore (ls' := [(19, _), (0, _), (1, _), (2, _), (3, _), (4, _), (5, _), (6, _), (7, _), (8, _), (9, _), (10, _), (11, _), (12, _), (13, _), (14, _), (15, _), (16, _), (17, _), (18, _)]) C dL_law_273 (by decide) rfl rfl ?_
  refine aw_pick (ls' := [(0, _), (1, _), (2, _), (3, _), (4, _), (5, _), (6, _), (7, _), (8, _), (9, _), (10, _), (11, _), (12, _), (13, _), (14, _), (15, _), (16, _), (17, _), (18, _), (19, _)]) [1, 2, 3, 4, 5, 6, 7, 8, 9, 10, 11, 12, 13, 14, 15, 16, 17, 18, 19, 0] rfl ?_
  refine aw_iload C dL_law_275 rfl rfl ?_
  refine aw_iconst (v := nI 5) C dL_law_277 rfl rfl ?_
  refine an_icmp_lt (a := act) (b := 5) (tgt := 288) C dL_law_278 (by omega) (by decide) (by decide) rfl (fun c278 => ?_) (fun c278 => ?_)
  · refine aw_pick (ls' := [(0, _), (1, _), (2, _), (3, _), (4, _), (5, _), (6, _), (7, _), (8, _), (9, _), (10, _), (11, _), (12, _), (13, _), (14, _), (16, _), (19, _)]) [0, 1, 2, 3, 4, 5, 6, 7, 8, 9, 10, 11, 12, 13, 14, 16, 19] rfl ?_
    exact T_drafts G C hS hM hZ hR hK hT0 hT4 hm2 hcc hnn (fun sg hW => next sg _ hW)
  · refine aw_aload C dL_law_281 rfl rfl ?_
    refine aw_iconst (v := nI 1) C dL_law_283 rfl rfl ?_
    refine an_iald (k := 10) (i := 1) (N := 5) (v := (L.1 10 1)) C hM rfl rfl (by decide) rfl dL_law_284 rfl ?_
    refine an_if_ne (a := (L.1 10 1)) (tgt := 322) C dL_law_285 (by have := hB 10 1; omega) (by decide) rfl (fun c285 => ?_) (fun c285 => ?_)
    · refine aw_iload C dL_law_322 rfl rfl ?_
      refine aw_bipush (v := nI 24) C dL_law_324 rfl rfl ?_
      refine an_icmp_ge (a := act) (b := 24) (tgt := 368) C dL_law_326 (by omega) (by decide) (by decide) rfl (fun c326 => ?_) (fun c326 => ?_)
      · refine aw_iload C dL_law_368 rfl rfl ?_
        refine aw_bipush (v := nI 26) C dL_law_370 rfl rfl ?_
        refine an_icmp_ge (a := act) (b := 26) (tgt := 601) C dL_law_372 (by omega) (by decide) (by decide) rfl (fun c372 => ?_) (fun c372 => ?_)
        · refine aw_iload C dL_law_601 rfl rfl ?_
          refine aw_bipush (v := nI 26) C dL_law_603 rfl rfl ?_
          refine an_icmp_ne (a := act) (b := 26) (tgt := 823) C dL_law_605 (by omega) (by decide) (by decide) rfl (fun c605 => ?_) (fun c605 => ?_)
          · refine aw_iload C dL_law_823 rfl rfl ?_
            refine aw_bipush (v := nI 27) C dL_law_825 rfl rfl ?_
            refine an_icmp_ne (a := act) (b := 27) (tgt := 904) C dL_law_827 (by omega) (by decide) (by decide) rfl (fun c827 => ?_) (fun c827 => ?_)
            · refine aw_pick (ls' := [(0, _), (1, _), (2, _), (3, _), (4, _), (5, _), (6, _), (7, _), (8, _), (9, _), (10, _), (11, _), (12, _), (13, _), (14, _), (16, _), (18, _), (19, _)]) [0, 1, 2, 3, 4, 5, 6, 7, 8, 9, 10, 11, 12, 13, 14, 16, 18, 19] rfl ?_
              exact T_pass G C hS hM hZ hR hK hT0 hT4 hm2 hcc hnn (fun sg hW => next sg _ hW) hact
            · refine aw_pick (ls' := [(0, _), (1, _), (2, _), (3, _), (4, _), (5, _), (6, _), (7, _), (8, _), (9, _), (10, _), (11, _), (12, _), (13, _), (14, _), (16, _), (19, _)]) [0, 1, 2, 3, 4, 5, 6, 7, 8, 9, 10, 11, 12, 13, 14, 16, 19] rfl ?_
              exact T_die G C hS hM hZ hR hK hT0 hT4 hm2 hcc hnn (fun sg hW => next sg _ hW)
          · refine aw_pick (ls' := [(0, _), (1, _), (2, _), (3, _), (4, _), (5, _), (6, _), (7, _), (8, _), (9, _), (10, _), (11, _), (12, _), (13, _), (14, _), (15, _), (16, _), (19, _)]) [0, 1, 2, 3, 4, 5, 6, 7, 8, 9, 10, 11, 12, 13, 14, 15, 16, 19] rfl ?_
            exact T_child G C hS hM hZ hR hK hT0 hT4 hm2 hcc hnn (fun sg hW => next sg _ hW)
        · refine aw_pick (ls' := [(0, _), (1, _), (2, _), (3, _), (4, _), (5, _), (6, _), (7, _), (8, _), (9, _), (10, _), (11, _), (12, _), (13, _), (14, _), (16, _), (19, _)]) [0, 1, 2, 3, 4, 5, 6, 7, 8, 9, 10, 11, 12, 13, 14, 16, 19] rfl ?_
          exact T_guard G C hS hM hZ hR hK hT0 hT4 hm2 hcc hnn (fun sg hW => next sg _ hW)
      · refine aw_pick (ls' := [(0, _), (1, _), (2, _), (3, _), (4, _), (5, _), (6, _), (7, _), (8, _), (9, _), (10, _), (11, _), (12, _), (13, _), (14, _), (16, _), (18, _), (19, _)]) [0, 1, 2, 3, 4, 5, 6, 7, 8, 9, 10, 11, 12, 13, 14, 16, 18, 19] rfl ?_
        exact T_acts G C hS hM hZ hR hK hT0 hT4 hm2 hcc hnn (fun sg hW => next sg _ hW) (by omega) c326 (by omega)
    · refine aw_pick (ls' := [(0, _), (1, _), (2, _), (3, _), (4, _), (5, _), (6, _), (7, _), (8, _), (9, _), (10, _), (11, _), (12, _), (13, _), (14, _), (16, _), (19, _)]) [0, 1, 2, 3, 4, 5, 6, 7, 8, 9, 10, 11, 12, 13, 14, 16, 19] rfl ?_
      exact T_drafts G C hS hM hZ hR hK hT0 hT4 hm2 hcc hnn (fun sg hW => next sg _ hW)
set_option maxRecDepth 100000 in
theorem T_same {x : Cx} {Q : State → Prop} {ez : Nat} (G : GOK x.g x.l ez) (C : AWC x cL_law 25 RL room_1 (some .boolean)) {al : Nat → Nat} {sg0 : Sg} {q m b tn c n : Nat} {zz : Int32} (hW : ZW x.g ez al q m sg0) (hcc : c + 2900 ≤ 707461) (hnn : n + 21800 ≤ 6979387) (next : ∀ sg, ZW x.g ez al q m sg → AW x Q (c + 2900) (n + 21800) sg 239 [(0, .ref (b)), (1, .ref (q)), (2, .ref (al 0)), (3, .ref (al 1)), (4, .ref (al 2)), (5, .ref (al 3)), (6, .ref (al 4)), (7, .ref (al 5)), (8, .ref (al 6)), (9, .ref (al 7)), (10, .ref (al 8)), (11, .ref (al 9)), (12, .ref (al 10)), (13, .ref (al 11)), (14, .ref (al 12)), (15, .int (nI (1))), (16, .int (nI (tn + 1)))] []) : AW x Q (c) (n) sg0 964 [(0, .ref (b)), (1, .ref (q)), (2, .ref (al 0)), (3, .ref (al 1)), (4, .ref (al 2)), (5, .ref (al 3)), (6, .ref (al 4)), (7, .ref (al 5)), (8, .ref (al 6)), (9, .ref (al 7)), (10, .ref (al 8)), (11, .ref (al 9)), (12, .ref (al 10)), (13, .ref (al 11)), (14, .ref (al 12)), (15, .int (nI (1))), (16, .int (nI (tn))), (19, .int (zz))] [] := by
  have hl := G.1
  have hst := G.2.1
  have z1 : (rmZ 1).cells = 0 ∧ (rmZ 1).slots = 0 ∧ rmS.cells = 2900 ∧ rmS.slots = 21800 := ⟨rfl, rfl, rfl, rfl⟩
  obtain ⟨ad, u, Y, L, hS, rfl, hM, hZ, hR, hK, hT0, hT4⟩ := hW
  have hB := hR.B
  have hn3 := hR.ne.2
  have hn1 := hR.nd.2
  refine aw_iload C dL_law_964 rfl rfl ?_
  refine an_if_eq (a := 1) (tgt := 1008) C dL_law_966 (by decide) (by decide) rfl (fun q => absurd q (by decide)) (fun _ => ?_)
  refine aw_aload_n C dL_law_969 rfl rfl rfl ?_
  refine aw_iload C dL_law_970 rfl rfl ?_
  refine aw_iconst (v := nI 2) C dL_law_972 rfl rfl ?_
  refine aw_ishr C dL_law_973 rfl ?_
  refine aw_aload_n C dL_law_974 rfl rfl rfl ?_
  refine aw_aload_n C dL_law_975 rfl rfl rfl ?_
  refine aw_aload C dL_law_976 rfl rfl ?_
  refine aw_aload C dL_law_978 rfl rfl ?_
  refine aw_aload C dL_law_980 rfl rfl ?_
  refine aw_aload C dL_law_982 rfl rfl ?_
  refine aw_aload C dL_law_984 rfl rfl ?_
  refine aw_aload C dL_law_986 rfl rfl ?_
  refine aw_aload C dL_law_988 rfl rfl ?_
  refine aw_aload C dL_law_990 rfl rfl ?_
  refine aw_aload C dL_law_992 rfl rfl ?_
  refine aw_aload C dL_law_994 rfl rfl ?_
  refine aw_aload C dL_law_996 rfl rfl ?_
  refine aw_callS C k_L_182 (N_same G ⟨ad, Y, hS, rfl, hM⟩ hZ hR) ⟨by decide, by decide⟩ rfl rfl (Nat.le_of_ble_eq_true rfl) (show c + 2900 ≤ 707461 by omega) (show n + 21800 ≤ 6979387 by omega) dL_law_998 rfl (fun _ _ q => ax_no q) (fun v1 sg hq => ?_)
  obtain ⟨rfl, ad2, Y2, hS2, e2, hM2⟩ := hq
  refine an_if_eq (a := 1) (tgt := 1008) C dL_law_1001 (by decide) (by decide) rfl (fun q => absurd q (by decide)) (fun _ => ?_)
  refine aw_iconst (v := nI 1) C dL_law_1004 rfl rfl ?_
  refine aw_goto (tgt := 1009) C dL_law_1005 (by decide) ?_
  refine aw_istore (ls' := [(15, _), (0, _), (1, _), (2, _), (3, _), (4, _), (5, _), (6, _), (7, _), (8, _), (9, _), (10, _), (11, _), (12, _), (13, _), (14, _), (16, _), (19, _)]) C dL_law_1009 (by decide) rfl rfl ?_
  refine aw_pick (ls' := [(0, _), (1, _), (2, _), (3, _), (4, _), (5, _), (6, _), (7, _), (8, _), (9, _), (10, _), (11, _), (12, _), (13, _), (14, _), (15, _), (16, _), (19, _)]) [1, 2, 3, 4, 5, 6, 7, 8, 9, 10, 11, 12, 13, 14, 15, 0, 16, 17] rfl ?_
  refine aw_iinc (v' := nI (tn + 1)) (ls' := [(16, _), (0, _), (1, _), (2, _), (3, _), (4, _), (5, _), (6, _), (7, _), (8, _), (9, _), (10, _), (11, _), (12, _), (13, _), (14, _), (15, _), (19, _)]) C dL_law_1011 rfl (by decide) (nI_add (tn) 1) rfl rfl ?_
  refine aw_pick (ls' := [(0, _), (1, _), (2, _), (3, _), (4, _), (5, _), (6, _), (7, _), (8, _), (9, _), (10, _), (11, _), (12, _), (13, _), (14, _), (15, _), (16, _), (19, _)]) [1, 2, 3, 4, 5, 6, 7, 8, 9, 10, 11, 12, 13, 14, 15, 16, 0, 17] rfl ?_
  refine aw_goto (tgt := 239) C dL_law_1014 (by decide) ?_
  refine aw_pick (ls' := [(0, _), (1, _), (2, _), (3, _), (4, _), (5, _), (6, _), (7, _), (8, _), (9, _), (10, _), (11, _), (12, _), (13, _), (14, _), (15, _), (16, _)]) [0, 1, 2, 3, 4, 5, 6, 7, 8, 9, 10, 11, 12, 13, 14, 15, 16] rfl ?_
  exact aw_widen (by omega) (by omega) (next sg ⟨ad2, u, Y2, L, hS2, e2, hM2, hZ, hR, hK, hT0, hT4⟩)
set_option maxRecDepth 100000 in
theorem law_loop {x : Cx} {Q : State → Prop} {ez : Nat} (G : GOK x.g x.l ez) (C : AWC x cL_law 25 RL room_1 (some .boolean)) {al : Nat → Nat} {q b Lx : Nat} {xs : Nat → Int32} (hX : ∀ s, x.g.X s → va_X b Lx xs s s.heap) (hb : b < x.g.base) (hLx : Lx ≤ 260) (hend : ∀ sg ls, AW x Q 707461 6979387 sg 1019 ls [.int 1]) : ∀ (r tn : Nat) (sg : Sg), tn + r = 130 → ZW x.g ez al q tn sg → AW x Q (130 + 2964 * tn) (16500 + 33900 * tn) sg 239 [(0, .ref (b)), (1, .ref (q)), (2, .ref (al 0)), (3, .ref (al 1)), (4, .ref (al 2)), (5, .ref (al 3)), (6, .ref (al 4)), (7, .ref (al 5)), (8, .ref (al 6)), (9, .ref (al 7)), (10, .ref (al 8)), (11, .ref (al 9)), (12, .ref (al 10)), (13, .ref (al 11)), (14, .ref (al 12)), (15, .int (nI (1))), (16, .int (nI (tn)))] [] := by
  intro r
  induction r with
  | zero =>
    intro tn sg htn hW
    obtain rfl : tn = 130 := by omega
    refine aw_iload C dL_law_239 rfl rfl ?_
    refine aw_sipush (v := nI 130) C dL_law_241 rfl rfl ?_
    refine an_icmp_ge (a := 130) (b := 130) (tgt := 1017) C dL_law_244 (by decide) (by decide) (by decide) rfl (fun _ => ?_) (fun q => absurd q (by decide))
    refine aw_iload C dL_law_1017 rfl rfl ?_
    exact aw_widen (by decide) (by decide) (hend sg _)
  | succ r ih =>
    intro tn sg htn hW
    refine T_turn G C hX hb hLx (by omega) hW (c := 130 + 2964 * tn) (n := 16500 + 33900 * tn) (by omega) (by omega) (fun sg zz hW => ?_)
    refine T_same G C hW (c := 130 + 2964 * tn + 64) (n := 16500 + 33900 * tn + 12100) (by omega) (by omega) (fun sg hW => ?_)
    exact aw_widen (by omega) (by omega) (ih (tn + 1) sg (by omega) hW)
set_option maxRecDepth 100000 in
theorem law_first {x : Cx} {Q : State → Prop} {ez : Nat} (G : GOK x.g x.l ez) (C : AWC x cL_law 25 RL room_1 (some .boolean)) {ad : Nat → Nat → Nat} {Y : GS} {al : Nat → Nat} {sg : Sg} {q b c n : Nat} (hS : CS x.g ez ad (uS 0) Y sg) (hq0 : ad 0 0 = q) (hM : ZS x.g al (zP 0) sg) (hcc : c + 96 ≤ 707461) (hnn : n + 16000 ≤ 6979387) (next : ∀ sg, ZW x.g ez al q 0 sg → AW x Q (c + 96) (n + 16000) sg 239 [(0, .ref (b)), (1, .ref (q)), (2, .ref (al 0)), (3, .ref (al 1)), (4, .ref (al 2)), (5, .ref (al 3)), (6, .ref (al 4)), (7, .ref (al 5)), (8, .ref (al 6)), (9, .ref (al 7)), (10, .ref (al 8)), (11, .ref (al 9)), (12, .ref (al 10)), (13, .ref (al 11)), (14, .ref (al 12)), (15, .int (nI (1))), (16, .int (nI (0)))] []) : AW x Q (c) (n) sg 83 [(0, .ref (b)), (1, .ref ((ad 0 0))), (2, .ref (al 0)), (3, .ref (al 1)), (4, .ref (al 2)), (5, .ref (al 3)), (6, .ref (al 4)), (7, .ref (al 5)), (8, .ref (al 6)), (9, .ref (al 7)), (10, .ref (al 8)), (11, .ref (al 9)), (12, .ref (al 10)), (13, .ref (al 11)), (14, .ref (al 12))] [] := by
  have hl := G.1
  have hst := G.2.1
  have hM0 := hM
  have hF : ZFr al sg sg := ZFr.rf
  have z1 : (rmC 9 12 2000).cells = 12 ∧ (rmC 9 12 2000).slots = 2000 := ⟨rfl, rfl⟩
  refine aw_iconst (v := nI 1) C dL_law_83 rfl rfl ?_
  refine aw_istore (ls' := [(15, _), (0, _), (1, _), (2, _), (3, _), (4, _), (5, _), (6, _), (7, _), (8, _), (9, _), (10, _), (11, _), (12, _), (13, _), (14, _)]) C dL_law_84 (by decide) rfl rfl ?_
  refine aw_pick (ls' := [(0, _), (1, _), (2, _), (3, _), (4, _), (5, _), (6, _), (7, _), (8, _), (9, _), (10, _), (11, _), (12, _), (13, _), (14, _), (15, _)]) [1, 2, 3, 4, 5, 6, 7, 8, 9, 10, 11, 12, 13, 14, 15, 0] rfl ?_
  refine aw_iconst (v := nI 0) C dL_law_86 rfl rfl ?_
  refine aw_istore (ls' := [(16, _), (0, _), (1, _), (2, _), (3, _), (4, _), (5, _), (6, _), (7, _), (8, _), (9, _), (10, _), (11, _), (12, _), (13, _), (14, _), (15, _)]) C dL_law_87 (by decide) rfl rfl ?_
  refine aw_pick (ls' := [(0, _), (1, _), (2, _), (3, _), (4, _), (5, _), (6, _), (7, _), (8, _), (9, _), (10, _), (11, _), (12, _), (13, _), (14, _), (15, _), (16, _)]) [1, 2, 3, 4, 5, 6, 7, 8, 9, 10, 11, 12, 13, 14, 15, 16, 0] rfl ?_
  refine aw_iload C dL_law_89 rfl rfl ?_
  refine aw_bipush (v := nI 6) C dL_law_91 rfl rfl ?_
  refine an_icmp_ge (a := 0) (b := 6) (tgt := 187) C dL_law_93 (by decide) (by decide) (by decide) rfl (fun q => absurd (by decide) q) (fun _ => ?_)
  refine aw_iload C dL_law_96 rfl rfl ?_
  refine aw_iconst (v := nI 4) C dL_law_98 rfl rfl ?_
  refine an_icmp_ge (a := 0) (b := 4) (tgt := 110) C dL_law_99 (by decide) (by decide) (by decide) rfl (fun q => absurd (by decide) q) (fun _ => ?_)
  refine aw_bipush (v := nI 30) C dL_law_102 rfl rfl ?_
  refine aw_iload C dL_law_104 rfl rfl ?_
  refine an_add C dL_law_106 rfl ?_
  refine aw_goto (tgt := 117) C dL_law_107 (by decide) ?_
  refine aw_istore (ls' := [(17, _), (0, _), (1, _), (2, _), (3, _), (4, _), (5, _), (6, _), (7, _), (8, _), (9, _), (10, _), (11, _), (12, _), (13, _), (14, _), (15, _), (16, _)]) C dL_law_117 (by decide) rfl rfl ?_
  refine aw_pick (ls' := [(0, _), (1, _), (2, _), (3, _), (4, _), (5, _), (6, _), (7, _), (8, _), (9, _), (10, _), (11, _), (12, _), (13, _), (14, _), (15, _), (16, _), (17, _)]) [1, 2, 3, 4, 5, 6, 7, 8, 9, 10, 11, 12, 13, 14, 15, 16, 17, 0] rfl ?_
  refine aw_aload_n C dL_law_119 rfl rfl rfl ?_
  refine aw_iload C dL_law_120 rfl rfl ?_
  refine aw_sipush (v := nI 360) C dL_law_122 rfl rfl ?_
  refine aw_iload C dL_law_125 rfl rfl ?_
  refine an_mul C dL_law_127 rfl ?_
  refine an_iast (k := 0) (i := 0) (N := 40) (v := 360 * (30 + 0)) C hM hF rfl rfl (by decide) dL_law_128 rfl (fun sg hM hF => ?_)
  refine aw_aload_n C dL_law_129 rfl rfl rfl ?_
  refine aw_bipush (v := nI 8) C dL_law_130 rfl rfl ?_
  refine aw_iload C dL_law_132 rfl rfl ?_
  refine an_add C dL_law_134 rfl ?_
  refine aw_iload C dL_law_135 rfl rfl ?_
  refine aw_iconst (v := nI 2) C dL_law_137 rfl rfl ?_
  refine an_icmp_ne (a := 0) (b := 2) (tgt := 145) C dL_law_138 (by decide) (by decide) (by decide) rfl (fun _ => ?_) (fun q => absurd q (by decide))
  refine aw_iconst (v := nI 0) C dL_law_145 rfl rfl ?_
  refine an_iast (k := 0) (i := 8 + 0) (N := 40) (v := 0) C hM hF rfl rfl (by omega) dL_law_146 rfl (fun sg hM hF => ?_)
  have hM : ZS x.g al (zP 1) sg := hM
  refine aw_iload C dL_law_147 rfl rfl ?_
  refine an_if_eq (a := 1) (tgt := 178) C dL_law_149 (by decide) (by decide) rfl (fun q => absurd q (by decide)) (fun _ => ?_)
  refine aw_aload_n C dL_law_152 rfl rfl rfl ?_
  refine aw_iload C dL_law_153 rfl rfl ?_
  refine aw_iload C dL_law_155 rfl rfl ?_
  refine aw_iconst (v := nI 2) C dL_law_157 rfl rfl ?_
  refine an_icmp_ne (a := 0) (b := 2) (tgt := 165) C dL_law_158 (by decide) (by decide) (by decide) rfl (fun _ => ?_) (fun q => absurd q (by decide))
  refine aw_iconst (v := nI 0) C dL_law_165 rfl rfl ?_
  have hS := hS.keepZ hM0 hF
  refine aw_callV C k_L_156 (F_person G hS (uS_CZ 0).1 (v := nI (pAge 0)) (f := decide (0 = 2))) ⟨by decide, by decide⟩ (ci := 10) rfl hS.O rfl rfl (Nat.le_of_ble_eq_true rfl) (show c + 12 ≤ 707461 by omega) (show n + 2000 ≤ 6979387 by omega) dL_law_166 rfl (fun E s1 hx => absurd (by rw [op_p 0 (by decide)]) hx.1) (fun v1 sg hq => ?_)
  obtain ⟨-, rfl, hC⟩ := hq
  rw [op_p 0 (by decide)] at hC ⊢
  have hM := hM.keepC hS hC.fr
  obtain ⟨ad', Y', hS, e0, -, -, -⟩ := hC
  rw [← e0]
  have hq0 := e0.trans hq0
  have hM0 := hM
  have hF : ZFr al sg sg := ZFr.rf
  refine aw_iload C dL_law_169 rfl rfl ?_
  refine an_icmp_ne (a := 0) (b := 0) (tgt := 178) C dL_law_171 (by decide) (by decide) (by decide) rfl (fun q => absurd (by decide) q) (fun _ => ?_)
  refine aw_iconst (v := nI 1) C dL_law_174 rfl rfl ?_
  refine aw_goto (tgt := 179) C dL_law_175 (by decide) ?_
  refine aw_istore (ls' := [(15, _), (0, _), (1, _), (2, _), (3, _), (4, _), (5, _), (6, _), (7, _), (8, _), (9, _), (10, _), (11, _), (12, _), (13, _), (14, _), (16, _), (17, _)]) C dL_law_179 (by decide) rfl rfl ?_
  refine aw_pick (ls' := [(0, _), (1, _), (2, _), (3, _), (4, _), (5, _), (6, _), (7, _), (8, _), (9, _), (10, _), (11, _), (12, _), (13, _), (14, _), (15, _), (16, _), (17, _)]) [1, 2, 3, 4, 5, 6, 7, 8, 9, 10, 11, 12, 13, 14, 15, 0, 16, 17] rfl ?_
  refine aw_iinc (v' := nI (1)) (ls' := [(16, _), (0, _), (1, _), (2, _), (3, _), (4, _), (5, _), (6, _), (7, _), (8, _), (9, _), (10, _), (11, _), (12, _), (13, _), (14, _), (15, _), (17, _)]) C dL_law_181 rfl (by decide) (nI_add (0) 1) rfl rfl ?_
  refine aw_pick (ls' := [(0, _), (1, _), (2, _), (3, _), (4, _), (5, _), (6, _), (7, _), (8, _), (9, _), (10, _), (11, _), (12, _), (13, _), (14, _), (15, _), (16, _), (17, _)]) [1, 2, 3, 4, 5, 6, 7, 8, 9, 10, 11, 12, 13, 14, 15, 16, 0, 17] rfl ?_
  refine aw_goto (tgt := 89) C dL_law_184 (by decide) ?_
  refine aw_iload C dL_law_89 rfl rfl ?_
  refine aw_bipush (v := nI 6) C dL_law_91 rfl rfl ?_
  refine an_icmp_ge (a := 1) (b := 6) (tgt := 187) C dL_law_93 (by decide) (by decide) (by decide) rfl (fun q => absurd (by decide) q) (fun _ => ?_)
  refine aw_iload C dL_law_96 rfl rfl ?_
  refine aw_iconst (v := nI 4) C dL_law_98 rfl rfl ?_
  refine an_icmp_ge (a := 1) (b := 4) (tgt := 110) C dL_law_99 (by decide) (by decide) (by decide) rfl (fun q => absurd (by decide) q) (fun _ => ?_)
  refine aw_bipush (v := nI 30) C dL_law_102 rfl rfl ?_
  refine aw_iload C dL_law_104 rfl rfl ?_
  refine an_add C dL_law_106 rfl ?_
  refine aw_goto (tgt := 117) C dL_law_107 (by decide) ?_
  refine aw_istore (ls' := [(17, _), (0, _), (1, _), (2, _), (3, _), (4, _), (5, _), (6, _), (7, _), (8, _), (9, _), (10, _), (11, _), (12, _), (13, _), (14, _), (15, _), (16, _)]) C dL_law_117 (by decide) rfl rfl ?_
  refine aw_pick (ls' := [(0, _), (1, _), (2, _), (3, _), (4, _), (5, _), (6, _), (7, _), (8, _), (9, _), (10, _), (11, _), (12, _), (13, _), (14, _), (15, _), (16, _), (17, _)]) [1, 2, 3, 4, 5, 6, 7, 8, 9, 10, 11, 12, 13, 14, 15, 16, 17, 0] rfl ?_
  refine aw_aload_n C dL_law_119 rfl rfl rfl ?_
  refine aw_iload C dL_law_120 rfl rfl ?_
  refine aw_sipush (v := nI 360) C dL_law_122 rfl rfl ?_
  refine aw_iload C dL_law_125 rfl rfl ?_
  refine an_mul C dL_law_127 rfl ?_
  refine an_iast (k := 0) (i := 1) (N := 40) (v := 360 * (30 + 1)) C hM hF rfl rfl (by decide) dL_law_128 rfl (fun sg hM hF => ?_)
  refine aw_aload_n C dL_law_129 rfl rfl rfl ?_
  refine aw_bipush (v := nI 8) C dL_law_130 rfl rfl ?_
  refine aw_iload C dL_law_132 rfl rfl ?_
  refine an_add C dL_law_134 rfl ?_
  refine aw_iload C dL_law_135 rfl rfl ?_
  refine aw_iconst (v := nI 2) C dL_law_137 rfl rfl ?_
  refine an_icmp_ne (a := 1) (b := 2) (tgt := 145) C dL_law_138 (by decide) (by decide) (by decide) rfl (fun _ => ?_) (fun q => absurd q (by decide))
  refine aw_iconst (v := nI 0) C dL_law_145 rfl rfl ?_
  refine an_iast (k := 0) (i := 8 + 1) (N := 40) (v := 0) C hM hF rfl rfl (by omega) dL_law_146 rfl (fun sg hM hF => ?_)
  have hM : ZS x.g al (zP 2) sg := hM
  refine aw_iload C dL_law_147 rfl rfl ?_
  refine an_if_eq (a := 1) (tgt := 178) C dL_law_149 (by decide) (by decide) rfl (fun q => absurd q (by decide)) (fun _ => ?_)
  refine aw_aload_n C dL_law_152 rfl rfl rfl ?_
  refine aw_iload C dL_law_153 rfl rfl ?_
  refine aw_iload C dL_law_155 rfl rfl ?_
  refine aw_iconst (v := nI 2) C dL_law_157 rfl rfl ?_
  refine an_icmp_ne (a := 1) (b := 2) (tgt := 165) C dL_law_158 (by decide) (by decide) (by decide) rfl (fun _ => ?_) (fun q => absurd q (by decide))
  refine aw_iconst (v := nI 0) C dL_law_165 rfl rfl ?_
  have hS := hS.keepZ hM0 hF
  refine aw_callV C k_L_156 (F_person G hS (uS_CZ 1).1 (v := nI (pAge 1)) (f := decide (1 = 2))) ⟨by decide, by decide⟩ (ci := 10) rfl hS.O rfl rfl (Nat.le_of_ble_eq_true rfl) (show (c + 12) + 12 ≤ 707461 by omega) (show (n + 2000) + 2000 ≤ 6979387 by omega) dL_law_166 rfl (fun E s1 hx => absurd (by rw [op_p 1 (by decide)]) hx.1) (fun v1 sg hq => ?_)
  obtain ⟨-, rfl, hC⟩ := hq
  rw [op_p 1 (by decide)] at hC ⊢
  have hM := hM.keepC hS hC.fr
  obtain ⟨ad', Y', hS, e0, -, -, -⟩ := hC
  rw [← e0]
  have hq0 := e0.trans hq0
  have hM0 := hM
  have hF : ZFr al sg sg := ZFr.rf
  refine aw_iload C dL_law_169 rfl rfl ?_
  refine an_icmp_ne (a := 1) (b := 1) (tgt := 178) C dL_law_171 (by decide) (by decide) (by decide) rfl (fun q => absurd (by decide) q) (fun _ => ?_)
  refine aw_iconst (v := nI 1) C dL_law_174 rfl rfl ?_
  refine aw_goto (tgt := 179) C dL_law_175 (by decide) ?_
  refine aw_istore (ls' := [(15, _), (0, _), (1, _), (2, _), (3, _), (4, _), (5, _), (6, _), (7, _), (8, _), (9, _), (10, _), (11, _), (12, _), (13, _), (14, _), (16, _), (17, _)]) C dL_law_179 (by decide) rfl rfl ?_
  refine aw_pick (ls' := [(0, _), (1, _), (2, _), (3, _), (4, _), (5, _), (6, _), (7, _), (8, _), (9, _), (10, _), (11, _), (12, _), (13, _), (14, _), (15, _), (16, _), (17, _)]) [1, 2, 3, 4, 5, 6, 7, 8, 9, 10, 11, 12, 13, 14, 15, 0, 16, 17] rfl ?_
  refine aw_iinc (v' := nI (2)) (ls' := [(16, _), (0, _), (1, _), (2, _), (3, _), (4, _), (5, _), (6, _), (7, _), (8, _), (9, _), (10, _), (11, _), (12, _), (13, _), (14, _), (15, _), (17, _)]) C dL_law_181 rfl (by decide) (nI_add (1) 1) rfl rfl ?_
  refine aw_pick (ls' := [(0, _), (1, _), (2, _), (3, _), (4, _), (5, _), (6, _), (7, _), (8, _), (9, _), (10, _), (11, _), (12, _), (13, _), (14, _), (15, _), (16, _), (17, _)]) [1, 2, 3, 4, 5, 6, 7, 8, 9, 10, 11, 12, 13, 14, 15, 16, 0, 17] rfl ?_
  refine aw_goto (tgt := 89) C dL_law_184 (by decide) ?_
  refine aw_iload C dL_law_89 rfl rfl ?_
  refine aw_bipush (v := nI 6) C dL_law_91 rfl rfl ?_
  refine an_icmp_ge (a := 2) (b := 6) (tgt := 187) C dL_law_93 (by decide) (by decide) (by decide) rfl (fun q => absurd (by decide) q) (fun _ => ?_)
  refine aw_iload C dL_law_96 rfl rfl ?_
  refine aw_iconst (v := nI 4) C dL_law_98 rfl rfl ?_
  refine an_icmp_ge (a := 2) (b := 4) (tgt := 110) C dL_law_99 (by decide) (by decide) (by decide) rfl (fun q => absurd (by decide) q) (fun _ => ?_)
  refine aw_bipush (v := nI 30) C dL_law_102 rfl rfl ?_
  refine aw_iload C dL_law_104 rfl rfl ?_
  refine an_add C dL_law_106 rfl ?_
  refine aw_goto (tgt := 117) C dL_law_107 (by decide) ?_
  refine aw_istore (ls' := [(17, _), (0, _), (1, _), (2, _), (3, _), (4, _), (5, _), (6, _), (7, _), (8, _), (9, _), (10, _), (11, _), (12, _), (13, _), (14, _), (15, _), (16, _)]) C dL_law_117 (by decide) rfl rfl ?_
  refine aw_pick (ls' := [(0, _), (1, _), (2, _), (3, _), (4, _), (5, _), (6, _), (7, _), (8, _), (9, _), (10, _), (11, _), (12, _), (13, _), (14, _), (15, _), (16, _), (17, _)]) [1, 2, 3, 4, 5, 6, 7, 8, 9, 10, 11, 12, 13, 14, 15, 16, 17, 0] rfl ?_
  refine aw_aload_n C dL_law_119 rfl rfl rfl ?_
  refine aw_iload C dL_law_120 rfl rfl ?_
  refine aw_sipush (v := nI 360) C dL_law_122 rfl rfl ?_
  refine aw_iload C dL_law_125 rfl rfl ?_
  refine an_mul C dL_law_127 rfl ?_
  refine an_iast (k := 0) (i := 2) (N := 40) (v := 360 * (30 + 2)) C hM hF rfl rfl (by decide) dL_law_128 rfl (fun sg hM hF => ?_)
  refine aw_aload_n C dL_law_129 rfl rfl rfl ?_
  refine aw_bipush (v := nI 8) C dL_law_130 rfl rfl ?_
  refine aw_iload C dL_law_132 rfl rfl ?_
  refine an_add C dL_law_134 rfl ?_
  refine aw_iload C dL_law_135 rfl rfl ?_
  refine aw_iconst (v := nI 2) C dL_law_137 rfl rfl ?_
  refine an_icmp_ne (a := 2) (b := 2) (tgt := 145) C dL_law_138 (by decide) (by decide) (by decide) rfl (fun q => absurd (by decide) q) (fun _ => ?_)
  refine aw_iconst (v := nI 1) C dL_law_141 rfl rfl ?_
  refine aw_goto (tgt := 146) C dL_law_142 (by decide) ?_
  refine an_iast (k := 0) (i := 8 + 2) (N := 40) (v := 1) C hM hF rfl rfl (by omega) dL_law_146 rfl (fun sg hM hF => ?_)
  have hM : ZS x.g al (zP 3) sg := hM
  refine aw_iload C dL_law_147 rfl rfl ?_
  refine an_if_eq (a := 1) (tgt := 178) C dL_law_149 (by decide) (by decide) rfl (fun q => absurd q (by decide)) (fun _ => ?_)
  refine aw_aload_n C dL_law_152 rfl rfl rfl ?_
  refine aw_iload C dL_law_153 rfl rfl ?_
  refine aw_iload C dL_law_155 rfl rfl ?_
  refine aw_iconst (v := nI 2) C dL_law_157 rfl rfl ?_
  refine an_icmp_ne (a := 2) (b := 2) (tgt := 165) C dL_law_158 (by decide) (by decide) (by decide) rfl (fun q => absurd (by decide) q) (fun _ => ?_)
  refine aw_iconst (v := nI 1) C dL_law_161 rfl rfl ?_
  refine aw_goto (tgt := 166) C dL_law_162 (by decide) ?_
  have hS := hS.keepZ hM0 hF
  refine aw_callV C k_L_156 (F_person G hS (uS_CZ 2).1 (v := nI (pAge 2)) (f := decide (2 = 2))) ⟨by decide, by decide⟩ (ci := 10) rfl hS.O rfl rfl (Nat.le_of_ble_eq_true rfl) (show ((c + 12) + 12) + 12 ≤ 707461 by omega) (show ((n + 2000) + 2000) + 2000 ≤ 6979387 by omega) dL_law_166 rfl (fun E s1 hx => absurd (by rw [op_p 2 (by decide)]) hx.1) (fun v1 sg hq => ?_)
  obtain ⟨-, rfl, hC⟩ := hq
  rw [op_p 2 (by decide)] at hC ⊢
  have hM := hM.keepC hS hC.fr
  obtain ⟨ad', Y', hS, e0, -, -, -⟩ := hC
  rw [← e0]
  have hq0 := e0.trans hq0
  have hM0 := hM
  have hF : ZFr al sg sg := ZFr.rf
  refine aw_iload C dL_law_169 rfl rfl ?_
  refine an_icmp_ne (a := 2) (b := 2) (tgt := 178) C dL_law_171 (by decide) (by decide) (by decide) rfl (fun q => absurd (by decide) q) (fun _ => ?_)
  refine aw_iconst (v := nI 1) C dL_law_174 rfl rfl ?_
  refine aw_goto (tgt := 179) C dL_law_175 (by decide) ?_
  refine aw_istore (ls' := [(15, _), (0, _), (1, _), (2, _), (3, _), (4, _), (5, _), (6, _), (7, _), (8, _), (9, _), (10, _), (11, _), (12, _), (13, _), (14, _), (16, _), (17, _)]) C dL_law_179 (by decide) rfl rfl ?_
  refine aw_pick (ls' := [(0, _), (1, _), (2, _), (3, _), (4, _), (5, _), (6, _), (7, _), (8, _), (9, _), (10, _), (11, _), (12, _), (13, _), (14, _), (15, _), (16, _), (17, _)]) [1, 2, 3, 4, 5, 6, 7, 8, 9, 10, 11, 12, 13, 14, 15, 0, 16, 17] rfl ?_
  refine aw_iinc (v' := nI (3)) (ls' := [(16, _), (0, _), (1, _), (2, _), (3, _), (4, _), (5, _), (6, _), (7, _), (8, _), (9, _), (10, _), (11, _), (12, _), (13, _), (14, _), (15, _), (17, _)]) C dL_law_181 rfl (by decide) (nI_add (2) 1) rfl rfl ?_
  refine aw_pick (ls' := [(0, _), (1, _), (2, _), (3, _), (4, _), (5, _), (6, _), (7, _), (8, _), (9, _), (10, _), (11, _), (12, _), (13, _), (14, _), (15, _), (16, _), (17, _)]) [1, 2, 3, 4, 5, 6, 7, 8, 9, 10, 11, 12, 13, 14, 15, 16, 0, 17] rfl ?_
  refine aw_goto (tgt := 89) C dL_law_184 (by decide) ?_
  refine aw_iload C dL_law_89 rfl rfl ?_
  refine aw_bipush (v := nI 6) C dL_law_91 rfl rfl ?_
  refine an_icmp_ge (a := 3) (b := 6) (tgt := 187) C dL_law_93 (by decide) (by decide) (by decide) rfl (fun q => absurd (by decide) q) (fun _ => ?_)
  refine aw_iload C dL_law_96 rfl rfl ?_
  refine aw_iconst (v := nI 4) C dL_law_98 rfl rfl ?_
  refine an_icmp_ge (a := 3) (b := 4) (tgt := 110) C dL_law_99 (by decide) (by decide) (by decide) rfl (fun q => absurd (by decide) q) (fun _ => ?_)
  refine aw_bipush (v := nI 30) C dL_law_102 rfl rfl ?_
  refine aw_iload C dL_law_104 rfl rfl ?_
  refine an_add C dL_law_106 rfl ?_
  refine aw_goto (tgt := 117) C dL_law_107 (by decide) ?_
  refine aw_istore (ls' := [(17, _), (0, _), (1, _), (2, _), (3, _), (4, _), (5, _), (6, _), (7, _), (8, _), (9, _), (10, _), (11, _), (12, _), (13, _), (14, _), (15, _), (16, _)]) C dL_law_117 (by decide) rfl rfl ?_
  refine aw_pick (ls' := [(0, _), (1, _), (2, _), (3, _), (4, _), (5, _), (6, _), (7, _), (8, _), (9, _), (10, _), (11, _), (12, _), (13, _), (14, _), (15, _), (16, _), (17, _)]) [1, 2, 3, 4, 5, 6, 7, 8, 9, 10, 11, 12, 13, 14, 15, 16, 17, 0] rfl ?_
  refine aw_aload_n C dL_law_119 rfl rfl rfl ?_
  refine aw_iload C dL_law_120 rfl rfl ?_
  refine aw_sipush (v := nI 360) C dL_law_122 rfl rfl ?_
  refine aw_iload C dL_law_125 rfl rfl ?_
  refine an_mul C dL_law_127 rfl ?_
  refine an_iast (k := 0) (i := 3) (N := 40) (v := 360 * (30 + 3)) C hM hF rfl rfl (by decide) dL_law_128 rfl (fun sg hM hF => ?_)
  refine aw_aload_n C dL_law_129 rfl rfl rfl ?_
  refine aw_bipush (v := nI 8) C dL_law_130 rfl rfl ?_
  refine aw_iload C dL_law_132 rfl rfl ?_
  refine an_add C dL_law_134 rfl ?_
  refine aw_iload C dL_law_135 rfl rfl ?_
  refine aw_iconst (v := nI 2) C dL_law_137 rfl rfl ?_
  refine an_icmp_ne (a := 3) (b := 2) (tgt := 145) C dL_law_138 (by decide) (by decide) (by decide) rfl (fun _ => ?_) (fun q => absurd q (by decide))
  refine aw_iconst (v := nI 0) C dL_law_145 rfl rfl ?_
  refine an_iast (k := 0) (i := 8 + 3) (N := 40) (v := 0) C hM hF rfl rfl (by omega) dL_law_146 rfl (fun sg hM hF => ?_)
  have hM : ZS x.g al (zP 4) sg := hM
  refine aw_iload C dL_law_147 rfl rfl ?_
  refine an_if_eq (a := 1) (tgt := 178) C dL_law_149 (by decide) (by decide) rfl (fun q => absurd q (by decide)) (fun _ => ?_)
  refine aw_aload_n C dL_law_152 rfl rfl rfl ?_
  refine aw_iload C dL_law_153 rfl rfl ?_
  refine aw_iload C dL_law_155 rfl rfl ?_
  refine aw_iconst (v := nI 2) C dL_law_157 rfl rfl ?_
  refine an_icmp_ne (a := 3) (b := 2) (tgt := 165) C dL_law_158 (by decide) (by decide) (by decide) rfl (fun _ => ?_) (fun q => absurd q (by decide))
  refine aw_iconst (v := nI 0) C dL_law_165 rfl rfl ?_
  have hS := hS.keepZ hM0 hF
  refine aw_callV C k_L_156 (F_person G hS (uS_CZ 3).1 (v := nI (pAge 3)) (f := decide (3 = 2))) ⟨by decide, by decide⟩ (ci := 10) rfl hS.O rfl rfl (Nat.le_of_ble_eq_true rfl) (show (((c + 12) + 12) + 12) + 12 ≤ 707461 by omega) (show (((n + 2000) + 2000) + 2000) + 2000 ≤ 6979387 by omega) dL_law_166 rfl (fun E s1 hx => absurd (by rw [op_p 3 (by decide)]) hx.1) (fun v1 sg hq => ?_)
  obtain ⟨-, rfl, hC⟩ := hq
  rw [op_p 3 (by decide)] at hC ⊢
  have hM := hM.keepC hS hC.fr
  obtain ⟨ad', Y', hS, e0, -, -, -⟩ := hC
  rw [← e0]
  have hq0 := e0.trans hq0
  have hM0 := hM
  have hF : ZFr al sg sg := ZFr.rf
  refine aw_iload C dL_law_169 rfl rfl ?_
  refine an_icmp_ne (a := 3) (b := 3) (tgt := 178) C dL_law_171 (by decide) (by decide) (by decide) rfl (fun q => absurd (by decide) q) (fun _ => ?_)
  refine aw_iconst (v := nI 1) C dL_law_174 rfl rfl ?_
  refine aw_goto (tgt := 179) C dL_law_175 (by decide) ?_
  refine aw_istore (ls' := [(15, _), (0, _), (1, _), (2, _), (3, _), (4, _), (5, _), (6, _), (7, _), (8, _), (9, _), (10, _), (11, _), (12, _), (13, _), (14, _), (16, _), (17, _)]) C dL_law_179 (by decide) rfl rfl ?_
  refine aw_pick (ls' := [(0, _), (1, _), (2, _), (3, _), (4, _), (5, _), (6, _), (7, _), (8, _), (9, _), (10, _), (11, _), (12, _), (13, _), (14, _), (15, _), (16, _), (17, _)]) [1, 2, 3, 4, 5, 6, 7, 8, 9, 10, 11, 12, 13, 14, 15, 0, 16, 17] rfl ?_
  refine aw_iinc (v' := nI (4)) (ls' := [(16, _), (0, _), (1, _), (2, _), (3, _), (4, _), (5, _), (6, _), (7, _), (8, _), (9, _), (10, _), (11, _), (12, _), (13, _), (14, _), (15, _), (17, _)]) C dL_law_181 rfl (by decide) (nI_add (3) 1) rfl rfl ?_
  refine aw_pick (ls' := [(0, _), (1, _), (2, _), (3, _), (4, _), (5, _), (6, _), (7, _), (8, _), (9, _), (10, _), (11, _), (12, _), (13, _), (14, _), (15, _), (16, _), (17, _)]) [1, 2, 3, 4, 5, 6, 7, 8, 9, 10, 11, 12, 13, 14, 15, 16, 0, 17] rfl ?_
  refine aw_goto (tgt := 89) C dL_law_184 (by decide) ?_
  refine aw_iload C dL_law_89 rfl rfl ?_
  refine aw_bipush (v := nI 6) C dL_law_91 rfl rfl ?_
  refine an_icmp_ge (a := 4) (b := 6) (tgt := 187) C dL_law_93 (by decide) (by decide) (by decide) rfl (fun q => absurd (by decide) q) (fun _ => ?_)
  refine aw_iload C dL_law_96 rfl rfl ?_
  refine aw_iconst (v := nI 4) C dL_law_98 rfl rfl ?_
  refine an_icmp_ge (a := 4) (b := 4) (tgt := 110) C dL_law_99 (by decide) (by decide) (by decide) rfl (fun _ => ?_) (fun q => absurd q (by decide))
  refine aw_bipush (v := nI 17) C dL_law_110 rfl rfl ?_
  refine aw_iload C dL_law_112 rfl rfl ?_
  refine aw_iconst (v := nI 2) C dL_law_114 rfl rfl ?_
  refine an_rem C (by decide) (by decide) (by decide) dL_law_115 rfl ?_
  refine an_sub C (by omega) dL_law_116 rfl ?_
  refine aw_istore (ls' := [(17, _), (0, _), (1, _), (2, _), (3, _), (4, _), (5, _), (6, _), (7, _), (8, _), (9, _), (10, _), (11, _), (12, _), (13, _), (14, _), (15, _), (16, _)]) C dL_law_117 (by decide) rfl rfl ?_
  refine aw_pick (ls' := [(0, _), (1, _), (2, _), (3, _), (4, _), (5, _), (6, _), (7, _), (8, _), (9, _), (10, _), (11, _), (12, _), (13, _), (14, _), (15, _), (16, _), (17, _)]) [1, 2, 3, 4, 5, 6, 7, 8, 9, 10, 11, 12, 13, 14, 15, 16, 17, 0] rfl ?_
  refine aw_aload_n C dL_law_119 rfl rfl rfl ?_
  refine aw_iload C dL_law_120 rfl rfl ?_
  refine aw_sipush (v := nI 360) C dL_law_122 rfl rfl ?_
  refine aw_iload C dL_law_125 rfl rfl ?_
  refine an_mul C dL_law_127 rfl ?_
  refine an_iast (k := 0) (i := 4) (N := 40) (v := 360 * (17 - (4 % 2))) C hM hF rfl rfl (by decide) dL_law_128 rfl (fun sg hM hF => ?_)
  refine aw_aload_n C dL_law_129 rfl rfl rfl ?_
  refine aw_bipush (v := nI 8) C dL_law_130 rfl rfl ?_
  refine aw_iload C dL_law_132 rfl rfl ?_
  refine an_add C dL_law_134 rfl ?_
  refine aw_iload C dL_law_135 rfl rfl ?_
  refine aw_iconst (v := nI 2) C dL_law_137 rfl rfl ?_
  refine an_icmp_ne (a := 4) (b := 2) (tgt := 145) C dL_law_138 (by decide) (by decide) (by decide) rfl (fun _ => ?_) (fun q => absurd q (by decide))
  refine aw_iconst (v := nI 0) C dL_law_145 rfl rfl ?_
  refine an_iast (k := 0) (i := 8 + 4) (N := 40) (v := 0) C hM hF rfl rfl (by omega) dL_law_146 rfl (fun sg hM hF => ?_)
  have hM : ZS x.g al (zP 5) sg := hM
  refine aw_iload C dL_law_147 rfl rfl ?_
  refine an_if_eq (a := 1) (tgt := 178) C dL_law_149 (by decide) (by decide) rfl (fun q => absurd q (by decide)) (fun _ => ?_)
  refine aw_aload_n C dL_law_152 rfl rfl rfl ?_
  refine aw_iload C dL_law_153 rfl rfl ?_
  refine aw_iload C dL_law_155 rfl rfl ?_
  refine aw_iconst (v := nI 2) C dL_law_157 rfl rfl ?_
  refine an_icmp_ne (a := 4) (b := 2) (tgt := 165) C dL_law_158 (by decide) (by decide) (by decide) rfl (fun _ => ?_) (fun q => absurd q (by decide))
  refine aw_iconst (v := nI 0) C dL_law_165 rfl rfl ?_
  have hS := hS.keepZ hM0 hF
  refine aw_callV C k_L_156 (F_person G hS (uS_CZ 4).1 (v := nI (pAge 4)) (f := decide (4 = 2))) ⟨by decide, by decide⟩ (ci := 10) rfl hS.O rfl rfl (Nat.le_of_ble_eq_true rfl) (show ((((c + 12) + 12) + 12) + 12) + 12 ≤ 707461 by omega) (show ((((n + 2000) + 2000) + 2000) + 2000) + 2000 ≤ 6979387 by omega) dL_law_166 rfl (fun E s1 hx => absurd (by rw [op_p 4 (by decide)]) hx.1) (fun v1 sg hq => ?_)
  obtain ⟨-, rfl, hC⟩ := hq
  rw [op_p 4 (by decide)] at hC ⊢
  have hM := hM.keepC hS hC.fr
  obtain ⟨ad', Y', hS, e0, -, -, -⟩ := hC
  rw [← e0]
  have hq0 := e0.trans hq0
  have hM0 := hM
  have hF : ZFr al sg sg := ZFr.rf
  refine aw_iload C dL_law_169 rfl rfl ?_
  refine an_icmp_ne (a := 4) (b := 4) (tgt := 178) C dL_law_171 (by decide) (by decide) (by decide) rfl (fun q => absurd (by decide) q) (fun _ => ?_)
  refine aw_iconst (v := nI 1) C dL_law_174 rfl rfl ?_
  refine aw_goto (tgt := 179) C dL_law_175 (by decide) ?_
  refine aw_istore (ls' := [(15, _), (0, _), (1, _), (2, _), (3, _), (4, _), (5, _), (6, _), (7, _), (8, _), (9, _), (10, _), (11, _), (12, _), (13, _), (14, _), (16, _), (17, _)]) C dL_law_179 (by decide) rfl rfl ?_
  refine aw_pick (ls' := [(0, _), (1, _), (2, _), (3, _), (4, _), (5, _), (6, _), (7, _), (8, _), (9, _), (10, _), (11, _), (12, _), (13, _), (14, _), (15, _), (16, _), (17, _)]) [1, 2, 3, 4, 5, 6, 7, 8, 9, 10, 11, 12, 13, 14, 15, 0, 16, 17] rfl ?_
  refine aw_iinc (v' := nI (5)) (ls' := [(16, _), (0, _), (1, _), (2, _), (3, _), (4, _), (5, _), (6, _), (7, _), (8, _), (9, _), (10, _), (11, _), (12, _), (13, _), (14, _), (15, _), (17, _)]) C dL_law_181 rfl (by decide) (nI_add (4) 1) rfl rfl ?_
  refine aw_pick (ls' := [(0, _), (1, _), (2, _), (3, _), (4, _), (5, _), (6, _), (7, _), (8, _), (9, _), (10, _), (11, _), (12, _), (13, _), (14, _), (15, _), (16, _), (17, _)]) [1, 2, 3, 4, 5, 6, 7, 8, 9, 10, 11, 12, 13, 14, 15, 16, 0, 17] rfl ?_
  refine aw_goto (tgt := 89) C dL_law_184 (by decide) ?_
  refine aw_iload C dL_law_89 rfl rfl ?_
  refine aw_bipush (v := nI 6) C dL_law_91 rfl rfl ?_
  refine an_icmp_ge (a := 5) (b := 6) (tgt := 187) C dL_law_93 (by decide) (by decide) (by decide) rfl (fun q => absurd (by decide) q) (fun _ => ?_)
  refine aw_iload C dL_law_96 rfl rfl ?_
  refine aw_iconst (v := nI 4) C dL_law_98 rfl rfl ?_
  refine an_icmp_ge (a := 5) (b := 4) (tgt := 110) C dL_law_99 (by decide) (by decide) (by decide) rfl (fun _ => ?_) (fun q => absurd q (by decide))
  refine aw_bipush (v := nI 17) C dL_law_110 rfl rfl ?_
  refine aw_iload C dL_law_112 rfl rfl ?_
  refine aw_iconst (v := nI 2) C dL_law_114 rfl rfl ?_
  refine an_rem C (by decide) (by decide) (by decide) dL_law_115 rfl ?_
  refine an_sub C (by omega) dL_law_116 rfl ?_
  refine aw_istore (ls' := [(17, _), (0, _), (1, _), (2, _), (3, _), (4, _), (5, _), (6, _), (7, _), (8, _), (9, _), (10, _), (11, _), (12, _), (13, _), (14, _), (15, _), (16, _)]) C dL_law_117 (by decide) rfl rfl ?_
  refine aw_pick (ls' := [(0, _), (1, _), (2, _), (3, _), (4, _), (5, _), (6, _), (7, _), (8, _), (9, _), (10, _), (11, _), (12, _), (13, _), (14, _), (15, _), (16, _), (17, _)]) [1, 2, 3, 4, 5, 6, 7, 8, 9, 10, 11, 12, 13, 14, 15, 16, 17, 0] rfl ?_
  refine aw_aload_n C dL_law_119 rfl rfl rfl ?_
  refine aw_iload C dL_law_120 rfl rfl ?_
  refine aw_sipush (v := nI 360) C dL_law_122 rfl rfl ?_
  refine aw_iload C dL_law_125 rfl rfl ?_
  refine an_mul C dL_law_127 rfl ?_
  refine an_iast (k := 0) (i := 5) (N := 40) (v := 360 * (17 - (5 % 2))) C hM hF rfl rfl (by decide) dL_law_128 rfl (fun sg hM hF => ?_)
  refine aw_aload_n C dL_law_129 rfl rfl rfl ?_
  refine aw_bipush (v := nI 8) C dL_law_130 rfl rfl ?_
  refine aw_iload C dL_law_132 rfl rfl ?_
  refine an_add C dL_law_134 rfl ?_
  refine aw_iload C dL_law_135 rfl rfl ?_
  refine aw_iconst (v := nI 2) C dL_law_137 rfl rfl ?_
  refine an_icmp_ne (a := 5) (b := 2) (tgt := 145) C dL_law_138 (by decide) (by decide) (by decide) rfl (fun _ => ?_) (fun q => absurd q (by decide))
  refine aw_iconst (v := nI 0) C dL_law_145 rfl rfl ?_
  refine an_iast (k := 0) (i := 8 + 5) (N := 40) (v := 0) C hM hF rfl rfl (by omega) dL_law_146 rfl (fun sg hM hF => ?_)
  have hM : ZS x.g al (zP 6) sg := hM
  refine aw_iload C dL_law_147 rfl rfl ?_
  refine an_if_eq (a := 1) (tgt := 178) C dL_law_149 (by decide) (by decide) rfl (fun q => absurd q (by decide)) (fun _ => ?_)
  refine aw_aload_n C dL_law_152 rfl rfl rfl ?_
  refine aw_iload C dL_law_153 rfl rfl ?_
  refine aw_iload C dL_law_155 rfl rfl ?_
  refine aw_iconst (v := nI 2) C dL_law_157 rfl rfl ?_
  refine an_icmp_ne (a := 5) (b := 2) (tgt := 165) C dL_law_158 (by decide) (by decide) (by decide) rfl (fun _ => ?_) (fun q => absurd q (by decide))
  refine aw_iconst (v := nI 0) C dL_law_165 rfl rfl ?_
  have hS := hS.keepZ hM0 hF
  refine aw_callV C k_L_156 (F_person G hS (uS_CZ 5).1 (v := nI (pAge 5)) (f := decide (5 = 2))) ⟨by decide, by decide⟩ (ci := 10) rfl hS.O rfl rfl (Nat.le_of_ble_eq_true rfl) (show (((((c + 12) + 12) + 12) + 12) + 12) + 12 ≤ 707461 by omega) (show (((((n + 2000) + 2000) + 2000) + 2000) + 2000) + 2000 ≤ 6979387 by omega) dL_law_166 rfl (fun E s1 hx => absurd (by rw [op_p 5 (by decide)]) hx.1) (fun v1 sg hq => ?_)
  obtain ⟨-, rfl, hC⟩ := hq
  rw [op_p 5 (by decide)] at hC ⊢
  have hM := hM.keepC hS hC.fr
  obtain ⟨ad', Y', hS, e0, -, -, -⟩ := hC
  rw [← e0]
  have hq0 := e0.trans hq0
  have hM0 := hM
  have hF : ZFr al sg sg := ZFr.rf
  refine aw_iload C dL_law_169 rfl rfl ?_
  refine an_icmp_ne (a := 5) (b := 5) (tgt := 178) C dL_law_171 (by decide) (by decide) (by decide) rfl (fun q => absurd (by decide) q) (fun _ => ?_)
  refine aw_iconst (v := nI 1) C dL_law_174 rfl rfl ?_
  refine aw_goto (tgt := 179) C dL_law_175 (by decide) ?_
  refine aw_istore (ls' := [(15, _), (0, _), (1, _), (2, _), (3, _), (4, _), (5, _), (6, _), (7, _), (8, _), (9, _), (10, _), (11, _), (12, _), (13, _), (14, _), (16, _), (17, _)]) C dL_law_179 (by decide) rfl rfl ?_
  refine aw_pick (ls' := [(0, _), (1, _), (2, _), (3, _), (4, _), (5, _), (6, _), (7, _), (8, _), (9, _), (10, _), (11, _), (12, _), (13, _), (14, _), (15, _), (16, _), (17, _)]) [1, 2, 3, 4, 5, 6, 7, 8, 9, 10, 11, 12, 13, 14, 15, 0, 16, 17] rfl ?_
  refine aw_iinc (v' := nI (6)) (ls' := [(16, _), (0, _), (1, _), (2, _), (3, _), (4, _), (5, _), (6, _), (7, _), (8, _), (9, _), (10, _), (11, _), (12, _), (13, _), (14, _), (15, _), (17, _)]) C dL_law_181 rfl (by decide) (nI_add (5) 1) rfl rfl ?_
  refine aw_pick (ls' := [(0, _), (1, _), (2, _), (3, _), (4, _), (5, _), (6, _), (7, _), (8, _), (9, _), (10, _), (11, _), (12, _), (13, _), (14, _), (15, _), (16, _), (17, _)]) [1, 2, 3, 4, 5, 6, 7, 8, 9, 10, 11, 12, 13, 14, 15, 16, 0, 17] rfl ?_
  refine aw_goto (tgt := 89) C dL_law_184 (by decide) ?_
  refine aw_iload C dL_law_89 rfl rfl ?_
  refine aw_bipush (v := nI 6) C dL_law_91 rfl rfl ?_
  refine an_icmp_ge (a := 6) (b := 6) (tgt := 187) C dL_law_93 (by decide) (by decide) (by decide) rfl (fun _ => ?_) (fun q => absurd q (by decide))
  refine aw_aload C dL_law_187 rfl rfl ?_
  refine aw_iconst (v := nI 0) C dL_law_189 rfl rfl ?_
  refine aw_ldc2 (v := lN PARTS) C dL_law_190 q_L_77 rfl ?_
  refine an_last (i := 0) (v := PARTS) C hM hF (by decide) dL_law_193 rfl (fun sg hM hF => ?_)
  refine aw_aload C dL_law_194 rfl rfl ?_
  refine aw_bipush (v := nI 8) C dL_law_196 rfl rfl ?_
  refine aw_ldc2 (v := lN PARTS) C dL_law_198 q_L_77 rfl ?_
  refine an_last (i := 8) (v := PARTS) C hM hF (by decide) dL_law_201 rfl (fun sg hM hF => ?_)
  refine aw_iload C dL_law_202 rfl rfl ?_
  refine an_if_eq (a := 1) (tgt := 233) C dL_law_204 (by decide) (by decide) rfl (fun q => absurd q (by decide)) (fun _ => ?_)
  refine aw_aload_n C dL_law_207 rfl rfl rfl ?_
  refine aw_iconst (v := nI 0) C dL_law_208 rfl rfl ?_
  refine aw_sipush (v := nI 999) C dL_law_209 rfl rfl ?_
  have hS := hS.keepZ hM0 hF
  refine aw_callV C k_L_160 (F_thing G hS (uS_CZ 6).1 (v := nI 0) (w := nI 999)) ⟨by decide, by decide⟩ (ci := 10) rfl hS.O rfl rfl (Nat.le_of_ble_eq_true rfl) (show ((((((c + 12) + 12) + 12) + 12) + 12) + 12) + 12 ≤ 707461 by omega) (show ((((((n + 2000) + 2000) + 2000) + 2000) + 2000) + 2000) + 2000 ≤ 6979387 by omega) dL_law_212 rfl (fun E s1 hx => absurd (by rw [op_t0]) hx.1) (fun v1 sg hq => ?_)
  obtain ⟨-, rfl, hC⟩ := hq
  rw [op_t0] at hC ⊢
  have hM := hM.keepC hS hC.fr
  obtain ⟨ad', Y', hS, e0, -, -, -⟩ := hC
  rw [← e0]
  have hq0 := e0.trans hq0
  have hM0 := hM
  have hF : ZFr al sg sg := ZFr.rf
  refine an_if_ne (a := 0) (tgt := 233) C dL_law_215 (by decide) (by decide) rfl (fun q => absurd (by decide) q) (fun _ => ?_)
  refine aw_aload_n C dL_law_218 rfl rfl rfl ?_
  refine aw_iconst (v := nI 1) C dL_law_219 rfl rfl ?_
  refine aw_ldc (v := nI 54321) C dL_law_220 q_L_88 rfl ?_
  have hS := hS.keepZ hM0 hF
  refine aw_callV C k_L_160 (F_thing G hS (uS_CZ 7).1 (v := nI 1) (w := nI 54321)) ⟨by decide, by decide⟩ (ci := 10) rfl hS.O rfl rfl (Nat.le_of_ble_eq_true rfl) (show (((((((c + 12) + 12) + 12) + 12) + 12) + 12) + 12) + 12 ≤ 707461 by omega) (show (((((((n + 2000) + 2000) + 2000) + 2000) + 2000) + 2000) + 2000) + 2000 ≤ 6979387 by omega) dL_law_222 rfl (fun E s1 hx => absurd (by rw [op_t1]) hx.1) (fun v1 sg hq => ?_)
  obtain ⟨-, rfl, hC⟩ := hq
  rw [op_t1] at hC ⊢
  have hM := hM.keepC hS hC.fr
  obtain ⟨ad', Y', hS, e0, -, -, -⟩ := hC
  rw [← e0]
  have hq0 := e0.trans hq0
  have hM0 := hM
  have hF : ZFr al sg sg := ZFr.rf
  refine aw_iconst (v := nI 1) C dL_law_225 rfl rfl ?_
  refine an_icmp_ne (a := 1) (b := 1) (tgt := 233) C dL_law_226 (by decide) (by decide) (by decide) rfl (fun q => absurd (by decide) q) (fun _ => ?_)
  refine aw_iconst (v := nI 1) C dL_law_229 rfl rfl ?_
  refine aw_goto (tgt := 234) C dL_law_230 (by decide) ?_
  refine aw_istore (ls' := [(15, _), (0, _), (1, _), (2, _), (3, _), (4, _), (5, _), (6, _), (7, _), (8, _), (9, _), (10, _), (11, _), (12, _), (13, _), (14, _), (16, _), (17, _)]) C dL_law_234 (by decide) rfl rfl ?_
  refine aw_pick (ls' := [(0, _), (1, _), (2, _), (3, _), (4, _), (5, _), (6, _), (7, _), (8, _), (9, _), (10, _), (11, _), (12, _), (13, _), (14, _), (15, _), (16, _), (17, _)]) [1, 2, 3, 4, 5, 6, 7, 8, 9, 10, 11, 12, 13, 14, 15, 0, 16, 17] rfl ?_
  refine aw_iconst (v := nI 0) C dL_law_236 rfl rfl ?_
  refine aw_istore (ls' := [(16, _), (0, _), (1, _), (2, _), (3, _), (4, _), (5, _), (6, _), (7, _), (8, _), (9, _), (10, _), (11, _), (12, _), (13, _), (14, _), (15, _), (17, _)]) C dL_law_237 (by decide) rfl rfl ?_
  refine aw_pick (ls' := [(0, _), (1, _), (2, _), (3, _), (4, _), (5, _), (6, _), (7, _), (8, _), (9, _), (10, _), (11, _), (12, _), (13, _), (14, _), (15, _), (16, _), (17, _)]) [1, 2, 3, 4, 5, 6, 7, 8, 9, 10, 11, 12, 13, 14, 15, 16, 0, 17] rfl ?_
  have hS := hS.keepZ hM0 hF
  refine aw_pick (ls' := [(0, _), (1, _), (2, _), (3, _), (4, _), (5, _), (6, _), (7, _), (8, _), (9, _), (10, _), (11, _), (12, _), (13, _), (14, _), (15, _), (16, _)]) [0, 1, 2, 3, 4, 5, 6, 7, 8, 9, 10, 11, 12, 13, 14, 15, 16] rfl ?_
  rw [hq0]
  exact aw_widen (by omega) (by omega) (next sg ⟨ad', uS 8, Y', zF, hS, hq0, hM, uS_CZ 8, ZR.first, ZKu.first, Nat.zero_le _, Nat.zero_le _⟩)
