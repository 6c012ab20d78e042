/-! acts: its cases walked -/
def n_rvt_708_s0 (L : ZU) (d : Nat) (told : Bool) : Nat := (if (L.1 5 d) / 4 = 0 then 8 else (if ((L.1 5 d) / 4) = 1 then 4 else 0))
def n_rvt_742_s0 (L : ZU) (d : Nat) (told : Bool) : Bool := (if 0 < (L.1 5 d) / 4 then true else false)
def n_rvf_708_s0 (L : ZU) (d : Nat) (told : Bool) : Nat := (if (L.1 5 d) / 4 = 0 then 4 else (if ((L.1 5 d) / 4) = 1 then 0 else 0))
def n_rvf_742_s0 (L : ZU) (d : Nat) (told : Bool) : Bool := (if 0 < (L.1 5 d) / 4 then true else false)
theorem dec11 : decide (nI 1 = (1 : Int32)) = true := by decide
theorem dec01 : decide (nI 0 = (1 : Int32)) = false := by decide
set_option maxRecDepth 100000 in
theorem A_add {x : Cx} {ez : Nat} (G : GOK x.g x.l ez) (C : AWC x cL_acts 21 RL rmA (some .boolean)) {ad : Nat → Nat → Nat} {u : MU} {Y : GS} {L : ZU} {al : Nat → Nat} {sg0 : Sg} {m : Nat} (hS : CS x.g ez ad u Y sg0) (hM : ZS x.g al L sg0) (hZ : CZ m u) (hR : ZR L u) (hK : ZKu u) (hT0 : L.1 10 0 ≤ 400 * m) (hT4 : L.1 10 4 ≤ 6000 * m) (hm : m ≤ 130) {d one act : Nat} (hd : d < L.1 10 1) (ho : one < 6) {part : Nat} (hpt : part = 4 ∨ part = 16) : AW x (RQ x (ZA x.g ez al (ad 0 0) (m + 1)) noX 60 12000) 0 0 sg0 238 [(0, .ref ((ad 0 0))), (1, .int (nI (act))), (3, .ref (al 0)), (4, .ref (al 1)), (5, .ref (al 2)), (6, .ref (al 3)), (7, .ref (al 4)), (8, .ref (al 5)), (9, .ref (al 6)), (10, .ref (al 7)), (11, .ref (al 8)), (12, .ref (al 9)), (13, .ref (al 10)), (14, .ref (al 11)), (15, .ref (al 12)), (16, .int (nI (d))), (17, .int (nI (one))), (18, .int (nI (part)))] [] := by
  have hl := G.1
  have hst := G.2.1
  have hB := hR.B
  have hM0 := hM
  have hF : ZFr al sg0 sg0 := ZFr.rf
  have hd24 : d < 24 := Nat.lt_of_lt_of_le hd hR.nd.2
  have hI := hZ.1
  have hN29 : m < 2 ^ 29 := by omega
  have hc := hR.hc
  have hp30 : part < 2 ^ 30 := by omega
  refine aw_aload C dL_acts_238 rfl rfl ?_
  refine aw_iload C dL_acts_240 rfl rfl ?_
  refine an_iald (k := 5) (i := d) (N := 24) (v := (L.1 5 d)) C hM rfl rfl (by omega) rfl dL_acts_242 rfl ?_
  refine aw_iconst (v := nI 4) C dL_acts_243 rfl rfl ?_
  refine an_rem C (by have := hB 5 d; omega) (by decide) (by decide) dL_acts_244 rfl ?_
  have K264_1 : AW x (RQ x (ZA x.g ez al (ad 0 0) (m + 1)) noX 60 12000) 0 0 sg0 264 [(0, .ref ((ad 0 0))), (7, .ref (al 4)), (16, .int (nI (d))), (18, .int (nI (part)))] [.int (b2i ((n_add_264_s0 L d part)))] := by
    refine aw_istore (ls' := [(19, _), (0, _), (7, _), (16, _), (18, _)]) C dL_acts_264 (by decide) rfl rfl ?_
    refine aw_pick (ls' := [(0, _), (7, _), (16, _), (18, _), (19, _)]) [1, 2, 3, 4, 0] rfl ?_
    refine aw_aload C dL_acts_266 rfl rfl ?_
    refine aw_iload C dL_acts_268 rfl rfl ?_
    refine aw_dup2 C dL_acts_270 rfl rfl rfl ?_
    refine an_iald (k := 4) (i := d) (N := 24) (v := (L.1 4 d)) C hM rfl rfl (by omega) rfl dL_acts_271 rfl ?_
    refine aw_iload C dL_acts_272 rfl rfl ?_
    have K283_2 : AW x (RQ x (ZA x.g ez al (ad 0 0) (m + 1)) noX 60 12000) 0 0 sg0 283 [(0, .ref ((ad 0 0))), (7, .ref (al 4)), (16, .int (nI (d))), (18, .int (nI (part))), (19, .int (b2i ((n_add_264_s0 L d part))))] [.int (nI ((n_add_283_s0 L d part))), .int (nI ((L.1 4 d))), .int (nI (d)), .ref (al 4)] := by
      have q283s0 : (n_add_283_s0 L d part) < 2 ^ 30 := by unfold n_add_283_s0; split <;> omega
      refine an_or C dL_acts_283 rfl ?_
      refine an_iast (k := 4) (i := d) (N := 24) (v := (L.1 4 d) ||| (n_add_283_s0 L d part)) C hM hF rfl rfl (by omega) dL_acts_284 rfl (fun sg hM hF => ?_)
      refine aw_aload_n C dL_acts_285 rfl rfl rfl ?_
      refine aw_iconst (v := nI 4) C dL_acts_286 rfl rfl ?_
      refine aw_iload C dL_acts_287 rfl rfl ?_
      refine aw_iload C dL_acts_289 rfl rfl ?_
      refine aw_iconst (v := nI 0) C dL_acts_291 rfl rfl ?_
      refine aw_iconst (v := nI 0) C dL_acts_292 rfl rfl ?_
      refine aw_iconst (v := nI 0) C dL_acts_293 rfl rfl ?_
      refine aw_iconst (v := nI 0) C dL_acts_294 rfl rfl ?_
      have hS := hS.keepZ hM0 hF
      refine aw_callSW C kL_calls (H_add G hS hI (a := nI (d)) (b := nI (part)) (c := nI (0)) (d := nI (0)) (e := nI (0)) (f := nI (0)) (r_add hZ hR hd hpt).1) ⟨by decide, by decide⟩ rfl rfl (Nat.le_of_ble_eq_true rfl) (Nat.le_of_ble_eq_true rfl) (Nat.le_of_ble_eq_true rfl) dL_acts_295 rfl (fun _ _ q => ax_no q) (fun v1 sg hq => ?_)
      obtain ⟨rfl, hC⟩ := hq
      have hM := hM.keepC hS hC.fr
      obtain ⟨ad', Y', hS1, e0, -, -, -⟩ := hC
      refine aw_iload C dL_acts_298 rfl rfl ?_
      have K317_3 : AW x (RQ x (ZA x.g ez al (ad 0 0) (m + 1)) noX 60 12000) (0 + rmK.cells) (0 + rmK.slots) sg 317 [] [.int ((n_add_317_s0 L d part)), .int ((opr (opAdd u (nI d) (nI part))))] := by
        refine aw_icmp_ne (tgt := 324) C dL_acts_317 (by decide) rfl (fun q => absurd (r_add hZ hR hd hpt).2.1 q) (fun _ => ?_)
        refine aw_iconst (v := nI 1) C dL_acts_320 rfl rfl ?_
        refine aw_goto (tgt := 325) C dL_acts_321 (by decide) ?_
        exact aw_iret C rfl (Nat.le_of_ble_eq_true rfl) (Nat.le_of_ble_eq_true rfl) ⟨rfl, ad', _, Y', _, hS1, e0, hM, hZ.add.next, (r_add hZ hR hd hpt).2.2, hK.add, (by rw [zI_k (by decide)]; omega), (by rw [zI_k (by decide)]; omega)⟩ dL_acts_325
      refine an_bif_eq (z := (n_add_264_s0 L d part)) (tgt := 314) C dL_acts_300 (by decide) rfl (fun c300 => ?_) (fun c300 => ?_)
      · refine aw_sipush (v := -1003) C dL_acts_314 rfl rfl ?_
        refine aw_pick (ls' := []) [] rfl ?_
        have k9 := K317_3
        rw [show (n_add_317_s0 L d part) = (-1003) from by rw [n_add_317_s0, if_neg c300]] at k9
        exact k9
      · refine aw_aload C dL_acts_303 rfl rfl ?_
        refine aw_iload C dL_acts_305 rfl rfl ?_
        refine an_iald (k := 4) (i := d) (N := 24) (v := ((L.1 4 d) ||| (n_add_283_s0 L d part))) C hM rfl rfl (by omega) zI_s dL_acts_307 rfl ?_
        refine aw_bipush (v := nI 32) C dL_acts_308 rfl rfl ?_
        refine an_rem C (by have := hB 4 d; have := @Nat.or_lt_two_pow (L.1 4 d) (n_add_283_s0 L d part) 30 (by have := hB 4 d; omega) (by omega); omega) (by decide) (by decide) dL_acts_310 rfl ?_
        refine aw_goto (tgt := 317) C dL_acts_311 (by decide) ?_
        refine aw_pick (ls' := []) [] rfl ?_
        have k9 := K317_3
        rw [show (n_add_317_s0 L d part) = (nI (((L.1 4 d) ||| (n_add_283_s0 L d part)) % 32)) from by rw [n_add_317_s0, if_pos c300]] at k9
        exact k9
    refine an_bif_eq (z := (n_add_264_s0 L d part)) (tgt := 282) C dL_acts_274 (by decide) rfl (fun c274 => ?_) (fun c274 => ?_)
    · refine aw_iconst (v := nI 0) C dL_acts_282 rfl rfl ?_
      have k9 := K283_2
      rw [show (n_add_283_s0 L d part) = 0 from by rw [n_add_283_s0, if_neg c274]] at k9
      exact k9
    · refine aw_iload C dL_acts_277 rfl rfl ?_
      refine aw_goto (tgt := 283) C dL_acts_279 (by decide) ?_
      have k9 := K283_2
      rw [show (n_add_283_s0 L d part) = part from by rw [n_add_283_s0, if_pos c274]] at k9
      exact k9
  refine an_if_ne (a := (L.1 5 d) % 4) (tgt := 263) C dL_acts_245 (by have := hB 5 d; omega) (by decide) rfl (fun c245 => ?_) (fun c245 => ?_)
  · refine aw_iconst (v := nI 0) C dL_acts_263 rfl rfl ?_
    refine aw_pick (ls' := [(0, _), (7, _), (16, _), (18, _)]) [0, 6, 15, 17] rfl ?_
    have k9 := K264_1
    rw [show (n_add_264_s0 L d part) = false from by rw [n_add_264_s0, if_neg c245]] at k9
    exact k9
  · refine aw_aload C dL_acts_248 rfl rfl ?_
    refine aw_iload C dL_acts_250 rfl rfl ?_
    refine an_iald (k := 4) (i := d) (N := 24) (v := (L.1 4 d)) C hM rfl rfl (by omega) rfl dL_acts_252 rfl ?_
    refine aw_iload C dL_acts_253 rfl rfl ?_
    refine an_and C dL_acts_255 rfl ?_
    refine an_if_ne (a := (L.1 4 d) &&& part) (tgt := 263) C dL_acts_256 (by have := hB 4 d; have := @Nat.and_le_left (L.1 4 d) part; omega) (by decide) rfl (fun c256 => ?_) (fun c256 => ?_)
    · refine aw_iconst (v := nI 0) C dL_acts_263 rfl rfl ?_
      refine aw_pick (ls' := [(0, _), (7, _), (16, _), (18, _)]) [0, 6, 15, 17] rfl ?_
      have k9 := K264_1
      rw [show (n_add_264_s0 L d part) = false from by rw [n_add_264_s0, if_pos c245, if_neg c256]] at k9
      exact k9
    · refine aw_iconst (v := nI 1) C dL_acts_259 rfl rfl ?_
      refine aw_goto (tgt := 264) C dL_acts_260 (by decide) ?_
      refine aw_pick (ls' := [(0, _), (7, _), (16, _), (18, _)]) [0, 6, 15, 17] rfl ?_
      have k9 := K264_1
      rw [show (n_add_264_s0 L d part) = true from by rw [n_add_264_s0, if_pos c245, if_pos c256]] at k9
      exact k9
set_option maxRecDepth 100000 in
theorem A_witness {x : Cx} {ez : Nat} (G : GOK x.g x.l ez) (C : AWC x cL_acts 21 RL rmA (some .boolean)) {ad : Nat → Nat → Nat} {u : MU} {Y : GS} {L : ZU} {al : Nat → Nat} {sg0 : Sg} {m : Nat} (hS : CS x.g ez ad u Y sg0) (hM : ZS x.g al L sg0) (hZ : CZ m u) (hR : ZR L u) (hK : ZKu u) (hT0 : L.1 10 0 ≤ 400 * m) (hT4 : L.1 10 4 ≤ 6000 * m) (hm : m ≤ 130) {d one act : Nat} (hd : d < L.1 10 1) (ho : one < 6)   : AW x (RQ x (ZA x.g ez al (ad 0 0) (m + 1)) noX 60 12000) 0 0 sg0 332 [(0, .ref ((ad 0 0))), (1, .int (nI (act))), (3, .ref (al 0)), (4, .ref (al 1)), (5, .ref (al 2)), (6, .ref (al 3)), (7, .ref (al 4)), (8, .ref (al 5)), (9, .ref (al 6)), (10, .ref (al 7)), (11, .ref (al 8)), (12, .ref (al 9)), (13, .ref (al 10)), (14, .ref (al 11)), (15, .ref (al 12)), (16, .int (nI (d))), (17, .int (nI (one)))] [] := by
  have hl := G.1
  have hst := G.2.1
  have hB := hR.B
  have hM0 := hM
  have hF : ZFr al sg0 sg0 := ZFr.rf
  have hd24 : d < 24 := Nat.lt_of_lt_of_le hd hR.nd.2
  have hI := hZ.1
  have hN29 : m < 2 ^ 29 := by omega
  have hc := hR.hc
  refine aw_aload C dL_acts_332 rfl rfl ?_
  refine aw_iload C dL_acts_334 rfl rfl ?_
  refine an_iald (k := 1) (i := d) (N := 24) (v := (L.1 1 d)) C hM rfl rfl (by omega) rfl dL_acts_336 rfl ?_
  refine aw_bipush (v := nI 8) C dL_acts_337 rfl rfl ?_
  refine an_div C (by have := hB 1 d; omega) (by decide) (by decide) dL_acts_339 rfl ?_
  refine aw_bipush (v := nI 8) C dL_acts_340 rfl rfl ?_
  refine an_rem C (by have := hB 1 d; omega) (by decide) (by decide) dL_acts_342 rfl ?_
  refine aw_istore (ls' := [(18, _), (0, _), (1, _), (3, _), (4, _), (5, _), (6, _), (7, _), (8, _), (9, _), (10, _), (11, _), (12, _), (13, _), (14, _), (15, _), (16, _), (17, _)]) C dL_acts_343 (by decide) rfl rfl ?_
  refine aw_pick (ls' := [(0, _), (1, _), (3, _), (4, _), (5, _), (6, _), (7, _), (8, _), (9, _), (10, _), (11, _), (12, _), (13, _), (14, _), (15, _), (16, _), (17, _), (18, _)]) [1, 2, 3, 4, 5, 6, 7, 8, 9, 10, 11, 12, 13, 14, 15, 16, 17, 0] rfl ?_
  refine aw_aload C dL_acts_345 rfl rfl ?_
  refine aw_iload C dL_acts_347 rfl rfl ?_
  refine an_iald (k := 1) (i := d) (N := 24) (v := (L.1 1 d)) C hM rfl rfl (by omega) rfl dL_acts_349 rfl ?_
  refine aw_bipush (v := nI 64) C dL_acts_350 rfl rfl ?_
  refine an_div C (by have := hB 1 d; omega) (by decide) (by decide) dL_acts_352 rfl ?_
  refine aw_bipush (v := nI 8) C dL_acts_353 rfl rfl ?_
  refine an_rem C (by have := hB 1 d; omega) (by decide) (by decide) dL_acts_355 rfl ?_
  refine aw_istore (ls' := [(19, _), (0, _), (1, _), (3, _), (4, _), (5, _), (6, _), (7, _), (8, _), (9, _), (10, _), (11, _), (12, _), (13, _), (14, _), (15, _), (16, _), (17, _), (18, _)]) C dL_acts_356 (by decide) rfl rfl ?_
  refine aw_pick (ls' := [(0, _), (1, _), (3, _), (4, _), (5, _), (6, _), (7, _), (8, _), (9, _), (10, _), (11, _), (12, _), (13, _), (14, _), (15, _), (16, _), (17, _), (18, _), (19, _)]) [1, 2, 3, 4, 5, 6, 7, 8, 9, 10, 11, 12, 13, 14, 15, 16, 17, 18, 0] rfl ?_
  refine aw_aload C dL_acts_358 rfl rfl ?_
  refine aw_iload C dL_acts_360 rfl rfl ?_
  refine an_iald (k := 5) (i := d) (N := 24) (v := (L.1 5 d)) C hM rfl rfl (by omega) rfl dL_acts_362 rfl ?_
  refine aw_iconst (v := nI 4) C dL_acts_363 rfl rfl ?_
  refine an_rem C (by have := hB 5 d; omega) (by decide) (by decide) dL_acts_364 rfl ?_
  have K435_1 : AW x (RQ x (ZA x.g ez al (ad 0 0) (m + 1)) noX 60 12000) 0 0 sg0 435 [(0, .ref ((ad 0 0))), (7, .ref (al 4)), (16, .int (nI (d))), (17, .int (nI (one)))] [.int (b2i ((n_witness_435_s0 L d one)))] := by
    refine aw_istore (ls' := [(20, _), (0, _), (7, _), (16, _), (17, _)]) C dL_acts_435 (by decide) rfl rfl ?_
    refine aw_pick (ls' := [(0, _), (7, _), (16, _), (17, _), (20, _)]) [1, 2, 3, 4, 0] rfl ?_
    refine aw_aload C dL_acts_437 rfl rfl ?_
    refine aw_iload C dL_acts_439 rfl rfl ?_
    refine aw_dup2 C dL_acts_441 rfl rfl rfl ?_
    refine an_iald (k := 4) (i := d) (N := 24) (v := (L.1 4 d)) C hM rfl rfl (by omega) rfl dL_acts_442 rfl ?_
    refine aw_iload C dL_acts_443 rfl rfl ?_
    have K465_2 : AW x (RQ x (ZA x.g ez al (ad 0 0) (m + 1)) noX 60 12000) 0 0 sg0 465 [(0, .ref ((ad 0 0))), (7, .ref (al 4)), (16, .int (nI (d))), (17, .int (nI (one))), (20, .int (b2i ((n_witness_435_s0 L d one))))] [.int (nI ((n_witness_465_s0 L d one))), .int (nI ((L.1 4 d))), .int (nI (d)), .ref (al 4)] := by
      have q465s0 : (n_witness_465_s0 L d one) ≤ 8 := by unfold n_witness_465_s0; (repeat' split) <;> (have := hB 4 d; omega)
      refine an_or C dL_acts_465 rfl ?_
      refine an_iast (k := 4) (i := d) (N := 24) (v := (L.1 4 d) ||| (n_witness_465_s0 L d one)) C hM hF rfl rfl (by omega) dL_acts_466 rfl (fun sg hM hF => ?_)
      refine aw_aload C dL_acts_467 rfl rfl ?_
      refine aw_iload C dL_acts_469 rfl rfl ?_
      refine aw_dup2 C dL_acts_471 rfl rfl rfl ?_
      refine an_iald (k := 4) (i := d) (N := 24) (v := ((L.1 4 d) ||| (n_witness_465_s0 L d one))) C hM rfl rfl (by omega) zI_s dL_acts_472 rfl ?_
      refine aw_iload C dL_acts_473 rfl rfl ?_
      have K487_3 : AW x (RQ x (ZA x.g ez al (ad 0 0) (m + 1)) noX 60 12000) 0 0 sg 487 [(0, .ref ((ad 0 0))), (7, .ref (al 4)), (16, .int (nI (d))), (17, .int (nI (one))), (20, .int (b2i ((n_witness_435_s0 L d one))))] [.int (nI ((n_witness_487_s0 L d one))), .int (nI (((L.1 4 d) ||| (n_witness_465_s0 L d one)))), .int (nI (d)), .ref (al 4)] := by
        refine an_or C dL_acts_487 rfl ?_
        refine an_iast (k := 4) (i := d) (N := 24) (v := ((L.1 4 d) ||| (n_witness_465_s0 L d one)) ||| (n_witness_487_s0 L d one)) C hM hF rfl rfl (by omega) dL_acts_488 rfl (fun sg hM hF => ?_)
        refine aw_aload_n C dL_acts_489 rfl rfl rfl ?_
        refine aw_iconst (v := nI 5) C dL_acts_490 rfl rfl ?_
        refine aw_iload C dL_acts_491 rfl rfl ?_
        refine aw_iload C dL_acts_493 rfl rfl ?_
        refine aw_iconst (v := nI 0) C dL_acts_495 rfl rfl ?_
        refine aw_iconst (v := nI 0) C dL_acts_496 rfl rfl ?_
        refine aw_iconst (v := nI 0) C dL_acts_497 rfl rfl ?_
        refine aw_iconst (v := nI 0) C dL_acts_498 rfl rfl ?_
        have hS := hS.keepZ hM0 hF
        refine aw_callSW C kL_calls (H_witness G hS hI (a := nI (d)) (b := nI (one)) (c := nI (0)) (d := nI (0)) (e := nI (0)) (f := nI (0)) (r_witness hZ hR hd ho).1) ⟨by decide, by decide⟩ rfl rfl (Nat.le_of_ble_eq_true rfl) (Nat.le_of_ble_eq_true rfl) (Nat.le_of_ble_eq_true rfl) dL_acts_499 rfl (fun _ _ q => ax_no q) (fun v1 sg hq => ?_)
        obtain ⟨rfl, hC⟩ := hq
        have hM := hM.keepC hS hC.fr
        obtain ⟨ad', Y', hS1, e0, -, -, -⟩ := hC
        refine aw_iload C dL_acts_502 rfl rfl ?_
        have K521_4 : AW x (RQ x (ZA x.g ez al (ad 0 0) (m + 1)) noX 60 12000) (0 + rmK.cells) (0 + rmK.slots) sg 521 [] [.int ((n_witness_521_s0 L d one)), .int ((opr (opWitness u (nI d) (nI one))))] := by
          refine aw_icmp_ne (tgt := 528) C dL_acts_521 (by decide) rfl (fun q => absurd (r_witness hZ hR hd ho).2.1 q) (fun _ => ?_)
          refine aw_iconst (v := nI 1) C dL_acts_524 rfl rfl ?_
          refine aw_goto (tgt := 529) C dL_acts_525 (by decide) ?_
          exact aw_iret C rfl (Nat.le_of_ble_eq_true rfl) (Nat.le_of_ble_eq_true rfl) ⟨rfl, ad', _, Y', _, hS1, e0, hM, hZ.witness.next, (r_witness hZ hR hd ho).2.2, hK.witness, (by rw [zI_k (by decide), zI_k (by decide)]; omega), (by rw [zI_k (by decide), zI_k (by decide)]; omega)⟩ dL_acts_529
        refine an_bif_eq (z := (n_witness_435_s0 L d one)) (tgt := 518) C dL_acts_504 (by decide) rfl (fun c504 => ?_) (fun c504 => ?_)
        · refine aw_sipush (v := -1003) C dL_acts_518 rfl rfl ?_
          refine aw_pick (ls' := []) [] rfl ?_
          have k9 := K521_4
          rw [show (n_witness_521_s0 L d one) = (-1003) from by rw [n_witness_521_s0, if_neg c504]] at k9
          exact k9
        · refine aw_aload C dL_acts_507 rfl rfl ?_
          refine aw_iload C dL_acts_509 rfl rfl ?_
          refine an_iald (k := 4) (i := d) (N := 24) (v := (((L.1 4 d) ||| (n_witness_465_s0 L d one)) ||| (n_witness_487_s0 L d one))) C hM rfl rfl (by omega) zI_s dL_acts_511 rfl ?_
          refine aw_bipush (v := nI 32) C dL_acts_512 rfl rfl ?_
          refine an_rem C (r_wit_lt hR hd ho) (by decide) (by decide) dL_acts_514 rfl ?_
          refine aw_goto (tgt := 521) C dL_acts_515 (by decide) ?_
          refine aw_pick (ls' := []) [] rfl ?_
          have k9 := K521_4
          rw [show (n_witness_521_s0 L d one) = (nI ((((L.1 4 d) ||| (n_witness_465_s0 L d one)) ||| (n_witness_487_s0 L d one)) % 32)) from by rw [n_witness_521_s0, if_pos c504]] at k9
          exact k9
      refine an_bif_eq (z := (n_witness_435_s0 L d one)) (tgt := 486) C dL_acts_475 (by decide) rfl (fun c475 => ?_) (fun c475 => ?_)
      · refine aw_iconst (v := nI 0) C dL_acts_486 rfl rfl ?_
        have k9 := K487_3
        rw [show (n_witness_487_s0 L d one) = 0 from by rw [n_witness_487_s0, if_neg c475]] at k9
        exact k9
      · refine aw_bipush (v := nI 32) C dL_acts_478 rfl rfl ?_
        refine aw_iload C dL_acts_480 rfl rfl ?_
        refine an_shl C (by omega) (pow_32 ho) dL_acts_482 rfl ?_
        refine aw_goto (tgt := 487) C dL_acts_483 (by decide) ?_
        have k9 := K487_3
        rw [show (n_witness_487_s0 L d one) = 32 * 2 ^ one from by rw [n_witness_487_s0, if_pos c475]] at k9
        exact k9
    refine an_bif_eq (z := (n_witness_435_s0 L d one)) (tgt := 464) C dL_acts_445 (by decide) rfl (fun c445 => ?_) (fun c445 => ?_)
    · refine aw_iconst (v := nI 0) C dL_acts_464 rfl rfl ?_
      have k9 := K465_2
      rw [show (n_witness_465_s0 L d one) = 0 from by rw [n_witness_465_s0, if_neg c445]] at k9
      exact k9
    · refine aw_aload C dL_acts_448 rfl rfl ?_
      refine aw_iload C dL_acts_450 rfl rfl ?_
      refine an_iald (k := 4) (i := d) (N := 24) (v := (L.1 4 d)) C hM rfl rfl (by omega) rfl dL_acts_452 rfl ?_
      refine aw_bipush (v := nI 32) C dL_acts_453 rfl rfl ?_
      refine an_div C (by have := hB 4 d; omega) (by decide) (by decide) dL_acts_455 rfl ?_
      refine an_if_le (a := (L.1 4 d) / 32) (tgt := 464) C dL_acts_456 (by have := hB 4 d; omega) (by decide) rfl (fun c456 => ?_) (fun c456 => ?_)
      · refine aw_iconst (v := nI 0) C dL_acts_464 rfl rfl ?_
        have k9 := K465_2
        rw [show (n_witness_465_s0 L d one) = 0 from by rw [n_witness_465_s0, if_pos c445, if_neg c456]] at k9
        exact k9
      · refine aw_bipush (v := nI 8) C dL_acts_459 rfl rfl ?_
        refine aw_goto (tgt := 465) C dL_acts_461 (by decide) ?_
        have k9 := K465_2
        rw [show (n_witness_465_s0 L d one) = 8 from by rw [n_witness_465_s0, if_pos c445, if_pos c456]] at k9
        exact k9
  refine an_if_ne (a := (L.1 5 d) % 4) (tgt := 434) C dL_acts_365 (by have := hB 5 d; omega) (by decide) rfl (fun c365 => ?_) (fun c365 => ?_)
  · refine aw_iconst (v := nI 0) C dL_acts_434 rfl rfl ?_
    refine aw_pick (ls' := [(0, _), (7, _), (16, _), (17, _)]) [0, 6, 15, 16] rfl ?_
    have k9 := K435_1
    rw [show (n_witness_435_s0 L d one) = false from by rw [n_witness_435_s0, if_neg c365]] at k9
    exact k9
  · refine aw_iload C dL_acts_368 rfl rfl ?_
    refine aw_aload_n C dL_acts_370 rfl rfl rfl ?_
    refine aw_aload C dL_acts_371 rfl rfl ?_
    refine cw_callSp C k_L_69 (N_able hl hst hM hB (x0 := one) (by omega)) ⟨by decide, by decide⟩ rfl rfl (Nat.le_of_ble_eq_true rfl) (Nat.le_of_ble_eq_true rfl) (Nat.le_of_ble_eq_true rfl) dL_acts_373 rfl ?_
    refine an_bif_eq (z := (n_able L one)) (tgt := 434) C dL_acts_376 (by decide) rfl (fun c376 => ?_) (fun c376 => ?_)
    · refine aw_iconst (v := nI 0) C dL_acts_434 rfl rfl ?_
      refine aw_pick (ls' := [(0, _), (7, _), (16, _), (17, _)]) [0, 6, 15, 16] rfl ?_
      have k9 := K435_1
      rw [show (n_witness_435_s0 L d one) = false from by rw [n_witness_435_s0, if_pos c365, if_neg c376]] at k9
      exact k9
    · refine aw_iload C dL_acts_379 rfl rfl ?_
      refine aw_iload C dL_acts_381 rfl rfl ?_
      refine an_icmp_eq (a := one) (b := ((L.1 1 d) / 8) % 8) (tgt := 434) C dL_acts_383 (by omega) (by have := hB 1 d; omega) (by decide) rfl (fun c383 => ?_) (fun c383 => ?_)
      · refine aw_iconst (v := nI 0) C dL_acts_434 rfl rfl ?_
        refine aw_pick (ls' := [(0, _), (7, _), (16, _), (17, _)]) [0, 6, 15, 16] rfl ?_
        have k9 := K435_1
        rw [show (n_witness_435_s0 L d one) = false from by rw [n_witness_435_s0, if_pos c365, if_pos c376, if_pos c383]] at k9
        exact k9
      · refine aw_iload C dL_acts_386 rfl rfl ?_
        refine aw_iload C dL_acts_388 rfl rfl ?_
        refine an_icmp_eq (a := one) (b := ((L.1 1 d) / 64) % 8) (tgt := 434) C dL_acts_390 (by omega) (by have := hB 1 d; omega) (by decide) rfl (fun c390 => ?_) (fun c390 => ?_)
        · refine aw_iconst (v := nI 0) C dL_acts_434 rfl rfl ?_
          refine aw_pick (ls' := [(0, _), (7, _), (16, _), (17, _)]) [0, 6, 15, 16] rfl ?_
          have k9 := K435_1
          rw [show (n_witness_435_s0 L d one) = false from by rw [n_witness_435_s0, if_pos c365, if_pos c376, if_neg c383, if_pos c390]] at k9
          exact k9
        · refine aw_iload C dL_acts_393 rfl rfl ?_
          refine aw_iload C dL_acts_395 rfl rfl ?_
          refine aw_aload_n C dL_acts_397 rfl rfl rfl ?_
          refine cw_callSp C k_L_89 (N_kin hl hst hM hB (x0 := one) (y0 := ((L.1 1 d) / 8) % 8) (by omega) (by have := hB 1 d; omega)) ⟨by decide, by decide⟩ rfl rfl (Nat.le_of_ble_eq_true rfl) (Nat.le_of_ble_eq_true rfl) (Nat.le_of_ble_eq_true rfl) dL_acts_398 rfl ?_
          refine an_bif_ne (z := (n_kin L one (((L.1 1 d) / 8) % 8))) (tgt := 434) C dL_acts_401 (by decide) rfl (fun c401 => ?_) (fun c401 => ?_)
          · refine aw_iconst (v := nI 0) C dL_acts_434 rfl rfl ?_
            refine aw_pick (ls' := [(0, _), (7, _), (16, _), (17, _)]) [0, 6, 15, 16] rfl ?_
            have k9 := K435_1
            rw [show (n_witness_435_s0 L d one) = false from by rw [n_witness_435_s0, if_pos c365, if_pos c376, if_neg c383, if_neg c390, if_pos c401]] at k9
            exact k9
          · refine aw_iload C dL_acts_404 rfl rfl ?_
            refine aw_iload C dL_acts_406 rfl rfl ?_
            refine aw_aload_n C dL_acts_408 rfl rfl rfl ?_
            refine cw_callSp C k_L_89 (N_kin hl hst hM hB (x0 := one) (y0 := ((L.1 1 d) / 64) % 8) (by omega) (by have := hB 1 d; omega)) ⟨by decide, by decide⟩ rfl rfl (Nat.le_of_ble_eq_true rfl) (Nat.le_of_ble_eq_true rfl) (Nat.le_of_ble_eq_true rfl) dL_acts_409 rfl ?_
            refine an_bif_ne (z := (n_kin L one (((L.1 1 d) / 64) % 8))) (tgt := 434) C dL_acts_412 (by decide) rfl (fun c412 => ?_) (fun c412 => ?_)
            · refine aw_iconst (v := nI 0) C dL_acts_434 rfl rfl ?_
              refine aw_pick (ls' := [(0, _), (7, _), (16, _), (17, _)]) [0, 6, 15, 16] rfl ?_
              have k9 := K435_1
              rw [show (n_witness_435_s0 L d one) = false from by rw [n_witness_435_s0, if_pos c365, if_pos c376, if_neg c383, if_neg c390, if_neg c401, if_pos c412]] at k9
              exact k9
            · refine aw_aload C dL_acts_415 rfl rfl ?_
              refine aw_iload C dL_acts_417 rfl rfl ?_
              refine an_iald (k := 4) (i := d) (N := 24) (v := (L.1 4 d)) C hM rfl rfl (by omega) rfl dL_acts_419 rfl ?_
              refine aw_iconst (v := nI 5) C dL_acts_420 rfl rfl ?_
              refine aw_iload C dL_acts_421 rfl rfl ?_
              refine an_add C dL_acts_423 rfl ?_
              refine an_shr C (by omega) (by have := hB 4 d; omega) dL_acts_424 rfl ?_
              refine aw_iconst (v := nI 1) C dL_acts_425 rfl rfl ?_
              refine an_and1 C dL_acts_426 rfl ?_
              refine an_if_ne (a := ((L.1 4 d) / 2 ^ (5 + one)) % 2) (tgt := 434) C dL_acts_427 (by have := hB 4 d; omega) (by decide) rfl (fun c427 => ?_) (fun c427 => ?_)
              · refine aw_iconst (v := nI 0) C dL_acts_434 rfl rfl ?_
                refine aw_pick (ls' := [(0, _), (7, _), (16, _), (17, _)]) [0, 6, 15, 16] rfl ?_
                have k9 := K435_1
                rw [show (n_witness_435_s0 L d one) = false from by rw [n_witness_435_s0, if_pos c365, if_pos c376, if_neg c383, if_neg c390, if_neg c401, if_neg c412, if_neg c427]] at k9
                exact k9
              · refine aw_iconst (v := nI 1) C dL_acts_430 rfl rfl ?_
                refine aw_goto (tgt := 435) C dL_acts_431 (by decide) ?_
                refine aw_pick (ls' := [(0, _), (7, _), (16, _), (17, _)]) [0, 6, 15, 16] rfl ?_
                have k9 := K435_1
                rw [show (n_witness_435_s0 L d one) = true from by rw [n_witness_435_s0, if_pos c365, if_pos c376, if_neg c383, if_neg c390, if_neg c401, if_neg c412, if_pos c427]] at k9
                exact k9
set_option maxRecDepth 100000 in
theorem A_copy {x : Cx} {ez : Nat} (G : GOK x.g x.l ez) (C : AWC x cL_acts 21 RL rmA (some .boolean)) {ad : Nat → Nat → Nat} {u : MU} {Y : GS} {L : ZU} {al : Nat → Nat} {sg0 : Sg} {m : Nat} (hS : CS x.g ez ad u Y sg0) (hM : ZS x.g al L sg0) (hZ : CZ m u) (hR : ZR L u) (hK : ZKu u) (hT0 : L.1 10 0 ≤ 400 * m) (hT4 : L.1 10 4 ≤ 6000 * m) (hm : m ≤ 130) {d one act : Nat} (hd : d < L.1 10 1) (ho : one < 6)   : AW x (RQ x (ZA x.g ez al (ad 0 0) (m + 1)) noX 60 12000) 0 0 sg0 757 [(0, .ref ((ad 0 0))), (1, .int (nI (act))), (3, .ref (al 0)), (4, .ref (al 1)), (5, .ref (al 2)), (6, .ref (al 3)), (7, .ref (al 4)), (8, .ref (al 5)), (9, .ref (al 6)), (10, .ref (al 7)), (11, .ref (al 8)), (12, .ref (al 9)), (13, .ref (al 10)), (14, .ref (al 11)), (15, .ref (al 12)), (16, .int (nI (d))), (17, .int (nI (one)))] [] := by
  have hl := G.1
  have hst := G.2.1
  have hB := hR.B
  have hM0 := hM
  have hF : ZFr al sg0 sg0 := ZFr.rf
  have hd24 : d < 24 := Nat.lt_of_lt_of_le hd hR.nd.2
  have hI := hZ.1
  have hN29 : m < 2 ^ 29 := by omega
  have hc := hR.hc
  refine aw_aload C dL_acts_757 rfl rfl ?_
  refine aw_iload C dL_acts_759 rfl rfl ?_
  refine an_iald (k := 9) (i := d) (N := 24) (v := (L.1 9 d)) C hM rfl rfl (by omega) rfl dL_acts_761 rfl ?_
  refine cw_callSp C k_L_79 (N_least hl hst (p := (L.1 9 d)) (by have := hB 9 d; omega)) ⟨by decide, by decide⟩ rfl rfl (Nat.le_of_ble_eq_true rfl) (Nat.le_of_ble_eq_true rfl) (Nat.le_of_ble_eq_true rfl) dL_acts_762 rfl ?_
  rw [n_least_k]
  refine aw_iconst (v := nI 1) C dL_acts_765 rfl rfl ?_
  refine aw_iadd C dL_acts_766 rfl ?_
  rw [nI_k1]
  refine aw_istore (ls' := [(18, _), (0, _), (1, _), (3, _), (4, _), (5, _), (6, _), (7, _), (8, _), (9, _), (10, _), (11, _), (12, _), (13, _), (14, _), (15, _), (16, _), (17, _)]) C dL_acts_767 (by decide) rfl rfl ?_
  refine aw_pick (ls' := [(0, _), (1, _), (3, _), (4, _), (5, _), (6, _), (7, _), (8, _), (9, _), (10, _), (11, _), (12, _), (13, _), (14, _), (15, _), (16, _), (17, _), (18, _)]) [1, 2, 3, 4, 5, 6, 7, 8, 9, 10, 11, 12, 13, 14, 15, 16, 17, 0] rfl ?_
  refine aw_iload C dL_acts_769 rfl rfl ?_
  refine aw_bipush (v := nI 7) C dL_acts_771 rfl rfl ?_
  refine an_icmp_le (a := n_lst (L.1 9 d)) (b := 7) (tgt := 778) C dL_acts_773 (by have := hB 9 d; have := n_lst_le (p := L.1 9 d); omega) (by decide) (by decide) rfl (fun c773 => ?_) (fun c773 => ?_)
  · refine aw_iload C dL_acts_778 rfl rfl ?_
    have K800_1 : AW x (RQ x (ZA x.g ez al (ad 0 0) (m + 1)) noX 60 12000) 0 0 sg0 800 [(0, .ref ((ad 0 0))), (12, .ref (al 9)), (16, .int (nI (d))), (18, .int (nI (n_lst (L.1 9 d))))] [.int (b2i ((n_copy_800_s0 L d)))] := by
      refine aw_istore (ls' := [(19, _), (0, _), (12, _), (16, _), (18, _)]) C dL_acts_800 (by decide) rfl rfl ?_
      refine aw_pick (ls' := [(0, _), (12, _), (16, _), (18, _), (19, _)]) [1, 2, 3, 4, 0] rfl ?_
      refine aw_aload C dL_acts_802 rfl rfl ?_
      refine aw_iload C dL_acts_804 rfl rfl ?_
      refine aw_dup2 C dL_acts_806 rfl rfl rfl ?_
      refine an_iald (k := 9) (i := d) (N := 24) (v := (L.1 9 d)) C hM rfl rfl (by omega) rfl dL_acts_807 rfl ?_
      refine aw_iload C dL_acts_808 rfl rfl ?_
      have K823_2 : AW x (RQ x (ZA x.g ez al (ad 0 0) (m + 1)) noX 60 12000) 0 0 sg0 823 [(0, .ref ((ad 0 0))), (16, .int (nI (d))), (18, .int (nI (n_lst (L.1 9 d)))), (19, .int (b2i ((n_copy_800_s0 L d))))] [.int (nI ((n_copy_823_s0 L d))), .int (nI ((L.1 9 d))), .int (nI (d)), .ref (al 9)] := by
        refine an_add C dL_acts_823 rfl ?_
        refine an_iast (k := 9) (i := d) (N := 24) (v := (L.1 9 d) + (n_copy_823_s0 L d)) C hM hF rfl rfl (by omega) dL_acts_824 rfl (fun sg hM hF => ?_)
        refine aw_aload_n C dL_acts_825 rfl rfl rfl ?_
        refine aw_bipush (v := nI 8) C dL_acts_826 rfl rfl ?_
        refine aw_iload C dL_acts_828 rfl rfl ?_
        refine aw_iconst (v := nI 0) C dL_acts_830 rfl rfl ?_
        refine aw_iconst (v := nI 0) C dL_acts_831 rfl rfl ?_
        refine aw_iconst (v := nI 0) C dL_acts_832 rfl rfl ?_
        refine aw_iconst (v := nI 0) C dL_acts_833 rfl rfl ?_
        refine aw_iconst (v := nI 0) C dL_acts_834 rfl rfl ?_
        have hS := hS.keepZ hM0 hF
        refine aw_callSW C kL_calls (H_copy G hS hI (a := nI (d)) (b := nI (0)) (c := nI (0)) (d := nI (0)) (e := nI (0)) (f := nI (0)) (r_copy hZ hN29 hR hd (by omega)).1) ⟨by decide, by decide⟩ rfl rfl (Nat.le_of_ble_eq_true rfl) (Nat.le_of_ble_eq_true rfl) (Nat.le_of_ble_eq_true rfl) dL_acts_835 rfl (fun _ _ q => ax_no q) (fun v1 sg hq => ?_)
        obtain ⟨rfl, hC⟩ := hq
        have hM := hM.keepC hS hC.fr
        obtain ⟨ad', Y', hS1, e0, -, -, -⟩ := hC
        refine aw_iload C dL_acts_838 rfl rfl ?_
        have K851_3 : AW x (RQ x (ZA x.g ez al (ad 0 0) (m + 1)) noX 60 12000) (0 + rmK.cells) (0 + rmK.slots) sg 851 [] [.int ((n_copy_851_s0 L d)), .int ((opr (opCopy u (nI d))))] := by
          refine aw_icmp_ne (tgt := 858) C dL_acts_851 (by decide) rfl (fun q => absurd (r_copy hZ hN29 hR hd (by omega)).2.1 q) (fun _ => ?_)
          refine aw_iconst (v := nI 1) C dL_acts_854 rfl rfl ?_
          refine aw_goto (tgt := 859) C dL_acts_855 (by decide) ?_
          exact aw_iret C rfl (Nat.le_of_ble_eq_true rfl) (Nat.le_of_ble_eq_true rfl) ⟨rfl, ad', _, Y', _, hS1, e0, hM, (CZ.copy hN29 hZ).next, (r_copy hZ hN29 hR hd (by omega)).2.2, hK.copy, (by rw [zI_k (by decide)]; omega), (by rw [zI_k (by decide)]; omega)⟩ dL_acts_859
        refine an_bif_eq (z := (n_copy_800_s0 L d)) (tgt := 848) C dL_acts_840 (by decide) rfl (fun c840 => ?_) (fun c840 => ?_)
        · refine aw_sipush (v := -1003) C dL_acts_848 rfl rfl ?_
          refine aw_pick (ls' := []) [] rfl ?_
          have k9 := K851_3
          rw [show (n_copy_851_s0 L d) = (-1003) from by rw [n_copy_851_s0, if_neg c840]] at k9
          exact k9
        · refine aw_iload C dL_acts_843 rfl rfl ?_
          refine aw_goto (tgt := 851) C dL_acts_845 (by decide) ?_
          refine aw_pick (ls' := []) [] rfl ?_
          have k9 := K851_3
          rw [show (n_copy_851_s0 L d) = (nI (n_lst (L.1 9 d))) from by rw [n_copy_851_s0, if_pos c840]] at k9
          exact k9
      refine an_bif_eq (z := (n_copy_800_s0 L d)) (tgt := 822) C dL_acts_810 (by decide) rfl (fun c810 => ?_) (fun c810 => ?_)
      · refine aw_iconst (v := nI 0) C dL_acts_822 rfl rfl ?_
        refine aw_pick (ls' := [(0, _), (16, _), (18, _), (19, _)]) [0, 2, 3, 4] rfl ?_
        have k9 := K823_2
        rw [show (n_copy_823_s0 L d) = 0 from by rw [n_copy_823_s0, if_neg c810]] at k9
        exact k9
      · refine aw_iconst (v := nI 1) C dL_acts_813 rfl rfl ?_
        refine aw_iconst (v := nI 3) C dL_acts_814 rfl rfl ?_
        refine aw_iload C dL_acts_815 rfl rfl ?_
        refine an_mul C dL_acts_817 rfl ?_
        refine an_shl C (by omega) (pow_37 (by omega)) dL_acts_818 rfl ?_
        refine aw_goto (tgt := 823) C dL_acts_819 (by decide) ?_
        refine aw_pick (ls' := [(0, _), (16, _), (18, _), (19, _)]) [0, 2, 3, 4] rfl ?_
        have k9 := K823_2
        rw [show (n_copy_823_s0 L d) = 1 * 2 ^ (3 * (n_lst (L.1 9 d))) from by rw [n_copy_823_s0, if_pos c810]] at k9
        exact k9
    refine an_if_le (a := n_lst (L.1 9 d)) (tgt := 799) C dL_acts_780 (by have := hB 9 d; have := n_lst_le (p := L.1 9 d); omega) (by decide) rfl (fun c780 => ?_) (fun c780 => ?_)
    · refine aw_iconst (v := nI 0) C dL_acts_799 rfl rfl ?_
      refine aw_pick (ls' := [(0, _), (12, _), (16, _), (18, _)]) [0, 11, 15, 17] rfl ?_
      have k9 := K800_1
      rw [show (n_copy_800_s0 L d) = false from by rw [n_copy_800_s0, if_neg c780]] at k9
      exact k9
    · refine aw_aload C dL_acts_783 rfl rfl ?_
      refine aw_iload C dL_acts_785 rfl rfl ?_
      refine an_iald (k := 9) (i := d) (N := 24) (v := (L.1 9 d)) C hM rfl rfl (by omega) rfl dL_acts_787 rfl ?_
      refine cw_callSp C k_L_113 (N_many hl hst (p := (L.1 9 d)) (by have := hB 9 d; omega)) ⟨by decide, by decide⟩ rfl rfl (Nat.le_of_ble_eq_true rfl) (Nat.le_of_ble_eq_true rfl) (Nat.le_of_ble_eq_true rfl) dL_acts_788 rfl ?_
      refine aw_iconst (v := nI 4) C dL_acts_791 rfl rfl ?_
      refine an_icmp_ge (a := n_many (L.1 9 d) 9) (b := 4) (tgt := 799) C dL_acts_792 (by have := hB 9 d; have := n_many_le (p := L.1 9 d) 9; omega) (by decide) (by decide) rfl (fun c792 => ?_) (fun c792 => ?_)
      · refine aw_iconst (v := nI 0) C dL_acts_799 rfl rfl ?_
        refine aw_pick (ls' := [(0, _), (12, _), (16, _), (18, _)]) [0, 11, 15, 17] rfl ?_
        have k9 := K800_1
        rw [show (n_copy_800_s0 L d) = false from by rw [n_copy_800_s0, if_pos c780, if_neg c792]] at k9
        exact k9
      · refine aw_iconst (v := nI 1) C dL_acts_795 rfl rfl ?_
        refine aw_goto (tgt := 800) C dL_acts_796 (by decide) ?_
        refine aw_pick (ls' := [(0, _), (12, _), (16, _), (18, _)]) [0, 11, 15, 17] rfl ?_
        have k9 := K800_1
        rw [show (n_copy_800_s0 L d) = true from by rw [n_copy_800_s0, if_pos c780, if_pos c792]] at k9
        exact k9
  · refine aw_iconst (v := nI 1) C dL_acts_776 rfl rfl ?_
    exact aw_iret C rfl (Nat.le_of_ble_eq_true rfl) (Nat.le_of_ble_eq_true rfl) ⟨rfl, ad, _, Y, _, hS, rfl, hM, hZ.next, hR, hK, by omega, by omega⟩ dL_acts_777
set_option maxRecDepth 100000 in
theorem A_lose {x : Cx} {ez : Nat} (G : GOK x.g x.l ez) (C : AWC x cL_acts 21 RL rmA (some .boolean)) {ad : Nat → Nat → Nat} {u : MU} {Y : GS} {L : ZU} {al : Nat → Nat} {sg0 : Sg} {m : Nat} (hS : CS x.g ez ad u Y sg0) (hM : ZS x.g al L sg0) (hZ : CZ m u) (hR : ZR L u) (hK : ZKu u) (hT0 : L.1 10 0 ≤ 400 * m) (hT4 : L.1 10 4 ≤ 6000 * m) (hm : m ≤ 130) {d one act : Nat} (hd : d < L.1 10 1) (ho : one < 6)   : AW x (RQ x (ZA x.g ez al (ad 0 0) (m + 1)) noX 60 12000) 0 0 sg0 866 [(0, .ref ((ad 0 0))), (1, .int (nI (act))), (3, .ref (al 0)), (4, .ref (al 1)), (5, .ref (al 2)), (6, .ref (al 3)), (7, .ref (al 4)), (8, .ref (al 5)), (9, .ref (al 6)), (10, .ref (al 7)), (11, .ref (al 8)), (12, .ref (al 9)), (13, .ref (al 10)), (14, .ref (al 11)), (15, .ref (al 12)), (16, .int (nI (d))), (17, .int (nI (one)))] [] := by
  have hl := G.1
  have hst := G.2.1
  have hB := hR.B
  have hM0 := hM
  have hF : ZFr al sg0 sg0 := ZFr.rf
  have hd24 : d < 24 := Nat.lt_of_lt_of_le hd hR.nd.2
  have hI := hZ.1
  have hN29 : m < 2 ^ 29 := by omega
  have hc := hR.hc
  have hlst := r_lst8 hR hd
  refine aw_aload C dL_acts_866 rfl rfl ?_
  refine aw_iload C dL_acts_868 rfl rfl ?_
  refine an_iald (k := 9) (i := d) (N := 24) (v := (L.1 9 d)) C hM rfl rfl (by omega) rfl dL_acts_870 rfl ?_
  refine cw_callSp C k_L_79 (N_least hl hst (p := (L.1 9 d)) (by have := hB 9 d; omega)) ⟨by decide, by decide⟩ rfl rfl (Nat.le_of_ble_eq_true rfl) (Nat.le_of_ble_eq_true rfl) (Nat.le_of_ble_eq_true rfl) dL_acts_871 rfl ?_
  rw [n_least_k]
  refine aw_istore (ls' := [(18, _), (0, _), (1, _), (3, _), (4, _), (5, _), (6, _), (7, _), (8, _), (9, _), (10, _), (11, _), (12, _), (13, _), (14, _), (15, _), (16, _), (17, _)]) C dL_acts_874 (by decide) rfl rfl ?_
  refine aw_pick (ls' := [(0, _), (1, _), (3, _), (4, _), (5, _), (6, _), (7, _), (8, _), (9, _), (10, _), (11, _), (12, _), (13, _), (14, _), (15, _), (16, _), (17, _), (18, _)]) [1, 2, 3, 4, 5, 6, 7, 8, 9, 10, 11, 12, 13, 14, 15, 16, 17, 0] rfl ?_
  refine aw_aload C dL_acts_876 rfl rfl ?_
  refine aw_iload C dL_acts_878 rfl rfl ?_
  refine aw_dup2 C dL_acts_880 rfl rfl rfl ?_
  refine an_iald (k := 9) (i := d) (N := 24) (v := (L.1 9 d)) C hM rfl rfl (by omega) rfl dL_acts_881 rfl ?_
  refine aw_iload C dL_acts_882 rfl rfl ?_
  have K897_1 : AW x (RQ x (ZA x.g ez al (ad 0 0) (m + 1)) noX 60 12000) 0 0 sg0 897 [(0, .ref ((ad 0 0))), (12, .ref (al 9)), (16, .int (nI (d))), (18, .int (nI (n_lst (L.1 9 d)) - 1))] [.int (nI ((n_lose_897_s0 L d))), .int (nI ((L.1 9 d))), .int (nI (d)), .ref (al 9)] := by
    refine an_sub C (r_lose_le hR hd) dL_acts_897 rfl ?_
    refine an_iast (k := 9) (i := d) (N := 24) (v := (L.1 9 d) - (n_lose_897_s0 L d)) C hM hF rfl rfl (by omega) dL_acts_898 rfl (fun sg hM hF => ?_)
    refine aw_aload_n C dL_acts_899 rfl rfl rfl ?_
    refine aw_bipush (v := nI 9) C dL_acts_900 rfl rfl ?_
    refine aw_iload C dL_acts_902 rfl rfl ?_
    refine aw_iconst (v := nI 0) C dL_acts_904 rfl rfl ?_
    refine aw_iconst (v := nI 0) C dL_acts_905 rfl rfl ?_
    refine aw_iconst (v := nI 0) C dL_acts_906 rfl rfl ?_
    refine aw_iconst (v := nI 0) C dL_acts_907 rfl rfl ?_
    refine aw_iconst (v := nI 0) C dL_acts_908 rfl rfl ?_
    have hS := hS.keepZ hM0 hF
    refine aw_callSW C kL_calls (H_lose G hS hI (a := nI (d)) (b := nI (0)) (c := nI (0)) (d := nI (0)) (e := nI (0)) (f := nI (0)) (r_lose hZ hR hd).1) ⟨by decide, by decide⟩ rfl rfl (Nat.le_of_ble_eq_true rfl) (Nat.le_of_ble_eq_true rfl) (Nat.le_of_ble_eq_true rfl) dL_acts_909 rfl (fun _ _ q => ax_no q) (fun v1 sg hq => ?_)
    obtain ⟨rfl, hC⟩ := hq
    have hM := hM.keepC hS hC.fr
    obtain ⟨ad', Y', hS1, e0, -, -, -⟩ := hC
    refine aw_iload C dL_acts_912 rfl rfl ?_
    have K931_2 : AW x (RQ x (ZA x.g ez al (ad 0 0) (m + 1)) noX 60 12000) (0 + rmK.cells) (0 + rmK.slots) sg 931 [] [.int ((n_lose_931_s0 L d)), .int ((opr (opLose u (nI d))))] := by
      refine aw_icmp_ne (tgt := 938) C dL_acts_931 (by decide) rfl (fun q => absurd (r_lose hZ hR hd).2.1 q) (fun _ => ?_)
      refine aw_iconst (v := nI 1) C dL_acts_934 rfl rfl ?_
      refine aw_goto (tgt := 939) C dL_acts_935 (by decide) ?_
      exact aw_iret C rfl (Nat.le_of_ble_eq_true rfl) (Nat.le_of_ble_eq_true rfl) ⟨rfl, ad', _, Y', _, hS1, e0, hM, hZ.lose, (r_lose hZ hR hd).2.2, hK.lose, (by rw [zI_k (by decide)]; omega), (by rw [zI_k (by decide)]; omega)⟩ dL_acts_939
    refine an_kif_ge (a := n_lst (L.1 9 d)) (tgt := 923) C dL_acts_914 (by have := hB 9 d; have := n_lst_le (p := L.1 9 d); omega) (by decide) rfl (fun c914 => ?_) (fun c914 => ?_)
    · refine aw_aload C dL_acts_923 rfl rfl ?_
      refine aw_iload C dL_acts_925 rfl rfl ?_
      refine an_iald (k := 9) (i := d) (N := 24) (v := ((L.1 9 d) - (n_lose_897_s0 L d))) C hM rfl rfl (by omega) zI_s dL_acts_927 rfl ?_
      refine cw_callSp C k_L_79 (N_least hl hst (p := ((L.1 9 d) - (n_lose_897_s0 L d))) (by have := hB 9 d; omega)) ⟨by decide, by decide⟩ rfl rfl (Nat.le_of_ble_eq_true rfl) (Nat.le_of_ble_eq_true rfl) (Nat.le_of_ble_eq_true rfl) dL_acts_928 rfl ?_
      rw [n_least_k]
      refine aw_pick (ls' := []) [] rfl ?_
      have k9 := K931_2
      rw [show (n_lose_931_s0 L d) = (nI (n_lst ((L.1 9 d) - (n_lose_897_s0 L d))) - 1) from by rw [n_lose_931_s0, if_neg c914]] at k9
      exact k9
    · refine aw_sipush (v := -1003) C dL_acts_917 rfl rfl ?_
      refine aw_goto (tgt := 931) C dL_acts_920 (by decide) ?_
      refine aw_pick (ls' := []) [] rfl ?_
      have k9 := K931_2
      rw [show (n_lose_931_s0 L d) = (-1003) from by rw [n_lose_931_s0, if_pos c914]] at k9
      exact k9
  refine an_kif_ge (a := n_lst (L.1 9 d)) (tgt := 891) C dL_acts_884 (by have := hB 9 d; have := n_lst_le (p := L.1 9 d); omega) (by decide) rfl (fun c884 => ?_) (fun c884 => ?_)
  · refine aw_iconst (v := nI 1) C dL_acts_891 rfl rfl ?_
    refine aw_iconst (v := nI 3) C dL_acts_892 rfl rfl ?_
    refine aw_iload C dL_acts_893 rfl rfl ?_
    refine an_kmul C c884 dL_acts_895 rfl ?_
    refine an_shl C (by have := hlst; omega) (pow_37 (by have := hlst; omega)) dL_acts_896 rfl ?_
    refine aw_pick (ls' := [(0, _), (12, _), (16, _), (18, _)]) [0, 11, 15, 17] rfl ?_
    have k9 := K897_1
    rw [show (n_lose_897_s0 L d) = 1 * 2 ^ (3 * ((n_lst (L.1 9 d)) - 1)) from by rw [n_lose_897_s0, if_neg c884]] at k9
    exact k9
  · refine aw_iconst (v := nI 0) C dL_acts_887 rfl rfl ?_
    refine aw_goto (tgt := 897) C dL_acts_888 (by decide) ?_
    refine aw_pick (ls' := [(0, _), (12, _), (16, _), (18, _)]) [0, 11, 15, 17] rfl ?_
    have k9 := K897_1
    rw [show (n_lose_897_s0 L d) = 0 from by rw [n_lose_897_s0, if_pos c884]] at k9
    exact k9
set_option maxRecDepth 100000 in
theorem A_close {x : Cx} {ez : Nat} (G : GOK x.g x.l ez) (C : AWC x cL_acts 21 RL rmA (some .boolean)) {ad : Nat → Nat → Nat} {u : MU} {Y : GS} {L : ZU} {al : Nat → Nat} {sg0 : Sg} {m : Nat} (hS : CS x.g ez ad u Y sg0) (hM : ZS x.g al L sg0) (hZ : CZ m u) (hR : ZR L u) (hK : ZKu u) (hT0 : L.1 10 0 ≤ 400 * m) (hT4 : L.1 10 4 ≤ 6000 * m) (hm : m ≤ 130) {d one act : Nat} (hd : d < L.1 10 1) (ho : one < 6)   : AW x (RQ x (ZA x.g ez al (ad 0 0) (m + 1)) noX 60 12000) 0 0 sg0 536 [(0, .ref ((ad 0 0))), (1, .int (nI (act))), (3, .ref (al 0)), (4, .ref (al 1)), (5, .ref (al 2)), (6, .ref (al 3)), (7, .ref (al 4)), (8, .ref (al 5)), (9, .ref (al 6)), (10, .ref (al 7)), (11, .ref (al 8)), (12, .ref (al 9)), (13, .ref (al 10)), (14, .ref (al 11)), (15, .ref (al 12)), (16, .int (nI (d))), (17, .int (nI (one)))] [] := by
  have hl := G.1
  have hst := G.2.1
  have hB := hR.B
  have hM0 := hM
  have hF : ZFr al sg0 sg0 := ZFr.rf
  have hd24 : d < 24 := Nat.lt_of_lt_of_le hd hR.nd.2
  have hI := hZ.1
  have hN29 : m < 2 ^ 29 := by omega
  have hc := hR.hc
  refine aw_aload_n C dL_acts_536 rfl rfl rfl ?_
  refine aw_bipush (v := nI 6) C dL_acts_537 rfl rfl ?_
  refine aw_iload C dL_acts_539 rfl rfl ?_
  refine aw_iconst (v := nI 0) C dL_acts_541 rfl rfl ?_
  refine aw_iconst (v := nI 0) C dL_acts_542 rfl rfl ?_
  refine aw_iconst (v := nI 0) C dL_acts_543 rfl rfl ?_
  refine aw_iconst (v := nI 0) C dL_acts_544 rfl rfl ?_
  refine aw_iconst (v := nI 0) C dL_acts_545 rfl rfl ?_
  refine aw_callSW C kL_calls (H_close G hS hI (a := nI (d)) (b := nI (0)) (c := nI (0)) (d := nI (0)) (e := nI (0)) (f := nI (0)) (r_close hZ hR hd).1) ⟨by decide, by decide⟩ rfl rfl (Nat.le_of_ble_eq_true rfl) (Nat.le_of_ble_eq_true rfl) (Nat.le_of_ble_eq_true rfl) dL_acts_546 rfl (fun _ _ q => ax_no q) (fun v1 sg hq => ?_)
  obtain ⟨rfl, hC⟩ := hq
  have hM := hM.keepC hS hC.fr
  obtain ⟨ad', Y', hS1, e0, -, -, -⟩ := hC
  refine aw_iload C dL_acts_549 rfl rfl ?_
  refine aw_aload_n C dL_acts_551 rfl rfl rfl ?_
  refine aw_aload C dL_acts_552 rfl rfl ?_
  refine aw_aload C dL_acts_554 rfl rfl ?_
  refine aw_aload C dL_acts_556 rfl rfl ?_
  refine aw_aload C dL_acts_558 rfl rfl ?_
  refine aw_aload C dL_acts_560 rfl rfl ?_
  refine aw_aload C dL_acts_562 rfl rfl ?_
  refine aw_aload C dL_acts_564 rfl rfl ?_
  refine aw_callS C k_L_109 (N_closes hl hst hM hB (d := d) hd24) ⟨by decide, by decide⟩ rfl rfl (Nat.le_of_ble_eq_true rfl) (Nat.le_of_ble_eq_true rfl) (Nat.le_of_ble_eq_true rfl) dL_acts_566 rfl (fun _ _ q => ax_no q) (fun v2 sg2 hq2 => ?_)
  obtain ⟨rfl, hM2, hF2⟩ := hq2
  have hS2 := hS1.keepZ hM hF2
  have hM := hM2
  refine aw_icmp_ne (tgt := 576) C dL_acts_569 (by decide) rfl (fun q => absurd (r_close hZ hR hd).2.1 q) (fun _ => ?_)
  refine aw_iconst (v := nI 1) C dL_acts_572 rfl rfl ?_
  refine aw_goto (tgt := 577) C dL_acts_573 (by decide) ?_
  exact aw_iret C rfl (Nat.le_of_ble_eq_true rfl) (Nat.le_of_ble_eq_true rfl) ⟨rfl, ad', _, Y', _, hS2, e0, hM, hZ.close.next, (r_close hZ hR hd).2.2.1, hK.close, (by rw [(r_close hZ hR hd).2.2.2.1]; omega), (by rw [(r_close hZ hR hd).2.2.2.2]; omega)⟩ dL_acts_577
set_option maxRecDepth 100000 in
theorem A_enter {x : Cx} {ez : Nat} (G : GOK x.g x.l ez) (C : AWC x cL_acts 21 RL rmA (some .boolean)) {ad : Nat → Nat → Nat} {u : MU} {Y : GS} {L : ZU} {al : Nat → Nat} {sg0 : Sg} {m : Nat} (hS : CS x.g ez ad u Y sg0) (hM : ZS x.g al L sg0) (hZ : CZ m u) (hR : ZR L u) (hK : ZKu u) (hT0 : L.1 10 0 ≤ 400 * m) (hT4 : L.1 10 4 ≤ 6000 * m) (hm : m ≤ 130) {d one act : Nat} (hd : d < L.1 10 1) (ho : one < 6)   : AW x (RQ x (ZA x.g ez al (ad 0 0) (m + 1)) noX 60 12000) 0 0 sg0 940 [(0, .ref ((ad 0 0))), (1, .int (nI (act))), (3, .ref (al 0)), (4, .ref (al 1)), (5, .ref (al 2)), (6, .ref (al 3)), (7, .ref (al 4)), (8, .ref (al 5)), (9, .ref (al 6)), (10, .ref (al 7)), (11, .ref (al 8)), (12, .ref (al 9)), (13, .ref (al 10)), (14, .ref (al 11)), (15, .ref (al 12)), (16, .int (nI (d))), (17, .int (nI (one)))] [] := by
  have hl := G.1
  have hst := G.2.1
  have hB := hR.B
  have hM0 := hM
  have hF : ZFr al sg0 sg0 := ZFr.rf
  have hd24 : d < 24 := Nat.lt_of_lt_of_le hd hR.nd.2
  have hI := hZ.1
  have hN29 : m < 2 ^ 29 := by omega
  have hc := hR.hc
  have hbE : L.1 1 d % 8 ≤ 2 → 1 ≤ L.1 2 d % 128 ∧ L.1 2 d / 128 ≤ 100 ∧ 1 ≤ L.1 1 d / 512 ∧ L.1 1 d / 512 ≤ 2 := fun q => by
    have h1 := (hR.d hd).sh (by omega)
    have h2 := (hR.d hd).th
    have h3 := h2.2.2 q
    omega
  have hpE : L.1 1 d % 8 ≤ 2 → PARTS / (L.1 2 d % 128) * (L.1 2 d / 128) < 2 ^ 61 := fun q => by
    have h1 : PARTS / (L.1 2 d % 128) ≤ PARTS := Nat.div_le_self _ _
    have h3 := (hR.d hd).sh (by omega)
    exact Nat.lt_of_le_of_lt (Nat.mul_le_mul h1 (show L.1 2 d / 128 ≤ 4 by omega)) (by decide)
  refine aw_aload C dL_acts_940 rfl rfl ?_
  refine aw_iconst (v := nI 3) C dL_acts_942 rfl rfl ?_
  refine an_iald (k := 10) (i := 3) (N := 5) (v := (L.1 10 3)) C hM rfl rfl (by decide) rfl dL_acts_943 rfl ?_
  refine aw_bipush (v := nI 25) C dL_acts_944 rfl rfl ?_
  refine an_icmp_gt (a := (L.1 10 3)) (b := 25) (tgt := 987) C dL_acts_946 (by have := hB 10 3; omega) (by decide) (by decide) rfl (fun c946 => ?_) (fun c946 => ?_)
  · refine aw_iconst (v := nI 1) C dL_acts_987 rfl rfl ?_
    refine aw_goto (tgt := 992) C dL_acts_988 (by decide) ?_
    exact aw_iret C rfl (Nat.le_of_ble_eq_true rfl) (Nat.le_of_ble_eq_true rfl) ⟨rfl, ad, _, Y, _, hS, rfl, hM, hZ.next, hR, hK, by omega, by omega⟩ dL_acts_992
  · refine aw_aload_n C dL_acts_949 rfl rfl rfl ?_
    refine aw_bipush (v := nI 10) C dL_acts_950 rfl rfl ?_
    refine aw_iload C dL_acts_952 rfl rfl ?_
    refine aw_iconst (v := nI 0) C dL_acts_954 rfl rfl ?_
    refine aw_iconst (v := nI 0) C dL_acts_955 rfl rfl ?_
    refine aw_iconst (v := nI 0) C dL_acts_956 rfl rfl ?_
    refine aw_iconst (v := nI 0) C dL_acts_957 rfl rfl ?_
    refine aw_iconst (v := nI 0) C dL_acts_958 rfl rfl ?_
    refine aw_callSW C kL_calls (H_enter G hS hI (a := nI (d)) (b := nI (0)) (c := nI (0)) (d := nI (0)) (e := nI (0)) (f := nI (0)) (r_enter hZ hR c946 (by omega) hd).1) ⟨by decide, by decide⟩ rfl rfl (Nat.le_of_ble_eq_true rfl) (Nat.le_of_ble_eq_true rfl) (Nat.le_of_ble_eq_true rfl) dL_acts_959 rfl (fun _ _ q => ax_no q) (fun v1 sg hq => ?_)
    obtain ⟨rfl, hC⟩ := hq
    have hM := hM.keepC hS hC.fr
    obtain ⟨ad', Y', hS1, e0, -, -, -⟩ := hC
    refine aw_iload C dL_acts_962 rfl rfl ?_
    refine aw_aload_n C dL_acts_964 rfl rfl rfl ?_
    refine aw_aload C dL_acts_965 rfl rfl ?_
    refine aw_aload C dL_acts_967 rfl rfl ?_
    refine aw_aload C dL_acts_969 rfl rfl ?_
    refine aw_aload C dL_acts_971 rfl rfl ?_
    refine aw_aload C dL_acts_973 rfl rfl ?_
    refine aw_aload C dL_acts_975 rfl rfl ?_
    refine aw_aload C dL_acts_977 rfl rfl ?_
    refine aw_aload C dL_acts_979 rfl rfl ?_
    refine aw_callS C k_L_116 (N_enters hl hst hM hB (d := d) (fun i => Nat.lt_of_le_of_lt (hR.bJ hZ i) (by decide)) hd24 hbE (hR.d hd).gv.1 (hR.d hd).tk.1 hpE (Or.inl (by omega))) ⟨by decide, by decide⟩ rfl rfl (Nat.le_of_ble_eq_true rfl) (Nat.le_of_ble_eq_true rfl) (Nat.le_of_ble_eq_true rfl) dL_acts_981 rfl (fun _ _ q => ax_no q) (fun v2 sg2 hq2 => ?_)
    obtain ⟨rfl, hM2, hF2⟩ := hq2
    have hS2 := hS1.keepZ hM hF2
    have hM := hM2
    refine aw_icmp_ne (tgt := 991) C dL_acts_984 (by decide) rfl (fun q => absurd (r_enter hZ hR c946 (by omega) hd).2.1 q) (fun _ => ?_)
    refine aw_iconst (v := nI 1) C dL_acts_987 rfl rfl ?_
    refine aw_goto (tgt := 992) C dL_acts_988 (by decide) ?_
    exact aw_iret C rfl (Nat.le_of_ble_eq_true rfl) (Nat.le_of_ble_eq_true rfl) ⟨rfl, ad', _, Y', _, hS2, e0, hM, hZ.enter.next, (r_enter hZ hR c946 (by omega) hd).2.2.1, hK.enter, (by rw [(r_enter hZ hR c946 (by omega) hd).2.2.2.1]; omega), (by have := (r_enter hZ hR c946 (by omega) hd).2.2.2.2; omega)⟩ dL_acts_992
set_option maxRecDepth 100000 in
theorem A_revoke_true {x : Cx} {ez : Nat} (G : GOK x.g x.l ez) (C : AWC x cL_acts 21 RL rmA (some .boolean)) {ad : Nat → Nat → Nat} {u : MU} {Y : GS} {L : ZU} {al : Nat → Nat} {sg0 : Sg} {m : Nat} (hS : CS x.g ez ad u Y sg0) (hM : ZS x.g al L sg0) (hZ : CZ m u) (hR : ZR L u) (hK : ZKu u) (hT0 : L.1 10 0 ≤ 400 * m) (hT4 : L.1 10 4 ≤ 6000 * m) (hm : m ≤ 130) {d one act : Nat} (hd : d < L.1 10 1) (ho : one < 6)   : AW x (RQ x (ZA x.g ez al (ad 0 0) (m + 1)) noX 60 12000) 0 0 sg0 602 [(0, .ref ((ad 0 0))), (1, .int (nI (act))), (3, .ref (al 0)), (4, .ref (al 1)), (5, .ref (al 2)), (6, .ref (al 3)), (7, .ref (al 4)), (8, .ref (al 5)), (9, .ref (al 6)), (10, .ref (al 7)), (11, .ref (al 8)), (12, .ref (al 9)), (13, .ref (al 10)), (14, .ref (al 11)), (15, .ref (al 12)), (16, .int (nI (d))), (17, .int (nI (one))), (18, .int (b2i (true)))] [] := by
  have hl := G.1
  have hst := G.2.1
  have hB := hR.B
  have hM0 := hM
  have hF : ZFr al sg0 sg0 := ZFr.rf
  have hd24 : d < 24 := Nat.lt_of_lt_of_le hd hR.nd.2
  have hI := hZ.1
  have hN29 : m < 2 ^ 29 := by omega
  have hc := hR.hc
  refine aw_aload C dL_acts_602 rfl rfl ?_
  refine aw_iload C dL_acts_604 rfl rfl ?_
  refine an_iald (k := 1) (i := d) (N := 24) (v := (L.1 1 d)) C hM rfl rfl (by omega) rfl dL_acts_606 rfl ?_
  refine aw_bipush (v := nI 8) C dL_acts_607 rfl rfl ?_
  refine an_rem C (by have := hB 1 d; omega) (by decide) (by decide) dL_acts_609 rfl ?_
  refine aw_iconst (v := nI 3) C dL_acts_610 rfl rfl ?_
  refine an_icmp_ne (a := (L.1 1 d) % 8) (b := 3) (tgt := 624) C dL_acts_611 (by have := hB 1 d; omega) (by decide) (by decide) rfl (fun c611 => ?_) (fun c611 => ?_)
  · refine aw_aload_n C dL_acts_624 rfl rfl rfl ?_
    refine aw_bipush (v := nI 7) C dL_acts_625 rfl rfl ?_
    refine aw_iload C dL_acts_627 rfl rfl ?_
    refine aw_iload C dL_acts_629 rfl rfl ?_
    refine an_bif_eq (z := true) (tgt := 638) C dL_acts_631 (by decide) rfl (fun z => absurd rfl z) (fun _ => ?_)
    refine aw_iconst (v := nI 1) C dL_acts_634 rfl rfl ?_
    refine aw_goto (tgt := 639) C dL_acts_635 (by decide) ?_
    refine aw_iconst (v := nI 0) C dL_acts_639 rfl rfl ?_
    refine aw_iconst (v := nI 0) C dL_acts_640 rfl rfl ?_
    refine aw_iconst (v := nI 0) C dL_acts_641 rfl rfl ?_
    refine aw_iconst (v := nI 0) C dL_acts_642 rfl rfl ?_
    have hrv := r_revoke0 hZ hR hd (t := true) (fun q => c611 q.1)
    have Hs := fun hcd => H_revoke G hS hI (a := nI d) (b := nI 1) (c := nI 0) (d := nI 0) (e := nI 0) (f := nI 0) hcd
    simp only [dec11] at Hs
    refine aw_callSW C kL_calls (Hs hrv.1) ⟨by decide, by decide⟩ rfl rfl (Nat.le_of_ble_eq_true rfl) (Nat.le_of_ble_eq_true rfl) (Nat.le_of_ble_eq_true rfl) dL_acts_643 rfl (fun _ _ q => ax_no q) (fun v1 sg hq => ?_)
    obtain ⟨rfl, hC⟩ := hq
    have hM := hM.keepC hS hC.fr
    obtain ⟨ad', Y', hS1, e0, -, -, -⟩ := hC
    refine aw_sipush (v := -1003) C dL_acts_646 rfl rfl ?_
    refine aw_icmp_ne (tgt := 656) C dL_acts_649 (by decide) rfl (fun q => absurd hrv.2.1 q) (fun _ => ?_)
    refine aw_iconst (v := nI 1) C dL_acts_652 rfl rfl ?_
    refine aw_goto (tgt := 657) C dL_acts_653 (by decide) ?_
    have hu := hrv.2.2
    exact aw_iret C rfl (Nat.le_of_ble_eq_true rfl) (Nat.le_of_ble_eq_true rfl) ⟨rfl, ad', u, Y', L, (by rw [hu] at hS1; exact hS1), e0, hM, hZ.next, hR, hK, by omega, by omega⟩ dL_acts_657
  · refine aw_aload C dL_acts_614 rfl rfl ?_
    refine aw_iload C dL_acts_616 rfl rfl ?_
    refine an_iald (k := 5) (i := d) (N := 24) (v := (L.1 5 d)) C hM rfl rfl (by omega) rfl dL_acts_618 rfl ?_
    refine aw_iconst (v := nI 4) C dL_acts_619 rfl rfl ?_
    refine an_rem C (by have := hB 5 d; omega) (by decide) (by decide) dL_acts_620 rfl ?_
    refine an_if_ne (a := (L.1 5 d) % 4) (tgt := 658) C dL_acts_621 (by have := hB 5 d; omega) (by decide) rfl (fun c621 => ?_) (fun c621 => ?_)
    · refine aw_aload C dL_acts_658 rfl rfl ?_
      refine aw_iload C dL_acts_660 rfl rfl ?_
      refine an_iald (k := 5) (i := d) (N := 24) (v := (L.1 5 d)) C hM rfl rfl (by omega) rfl dL_acts_662 rfl ?_
      refine aw_iconst (v := nI 4) C dL_acts_663 rfl rfl ?_
      refine an_div C (by have := hB 5 d; omega) (by decide) (by decide) dL_acts_664 rfl ?_
      refine aw_istore (ls' := [(19, _), (0, _), (1, _), (3, _), (4, _), (5, _), (6, _), (7, _), (8, _), (9, _), (10, _), (11, _), (12, _), (13, _), (14, _), (15, _), (16, _), (17, _), (18, _)]) C dL_acts_665 (by decide) rfl rfl ?_
      refine aw_pick (ls' := [(0, _), (1, _), (3, _), (4, _), (5, _), (6, _), (7, _), (8, _), (9, _), (10, _), (11, _), (12, _), (13, _), (14, _), (15, _), (16, _), (17, _), (18, _), (19, _)]) [1, 2, 3, 4, 5, 6, 7, 8, 9, 10, 11, 12, 13, 14, 15, 16, 17, 18, 0] rfl ?_
      refine aw_aload C dL_acts_667 rfl rfl ?_
      refine aw_iload C dL_acts_669 rfl rfl ?_
      refine aw_dup2 C dL_acts_671 rfl rfl rfl ?_
      refine an_iald (k := 5) (i := d) (N := 24) (v := (L.1 5 d)) C hM rfl rfl (by omega) rfl dL_acts_672 rfl ?_
      refine aw_iload C dL_acts_673 rfl rfl ?_
      have K708_1 : AW x (RQ x (ZA x.g ez al (ad 0 0) (m + 1)) noX 60 12000) 0 0 sg0 708 [(0, .ref ((ad 0 0))), (16, .int (nI (d))), (18, .int (b2i (true))), (19, .int (nI ((L.1 5 d) / 4)))] [.int (nI ((n_rvt_708_s0 L d true))), .int (nI ((L.1 5 d))), .int (nI (d)), .ref (al 5)] := by
        refine an_add C dL_acts_708 rfl ?_
        refine an_iast (k := 5) (i := d) (N := 24) (v := (L.1 5 d) + (n_rvt_708_s0 L d true)) C hM hF rfl rfl (by omega) dL_acts_709 rfl (fun sg hM hF => ?_)
        refine aw_aload_n C dL_acts_710 rfl rfl rfl ?_
        refine aw_bipush (v := nI 7) C dL_acts_711 rfl rfl ?_
        refine aw_iload C dL_acts_713 rfl rfl ?_
        refine aw_iload C dL_acts_715 rfl rfl ?_
        refine an_bif_eq (z := true) (tgt := 724) C dL_acts_717 (by decide) rfl (fun z => absurd rfl z) (fun _ => ?_)
        refine aw_iconst (v := nI 1) C dL_acts_720 rfl rfl ?_
        refine aw_goto (tgt := 725) C dL_acts_721 (by decide) ?_
        refine aw_iconst (v := nI 0) C dL_acts_725 rfl rfl ?_
        refine aw_iconst (v := nI 0) C dL_acts_726 rfl rfl ?_
        refine aw_iconst (v := nI 0) C dL_acts_727 rfl rfl ?_
        refine aw_iconst (v := nI 0) C dL_acts_728 rfl rfl ?_
        have hrv := r_revoke hZ hR hd (t := true) ⟨c611, c621⟩
        have hrv742 : opb (opRevoke u (nI d) true) = b2i (n_rvt_742_s0 L d true) := by
          rw [hrv.2.1, n_rvt_742_s0]
          by_cases z : 0 < (L.1 5 d) / 4
          · rw [if_pos z, decide_eq_true z]
          · rw [if_neg z, decide_eq_false z]
        have hS := hS.keepZ hM0 hF
        have Hs := fun hcd => H_revoke G hS hI (a := nI d) (b := nI 1) (c := nI 0) (d := nI 0) (e := nI 0) (f := nI 0) hcd
        simp only [dec11] at Hs
        refine aw_callSW C kL_calls (Hs hrv.1) ⟨by decide, by decide⟩ rfl rfl (Nat.le_of_ble_eq_true rfl) (Nat.le_of_ble_eq_true rfl) (Nat.le_of_ble_eq_true rfl) dL_acts_729 rfl (fun _ _ q => ax_no q) (fun v1 sg hq => ?_)
        obtain ⟨rfl, hC⟩ := hq
        have hM := hM.keepC hS hC.fr
        obtain ⟨ad', Y', hS1, e0, -, -, -⟩ := hC
        refine aw_iload C dL_acts_732 rfl rfl ?_
        have K742_2 : AW x (RQ x (ZA x.g ez al (ad 0 0) (m + 1)) noX 60 12000) (0 + rmK.cells) (0 + rmK.slots) sg 742 [] [.int (b2i ((n_rvt_742_s0 L d true))), .int ((opb (opRevoke u (nI d) true)))] := by
          refine aw_icmp_ne (tgt := 749) C dL_acts_742 (by decide) rfl (fun q => absurd hrv742 q) (fun _ => ?_)
          refine aw_iconst (v := nI 1) C dL_acts_745 rfl rfl ?_
          refine aw_goto (tgt := 750) C dL_acts_746 (by decide) ?_
          exact aw_iret C rfl (Nat.le_of_ble_eq_true rfl) (Nat.le_of_ble_eq_true rfl) ⟨rfl, ad', _, Y', _, hS1, e0, hM, hZ.revoke.next, hrv.2.2, hK.revoke, (by rw [zI_k (by decide)]; omega), (by rw [zI_k (by decide)]; omega)⟩ dL_acts_750
        refine an_if_le (a := (L.1 5 d) / 4) (tgt := 741) C dL_acts_734 (by have := hB 5 d; omega) (by decide) rfl (fun c734 => ?_) (fun c734 => ?_)
        · refine aw_iconst (v := nI 0) C dL_acts_741 rfl rfl ?_
          refine aw_pick (ls' := []) [] rfl ?_
          have k9 := K742_2
          rw [show (n_rvt_742_s0 L d true) = false from by rw [n_rvt_742_s0, if_neg c734]] at k9
          exact k9
        · refine aw_iconst (v := nI 1) C dL_acts_737 rfl rfl ?_
          refine aw_goto (tgt := 742) C dL_acts_738 (by decide) ?_
          refine aw_pick (ls' := []) [] rfl ?_
          have k9 := K742_2
          rw [show (n_rvt_742_s0 L d true) = true from by rw [n_rvt_742_s0, if_pos c734]] at k9
          exact k9
      refine an_if_ne (a := (L.1 5 d) / 4) (tgt := 692) C dL_acts_675 (by have := hB 5 d; omega) (by decide) rfl (fun c675 => ?_) (fun c675 => ?_)
      · refine aw_iload C dL_acts_692 rfl rfl ?_
        refine aw_iconst (v := nI 1) C dL_acts_694 rfl rfl ?_
        refine an_icmp_ne (a := (L.1 5 d) / 4) (b := 1) (tgt := 707) C dL_acts_695 (by have := hB 5 d; omega) (by decide) (by decide) rfl (fun c695 => ?_) (fun c695 => ?_)
        · refine aw_iconst (v := nI 0) C dL_acts_707 rfl rfl ?_
          refine aw_pick (ls' := [(0, _), (16, _), (18, _), (19, _)]) [0, 15, 17, 18] rfl ?_
          have k9 := K708_1
          rw [show (n_rvt_708_s0 L d true) = 0 from by rw [n_rvt_708_s0, if_neg c675, if_neg c695]] at k9
          exact k9
        · refine aw_iload C dL_acts_698 rfl rfl ?_
          refine an_bif_eq (z := true) (tgt := 707) C dL_acts_700 (by decide) rfl (fun z => absurd rfl z) (fun _ => ?_)
          refine aw_iconst (v := nI 4) C dL_acts_703 rfl rfl ?_
          refine aw_goto (tgt := 708) C dL_acts_704 (by decide) ?_
          refine aw_pick (ls' := [(0, _), (16, _), (18, _), (19, _)]) [0, 15, 17, 18] rfl ?_
          have k9 := K708_1
          rw [show (n_rvt_708_s0 L d true) = 4 from by rw [n_rvt_708_s0, if_neg c675, if_pos c695]] at k9
          exact k9
      · refine aw_iload C dL_acts_678 rfl rfl ?_
        refine an_bif_eq (z := true) (tgt := 688) C dL_acts_680 (by decide) rfl (fun z => absurd rfl z) (fun _ => ?_)
        refine aw_bipush (v := nI 8) C dL_acts_683 rfl rfl ?_
        refine aw_goto (tgt := 708) C dL_acts_685 (by decide) ?_
        refine aw_pick (ls' := [(0, _), (16, _), (18, _), (19, _)]) [0, 15, 17, 18] rfl ?_
        have k9 := K708_1
        rw [show (n_rvt_708_s0 L d true) = 8 from by rw [n_rvt_708_s0, if_pos c675]] at k9
        exact k9
    · refine aw_aload_n C dL_acts_624 rfl rfl rfl ?_
      refine aw_bipush (v := nI 7) C dL_acts_625 rfl rfl ?_
      refine aw_iload C dL_acts_627 rfl rfl ?_
      refine aw_iload C dL_acts_629 rfl rfl ?_
      refine an_bif_eq (z := true) (tgt := 638) C dL_acts_631 (by decide) rfl (fun z => absurd rfl z) (fun _ => ?_)
      refine aw_iconst (v := nI 1) C dL_acts_634 rfl rfl ?_
      refine aw_goto (tgt := 639) C dL_acts_635 (by decide) ?_
      refine aw_iconst (v := nI 0) C dL_acts_639 rfl rfl ?_
      refine aw_iconst (v := nI 0) C dL_acts_640 rfl rfl ?_
      refine aw_iconst (v := nI 0) C dL_acts_641 rfl rfl ?_
      refine aw_iconst (v := nI 0) C dL_acts_642 rfl rfl ?_
      have hrv := r_revoke0 hZ hR hd (t := true) (fun q => q.2 c621)
      have Hs := fun hcd => H_revoke G hS hI (a := nI d) (b := nI 1) (c := nI 0) (d := nI 0) (e := nI 0) (f := nI 0) hcd
      simp only [dec11] at Hs
      refine aw_callSW C kL_calls (Hs hrv.1) ⟨by decide, by decide⟩ rfl rfl (Nat.le_of_ble_eq_true rfl) (Nat.le_of_ble_eq_true rfl) (Nat.le_of_ble_eq_true rfl) dL_acts_643 rfl (fun _ _ q => ax_no q) (fun v1 sg hq => ?_)
      obtain ⟨rfl, hC⟩ := hq
      have hM := hM.keepC hS hC.fr
      obtain ⟨ad', Y', hS1, e0, -, -, -⟩ := hC
      refine aw_sipush (v := -1003) C dL_acts_646 rfl rfl ?_
      refine aw_icmp_ne (tgt := 656) C dL_acts_649 (by decide) rfl (fun q => absurd hrv.2.1 q) (fun _ => ?_)
      refine aw_iconst (v := nI 1) C dL_acts_652 rfl rfl ?_
      refine aw_goto (tgt := 657) C dL_acts_653 (by decide) ?_
      have hu := hrv.2.2
      exact aw_iret C rfl (Nat.le_of_ble_eq_true rfl) (Nat.le_of_ble_eq_true rfl) ⟨rfl, ad', u, Y', L, (by rw [hu] at hS1; exact hS1), e0, hM, hZ.next, hR, hK, by omega, by omega⟩ dL_acts_657
set_option maxRecDepth 100000 in
theorem A_revoke_false {x : Cx} {ez : Nat} (G : GOK x.g x.l ez) (C : AWC x cL_acts 21 RL rmA (some .boolean)) {ad : Nat → Nat → Nat} {u : MU} {Y : GS} {L : ZU} {al : Nat → Nat} {sg0 : Sg} {m : Nat} (hS : CS x.g ez ad u Y sg0) (hM : ZS x.g al L sg0) (hZ : CZ m u) (hR : ZR L u) (hK : ZKu u) (hT0 : L.1 10 0 ≤ 400 * m) (hT4 : L.1 10 4 ≤ 6000 * m) (hm : m ≤ 130) {d one act : Nat} (hd : d < L.1 10 1) (ho : one < 6)   : AW x (RQ x (ZA x.g ez al (ad 0 0) (m + 1)) noX 60 12000) 0 0 sg0 602 [(0, .ref ((ad 0 0))), (1, .int (nI (act))), (3, .ref (al 0)), (4, .ref (al 1)), (5, .ref (al 2)), (6, .ref (al 3)), (7, .ref (al 4)), (8, .ref (al 5)), (9, .ref (al 6)), (10, .ref (al 7)), (11, .ref (al 8)), (12, .ref (al 9)), (13, .ref (al 10)), (14, .ref (al 11)), (15, .ref (al 12)), (16, .int (nI (d))), (17, .int (nI (one))), (18, .int (b2i (false)))] [] := by
  have hl := G.1
  have hst := G.2.1
  have hB := hR.B
  have hM0 := hM
  have hF : ZFr al sg0 sg0 := ZFr.rf
  have hd24 : d < 24 := Nat.lt_of_lt_of_le hd hR.nd.2
  have hI := hZ.1
  have hN29 : m < 2 ^ 29 := by omega
  have hc := hR.hc
  refine aw_aload C dL_acts_602 rfl rfl ?_
  refine aw_iload C dL_acts_604 rfl rfl ?_
  refine an_iald (k := 1) (i := d) (N := 24) (v := (L.1 1 d)) C hM rfl rfl (by omega) rfl dL_acts_606 rfl ?_
  refine aw_bipush (v := nI 8) C dL_acts_607 rfl rfl ?_
  refine an_rem C (by have := hB 1 d; omega) (by decide) (by decide) dL_acts_609 rfl ?_
  refine aw_iconst (v := nI 3) C dL_acts_610 rfl rfl ?_
  refine an_icmp_ne (a := (L.1 1 d) % 8) (b := 3) (tgt := 624) C dL_acts_611 (by have := hB 1 d; omega) (by decide) (by decide) rfl (fun c611 => ?_) (fun c611 => ?_)
  · refine aw_aload_n C dL_acts_624 rfl rfl rfl ?_
    refine aw_bipush (v := nI 7) C dL_acts_625 rfl rfl ?_
    refine aw_iload C dL_acts_627 rfl rfl ?_
    refine aw_iload C dL_acts_629 rfl rfl ?_
    refine an_bif_eq (z := false) (tgt := 638) C dL_acts_631 (by decide) rfl (fun _ => ?_) (fun z => absurd z (by decide))
    refine aw_iconst (v := nI 0) C dL_acts_638 rfl rfl ?_
    refine aw_iconst (v := nI 0) C dL_acts_639 rfl rfl ?_
    refine aw_iconst (v := nI 0) C dL_acts_640 rfl rfl ?_
    refine aw_iconst (v := nI 0) C dL_acts_641 rfl rfl ?_
    refine aw_iconst (v := nI 0) C dL_acts_642 rfl rfl ?_
    have hrv := r_revoke0 hZ hR hd (t := false) (fun q => c611 q.1)
    have Hs := fun hcd => H_revoke G hS hI (a := nI d) (b := nI 0) (c := nI 0) (d := nI 0) (e := nI 0) (f := nI 0) hcd
    simp only [dec01] at Hs
    refine aw_callSW C kL_calls (Hs hrv.1) ⟨by decide, by decide⟩ rfl rfl (Nat.le_of_ble_eq_true rfl) (Nat.le_of_ble_eq_true rfl) (Nat.le_of_ble_eq_true rfl) dL_acts_643 rfl (fun _ _ q => ax_no q) (fun v1 sg hq => ?_)
    obtain ⟨rfl, hC⟩ := hq
    have hM := hM.keepC hS hC.fr
    obtain ⟨ad', Y', hS1, e0, -, -, -⟩ := hC
    refine aw_sipush (v := -1003) C dL_acts_646 rfl rfl ?_
    refine aw_icmp_ne (tgt := 656) C dL_acts_649 (by decide) rfl (fun q => absurd hrv.2.1 q) (fun _ => ?_)
    refine aw_iconst (v := nI 1) C dL_acts_652 rfl rfl ?_
    refine aw_goto (tgt := 657) C dL_acts_653 (by decide) ?_
    have hu := hrv.2.2
    exact aw_iret C rfl (Nat.le_of_ble_eq_true rfl) (Nat.le_of_ble_eq_true rfl) ⟨rfl, ad', u, Y', L, (by rw [hu] at hS1; exact hS1), e0, hM, hZ.next, hR, hK, by omega, by omega⟩ dL_acts_657
  · refine aw_aload C dL_acts_614 rfl rfl ?_
    refine aw_iload C dL_acts_616 rfl rfl ?_
    refine an_iald (k := 5) (i := d) (N := 24) (v := (L.1 5 d)) C hM rfl rfl (by omega) rfl dL_acts_618 rfl ?_
    refine aw_iconst (v := nI 4) C dL_acts_619 rfl rfl ?_
    refine an_rem C (by have := hB 5 d; omega) (by decide) (by decide) dL_acts_620 rfl ?_
    refine an_if_ne (a := (L.1 5 d) % 4) (tgt := 658) C dL_acts_621 (by have := hB 5 d; omega) (by decide) rfl (fun c621 => ?_) (fun c621 => ?_)
    · refine aw_aload C dL_acts_658 rfl rfl ?_
      refine aw_iload C dL_acts_660 rfl rfl ?_
      refine an_iald (k := 5) (i := d) (N := 24) (v := (L.1 5 d)) C hM rfl rfl (by omega) rfl dL_acts_662 rfl ?_
      refine aw_iconst (v := nI 4) C dL_acts_663 rfl rfl ?_
      refine an_div C (by have := hB 5 d; omega) (by decide) (by decide) dL_acts_664 rfl ?_
      refine aw_istore (ls' := [(19, _), (0, _), (1, _), (3, _), (4, _), (5, _), (6, _), (7, _), (8, _), (9, _), (10, _), (11, _), (12, _), (13, _), (14, _), (15, _), (16, _), (17, _), (18, _)]) C dL_acts_665 (by decide) rfl rfl ?_
      refine aw_pick (ls' := [(0, _), (1, _), (3, _), (4, _), (5, _), (6, _), (7, _), (8, _), (9, _), (10, _), (11, _), (12, _), (13, _), (14, _), (15, _), (16, _), (17, _), (18, _), (19, _)]) [1, 2, 3, 4, 5, 6, 7, 8, 9, 10, 11, 12, 13, 14, 15, 16, 17, 18, 0] rfl ?_
      refine aw_aload C dL_acts_667 rfl rfl ?_
      refine aw_iload C dL_acts_669 rfl rfl ?_
      refine aw_dup2 C dL_acts_671 rfl rfl rfl ?_
      refine an_iald (k := 5) (i := d) (N := 24) (v := (L.1 5 d)) C hM rfl rfl (by omega) rfl dL_acts_672 rfl ?_
      refine aw_iload C dL_acts_673 rfl rfl ?_
      have K708_1 : AW x (RQ x (ZA x.g ez al (ad 0 0) (m + 1)) noX 60 12000) 0 0 sg0 708 [(0, .ref ((ad 0 0))), (16, .int (nI (d))), (18, .int (b2i (false))), (19, .int (nI ((L.1 5 d) / 4)))] [.int (nI ((n_rvf_708_s0 L d false))), .int (nI ((L.1 5 d))), .int (nI (d)), .ref (al 5)] := by
        refine an_add C dL_acts_708 rfl ?_
        refine an_iast (k := 5) (i := d) (N := 24) (v := (L.1 5 d) + (n_rvf_708_s0 L d false)) C hM hF rfl rfl (by omega) dL_acts_709 rfl (fun sg hM hF => ?_)
        refine aw_aload_n C dL_acts_710 rfl rfl rfl ?_
        refine aw_bipush (v := nI 7) C dL_acts_711 rfl rfl ?_
        refine aw_iload C dL_acts_713 rfl rfl ?_
        refine aw_iload C dL_acts_715 rfl rfl ?_
        refine an_bif_eq (z := false) (tgt := 724) C dL_acts_717 (by decide) rfl (fun _ => ?_) (fun z => absurd z (by decide))
        refine aw_iconst (v := nI 0) C dL_acts_724 rfl rfl ?_
        refine aw_iconst (v := nI 0) C dL_acts_725 rfl rfl ?_
        refine aw_iconst (v := nI 0) C dL_acts_726 rfl rfl ?_
        refine aw_iconst (v := nI 0) C dL_acts_727 rfl rfl ?_
        refine aw_iconst (v := nI 0) C dL_acts_728 rfl rfl ?_
        have hrv := r_revoke hZ hR hd (t := false) ⟨c611, c621⟩
        have hrv742 : opb (opRevoke u (nI d) false) = b2i (n_rvf_742_s0 L d false) := by
          rw [hrv.2.1, n_rvf_742_s0]
          by_cases z : 0 < (L.1 5 d) / 4
          · rw [if_pos z, decide_eq_true z]
          · rw [if_neg z, decide_eq_false z]
        have hS := hS.keepZ hM0 hF
        have Hs := fun hcd => H_revoke G hS hI (a := nI d) (b := nI 0) (c := nI 0) (d := nI 0) (e := nI 0) (f := nI 0) hcd
        simp only [dec01] at Hs
        refine aw_callSW C kL_calls (Hs hrv.1) ⟨by decide, by decide⟩ rfl rfl (Nat.le_of_ble_eq_true rfl) (Nat.le_of_ble_eq_true rfl) (Nat.le_of_ble_eq_true rfl) dL_acts_729 rfl (fun _ _ q => ax_no q) (fun v1 sg hq => ?_)
        obtain ⟨rfl, hC⟩ := hq
        have hM := hM.keepC hS hC.fr
        obtain ⟨ad', Y', hS1, e0, -, -, -⟩ := hC
        refine aw_iload C dL_acts_732 rfl rfl ?_
        have K742_2 : AW x (RQ x (ZA x.g ez al (ad 0 0) (m + 1)) noX 60 12000) (0 + rmK.cells) (0 + rmK.slots) sg 742 [] [.int (b2i ((n_rvf_742_s0 L d false))), .int ((opb (opRevoke u (nI d) false)))] := by
          refine aw_icmp_ne (tgt := 749) C dL_acts_742 (by decide) rfl (fun q => absurd hrv742 q) (fun _ => ?_)
          refine aw_iconst (v := nI 1) C dL_acts_745 rfl rfl ?_
          refine aw_goto (tgt := 750) C dL_acts_746 (by decide) ?_
          exact aw_iret C rfl (Nat.le_of_ble_eq_true rfl) (Nat.le_of_ble_eq_true rfl) ⟨rfl, ad', _, Y', _, hS1, e0, hM, hZ.revoke.next, hrv.2.2, hK.revoke, (by rw [zI_k (by decide)]; omega), (by rw [zI_k (by decide)]; omega)⟩ dL_acts_750
        refine an_if_le (a := (L.1 5 d) / 4) (tgt := 741) C dL_acts_734 (by have := hB 5 d; omega) (by decide) rfl (fun c734 => ?_) (fun c734 => ?_)
        · refine aw_iconst (v := nI 0) C dL_acts_741 rfl rfl ?_
          refine aw_pick (ls' := []) [] rfl ?_
          have k9 := K742_2
          rw [show (n_rvf_742_s0 L d false) = false from by rw [n_rvf_742_s0, if_neg c734]] at k9
          exact k9
        · refine aw_iconst (v := nI 1) C dL_acts_737 rfl rfl ?_
          refine aw_goto (tgt := 742) C dL_acts_738 (by decide) ?_
          refine aw_pick (ls' := []) [] rfl ?_
          have k9 := K742_2
          rw [show (n_rvf_742_s0 L d false) = true from by rw [n_rvf_742_s0, if_pos c734]] at k9
          exact k9
      refine an_if_ne (a := (L.1 5 d) / 4) (tgt := 692) C dL_acts_675 (by have := hB 5 d; omega) (by decide) rfl (fun c675 => ?_) (fun c675 => ?_)
      · refine aw_iload C dL_acts_692 rfl rfl ?_
        refine aw_iconst (v := nI 1) C dL_acts_694 rfl rfl ?_
        refine an_icmp_ne (a := (L.1 5 d) / 4) (b := 1) (tgt := 707) C dL_acts_695 (by have := hB 5 d; omega) (by decide) (by decide) rfl (fun c695 => ?_) (fun c695 => ?_)
        · refine aw_iconst (v := nI 0) C dL_acts_707 rfl rfl ?_
          refine aw_pick (ls' := [(0, _), (16, _), (18, _), (19, _)]) [0, 15, 17, 18] rfl ?_
          have k9 := K708_1
          rw [show (n_rvf_708_s0 L d false) = 0 from by rw [n_rvf_708_s0, if_neg c675, if_neg c695]] at k9
          exact k9
        · refine aw_iload C dL_acts_698 rfl rfl ?_
          refine an_bif_eq (z := false) (tgt := 707) C dL_acts_700 (by decide) rfl (fun _ => ?_) (fun z => absurd z (by decide))
          refine aw_iconst (v := nI 0) C dL_acts_707 rfl rfl ?_
          refine aw_pick (ls' := [(0, _), (16, _), (18, _), (19, _)]) [0, 15, 17, 18] rfl ?_
          have k9 := K708_1
          rw [show (n_rvf_708_s0 L d false) = 0 from by rw [n_rvf_708_s0, if_neg c675, if_pos c695]] at k9
          exact k9
      · refine aw_iload C dL_acts_678 rfl rfl ?_
        refine an_bif_eq (z := false) (tgt := 688) C dL_acts_680 (by decide) rfl (fun _ => ?_) (fun z => absurd z (by decide))
        refine aw_iconst (v := nI 4) C dL_acts_688 rfl rfl ?_
        refine aw_goto (tgt := 708) C dL_acts_689 (by decide) ?_
        refine aw_pick (ls' := [(0, _), (16, _), (18, _), (19, _)]) [0, 15, 17, 18] rfl ?_
        have k9 := K708_1
        rw [show (n_rvf_708_s0 L d false) = 4 from by rw [n_rvf_708_s0, if_pos c675]] at k9
        exact k9
    · refine aw_aload_n C dL_acts_624 rfl rfl rfl ?_
      refine aw_bipush (v := nI 7) C dL_acts_625 rfl rfl ?_
      refine aw_iload C dL_acts_627 rfl rfl ?_
      refine aw_iload C dL_acts_629 rfl rfl ?_
      refine an_bif_eq (z := false) (tgt := 638) C dL_acts_631 (by decide) rfl (fun _ => ?_) (fun z => absurd z (by decide))
      refine aw_iconst (v := nI 0) C dL_acts_638 rfl rfl ?_
      refine aw_iconst (v := nI 0) C dL_acts_639 rfl rfl ?_
      refine aw_iconst (v := nI 0) C dL_acts_640 rfl rfl ?_
      refine aw_iconst (v := nI 0) C dL_acts_641 rfl rfl ?_
      refine aw_iconst (v := nI 0) C dL_acts_642 rfl rfl ?_
      have hrv := r_revoke0 hZ hR hd (t := false) (fun q => q.2 c621)
      have Hs := fun hcd => H_revoke G hS hI (a := nI d) (b := nI 0) (c := nI 0) (d := nI 0) (e := nI 0) (f := nI 0) hcd
      simp only [dec01] at Hs
      refine aw_callSW C kL_calls (Hs hrv.1) ⟨by decide, by decide⟩ rfl rfl (Nat.le_of_ble_eq_true rfl) (Nat.le_of_ble_eq_true rfl) (Nat.le_of_ble_eq_true rfl) dL_acts_643 rfl (fun _ _ q => ax_no q) (fun v1 sg hq => ?_)
      obtain ⟨rfl, hC⟩ := hq
      have hM := hM.keepC hS hC.fr
      obtain ⟨ad', Y', hS1, e0, -, -, -⟩ := hC
      refine aw_sipush (v := -1003) C dL_acts_646 rfl rfl ?_
      refine aw_icmp_ne (tgt := 656) C dL_acts_649 (by decide) rfl (fun q => absurd hrv.2.1 q) (fun _ => ?_)
      refine aw_iconst (v := nI 1) C dL_acts_652 rfl rfl ?_
      refine aw_goto (tgt := 657) C dL_acts_653 (by decide) ?_
      have hu := hrv.2.2
      exact aw_iret C rfl (Nat.le_of_ble_eq_true rfl) (Nat.le_of_ble_eq_true rfl) ⟨rfl, ad', u, Y', L, (by rw [hu] at hS1; exact hS1), e0, hM, hZ.next, hR, hK, by omega, by omega⟩ dL_acts_657
