set_option maxRecDepth 100000 in
set_option maxHeartbeats 4000000 in
theorem M_leaves {g : Gx} {l : Launch} (hl : l.flags = flags0) (hst : g.Stable) {ad : Nat → Nat} {th : Int32} {u : MU} {sg : Sg} (hM : MS g ad th u sg) (hW : WN u) (hP : WP u) (hD : WD u) (hL : WL u) {p t : Nat} (hp : p < 12) (ht : t < 8) (hR : WR u t) : MM g l yX9_leaves cX9_leaves 23 (some .boolean) (rmM 4) sg [.ref (ad 0), .int (nI p), .int (nI t)] (PU g ad sg th (some (.int (b2i (leaves u p t).1))) (leaves u p t).2) noX := by
  refine MM.of hl hst (by decide) (Nat.le_of_ble_eq_true rfl) (fun x hg hlx C hin hout hargs => ?_)
  subst hg; subst hlx
  have C : AWC x cX9_leaves 23 RX9 (rmM 4) (some .boolean) := C
  have hF : MF ad sg sg := MF.rf
  show AW x (RQ x _ _ _ _) 0 0 sg 0 [(0, .ref (ad 0)), (1, .int (nI p)), (2, .int (nI t))] []
  obtain ⟨sg0, hsg0⟩ : ∃ s, s = sg := ⟨_, rfl⟩
  have hF : MF ad sg0 sg := by rw [hsg0]; exact hF
  show AW x (RQ x (PU x.g ad sg th (some (.int (b2i (leaves u p t).1))) (leaves u p t).2) noX (rmM 4).cells (rmM 4).slots) 0 0 sg 0 [(0, .ref (ad 0)), (1, .int (nI p)), (2, .int (nI t))] []
  rw [show PU x.g ad sg = PU x.g ad sg0 by rw [hsg0]]
  obtain ⟨A, B, eA, eB, hB0, hB6, hAB⟩ := hR p (by omega)
  have hN2 := hW.1
  have hN10 := hW.2.1
  have vA : vN (u.2.1 41 (13 * t + p)) = A := by rw [eA]; exact vN_lN (by omega)
  have vB : vN (u.2.1 42 (13 * t + p)) = B := by rw [eB]; exact vN_lN (by omega)
  have hor := willN_or (u := u) (p := p) (u.2.2.1 10)
  have hml : lvMany u p ≤ 12 := Nat.le_trans (heirN_le _) hN2
  obtain ⟨wv, ewv⟩ : ∃ w, w = willN u p (u.2.2.1 10) := ⟨_, rfl⟩
  obtain ⟨ch, ech⟩ : ∃ c, c = lvCh u p := ⟨_, rfl⟩
  obtain ⟨many, emany⟩ : ∃ c, c = lvMany u p := ⟨_, rfl⟩
  rw [← ewv] at hor
  rw [← emany] at hml
  have hby : lvBy many ≤ 12 ∧ 1 ≤ lvBy many := by unfold lvBy; split <;> omega
  have loop : ∀ (so al : Nat), so ≤ al → al ≤ 100 → 1 ≤ al → leavesX u p t = lvN u p t wv A B so al ch many 13 → ∀ (r m : Nat) (z : Int32) (sg : Sg), m + r = 13 → z = b2i (lvN u p t wv A B so al ch many m).1 → MS x.g ad th (lvN u p t wv A B so al ch many m).2 sg → MF ad sg0 sg → AW x (RQ x (PU x.g ad sg0 th (some (.int (b2i (leaves u p t).1))) (leaves u p t).2) noX (rmM 4).cells (rmM 4).slots) 0 0 sg 126 [(0, .ref (ad 0)), (1, .int (nI p)), (2, .int (nI t)), (3, .int (nI (13 * t + p))), (4, .long (lN A)), (6, .long (lN B)), (8, .int wv), (9, .int (b2i ch)), (10, .int (nI many)), (11, .long (lN so)), (13, .long (lN al)), (15, .int z), (16, .int (nI m))] [] := by
    intro so al hso hal hal1 hX r
    induction r with
    | zero =>
      intro m z sg hm hz hM hF
      obtain rfl : m = 13 := by omega
      refine aw_iload C dX9_leaves_126 rfl rfl ?_
      refine aw_bipush (v := 13) C dX9_leaves_128 rfl rfl ?_
      refine aw_icmp_ge (tgt := 314) C dX9_leaves_130 (by decide) rfl (fun c130 => ?_) (fun c130 => ?_)
      · refine aw_aload_n C dX9_leaves_314 rfl rfl rfl ?_
        refine aw_getf C f_X9_111 hM.1 rfl dX9_leaves_315 rfl ?_
        refine aw_iload_n C dX9_leaves_318 rfl rfl rfl ?_
        refine aw_lconst (v := 0) C dX9_leaves_319 rfl rfl ?_
        refine mw_last (k := 41) (N := 104) C hM hF rfl rfl (i := 13 * t + p) rfl (by omega) dX9_leaves_320 rfl (fun sg hM hF => ?_)
        refine aw_aload_n C dX9_leaves_321 rfl rfl rfl ?_
        refine aw_getf C f_X9_114 hM.1 rfl dX9_leaves_322 rfl ?_
        refine aw_iload_n C dX9_leaves_325 rfl rfl rfl ?_
        refine aw_lconst (v := 1) C dX9_leaves_326 rfl rfl ?_
        refine mw_last (k := 42) (N := 104) C hM hF rfl rfl (i := 13 * t + p) rfl (by omega) dX9_leaves_327 rfl (fun sg hM hF => ?_)
        refine aw_iload C dX9_leaves_328 rfl rfl ?_
        exact aw_iret C (by rw [hz]; exact nrw_b2i _) (Nat.le_refl _) (Nat.le_refl _) (PU.of (by rw [leaves, hX, hz]) (by rw [leaves, hX]; exact hM) hF) dX9_leaves_330
      · exact absurd (by decide) c130
    | succ r ih =>
      intro m z sg hm hz hM hF
      have hI : (lvN u p t wv A B so al ch many m).2.1 = u.1 := lvN_I
      have hNN : (lvN u p t wv A B so al ch many m).2.2.2 = u.2.2 := lvN_N
      have h2 : (lvN u p t wv A B so al ch many m).2.2.2.1 2 = u.2.2.1 2 := by rw [hNN]
      have hPw : WP (lvN u p t wv A B so al ch many m).2 := fun q hq => by rw [hI]; exact hP q hq
      obtain ⟨T, N, eT, eN, hN0, hN6, hTN⟩ := hR m (by omega)
      have eT' : (lvN u p t wv A B so al ch many m).2.2.1 41 (13 * t + m) = lN T := by rw [lvN_n (by omega)]; exact eT
      have eN' : (lvN u p t wv A B so al ch many m).2.2.1 42 (13 * t + m) = lN N := by rw [lvN_n (by omega)]; exact eN
      obtain ⟨part, epart⟩ : ∃ c, c = lvPart u p wv so al ch many m := ⟨_, rfl⟩
      have hpart : part ≤ 1300 := by
        rw [epart, lvPart]
        have h5 : so * lvBy many ≤ 100 * 12 := Nat.mul_le_mul (by omega) hby.1
        split <;> split <;> omega
      have hM2 : B * al * lvBy many ≤ 1000000 * 100 * 12 := Nat.mul_le_mul (Nat.mul_le_mul hB6 hal) hby.1
      have hM3 : 0 < B * al * lvBy many := Nat.mul_pos (Nat.mul_pos hB0 (by omega)) (by omega)
      have hX2 : A * part ≤ 1000000 * 1300 := Nat.mul_le_mul (by omega) hpart
      have hU1 : T * (B * al * lvBy many) ≤ 1000000 * (1000000 * 100 * 12) := Nat.mul_le_mul (by omega) hM2
      have hU2 : A * part * N ≤ 1000000 * 1300 * 1000000 := Nat.mul_le_mul hX2 hN6
      have hD2 : N * (B * al * lvBy many) ≤ 1000000 * (1000000 * 100 * 12) := Nat.mul_le_mul hN6 hM2
      have hD3 : 0 < N * (B * al * lvBy many) := Nat.mul_pos hN0 hM3
      have k262 : True → AW x (RQ x (PU x.g ad sg0 th (some (.int (b2i (leaves u p t).1))) (leaves u p t).2) noX (rmM 4).cells (rmM 4).slots) 0 0 sg 262 [(0, .ref (ad 0)), (1, .int (nI p)), (2, .int (nI t)), (3, .int (nI (13 * t + p))), (4, .long (lN A)), (6, .long (lN B)), (8, .int wv), (9, .int (b2i ch)), (10, .int (nI many)), (11, .long (lN so)), (13, .long (lN al)), (15, .int z), (16, .int (nI m)), (19, .long (lN (lvBy many))), (21, .long (lN part))] [] := by
        intro _
        refine aw_lload C dX9_leaves_262 rfl rfl ?_
        refine aw_lconst (v := 0) C dX9_leaves_264 rfl rfl ?_
        refine aw_lcmp C dX9_leaves_265 rfl ?_
        refine aw_if_le (tgt := 308) C dX9_leaves_266 (by decide) rfl (fun c266 => ?_) (fun c266 => ?_)
        · refine aw_iinc (v' := nI (m + 1)) (ls' := [(16, _), (0, _), (1, _), (2, _), (3, _), (4, _), (6, _), (8, _), (9, _), (10, _), (11, _), (13, _), (15, _), (19, _), (21, _)]) C dX9_leaves_308 rfl (by decide) (nI_1 m) rfl rfl ?_
          refine aw_goto (tgt := 126) C dX9_leaves_311 (by decide) ?_
          refine aw_pick (ls' := [(0, _), (1, _), (2, _), (3, _), (4, _), (6, _), (8, _), (9, _), (10, _), (11, _), (13, _), (15, _), (16, _)]) [1, 2, 3, 4, 5, 6, 7, 8, 9, 10, 11, 12, 0] rfl ?_
          have hp0 : ¬ 0 < part := by
            have h9 := lgc_le.mp c266
            rw [show (0 : Int64) = lN 0 from rfl, pk_lLT (by decide) (by omega)] at h9
            exact h9
          have e : (lvN u p t wv A B so al ch many (m + 1)) = (lvN u p t wv A B so al ch many m) := by rw [lvN, if_neg (by rw [← epart]; exact hp0)]
          exact ih (m + 1) _ sg (by omega) (by rw [e]; exact hz) (by rw [e]; exact hM) hF
        · have hp0 : 0 < part := by
            have h9 := Classical.byContradiction (fun q => c266 (lgc_le.mpr q))
            rw [show (0 : Int64) = lN 0 from rfl, pk_lLT (by decide) (by omega)] at h9
            exact h9
          refine aw_aload_n C dX9_leaves_269 rfl rfl rfl ?_
          refine aw_bipush (v := 13) C dX9_leaves_270 rfl rfl ?_
          refine aw_iload_n C dX9_leaves_272 rfl rfl rfl ?_
          refine aw_imul C dX9_leaves_273 rfl ?_
          refine aw_iload C dX9_leaves_274 rfl rfl ?_
          refine aw_iadd C dX9_leaves_276 rfl ?_
          refine aw_lload C dX9_leaves_277 rfl rfl ?_
          refine aw_lload C dX9_leaves_279 rfl rfl ?_
          refine aw_lmul C dX9_leaves_281 rfl ?_
          rw [lN_mul]
          refine aw_lload C dX9_leaves_282 rfl rfl ?_
          refine aw_lload C dX9_leaves_284 rfl rfl ?_
          refine aw_lmul C dX9_leaves_286 rfl ?_
          rw [lN_mul]
          refine aw_lload C dX9_leaves_287 rfl rfl ?_
          refine aw_lmul C dX9_leaves_289 rfl ?_
          rw [lN_mul, show (13 : Int32) * nI t + nI m = nI (13 * t + m) by rw [show (13 : Int32) = nI 13 from rfl, pk_mul, nI_add]]
          refine mw_callV C k_X9_207 hM (M_adds hl hst hM (t := T) (n := N) (U := T * (B * al * lvBy many) + A * part * N) (D := N * (B * al * lvBy many)) (i := 13 * t + m) (by omega) eT' eN' add_U rfl (by omega) (by omega) hD3) ⟨by decide, by decide⟩ rfl rfl rfl (Nat.le_of_ble_eq_true rfl) dX9_leaves_290 rfl (fun v sg1 hq => ?_)
          obtain ⟨rfl, hM1, hF1⟩ := hq
          have hF := MF.tr hF hF1
          have e1 : (lvN u p t wv A B so al ch many (m + 1)) = (fOk (lvN u p t wv A B so al ch many m).2 (13 * t + m) (A * part) (B * al * lvBy many) true && (lvN u p t wv A B so al ch many m).1, fPut (lvN u p t wv A B so al ch many m).2 (13 * t + m) (A * part) (B * al * lvBy many) true) := by rw [lvN, ← epart, if_pos hp0]
          have o1 : fOk (lvN u p t wv A B so al ch many m).2 (13 * t + m) (A * part) (B * al * lvBy many) true = decide (N * (B * al * lvBy many) / Nat.gcd (T * (B * al * lvBy many) + A * part * N) (N * (B * al * lvBy many)) ≤ 1000000) := by
            rw [fOk, eT', eN', vN_lN (by omega), vN_lN (by omega)]; rfl
          have hM : MS x.g ad th (fPut (lvN u p t wv A B so al ch many m).2 (13 * t + m) (A * part) (B * al * lvBy many) true) sg1 := by
            rw [fPut, eT', eN', vN_lN (by omega), vN_lN (by omega)]
            exact hM1
          refine aw_if_eq (tgt := 305) C dX9_leaves_293 (by decide) rfl (fun c293 => ?_) (fun c293 => ?_)
          · have c293 := fa_of c293
            refine aw_iconst (v := 0) C dX9_leaves_305 rfl rfl ?_
            refine aw_istore (ls' := [(15, _), (0, _), (1, _), (2, _), (3, _), (4, _), (6, _), (8, _), (9, _), (10, _), (11, _), (13, _), (16, _), (19, _), (21, _)]) C dX9_leaves_306 (by decide) rfl rfl ?_
            refine aw_iinc (v' := nI (m + 1)) (ls' := [(16, _), (15, _), (0, _), (1, _), (2, _), (3, _), (4, _), (6, _), (8, _), (9, _), (10, _), (11, _), (13, _), (19, _), (21, _)]) C dX9_leaves_308 rfl (by decide) (nI_1 m) rfl rfl ?_
            refine aw_goto (tgt := 126) C dX9_leaves_311 (by decide) ?_
            refine aw_pick (ls' := [(0, _), (1, _), (2, _), (3, _), (4, _), (6, _), (8, _), (9, _), (10, _), (11, _), (13, _), (15, _), (16, _)]) [2, 3, 4, 5, 6, 7, 8, 9, 10, 11, 12, 1, 0] rfl ?_
            exact ih (m + 1) _ sg1 (by omega) (by rw [e1, o1]; simp [b2i, c293]) (by rw [e1]; exact hM) hF
          · have c293 := tr_of c293
            refine aw_iload C dX9_leaves_296 rfl rfl ?_
            refine aw_if_eq (tgt := 305) C dX9_leaves_298 (by decide) rfl (fun c298 => ?_) (fun c298 => ?_)
            · refine aw_iconst (v := 0) C dX9_leaves_305 rfl rfl ?_
              refine aw_istore (ls' := [(15, _), (0, _), (1, _), (2, _), (3, _), (4, _), (6, _), (8, _), (9, _), (10, _), (11, _), (13, _), (16, _), (19, _), (21, _)]) C dX9_leaves_306 (by decide) rfl rfl ?_
              refine aw_iinc (v' := nI (m + 1)) (ls' := [(16, _), (15, _), (0, _), (1, _), (2, _), (3, _), (4, _), (6, _), (8, _), (9, _), (10, _), (11, _), (13, _), (19, _), (21, _)]) C dX9_leaves_308 rfl (by decide) (nI_1 m) rfl rfl ?_
              refine aw_goto (tgt := 126) C dX9_leaves_311 (by decide) ?_
              refine aw_pick (ls' := [(0, _), (1, _), (2, _), (3, _), (4, _), (6, _), (8, _), (9, _), (10, _), (11, _), (13, _), (15, _), (16, _)]) [2, 3, 4, 5, 6, 7, 8, 9, 10, 11, 12, 1, 0] rfl ?_
              have h98 : b2i (lvN u p t wv A B so al ch many m).1 = 0 := hz ▸ c298
              have h98 := fa_of h98
              exact ih (m + 1) _ sg1 (by omega) (by rw [e1, o1]; simp [b2i, c293, h98]) (by rw [e1]; exact hM) hF
            · refine aw_iconst (v := 1) C dX9_leaves_301 rfl rfl ?_
              refine aw_goto (tgt := 306) C dX9_leaves_302 (by decide) ?_
              refine aw_istore (ls' := [(15, _), (0, _), (1, _), (2, _), (3, _), (4, _), (6, _), (8, _), (9, _), (10, _), (11, _), (13, _), (16, _), (19, _), (21, _)]) C dX9_leaves_306 (by decide) rfl rfl ?_
              refine aw_iinc (v' := nI (m + 1)) (ls' := [(16, _), (15, _), (0, _), (1, _), (2, _), (3, _), (4, _), (6, _), (8, _), (9, _), (10, _), (11, _), (13, _), (19, _), (21, _)]) C dX9_leaves_308 rfl (by decide) (nI_1 m) rfl rfl ?_
              refine aw_goto (tgt := 126) C dX9_leaves_311 (by decide) ?_
              refine aw_pick (ls' := [(0, _), (1, _), (2, _), (3, _), (4, _), (6, _), (8, _), (9, _), (10, _), (11, _), (13, _), (15, _), (16, _)]) [2, 3, 4, 5, 6, 7, 8, 9, 10, 11, 12, 1, 0] rfl ?_
              have h98 : ¬ b2i (lvN u p t wv A B so al ch many m).1 = 0 := hz ▸ c298
              have h98 := tr_of h98
              exact ih (m + 1) _ sg1 (by omega) (by rw [e1, o1]; simp [b2i, c293, h98]) (by rw [e1]; exact hM) hF
      have k218 : ∀ (gt : Bool), gt = lvGets u p ch many m → AW x (RQ x (PU x.g ad sg0 th (some (.int (b2i (leaves u p t).1))) (leaves u p t).2) noX (rmM 4).cells (rmM 4).slots) 0 0 sg 218 [(0, .ref (ad 0)), (1, .int (nI p)), (2, .int (nI t)), (3, .int (nI (13 * t + p))), (4, .long (lN A)), (6, .long (lN B)), (8, .int wv), (9, .int (b2i ch)), (10, .int (nI many)), (11, .long (lN so)), (13, .long (lN al)), (15, .int z), (16, .int (nI m)), (18, .int (b2i gt)), (19, .long (lN (lvBy many)))] [] := by
        intro gt hgt
        refine aw_iload C dX9_leaves_218 rfl rfl ?_
        refine aw_iconst (v := -1) C dX9_leaves_220 rfl rfl ?_
        refine aw_icmp_eq (tgt := 244) C dX9_leaves_221 (by decide) rfl (fun c221 => ?_) (fun c221 => ?_)
        · refine aw_lconst (v := 0) C dX9_leaves_244 rfl rfl ?_
          refine aw_iload C dX9_leaves_245 rfl rfl ?_
          refine aw_if_eq (tgt := 258) C dX9_leaves_247 (by decide) rfl (fun c247 => ?_) (fun c247 => ?_)
          · have c247 := fa_of c247
            refine aw_lconst (v := 0) C dX9_leaves_258 rfl rfl ?_
            refine aw_ladd C dX9_leaves_259 rfl ?_
            have hs : part = 0 + 0 := by rw [epart, lvPart, if_neg (by rintro ⟨q, -⟩; exact q c221), ← hgt, if_neg (by rw [c247]; decide)]
            rw [show (0 : Int64) + (0 : Int64) = lN part by rw [hs]; rfl]
            refine aw_lstore (ls' := [(21, _), (0, _), (1, _), (2, _), (3, _), (4, _), (6, _), (8, _), (9, _), (10, _), (11, _), (13, _), (15, _), (16, _), (18, _), (19, _)]) C dX9_leaves_260 (by decide) rfl rfl ?_
            refine aw_pick (ls' := [(0, _), (1, _), (2, _), (3, _), (4, _), (6, _), (8, _), (9, _), (10, _), (11, _), (13, _), (15, _), (16, _), (19, _), (21, _)]) [1, 2, 3, 4, 5, 6, 7, 8, 9, 10, 11, 12, 13, 15, 0] rfl ?_
            exact k262 trivial
          · have c247 := tr_of c247
            refine aw_lload C dX9_leaves_250 rfl rfl ?_
            refine aw_lload C dX9_leaves_252 rfl rfl ?_
            refine aw_lsub C dX9_leaves_254 rfl ?_
            refine aw_goto (tgt := 259) C dX9_leaves_255 (by decide) ?_
            refine aw_ladd C dX9_leaves_259 rfl ?_
            have hs : part = 0 + (al - so) := by rw [epart, lvPart, if_neg (by rintro ⟨q, -⟩; exact q c221), ← hgt, if_pos c247]
            rw [show (0 : Int64) + (lN al - lN so) = lN part by rw [hs, lN_sub hso, show (0 : Int64) = lN 0 from rfl, lN_add]]
            refine aw_lstore (ls' := [(21, _), (0, _), (1, _), (2, _), (3, _), (4, _), (6, _), (8, _), (9, _), (10, _), (11, _), (13, _), (15, _), (16, _), (18, _), (19, _)]) C dX9_leaves_260 (by decide) rfl rfl ?_
            refine aw_pick (ls' := [(0, _), (1, _), (2, _), (3, _), (4, _), (6, _), (8, _), (9, _), (10, _), (11, _), (13, _), (15, _), (16, _), (19, _), (21, _)]) [1, 2, 3, 4, 5, 6, 7, 8, 9, 10, 11, 12, 13, 15, 0] rfl ?_
            exact k262 trivial
        · obtain ⟨j, hj, ej, hiw⟩ := hor.resolve_left c221
          have hjc := clampI (n := j) (by omega)
          refine aw_iload C dX9_leaves_224 rfl rfl ?_
          refine aw_aload_n C dX9_leaves_226 rfl rfl rfl ?_
          refine aw_getf C f_X9_38 hM.1 rfl dX9_leaves_227 rfl ?_
          refine aw_iload C dX9_leaves_230 rfl rfl ?_
          refine mw_iald (k := 13) (N := 60) C hM rfl rfl (i := j) ej (by omega) dX9_leaves_232 rfl ?_
          rw [show (lvN u p t wv A B so al ch many m).2.1 13 j = u.1 13 wv.toNatClampNeg by rw [hI, ej, hjc]]
          refine aw_icmp_ne (tgt := 244) C dX9_leaves_233 (by decide) rfl (fun c233 => ?_) (fun c233 => ?_)
          · refine aw_lconst (v := 0) C dX9_leaves_244 rfl rfl ?_
            refine aw_iload C dX9_leaves_245 rfl rfl ?_
            refine aw_if_eq (tgt := 258) C dX9_leaves_247 (by decide) rfl (fun c247 => ?_) (fun c247 => ?_)
            · have c247 := fa_of c247
              refine aw_lconst (v := 0) C dX9_leaves_258 rfl rfl ?_
              refine aw_ladd C dX9_leaves_259 rfl ?_
              have hs : part = 0 + 0 := by rw [epart, lvPart, if_neg (by rintro ⟨-, q⟩; exact c233 q), ← hgt, if_neg (by rw [c247]; decide)]
              rw [show (0 : Int64) + (0 : Int64) = lN part by rw [hs]; rfl]
              refine aw_lstore (ls' := [(21, _), (0, _), (1, _), (2, _), (3, _), (4, _), (6, _), (8, _), (9, _), (10, _), (11, _), (13, _), (15, _), (16, _), (18, _), (19, _)]) C dX9_leaves_260 (by decide) rfl rfl ?_
              refine aw_pick (ls' := [(0, _), (1, _), (2, _), (3, _), (4, _), (6, _), (8, _), (9, _), (10, _), (11, _), (13, _), (15, _), (16, _), (19, _), (21, _)]) [1, 2, 3, 4, 5, 6, 7, 8, 9, 10, 11, 12, 13, 15, 0] rfl ?_
              exact k262 trivial
            · have c247 := tr_of c247
              refine aw_lload C dX9_leaves_250 rfl rfl ?_
              refine aw_lload C dX9_leaves_252 rfl rfl ?_
              refine aw_lsub C dX9_leaves_254 rfl ?_
              refine aw_goto (tgt := 259) C dX9_leaves_255 (by decide) ?_
              refine aw_ladd C dX9_leaves_259 rfl ?_
              have hs : part = 0 + (al - so) := by rw [epart, lvPart, if_neg (by rintro ⟨-, q⟩; exact c233 q), ← hgt, if_pos c247]
              rw [show (0 : Int64) + (lN al - lN so) = lN part by rw [hs, lN_sub hso, show (0 : Int64) = lN 0 from rfl, lN_add]]
              refine aw_lstore (ls' := [(21, _), (0, _), (1, _), (2, _), (3, _), (4, _), (6, _), (8, _), (9, _), (10, _), (11, _), (13, _), (15, _), (16, _), (18, _), (19, _)]) C dX9_leaves_260 (by decide) rfl rfl ?_
              refine aw_pick (ls' := [(0, _), (1, _), (2, _), (3, _), (4, _), (6, _), (8, _), (9, _), (10, _), (11, _), (13, _), (15, _), (16, _), (19, _), (21, _)]) [1, 2, 3, 4, 5, 6, 7, 8, 9, 10, 11, 12, 13, 15, 0] rfl ?_
              exact k262 trivial
          · refine aw_lload C dX9_leaves_236 rfl rfl ?_
            refine aw_lload C dX9_leaves_238 rfl rfl ?_
            refine aw_lmul C dX9_leaves_240 rfl ?_
            refine aw_goto (tgt := 245) C dX9_leaves_241 (by decide) ?_
            refine aw_iload C dX9_leaves_245 rfl rfl ?_
            refine aw_if_eq (tgt := 258) C dX9_leaves_247 (by decide) rfl (fun c247 => ?_) (fun c247 => ?_)
            · have c247 := fa_of c247
              refine aw_lconst (v := 0) C dX9_leaves_258 rfl rfl ?_
              refine aw_ladd C dX9_leaves_259 rfl ?_
              have hs : part = so * lvBy many + 0 := by rw [epart, lvPart, if_pos ⟨c221, c233⟩, ← hgt, if_neg (by rw [c247]; decide)]
              rw [show lN so * lN (lvBy many) + (0 : Int64) = lN part by rw [hs, lN_mul, show (0 : Int64) = lN 0 from rfl, lN_add]]
              refine aw_lstore (ls' := [(21, _), (0, _), (1, _), (2, _), (3, _), (4, _), (6, _), (8, _), (9, _), (10, _), (11, _), (13, _), (15, _), (16, _), (18, _), (19, _)]) C dX9_leaves_260 (by decide) rfl rfl ?_
              refine aw_pick (ls' := [(0, _), (1, _), (2, _), (3, _), (4, _), (6, _), (8, _), (9, _), (10, _), (11, _), (13, _), (15, _), (16, _), (19, _), (21, _)]) [1, 2, 3, 4, 5, 6, 7, 8, 9, 10, 11, 12, 13, 15, 0] rfl ?_
              exact k262 trivial
            · have c247 := tr_of c247
              refine aw_lload C dX9_leaves_250 rfl rfl ?_
              refine aw_lload C dX9_leaves_252 rfl rfl ?_
              refine aw_lsub C dX9_leaves_254 rfl ?_
              refine aw_goto (tgt := 259) C dX9_leaves_255 (by decide) ?_
              refine aw_ladd C dX9_leaves_259 rfl ?_
              have hs : part = so * lvBy many + (al - so) := by rw [epart, lvPart, if_pos ⟨c221, c233⟩, ← hgt, if_pos c247]
              rw [show lN so * lN (lvBy many) + (lN al - lN so) = lN part by rw [hs, lN_mul, lN_sub hso, lN_add]]
              refine aw_lstore (ls' := [(21, _), (0, _), (1, _), (2, _), (3, _), (4, _), (6, _), (8, _), (9, _), (10, _), (11, _), (13, _), (15, _), (16, _), (18, _), (19, _)]) C dX9_leaves_260 (by decide) rfl rfl ?_
              refine aw_pick (ls' := [(0, _), (1, _), (2, _), (3, _), (4, _), (6, _), (8, _), (9, _), (10, _), (11, _), (13, _), (15, _), (16, _), (19, _), (21, _)]) [1, 2, 3, 4, 5, 6, 7, 8, 9, 10, 11, 12, 13, 15, 0] rfl ?_
              exact k262 trivial
      have k204 : ∀ (gt : Bool), gt = lvGets u p ch many m → AW x (RQ x (PU x.g ad sg0 th (some (.int (b2i (leaves u p t).1))) (leaves u p t).2) noX (rmM 4).cells (rmM 4).slots) 0 0 sg 204 [(0, .ref (ad 0)), (1, .int (nI p)), (2, .int (nI t)), (3, .int (nI (13 * t + p))), (4, .long (lN A)), (6, .long (lN B)), (8, .int wv), (9, .int (b2i ch)), (10, .int (nI many)), (11, .long (lN so)), (13, .long (lN al)), (15, .int z), (16, .int (nI m)), (18, .int (b2i gt))] [] := by
        intro gt hgt
        refine aw_iload C dX9_leaves_204 rfl rfl ?_
        refine aw_if_ne (tgt := 213) C dX9_leaves_206 (by decide) rfl (fun c206 => ?_) (fun c206 => ?_)
        · refine aw_iload C dX9_leaves_213 rfl rfl ?_
          refine aw_i2l C dX9_leaves_215 rfl ?_
          rw [nI_l (by omega), show lN many = lN (lvBy many) by rw [lvBy, if_neg (fun q => c206 (by rw [q]; rfl))]]
          refine aw_lstore (ls' := [(19, _), (0, _), (1, _), (2, _), (3, _), (4, _), (6, _), (8, _), (9, _), (10, _), (11, _), (13, _), (15, _), (16, _), (18, _)]) C dX9_leaves_216 (by decide) rfl rfl ?_
          refine aw_pick (ls' := [(0, _), (1, _), (2, _), (3, _), (4, _), (6, _), (8, _), (9, _), (10, _), (11, _), (13, _), (15, _), (16, _), (18, _), (19, _)]) [1, 2, 3, 4, 5, 6, 7, 8, 9, 10, 11, 12, 13, 14, 0] rfl ?_
          exact k218 gt hgt
        · refine aw_lconst (v := 1) C dX9_leaves_209 rfl rfl ?_
          refine aw_goto (tgt := 216) C dX9_leaves_210 (by decide) ?_
          rw [show (1 : Int64) = lN (lvBy many) by rw [lvBy, if_pos ((nI_eq (b := 0) (by omega) (by decide)).mp c206)]; rfl]
          refine aw_lstore (ls' := [(19, _), (0, _), (1, _), (2, _), (3, _), (4, _), (6, _), (8, _), (9, _), (10, _), (11, _), (13, _), (15, _), (16, _), (18, _)]) C dX9_leaves_216 (by decide) rfl rfl ?_
          refine aw_pick (ls' := [(0, _), (1, _), (2, _), (3, _), (4, _), (6, _), (8, _), (9, _), (10, _), (11, _), (13, _), (15, _), (16, _), (18, _), (19, _)]) [1, 2, 3, 4, 5, 6, 7, 8, 9, 10, 11, 12, 13, 14, 0] rfl ?_
          exact k218 gt hgt
      refine aw_iload C dX9_leaves_126 rfl rfl ?_
      refine aw_bipush (v := 13) C dX9_leaves_128 rfl rfl ?_
      refine aw_icmp_ge (tgt := 314) C dX9_leaves_130 (by decide) rfl (fun c130 => ?_) (fun c130 => ?_)
      · exact absurd c130 (by rw [show (13 : Int32) = nI 13 from rfl, nI_leI (by omega) (by omega)]; omega)
      · refine aw_iload C dX9_leaves_133 rfl rfl ?_
        refine aw_bipush (v := 12) C dX9_leaves_135 rfl rfl ?_
        refine aw_icmp_ne (tgt := 144) C dX9_leaves_137 (by decide) rfl (fun c137 => ?_) (fun c137 => ?_)
        · refine aw_iconst (v := 0) C dX9_leaves_144 rfl rfl ?_
          refine aw_istore (ls' := [(17, _), (0, _), (1, _), (2, _), (3, _), (4, _), (6, _), (8, _), (9, _), (10, _), (11, _), (13, _), (15, _), (16, _)]) C dX9_leaves_145 (by decide) rfl rfl ?_
          refine aw_iload C dX9_leaves_147 rfl rfl ?_
          refine aw_if_eq (tgt := 165) C dX9_leaves_149 (by decide) rfl (fun _ => ?_) (fun h => by first | exact absurd h (by decide) | exact absurd (by decide) h)
          refine aw_iload C dX9_leaves_165 rfl rfl ?_
          refine aw_aload_n C dX9_leaves_167 rfl rfl rfl ?_
          refine aw_getf C f_X9_121 hM.1 rfl dX9_leaves_168 rfl ?_
          refine aw_icmp_ge (tgt := 201) C dX9_leaves_171 (by decide) rfl (fun c171 => ?_) (fun c171 => ?_)
          · refine aw_iconst (v := 0) C dX9_leaves_201 rfl rfl ?_
            refine aw_istore (ls' := [(18, _), (17, _), (0, _), (1, _), (2, _), (3, _), (4, _), (6, _), (8, _), (9, _), (10, _), (11, _), (13, _), (15, _), (16, _)]) C dX9_leaves_202 (by decide) rfl rfl ?_
            refine aw_pick (ls' := [(0, _), (1, _), (2, _), (3, _), (4, _), (6, _), (8, _), (9, _), (10, _), (11, _), (13, _), (15, _), (16, _), (18, _)]) [2, 3, 4, 5, 6, 7, 8, 9, 10, 11, 12, 13, 14, 0] rfl ?_
            exact k204 false (by
              rw [lvGets, if_neg (fun q => c137 (by rw [q]; rfl))]; rw [h2, nI_leI (by omega) (by omega)] at c171; simp; omega)
          · refine aw_iload C dX9_leaves_174 rfl rfl ?_
            refine aw_iload_n C dX9_leaves_176 rfl rfl rfl ?_
            refine aw_icmp_eq (tgt := 201) C dX9_leaves_177 (by decide) rfl (fun c177 => ?_) (fun c177 => ?_)
            · refine aw_iconst (v := 0) C dX9_leaves_201 rfl rfl ?_
              refine aw_istore (ls' := [(18, _), (17, _), (0, _), (1, _), (2, _), (3, _), (4, _), (6, _), (8, _), (9, _), (10, _), (11, _), (13, _), (15, _), (16, _)]) C dX9_leaves_202 (by decide) rfl rfl ?_
              refine aw_pick (ls' := [(0, _), (1, _), (2, _), (3, _), (4, _), (6, _), (8, _), (9, _), (10, _), (11, _), (13, _), (15, _), (16, _), (18, _)]) [2, 3, 4, 5, 6, 7, 8, 9, 10, 11, 12, 13, 14, 0] rfl ?_
              exact k204 false (by
                rw [lvGets, if_neg (fun q => c137 (by rw [q]; rfl))]; have h9 := (nI_eq (by omega) (by omega)).mp c177; simp [h9])
            · refine aw_iload C dX9_leaves_180 rfl rfl ?_
              refine aw_if_le (tgt := 201) C dX9_leaves_182 (by decide) rfl (fun c182 => ?_) (fun c182 => ?_)
              · refine aw_iconst (v := 0) C dX9_leaves_201 rfl rfl ?_
                refine aw_istore (ls' := [(18, _), (17, _), (0, _), (1, _), (2, _), (3, _), (4, _), (6, _), (8, _), (9, _), (10, _), (11, _), (13, _), (15, _), (16, _)]) C dX9_leaves_202 (by decide) rfl rfl ?_
                refine aw_pick (ls' := [(0, _), (1, _), (2, _), (3, _), (4, _), (6, _), (8, _), (9, _), (10, _), (11, _), (13, _), (15, _), (16, _), (18, _)]) [2, 3, 4, 5, 6, 7, 8, 9, 10, 11, 12, 13, 14, 0] rfl ?_
                exact k204 false (by
                  rw [lvGets, if_neg (fun q => c137 (by rw [q]; rfl))]; have h9 : many = 0 := by rw [show (0 : Int32) = nI 0 from rfl, nI_leI (by omega) (by decide)] at c182; omega
                  simp [h9])
              · refine aw_aload_n C dX9_leaves_185 rfl rfl rfl ?_
                refine aw_iload C dX9_leaves_186 rfl rfl ?_
                refine aw_iload_n C dX9_leaves_188 rfl rfl rfl ?_
                refine aw_iload C dX9_leaves_189 rfl rfl ?_
                refine mw_callVp C k_X9_224 hM (M_isHeir hl hst hM hPw (show m < 12 by rw [h2, nI_leI (by omega) (by omega)] at c171; omega) hp) ⟨by decide, by decide⟩ rfl rfl rfl (Nat.le_of_ble_eq_true rfl) dX9_leaves_191 rfl ?_
                refine aw_if_eq (tgt := 201) C dX9_leaves_194 (by decide) rfl (fun c194 => ?_) (fun c194 => ?_)
                · have c194 := fa_of c194
                  refine aw_iconst (v := 0) C dX9_leaves_201 rfl rfl ?_
                  refine aw_istore (ls' := [(18, _), (17, _), (0, _), (1, _), (2, _), (3, _), (4, _), (6, _), (8, _), (9, _), (10, _), (11, _), (13, _), (15, _), (16, _)]) C dX9_leaves_202 (by decide) rfl rfl ?_
                  refine aw_pick (ls' := [(0, _), (1, _), (2, _), (3, _), (4, _), (6, _), (8, _), (9, _), (10, _), (11, _), (13, _), (15, _), (16, _), (18, _)]) [2, 3, 4, 5, 6, 7, 8, 9, 10, 11, 12, 13, 14, 0] rfl ?_
                  exact k204 false (by
                    rw [lvGets, if_neg (fun q => c137 (by rw [q]; rfl))]
                    have h9 : 0 < many := by rw [show (0 : Int32) = nI 0 from rfl, nI_leI (by omega) (by decide)] at c182; omega
                    have h8 : m < u.2.2.1 2 := by rw [h2, nI_leI (by omega) (by omega)] at c171; omega
                    have h7 : ¬ m = p := fun q => c177 (by rw [q])
                    rw [isHr_I hI] at c194
                    simp [h9, h8, h7, c194])
                · have c194 := tr_of c194
                  refine aw_iconst (v := 1) C dX9_leaves_197 rfl rfl ?_
                  refine aw_goto (tgt := 202) C dX9_leaves_198 (by decide) ?_
                  refine aw_istore (ls' := [(18, _), (17, _), (0, _), (1, _), (2, _), (3, _), (4, _), (6, _), (8, _), (9, _), (10, _), (11, _), (13, _), (15, _), (16, _)]) C dX9_leaves_202 (by decide) rfl rfl ?_
                  refine aw_pick (ls' := [(0, _), (1, _), (2, _), (3, _), (4, _), (6, _), (8, _), (9, _), (10, _), (11, _), (13, _), (15, _), (16, _), (18, _)]) [2, 3, 4, 5, 6, 7, 8, 9, 10, 11, 12, 13, 14, 0] rfl ?_
                  exact k204 true (by
                    rw [lvGets, if_neg (fun q => c137 (by rw [q]; rfl))]
                    have h9 : 0 < many := by rw [show (0 : Int32) = nI 0 from rfl, nI_leI (by omega) (by decide)] at c182; omega
                    have h8 : m < u.2.2.1 2 := by rw [h2, nI_leI (by omega) (by omega)] at c171; omega
                    have h7 : ¬ m = p := fun q => c177 (by rw [q])
                    rw [isHr_I hI] at c194
                    simp [h9, h8, h7, c194])
        · refine aw_iconst (v := 1) C dX9_leaves_140 rfl rfl ?_
          refine aw_goto (tgt := 145) C dX9_leaves_141 (by decide) ?_
          refine aw_istore (ls' := [(17, _), (0, _), (1, _), (2, _), (3, _), (4, _), (6, _), (8, _), (9, _), (10, _), (11, _), (13, _), (15, _), (16, _)]) C dX9_leaves_145 (by decide) rfl rfl ?_
          refine aw_iload C dX9_leaves_147 rfl rfl ?_
          refine aw_if_eq (tgt := 165) C dX9_leaves_149 (by decide) rfl (fun h => by first | exact absurd h (by decide) | exact absurd (by decide) h) (fun _ => ?_)
          refine aw_iload C dX9_leaves_152 rfl rfl ?_
          refine aw_if_ne (tgt := 161) C dX9_leaves_154 (by decide) rfl (fun c154 => ?_) (fun c154 => ?_)
          · refine aw_iconst (v := 0) C dX9_leaves_161 rfl rfl ?_
            refine aw_goto (tgt := 202) C dX9_leaves_162 (by decide) ?_
            refine aw_istore (ls' := [(18, _), (17, _), (0, _), (1, _), (2, _), (3, _), (4, _), (6, _), (8, _), (9, _), (10, _), (11, _), (13, _), (15, _), (16, _)]) C dX9_leaves_202 (by decide) rfl rfl ?_
            refine aw_pick (ls' := [(0, _), (1, _), (2, _), (3, _), (4, _), (6, _), (8, _), (9, _), (10, _), (11, _), (13, _), (15, _), (16, _), (18, _)]) [2, 3, 4, 5, 6, 7, 8, 9, 10, 11, 12, 13, 14, 0] rfl ?_
            exact k204 false (by
              rw [lvGets, if_pos ((nI_eq (by omega) (by decide)).mp (show nI m = nI 12 from c137))]; simp; exact fun q => c154 (by rw [q]; rfl))
          · refine aw_iconst (v := 1) C dX9_leaves_157 rfl rfl ?_
            refine aw_goto (tgt := 202) C dX9_leaves_158 (by decide) ?_
            refine aw_istore (ls' := [(18, _), (17, _), (0, _), (1, _), (2, _), (3, _), (4, _), (6, _), (8, _), (9, _), (10, _), (11, _), (13, _), (15, _), (16, _)]) C dX9_leaves_202 (by decide) rfl rfl ?_
            refine aw_pick (ls' := [(0, _), (1, _), (2, _), (3, _), (4, _), (6, _), (8, _), (9, _), (10, _), (11, _), (13, _), (15, _), (16, _), (18, _)]) [2, 3, 4, 5, 6, 7, 8, 9, 10, 11, 12, 13, 14, 0] rfl ?_
            exact k204 true (by
              rw [lvGets, if_pos ((nI_eq (by omega) (by decide)).mp (show nI m = nI 12 from c137))]; simp; exact (nI_eq (b := 0) (by omega) (by decide)).mp c154)
  have hlX : leavesX u p t = lvN u p t wv A B (lvCap ch (lvS0 u wv) (lvA0 u wv)).1 (lvCap ch (lvS0 u wv) (lvA0 u wv)).2 ch many 13 := by rw [leavesX, ← ewv, vA, vB, ← ech, ← emany]
  have k95 : ∀ (so al : Nat), so ≤ al → al ≤ 100 → 1 ≤ al → lvS0 u wv = so → lvA0 u wv = al → AW x (RQ x (PU x.g ad sg0 th (some (.int (b2i (leaves u p t).1))) (leaves u p t).2) noX (rmM 4).cells (rmM 4).slots) 0 0 sg 95 [(0, .ref (ad 0)), (1, .int (nI p)), (2, .int (nI t)), (3, .int (nI (13 * t + p))), (4, .long (lN A)), (6, .long (lN B)), (8, .int wv), (9, .int (b2i ch)), (10, .int (nI many)), (11, .long (lN so)), (13, .long (lN al))] [] := by
    intro so al hso hal hal1 hs0 ha0
    refine aw_iload C dX9_leaves_95 rfl rfl ?_
    refine aw_if_eq (tgt := 120) C dX9_leaves_97 (by decide) rfl (fun c97 => ?_) (fun c97 => ?_)
    · have c97 := fa_of c97
      refine aw_iconst (v := 1) C dX9_leaves_120 rfl rfl ?_
      refine aw_istore (ls' := [(15, _), (0, _), (1, _), (2, _), (3, _), (4, _), (6, _), (8, _), (9, _), (10, _), (11, _), (13, _)]) C dX9_leaves_121 (by decide) rfl rfl ?_
      refine aw_iconst (v := 0) C dX9_leaves_123 rfl rfl ?_
      refine aw_istore (ls' := [(16, _), (15, _), (0, _), (1, _), (2, _), (3, _), (4, _), (6, _), (8, _), (9, _), (10, _), (11, _), (13, _)]) C dX9_leaves_124 (by decide) rfl rfl ?_
      refine aw_pick (ls' := [(0, _), (1, _), (2, _), (3, _), (4, _), (6, _), (8, _), (9, _), (10, _), (11, _), (13, _), (15, _), (16, _)]) [2, 3, 4, 5, 6, 7, 8, 9, 10, 11, 12, 1, 0] rfl ?_
      exact loop so al hso hal hal1 (by rw [hlX, hs0, ha0, lvCap, c97]; rfl) 13 0 1 sg (by omega) rfl hM hF
    · have c97 := tr_of c97
      refine aw_ldc2 C dX9_leaves_100 q_X9_235 rfl ?_
      refine aw_lload C dX9_leaves_103 rfl rfl ?_
      refine aw_lmul C dX9_leaves_105 rfl ?_
      rw [show (2 : Int64) = lN 2 from rfl, lN_mul]
      refine aw_lload C dX9_leaves_106 rfl rfl ?_
      refine aw_lcmp C dX9_leaves_108 rfl ?_
      refine aw_if_le (tgt := 120) C dX9_leaves_109 (by decide) rfl (fun c109 => ?_) (fun c109 => ?_)
      · refine aw_iconst (v := 1) C dX9_leaves_120 rfl rfl ?_
        refine aw_istore (ls' := [(15, _), (0, _), (1, _), (2, _), (3, _), (4, _), (6, _), (8, _), (9, _), (10, _), (11, _), (13, _)]) C dX9_leaves_121 (by decide) rfl rfl ?_
        refine aw_iconst (v := 0) C dX9_leaves_123 rfl rfl ?_
        refine aw_istore (ls' := [(16, _), (15, _), (0, _), (1, _), (2, _), (3, _), (4, _), (6, _), (8, _), (9, _), (10, _), (11, _), (13, _)]) C dX9_leaves_124 (by decide) rfl rfl ?_
        have h9 : ¬ al < 2 * so := by
          have h9 := lgc_le.mp c109
          rw [pk_lLT (by omega) (by omega)] at h9
          exact h9
        refine aw_pick (ls' := [(0, _), (1, _), (2, _), (3, _), (4, _), (6, _), (8, _), (9, _), (10, _), (11, _), (13, _), (15, _), (16, _)]) [2, 3, 4, 5, 6, 7, 8, 9, 10, 11, 12, 1, 0] rfl ?_
        exact loop so al hso hal hal1 (by rw [hlX, hs0, ha0, lvCap, c97, if_neg (by simp; omega)]) 13 0 1 sg (by omega) rfl hM hF
      · refine aw_lconst (v := 1) C dX9_leaves_112 rfl rfl ?_
        refine aw_lstore (ls' := [(11, _), (0, _), (1, _), (2, _), (3, _), (4, _), (6, _), (8, _), (9, _), (10, _), (13, _)]) C dX9_leaves_113 (by decide) rfl rfl ?_
        refine aw_ldc2 C dX9_leaves_115 q_X9_235 rfl ?_
        refine aw_lstore (ls' := [(13, _), (11, _), (0, _), (1, _), (2, _), (3, _), (4, _), (6, _), (8, _), (9, _), (10, _)]) C dX9_leaves_118 (by decide) rfl rfl ?_
        refine aw_iconst (v := 1) C dX9_leaves_120 rfl rfl ?_
        refine aw_istore (ls' := [(15, _), (13, _), (11, _), (0, _), (1, _), (2, _), (3, _), (4, _), (6, _), (8, _), (9, _), (10, _)]) C dX9_leaves_121 (by decide) rfl rfl ?_
        refine aw_iconst (v := 0) C dX9_leaves_123 rfl rfl ?_
        refine aw_istore (ls' := [(16, _), (15, _), (13, _), (11, _), (0, _), (1, _), (2, _), (3, _), (4, _), (6, _), (8, _), (9, _), (10, _)]) C dX9_leaves_124 (by decide) rfl rfl ?_
        have h9 : al < 2 * so := by
          have h9 := Classical.byContradiction (fun q => c109 (lgc_le.mpr q))
          rw [pk_lLT (by omega) (by omega)] at h9
          exact h9
        refine aw_pick (ls' := [(0, _), (1, _), (2, _), (3, _), (4, _), (6, _), (8, _), (9, _), (10, _), (11, _), (13, _), (15, _), (16, _)]) [4, 5, 6, 7, 8, 9, 10, 11, 12, 3, 2, 1, 0] rfl ?_
        exact loop 1 2 (by decide) (by decide) (by decide) (by rw [hlX, hs0, ha0, lvCap, c97, if_pos (by simp; omega)]) 13 0 1 sg (by omega) rfl hM hF
  have k55 : AW x (RQ x (PU x.g ad sg0 th (some (.int (b2i (leaves u p t).1))) (leaves u p t).2) noX (rmM 4).cells (rmM 4).slots) 0 0 sg 55 [(0, .ref (ad 0)), (1, .int (nI p)), (2, .int (nI t)), (3, .int (nI (13 * t + p))), (4, .long (lN A)), (6, .long (lN B)), (8, .int wv), (9, .int (b2i ch)), (10, .int (nI many))] [] := by
    rcases hor with hw | ⟨j, hj, hw, hiw⟩
    · rw [hw]
      refine aw_iload C dX9_leaves_55 rfl rfl ?_
      refine aw_iconst (v := -1) C dX9_leaves_57 rfl rfl ?_
      refine aw_icmp_ne (tgt := 65) C dX9_leaves_58 (by decide) rfl (fun h => by first | exact absurd h (by decide) | exact absurd (by decide) h) (fun _ => ?_)
      refine aw_lconst (v := 0) C dX9_leaves_61 rfl rfl ?_
      refine aw_goto (tgt := 73) C dX9_leaves_62 (by decide) ?_
      refine aw_lstore (ls' := [(11, _), (0, _), (1, _), (2, _), (3, _), (4, _), (6, _), (8, _), (9, _), (10, _)]) C dX9_leaves_73 (by decide) rfl rfl ?_
      refine aw_iload C dX9_leaves_75 rfl rfl ?_
      refine aw_iconst (v := -1) C dX9_leaves_77 rfl rfl ?_
      refine aw_icmp_ne (tgt := 85) C dX9_leaves_78 (by decide) rfl (fun h => by first | exact absurd h (by decide) | exact absurd (by decide) h) (fun _ => ?_)
      refine aw_lconst (v := 1) C dX9_leaves_81 rfl rfl ?_
      refine aw_goto (tgt := 93) C dX9_leaves_82 (by decide) ?_
      refine aw_lstore (ls' := [(13, _), (11, _), (0, _), (1, _), (2, _), (3, _), (4, _), (6, _), (8, _), (9, _), (10, _)]) C dX9_leaves_93 (by decide) rfl rfl ?_
      refine aw_pick (ls' := [(0, _), (1, _), (2, _), (3, _), (4, _), (6, _), (8, _), (9, _), (10, _), (11, _), (13, _)]) [2, 3, 4, 5, 6, 7, 8, 9, 10, 1, 0] rfl ?_
      exact hw ▸ k95 0 1 (by decide) (by decide) (by decide) (by rw [lvS0, if_pos hw]) (by rw [lvA0, if_pos hw])
    · have hkj : u.1 11 j = 4 := by
        simp only [isW, Bool.and_eq_true, decide_eq_true_eq] at hiw
        exact hiw.1
      obtain ⟨-, xw, yw, exw, eyw, hx1, hxy, hy1⟩ := hL j hj hkj
      have hjc := clampI (n := j) (by omega)
      have hn1 : ¬ nI j = -1 := nI_nm1 (by omega)
      rw [hw]
      refine aw_iload C dX9_leaves_55 rfl rfl ?_
      refine aw_iconst (v := -1) C dX9_leaves_57 rfl rfl ?_
      refine aw_icmp_ne (tgt := 65) C dX9_leaves_58 (by decide) rfl (fun c58 => ?_) (fun c58 => ?_)
      · refine aw_aload_n C dX9_leaves_65 rfl rfl rfl ?_
        refine aw_getf C f_X9_44 hM.1 rfl dX9_leaves_66 rfl ?_
        refine aw_iload C dX9_leaves_69 rfl rfl ?_
        refine mw_iald (k := 15) (N := 60) C hM rfl rfl (i := j) rfl (by omega) dX9_leaves_71 rfl ?_
        refine aw_i2l C dX9_leaves_72 rfl ?_
        rw [exw, nI_l (by omega)]
        refine aw_lstore (ls' := [(11, _), (0, _), (1, _), (2, _), (3, _), (4, _), (6, _), (8, _), (9, _), (10, _)]) C dX9_leaves_73 (by decide) rfl rfl ?_
        refine aw_iload C dX9_leaves_75 rfl rfl ?_
        refine aw_iconst (v := -1) C dX9_leaves_77 rfl rfl ?_
        refine aw_icmp_ne (tgt := 85) C dX9_leaves_78 (by decide) rfl (fun c78 => ?_) (fun c78 => ?_)
        · refine aw_aload_n C dX9_leaves_85 rfl rfl rfl ?_
          refine aw_getf C f_X9_47 hM.1 rfl dX9_leaves_86 rfl ?_
          refine aw_iload C dX9_leaves_89 rfl rfl ?_
          refine mw_iald (k := 16) (N := 60) C hM rfl rfl (i := j) rfl (by omega) dX9_leaves_91 rfl ?_
          refine aw_i2l C dX9_leaves_92 rfl ?_
          rw [eyw, nI_l (by omega)]
          refine aw_lstore (ls' := [(13, _), (11, _), (0, _), (1, _), (2, _), (3, _), (4, _), (6, _), (8, _), (9, _), (10, _)]) C dX9_leaves_93 (by decide) rfl rfl ?_
          refine aw_pick (ls' := [(0, _), (1, _), (2, _), (3, _), (4, _), (6, _), (8, _), (9, _), (10, _), (11, _), (13, _)]) [2, 3, 4, 5, 6, 7, 8, 9, 10, 1, 0] rfl ?_
          exact hw ▸ k95 xw yw hxy hy1 (by omega) (by rw [lvS0, hw, if_neg hn1, hjc, exw, clampI (by omega)]) (by rw [lvA0, hw, if_neg hn1, hjc, eyw, clampI (by omega)])
        · exact absurd c78 hn1
      · exact absurd c58 hn1
  have k46 : ∀ (c : Bool), c = ch → AW x (RQ x (PU x.g ad sg0 th (some (.int (b2i (leaves u p t).1))) (leaves u p t).2) noX (rmM 4).cells (rmM 4).slots) 0 0 sg 46 [(0, .ref (ad 0)), (1, .int (nI p)), (2, .int (nI t)), (3, .int (nI (13 * t + p))), (4, .long (lN A)), (6, .long (lN B)), (8, .int wv), (9, .int (b2i c))] [] := by
    intro c hc
    refine aw_aload_n C dX9_leaves_46 rfl rfl rfl ?_
    refine aw_iload_n C dX9_leaves_47 rfl rfl rfl ?_
    refine aw_iload C dX9_leaves_48 rfl rfl ?_
    refine mw_callVp C k_X9_231 hM (M_heirs hl hst hM hN2 hP hp) ⟨by decide, by decide⟩ rfl rfl rfl (Nat.le_of_ble_eq_true rfl) dX9_leaves_50 rfl ?_
    rw [hc, show heirN u p ch (u.2.2.1 2) = many by rw [emany, ech, lvMany]]
    refine aw_istore (ls' := [(10, _), (0, _), (1, _), (2, _), (3, _), (4, _), (6, _), (8, _), (9, _)]) C dX9_leaves_53 (by decide) rfl rfl ?_
    refine aw_pick (ls' := [(0, _), (1, _), (2, _), (3, _), (4, _), (6, _), (8, _), (9, _), (10, _)]) [1, 2, 3, 4, 5, 6, 7, 8, 0] rfl ?_
    exact k55
  refine aw_bipush (v := 13) C dX9_leaves_0 rfl rfl ?_
  refine aw_iload_n C dX9_leaves_2 rfl rfl rfl ?_
  refine aw_imul C dX9_leaves_3 rfl ?_
  refine aw_iload_n C dX9_leaves_4 rfl rfl rfl ?_
  refine aw_iadd C dX9_leaves_5 rfl ?_
  rw [show (13 : Int32) * nI t + nI p = nI (13 * t + p) by rw [show (13 : Int32) = nI 13 from rfl, pk_mul, nI_add]]
  refine aw_istore_n (ls' := [(3, _), (0, _), (1, _), (2, _)]) C dX9_leaves_6 rfl (by decide) rfl rfl ?_
  refine aw_aload_n C dX9_leaves_7 rfl rfl rfl ?_
  refine aw_getf C f_X9_111 hM.1 rfl dX9_leaves_8 rfl ?_
  refine aw_iload_n C dX9_leaves_11 rfl rfl rfl ?_
  refine mw_lald (k := 41) (N := 104) C hM rfl rfl (i := 13 * t + p) rfl (by omega) dX9_leaves_12 rfl ?_
  rw [eA]
  refine aw_lstore (ls' := [(4, _), (3, _), (0, _), (1, _), (2, _)]) C dX9_leaves_13 (by decide) rfl rfl ?_
  refine aw_aload_n C dX9_leaves_15 rfl rfl rfl ?_
  refine aw_getf C f_X9_114 hM.1 rfl dX9_leaves_16 rfl ?_
  refine aw_iload_n C dX9_leaves_19 rfl rfl rfl ?_
  refine mw_lald (k := 42) (N := 104) C hM rfl rfl (i := 13 * t + p) rfl (by omega) dX9_leaves_20 rfl ?_
  rw [eB]
  refine aw_lstore (ls' := [(6, _), (4, _), (3, _), (0, _), (1, _), (2, _)]) C dX9_leaves_21 (by decide) rfl rfl ?_
  refine aw_aload_n C dX9_leaves_23 rfl rfl rfl ?_
  refine aw_iload_n C dX9_leaves_24 rfl rfl rfl ?_
  refine mw_callVp C k_X9_228 hM (M_willOf hl hst hM hN10 hD hp) ⟨by decide, by decide⟩ rfl rfl rfl (Nat.le_of_ble_eq_true rfl) dX9_leaves_25 rfl ?_
  rw [← ewv]
  refine aw_istore (ls' := [(8, _), (6, _), (4, _), (3, _), (0, _), (1, _), (2, _)]) C dX9_leaves_28 (by decide) rfl rfl ?_
  refine aw_aload_n C dX9_leaves_30 rfl rfl rfl ?_
  refine aw_iload_n C dX9_leaves_31 rfl rfl rfl ?_
  refine aw_iconst (v := 1) C dX9_leaves_32 rfl rfl ?_
  refine mw_callVp C k_X9_231 hM (M_heirs hl hst hM hN2 hP (cb := true) hp) ⟨by decide, by decide⟩ rfl rfl rfl (Nat.le_of_ble_eq_true rfl) dX9_leaves_33 rfl ?_
  refine aw_if_le (tgt := 43) C dX9_leaves_36 (by decide) rfl (fun c36 => ?_) (fun c36 => ?_)
  · refine aw_iconst (v := 0) C dX9_leaves_43 rfl rfl ?_
    refine aw_istore (ls' := [(9, _), (8, _), (6, _), (4, _), (3, _), (0, _), (1, _), (2, _)]) C dX9_leaves_44 (by decide) rfl rfl ?_
    refine aw_pick (ls' := [(0, _), (1, _), (2, _), (3, _), (4, _), (6, _), (8, _), (9, _)]) [5, 6, 7, 4, 3, 2, 1, 0] rfl ?_
    exact k46 false (by rw [ech, lvCh]; rw [show (0 : Int32) = nI 0 from rfl, nI_leI (by have := heirN_le (u := u) (p := p) (cb := true) (u.2.2.1 2); omega) (by decide)] at c36; simp; omega)
  · refine aw_iconst (v := 1) C dX9_leaves_39 rfl rfl ?_
    refine aw_goto (tgt := 44) C dX9_leaves_40 (by decide) ?_
    refine aw_istore (ls' := [(9, _), (8, _), (6, _), (4, _), (3, _), (0, _), (1, _), (2, _)]) C dX9_leaves_44 (by decide) rfl rfl ?_
    refine aw_pick (ls' := [(0, _), (1, _), (2, _), (3, _), (4, _), (6, _), (8, _), (9, _)]) [5, 6, 7, 4, 3, 2, 1, 0] rfl ?_
    exact k46 true (by rw [ech, lvCh]; rw [show (0 : Int32) = nI 0 from rfl, nI_leI (by have := heirN_le (u := u) (p := p) (cb := true) (u.2.2.1 2); omega) (by decide)] at c36; simp; omega)
