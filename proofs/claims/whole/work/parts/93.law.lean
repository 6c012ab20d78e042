/-! the law: a call of each kind beside the reference's -/
def SCR (x : Cx) (b L : Nat) (xs : Nat → Int32) : Prop := va_X b L xs x.s x.s.heap ∧ b < x.s.heap.size ∧ b < x.g.base
section SCRR
variable {x : Cx} {Q : State → Prop} {k n : Nat} {sg : Sg} {pc p1 p2 p3 p4 p5 : Nat} {ls : List (Nat × Value)} {st : List Value} {cc : ByteArray} {nL : Nat} {own : String} {R : Room} {ret : Option FieldType} {b L a j : Nat} {xs : Nat → Int32} {z : Int}
theorem aw_sld (C : AWC x cc nL own R ret) (hX : SCR x b L xs) (hj : j < L) (hL : L < 2 ^ 31) (hdg : decode cc pc = .ok (.iaload, 1)) (hpc : pc + 1 = p1) (kk : AW x Q k n sg p1 ls (.int (xs j) :: st)) : AW x Q k n sg pc ls (.int (nI j) :: .ref b :: st) := by
  subst hpc
  intro H locs la ws h1 h2 h3
  refine va_sld C.hx C.hb hX.1 hX.2.1 (Nat.not_le.mpr hX.2.2) h2 (vp_in_nI hj hL) hdg ?_
  rw [nI_clamp (by omega)]
  exact kk H locs la ws h1 h2 h3
theorem aw_slen (C : AWC x cc nL own R ret) (hX : SCR x b L xs) (hdg : decode cc pc = .ok (.arraylength, 1)) (hpc : pc + 1 = p1) (kk : AW x Q k n sg p1 ls (.int (nI L) :: st)) : AW x Q k n sg pc ls (.ref b :: st) := by
  subst hpc
  intro H locs la ws h1 h2 h3
  exact va_slen C.hx C.hb hX.1 hX.2.1 (Nat.not_le.mpr hX.2.2) h2 hdg (kk H locs la ws h1 h2 h3)
theorem aw_scr (C : AWC x cc nL own R ret) (hX : SCR x b L xs) (d0 : decode cc pc = .ok (.aload_n 0, 1)) (d1 : decode cc p1 = .ok (.iload 4, 2)) (d2 : decode cc p2 = .ok (.iconst z, 1)) (d3 : decode cc p3 = .ok (.iadd, 1)) (d4 : decode cc p4 = .ok (.iaload, 1)) (hz : Int32.ofInt z = nI j) (e1 : pc + 1 = p1) (e2 : p1 + 2 = p2) (e3 : p2 + 1 = p3) (e4 : p3 + 1 = p4) (e5 : p4 + 1 = p5) (h0 : lget ls 0 = some (.ref b)) (h4 : lget ls 4 = some (.int (nI a))) (hj : a + j < L) (hL : L < 2 ^ 31) (kk : AW x Q k n sg p5 ls (.int (xs (a + j)) :: st)) : AW x Q k n sg pc ls st := by
  refine aw_aload_n C d0 rfl h0 e1 ?_
  refine aw_iload C d1 h4 e2 ?_
  refine aw_iconst (v := nI j) C d2 hz e3 ?_
  refine aw_iadd C d3 e4 ?_
  rw [nI_add]
  exact aw_sld C hX hj hL d4 e5 kk
theorem aw_scr6 {z : Int32} (C : AWC x cc nL own R ret) (hX : SCR x b L xs) (d0 : decode cc pc = .ok (.aload_n 0, 1)) (d1 : decode cc p1 = .ok (.iload 4, 2)) (d2 : decode cc p2 = .ok (.bipush 6, 2)) (d3 : decode cc p3 = .ok (.iadd, 1)) (d4 : decode cc p4 = .ok (.iaload, 1)) (e1 : pc + 1 = p1) (e2 : p1 + 2 = p2) (e3 : p2 + 2 = p3) (e4 : p3 + 1 = p4) (e5 : p4 + 1 = p5) (h0 : lget ls 0 = some (.ref b)) (h4 : lget ls 4 = some (.int (nI a))) (hj : a + 6 < L) (hL : L < 2 ^ 31) (kk : AW x Q k n sg p5 ls (.int (xs (a + 6)) :: st)) : AW x Q k n sg pc ls st := by
  refine aw_aload_n C d0 rfl h0 e1 ?_
  refine aw_iload C d1 h4 e2 ?_
  refine aw_bipush (v := nI 6) C d2 rfl e3 ?_
  refine aw_iadd C d3 e4 ?_
  rw [nI_add]
  exact aw_sld C hX hj hL d4 e5 kk
end SCRR
/-- class and reference side by side, behind n calls -/
def LW (g : Gx) (ez N q1 q2 ao : Nat) (sg : Sg) : Prop := ∃ (ad : Nat → Nat → Nat) (am : Nat → Nat) (u : MU) (Y : GS) (th : Int32) (F : Nat → Int64), CS g ez ad u Y sg ∧ ad 0 0 = q1 ∧ MS g am th u sg ∧ am 0 = q2 ∧ CZ N u ∧ RP u Y ∧ sg ao = some (arJ g 1 F)
theorem LW.next {g : Gx} {ez N q1 q2 ao : Nat} {sg : Sg} (h : LW g ez N q1 q2 ao sg) : LW g ez (N + 1) q1 q2 ao sg := by
  obtain ⟨ad, am, u, Y, th, F, h1, h2, h3, h4, h5, h6, h7⟩ := h
  exact ⟨ad, am, u, Y, th, F, h1, h2, h3, h4, h5.next, h6, h7⟩
theorem law_after {g : Gx} {ez : Nat} {ad : Nat → Nat → Nat} {u : MU} {Y : GS} {sg s1 : Sg} {ao : Nat} {F : Nat → Int64} {val : Int32 → Int64} {o : Op} {am : Nat → Nat} {th : Int32} {v : Option Value} (hS : CS g ez ad u Y sg) (hM : MS g am th u sg) (ho : sg ao = some (arJ g 1 F)) (hR : RP u Y) (hq : HP g ez ad u Y sg ao F val o v s1) : v = some (.int o.1) ∧ ∃ ad' Y' F', CS g ez ad' o.2.2 Y' s1 ∧ ad' 0 0 = ad 0 0 ∧ MS g am th u s1 ∧ s1 ao = some (arJ g 1 F') ∧ RP o.2.2 Y' ∧ (o.1 = 0 → F' (0 : Int32).toNatClampNeg = val o.2.1) := by
  obtain ⟨hv, s2, ⟨ad', Y', h1, h2, h3, -, h5⟩, hs⟩ := hq
  have hM2 := hM.keepC hS h3
  have ho2 := out_C hS ho h3
  rcases hs with ⟨h0, rfl⟩ | ⟨h0, rfl⟩
  · exact ⟨hv, ad', Y', _, h1.keepO ho2, h2, hM2.keepO ho2, sgu_s, h5 hR, fun _ => if_pos rfl⟩
  · exact ⟨hv, ad', Y', F, h1, h2, hM2, ho2, h5 hR, fun z => absurd z h0⟩
theorem rv_nar {N : Nat} {u : MU} (h : Inv N u) : ∀ d, d < 60 → narrow .boolean (.int (u.1 26 d)) = .int (u.1 26 d) := fun d hd => by
  rcases h.Z d hd with e | e <;> rw [e] <;> rfl
theorem lg_same {a : Int64} : lg_cmp a a = 0 := by
  unfold lg_cmp
  rw [if_neg (fun h => absurd h Int64.lt_irrefl), if_pos rfl]
theorem lg_v {v : Int32} : lg_cmp (vL v) v.toInt64 = 0 := lg_same
theorem CZ.isAble {N : Nat} {u : MU} (h : CZ N u) {v : Int32} : CZ N (opIsAble u v).2.2 := by
  unfold opIsAble
  repeat' split
  all_goals exact h
theorem CZ.deedQ {N : Nat} {u : MU} (h : CZ N u) {v w : Int32} : CZ N (opDeed u v w).2.2 := by
  unfold opDeed
  repeat' split
  all_goals exact h
theorem CZ.label {N : Nat} {u : MU} (h : CZ N u) {v w : Int32} : CZ N (opLabel u v w).2.2 := by
  unfold opLabel
  repeat' split
  all_goals exact h
theorem CZ.isGood {N : Nat} {u : MU} (h : CZ N u) {v : Int32} : CZ N (opIsGood u v).2.2 := by
  unfold opIsGood
  repeat' split
  all_goals exact h
theorem CZ.proof {N : Nat} {u : MU} (h : CZ N u) {v : Int32} : CZ N (opProof u v).2.2 := by
  unfold opProof
  repeat' split
  all_goals exact h
theorem CZ.entry {N : Nat} {u : MU} (h : CZ N u) {v w : Int32} : CZ N (opEntry u v w).2.2 := by
  unfold opEntry
  repeat' split
  all_goals exact h
theorem CZ.search {N : Nat} {u : MU} (h : CZ N u) {v a b : Int32} : CZ N (opSearch u v a b).2.2 := by
  unfold opSearch
  repeat' split
  all_goals exact h
theorem CZ.pledge {N : Nat} {u : MU} (h : CZ N u) {v w : Int32} : CZ N (opPledge u v w).2.2 := by
  unfold opPledge
  repeat' split
  all_goals exact h
theorem CZ.share {N : Nat} {u : MU} (h : CZ N u) {v w : Int32} {fl : Bool} : CZ N (opShare u v w fl).2.2 := by
  unfold opShare
  repeat' split
  all_goals exact h
theorem CZ.shareAnew {N : Nat} {u : MU} (h : CZ N u) {v w : Int32} {fl : Bool} : CZ N (opShare u v w fl).2.2 := h.share
set_option maxRecDepth 100000 in
theorem W_person {x : Cx} {Q : State → Prop} {ez : Nat} (GL : GLk x.g x.l ez) (C : AWC x cL_law 7 RL room_1 (some .boolean)) {b L : Nat} {xs : Nat → Int32} (hX : SCR x b L xs) {a : Nat} (ha : a + 7 ≤ L) (hL : L ≤ 3584) {k n : Nat} (hk : k + 60 ≤ 601024) (hn : n + 12000 ≤ 7293034) {N : Nat} (hN : N < 2 ^ 29) {q1 q2 ao : Nat} {sg : Sg} (hW : LW x.g ez N q1 q2 ao sg) (kk : ∀ sg', LW x.g ez (N + 1) q1 q2 ao sg' → AW x Q (k + 60) (n + 12000) sg' 2214 [(0, .ref b), (1, .ref q1), (2, .ref q2), (3, .ref ao), (4, .int (nI a))] []) : AW x Q k n sg 172 [(0, .ref b), (1, .ref q1), (2, .ref q2), (3, .ref ao), (4, .int (nI a))] [] := by
  obtain ⟨ad, am, u, Y, th, F, hS, rfl, hM, rfl, hZ, hR, ho⟩ := hW
  refine aw_aload_n C dL_law_172 rfl rfl rfl ?_
  refine aw_scr (j := 1) (a := a) (p1 := 174) (p2 := 176) (p3 := 177) (p4 := 178) (p5 := 179) C hX dL_law_173 dL_law_174 dL_law_176 dL_law_177 dL_law_178 rfl rfl rfl rfl rfl rfl rfl rfl (by omega) (by omega) ?_
  refine aw_scr (j := 2) (a := a) (p1 := 180) (p2 := 182) (p3 := 183) (p4 := 184) (p5 := 185) C hX dL_law_179 dL_law_180 dL_law_182 dL_law_183 dL_law_184 rfl rfl rfl rfl rfl rfl rfl rfl (by omega) (by omega) ?_
  refine aw_bool (p1 := 188) (p2 := 189) (p3 := 192) (p4 := 193) C dL_law_185 dL_law_188 dL_law_189 dL_law_192 rfl rfl rfl rfl ?_
  refine aw_aload_n C dL_law_193 rfl rfl rfl ?_
  refine aw_callSW C kL_person (H_person GL hS hZ.1 (v := (xs (a + 1))) (f := (!decide (xs (a + 2) = 0))) ho) ⟨by decide, by decide⟩ rfl rfl (Nat.le_of_ble_eq_true rfl) hk hn dL_law_194 rfl (fun _ _ q => ax_no q) (fun v1 s1 hq => ?_)
  obtain ⟨rfl, ad', Y', F', hS1, e0, hM1, ho1, hR1, hv⟩ := law_after hS hM ho hR hq
  refine aw_istore (ls' := [(5, _), (0, _), (1, _), (2, _), (3, _), (4, _)]) C dL_law_197 (by decide) rfl rfl ?_
  refine aw_aload_n C dL_law_199 rfl rfl rfl ?_
  refine aw_scr (j := 1) (a := a) (p1 := 201) (p2 := 203) (p3 := 204) (p4 := 205) (p5 := 206) C hX dL_law_200 dL_law_201 dL_law_203 dL_law_204 dL_law_205 rfl rfl rfl rfl rfl rfl rfl rfl (by omega) (by omega) ?_
  refine aw_scr (j := 2) (a := a) (p1 := 207) (p2 := 209) (p3 := 210) (p4 := 211) (p5 := 212) C hX dL_law_206 dL_law_207 dL_law_209 dL_law_210 dL_law_211 rfl rfl rfl rfl rfl rfl rfl rfl (by omega) (by omega) ?_
  refine aw_bool (p1 := 215) (p2 := 216) (p3 := 219) (p4 := 220) C dL_law_212 dL_law_215 dL_law_216 dL_law_219 rfl rfl rfl rfl ?_
  refine aw_callV C k_L_117 (M_person GL.1.1 GL.1.2.1 hM1 hZ.1.W (y := (xs (a + 1))) (f := (!decide (xs (a + 2) = 0)))) ⟨by decide, by decide⟩ (ci := 11) rfl hM1.1 rfl rfl (Nat.le_of_ble_eq_true rfl) hk hn dL_law_220 rfl (fun _ _ q => ax_no q) (fun v2 s3 hq2 => ?_)
  obtain ⟨rfl, hM3, hF3⟩ := hq2
  have hS3 := hS1.keepM hM1 hF3
  have ho3 := out_M hM1 ho1 hF3
  refine aw_istore (ls' := [(6, _), (5, _), (0, _), (1, _), (2, _), (3, _), (4, _)]) C dL_law_223 (by decide) rfl rfl ?_
  refine aw_aload_n C dL_law_225 rfl rfl rfl ?_
  refine cw_callVp C k_L_118 (M_thrown GL.1.1 GL.1.2.1 hM3) ⟨by decide, by decide⟩ (ci := 11) rfl hM3.1 rfl rfl (Nat.le_of_ble_eq_true rfl) hk hn dL_law_226 rfl ?_
  refine aw_iload C dL_law_229 rfl rfl ?_
  refine aw_icmp_eq (tgt := 236) C dL_law_231 (by decide) rfl (fun _ => ?_) (fun c => absurd rfl c)
  refine aw_iload C dL_law_236 rfl rfl ?_
  refine aw_if_ne (tgt := 253) C dL_law_238 (by decide) rfl (fun c238 => ?_) (fun c238 => ?_)
  · refine aw_goto (tgt := 2214) C dL_law_253 (by decide) ?_
    refine aw_pick (ls' := [(0, _), (1, _), (2, _), (3, _), (4, _)]) [2, 3, 4, 5, 6] rfl ?_
    exact kk _ ⟨ad', am, _, Y', _, F', hS3, e0, hM3, rfl, hZ.person.next, hR1, ho3⟩
  · refine aw_aload_n C dL_law_241 rfl rfl rfl ?_
    refine aw_iconst (v := 0) C dL_law_242 rfl rfl ?_
    refine aw_lald (N := 1) C ho3 (show vp_in (0 : Int32) 1 from vp_in_nI (n := 0) (by decide) (by decide)) dL_law_243 rfl ?_
    rw [hv c238]
    refine aw_iload C dL_law_244 rfl rfl ?_
    refine aw_i2l C dL_law_246 rfl ?_
    refine aw_lcmp C dL_law_247 rfl ?_
    rw [lg_v]
    refine aw_if_eq (tgt := 253) C dL_law_248 (by decide) rfl (fun _ => ?_) (fun c => absurd rfl c)
    refine aw_goto (tgt := 2214) C dL_law_253 (by decide) ?_
    refine aw_pick (ls' := [(0, _), (1, _), (2, _), (3, _), (4, _)]) [2, 3, 4, 5, 6] rfl ?_
    exact kk _ ⟨ad', am, _, Y', _, F', hS3, e0, hM3, rfl, hZ.person.next, hR1, ho3⟩
set_option maxRecDepth 100000 in
theorem W_child {x : Cx} {Q : State → Prop} {ez : Nat} (GL : GLk x.g x.l ez) (C : AWC x cL_law 7 RL room_1 (some .boolean)) {b L : Nat} {xs : Nat → Int32} (hX : SCR x b L xs) {a : Nat} (ha : a + 7 ≤ L) (hL : L ≤ 3584) {k n : Nat} (hk : k + 60 ≤ 601024) (hn : n + 12000 ≤ 7293034) {N : Nat} (hN : N < 2 ^ 29) {q1 q2 ao : Nat} {sg : Sg} (hW : LW x.g ez N q1 q2 ao sg) (kk : ∀ sg', LW x.g ez (N + 1) q1 q2 ao sg' → AW x Q (k + 60) (n + 12000) sg' 2214 [(0, .ref b), (1, .ref q1), (2, .ref q2), (3, .ref ao), (4, .int (nI a))] []) : AW x Q k n sg 256 [(0, .ref b), (1, .ref q1), (2, .ref q2), (3, .ref ao), (4, .int (nI a))] [] := by
  obtain ⟨ad, am, u, Y, th, F, hS, rfl, hM, rfl, hZ, hR, ho⟩ := hW
  refine aw_aload_n C dL_law_256 rfl rfl rfl ?_
  refine aw_scr (j := 1) (a := a) (p1 := 258) (p2 := 260) (p3 := 261) (p4 := 262) (p5 := 263) C hX dL_law_257 dL_law_258 dL_law_260 dL_law_261 dL_law_262 rfl rfl rfl rfl rfl rfl rfl rfl (by omega) (by omega) ?_
  refine aw_scr (j := 2) (a := a) (p1 := 264) (p2 := 266) (p3 := 267) (p4 := 268) (p5 := 269) C hX dL_law_263 dL_law_264 dL_law_266 dL_law_267 dL_law_268 rfl rfl rfl rfl rfl rfl rfl rfl (by omega) (by omega) ?_
  refine aw_aload_n C dL_law_269 rfl rfl rfl ?_
  refine aw_callSW C kL_child (H_child GL hS hZ.1 (v := (xs (a + 1))) (w := (xs (a + 2))) ho) ⟨by decide, by decide⟩ rfl rfl (Nat.le_of_ble_eq_true rfl) hk hn dL_law_270 rfl (fun _ _ q => ax_no q) (fun v1 s1 hq => ?_)
  obtain ⟨rfl, ad', Y', F', hS1, e0, hM1, ho1, hR1, hv⟩ := law_after hS hM ho hR hq
  refine aw_istore (ls' := [(5, _), (0, _), (1, _), (2, _), (3, _), (4, _)]) C dL_law_273 (by decide) rfl rfl ?_
  refine aw_aload_n C dL_law_275 rfl rfl rfl ?_
  refine aw_scr (j := 1) (a := a) (p1 := 277) (p2 := 279) (p3 := 280) (p4 := 281) (p5 := 282) C hX dL_law_276 dL_law_277 dL_law_279 dL_law_280 dL_law_281 rfl rfl rfl rfl rfl rfl rfl rfl (by omega) (by omega) ?_
  refine aw_scr (j := 2) (a := a) (p1 := 283) (p2 := 285) (p3 := 286) (p4 := 287) (p5 := 288) C hX dL_law_282 dL_law_283 dL_law_285 dL_law_286 dL_law_287 rfl rfl rfl rfl rfl rfl rfl rfl (by omega) (by omega) ?_
  refine aw_callV C k_L_125 (M_child GL.1.1 GL.1.2.1 hM1 hZ.1.W hZ.1.P (v := (xs (a + 1))) (w := (xs (a + 2)))) ⟨by decide, by decide⟩ (ci := 11) rfl hM1.1 rfl rfl (Nat.le_of_ble_eq_true rfl) hk hn dL_law_288 rfl (fun _ _ q => ax_no q) (fun v2 s3 hq2 => ?_)
  obtain ⟨rfl, hM3, hF3⟩ := hq2
  have hS3 := hS1.keepM hM1 hF3
  have ho3 := out_M hM1 ho1 hF3
  refine aw_istore (ls' := [(6, _), (5, _), (0, _), (1, _), (2, _), (3, _), (4, _)]) C dL_law_291 (by decide) rfl rfl ?_
  refine aw_aload_n C dL_law_293 rfl rfl rfl ?_
  refine cw_callVp C k_L_118 (M_thrown GL.1.1 GL.1.2.1 hM3) ⟨by decide, by decide⟩ (ci := 11) rfl hM3.1 rfl rfl (Nat.le_of_ble_eq_true rfl) hk hn dL_law_294 rfl ?_
  refine aw_iload C dL_law_297 rfl rfl ?_
  refine aw_icmp_eq (tgt := 304) C dL_law_299 (by decide) rfl (fun _ => ?_) (fun c => absurd rfl c)
  refine aw_iload C dL_law_304 rfl rfl ?_
  refine aw_if_ne (tgt := 321) C dL_law_306 (by decide) rfl (fun c306 => ?_) (fun c306 => ?_)
  · refine aw_goto (tgt := 2214) C dL_law_321 (by decide) ?_
    refine aw_pick (ls' := [(0, _), (1, _), (2, _), (3, _), (4, _)]) [2, 3, 4, 5, 6] rfl ?_
    exact kk _ ⟨ad', am, _, Y', _, F', hS3, e0, hM3, rfl, hZ.child.next, hR1, ho3⟩
  · refine aw_aload_n C dL_law_309 rfl rfl rfl ?_
    refine aw_iconst (v := 0) C dL_law_310 rfl rfl ?_
    refine aw_lald (N := 1) C ho3 (show vp_in (0 : Int32) 1 from vp_in_nI (n := 0) (by decide) (by decide)) dL_law_311 rfl ?_
    rw [hv c306]
    refine aw_iload C dL_law_312 rfl rfl ?_
    refine aw_i2l C dL_law_314 rfl ?_
    refine aw_lcmp C dL_law_315 rfl ?_
    rw [lg_v]
    refine aw_if_eq (tgt := 321) C dL_law_316 (by decide) rfl (fun _ => ?_) (fun c => absurd rfl c)
    refine aw_goto (tgt := 2214) C dL_law_321 (by decide) ?_
    refine aw_pick (ls' := [(0, _), (1, _), (2, _), (3, _), (4, _)]) [2, 3, 4, 5, 6] rfl ?_
    exact kk _ ⟨ad', am, _, Y', _, F', hS3, e0, hM3, rfl, hZ.child.next, hR1, ho3⟩
set_option maxRecDepth 100000 in
theorem W_guard {x : Cx} {Q : State → Prop} {ez : Nat} (GL : GLk x.g x.l ez) (C : AWC x cL_law 7 RL room_1 (some .boolean)) {b L : Nat} {xs : Nat → Int32} (hX : SCR x b L xs) {a : Nat} (ha : a + 7 ≤ L) (hL : L ≤ 3584) {k n : Nat} (hk : k + 60 ≤ 601024) (hn : n + 12000 ≤ 7293034) {N : Nat} (hN : N < 2 ^ 29) {q1 q2 ao : Nat} {sg : Sg} (hW : LW x.g ez N q1 q2 ao sg) (kk : ∀ sg', LW x.g ez (N + 1) q1 q2 ao sg' → AW x Q (k + 60) (n + 12000) sg' 2214 [(0, .ref b), (1, .ref q1), (2, .ref q2), (3, .ref ao), (4, .int (nI a))] []) : AW x Q k n sg 324 [(0, .ref b), (1, .ref q1), (2, .ref q2), (3, .ref ao), (4, .int (nI a))] [] := by
  obtain ⟨ad, am, u, Y, th, F, hS, rfl, hM, rfl, hZ, hR, ho⟩ := hW
  refine aw_aload_n C dL_law_324 rfl rfl rfl ?_
  refine aw_scr (j := 1) (a := a) (p1 := 326) (p2 := 328) (p3 := 329) (p4 := 330) (p5 := 331) C hX dL_law_325 dL_law_326 dL_law_328 dL_law_329 dL_law_330 rfl rfl rfl rfl rfl rfl rfl rfl (by omega) (by omega) ?_
  refine aw_scr (j := 2) (a := a) (p1 := 332) (p2 := 334) (p3 := 335) (p4 := 336) (p5 := 337) C hX dL_law_331 dL_law_332 dL_law_334 dL_law_335 dL_law_336 rfl rfl rfl rfl rfl rfl rfl rfl (by omega) (by omega) ?_
  refine aw_aload_n C dL_law_337 rfl rfl rfl ?_
  refine aw_callSW C kL_guard (H_guard GL hS hZ.1 (v := (xs (a + 1))) (w := (xs (a + 2))) ho) ⟨by decide, by decide⟩ rfl rfl (Nat.le_of_ble_eq_true rfl) hk hn dL_law_338 rfl (fun _ _ q => ax_no q) (fun v1 s1 hq => ?_)
  obtain ⟨rfl, ad', Y', F', hS1, e0, hM1, ho1, hR1, hv⟩ := law_after hS hM ho hR hq
  refine aw_istore (ls' := [(5, _), (0, _), (1, _), (2, _), (3, _), (4, _)]) C dL_law_341 (by decide) rfl rfl ?_
  refine aw_aload_n C dL_law_343 rfl rfl rfl ?_
  refine aw_scr (j := 1) (a := a) (p1 := 345) (p2 := 347) (p3 := 348) (p4 := 349) (p5 := 350) C hX dL_law_344 dL_law_345 dL_law_347 dL_law_348 dL_law_349 rfl rfl rfl rfl rfl rfl rfl rfl (by omega) (by omega) ?_
  refine aw_scr (j := 2) (a := a) (p1 := 351) (p2 := 353) (p3 := 354) (p4 := 355) (p5 := 356) C hX dL_law_350 dL_law_351 dL_law_353 dL_law_354 dL_law_355 rfl rfl rfl rfl rfl rfl rfl rfl (by omega) (by omega) ?_
  refine aw_callV C k_L_128 (M_guard GL.1.1 GL.1.2.1 hM1 hZ.1.W (v := (xs (a + 1))) (w := (xs (a + 2)))) ⟨by decide, by decide⟩ (ci := 11) rfl hM1.1 rfl rfl (Nat.le_of_ble_eq_true rfl) hk hn dL_law_356 rfl (fun _ _ q => ax_no q) (fun v2 s3 hq2 => ?_)
  obtain ⟨rfl, hM3, hF3⟩ := hq2
  have hS3 := hS1.keepM hM1 hF3
  have ho3 := out_M hM1 ho1 hF3
  refine aw_istore (ls' := [(6, _), (5, _), (0, _), (1, _), (2, _), (3, _), (4, _)]) C dL_law_359 (by decide) rfl rfl ?_
  refine aw_aload_n C dL_law_361 rfl rfl rfl ?_
  refine cw_callVp C k_L_118 (M_thrown GL.1.1 GL.1.2.1 hM3) ⟨by decide, by decide⟩ (ci := 11) rfl hM3.1 rfl rfl (Nat.le_of_ble_eq_true rfl) hk hn dL_law_362 rfl ?_
  refine aw_iload C dL_law_365 rfl rfl ?_
  refine aw_icmp_eq (tgt := 372) C dL_law_367 (by decide) rfl (fun _ => ?_) (fun c => absurd rfl c)
  refine aw_iload C dL_law_372 rfl rfl ?_
  refine aw_if_ne (tgt := 389) C dL_law_374 (by decide) rfl (fun c374 => ?_) (fun c374 => ?_)
  · refine aw_goto (tgt := 2214) C dL_law_389 (by decide) ?_
    refine aw_pick (ls' := [(0, _), (1, _), (2, _), (3, _), (4, _)]) [2, 3, 4, 5, 6] rfl ?_
    exact kk _ ⟨ad', am, _, Y', _, F', hS3, e0, hM3, rfl, hZ.guard.next, hR1, ho3⟩
  · refine aw_aload_n C dL_law_377 rfl rfl rfl ?_
    refine aw_iconst (v := 0) C dL_law_378 rfl rfl ?_
    refine aw_lald (N := 1) C ho3 (show vp_in (0 : Int32) 1 from vp_in_nI (n := 0) (by decide) (by decide)) dL_law_379 rfl ?_
    rw [hv c374]
    refine aw_iload C dL_law_380 rfl rfl ?_
    refine aw_i2l C dL_law_382 rfl ?_
    refine aw_lcmp C dL_law_383 rfl ?_
    rw [lg_v]
    refine aw_if_eq (tgt := 389) C dL_law_384 (by decide) rfl (fun _ => ?_) (fun c => absurd rfl c)
    refine aw_goto (tgt := 2214) C dL_law_389 (by decide) ?_
    refine aw_pick (ls' := [(0, _), (1, _), (2, _), (3, _), (4, _)]) [2, 3, 4, 5, 6] rfl ?_
    exact kk _ ⟨ad', am, _, Y', _, F', hS3, e0, hM3, rfl, hZ.guard.next, hR1, ho3⟩
set_option maxRecDepth 100000 in
theorem W_thing {x : Cx} {Q : State → Prop} {ez : Nat} (GL : GLk x.g x.l ez) (C : AWC x cL_law 7 RL room_1 (some .boolean)) {b L : Nat} {xs : Nat → Int32} (hX : SCR x b L xs) {a : Nat} (ha : a + 7 ≤ L) (hL : L ≤ 3584) {k n : Nat} (hk : k + 60 ≤ 601024) (hn : n + 12000 ≤ 7293034) {N : Nat} (hN : N < 2 ^ 29) {q1 q2 ao : Nat} {sg : Sg} (hW : LW x.g ez N q1 q2 ao sg) (kk : ∀ sg', LW x.g ez (N + 1) q1 q2 ao sg' → AW x Q (k + 60) (n + 12000) sg' 2214 [(0, .ref b), (1, .ref q1), (2, .ref q2), (3, .ref ao), (4, .int (nI a))] []) : AW x Q k n sg 392 [(0, .ref b), (1, .ref q1), (2, .ref q2), (3, .ref ao), (4, .int (nI a))] [] := by
  obtain ⟨ad, am, u, Y, th, F, hS, rfl, hM, rfl, hZ, hR, ho⟩ := hW
  refine aw_aload_n C dL_law_392 rfl rfl rfl ?_
  refine aw_scr (j := 1) (a := a) (p1 := 394) (p2 := 396) (p3 := 397) (p4 := 398) (p5 := 399) C hX dL_law_393 dL_law_394 dL_law_396 dL_law_397 dL_law_398 rfl rfl rfl rfl rfl rfl rfl rfl (by omega) (by omega) ?_
  refine aw_scr (j := 2) (a := a) (p1 := 400) (p2 := 402) (p3 := 403) (p4 := 404) (p5 := 405) C hX dL_law_399 dL_law_400 dL_law_402 dL_law_403 dL_law_404 rfl rfl rfl rfl rfl rfl rfl rfl (by omega) (by omega) ?_
  refine aw_aload_n C dL_law_405 rfl rfl rfl ?_
  refine aw_callSW C kL_thing (H_thing GL hS hZ.1 (v := (xs (a + 1))) (w := (xs (a + 2))) ho) ⟨by decide, by decide⟩ rfl rfl (Nat.le_of_ble_eq_true rfl) hk hn dL_law_406 rfl (fun _ _ q => ax_no q) (fun v1 s1 hq => ?_)
  obtain ⟨rfl, ad', Y', F', hS1, e0, hM1, ho1, hR1, hv⟩ := law_after hS hM ho hR hq
  refine aw_istore (ls' := [(5, _), (0, _), (1, _), (2, _), (3, _), (4, _)]) C dL_law_409 (by decide) rfl rfl ?_
  refine aw_aload_n C dL_law_411 rfl rfl rfl ?_
  refine aw_scr (j := 1) (a := a) (p1 := 413) (p2 := 415) (p3 := 416) (p4 := 417) (p5 := 418) C hX dL_law_412 dL_law_413 dL_law_415 dL_law_416 dL_law_417 rfl rfl rfl rfl rfl rfl rfl rfl (by omega) (by omega) ?_
  refine aw_scr (j := 2) (a := a) (p1 := 419) (p2 := 421) (p3 := 422) (p4 := 423) (p5 := 424) C hX dL_law_418 dL_law_419 dL_law_421 dL_law_422 dL_law_423 rfl rfl rfl rfl rfl rfl rfl rfl (by omega) (by omega) ?_
  refine aw_callV C k_L_131 (M_thing GL.1.1 GL.1.2.1 hM1 hZ.1.W (v := (xs (a + 1))) (w := (xs (a + 2)))) ⟨by decide, by decide⟩ (ci := 11) rfl hM1.1 rfl rfl (Nat.le_of_ble_eq_true rfl) hk hn dL_law_424 rfl (fun _ _ q => ax_no q) (fun v2 s3 hq2 => ?_)
  obtain ⟨rfl, hM3, hF3⟩ := hq2
  have hS3 := hS1.keepM hM1 hF3
  have ho3 := out_M hM1 ho1 hF3
  refine aw_istore (ls' := [(6, _), (5, _), (0, _), (1, _), (2, _), (3, _), (4, _)]) C dL_law_427 (by decide) rfl rfl ?_
  refine aw_aload_n C dL_law_429 rfl rfl rfl ?_
  refine cw_callVp C k_L_118 (M_thrown GL.1.1 GL.1.2.1 hM3) ⟨by decide, by decide⟩ (ci := 11) rfl hM3.1 rfl rfl (Nat.le_of_ble_eq_true rfl) hk hn dL_law_430 rfl ?_
  refine aw_iload C dL_law_433 rfl rfl ?_
  refine aw_icmp_eq (tgt := 440) C dL_law_435 (by decide) rfl (fun _ => ?_) (fun c => absurd rfl c)
  refine aw_iload C dL_law_440 rfl rfl ?_
  refine aw_if_ne (tgt := 457) C dL_law_442 (by decide) rfl (fun c442 => ?_) (fun c442 => ?_)
  · refine aw_goto (tgt := 2214) C dL_law_457 (by decide) ?_
    refine aw_pick (ls' := [(0, _), (1, _), (2, _), (3, _), (4, _)]) [2, 3, 4, 5, 6] rfl ?_
    exact kk _ ⟨ad', am, _, Y', _, F', hS3, e0, hM3, rfl, hZ.thing.next, hR1, ho3⟩
  · refine aw_aload_n C dL_law_445 rfl rfl rfl ?_
    refine aw_iconst (v := 0) C dL_law_446 rfl rfl ?_
    refine aw_lald (N := 1) C ho3 (show vp_in (0 : Int32) 1 from vp_in_nI (n := 0) (by decide) (by decide)) dL_law_447 rfl ?_
    rw [hv c442]
    refine aw_iload C dL_law_448 rfl rfl ?_
    refine aw_i2l C dL_law_450 rfl ?_
    refine aw_lcmp C dL_law_451 rfl ?_
    rw [lg_v]
    refine aw_if_eq (tgt := 457) C dL_law_452 (by decide) rfl (fun _ => ?_) (fun c => absurd rfl c)
    refine aw_goto (tgt := 2214) C dL_law_457 (by decide) ?_
    refine aw_pick (ls' := [(0, _), (1, _), (2, _), (3, _), (4, _)]) [2, 3, 4, 5, 6] rfl ?_
    exact kk _ ⟨ad', am, _, Y', _, F', hS3, e0, hM3, rfl, hZ.thing.next, hR1, ho3⟩
set_option maxRecDepth 100000 in
theorem W_isAble {x : Cx} {Q : State → Prop} {ez : Nat} (GL : GLk x.g x.l ez) (C : AWC x cL_law 7 RL room_1 (some .boolean)) {b L : Nat} {xs : Nat → Int32} (hX : SCR x b L xs) {a : Nat} (ha : a + 7 ≤ L) (hL : L ≤ 3584) {k n : Nat} (hk : k + 60 ≤ 601024) (hn : n + 12000 ≤ 7293034) {N : Nat} (hN : N < 2 ^ 29) {q1 q2 ao : Nat} {sg : Sg} (hW : LW x.g ez N q1 q2 ao sg) (kk : ∀ sg', LW x.g ez (N + 1) q1 q2 ao sg' → AW x Q (k + 60) (n + 12000) sg' 2214 [(0, .ref b), (1, .ref q1), (2, .ref q2), (3, .ref ao), (4, .int (nI a))] []) : AW x Q k n sg 460 [(0, .ref b), (1, .ref q1), (2, .ref q2), (3, .ref ao), (4, .int (nI a))] [] := by
  obtain ⟨ad, am, u, Y, th, F, hS, rfl, hM, rfl, hZ, hR, ho⟩ := hW
  refine aw_aload_n C dL_law_460 rfl rfl rfl ?_
  refine aw_scr (j := 1) (a := a) (p1 := 462) (p2 := 464) (p3 := 465) (p4 := 466) (p5 := 467) C hX dL_law_461 dL_law_462 dL_law_464 dL_law_465 dL_law_466 rfl rfl rfl rfl rfl rfl rfl rfl (by omega) (by omega) ?_
  refine aw_aload_n C dL_law_467 rfl rfl rfl ?_
  refine aw_callSW C kL_isAble (H_isAble GL hS hZ.1 (v := (xs (a + 1))) ho) ⟨by decide, by decide⟩ rfl rfl (Nat.le_of_ble_eq_true rfl) hk hn dL_law_468 rfl (fun _ _ q => ax_no q) (fun v1 s1 hq => ?_)
  obtain ⟨rfl, ad', Y', F', hS1, e0, hM1, ho1, hR1, hv⟩ := law_after hS hM ho hR hq
  refine aw_istore (ls' := [(5, _), (0, _), (1, _), (2, _), (3, _), (4, _)]) C dL_law_471 (by decide) rfl rfl ?_
  refine aw_aload_n C dL_law_473 rfl rfl rfl ?_
  refine aw_scr (j := 1) (a := a) (p1 := 475) (p2 := 477) (p3 := 478) (p4 := 479) (p5 := 480) C hX dL_law_474 dL_law_475 dL_law_477 dL_law_478 dL_law_479 rfl rfl rfl rfl rfl rfl rfl rfl (by omega) (by omega) ?_
  refine aw_callV C k_L_135 (M_isAble GL.1.1 GL.1.2.1 hM1 hZ.1.W (v := (xs (a + 1)))) ⟨by decide, by decide⟩ (ci := 11) rfl hM1.1 rfl rfl (Nat.le_of_ble_eq_true rfl) hk hn dL_law_480 rfl (fun _ _ q => ax_no q) (fun v2 s3 hq2 => ?_)
  obtain ⟨rfl, hM3, hF3⟩ := hq2
  have hS3 := hS1.keepM hM1 hF3
  have ho3 := out_M hM1 ho1 hF3
  refine aw_istore (ls' := [(6, _), (5, _), (0, _), (1, _), (2, _), (3, _), (4, _)]) C dL_law_483 (by decide) rfl rfl ?_
  refine aw_aload_n C dL_law_485 rfl rfl rfl ?_
  refine cw_callVp C k_L_118 (M_thrown GL.1.1 GL.1.2.1 hM3) ⟨by decide, by decide⟩ (ci := 11) rfl hM3.1 rfl rfl (Nat.le_of_ble_eq_true rfl) hk hn dL_law_486 rfl ?_
  refine aw_iload C dL_law_489 rfl rfl ?_
  refine aw_icmp_eq (tgt := 496) C dL_law_491 (by decide) rfl (fun _ => ?_) (fun c => absurd rfl c)
  refine aw_iload C dL_law_496 rfl rfl ?_
  refine aw_if_ne (tgt := 520) C dL_law_498 (by decide) rfl (fun c498 => ?_) (fun c498 => ?_)
  · refine aw_goto (tgt := 2214) C dL_law_520 (by decide) ?_
    refine aw_pick (ls' := [(0, _), (1, _), (2, _), (3, _), (4, _)]) [2, 3, 4, 5, 6] rfl ?_
    exact kk _ ⟨ad', am, _, Y', _, F', hS3, e0, hM3, rfl, hZ.isAble.next, hR1, ho3⟩
  · refine aw_aload_n C dL_law_501 rfl rfl rfl ?_
    refine aw_iconst (v := 0) C dL_law_502 rfl rfl ?_
    refine aw_lald (N := 1) C ho3 (show vp_in (0 : Int32) 1 from vp_in_nI (n := 0) (by decide) (by decide)) dL_law_503 rfl ?_
    rw [hv c498]
    refine aw_iload C dL_law_504 rfl rfl ?_
    refine aw_boolL (p1 := 509) (p2 := 510) (p3 := 513) (p4 := 514) C dL_law_506 dL_law_509 dL_law_510 dL_law_513 rfl rfl rfl rfl ?_
    refine aw_lcmp C dL_law_514 rfl ?_
    rw [lg_same]
    refine aw_if_eq (tgt := 520) C dL_law_515 (by decide) rfl (fun _ => ?_) (fun c => absurd rfl c)
    refine aw_goto (tgt := 2214) C dL_law_520 (by decide) ?_
    refine aw_pick (ls' := [(0, _), (1, _), (2, _), (3, _), (4, _)]) [2, 3, 4, 5, 6] rfl ?_
    exact kk _ ⟨ad', am, _, Y', _, F', hS3, e0, hM3, rfl, hZ.isAble.next, hR1, ho3⟩
set_option maxRecDepth 100000 in
theorem W_draft {x : Cx} {Q : State → Prop} {ez : Nat} (GL : GLk x.g x.l ez) (C : AWC x cL_law 7 RL room_1 (some .boolean)) {b L : Nat} {xs : Nat → Int32} (hX : SCR x b L xs) {a : Nat} (ha : a + 7 ≤ L) (hL : L ≤ 3584) {k n : Nat} (hk : k + 60 ≤ 601024) (hn : n + 12000 ≤ 7293034) {N : Nat} (hN : N < 2 ^ 29) {q1 q2 ao : Nat} {sg : Sg} (hW : LW x.g ez N q1 q2 ao sg) (kk : ∀ sg', LW x.g ez (N + 1) q1 q2 ao sg' → AW x Q (k + 60) (n + 12000) sg' 2214 [(0, .ref b), (1, .ref q1), (2, .ref q2), (3, .ref ao), (4, .int (nI a))] []) : AW x Q k n sg 523 [(0, .ref b), (1, .ref q1), (2, .ref q2), (3, .ref ao), (4, .int (nI a))] [] := by
  obtain ⟨ad, am, u, Y, th, F, hS, rfl, hM, rfl, hZ, hR, ho⟩ := hW
  refine aw_aload_n C dL_law_523 rfl rfl rfl ?_
  refine aw_scr (j := 1) (a := a) (p1 := 525) (p2 := 527) (p3 := 528) (p4 := 529) (p5 := 530) C hX dL_law_524 dL_law_525 dL_law_527 dL_law_528 dL_law_529 rfl rfl rfl rfl rfl rfl rfl rfl (by omega) (by omega) ?_
  refine aw_scr (j := 2) (a := a) (p1 := 531) (p2 := 533) (p3 := 534) (p4 := 535) (p5 := 536) C hX dL_law_530 dL_law_531 dL_law_533 dL_law_534 dL_law_535 rfl rfl rfl rfl rfl rfl rfl rfl (by omega) (by omega) ?_
  refine aw_scr (j := 3) (a := a) (p1 := 537) (p2 := 539) (p3 := 540) (p4 := 541) (p5 := 542) C hX dL_law_536 dL_law_537 dL_law_539 dL_law_540 dL_law_541 rfl rfl rfl rfl rfl rfl rfl rfl (by omega) (by omega) ?_
  refine aw_scr (j := 4) (a := a) (p1 := 543) (p2 := 545) (p3 := 546) (p4 := 547) (p5 := 548) C hX dL_law_542 dL_law_543 dL_law_545 dL_law_546 dL_law_547 rfl rfl rfl rfl rfl rfl rfl rfl (by omega) (by omega) ?_
  refine aw_scr (j := 5) (a := a) (p1 := 549) (p2 := 551) (p3 := 552) (p4 := 553) (p5 := 554) C hX dL_law_548 dL_law_549 dL_law_551 dL_law_552 dL_law_553 rfl rfl rfl rfl rfl rfl rfl rfl (by omega) (by omega) ?_
  refine aw_scr6 (z := 0) (a := a) (p1 := 555) (p2 := 557) (p3 := 559) (p4 := 560) (p5 := 561) C hX dL_law_554 dL_law_555 dL_law_557 dL_law_559 dL_law_560 rfl rfl rfl rfl rfl rfl rfl (by omega) (by omega) ?_
  refine aw_aload_n C dL_law_561 rfl rfl rfl ?_
  refine aw_callSW C kL_draft (H_draft GL hS hZ.1 (sk := (xs (a + 1))) (v := (xs (a + 2))) (w := (xs (a + 3))) (t := (xs (a + 4))) (x0 := (xs (a + 5))) (y0 := (xs (a + 6))) ho) ⟨by decide, by decide⟩ rfl rfl (Nat.le_of_ble_eq_true rfl) hk hn dL_law_562 rfl (fun _ _ q => ax_no q) (fun v1 s1 hq => ?_)
  obtain ⟨rfl, ad', Y', F', hS1, e0, hM1, ho1, hR1, hv⟩ := law_after hS hM ho hR hq
  refine aw_istore (ls' := [(5, _), (0, _), (1, _), (2, _), (3, _), (4, _)]) C dL_law_565 (by decide) rfl rfl ?_
  refine aw_aload_n C dL_law_567 rfl rfl rfl ?_
  refine aw_scr (j := 1) (a := a) (p1 := 569) (p2 := 571) (p3 := 572) (p4 := 573) (p5 := 574) C hX dL_law_568 dL_law_569 dL_law_571 dL_law_572 dL_law_573 rfl rfl rfl rfl rfl rfl rfl rfl (by omega) (by omega) ?_
  refine aw_scr (j := 2) (a := a) (p1 := 575) (p2 := 577) (p3 := 578) (p4 := 579) (p5 := 580) C hX dL_law_574 dL_law_575 dL_law_577 dL_law_578 dL_law_579 rfl rfl rfl rfl rfl rfl rfl rfl (by omega) (by omega) ?_
  refine aw_scr (j := 3) (a := a) (p1 := 581) (p2 := 583) (p3 := 584) (p4 := 585) (p5 := 586) C hX dL_law_580 dL_law_581 dL_law_583 dL_law_584 dL_law_585 rfl rfl rfl rfl rfl rfl rfl rfl (by omega) (by omega) ?_
  refine aw_scr (j := 4) (a := a) (p1 := 587) (p2 := 589) (p3 := 590) (p4 := 591) (p5 := 592) C hX dL_law_586 dL_law_587 dL_law_589 dL_law_590 dL_law_591 rfl rfl rfl rfl rfl rfl rfl rfl (by omega) (by omega) ?_
  refine aw_scr (j := 5) (a := a) (p1 := 593) (p2 := 595) (p3 := 596) (p4 := 597) (p5 := 598) C hX dL_law_592 dL_law_593 dL_law_595 dL_law_596 dL_law_597 rfl rfl rfl rfl rfl rfl rfl rfl (by omega) (by omega) ?_
  refine aw_scr6 (z := 0) (a := a) (p1 := 599) (p2 := 601) (p3 := 603) (p4 := 604) (p5 := 605) C hX dL_law_598 dL_law_599 dL_law_601 dL_law_603 dL_law_604 rfl rfl rfl rfl rfl rfl rfl (by omega) (by omega) ?_
  refine aw_callV C k_L_139 (M_draft GL.1.1 GL.1.2.1 hM1 hZ.1.W (s := (xs (a + 1))) (a := (xs (a + 2))) (b := (xs (a + 3))) (t := (xs (a + 4))) (y := (xs (a + 5))) (z := (xs (a + 6)))) ⟨by decide, by decide⟩ (ci := 11) rfl hM1.1 rfl rfl (Nat.le_of_ble_eq_true rfl) hk hn dL_law_605 rfl (fun _ _ q => ax_no q) (fun v2 s3 hq2 => ?_)
  obtain ⟨rfl, hM3, hF3⟩ := hq2
  have hS3 := hS1.keepM hM1 hF3
  have ho3 := out_M hM1 ho1 hF3
  refine aw_istore (ls' := [(6, _), (5, _), (0, _), (1, _), (2, _), (3, _), (4, _)]) C dL_law_608 (by decide) rfl rfl ?_
  refine aw_aload_n C dL_law_610 rfl rfl rfl ?_
  refine cw_callVp C k_L_118 (M_thrown GL.1.1 GL.1.2.1 hM3) ⟨by decide, by decide⟩ (ci := 11) rfl hM3.1 rfl rfl (Nat.le_of_ble_eq_true rfl) hk hn dL_law_611 rfl ?_
  refine aw_iload C dL_law_614 rfl rfl ?_
  refine aw_icmp_eq (tgt := 621) C dL_law_616 (by decide) rfl (fun _ => ?_) (fun c => absurd rfl c)
  refine aw_iload C dL_law_621 rfl rfl ?_
  refine aw_if_ne (tgt := 638) C dL_law_623 (by decide) rfl (fun c623 => ?_) (fun c623 => ?_)
  · refine aw_goto (tgt := 2214) C dL_law_638 (by decide) ?_
    refine aw_pick (ls' := [(0, _), (1, _), (2, _), (3, _), (4, _)]) [2, 3, 4, 5, 6] rfl ?_
    exact kk _ ⟨ad', am, _, Y', _, F', hS3, e0, hM3, rfl, hZ.draft.next, hR1, ho3⟩
  · refine aw_aload_n C dL_law_626 rfl rfl rfl ?_
    refine aw_iconst (v := 0) C dL_law_627 rfl rfl ?_
    refine aw_lald (N := 1) C ho3 (show vp_in (0 : Int32) 1 from vp_in_nI (n := 0) (by decide) (by decide)) dL_law_628 rfl ?_
    rw [hv c623]
    refine aw_iload C dL_law_629 rfl rfl ?_
    refine aw_i2l C dL_law_631 rfl ?_
    refine aw_lcmp C dL_law_632 rfl ?_
    rw [lg_v]
    refine aw_if_eq (tgt := 638) C dL_law_633 (by decide) rfl (fun _ => ?_) (fun c => absurd rfl c)
    refine aw_goto (tgt := 2214) C dL_law_638 (by decide) ?_
    refine aw_pick (ls' := [(0, _), (1, _), (2, _), (3, _), (4, _)]) [2, 3, 4, 5, 6] rfl ?_
    exact kk _ ⟨ad', am, _, Y', _, F', hS3, e0, hM3, rfl, hZ.draft.next, hR1, ho3⟩
set_option maxRecDepth 100000 in
theorem W_power {x : Cx} {Q : State → Prop} {ez : Nat} (GL : GLk x.g x.l ez) (C : AWC x cL_law 7 RL room_1 (some .boolean)) {b L : Nat} {xs : Nat → Int32} (hX : SCR x b L xs) {a : Nat} (ha : a + 7 ≤ L) (hL : L ≤ 3584) {k n : Nat} (hk : k + 60 ≤ 601024) (hn : n + 12000 ≤ 7293034) {N : Nat} (hN : N < 2 ^ 29) {q1 q2 ao : Nat} {sg : Sg} (hW : LW x.g ez N q1 q2 ao sg) (kk : ∀ sg', LW x.g ez (N + 1) q1 q2 ao sg' → AW x Q (k + 60) (n + 12000) sg' 2214 [(0, .ref b), (1, .ref q1), (2, .ref q2), (3, .ref ao), (4, .int (nI a))] []) : AW x Q k n sg 641 [(0, .ref b), (1, .ref q1), (2, .ref q2), (3, .ref ao), (4, .int (nI a))] [] := by
  obtain ⟨ad, am, u, Y, th, F, hS, rfl, hM, rfl, hZ, hR, ho⟩ := hW
  refine aw_aload_n C dL_law_641 rfl rfl rfl ?_
  refine aw_scr (j := 1) (a := a) (p1 := 643) (p2 := 645) (p3 := 646) (p4 := 647) (p5 := 648) C hX dL_law_642 dL_law_643 dL_law_645 dL_law_646 dL_law_647 rfl rfl rfl rfl rfl rfl rfl rfl (by omega) (by omega) ?_
  refine aw_scr (j := 2) (a := a) (p1 := 649) (p2 := 651) (p3 := 652) (p4 := 653) (p5 := 654) C hX dL_law_648 dL_law_649 dL_law_651 dL_law_652 dL_law_653 rfl rfl rfl rfl rfl rfl rfl rfl (by omega) (by omega) ?_
  refine aw_scr (j := 3) (a := a) (p1 := 655) (p2 := 657) (p3 := 658) (p4 := 659) (p5 := 660) C hX dL_law_654 dL_law_655 dL_law_657 dL_law_658 dL_law_659 rfl rfl rfl rfl rfl rfl rfl rfl (by omega) (by omega) ?_
  refine aw_scr (j := 4) (a := a) (p1 := 661) (p2 := 663) (p3 := 664) (p4 := 665) (p5 := 666) C hX dL_law_660 dL_law_661 dL_law_663 dL_law_664 dL_law_665 rfl rfl rfl rfl rfl rfl rfl rfl (by omega) (by omega) ?_
  refine aw_scr (j := 5) (a := a) (p1 := 667) (p2 := 669) (p3 := 670) (p4 := 671) (p5 := 672) C hX dL_law_666 dL_law_667 dL_law_669 dL_law_670 dL_law_671 rfl rfl rfl rfl rfl rfl rfl rfl (by omega) (by omega) ?_
  refine aw_bool (p1 := 675) (p2 := 676) (p3 := 679) (p4 := 680) C dL_law_672 dL_law_675 dL_law_676 dL_law_679 rfl rfl rfl rfl ?_
  refine aw_aload_n C dL_law_680 rfl rfl rfl ?_
  refine aw_callSW C kL_power (H_power GL hS hZ.1 (v := (xs (a + 1))) (w := (xs (a + 2))) (t := (xs (a + 3))) (dd := (xs (a + 4))) (on := (!decide (xs (a + 5) = 0))) ho) ⟨by decide, by decide⟩ rfl rfl (Nat.le_of_ble_eq_true rfl) hk hn dL_law_681 rfl (fun _ _ q => ax_no q) (fun v1 s1 hq => ?_)
  obtain ⟨rfl, ad', Y', F', hS1, e0, hM1, ho1, hR1, hv⟩ := law_after hS hM ho hR hq
  refine aw_istore (ls' := [(5, _), (0, _), (1, _), (2, _), (3, _), (4, _)]) C dL_law_684 (by decide) rfl rfl ?_
  refine aw_aload_n C dL_law_686 rfl rfl rfl ?_
  refine aw_scr (j := 1) (a := a) (p1 := 688) (p2 := 690) (p3 := 691) (p4 := 692) (p5 := 693) C hX dL_law_687 dL_law_688 dL_law_690 dL_law_691 dL_law_692 rfl rfl rfl rfl rfl rfl rfl rfl (by omega) (by omega) ?_
  refine aw_scr (j := 2) (a := a) (p1 := 694) (p2 := 696) (p3 := 697) (p4 := 698) (p5 := 699) C hX dL_law_693 dL_law_694 dL_law_696 dL_law_697 dL_law_698 rfl rfl rfl rfl rfl rfl rfl rfl (by omega) (by omega) ?_
  refine aw_scr (j := 3) (a := a) (p1 := 700) (p2 := 702) (p3 := 703) (p4 := 704) (p5 := 705) C hX dL_law_699 dL_law_700 dL_law_702 dL_law_703 dL_law_704 rfl rfl rfl rfl rfl rfl rfl rfl (by omega) (by omega) ?_
  refine aw_scr (j := 4) (a := a) (p1 := 706) (p2 := 708) (p3 := 709) (p4 := 710) (p5 := 711) C hX dL_law_705 dL_law_706 dL_law_708 dL_law_709 dL_law_710 rfl rfl rfl rfl rfl rfl rfl rfl (by omega) (by omega) ?_
  refine aw_scr (j := 5) (a := a) (p1 := 712) (p2 := 714) (p3 := 715) (p4 := 716) (p5 := 717) C hX dL_law_711 dL_law_712 dL_law_714 dL_law_715 dL_law_716 rfl rfl rfl rfl rfl rfl rfl rfl (by omega) (by omega) ?_
  refine aw_bool (p1 := 720) (p2 := 721) (p3 := 724) (p4 := 725) C dL_law_717 dL_law_720 dL_law_721 dL_law_724 rfl rfl rfl rfl ?_
  refine aw_callV C k_L_143 (M_power GL.1.1 GL.1.2.1 hM1 hZ.1.W (a := (xs (a + 1))) (b := (xs (a + 2))) (t := (xs (a + 3))) (z := (xs (a + 4))) (f := (!decide (xs (a + 5) = 0)))) ⟨by decide, by decide⟩ (ci := 11) rfl hM1.1 rfl rfl (Nat.le_of_ble_eq_true rfl) hk hn dL_law_725 rfl (fun _ _ q => ax_no q) (fun v2 s3 hq2 => ?_)
  obtain ⟨rfl, hM3, hF3⟩ := hq2
  have hS3 := hS1.keepM hM1 hF3
  have ho3 := out_M hM1 ho1 hF3
  refine aw_istore (ls' := [(6, _), (5, _), (0, _), (1, _), (2, _), (3, _), (4, _)]) C dL_law_728 (by decide) rfl rfl ?_
  refine aw_aload_n C dL_law_730 rfl rfl rfl ?_
  refine cw_callVp C k_L_118 (M_thrown GL.1.1 GL.1.2.1 hM3) ⟨by decide, by decide⟩ (ci := 11) rfl hM3.1 rfl rfl (Nat.le_of_ble_eq_true rfl) hk hn dL_law_731 rfl ?_
  refine aw_iload C dL_law_734 rfl rfl ?_
  refine aw_icmp_eq (tgt := 741) C dL_law_736 (by decide) rfl (fun _ => ?_) (fun c => absurd rfl c)
  refine aw_iload C dL_law_741 rfl rfl ?_
  refine aw_if_ne (tgt := 758) C dL_law_743 (by decide) rfl (fun c743 => ?_) (fun c743 => ?_)
  · refine aw_goto (tgt := 2214) C dL_law_758 (by decide) ?_
    refine aw_pick (ls' := [(0, _), (1, _), (2, _), (3, _), (4, _)]) [2, 3, 4, 5, 6] rfl ?_
    exact kk _ ⟨ad', am, _, Y', _, F', hS3, e0, hM3, rfl, hZ.power.next, hR1, ho3⟩
  · refine aw_aload_n C dL_law_746 rfl rfl rfl ?_
    refine aw_iconst (v := 0) C dL_law_747 rfl rfl ?_
    refine aw_lald (N := 1) C ho3 (show vp_in (0 : Int32) 1 from vp_in_nI (n := 0) (by decide) (by decide)) dL_law_748 rfl ?_
    rw [hv c743]
    refine aw_iload C dL_law_749 rfl rfl ?_
    refine aw_i2l C dL_law_751 rfl ?_
    refine aw_lcmp C dL_law_752 rfl ?_
    rw [lg_v]
    refine aw_if_eq (tgt := 758) C dL_law_753 (by decide) rfl (fun _ => ?_) (fun c => absurd rfl c)
    refine aw_goto (tgt := 2214) C dL_law_758 (by decide) ?_
    refine aw_pick (ls' := [(0, _), (1, _), (2, _), (3, _), (4, _)]) [2, 3, 4, 5, 6] rfl ?_
    exact kk _ ⟨ad', am, _, Y', _, F', hS3, e0, hM3, rfl, hZ.power.next, hR1, ho3⟩
set_option maxRecDepth 100000 in
theorem W_will {x : Cx} {Q : State → Prop} {ez : Nat} (GL : GLk x.g x.l ez) (C : AWC x cL_law 7 RL room_1 (some .boolean)) {b L : Nat} {xs : Nat → Int32} (hX : SCR x b L xs) {a : Nat} (ha : a + 7 ≤ L) (hL : L ≤ 3584) {k n : Nat} (hk : k + 60 ≤ 601024) (hn : n + 12000 ≤ 7293034) {N : Nat} (hN : N < 2 ^ 29) {q1 q2 ao : Nat} {sg : Sg} (hW : LW x.g ez N q1 q2 ao sg) (kk : ∀ sg', LW x.g ez (N + 1) q1 q2 ao sg' → AW x Q (k + 60) (n + 12000) sg' 2214 [(0, .ref b), (1, .ref q1), (2, .ref q2), (3, .ref ao), (4, .int (nI a))] []) : AW x Q k n sg 761 [(0, .ref b), (1, .ref q1), (2, .ref q2), (3, .ref ao), (4, .int (nI a))] [] := by
  obtain ⟨ad, am, u, Y, th, F, hS, rfl, hM, rfl, hZ, hR, ho⟩ := hW
  refine aw_aload_n C dL_law_761 rfl rfl rfl ?_
  refine aw_scr (j := 1) (a := a) (p1 := 763) (p2 := 765) (p3 := 766) (p4 := 767) (p5 := 768) C hX dL_law_762 dL_law_763 dL_law_765 dL_law_766 dL_law_767 rfl rfl rfl rfl rfl rfl rfl rfl (by omega) (by omega) ?_
  refine aw_scr (j := 2) (a := a) (p1 := 769) (p2 := 771) (p3 := 772) (p4 := 773) (p5 := 774) C hX dL_law_768 dL_law_769 dL_law_771 dL_law_772 dL_law_773 rfl rfl rfl rfl rfl rfl rfl rfl (by omega) (by omega) ?_
  refine aw_scr (j := 3) (a := a) (p1 := 775) (p2 := 777) (p3 := 778) (p4 := 779) (p5 := 780) C hX dL_law_774 dL_law_775 dL_law_777 dL_law_778 dL_law_779 rfl rfl rfl rfl rfl rfl rfl rfl (by omega) (by omega) ?_
  refine aw_scr (j := 4) (a := a) (p1 := 781) (p2 := 783) (p3 := 784) (p4 := 785) (p5 := 786) C hX dL_law_780 dL_law_781 dL_law_783 dL_law_784 dL_law_785 rfl rfl rfl rfl rfl rfl rfl rfl (by omega) (by omega) ?_
  refine aw_aload_n C dL_law_786 rfl rfl rfl ?_
  refine aw_callSW C kL_will (H_will GL hS hZ.1 (v := (xs (a + 1))) (w := (xs (a + 2))) (x0 := (xs (a + 3))) (y0 := (xs (a + 4))) ho) ⟨by decide, by decide⟩ rfl rfl (Nat.le_of_ble_eq_true rfl) hk hn dL_law_787 rfl (fun _ _ q => ax_no q) (fun v1 s1 hq => ?_)
  obtain ⟨rfl, ad', Y', F', hS1, e0, hM1, ho1, hR1, hv⟩ := law_after hS hM ho hR hq
  refine aw_istore (ls' := [(5, _), (0, _), (1, _), (2, _), (3, _), (4, _)]) C dL_law_790 (by decide) rfl rfl ?_
  refine aw_aload_n C dL_law_792 rfl rfl rfl ?_
  refine aw_scr (j := 1) (a := a) (p1 := 794) (p2 := 796) (p3 := 797) (p4 := 798) (p5 := 799) C hX dL_law_793 dL_law_794 dL_law_796 dL_law_797 dL_law_798 rfl rfl rfl rfl rfl rfl rfl rfl (by omega) (by omega) ?_
  refine aw_scr (j := 2) (a := a) (p1 := 800) (p2 := 802) (p3 := 803) (p4 := 804) (p5 := 805) C hX dL_law_799 dL_law_800 dL_law_802 dL_law_803 dL_law_804 rfl rfl rfl rfl rfl rfl rfl rfl (by omega) (by omega) ?_
  refine aw_scr (j := 3) (a := a) (p1 := 806) (p2 := 808) (p3 := 809) (p4 := 810) (p5 := 811) C hX dL_law_805 dL_law_806 dL_law_808 dL_law_809 dL_law_810 rfl rfl rfl rfl rfl rfl rfl rfl (by omega) (by omega) ?_
  refine aw_scr (j := 4) (a := a) (p1 := 812) (p2 := 814) (p3 := 815) (p4 := 816) (p5 := 817) C hX dL_law_811 dL_law_812 dL_law_814 dL_law_815 dL_law_816 rfl rfl rfl rfl rfl rfl rfl rfl (by omega) (by omega) ?_
  refine aw_callV C k_L_147 (M_will GL.1.1 GL.1.2.1 hM1 hZ.1.W (a := (xs (a + 1))) (b := (xs (a + 2))) (y := (xs (a + 3))) (z := (xs (a + 4)))) ⟨by decide, by decide⟩ (ci := 11) rfl hM1.1 rfl rfl (Nat.le_of_ble_eq_true rfl) hk hn dL_law_817 rfl (fun _ _ q => ax_no q) (fun v2 s3 hq2 => ?_)
  obtain ⟨rfl, hM3, hF3⟩ := hq2
  have hS3 := hS1.keepM hM1 hF3
  have ho3 := out_M hM1 ho1 hF3
  refine aw_istore (ls' := [(6, _), (5, _), (0, _), (1, _), (2, _), (3, _), (4, _)]) C dL_law_820 (by decide) rfl rfl ?_
  refine aw_aload_n C dL_law_822 rfl rfl rfl ?_
  refine cw_callVp C k_L_118 (M_thrown GL.1.1 GL.1.2.1 hM3) ⟨by decide, by decide⟩ (ci := 11) rfl hM3.1 rfl rfl (Nat.le_of_ble_eq_true rfl) hk hn dL_law_823 rfl ?_
  refine aw_iload C dL_law_826 rfl rfl ?_
  refine aw_icmp_eq (tgt := 833) C dL_law_828 (by decide) rfl (fun _ => ?_) (fun c => absurd rfl c)
  refine aw_iload C dL_law_833 rfl rfl ?_
  refine aw_if_ne (tgt := 850) C dL_law_835 (by decide) rfl (fun c835 => ?_) (fun c835 => ?_)
  · refine aw_goto (tgt := 2214) C dL_law_850 (by decide) ?_
    refine aw_pick (ls' := [(0, _), (1, _), (2, _), (3, _), (4, _)]) [2, 3, 4, 5, 6] rfl ?_
    exact kk _ ⟨ad', am, _, Y', _, F', hS3, e0, hM3, rfl, hZ.will.next, hR1, ho3⟩
  · refine aw_aload_n C dL_law_838 rfl rfl rfl ?_
    refine aw_iconst (v := 0) C dL_law_839 rfl rfl ?_
    refine aw_lald (N := 1) C ho3 (show vp_in (0 : Int32) 1 from vp_in_nI (n := 0) (by decide) (by decide)) dL_law_840 rfl ?_
    rw [hv c835]
    refine aw_iload C dL_law_841 rfl rfl ?_
    refine aw_i2l C dL_law_843 rfl ?_
    refine aw_lcmp C dL_law_844 rfl ?_
    rw [lg_v]
    refine aw_if_eq (tgt := 850) C dL_law_845 (by decide) rfl (fun _ => ?_) (fun c => absurd rfl c)
    refine aw_goto (tgt := 2214) C dL_law_850 (by decide) ?_
    refine aw_pick (ls' := [(0, _), (1, _), (2, _), (3, _), (4, _)]) [2, 3, 4, 5, 6] rfl ?_
    exact kk _ ⟨ad', am, _, Y', _, F', hS3, e0, hM3, rfl, hZ.will.next, hR1, ho3⟩
set_option maxRecDepth 100000 in
theorem W_sign {x : Cx} {Q : State → Prop} {ez : Nat} (GL : GLk x.g x.l ez) (C : AWC x cL_law 7 RL room_1 (some .boolean)) {b L : Nat} {xs : Nat → Int32} (hX : SCR x b L xs) {a : Nat} (ha : a + 7 ≤ L) (hL : L ≤ 3584) {k n : Nat} (hk : k + 60 ≤ 601024) (hn : n + 12000 ≤ 7293034) {N : Nat} (hN : N < 2 ^ 29) {q1 q2 ao : Nat} {sg : Sg} (hW : LW x.g ez N q1 q2 ao sg) (kk : ∀ sg', LW x.g ez (N + 1) q1 q2 ao sg' → AW x Q (k + 60) (n + 12000) sg' 2214 [(0, .ref b), (1, .ref q1), (2, .ref q2), (3, .ref ao), (4, .int (nI a))] []) : AW x Q k n sg 853 [(0, .ref b), (1, .ref q1), (2, .ref q2), (3, .ref ao), (4, .int (nI a))] [] := by
  obtain ⟨ad, am, u, Y, th, F, hS, rfl, hM, rfl, hZ, hR, ho⟩ := hW
  refine aw_aload_n C dL_law_853 rfl rfl rfl ?_
  refine aw_scr (j := 1) (a := a) (p1 := 855) (p2 := 857) (p3 := 858) (p4 := 859) (p5 := 860) C hX dL_law_854 dL_law_855 dL_law_857 dL_law_858 dL_law_859 rfl rfl rfl rfl rfl rfl rfl rfl (by omega) (by omega) ?_
  refine aw_scr (j := 2) (a := a) (p1 := 861) (p2 := 863) (p3 := 864) (p4 := 865) (p5 := 866) C hX dL_law_860 dL_law_861 dL_law_863 dL_law_864 dL_law_865 rfl rfl rfl rfl rfl rfl rfl rfl (by omega) (by omega) ?_
  refine aw_scr (j := 3) (a := a) (p1 := 867) (p2 := 869) (p3 := 870) (p4 := 871) (p5 := 872) C hX dL_law_866 dL_law_867 dL_law_869 dL_law_870 dL_law_871 rfl rfl rfl rfl rfl rfl rfl rfl (by omega) (by omega) ?_
  refine aw_bool (p1 := 875) (p2 := 876) (p3 := 879) (p4 := 880) C dL_law_872 dL_law_875 dL_law_876 dL_law_879 rfl rfl rfl rfl ?_
  refine aw_scr (j := 4) (a := a) (p1 := 881) (p2 := 883) (p3 := 884) (p4 := 885) (p5 := 886) C hX dL_law_880 dL_law_881 dL_law_883 dL_law_884 dL_law_885 rfl rfl rfl rfl rfl rfl rfl rfl (by omega) (by omega) ?_
  refine aw_aload_n C dL_law_886 rfl rfl rfl ?_
  refine aw_callSW C kL_sign (H_sign GL hS hZ.1 (v := (xs (a + 1))) (w := (xs (a + 2))) (ig := (!decide (xs (a + 3) = 0))) (kp0 := (xs (a + 4))) ho) ⟨by decide, by decide⟩ rfl rfl (Nat.le_of_ble_eq_true rfl) hk hn dL_law_887 rfl (fun _ _ q => ax_no q) (fun v1 s1 hq => ?_)
  obtain ⟨rfl, ad', Y', F', hS1, e0, hM1, ho1, hR1, hv⟩ := law_after hS hM ho hR hq
  refine aw_istore (ls' := [(5, _), (0, _), (1, _), (2, _), (3, _), (4, _)]) C dL_law_890 (by decide) rfl rfl ?_
  refine aw_aload_n C dL_law_892 rfl rfl rfl ?_
  refine aw_scr (j := 1) (a := a) (p1 := 894) (p2 := 896) (p3 := 897) (p4 := 898) (p5 := 899) C hX dL_law_893 dL_law_894 dL_law_896 dL_law_897 dL_law_898 rfl rfl rfl rfl rfl rfl rfl rfl (by omega) (by omega) ?_
  refine aw_scr (j := 2) (a := a) (p1 := 900) (p2 := 902) (p3 := 903) (p4 := 904) (p5 := 905) C hX dL_law_899 dL_law_900 dL_law_902 dL_law_903 dL_law_904 rfl rfl rfl rfl rfl rfl rfl rfl (by omega) (by omega) ?_
  refine aw_scr (j := 3) (a := a) (p1 := 906) (p2 := 908) (p3 := 909) (p4 := 910) (p5 := 911) C hX dL_law_905 dL_law_906 dL_law_908 dL_law_909 dL_law_910 rfl rfl rfl rfl rfl rfl rfl rfl (by omega) (by omega) ?_
  refine aw_bool (p1 := 914) (p2 := 915) (p3 := 918) (p4 := 919) C dL_law_911 dL_law_914 dL_law_915 dL_law_918 rfl rfl rfl rfl ?_
  refine aw_scr (j := 4) (a := a) (p1 := 920) (p2 := 922) (p3 := 923) (p4 := 924) (p5 := 925) C hX dL_law_919 dL_law_920 dL_law_922 dL_law_923 dL_law_924 rfl rfl rfl rfl rfl rfl rfl rfl (by omega) (by omega) ?_
  refine aw_callV C k_L_151 (M_sign GL.1.1 GL.1.2.1 hM1 hZ.1.W hZ.1.I.D hZ.1.I.B (v := (xs (a + 1))) (w := (xs (a + 2))) (ig := (!decide (xs (a + 3) = 0))) (k := (xs (a + 4)))) ⟨by decide, by decide⟩ (ci := 11) rfl hM1.1 rfl rfl (Nat.le_of_ble_eq_true rfl) hk hn dL_law_925 rfl (fun _ _ q => ax_no q) (fun v2 s3 hq2 => ?_)
  obtain ⟨rfl, hM3, hF3⟩ := hq2
  have hS3 := hS1.keepM hM1 hF3
  have ho3 := out_M hM1 ho1 hF3
  refine aw_istore (ls' := [(6, _), (5, _), (0, _), (1, _), (2, _), (3, _), (4, _)]) C dL_law_928 (by decide) rfl rfl ?_
  refine aw_aload_n C dL_law_930 rfl rfl rfl ?_
  refine cw_callVp C k_L_118 (M_thrown GL.1.1 GL.1.2.1 hM3) ⟨by decide, by decide⟩ (ci := 11) rfl hM3.1 rfl rfl (Nat.le_of_ble_eq_true rfl) hk hn dL_law_931 rfl ?_
  refine aw_iload C dL_law_934 rfl rfl ?_
  refine aw_icmp_eq (tgt := 941) C dL_law_936 (by decide) rfl (fun _ => ?_) (fun c => absurd rfl c)
  refine aw_iload C dL_law_941 rfl rfl ?_
  refine aw_if_ne (tgt := 958) C dL_law_943 (by decide) rfl (fun c943 => ?_) (fun c943 => ?_)
  · refine aw_goto (tgt := 2214) C dL_law_958 (by decide) ?_
    refine aw_pick (ls' := [(0, _), (1, _), (2, _), (3, _), (4, _)]) [2, 3, 4, 5, 6] rfl ?_
    exact kk _ ⟨ad', am, _, Y', _, F', hS3, e0, hM3, rfl, hZ.sign.next, hR1, ho3⟩
  · refine aw_aload_n C dL_law_946 rfl rfl rfl ?_
    refine aw_iconst (v := 0) C dL_law_947 rfl rfl ?_
    refine aw_lald (N := 1) C ho3 (show vp_in (0 : Int32) 1 from vp_in_nI (n := 0) (by decide) (by decide)) dL_law_948 rfl ?_
    rw [hv c943]
    refine aw_iload C dL_law_949 rfl rfl ?_
    refine aw_i2l C dL_law_951 rfl ?_
    refine aw_lcmp C dL_law_952 rfl ?_
    rw [lg_v]
    refine aw_if_eq (tgt := 958) C dL_law_953 (by decide) rfl (fun _ => ?_) (fun c => absurd rfl c)
    refine aw_goto (tgt := 2214) C dL_law_958 (by decide) ?_
    refine aw_pick (ls' := [(0, _), (1, _), (2, _), (3, _), (4, _)]) [2, 3, 4, 5, 6] rfl ?_
    exact kk _ ⟨ad', am, _, Y', _, F', hS3, e0, hM3, rfl, hZ.sign.next, hR1, ho3⟩
set_option maxRecDepth 100000 in
theorem W_add {x : Cx} {Q : State → Prop} {ez : Nat} (GL : GLk x.g x.l ez) (C : AWC x cL_law 7 RL room_1 (some .boolean)) {b L : Nat} {xs : Nat → Int32} (hX : SCR x b L xs) {a : Nat} (ha : a + 7 ≤ L) (hL : L ≤ 3584) {k n : Nat} (hk : k + 60 ≤ 601024) (hn : n + 12000 ≤ 7293034) {N : Nat} (hN : N < 2 ^ 29) {q1 q2 ao : Nat} {sg : Sg} (hW : LW x.g ez N q1 q2 ao sg) (kk : ∀ sg', LW x.g ez (N + 1) q1 q2 ao sg' → AW x Q (k + 60) (n + 12000) sg' 2214 [(0, .ref b), (1, .ref q1), (2, .ref q2), (3, .ref ao), (4, .int (nI a))] []) : AW x Q k n sg 961 [(0, .ref b), (1, .ref q1), (2, .ref q2), (3, .ref ao), (4, .int (nI a))] [] := by
  obtain ⟨ad, am, u, Y, th, F, hS, rfl, hM, rfl, hZ, hR, ho⟩ := hW
  refine aw_aload_n C dL_law_961 rfl rfl rfl ?_
  refine aw_scr (j := 1) (a := a) (p1 := 963) (p2 := 965) (p3 := 966) (p4 := 967) (p5 := 968) C hX dL_law_962 dL_law_963 dL_law_965 dL_law_966 dL_law_967 rfl rfl rfl rfl rfl rfl rfl rfl (by omega) (by omega) ?_
  refine aw_scr (j := 2) (a := a) (p1 := 969) (p2 := 971) (p3 := 972) (p4 := 973) (p5 := 974) C hX dL_law_968 dL_law_969 dL_law_971 dL_law_972 dL_law_973 rfl rfl rfl rfl rfl rfl rfl rfl (by omega) (by omega) ?_
  refine aw_aload_n C dL_law_974 rfl rfl rfl ?_
  refine aw_callSW C kL_add (H_add GL hS hZ.1 (v := (xs (a + 1))) (w := (xs (a + 2))) ho) ⟨by decide, by decide⟩ rfl rfl (Nat.le_of_ble_eq_true rfl) hk hn dL_law_975 rfl (fun _ _ q => ax_no q) (fun v1 s1 hq => ?_)
  obtain ⟨rfl, ad', Y', F', hS1, e0, hM1, ho1, hR1, hv⟩ := law_after hS hM ho hR hq
  refine aw_istore (ls' := [(5, _), (0, _), (1, _), (2, _), (3, _), (4, _)]) C dL_law_978 (by decide) rfl rfl ?_
  refine aw_aload_n C dL_law_980 rfl rfl rfl ?_
  refine aw_scr (j := 1) (a := a) (p1 := 982) (p2 := 984) (p3 := 985) (p4 := 986) (p5 := 987) C hX dL_law_981 dL_law_982 dL_law_984 dL_law_985 dL_law_986 rfl rfl rfl rfl rfl rfl rfl rfl (by omega) (by omega) ?_
  refine aw_scr (j := 2) (a := a) (p1 := 988) (p2 := 990) (p3 := 991) (p4 := 992) (p5 := 993) C hX dL_law_987 dL_law_988 dL_law_990 dL_law_991 dL_law_992 rfl rfl rfl rfl rfl rfl rfl rfl (by omega) (by omega) ?_
  refine aw_callV C k_L_154 (M_add GL.1.1 GL.1.2.1 hM1 hZ.1.W (v := (xs (a + 1))) (w := (xs (a + 2)))) ⟨by decide, by decide⟩ (ci := 11) rfl hM1.1 rfl rfl (Nat.le_of_ble_eq_true rfl) hk hn dL_law_993 rfl (fun _ _ q => ax_no q) (fun v2 s3 hq2 => ?_)
  obtain ⟨rfl, hM3, hF3⟩ := hq2
  have hS3 := hS1.keepM hM1 hF3
  have ho3 := out_M hM1 ho1 hF3
  refine aw_istore (ls' := [(6, _), (5, _), (0, _), (1, _), (2, _), (3, _), (4, _)]) C dL_law_996 (by decide) rfl rfl ?_
  refine aw_aload_n C dL_law_998 rfl rfl rfl ?_
  refine cw_callVp C k_L_118 (M_thrown GL.1.1 GL.1.2.1 hM3) ⟨by decide, by decide⟩ (ci := 11) rfl hM3.1 rfl rfl (Nat.le_of_ble_eq_true rfl) hk hn dL_law_999 rfl ?_
  refine aw_iload C dL_law_1002 rfl rfl ?_
  refine aw_icmp_eq (tgt := 1009) C dL_law_1004 (by decide) rfl (fun _ => ?_) (fun c => absurd rfl c)
  refine aw_iload C dL_law_1009 rfl rfl ?_
  refine aw_if_ne (tgt := 1026) C dL_law_1011 (by decide) rfl (fun c1011 => ?_) (fun c1011 => ?_)
  · refine aw_goto (tgt := 2214) C dL_law_1026 (by decide) ?_
    refine aw_pick (ls' := [(0, _), (1, _), (2, _), (3, _), (4, _)]) [2, 3, 4, 5, 6] rfl ?_
    exact kk _ ⟨ad', am, _, Y', _, F', hS3, e0, hM3, rfl, hZ.add.next, hR1, ho3⟩
  · refine aw_aload_n C dL_law_1014 rfl rfl rfl ?_
    refine aw_iconst (v := 0) C dL_law_1015 rfl rfl ?_
    refine aw_lald (N := 1) C ho3 (show vp_in (0 : Int32) 1 from vp_in_nI (n := 0) (by decide) (by decide)) dL_law_1016 rfl ?_
    rw [hv c1011]
    refine aw_iload C dL_law_1017 rfl rfl ?_
    refine aw_i2l C dL_law_1019 rfl ?_
    refine aw_lcmp C dL_law_1020 rfl ?_
    rw [lg_v]
    refine aw_if_eq (tgt := 1026) C dL_law_1021 (by decide) rfl (fun _ => ?_) (fun c => absurd rfl c)
    refine aw_goto (tgt := 2214) C dL_law_1026 (by decide) ?_
    refine aw_pick (ls' := [(0, _), (1, _), (2, _), (3, _), (4, _)]) [2, 3, 4, 5, 6] rfl ?_
    exact kk _ ⟨ad', am, _, Y', _, F', hS3, e0, hM3, rfl, hZ.add.next, hR1, ho3⟩
set_option maxRecDepth 100000 in
theorem W_witness {x : Cx} {Q : State → Prop} {ez : Nat} (GL : GLk x.g x.l ez) (C : AWC x cL_law 7 RL room_1 (some .boolean)) {b L : Nat} {xs : Nat → Int32} (hX : SCR x b L xs) {a : Nat} (ha : a + 7 ≤ L) (hL : L ≤ 3584) {k n : Nat} (hk : k + 60 ≤ 601024) (hn : n + 12000 ≤ 7293034) {N : Nat} (hN : N < 2 ^ 29) {q1 q2 ao : Nat} {sg : Sg} (hW : LW x.g ez N q1 q2 ao sg) (kk : ∀ sg', LW x.g ez (N + 1) q1 q2 ao sg' → AW x Q (k + 60) (n + 12000) sg' 2214 [(0, .ref b), (1, .ref q1), (2, .ref q2), (3, .ref ao), (4, .int (nI a))] []) : AW x Q k n sg 1029 [(0, .ref b), (1, .ref q1), (2, .ref q2), (3, .ref ao), (4, .int (nI a))] [] := by
  obtain ⟨ad, am, u, Y, th, F, hS, rfl, hM, rfl, hZ, hR, ho⟩ := hW
  refine aw_aload_n C dL_law_1029 rfl rfl rfl ?_
  refine aw_scr (j := 1) (a := a) (p1 := 1031) (p2 := 1033) (p3 := 1034) (p4 := 1035) (p5 := 1036) C hX dL_law_1030 dL_law_1031 dL_law_1033 dL_law_1034 dL_law_1035 rfl rfl rfl rfl rfl rfl rfl rfl (by omega) (by omega) ?_
  refine aw_scr (j := 2) (a := a) (p1 := 1037) (p2 := 1039) (p3 := 1040) (p4 := 1041) (p5 := 1042) C hX dL_law_1036 dL_law_1037 dL_law_1039 dL_law_1040 dL_law_1041 rfl rfl rfl rfl rfl rfl rfl rfl (by omega) (by omega) ?_
  refine aw_aload_n C dL_law_1042 rfl rfl rfl ?_
  refine aw_callSW C kL_witness (H_witness GL hS hZ.1 (v := (xs (a + 1))) (w := (xs (a + 2))) ho) ⟨by decide, by decide⟩ rfl rfl (Nat.le_of_ble_eq_true rfl) hk hn dL_law_1043 rfl (fun _ _ q => ax_no q) (fun v1 s1 hq => ?_)
  obtain ⟨rfl, ad', Y', F', hS1, e0, hM1, ho1, hR1, hv⟩ := law_after hS hM ho hR hq
  refine aw_istore (ls' := [(5, _), (0, _), (1, _), (2, _), (3, _), (4, _)]) C dL_law_1046 (by decide) rfl rfl ?_
  refine aw_aload_n C dL_law_1048 rfl rfl rfl ?_
  refine aw_scr (j := 1) (a := a) (p1 := 1050) (p2 := 1052) (p3 := 1053) (p4 := 1054) (p5 := 1055) C hX dL_law_1049 dL_law_1050 dL_law_1052 dL_law_1053 dL_law_1054 rfl rfl rfl rfl rfl rfl rfl rfl (by omega) (by omega) ?_
  refine aw_scr (j := 2) (a := a) (p1 := 1056) (p2 := 1058) (p3 := 1059) (p4 := 1060) (p5 := 1061) C hX dL_law_1055 dL_law_1056 dL_law_1058 dL_law_1059 dL_law_1060 rfl rfl rfl rfl rfl rfl rfl rfl (by omega) (by omega) ?_
  refine aw_callV C k_L_157 (M_witness GL.1.1 GL.1.2.1 hM1 hZ.1.W hZ.1.P hZ.1.I.D (v := (xs (a + 1))) (w := (xs (a + 2)))) ⟨by decide, by decide⟩ (ci := 11) rfl hM1.1 rfl rfl (Nat.le_of_ble_eq_true rfl) hk hn dL_law_1061 rfl (fun _ _ q => ax_no q) (fun v2 s3 hq2 => ?_)
  obtain ⟨rfl, hM3, hF3⟩ := hq2
  have hS3 := hS1.keepM hM1 hF3
  have ho3 := out_M hM1 ho1 hF3
  refine aw_istore (ls' := [(6, _), (5, _), (0, _), (1, _), (2, _), (3, _), (4, _)]) C dL_law_1064 (by decide) rfl rfl ?_
  refine aw_aload_n C dL_law_1066 rfl rfl rfl ?_
  refine cw_callVp C k_L_118 (M_thrown GL.1.1 GL.1.2.1 hM3) ⟨by decide, by decide⟩ (ci := 11) rfl hM3.1 rfl rfl (Nat.le_of_ble_eq_true rfl) hk hn dL_law_1067 rfl ?_
  refine aw_iload C dL_law_1070 rfl rfl ?_
  refine aw_icmp_eq (tgt := 1077) C dL_law_1072 (by decide) rfl (fun _ => ?_) (fun c => absurd rfl c)
  refine aw_iload C dL_law_1077 rfl rfl ?_
  refine aw_if_ne (tgt := 1094) C dL_law_1079 (by decide) rfl (fun c1079 => ?_) (fun c1079 => ?_)
  · refine aw_goto (tgt := 2214) C dL_law_1094 (by decide) ?_
    refine aw_pick (ls' := [(0, _), (1, _), (2, _), (3, _), (4, _)]) [2, 3, 4, 5, 6] rfl ?_
    exact kk _ ⟨ad', am, _, Y', _, F', hS3, e0, hM3, rfl, hZ.witness.next, hR1, ho3⟩
  · refine aw_aload_n C dL_law_1082 rfl rfl rfl ?_
    refine aw_iconst (v := 0) C dL_law_1083 rfl rfl ?_
    refine aw_lald (N := 1) C ho3 (show vp_in (0 : Int32) 1 from vp_in_nI (n := 0) (by decide) (by decide)) dL_law_1084 rfl ?_
    rw [hv c1079]
    refine aw_iload C dL_law_1085 rfl rfl ?_
    refine aw_i2l C dL_law_1087 rfl ?_
    refine aw_lcmp C dL_law_1088 rfl ?_
    rw [lg_v]
    refine aw_if_eq (tgt := 1094) C dL_law_1089 (by decide) rfl (fun _ => ?_) (fun c => absurd rfl c)
    refine aw_goto (tgt := 2214) C dL_law_1094 (by decide) ?_
    refine aw_pick (ls' := [(0, _), (1, _), (2, _), (3, _), (4, _)]) [2, 3, 4, 5, 6] rfl ?_
    exact kk _ ⟨ad', am, _, Y', _, F', hS3, e0, hM3, rfl, hZ.witness.next, hR1, ho3⟩
set_option maxRecDepth 100000 in
theorem W_close {x : Cx} {Q : State → Prop} {ez : Nat} (GL : GLk x.g x.l ez) (C : AWC x cL_law 7 RL room_1 (some .boolean)) {b L : Nat} {xs : Nat → Int32} (hX : SCR x b L xs) {a : Nat} (ha : a + 7 ≤ L) (hL : L ≤ 3584) {k n : Nat} (hk : k + 60 ≤ 601024) (hn : n + 12000 ≤ 7293034) {N : Nat} (hN : N < 2 ^ 29) {q1 q2 ao : Nat} {sg : Sg} (hW : LW x.g ez N q1 q2 ao sg) (kk : ∀ sg', LW x.g ez (N + 1) q1 q2 ao sg' → AW x Q (k + 60) (n + 12000) sg' 2214 [(0, .ref b), (1, .ref q1), (2, .ref q2), (3, .ref ao), (4, .int (nI a))] []) : AW x Q k n sg 1097 [(0, .ref b), (1, .ref q1), (2, .ref q2), (3, .ref ao), (4, .int (nI a))] [] := by
  obtain ⟨ad, am, u, Y, th, F, hS, rfl, hM, rfl, hZ, hR, ho⟩ := hW
  refine aw_aload_n C dL_law_1097 rfl rfl rfl ?_
  refine aw_scr (j := 1) (a := a) (p1 := 1099) (p2 := 1101) (p3 := 1102) (p4 := 1103) (p5 := 1104) C hX dL_law_1098 dL_law_1099 dL_law_1101 dL_law_1102 dL_law_1103 rfl rfl rfl rfl rfl rfl rfl rfl (by omega) (by omega) ?_
  refine aw_aload_n C dL_law_1104 rfl rfl rfl ?_
  refine aw_callSW C kL_close (H_close GL hS hZ.1 (v := (xs (a + 1))) ho) ⟨by decide, by decide⟩ rfl rfl (Nat.le_of_ble_eq_true rfl) hk hn dL_law_1105 rfl (fun _ _ q => ax_no q) (fun v1 s1 hq => ?_)
  obtain ⟨rfl, ad', Y', F', hS1, e0, hM1, ho1, hR1, hv⟩ := law_after hS hM ho hR hq
  refine aw_istore (ls' := [(5, _), (0, _), (1, _), (2, _), (3, _), (4, _)]) C dL_law_1108 (by decide) rfl rfl ?_
  refine aw_aload_n C dL_law_1110 rfl rfl rfl ?_
  refine aw_scr (j := 1) (a := a) (p1 := 1112) (p2 := 1114) (p3 := 1115) (p4 := 1116) (p5 := 1117) C hX dL_law_1111 dL_law_1112 dL_law_1114 dL_law_1115 dL_law_1116 rfl rfl rfl rfl rfl rfl rfl rfl (by omega) (by omega) ?_
  refine aw_callV C k_L_160 (M_close2 GL.1.1 GL.1.2.1 hM1 hZ.1.W hZ.1.I.D (v := (xs (a + 1)))) ⟨by decide, by decide⟩ (ci := 11) rfl hM1.1 rfl rfl (Nat.le_of_ble_eq_true rfl) hk hn dL_law_1117 rfl (fun _ _ q => ax_no q) (fun v2 s3 hq2 => ?_)
  obtain ⟨rfl, hM3, hF3⟩ := hq2
  have hS3 := hS1.keepM hM1 hF3
  have ho3 := out_M hM1 ho1 hF3
  refine aw_istore (ls' := [(6, _), (5, _), (0, _), (1, _), (2, _), (3, _), (4, _)]) C dL_law_1120 (by decide) rfl rfl ?_
  refine aw_aload_n C dL_law_1122 rfl rfl rfl ?_
  refine cw_callVp C k_L_118 (M_thrown GL.1.1 GL.1.2.1 hM3) ⟨by decide, by decide⟩ (ci := 11) rfl hM3.1 rfl rfl (Nat.le_of_ble_eq_true rfl) hk hn dL_law_1123 rfl ?_
  refine aw_iload C dL_law_1126 rfl rfl ?_
  refine aw_icmp_eq (tgt := 1133) C dL_law_1128 (by decide) rfl (fun _ => ?_) (fun c => absurd rfl c)
  refine aw_iload C dL_law_1133 rfl rfl ?_
  refine aw_if_ne (tgt := 1150) C dL_law_1135 (by decide) rfl (fun c1135 => ?_) (fun c1135 => ?_)
  · refine aw_goto (tgt := 2214) C dL_law_1150 (by decide) ?_
    refine aw_pick (ls' := [(0, _), (1, _), (2, _), (3, _), (4, _)]) [2, 3, 4, 5, 6] rfl ?_
    exact kk _ ⟨ad', am, _, Y', _, F', hS3, e0, hM3, rfl, hZ.close.next, hR1, ho3⟩
  · refine aw_aload_n C dL_law_1138 rfl rfl rfl ?_
    refine aw_iconst (v := 0) C dL_law_1139 rfl rfl ?_
    refine aw_lald (N := 1) C ho3 (show vp_in (0 : Int32) 1 from vp_in_nI (n := 0) (by decide) (by decide)) dL_law_1140 rfl ?_
    rw [hv c1135]
    refine aw_iload C dL_law_1141 rfl rfl ?_
    refine aw_i2l C dL_law_1143 rfl ?_
    refine aw_lcmp C dL_law_1144 rfl ?_
    rw [lg_v]
    refine aw_if_eq (tgt := 1150) C dL_law_1145 (by decide) rfl (fun _ => ?_) (fun c => absurd rfl c)
    refine aw_goto (tgt := 2214) C dL_law_1150 (by decide) ?_
    refine aw_pick (ls' := [(0, _), (1, _), (2, _), (3, _), (4, _)]) [2, 3, 4, 5, 6] rfl ?_
    exact kk _ ⟨ad', am, _, Y', _, F', hS3, e0, hM3, rfl, hZ.close.next, hR1, ho3⟩
set_option maxRecDepth 100000 in
theorem W_deed {x : Cx} {Q : State → Prop} {ez : Nat} (GL : GLk x.g x.l ez) (C : AWC x cL_law 7 RL room_1 (some .boolean)) {b L : Nat} {xs : Nat → Int32} (hX : SCR x b L xs) {a : Nat} (ha : a + 7 ≤ L) (hL : L ≤ 3584) {k n : Nat} (hk : k + 60 ≤ 601024) (hn : n + 12000 ≤ 7293034) {N : Nat} (hN : N < 2 ^ 29) {q1 q2 ao : Nat} {sg : Sg} (hW : LW x.g ez N q1 q2 ao sg) (kk : ∀ sg', LW x.g ez (N + 1) q1 q2 ao sg' → AW x Q (k + 60) (n + 12000) sg' 2214 [(0, .ref b), (1, .ref q1), (2, .ref q2), (3, .ref ao), (4, .int (nI a))] []) : AW x Q k n sg 1153 [(0, .ref b), (1, .ref q1), (2, .ref q2), (3, .ref ao), (4, .int (nI a))] [] := by
  obtain ⟨ad, am, u, Y, th, F, hS, rfl, hM, rfl, hZ, hR, ho⟩ := hW
  refine aw_aload_n C dL_law_1153 rfl rfl rfl ?_
  refine aw_scr (j := 1) (a := a) (p1 := 1155) (p2 := 1157) (p3 := 1158) (p4 := 1159) (p5 := 1160) C hX dL_law_1154 dL_law_1155 dL_law_1157 dL_law_1158 dL_law_1159 rfl rfl rfl rfl rfl rfl rfl rfl (by omega) (by omega) ?_
  refine aw_scr (j := 2) (a := a) (p1 := 1161) (p2 := 1163) (p3 := 1164) (p4 := 1165) (p5 := 1166) C hX dL_law_1160 dL_law_1161 dL_law_1163 dL_law_1164 dL_law_1165 rfl rfl rfl rfl rfl rfl rfl rfl (by omega) (by omega) ?_
  refine aw_aload_n C dL_law_1166 rfl rfl rfl ?_
  refine aw_callSW C kL_deed (H_deed GL hS hZ.1 (v := (xs (a + 1))) (w := (xs (a + 2))) ho) ⟨by decide, by decide⟩ rfl rfl (Nat.le_of_ble_eq_true rfl) hk hn dL_law_1167 rfl (fun _ _ q => ax_no q) (fun v1 s1 hq => ?_)
  obtain ⟨rfl, ad', Y', F', hS1, e0, hM1, ho1, hR1, hv⟩ := law_after hS hM ho hR hq
  refine aw_istore (ls' := [(5, _), (0, _), (1, _), (2, _), (3, _), (4, _)]) C dL_law_1170 (by decide) rfl rfl ?_
  refine aw_aload_n C dL_law_1172 rfl rfl rfl ?_
  refine aw_scr (j := 1) (a := a) (p1 := 1174) (p2 := 1176) (p3 := 1177) (p4 := 1178) (p5 := 1179) C hX dL_law_1173 dL_law_1174 dL_law_1176 dL_law_1177 dL_law_1178 rfl rfl rfl rfl rfl rfl rfl rfl (by omega) (by omega) ?_
  refine aw_scr (j := 2) (a := a) (p1 := 1180) (p2 := 1182) (p3 := 1183) (p4 := 1184) (p5 := 1185) C hX dL_law_1179 dL_law_1180 dL_law_1182 dL_law_1183 dL_law_1184 rfl rfl rfl rfl rfl rfl rfl rfl (by omega) (by omega) ?_
  refine aw_callV C k_L_163 (M_deed GL.1.1 GL.1.2.1 hM1 hZ.1.W (v := (xs (a + 1))) (w := (xs (a + 2)))) ⟨by decide, by decide⟩ (ci := 11) rfl hM1.1 rfl rfl (Nat.le_of_ble_eq_true rfl) hk hn dL_law_1185 rfl (fun _ _ q => ax_no q) (fun v2 s3 hq2 => ?_)
  obtain ⟨rfl, hM3, hF3⟩ := hq2
  have hS3 := hS1.keepM hM1 hF3
  have ho3 := out_M hM1 ho1 hF3
  refine aw_istore (ls' := [(6, _), (5, _), (0, _), (1, _), (2, _), (3, _), (4, _)]) C dL_law_1188 (by decide) rfl rfl ?_
  refine aw_aload_n C dL_law_1190 rfl rfl rfl ?_
  refine cw_callVp C k_L_118 (M_thrown GL.1.1 GL.1.2.1 hM3) ⟨by decide, by decide⟩ (ci := 11) rfl hM3.1 rfl rfl (Nat.le_of_ble_eq_true rfl) hk hn dL_law_1191 rfl ?_
  refine aw_iload C dL_law_1194 rfl rfl ?_
  refine aw_icmp_eq (tgt := 1201) C dL_law_1196 (by decide) rfl (fun _ => ?_) (fun c => absurd rfl c)
  refine aw_iload C dL_law_1201 rfl rfl ?_
  refine aw_if_ne (tgt := 1218) C dL_law_1203 (by decide) rfl (fun c1203 => ?_) (fun c1203 => ?_)
  · refine aw_goto (tgt := 2214) C dL_law_1218 (by decide) ?_
    refine aw_pick (ls' := [(0, _), (1, _), (2, _), (3, _), (4, _)]) [2, 3, 4, 5, 6] rfl ?_
    exact kk _ ⟨ad', am, _, Y', _, F', hS3, e0, hM3, rfl, hZ.deedQ.next, hR1, ho3⟩
  · refine aw_aload_n C dL_law_1206 rfl rfl rfl ?_
    refine aw_iconst (v := 0) C dL_law_1207 rfl rfl ?_
    refine aw_lald (N := 1) C ho3 (show vp_in (0 : Int32) 1 from vp_in_nI (n := 0) (by decide) (by decide)) dL_law_1208 rfl ?_
    rw [hv c1203]
    refine aw_iload C dL_law_1209 rfl rfl ?_
    refine aw_i2l C dL_law_1211 rfl ?_
    refine aw_lcmp C dL_law_1212 rfl ?_
    rw [lg_v]
    refine aw_if_eq (tgt := 1218) C dL_law_1213 (by decide) rfl (fun _ => ?_) (fun c => absurd rfl c)
    refine aw_goto (tgt := 2214) C dL_law_1218 (by decide) ?_
    refine aw_pick (ls' := [(0, _), (1, _), (2, _), (3, _), (4, _)]) [2, 3, 4, 5, 6] rfl ?_
    exact kk _ ⟨ad', am, _, Y', _, F', hS3, e0, hM3, rfl, hZ.deedQ.next, hR1, ho3⟩
set_option maxRecDepth 100000 in
theorem W_label {x : Cx} {Q : State → Prop} {ez : Nat} (GL : GLk x.g x.l ez) (C : AWC x cL_law 7 RL room_1 (some .boolean)) {b L : Nat} {xs : Nat → Int32} (hX : SCR x b L xs) {a : Nat} (ha : a + 7 ≤ L) (hL : L ≤ 3584) {k n : Nat} (hk : k + 60 ≤ 601024) (hn : n + 12000 ≤ 7293034) {N : Nat} (hN : N < 2 ^ 29) {q1 q2 ao : Nat} {sg : Sg} (hW : LW x.g ez N q1 q2 ao sg) (kk : ∀ sg', LW x.g ez (N + 1) q1 q2 ao sg' → AW x Q (k + 60) (n + 12000) sg' 2214 [(0, .ref b), (1, .ref q1), (2, .ref q2), (3, .ref ao), (4, .int (nI a))] []) : AW x Q k n sg 1221 [(0, .ref b), (1, .ref q1), (2, .ref q2), (3, .ref ao), (4, .int (nI a))] [] := by
  obtain ⟨ad, am, u, Y, th, F, hS, rfl, hM, rfl, hZ, hR, ho⟩ := hW
  refine aw_aload_n C dL_law_1221 rfl rfl rfl ?_
  refine aw_scr (j := 1) (a := a) (p1 := 1223) (p2 := 1225) (p3 := 1226) (p4 := 1227) (p5 := 1228) C hX dL_law_1222 dL_law_1223 dL_law_1225 dL_law_1226 dL_law_1227 rfl rfl rfl rfl rfl rfl rfl rfl (by omega) (by omega) ?_
  refine aw_scr (j := 2) (a := a) (p1 := 1229) (p2 := 1231) (p3 := 1232) (p4 := 1233) (p5 := 1234) C hX dL_law_1228 dL_law_1229 dL_law_1231 dL_law_1232 dL_law_1233 rfl rfl rfl rfl rfl rfl rfl rfl (by omega) (by omega) ?_
  refine aw_aload_n C dL_law_1234 rfl rfl rfl ?_
  refine aw_callSW C kL_label (H_label GL hS hZ.1 (v := (xs (a + 1))) (w := (xs (a + 2))) ho) ⟨by decide, by decide⟩ rfl rfl (Nat.le_of_ble_eq_true rfl) hk hn dL_law_1235 rfl (fun _ _ q => ax_no q) (fun v1 s1 hq => ?_)
  obtain ⟨rfl, ad', Y', F', hS1, e0, hM1, ho1, hR1, hv⟩ := law_after hS hM ho hR hq
  refine aw_istore (ls' := [(5, _), (0, _), (1, _), (2, _), (3, _), (4, _)]) C dL_law_1238 (by decide) rfl rfl ?_
  refine aw_aload_n C dL_law_1240 rfl rfl rfl ?_
  refine aw_scr (j := 1) (a := a) (p1 := 1242) (p2 := 1244) (p3 := 1245) (p4 := 1246) (p5 := 1247) C hX dL_law_1241 dL_law_1242 dL_law_1244 dL_law_1245 dL_law_1246 rfl rfl rfl rfl rfl rfl rfl rfl (by omega) (by omega) ?_
  refine aw_scr (j := 2) (a := a) (p1 := 1248) (p2 := 1250) (p3 := 1251) (p4 := 1252) (p5 := 1253) C hX dL_law_1247 dL_law_1248 dL_law_1250 dL_law_1251 dL_law_1252 rfl rfl rfl rfl rfl rfl rfl rfl (by omega) (by omega) ?_
  refine aw_callV C k_L_166 (M_label GL.1.1 GL.1.2.1 hM1 hZ.1.W (v := (xs (a + 1))) (w := (xs (a + 2)))) ⟨by decide, by decide⟩ (ci := 11) rfl hM1.1 rfl rfl (Nat.le_of_ble_eq_true rfl) hk hn dL_law_1253 rfl (fun _ _ q => ax_no q) (fun v2 s3 hq2 => ?_)
  obtain ⟨rfl, hM3, hF3⟩ := hq2
  have hS3 := hS1.keepM hM1 hF3
  have ho3 := out_M hM1 ho1 hF3
  refine aw_istore (ls' := [(6, _), (5, _), (0, _), (1, _), (2, _), (3, _), (4, _)]) C dL_law_1256 (by decide) rfl rfl ?_
  refine aw_aload_n C dL_law_1258 rfl rfl rfl ?_
  refine cw_callVp C k_L_118 (M_thrown GL.1.1 GL.1.2.1 hM3) ⟨by decide, by decide⟩ (ci := 11) rfl hM3.1 rfl rfl (Nat.le_of_ble_eq_true rfl) hk hn dL_law_1259 rfl ?_
  refine aw_iload C dL_law_1262 rfl rfl ?_
  refine aw_icmp_eq (tgt := 1269) C dL_law_1264 (by decide) rfl (fun _ => ?_) (fun c => absurd rfl c)
  refine aw_iload C dL_law_1269 rfl rfl ?_
  refine aw_if_ne (tgt := 1286) C dL_law_1271 (by decide) rfl (fun c1271 => ?_) (fun c1271 => ?_)
  · refine aw_goto (tgt := 2214) C dL_law_1286 (by decide) ?_
    refine aw_pick (ls' := [(0, _), (1, _), (2, _), (3, _), (4, _)]) [2, 3, 4, 5, 6] rfl ?_
    exact kk _ ⟨ad', am, _, Y', _, F', hS3, e0, hM3, rfl, hZ.label.next, hR1, ho3⟩
  · refine aw_aload_n C dL_law_1274 rfl rfl rfl ?_
    refine aw_iconst (v := 0) C dL_law_1275 rfl rfl ?_
    refine aw_lald (N := 1) C ho3 (show vp_in (0 : Int32) 1 from vp_in_nI (n := 0) (by decide) (by decide)) dL_law_1276 rfl ?_
    rw [hv c1271]
    refine aw_iload C dL_law_1277 rfl rfl ?_
    refine aw_i2l C dL_law_1279 rfl ?_
    refine aw_lcmp C dL_law_1280 rfl ?_
    rw [lg_v]
    refine aw_if_eq (tgt := 1286) C dL_law_1281 (by decide) rfl (fun _ => ?_) (fun c => absurd rfl c)
    refine aw_goto (tgt := 2214) C dL_law_1286 (by decide) ?_
    refine aw_pick (ls' := [(0, _), (1, _), (2, _), (3, _), (4, _)]) [2, 3, 4, 5, 6] rfl ?_
    exact kk _ ⟨ad', am, _, Y', _, F', hS3, e0, hM3, rfl, hZ.label.next, hR1, ho3⟩
set_option maxRecDepth 100000 in
theorem W_revoke {x : Cx} {Q : State → Prop} {ez : Nat} (GL : GLk x.g x.l ez) (C : AWC x cL_law 7 RL room_1 (some .boolean)) {b L : Nat} {xs : Nat → Int32} (hX : SCR x b L xs) {a : Nat} (ha : a + 7 ≤ L) (hL : L ≤ 3584) {k n : Nat} (hk : k + 60 ≤ 601024) (hn : n + 12000 ≤ 7293034) {N : Nat} (hN : N < 2 ^ 29) {q1 q2 ao : Nat} {sg : Sg} (hW : LW x.g ez N q1 q2 ao sg) (kk : ∀ sg', LW x.g ez (N + 1) q1 q2 ao sg' → AW x Q (k + 60) (n + 12000) sg' 2214 [(0, .ref b), (1, .ref q1), (2, .ref q2), (3, .ref ao), (4, .int (nI a))] []) : AW x Q k n sg 1289 [(0, .ref b), (1, .ref q1), (2, .ref q2), (3, .ref ao), (4, .int (nI a))] [] := by
  obtain ⟨ad, am, u, Y, th, F, hS, rfl, hM, rfl, hZ, hR, ho⟩ := hW
  refine aw_aload_n C dL_law_1289 rfl rfl rfl ?_
  refine aw_scr (j := 1) (a := a) (p1 := 1291) (p2 := 1293) (p3 := 1294) (p4 := 1295) (p5 := 1296) C hX dL_law_1290 dL_law_1291 dL_law_1293 dL_law_1294 dL_law_1295 rfl rfl rfl rfl rfl rfl rfl rfl (by omega) (by omega) ?_
  refine aw_scr (j := 2) (a := a) (p1 := 1297) (p2 := 1299) (p3 := 1300) (p4 := 1301) (p5 := 1302) C hX dL_law_1296 dL_law_1297 dL_law_1299 dL_law_1300 dL_law_1301 rfl rfl rfl rfl rfl rfl rfl rfl (by omega) (by omega) ?_
  refine aw_bool (p1 := 1305) (p2 := 1306) (p3 := 1309) (p4 := 1310) C dL_law_1302 dL_law_1305 dL_law_1306 dL_law_1309 rfl rfl rfl rfl ?_
  refine aw_aload_n C dL_law_1310 rfl rfl rfl ?_
  refine aw_callSW C kL_revoke (H_revoke GL hS hZ.1 (v := (xs (a + 1))) (t := (!decide (xs (a + 2) = 0))) ho) ⟨by decide, by decide⟩ rfl rfl (Nat.le_of_ble_eq_true rfl) hk hn dL_law_1311 rfl (fun _ _ q => ax_no q) (fun v1 s1 hq => ?_)
  obtain ⟨rfl, ad', Y', F', hS1, e0, hM1, ho1, hR1, hv⟩ := law_after hS hM ho hR hq
  refine aw_istore (ls' := [(5, _), (0, _), (1, _), (2, _), (3, _), (4, _)]) C dL_law_1314 (by decide) rfl rfl ?_
  refine aw_aload_n C dL_law_1316 rfl rfl rfl ?_
  refine aw_scr (j := 1) (a := a) (p1 := 1318) (p2 := 1320) (p3 := 1321) (p4 := 1322) (p5 := 1323) C hX dL_law_1317 dL_law_1318 dL_law_1320 dL_law_1321 dL_law_1322 rfl rfl rfl rfl rfl rfl rfl rfl (by omega) (by omega) ?_
  refine aw_scr (j := 2) (a := a) (p1 := 1324) (p2 := 1326) (p3 := 1327) (p4 := 1328) (p5 := 1329) C hX dL_law_1323 dL_law_1324 dL_law_1326 dL_law_1327 dL_law_1328 rfl rfl rfl rfl rfl rfl rfl rfl (by omega) (by omega) ?_
  refine aw_bool (p1 := 1332) (p2 := 1333) (p3 := 1336) (p4 := 1337) C dL_law_1329 dL_law_1332 dL_law_1333 dL_law_1336 rfl rfl rfl rfl ?_
  refine aw_callV C k_L_169 (M_revoke GL.1.1 GL.1.2.1 hM1 hZ.1.W (rv_nar hZ.1.I) (v := (xs (a + 1))) (t := (!decide (xs (a + 2) = 0)))) ⟨by decide, by decide⟩ (ci := 11) rfl hM1.1 rfl rfl (Nat.le_of_ble_eq_true rfl) hk hn dL_law_1337 rfl (fun _ _ q => ax_no q) (fun v2 s3 hq2 => ?_)
  obtain ⟨rfl, hM3, hF3⟩ := hq2
  have hS3 := hS1.keepM hM1 hF3
  have ho3 := out_M hM1 ho1 hF3
  refine aw_istore (ls' := [(6, _), (5, _), (0, _), (1, _), (2, _), (3, _), (4, _)]) C dL_law_1340 (by decide) rfl rfl ?_
  refine aw_aload_n C dL_law_1342 rfl rfl rfl ?_
  refine cw_callVp C k_L_118 (M_thrown GL.1.1 GL.1.2.1 hM3) ⟨by decide, by decide⟩ (ci := 11) rfl hM3.1 rfl rfl (Nat.le_of_ble_eq_true rfl) hk hn dL_law_1343 rfl ?_
  refine aw_iload C dL_law_1346 rfl rfl ?_
  refine aw_icmp_eq (tgt := 1353) C dL_law_1348 (by decide) rfl (fun _ => ?_) (fun c => absurd rfl c)
  refine aw_iload C dL_law_1353 rfl rfl ?_
  refine aw_if_ne (tgt := 1377) C dL_law_1355 (by decide) rfl (fun c1355 => ?_) (fun c1355 => ?_)
  · refine aw_goto (tgt := 2214) C dL_law_1377 (by decide) ?_
    refine aw_pick (ls' := [(0, _), (1, _), (2, _), (3, _), (4, _)]) [2, 3, 4, 5, 6] rfl ?_
    exact kk _ ⟨ad', am, _, Y', _, F', hS3, e0, hM3, rfl, hZ.revoke.next, hR1, ho3⟩
  · refine aw_aload_n C dL_law_1358 rfl rfl rfl ?_
    refine aw_iconst (v := 0) C dL_law_1359 rfl rfl ?_
    refine aw_lald (N := 1) C ho3 (show vp_in (0 : Int32) 1 from vp_in_nI (n := 0) (by decide) (by decide)) dL_law_1360 rfl ?_
    rw [hv c1355]
    refine aw_iload C dL_law_1361 rfl rfl ?_
    refine aw_boolL (p1 := 1366) (p2 := 1367) (p3 := 1370) (p4 := 1371) C dL_law_1363 dL_law_1366 dL_law_1367 dL_law_1370 rfl rfl rfl rfl ?_
    refine aw_lcmp C dL_law_1371 rfl ?_
    rw [lg_same]
    refine aw_if_eq (tgt := 1377) C dL_law_1372 (by decide) rfl (fun _ => ?_) (fun c => absurd rfl c)
    refine aw_goto (tgt := 2214) C dL_law_1377 (by decide) ?_
    refine aw_pick (ls' := [(0, _), (1, _), (2, _), (3, _), (4, _)]) [2, 3, 4, 5, 6] rfl ?_
    exact kk _ ⟨ad', am, _, Y', _, F', hS3, e0, hM3, rfl, hZ.revoke.next, hR1, ho3⟩
set_option maxRecDepth 100000 in
theorem W_isGood {x : Cx} {Q : State → Prop} {ez : Nat} (GL : GLk x.g x.l ez) (C : AWC x cL_law 7 RL room_1 (some .boolean)) {b L : Nat} {xs : Nat → Int32} (hX : SCR x b L xs) {a : Nat} (ha : a + 7 ≤ L) (hL : L ≤ 3584) {k n : Nat} (hk : k + 60 ≤ 601024) (hn : n + 12000 ≤ 7293034) {N : Nat} (hN : N < 2 ^ 29) {q1 q2 ao : Nat} {sg : Sg} (hW : LW x.g ez N q1 q2 ao sg) (kk : ∀ sg', LW x.g ez (N + 1) q1 q2 ao sg' → AW x Q (k + 60) (n + 12000) sg' 2214 [(0, .ref b), (1, .ref q1), (2, .ref q2), (3, .ref ao), (4, .int (nI a))] []) : AW x Q k n sg 1380 [(0, .ref b), (1, .ref q1), (2, .ref q2), (3, .ref ao), (4, .int (nI a))] [] := by
  obtain ⟨ad, am, u, Y, th, F, hS, rfl, hM, rfl, hZ, hR, ho⟩ := hW
  refine aw_aload_n C dL_law_1380 rfl rfl rfl ?_
  refine aw_scr (j := 1) (a := a) (p1 := 1382) (p2 := 1384) (p3 := 1385) (p4 := 1386) (p5 := 1387) C hX dL_law_1381 dL_law_1382 dL_law_1384 dL_law_1385 dL_law_1386 rfl rfl rfl rfl rfl rfl rfl rfl (by omega) (by omega) ?_
  refine aw_aload_n C dL_law_1387 rfl rfl rfl ?_
  refine aw_callSW C kL_isGood (H_isGood GL hS hZ.1 (v := (xs (a + 1))) ho) ⟨by decide, by decide⟩ rfl rfl (Nat.le_of_ble_eq_true rfl) hk hn dL_law_1388 rfl (fun _ _ q => ax_no q) (fun v1 s1 hq => ?_)
  obtain ⟨rfl, ad', Y', F', hS1, e0, hM1, ho1, hR1, hv⟩ := law_after hS hM ho hR hq
  refine aw_istore (ls' := [(5, _), (0, _), (1, _), (2, _), (3, _), (4, _)]) C dL_law_1391 (by decide) rfl rfl ?_
  refine aw_aload_n C dL_law_1393 rfl rfl rfl ?_
  refine aw_scr (j := 1) (a := a) (p1 := 1395) (p2 := 1397) (p3 := 1398) (p4 := 1399) (p5 := 1400) C hX dL_law_1394 dL_law_1395 dL_law_1397 dL_law_1398 dL_law_1399 rfl rfl rfl rfl rfl rfl rfl rfl (by omega) (by omega) ?_
  refine aw_callV C k_L_172 (M_isGood GL.1.1 GL.1.2.1 hM1 hZ.1.W hZ.1.I.D hZ.1.I.B (v := (xs (a + 1)))) ⟨by decide, by decide⟩ (ci := 11) rfl hM1.1 rfl rfl (Nat.le_of_ble_eq_true rfl) hk hn dL_law_1400 rfl (fun _ _ q => ax_no q) (fun v2 s3 hq2 => ?_)
  obtain ⟨rfl, hM3, hF3⟩ := hq2
  have hS3 := hS1.keepM hM1 hF3
  have ho3 := out_M hM1 ho1 hF3
  refine aw_istore (ls' := [(6, _), (5, _), (0, _), (1, _), (2, _), (3, _), (4, _)]) C dL_law_1403 (by decide) rfl rfl ?_
  refine aw_aload_n C dL_law_1405 rfl rfl rfl ?_
  refine cw_callVp C k_L_118 (M_thrown GL.1.1 GL.1.2.1 hM3) ⟨by decide, by decide⟩ (ci := 11) rfl hM3.1 rfl rfl (Nat.le_of_ble_eq_true rfl) hk hn dL_law_1406 rfl ?_
  refine aw_iload C dL_law_1409 rfl rfl ?_
  refine aw_icmp_eq (tgt := 1416) C dL_law_1411 (by decide) rfl (fun _ => ?_) (fun c => absurd rfl c)
  refine aw_iload C dL_law_1416 rfl rfl ?_
  refine aw_if_ne (tgt := 1440) C dL_law_1418 (by decide) rfl (fun c1418 => ?_) (fun c1418 => ?_)
  · refine aw_goto (tgt := 2214) C dL_law_1440 (by decide) ?_
    refine aw_pick (ls' := [(0, _), (1, _), (2, _), (3, _), (4, _)]) [2, 3, 4, 5, 6] rfl ?_
    exact kk _ ⟨ad', am, _, Y', _, F', hS3, e0, hM3, rfl, hZ.isGood.next, hR1, ho3⟩
  · refine aw_aload_n C dL_law_1421 rfl rfl rfl ?_
    refine aw_iconst (v := 0) C dL_law_1422 rfl rfl ?_
    refine aw_lald (N := 1) C ho3 (show vp_in (0 : Int32) 1 from vp_in_nI (n := 0) (by decide) (by decide)) dL_law_1423 rfl ?_
    rw [hv c1418]
    refine aw_iload C dL_law_1424 rfl rfl ?_
    refine aw_boolL (p1 := 1429) (p2 := 1430) (p3 := 1433) (p4 := 1434) C dL_law_1426 dL_law_1429 dL_law_1430 dL_law_1433 rfl rfl rfl rfl ?_
    refine aw_lcmp C dL_law_1434 rfl ?_
    rw [lg_same]
    refine aw_if_eq (tgt := 1440) C dL_law_1435 (by decide) rfl (fun _ => ?_) (fun c => absurd rfl c)
    refine aw_goto (tgt := 2214) C dL_law_1440 (by decide) ?_
    refine aw_pick (ls' := [(0, _), (1, _), (2, _), (3, _), (4, _)]) [2, 3, 4, 5, 6] rfl ?_
    exact kk _ ⟨ad', am, _, Y', _, F', hS3, e0, hM3, rfl, hZ.isGood.next, hR1, ho3⟩
set_option maxRecDepth 100000 in
theorem W_copy {x : Cx} {Q : State → Prop} {ez : Nat} (GL : GLk x.g x.l ez) (C : AWC x cL_law 7 RL room_1 (some .boolean)) {b L : Nat} {xs : Nat → Int32} (hX : SCR x b L xs) {a : Nat} (ha : a + 7 ≤ L) (hL : L ≤ 3584) {k n : Nat} (hk : k + 60 ≤ 601024) (hn : n + 12000 ≤ 7293034) {N : Nat} (hN : N < 2 ^ 29) {q1 q2 ao : Nat} {sg : Sg} (hW : LW x.g ez N q1 q2 ao sg) (kk : ∀ sg', LW x.g ez (N + 1) q1 q2 ao sg' → AW x Q (k + 60) (n + 12000) sg' 2214 [(0, .ref b), (1, .ref q1), (2, .ref q2), (3, .ref ao), (4, .int (nI a))] []) : AW x Q k n sg 1443 [(0, .ref b), (1, .ref q1), (2, .ref q2), (3, .ref ao), (4, .int (nI a))] [] := by
  obtain ⟨ad, am, u, Y, th, F, hS, rfl, hM, rfl, hZ, hR, ho⟩ := hW
  refine aw_aload_n C dL_law_1443 rfl rfl rfl ?_
  refine aw_scr (j := 1) (a := a) (p1 := 1445) (p2 := 1447) (p3 := 1448) (p4 := 1449) (p5 := 1450) C hX dL_law_1444 dL_law_1445 dL_law_1447 dL_law_1448 dL_law_1449 rfl rfl rfl rfl rfl rfl rfl rfl (by omega) (by omega) ?_
  refine aw_aload_n C dL_law_1450 rfl rfl rfl ?_
  refine aw_callSW C kL_copy (H_copy GL hS hZ.1 (v := (xs (a + 1))) ho) ⟨by decide, by decide⟩ rfl rfl (Nat.le_of_ble_eq_true rfl) hk hn dL_law_1451 rfl (fun _ _ q => ax_no q) (fun v1 s1 hq => ?_)
  obtain ⟨rfl, ad', Y', F', hS1, e0, hM1, ho1, hR1, hv⟩ := law_after hS hM ho hR hq
  refine aw_istore (ls' := [(5, _), (0, _), (1, _), (2, _), (3, _), (4, _)]) C dL_law_1454 (by decide) rfl rfl ?_
  refine aw_aload_n C dL_law_1456 rfl rfl rfl ?_
  refine aw_scr (j := 1) (a := a) (p1 := 1458) (p2 := 1460) (p3 := 1461) (p4 := 1462) (p5 := 1463) C hX dL_law_1457 dL_law_1458 dL_law_1460 dL_law_1461 dL_law_1462 rfl rfl rfl rfl rfl rfl rfl rfl (by omega) (by omega) ?_
  refine aw_callV C k_L_175 (M_copy GL.1.1 GL.1.2.1 hM1 hZ.1.W hN hZ.1.I.G.g (v := (xs (a + 1)))) ⟨by decide, by decide⟩ (ci := 11) rfl hM1.1 rfl rfl (Nat.le_of_ble_eq_true rfl) hk hn dL_law_1463 rfl (fun _ _ q => ax_no q) (fun v2 s3 hq2 => ?_)
  obtain ⟨rfl, hM3, hF3⟩ := hq2
  have hS3 := hS1.keepM hM1 hF3
  have ho3 := out_M hM1 ho1 hF3
  refine aw_istore (ls' := [(6, _), (5, _), (0, _), (1, _), (2, _), (3, _), (4, _)]) C dL_law_1466 (by decide) rfl rfl ?_
  refine aw_aload_n C dL_law_1468 rfl rfl rfl ?_
  refine cw_callVp C k_L_118 (M_thrown GL.1.1 GL.1.2.1 hM3) ⟨by decide, by decide⟩ (ci := 11) rfl hM3.1 rfl rfl (Nat.le_of_ble_eq_true rfl) hk hn dL_law_1469 rfl ?_
  refine aw_iload C dL_law_1472 rfl rfl ?_
  refine aw_icmp_eq (tgt := 1479) C dL_law_1474 (by decide) rfl (fun _ => ?_) (fun c => absurd rfl c)
  refine aw_iload C dL_law_1479 rfl rfl ?_
  refine aw_if_ne (tgt := 1496) C dL_law_1481 (by decide) rfl (fun c1481 => ?_) (fun c1481 => ?_)
  · refine aw_goto (tgt := 2214) C dL_law_1496 (by decide) ?_
    refine aw_pick (ls' := [(0, _), (1, _), (2, _), (3, _), (4, _)]) [2, 3, 4, 5, 6] rfl ?_
    exact kk _ ⟨ad', am, _, Y', _, F', hS3, e0, hM3, rfl, (CZ.copy hN hZ).next, hR1, ho3⟩
  · refine aw_aload_n C dL_law_1484 rfl rfl rfl ?_
    refine aw_iconst (v := 0) C dL_law_1485 rfl rfl ?_
    refine aw_lald (N := 1) C ho3 (show vp_in (0 : Int32) 1 from vp_in_nI (n := 0) (by decide) (by decide)) dL_law_1486 rfl ?_
    rw [hv c1481]
    refine aw_iload C dL_law_1487 rfl rfl ?_
    refine aw_i2l C dL_law_1489 rfl ?_
    refine aw_lcmp C dL_law_1490 rfl ?_
    rw [lg_v]
    refine aw_if_eq (tgt := 1496) C dL_law_1491 (by decide) rfl (fun _ => ?_) (fun c => absurd rfl c)
    refine aw_goto (tgt := 2214) C dL_law_1496 (by decide) ?_
    refine aw_pick (ls' := [(0, _), (1, _), (2, _), (3, _), (4, _)]) [2, 3, 4, 5, 6] rfl ?_
    exact kk _ ⟨ad', am, _, Y', _, F', hS3, e0, hM3, rfl, (CZ.copy hN hZ).next, hR1, ho3⟩
set_option maxRecDepth 100000 in
theorem W_lose {x : Cx} {Q : State → Prop} {ez : Nat} (GL : GLk x.g x.l ez) (C : AWC x cL_law 7 RL room_1 (some .boolean)) {b L : Nat} {xs : Nat → Int32} (hX : SCR x b L xs) {a : Nat} (ha : a + 7 ≤ L) (hL : L ≤ 3584) {k n : Nat} (hk : k + 60 ≤ 601024) (hn : n + 12000 ≤ 7293034) {N : Nat} (hN : N < 2 ^ 29) {q1 q2 ao : Nat} {sg : Sg} (hW : LW x.g ez N q1 q2 ao sg) (kk : ∀ sg', LW x.g ez (N + 1) q1 q2 ao sg' → AW x Q (k + 60) (n + 12000) sg' 2214 [(0, .ref b), (1, .ref q1), (2, .ref q2), (3, .ref ao), (4, .int (nI a))] []) : AW x Q k n sg 1499 [(0, .ref b), (1, .ref q1), (2, .ref q2), (3, .ref ao), (4, .int (nI a))] [] := by
  obtain ⟨ad, am, u, Y, th, F, hS, rfl, hM, rfl, hZ, hR, ho⟩ := hW
  refine aw_aload_n C dL_law_1499 rfl rfl rfl ?_
  refine aw_scr (j := 1) (a := a) (p1 := 1501) (p2 := 1503) (p3 := 1504) (p4 := 1505) (p5 := 1506) C hX dL_law_1500 dL_law_1501 dL_law_1503 dL_law_1504 dL_law_1505 rfl rfl rfl rfl rfl rfl rfl rfl (by omega) (by omega) ?_
  refine aw_aload_n C dL_law_1506 rfl rfl rfl ?_
  refine aw_callSW C kL_lose (H_lose GL hS hZ.1 (v := (xs (a + 1))) ho) ⟨by decide, by decide⟩ rfl rfl (Nat.le_of_ble_eq_true rfl) hk hn dL_law_1507 rfl (fun _ _ q => ax_no q) (fun v1 s1 hq => ?_)
  obtain ⟨rfl, ad', Y', F', hS1, e0, hM1, ho1, hR1, hv⟩ := law_after hS hM ho hR hq
  refine aw_istore (ls' := [(5, _), (0, _), (1, _), (2, _), (3, _), (4, _)]) C dL_law_1510 (by decide) rfl rfl ?_
  refine aw_aload_n C dL_law_1512 rfl rfl rfl ?_
  refine aw_scr (j := 1) (a := a) (p1 := 1514) (p2 := 1516) (p3 := 1517) (p4 := 1518) (p5 := 1519) C hX dL_law_1513 dL_law_1514 dL_law_1516 dL_law_1517 dL_law_1518 rfl rfl rfl rfl rfl rfl rfl rfl (by omega) (by omega) ?_
  refine aw_callV C k_L_178 (M_lose GL.1.1 GL.1.2.1 hM1 hZ.1.W hZ.1.I.G.g (v := (xs (a + 1)))) ⟨by decide, by decide⟩ (ci := 11) rfl hM1.1 rfl rfl (Nat.le_of_ble_eq_true rfl) hk hn dL_law_1519 rfl (fun _ _ q => ax_no q) (fun v2 s3 hq2 => ?_)
  obtain ⟨rfl, hM3, hF3⟩ := hq2
  have hS3 := hS1.keepM hM1 hF3
  have ho3 := out_M hM1 ho1 hF3
  refine aw_istore (ls' := [(6, _), (5, _), (0, _), (1, _), (2, _), (3, _), (4, _)]) C dL_law_1522 (by decide) rfl rfl ?_
  refine aw_aload_n C dL_law_1524 rfl rfl rfl ?_
  refine cw_callVp C k_L_118 (M_thrown GL.1.1 GL.1.2.1 hM3) ⟨by decide, by decide⟩ (ci := 11) rfl hM3.1 rfl rfl (Nat.le_of_ble_eq_true rfl) hk hn dL_law_1525 rfl ?_
  refine aw_iload C dL_law_1528 rfl rfl ?_
  refine aw_icmp_eq (tgt := 1535) C dL_law_1530 (by decide) rfl (fun _ => ?_) (fun c => absurd rfl c)
  refine aw_iload C dL_law_1535 rfl rfl ?_
  refine aw_if_ne (tgt := 1552) C dL_law_1537 (by decide) rfl (fun c1537 => ?_) (fun c1537 => ?_)
  · refine aw_goto (tgt := 2214) C dL_law_1552 (by decide) ?_
    refine aw_pick (ls' := [(0, _), (1, _), (2, _), (3, _), (4, _)]) [2, 3, 4, 5, 6] rfl ?_
    exact kk _ ⟨ad', am, _, Y', _, F', hS3, e0, hM3, rfl, hZ.lose, hR1, ho3⟩
  · refine aw_aload_n C dL_law_1540 rfl rfl rfl ?_
    refine aw_iconst (v := 0) C dL_law_1541 rfl rfl ?_
    refine aw_lald (N := 1) C ho3 (show vp_in (0 : Int32) 1 from vp_in_nI (n := 0) (by decide) (by decide)) dL_law_1542 rfl ?_
    rw [hv c1537]
    refine aw_iload C dL_law_1543 rfl rfl ?_
    refine aw_i2l C dL_law_1545 rfl ?_
    refine aw_lcmp C dL_law_1546 rfl ?_
    rw [lg_v]
    refine aw_if_eq (tgt := 1552) C dL_law_1547 (by decide) rfl (fun _ => ?_) (fun c => absurd rfl c)
    refine aw_goto (tgt := 2214) C dL_law_1552 (by decide) ?_
    refine aw_pick (ls' := [(0, _), (1, _), (2, _), (3, _), (4, _)]) [2, 3, 4, 5, 6] rfl ?_
    exact kk _ ⟨ad', am, _, Y', _, F', hS3, e0, hM3, rfl, hZ.lose, hR1, ho3⟩
set_option maxRecDepth 100000 in
theorem W_proof {x : Cx} {Q : State → Prop} {ez : Nat} (GL : GLk x.g x.l ez) (C : AWC x cL_law 7 RL room_1 (some .boolean)) {b L : Nat} {xs : Nat → Int32} (hX : SCR x b L xs) {a : Nat} (ha : a + 7 ≤ L) (hL : L ≤ 3584) {k n : Nat} (hk : k + 60 ≤ 601024) (hn : n + 12000 ≤ 7293034) {N : Nat} (hN : N < 2 ^ 29) {q1 q2 ao : Nat} {sg : Sg} (hW : LW x.g ez N q1 q2 ao sg) (kk : ∀ sg', LW x.g ez (N + 1) q1 q2 ao sg' → AW x Q (k + 60) (n + 12000) sg' 2214 [(0, .ref b), (1, .ref q1), (2, .ref q2), (3, .ref ao), (4, .int (nI a))] []) : AW x Q k n sg 1555 [(0, .ref b), (1, .ref q1), (2, .ref q2), (3, .ref ao), (4, .int (nI a))] [] := by
  obtain ⟨ad, am, u, Y, th, F, hS, rfl, hM, rfl, hZ, hR, ho⟩ := hW
  refine aw_aload_n C dL_law_1555 rfl rfl rfl ?_
  refine aw_scr (j := 1) (a := a) (p1 := 1557) (p2 := 1559) (p3 := 1560) (p4 := 1561) (p5 := 1562) C hX dL_law_1556 dL_law_1557 dL_law_1559 dL_law_1560 dL_law_1561 rfl rfl rfl rfl rfl rfl rfl rfl (by omega) (by omega) ?_
  refine aw_aload_n C dL_law_1562 rfl rfl rfl ?_
  refine aw_callSW C kL_proof (H_proof GL hS hZ.1 (v := (xs (a + 1))) ho) ⟨by decide, by decide⟩ rfl rfl (Nat.le_of_ble_eq_true rfl) hk hn dL_law_1563 rfl (fun _ _ q => ax_no q) (fun v1 s1 hq => ?_)
  obtain ⟨rfl, ad', Y', F', hS1, e0, hM1, ho1, hR1, hv⟩ := law_after hS hM ho hR hq
  refine aw_istore (ls' := [(5, _), (0, _), (1, _), (2, _), (3, _), (4, _)]) C dL_law_1566 (by decide) rfl rfl ?_
  refine aw_aload_n C dL_law_1568 rfl rfl rfl ?_
  refine aw_scr (j := 1) (a := a) (p1 := 1570) (p2 := 1572) (p3 := 1573) (p4 := 1574) (p5 := 1575) C hX dL_law_1569 dL_law_1570 dL_law_1572 dL_law_1573 dL_law_1574 rfl rfl rfl rfl rfl rfl rfl rfl (by omega) (by omega) ?_
  refine aw_callV C k_L_181 (M_proof GL.1.1 GL.1.2.1 hM1 hZ.1.W (v := (xs (a + 1)))) ⟨by decide, by decide⟩ (ci := 11) rfl hM1.1 rfl rfl (Nat.le_of_ble_eq_true rfl) hk hn dL_law_1575 rfl (fun _ _ q => ax_no q) (fun v2 s3 hq2 => ?_)
  obtain ⟨rfl, hM3, hF3⟩ := hq2
  have hS3 := hS1.keepM hM1 hF3
  have ho3 := out_M hM1 ho1 hF3
  refine aw_istore (ls' := [(6, _), (5, _), (0, _), (1, _), (2, _), (3, _), (4, _)]) C dL_law_1578 (by decide) rfl rfl ?_
  refine aw_aload_n C dL_law_1580 rfl rfl rfl ?_
  refine cw_callVp C k_L_118 (M_thrown GL.1.1 GL.1.2.1 hM3) ⟨by decide, by decide⟩ (ci := 11) rfl hM3.1 rfl rfl (Nat.le_of_ble_eq_true rfl) hk hn dL_law_1581 rfl ?_
  refine aw_iload C dL_law_1584 rfl rfl ?_
  refine aw_icmp_eq (tgt := 1591) C dL_law_1586 (by decide) rfl (fun _ => ?_) (fun c => absurd rfl c)
  refine aw_iload C dL_law_1591 rfl rfl ?_
  refine aw_if_ne (tgt := 1608) C dL_law_1593 (by decide) rfl (fun c1593 => ?_) (fun c1593 => ?_)
  · refine aw_goto (tgt := 2214) C dL_law_1608 (by decide) ?_
    refine aw_pick (ls' := [(0, _), (1, _), (2, _), (3, _), (4, _)]) [2, 3, 4, 5, 6] rfl ?_
    exact kk _ ⟨ad', am, _, Y', _, F', hS3, e0, hM3, rfl, hZ.proof.next, hR1, ho3⟩
  · refine aw_aload_n C dL_law_1596 rfl rfl rfl ?_
    refine aw_iconst (v := 0) C dL_law_1597 rfl rfl ?_
    refine aw_lald (N := 1) C ho3 (show vp_in (0 : Int32) 1 from vp_in_nI (n := 0) (by decide) (by decide)) dL_law_1598 rfl ?_
    rw [hv c1593]
    refine aw_iload C dL_law_1599 rfl rfl ?_
    refine aw_i2l C dL_law_1601 rfl ?_
    refine aw_lcmp C dL_law_1602 rfl ?_
    rw [lg_v]
    refine aw_if_eq (tgt := 1608) C dL_law_1603 (by decide) rfl (fun _ => ?_) (fun c => absurd rfl c)
    refine aw_goto (tgt := 2214) C dL_law_1608 (by decide) ?_
    refine aw_pick (ls' := [(0, _), (1, _), (2, _), (3, _), (4, _)]) [2, 3, 4, 5, 6] rfl ?_
    exact kk _ ⟨ad', am, _, Y', _, F', hS3, e0, hM3, rfl, hZ.proof.next, hR1, ho3⟩
set_option maxRecDepth 100000 in
theorem W_enter {x : Cx} {Q : State → Prop} {ez : Nat} (GL : GLk x.g x.l ez) (C : AWC x cL_law 7 RL room_1 (some .boolean)) {b L : Nat} {xs : Nat → Int32} (hX : SCR x b L xs) {a : Nat} (ha : a + 7 ≤ L) (hL : L ≤ 3584) {k n : Nat} (hk : k + 60 ≤ 601024) (hn : n + 12000 ≤ 7293034) {N : Nat} (hN : N < 2 ^ 29) {q1 q2 ao : Nat} {sg : Sg} (hW : LW x.g ez N q1 q2 ao sg) (kk : ∀ sg', LW x.g ez (N + 1) q1 q2 ao sg' → AW x Q (k + 60) (n + 12000) sg' 2214 [(0, .ref b), (1, .ref q1), (2, .ref q2), (3, .ref ao), (4, .int (nI a))] []) : AW x Q k n sg 1611 [(0, .ref b), (1, .ref q1), (2, .ref q2), (3, .ref ao), (4, .int (nI a))] [] := by
  obtain ⟨ad, am, u, Y, th, F, hS, rfl, hM, rfl, hZ, hR, ho⟩ := hW
  refine aw_aload_n C dL_law_1611 rfl rfl rfl ?_
  refine aw_scr (j := 1) (a := a) (p1 := 1613) (p2 := 1615) (p3 := 1616) (p4 := 1617) (p5 := 1618) C hX dL_law_1612 dL_law_1613 dL_law_1615 dL_law_1616 dL_law_1617 rfl rfl rfl rfl rfl rfl rfl rfl (by omega) (by omega) ?_
  refine aw_aload_n C dL_law_1618 rfl rfl rfl ?_
  refine aw_callSW C kL_enter (H_enter GL hS hZ.1 (v := (xs (a + 1))) ho) ⟨by decide, by decide⟩ rfl rfl (Nat.le_of_ble_eq_true rfl) hk hn dL_law_1619 rfl (fun _ _ q => ax_no q) (fun v1 s1 hq => ?_)
  obtain ⟨rfl, ad', Y', F', hS1, e0, hM1, ho1, hR1, hv⟩ := law_after hS hM ho hR hq
  refine aw_istore (ls' := [(5, _), (0, _), (1, _), (2, _), (3, _), (4, _)]) C dL_law_1622 (by decide) rfl rfl ?_
  refine aw_aload_n C dL_law_1624 rfl rfl rfl ?_
  refine aw_scr (j := 1) (a := a) (p1 := 1626) (p2 := 1628) (p3 := 1629) (p4 := 1630) (p5 := 1631) C hX dL_law_1625 dL_law_1626 dL_law_1628 dL_law_1629 dL_law_1630 rfl rfl rfl rfl rfl rfl rfl rfl (by omega) (by omega) ?_
  refine aw_callV C k_L_184 (M_enter GL.1.1 GL.1.2.1 hM1 hZ.1.W hZ.1.P hZ.1.I.D hZ.1.I.S hZ.1.I.K hZ.1.I.V (v := (xs (a + 1)))) ⟨by decide, by decide⟩ (ci := 11) rfl hM1.1 rfl rfl (Nat.le_of_ble_eq_true rfl) hk hn dL_law_1631 rfl (fun _ _ q => ax_no q) (fun v2 s3 hq2 => ?_)
  obtain ⟨rfl, hM3, hF3⟩ := hq2
  have hS3 := hS1.keepM hM1 hF3
  have ho3 := out_M hM1 ho1 hF3
  refine aw_istore (ls' := [(6, _), (5, _), (0, _), (1, _), (2, _), (3, _), (4, _)]) C dL_law_1634 (by decide) rfl rfl ?_
  refine aw_aload_n C dL_law_1636 rfl rfl rfl ?_
  refine cw_callVp C k_L_118 (M_thrown GL.1.1 GL.1.2.1 hM3) ⟨by decide, by decide⟩ (ci := 11) rfl hM3.1 rfl rfl (Nat.le_of_ble_eq_true rfl) hk hn dL_law_1637 rfl ?_
  refine aw_iload C dL_law_1640 rfl rfl ?_
  refine aw_icmp_eq (tgt := 1647) C dL_law_1642 (by decide) rfl (fun _ => ?_) (fun c => absurd rfl c)
  refine aw_iload C dL_law_1647 rfl rfl ?_
  refine aw_if_ne (tgt := 1664) C dL_law_1649 (by decide) rfl (fun c1649 => ?_) (fun c1649 => ?_)
  · refine aw_goto (tgt := 2214) C dL_law_1664 (by decide) ?_
    refine aw_pick (ls' := [(0, _), (1, _), (2, _), (3, _), (4, _)]) [2, 3, 4, 5, 6] rfl ?_
    exact kk _ ⟨ad', am, _, Y', _, F', hS3, e0, hM3, rfl, hZ.enter.next, hR1, ho3⟩
  · refine aw_aload_n C dL_law_1652 rfl rfl rfl ?_
    refine aw_iconst (v := 0) C dL_law_1653 rfl rfl ?_
    refine aw_lald (N := 1) C ho3 (show vp_in (0 : Int32) 1 from vp_in_nI (n := 0) (by decide) (by decide)) dL_law_1654 rfl ?_
    rw [hv c1649]
    refine aw_iload C dL_law_1655 rfl rfl ?_
    refine aw_i2l C dL_law_1657 rfl ?_
    refine aw_lcmp C dL_law_1658 rfl ?_
    rw [lg_v]
    refine aw_if_eq (tgt := 1664) C dL_law_1659 (by decide) rfl (fun _ => ?_) (fun c => absurd rfl c)
    refine aw_goto (tgt := 2214) C dL_law_1664 (by decide) ?_
    refine aw_pick (ls' := [(0, _), (1, _), (2, _), (3, _), (4, _)]) [2, 3, 4, 5, 6] rfl ?_
    exact kk _ ⟨ad', am, _, Y', _, F', hS3, e0, hM3, rfl, hZ.enter.next, hR1, ho3⟩
set_option maxRecDepth 100000 in
theorem W_die {x : Cx} {Q : State → Prop} {ez : Nat} (GL : GLk x.g x.l ez) (C : AWC x cL_law 7 RL room_1 (some .boolean)) {b L : Nat} {xs : Nat → Int32} (hX : SCR x b L xs) {a : Nat} (ha : a + 7 ≤ L) (hL : L ≤ 3584) {k n : Nat} (hk : k + 60 ≤ 601024) (hn : n + 12000 ≤ 7293034) {N : Nat} (hN : N < 2 ^ 29) {q1 q2 ao : Nat} {sg : Sg} (hW : LW x.g ez N q1 q2 ao sg) (kk : ∀ sg', LW x.g ez (N + 1) q1 q2 ao sg' → AW x Q (k + 60) (n + 12000) sg' 2214 [(0, .ref b), (1, .ref q1), (2, .ref q2), (3, .ref ao), (4, .int (nI a))] []) : AW x Q k n sg 1667 [(0, .ref b), (1, .ref q1), (2, .ref q2), (3, .ref ao), (4, .int (nI a))] [] := by
  obtain ⟨ad, am, u, Y, th, F, hS, rfl, hM, rfl, hZ, hR, ho⟩ := hW
  refine aw_aload_n C dL_law_1667 rfl rfl rfl ?_
  refine aw_scr (j := 1) (a := a) (p1 := 1669) (p2 := 1671) (p3 := 1672) (p4 := 1673) (p5 := 1674) C hX dL_law_1668 dL_law_1669 dL_law_1671 dL_law_1672 dL_law_1673 rfl rfl rfl rfl rfl rfl rfl rfl (by omega) (by omega) ?_
  refine aw_aload_n C dL_law_1674 rfl rfl rfl ?_
  refine aw_callSW C kL_die (H_die GL hS hZ.1 hZ.2 (v := (xs (a + 1))) ho) ⟨by decide, by decide⟩ rfl rfl (Nat.le_of_ble_eq_true rfl) hk hn dL_law_1675 rfl (fun _ _ q => ax_no q) (fun v1 s1 hq => ?_)
  obtain ⟨rfl, ad', Y', F', hS1, e0, hM1, ho1, hR1, hv⟩ := law_after hS hM ho hR hq
  refine aw_istore (ls' := [(5, _), (0, _), (1, _), (2, _), (3, _), (4, _)]) C dL_law_1678 (by decide) rfl rfl ?_
  refine aw_aload_n C dL_law_1680 rfl rfl rfl ?_
  refine aw_scr (j := 1) (a := a) (p1 := 1682) (p2 := 1684) (p3 := 1685) (p4 := 1686) (p5 := 1687) C hX dL_law_1681 dL_law_1682 dL_law_1684 dL_law_1685 dL_law_1686 rfl rfl rfl rfl rfl rfl rfl rfl (by omega) (by omega) ?_
  refine aw_callV C k_L_187 (M_die GL.1.1 GL.1.2.1 hM1 hZ.1.W hZ.1.P hZ.1.I.D hZ.1.I.L hZ.1.I.S (v := (xs (a + 1)))) ⟨by decide, by decide⟩ (ci := 11) rfl hM1.1 rfl rfl (Nat.le_of_ble_eq_true rfl) hk hn dL_law_1687 rfl (fun _ _ q => ax_no q) (fun v2 s3 hq2 => ?_)
  obtain ⟨rfl, hM3, hF3⟩ := hq2
  have hS3 := hS1.keepM hM1 hF3
  have ho3 := out_M hM1 ho1 hF3
  refine aw_istore (ls' := [(6, _), (5, _), (0, _), (1, _), (2, _), (3, _), (4, _)]) C dL_law_1690 (by decide) rfl rfl ?_
  refine aw_aload_n C dL_law_1692 rfl rfl rfl ?_
  refine cw_callVp C k_L_118 (M_thrown GL.1.1 GL.1.2.1 hM3) ⟨by decide, by decide⟩ (ci := 11) rfl hM3.1 rfl rfl (Nat.le_of_ble_eq_true rfl) hk hn dL_law_1693 rfl ?_
  refine aw_iload C dL_law_1696 rfl rfl ?_
  refine aw_icmp_eq (tgt := 1703) C dL_law_1698 (by decide) rfl (fun _ => ?_) (fun c => absurd rfl c)
  refine aw_iload C dL_law_1703 rfl rfl ?_
  refine aw_if_ne (tgt := 1720) C dL_law_1705 (by decide) rfl (fun c1705 => ?_) (fun c1705 => ?_)
  · refine aw_goto (tgt := 2214) C dL_law_1720 (by decide) ?_
    refine aw_pick (ls' := [(0, _), (1, _), (2, _), (3, _), (4, _)]) [2, 3, 4, 5, 6] rfl ?_
    exact kk _ ⟨ad', am, _, Y', _, F', hS3, e0, hM3, rfl, hZ.die.next, hR1, ho3⟩
  · refine aw_aload_n C dL_law_1708 rfl rfl rfl ?_
    refine aw_iconst (v := 0) C dL_law_1709 rfl rfl ?_
    refine aw_lald (N := 1) C ho3 (show vp_in (0 : Int32) 1 from vp_in_nI (n := 0) (by decide) (by decide)) dL_law_1710 rfl ?_
    rw [hv c1705]
    refine aw_iload C dL_law_1711 rfl rfl ?_
    refine aw_i2l C dL_law_1713 rfl ?_
    refine aw_lcmp C dL_law_1714 rfl ?_
    rw [lg_v]
    refine aw_if_eq (tgt := 1720) C dL_law_1715 (by decide) rfl (fun _ => ?_) (fun c => absurd rfl c)
    refine aw_goto (tgt := 2214) C dL_law_1720 (by decide) ?_
    refine aw_pick (ls' := [(0, _), (1, _), (2, _), (3, _), (4, _)]) [2, 3, 4, 5, 6] rfl ?_
    exact kk _ ⟨ad', am, _, Y', _, F', hS3, e0, hM3, rfl, hZ.die.next, hR1, ho3⟩
set_option maxRecDepth 100000 in
theorem W_entry {x : Cx} {Q : State → Prop} {ez : Nat} (GL : GLk x.g x.l ez) (C : AWC x cL_law 7 RL room_1 (some .boolean)) {b L : Nat} {xs : Nat → Int32} (hX : SCR x b L xs) {a : Nat} (ha : a + 7 ≤ L) (hL : L ≤ 3584) {k n : Nat} (hk : k + 60 ≤ 601024) (hn : n + 12000 ≤ 7293034) {N : Nat} (hN : N < 2 ^ 29) {q1 q2 ao : Nat} {sg : Sg} (hW : LW x.g ez N q1 q2 ao sg) (kk : ∀ sg', LW x.g ez (N + 1) q1 q2 ao sg' → AW x Q (k + 60) (n + 12000) sg' 2214 [(0, .ref b), (1, .ref q1), (2, .ref q2), (3, .ref ao), (4, .int (nI a))] []) : AW x Q k n sg 1723 [(0, .ref b), (1, .ref q1), (2, .ref q2), (3, .ref ao), (4, .int (nI a))] [] := by
  obtain ⟨ad, am, u, Y, th, F, hS, rfl, hM, rfl, hZ, hR, ho⟩ := hW
  refine aw_aload_n C dL_law_1723 rfl rfl rfl ?_
  refine aw_scr (j := 1) (a := a) (p1 := 1725) (p2 := 1727) (p3 := 1728) (p4 := 1729) (p5 := 1730) C hX dL_law_1724 dL_law_1725 dL_law_1727 dL_law_1728 dL_law_1729 rfl rfl rfl rfl rfl rfl rfl rfl (by omega) (by omega) ?_
  refine aw_scr (j := 2) (a := a) (p1 := 1731) (p2 := 1733) (p3 := 1734) (p4 := 1735) (p5 := 1736) C hX dL_law_1730 dL_law_1731 dL_law_1733 dL_law_1734 dL_law_1735 rfl rfl rfl rfl rfl rfl rfl rfl (by omega) (by omega) ?_
  refine aw_aload_n C dL_law_1736 rfl rfl rfl ?_
  refine aw_callSW C kL_entry (H_entry GL hS hZ.1 (v := (xs (a + 1))) (w := (xs (a + 2))) ho) ⟨by decide, by decide⟩ rfl rfl (Nat.le_of_ble_eq_true rfl) hk hn dL_law_1737 rfl (fun _ _ q => ax_no q) (fun v1 s1 hq => ?_)
  obtain ⟨rfl, ad', Y', F', hS1, e0, hM1, ho1, hR1, hv⟩ := law_after hS hM ho hR hq
  refine aw_istore (ls' := [(5, _), (0, _), (1, _), (2, _), (3, _), (4, _)]) C dL_law_1740 (by decide) rfl rfl ?_
  refine aw_aload_n C dL_law_1742 rfl rfl rfl ?_
  refine aw_scr (j := 1) (a := a) (p1 := 1744) (p2 := 1746) (p3 := 1747) (p4 := 1748) (p5 := 1749) C hX dL_law_1743 dL_law_1744 dL_law_1746 dL_law_1747 dL_law_1748 rfl rfl rfl rfl rfl rfl rfl rfl (by omega) (by omega) ?_
  refine aw_scr (j := 2) (a := a) (p1 := 1750) (p2 := 1752) (p3 := 1753) (p4 := 1754) (p5 := 1755) C hX dL_law_1749 dL_law_1750 dL_law_1752 dL_law_1753 dL_law_1754 rfl rfl rfl rfl rfl rfl rfl rfl (by omega) (by omega) ?_
  refine aw_callV C k_L_190 (M_entry GL.1.1 GL.1.2.1 hM1 hZ.1.W (v := (xs (a + 1))) (w := (xs (a + 2)))) ⟨by decide, by decide⟩ (ci := 11) rfl hM1.1 rfl rfl (Nat.le_of_ble_eq_true rfl) hk hn dL_law_1755 rfl (fun _ _ q => ax_no q) (fun v2 s3 hq2 => ?_)
  obtain ⟨rfl, hM3, hF3⟩ := hq2
  have hS3 := hS1.keepM hM1 hF3
  have ho3 := out_M hM1 ho1 hF3
  refine aw_istore (ls' := [(6, _), (5, _), (0, _), (1, _), (2, _), (3, _), (4, _)]) C dL_law_1758 (by decide) rfl rfl ?_
  refine aw_aload_n C dL_law_1760 rfl rfl rfl ?_
  refine cw_callVp C k_L_118 (M_thrown GL.1.1 GL.1.2.1 hM3) ⟨by decide, by decide⟩ (ci := 11) rfl hM3.1 rfl rfl (Nat.le_of_ble_eq_true rfl) hk hn dL_law_1761 rfl ?_
  refine aw_iload C dL_law_1764 rfl rfl ?_
  refine aw_icmp_eq (tgt := 1771) C dL_law_1766 (by decide) rfl (fun _ => ?_) (fun c => absurd rfl c)
  refine aw_iload C dL_law_1771 rfl rfl ?_
  refine aw_if_ne (tgt := 1788) C dL_law_1773 (by decide) rfl (fun c1773 => ?_) (fun c1773 => ?_)
  · refine aw_goto (tgt := 2214) C dL_law_1788 (by decide) ?_
    refine aw_pick (ls' := [(0, _), (1, _), (2, _), (3, _), (4, _)]) [2, 3, 4, 5, 6] rfl ?_
    exact kk _ ⟨ad', am, _, Y', _, F', hS3, e0, hM3, rfl, hZ.entry.next, hR1, ho3⟩
  · refine aw_aload_n C dL_law_1776 rfl rfl rfl ?_
    refine aw_iconst (v := 0) C dL_law_1777 rfl rfl ?_
    refine aw_lald (N := 1) C ho3 (show vp_in (0 : Int32) 1 from vp_in_nI (n := 0) (by decide) (by decide)) dL_law_1778 rfl ?_
    rw [hv c1773]
    refine aw_iload C dL_law_1779 rfl rfl ?_
    refine aw_i2l C dL_law_1781 rfl ?_
    refine aw_lcmp C dL_law_1782 rfl ?_
    rw [lg_v]
    refine aw_if_eq (tgt := 1788) C dL_law_1783 (by decide) rfl (fun _ => ?_) (fun c => absurd rfl c)
    refine aw_goto (tgt := 2214) C dL_law_1788 (by decide) ?_
    refine aw_pick (ls' := [(0, _), (1, _), (2, _), (3, _), (4, _)]) [2, 3, 4, 5, 6] rfl ?_
    exact kk _ ⟨ad', am, _, Y', _, F', hS3, e0, hM3, rfl, hZ.entry.next, hR1, ho3⟩
set_option maxRecDepth 100000 in
theorem W_entries {x : Cx} {Q : State → Prop} {ez : Nat} (GL : GLk x.g x.l ez) (C : AWC x cL_law 7 RL room_1 (some .boolean)) {b L : Nat} {xs : Nat → Int32} (hX : SCR x b L xs) {a : Nat} (ha : a + 7 ≤ L) (hL : L ≤ 3584) {k n : Nat} (hk : k + 60 ≤ 601024) (hn : n + 12000 ≤ 7293034) {N : Nat} (hN : N < 2 ^ 29) {q1 q2 ao : Nat} {sg : Sg} (hW : LW x.g ez N q1 q2 ao sg) (kk : ∀ sg', LW x.g ez (N + 1) q1 q2 ao sg' → AW x Q (k + 60) (n + 12000) sg' 2214 [(0, .ref b), (1, .ref q1), (2, .ref q2), (3, .ref ao), (4, .int (nI a))] []) : AW x Q k n sg 1791 [(0, .ref b), (1, .ref q1), (2, .ref q2), (3, .ref ao), (4, .int (nI a))] [] := by
  obtain ⟨ad, am, u, Y, th, F, hS, rfl, hM, rfl, hZ, hR, ho⟩ := hW
  refine aw_aload_n C dL_law_1791 rfl rfl rfl ?_
  refine aw_callV C k_L_191 (F_entries GL.1 hS hZ.1) ⟨by decide, by decide⟩ (ci := 10) rfl hS.O rfl rfl (Nat.le_of_ble_eq_true rfl) (show k + 0 ≤ 601024 by omega) (show n + 0 ≤ 7293034 by omega) dL_law_1792 rfl (fun _ _ q => ax_no q) (fun v1 s1 hq => ?_)
  obtain ⟨rfl, hC⟩ := hq
  have hM1 := hM.keepC hS hC.fr
  have ho1 := out_C hS ho hC.fr
  obtain ⟨ad', Y', hS1, e0, -, -, hRP⟩ := hC
  refine aw_aload_n C dL_law_1795 rfl rfl rfl ?_
  refine aw_callV C k_L_194 (M_entries GL.1.1 GL.1.2.1 hM1) ⟨by decide, by decide⟩ (ci := 11) rfl hM1.1 rfl rfl (Nat.le_of_ble_eq_true rfl) (show k + 0 + 0 ≤ 601024 by omega) (show n + 0 + 0 ≤ 7293034 by omega) dL_law_1796 rfl (fun _ _ q => ax_no q) (fun v2 s3 hq2 => ?_)
  obtain ⟨rfl, hM3, hF3⟩ := hq2
  have hS3 := hS1.keepM hM1 hF3
  have ho3 := out_M hM1 ho1 hF3
  refine aw_icmp_eq (tgt := 2214) C dL_law_1799 (by decide) rfl (fun _ => ?_) (fun c => absurd rfl c)
  refine aw_widen (show k + 0 + 0 ≤ k + 60 by omega) (show n + 0 + 0 ≤ n + 12000 by omega) ?_
  exact kk _ ⟨ad', am, _, Y', _, F, hS3, e0, hM3, rfl, hZ.next, hRP hR, ho3⟩
set_option maxRecDepth 100000 in
theorem W_search {x : Cx} {Q : State → Prop} {ez : Nat} (GL : GLk x.g x.l ez) (C : AWC x cL_law 7 RL room_1 (some .boolean)) {b L : Nat} {xs : Nat → Int32} (hX : SCR x b L xs) {a : Nat} (ha : a + 7 ≤ L) (hL : L ≤ 3584) {k n : Nat} (hk : k + 60 ≤ 601024) (hn : n + 12000 ≤ 7293034) {N : Nat} (hN : N < 2 ^ 29) {q1 q2 ao : Nat} {sg : Sg} (hW : LW x.g ez N q1 q2 ao sg) (kk : ∀ sg', LW x.g ez (N + 1) q1 q2 ao sg' → AW x Q (k + 60) (n + 12000) sg' 2214 [(0, .ref b), (1, .ref q1), (2, .ref q2), (3, .ref ao), (4, .int (nI a))] []) : AW x Q k n sg 1804 [(0, .ref b), (1, .ref q1), (2, .ref q2), (3, .ref ao), (4, .int (nI a))] [] := by
  obtain ⟨ad, am, u, Y, th, F, hS, rfl, hM, rfl, hZ, hR, ho⟩ := hW
  refine aw_aload_n C dL_law_1804 rfl rfl rfl ?_
  refine aw_scr (j := 1) (a := a) (p1 := 1806) (p2 := 1808) (p3 := 1809) (p4 := 1810) (p5 := 1811) C hX dL_law_1805 dL_law_1806 dL_law_1808 dL_law_1809 dL_law_1810 rfl rfl rfl rfl rfl rfl rfl rfl (by omega) (by omega) ?_
  refine aw_scr (j := 2) (a := a) (p1 := 1812) (p2 := 1814) (p3 := 1815) (p4 := 1816) (p5 := 1817) C hX dL_law_1811 dL_law_1812 dL_law_1814 dL_law_1815 dL_law_1816 rfl rfl rfl rfl rfl rfl rfl rfl (by omega) (by omega) ?_
  refine aw_scr (j := 3) (a := a) (p1 := 1818) (p2 := 1820) (p3 := 1821) (p4 := 1822) (p5 := 1823) C hX dL_law_1817 dL_law_1818 dL_law_1820 dL_law_1821 dL_law_1822 rfl rfl rfl rfl rfl rfl rfl rfl (by omega) (by omega) ?_
  refine aw_aload_n C dL_law_1823 rfl rfl rfl ?_
  refine aw_callSW C kL_search (H_search GL hS hZ.1 (v := (xs (a + 1))) (a := (xs (a + 2))) (b := (xs (a + 3))) ho) ⟨by decide, by decide⟩ rfl rfl (Nat.le_of_ble_eq_true rfl) hk hn dL_law_1824 rfl (fun _ _ q => ax_no q) (fun v1 s1 hq => ?_)
  obtain ⟨rfl, ad', Y', F', hS1, e0, hM1, ho1, hR1, hv⟩ := law_after hS hM ho hR hq
  refine aw_istore (ls' := [(5, _), (0, _), (1, _), (2, _), (3, _), (4, _)]) C dL_law_1827 (by decide) rfl rfl ?_
  refine aw_aload_n C dL_law_1829 rfl rfl rfl ?_
  refine aw_scr (j := 1) (a := a) (p1 := 1831) (p2 := 1833) (p3 := 1834) (p4 := 1835) (p5 := 1836) C hX dL_law_1830 dL_law_1831 dL_law_1833 dL_law_1834 dL_law_1835 rfl rfl rfl rfl rfl rfl rfl rfl (by omega) (by omega) ?_
  refine aw_scr (j := 2) (a := a) (p1 := 1837) (p2 := 1839) (p3 := 1840) (p4 := 1841) (p5 := 1842) C hX dL_law_1836 dL_law_1837 dL_law_1839 dL_law_1840 dL_law_1841 rfl rfl rfl rfl rfl rfl rfl rfl (by omega) (by omega) ?_
  refine aw_scr (j := 3) (a := a) (p1 := 1843) (p2 := 1845) (p3 := 1846) (p4 := 1847) (p5 := 1848) C hX dL_law_1842 dL_law_1843 dL_law_1845 dL_law_1846 dL_law_1847 rfl rfl rfl rfl rfl rfl rfl rfl (by omega) (by omega) ?_
  refine aw_callV C k_L_198 (M_search GL.1.1 GL.1.2.1 hM1 hZ.1.W (v := (xs (a + 1))) (a := (xs (a + 2))) (b := (xs (a + 3)))) ⟨by decide, by decide⟩ (ci := 11) rfl hM1.1 rfl rfl (Nat.le_of_ble_eq_true rfl) hk hn dL_law_1848 rfl (fun _ _ q => ax_no q) (fun v2 s3 hq2 => ?_)
  obtain ⟨rfl, hM3, hF3⟩ := hq2
  have hS3 := hS1.keepM hM1 hF3
  have ho3 := out_M hM1 ho1 hF3
  refine aw_istore (ls' := [(6, _), (5, _), (0, _), (1, _), (2, _), (3, _), (4, _)]) C dL_law_1851 (by decide) rfl rfl ?_
  refine aw_aload_n C dL_law_1853 rfl rfl rfl ?_
  refine cw_callVp C k_L_118 (M_thrown GL.1.1 GL.1.2.1 hM3) ⟨by decide, by decide⟩ (ci := 11) rfl hM3.1 rfl rfl (Nat.le_of_ble_eq_true rfl) hk hn dL_law_1854 rfl ?_
  refine aw_iload C dL_law_1857 rfl rfl ?_
  refine aw_icmp_eq (tgt := 1864) C dL_law_1859 (by decide) rfl (fun _ => ?_) (fun c => absurd rfl c)
  refine aw_iload C dL_law_1864 rfl rfl ?_
  refine aw_if_ne (tgt := 1881) C dL_law_1866 (by decide) rfl (fun c1866 => ?_) (fun c1866 => ?_)
  · refine aw_goto (tgt := 2214) C dL_law_1881 (by decide) ?_
    refine aw_pick (ls' := [(0, _), (1, _), (2, _), (3, _), (4, _)]) [2, 3, 4, 5, 6] rfl ?_
    exact kk _ ⟨ad', am, _, Y', _, F', hS3, e0, hM3, rfl, hZ.search.next, hR1, ho3⟩
  · refine aw_aload_n C dL_law_1869 rfl rfl rfl ?_
    refine aw_iconst (v := 0) C dL_law_1870 rfl rfl ?_
    refine aw_lald (N := 1) C ho3 (show vp_in (0 : Int32) 1 from vp_in_nI (n := 0) (by decide) (by decide)) dL_law_1871 rfl ?_
    rw [hv c1866]
    refine aw_iload C dL_law_1872 rfl rfl ?_
    refine aw_i2l C dL_law_1874 rfl ?_
    refine aw_lcmp C dL_law_1875 rfl ?_
    rw [lg_v]
    refine aw_if_eq (tgt := 1881) C dL_law_1876 (by decide) rfl (fun _ => ?_) (fun c => absurd rfl c)
    refine aw_goto (tgt := 2214) C dL_law_1881 (by decide) ?_
    refine aw_pick (ls' := [(0, _), (1, _), (2, _), (3, _), (4, _)]) [2, 3, 4, 5, 6] rfl ?_
    exact kk _ ⟨ad', am, _, Y', _, F', hS3, e0, hM3, rfl, hZ.search.next, hR1, ho3⟩
set_option maxRecDepth 100000 in
theorem W_pledge {x : Cx} {Q : State → Prop} {ez : Nat} (GL : GLk x.g x.l ez) (C : AWC x cL_law 7 RL room_1 (some .boolean)) {b L : Nat} {xs : Nat → Int32} (hX : SCR x b L xs) {a : Nat} (ha : a + 7 ≤ L) (hL : L ≤ 3584) {k n : Nat} (hk : k + 60 ≤ 601024) (hn : n + 12000 ≤ 7293034) {N : Nat} (hN : N < 2 ^ 29) {q1 q2 ao : Nat} {sg : Sg} (hW : LW x.g ez N q1 q2 ao sg) (kk : ∀ sg', LW x.g ez (N + 1) q1 q2 ao sg' → AW x Q (k + 60) (n + 12000) sg' 2214 [(0, .ref b), (1, .ref q1), (2, .ref q2), (3, .ref ao), (4, .int (nI a))] []) : AW x Q k n sg 1884 [(0, .ref b), (1, .ref q1), (2, .ref q2), (3, .ref ao), (4, .int (nI a))] [] := by
  obtain ⟨ad, am, u, Y, th, F, hS, rfl, hM, rfl, hZ, hR, ho⟩ := hW
  refine aw_aload_n C dL_law_1884 rfl rfl rfl ?_
  refine aw_scr (j := 1) (a := a) (p1 := 1886) (p2 := 1888) (p3 := 1889) (p4 := 1890) (p5 := 1891) C hX dL_law_1885 dL_law_1886 dL_law_1888 dL_law_1889 dL_law_1890 rfl rfl rfl rfl rfl rfl rfl rfl (by omega) (by omega) ?_
  refine aw_scr (j := 2) (a := a) (p1 := 1892) (p2 := 1894) (p3 := 1895) (p4 := 1896) (p5 := 1897) C hX dL_law_1891 dL_law_1892 dL_law_1894 dL_law_1895 dL_law_1896 rfl rfl rfl rfl rfl rfl rfl rfl (by omega) (by omega) ?_
  refine aw_aload_n C dL_law_1897 rfl rfl rfl ?_
  refine aw_callSW C kL_pledge (H_pledge GL hS hZ.1 (v := (xs (a + 1))) (w := (xs (a + 2))) ho) ⟨by decide, by decide⟩ rfl rfl (Nat.le_of_ble_eq_true rfl) hk hn dL_law_1898 rfl (fun _ _ q => ax_no q) (fun v1 s1 hq => ?_)
  obtain ⟨rfl, ad', Y', F', hS1, e0, hM1, ho1, hR1, hv⟩ := law_after hS hM ho hR hq
  refine aw_istore (ls' := [(5, _), (0, _), (1, _), (2, _), (3, _), (4, _)]) C dL_law_1901 (by decide) rfl rfl ?_
  refine aw_aload_n C dL_law_1903 rfl rfl rfl ?_
  refine aw_scr (j := 1) (a := a) (p1 := 1905) (p2 := 1907) (p3 := 1908) (p4 := 1909) (p5 := 1910) C hX dL_law_1904 dL_law_1905 dL_law_1907 dL_law_1908 dL_law_1909 rfl rfl rfl rfl rfl rfl rfl rfl (by omega) (by omega) ?_
  refine aw_scr (j := 2) (a := a) (p1 := 1911) (p2 := 1913) (p3 := 1914) (p4 := 1915) (p5 := 1916) C hX dL_law_1910 dL_law_1911 dL_law_1913 dL_law_1914 dL_law_1915 rfl rfl rfl rfl rfl rfl rfl rfl (by omega) (by omega) ?_
  refine aw_callV C k_L_201 (M_pledge GL.1.1 GL.1.2.1 hM1 hZ.1.W (v := (xs (a + 1))) (w := (xs (a + 2)))) ⟨by decide, by decide⟩ (ci := 11) rfl hM1.1 rfl rfl (Nat.le_of_ble_eq_true rfl) hk hn dL_law_1916 rfl (fun _ _ q => ax_no q) (fun v2 s3 hq2 => ?_)
  obtain ⟨rfl, hM3, hF3⟩ := hq2
  have hS3 := hS1.keepM hM1 hF3
  have ho3 := out_M hM1 ho1 hF3
  refine aw_istore (ls' := [(6, _), (5, _), (0, _), (1, _), (2, _), (3, _), (4, _)]) C dL_law_1919 (by decide) rfl rfl ?_
  refine aw_aload_n C dL_law_1921 rfl rfl rfl ?_
  refine cw_callVp C k_L_118 (M_thrown GL.1.1 GL.1.2.1 hM3) ⟨by decide, by decide⟩ (ci := 11) rfl hM3.1 rfl rfl (Nat.le_of_ble_eq_true rfl) hk hn dL_law_1922 rfl ?_
  refine aw_iload C dL_law_1925 rfl rfl ?_
  refine aw_icmp_eq (tgt := 1932) C dL_law_1927 (by decide) rfl (fun _ => ?_) (fun c => absurd rfl c)
  refine aw_iload C dL_law_1932 rfl rfl ?_
  refine aw_if_ne (tgt := 1949) C dL_law_1934 (by decide) rfl (fun c1934 => ?_) (fun c1934 => ?_)
  · refine aw_goto (tgt := 2214) C dL_law_1949 (by decide) ?_
    refine aw_pick (ls' := [(0, _), (1, _), (2, _), (3, _), (4, _)]) [2, 3, 4, 5, 6] rfl ?_
    exact kk _ ⟨ad', am, _, Y', _, F', hS3, e0, hM3, rfl, hZ.pledge.next, hR1, ho3⟩
  · refine aw_aload_n C dL_law_1937 rfl rfl rfl ?_
    refine aw_iconst (v := 0) C dL_law_1938 rfl rfl ?_
    refine aw_lald (N := 1) C ho3 (show vp_in (0 : Int32) 1 from vp_in_nI (n := 0) (by decide) (by decide)) dL_law_1939 rfl ?_
    rw [hv c1934]
    refine aw_iload C dL_law_1940 rfl rfl ?_
    refine aw_i2l C dL_law_1942 rfl ?_
    refine aw_lcmp C dL_law_1943 rfl ?_
    rw [lg_v]
    refine aw_if_eq (tgt := 1949) C dL_law_1944 (by decide) rfl (fun _ => ?_) (fun c => absurd rfl c)
    refine aw_goto (tgt := 2214) C dL_law_1949 (by decide) ?_
    refine aw_pick (ls' := [(0, _), (1, _), (2, _), (3, _), (4, _)]) [2, 3, 4, 5, 6] rfl ?_
    exact kk _ ⟨ad', am, _, Y', _, F', hS3, e0, hM3, rfl, hZ.pledge.next, hR1, ho3⟩
set_option maxRecDepth 100000 in
theorem W_share {x : Cx} {Q : State → Prop} {ez : Nat} (GL : GLk x.g x.l ez) (C : AWC x cL_law 7 RL room_1 (some .boolean)) {b L : Nat} {xs : Nat → Int32} (hX : SCR x b L xs) {a : Nat} (ha : a + 7 ≤ L) (hL : L ≤ 3584) {k n : Nat} (hk : k + 60 ≤ 601024) (hn : n + 12000 ≤ 7293034) {N : Nat} (hN : N < 2 ^ 29) {q1 q2 ao : Nat} {sg : Sg} (hW : LW x.g ez N q1 q2 ao sg) (kk : ∀ sg', LW x.g ez (N + 1) q1 q2 ao sg' → AW x Q (k + 60) (n + 12000) sg' 2214 [(0, .ref b), (1, .ref q1), (2, .ref q2), (3, .ref ao), (4, .int (nI a))] []) : AW x Q k n sg 1952 [(0, .ref b), (1, .ref q1), (2, .ref q2), (3, .ref ao), (4, .int (nI a))] [] := by
  obtain ⟨ad, am, u, Y, th, F, hS, rfl, hM, rfl, hZ, hR, ho⟩ := hW
  refine aw_aload_n C dL_law_1952 rfl rfl rfl ?_
  refine aw_scr (j := 1) (a := a) (p1 := 1954) (p2 := 1956) (p3 := 1957) (p4 := 1958) (p5 := 1959) C hX dL_law_1953 dL_law_1954 dL_law_1956 dL_law_1957 dL_law_1958 rfl rfl rfl rfl rfl rfl rfl rfl (by omega) (by omega) ?_
  refine aw_scr (j := 2) (a := a) (p1 := 1960) (p2 := 1962) (p3 := 1963) (p4 := 1964) (p5 := 1965) C hX dL_law_1959 dL_law_1960 dL_law_1962 dL_law_1963 dL_law_1964 rfl rfl rfl rfl rfl rfl rfl rfl (by omega) (by omega) ?_
  refine aw_scr (j := 3) (a := a) (p1 := 1966) (p2 := 1968) (p3 := 1969) (p4 := 1970) (p5 := 1971) C hX dL_law_1965 dL_law_1966 dL_law_1968 dL_law_1969 dL_law_1970 rfl rfl rfl rfl rfl rfl rfl rfl (by omega) (by omega) ?_
  refine aw_bool (p1 := 1974) (p2 := 1975) (p3 := 1978) (p4 := 1979) C dL_law_1971 dL_law_1974 dL_law_1975 dL_law_1978 rfl rfl rfl rfl ?_
  refine aw_aload_n C dL_law_1979 rfl rfl rfl ?_
  refine aw_callSW C kL_share (H_share GL hS hZ.1 (v := (xs (a + 1))) (w := (xs (a + 2))) (fl := (!decide (xs (a + 3) = 0))) ho) ⟨by decide, by decide⟩ rfl rfl (Nat.le_of_ble_eq_true rfl) hk hn dL_law_1980 rfl (fun _ _ q => ax_no q) (fun v1 s1 hq => ?_)
  obtain ⟨rfl, ad', Y', F', hS1, e0, hM1, ho1, hR1, hv⟩ := law_after hS hM ho hR hq
  refine aw_istore (ls' := [(5, _), (0, _), (1, _), (2, _), (3, _), (4, _)]) C dL_law_1983 (by decide) rfl rfl ?_
  refine aw_aload_n C dL_law_1985 rfl rfl rfl ?_
  refine aw_scr (j := 1) (a := a) (p1 := 1987) (p2 := 1989) (p3 := 1990) (p4 := 1991) (p5 := 1992) C hX dL_law_1986 dL_law_1987 dL_law_1989 dL_law_1990 dL_law_1991 rfl rfl rfl rfl rfl rfl rfl rfl (by omega) (by omega) ?_
  refine aw_scr (j := 2) (a := a) (p1 := 1993) (p2 := 1995) (p3 := 1996) (p4 := 1997) (p5 := 1998) C hX dL_law_1992 dL_law_1993 dL_law_1995 dL_law_1996 dL_law_1997 rfl rfl rfl rfl rfl rfl rfl rfl (by omega) (by omega) ?_
  refine aw_scr (j := 3) (a := a) (p1 := 1999) (p2 := 2001) (p3 := 2002) (p4 := 2003) (p5 := 2004) C hX dL_law_1998 dL_law_1999 dL_law_2001 dL_law_2002 dL_law_2003 rfl rfl rfl rfl rfl rfl rfl rfl (by omega) (by omega) ?_
  refine aw_bool (p1 := 2007) (p2 := 2008) (p3 := 2011) (p4 := 2012) C dL_law_2004 dL_law_2007 dL_law_2008 dL_law_2011 rfl rfl rfl rfl ?_
  refine aw_callV C k_L_205 (M_share GL.1.1 GL.1.2.1 hM1 hZ.1.W (v := (xs (a + 1))) (w := (xs (a + 2))) (f := (!decide (xs (a + 3) = 0)))) ⟨by decide, by decide⟩ (ci := 11) rfl hM1.1 rfl rfl (Nat.le_of_ble_eq_true rfl) hk hn dL_law_2012 rfl (fun _ _ q => ax_no q) (fun v2 s3 hq2 => ?_)
  obtain ⟨rfl, hM3, hF3⟩ := hq2
  have hS3 := hS1.keepM hM1 hF3
  have ho3 := out_M hM1 ho1 hF3
  refine aw_istore (ls' := [(6, _), (5, _), (0, _), (1, _), (2, _), (3, _), (4, _)]) C dL_law_2015 (by decide) rfl rfl ?_
  refine aw_aload_n C dL_law_2017 rfl rfl rfl ?_
  refine cw_callVp C k_L_118 (M_thrown GL.1.1 GL.1.2.1 hM3) ⟨by decide, by decide⟩ (ci := 11) rfl hM3.1 rfl rfl (Nat.le_of_ble_eq_true rfl) hk hn dL_law_2018 rfl ?_
  refine aw_iload C dL_law_2021 rfl rfl ?_
  refine aw_icmp_eq (tgt := 2028) C dL_law_2023 (by decide) rfl (fun _ => ?_) (fun c => absurd rfl c)
  refine aw_iload C dL_law_2028 rfl rfl ?_
  refine aw_if_ne (tgt := 2045) C dL_law_2030 (by decide) rfl (fun c2030 => ?_) (fun c2030 => ?_)
  · refine aw_goto (tgt := 2214) C dL_law_2045 (by decide) ?_
    refine aw_pick (ls' := [(0, _), (1, _), (2, _), (3, _), (4, _)]) [2, 3, 4, 5, 6] rfl ?_
    exact kk _ ⟨ad', am, _, Y', _, F', hS3, e0, hM3, rfl, hZ.share.next, hR1, ho3⟩
  · refine aw_aload_n C dL_law_2033 rfl rfl rfl ?_
    refine aw_iconst (v := 0) C dL_law_2034 rfl rfl ?_
    refine aw_lald (N := 1) C ho3 (show vp_in (0 : Int32) 1 from vp_in_nI (n := 0) (by decide) (by decide)) dL_law_2035 rfl ?_
    rw [hv c2030]
    refine aw_iload C dL_law_2036 rfl rfl ?_
    refine aw_i2l C dL_law_2038 rfl ?_
    refine aw_lcmp C dL_law_2039 rfl ?_
    rw [lg_v]
    refine aw_if_eq (tgt := 2045) C dL_law_2040 (by decide) rfl (fun _ => ?_) (fun c => absurd rfl c)
    refine aw_goto (tgt := 2214) C dL_law_2045 (by decide) ?_
    refine aw_pick (ls' := [(0, _), (1, _), (2, _), (3, _), (4, _)]) [2, 3, 4, 5, 6] rfl ?_
    exact kk _ ⟨ad', am, _, Y', _, F', hS3, e0, hM3, rfl, hZ.share.next, hR1, ho3⟩
set_option maxRecDepth 100000 in
theorem W_shareAnew {x : Cx} {Q : State → Prop} {ez : Nat} (GL : GLk x.g x.l ez) (C : AWC x cL_law 7 RL room_1 (some .boolean)) {b L : Nat} {xs : Nat → Int32} (hX : SCR x b L xs) {a : Nat} (ha : a + 7 ≤ L) (hL : L ≤ 3584) {k n : Nat} (hk : k + 60 ≤ 601024) (hn : n + 12000 ≤ 7293034) {N : Nat} (hN : N < 2 ^ 29) {q1 q2 ao : Nat} {sg : Sg} (hW : LW x.g ez N q1 q2 ao sg) (kk : ∀ sg', LW x.g ez (N + 1) q1 q2 ao sg' → AW x Q (k + 60) (n + 12000) sg' 2214 [(0, .ref b), (1, .ref q1), (2, .ref q2), (3, .ref ao), (4, .int (nI a))] []) : AW x Q k n sg 2048 [(0, .ref b), (1, .ref q1), (2, .ref q2), (3, .ref ao), (4, .int (nI a))] [] := by
  obtain ⟨ad, am, u, Y, th, F, hS, rfl, hM, rfl, hZ, hR, ho⟩ := hW
  refine aw_aload_n C dL_law_2048 rfl rfl rfl ?_
  refine aw_scr (j := 1) (a := a) (p1 := 2050) (p2 := 2052) (p3 := 2053) (p4 := 2054) (p5 := 2055) C hX dL_law_2049 dL_law_2050 dL_law_2052 dL_law_2053 dL_law_2054 rfl rfl rfl rfl rfl rfl rfl rfl (by omega) (by omega) ?_
  refine aw_scr (j := 2) (a := a) (p1 := 2056) (p2 := 2058) (p3 := 2059) (p4 := 2060) (p5 := 2061) C hX dL_law_2055 dL_law_2056 dL_law_2058 dL_law_2059 dL_law_2060 rfl rfl rfl rfl rfl rfl rfl rfl (by omega) (by omega) ?_
  refine aw_scr (j := 3) (a := a) (p1 := 2062) (p2 := 2064) (p3 := 2065) (p4 := 2066) (p5 := 2067) C hX dL_law_2061 dL_law_2062 dL_law_2064 dL_law_2065 dL_law_2066 rfl rfl rfl rfl rfl rfl rfl rfl (by omega) (by omega) ?_
  refine aw_bool (p1 := 2070) (p2 := 2071) (p3 := 2074) (p4 := 2075) C dL_law_2067 dL_law_2070 dL_law_2071 dL_law_2074 rfl rfl rfl rfl ?_
  refine aw_aload_n C dL_law_2075 rfl rfl rfl ?_
  refine aw_callSW C kL_shareAnew (H_shareAnew GL hS hZ.1 hR (v := (xs (a + 1))) (w := (xs (a + 2))) (fl := (!decide (xs (a + 3) = 0))) ho) ⟨by decide, by decide⟩ rfl rfl (Nat.le_of_ble_eq_true rfl) hk hn dL_law_2076 rfl (fun _ _ q => ax_no q) (fun v1 s1 hq => ?_)
  obtain ⟨rfl, ad', Y', F', hS1, e0, hM1, ho1, hR1, hv⟩ := law_after hS hM ho hR hq
  refine aw_istore (ls' := [(5, _), (0, _), (1, _), (2, _), (3, _), (4, _)]) C dL_law_2079 (by decide) rfl rfl ?_
  refine aw_aload_n C dL_law_2081 rfl rfl rfl ?_
  refine aw_scr (j := 1) (a := a) (p1 := 2083) (p2 := 2085) (p3 := 2086) (p4 := 2087) (p5 := 2088) C hX dL_law_2082 dL_law_2083 dL_law_2085 dL_law_2086 dL_law_2087 rfl rfl rfl rfl rfl rfl rfl rfl (by omega) (by omega) ?_
  refine aw_scr (j := 2) (a := a) (p1 := 2089) (p2 := 2091) (p3 := 2092) (p4 := 2093) (p5 := 2094) C hX dL_law_2088 dL_law_2089 dL_law_2091 dL_law_2092 dL_law_2093 rfl rfl rfl rfl rfl rfl rfl rfl (by omega) (by omega) ?_
  refine aw_scr (j := 3) (a := a) (p1 := 2095) (p2 := 2097) (p3 := 2098) (p4 := 2099) (p5 := 2100) C hX dL_law_2094 dL_law_2095 dL_law_2097 dL_law_2098 dL_law_2099 rfl rfl rfl rfl rfl rfl rfl rfl (by omega) (by omega) ?_
  refine aw_bool (p1 := 2103) (p2 := 2104) (p3 := 2107) (p4 := 2108) C dL_law_2100 dL_law_2103 dL_law_2104 dL_law_2107 rfl rfl rfl rfl ?_
  refine aw_callV C k_L_208 (M_shareAnew GL.1.1 GL.1.2.1 hM1 hZ.1.W (v := (xs (a + 1))) (w := (xs (a + 2))) (f := (!decide (xs (a + 3) = 0)))) ⟨by decide, by decide⟩ (ci := 11) rfl hM1.1 rfl rfl (Nat.le_of_ble_eq_true rfl) hk hn dL_law_2108 rfl (fun _ _ q => ax_no q) (fun v2 s3 hq2 => ?_)
  obtain ⟨rfl, hM3, hF3⟩ := hq2
  have hS3 := hS1.keepM hM1 hF3
  have ho3 := out_M hM1 ho1 hF3
  refine aw_istore (ls' := [(6, _), (5, _), (0, _), (1, _), (2, _), (3, _), (4, _)]) C dL_law_2111 (by decide) rfl rfl ?_
  refine aw_aload_n C dL_law_2113 rfl rfl rfl ?_
  refine cw_callVp C k_L_118 (M_thrown GL.1.1 GL.1.2.1 hM3) ⟨by decide, by decide⟩ (ci := 11) rfl hM3.1 rfl rfl (Nat.le_of_ble_eq_true rfl) hk hn dL_law_2114 rfl ?_
  refine aw_iload C dL_law_2117 rfl rfl ?_
  refine aw_icmp_eq (tgt := 2124) C dL_law_2119 (by decide) rfl (fun _ => ?_) (fun c => absurd rfl c)
  refine aw_iload C dL_law_2124 rfl rfl ?_
  refine aw_if_ne (tgt := 2141) C dL_law_2126 (by decide) rfl (fun c2126 => ?_) (fun c2126 => ?_)
  · refine aw_goto (tgt := 2214) C dL_law_2141 (by decide) ?_
    refine aw_pick (ls' := [(0, _), (1, _), (2, _), (3, _), (4, _)]) [2, 3, 4, 5, 6] rfl ?_
    exact kk _ ⟨ad', am, _, Y', _, F', hS3, e0, hM3, rfl, hZ.shareAnew.next, hR1, ho3⟩
  · refine aw_aload_n C dL_law_2129 rfl rfl rfl ?_
    refine aw_iconst (v := 0) C dL_law_2130 rfl rfl ?_
    refine aw_lald (N := 1) C ho3 (show vp_in (0 : Int32) 1 from vp_in_nI (n := 0) (by decide) (by decide)) dL_law_2131 rfl ?_
    rw [hv c2126]
    refine aw_iload C dL_law_2132 rfl rfl ?_
    refine aw_i2l C dL_law_2134 rfl ?_
    refine aw_lcmp C dL_law_2135 rfl ?_
    rw [lg_v]
    refine aw_if_eq (tgt := 2141) C dL_law_2136 (by decide) rfl (fun _ => ?_) (fun c => absurd rfl c)
    refine aw_goto (tgt := 2214) C dL_law_2141 (by decide) ?_
    refine aw_pick (ls' := [(0, _), (1, _), (2, _), (3, _), (4, _)]) [2, 3, 4, 5, 6] rfl ?_
    exact kk _ ⟨ad', am, _, Y', _, F', hS3, e0, hM3, rfl, hZ.shareAnew.next, hR1, ho3⟩
set_option maxRecDepth 100000 in
theorem W_duties {x : Cx} {Q : State → Prop} {ez : Nat} (GL : GLk x.g x.l ez) (C : AWC x cL_law 7 RL room_1 (some .boolean)) {b L : Nat} {xs : Nat → Int32} (hX : SCR x b L xs) {a : Nat} (ha : a + 7 ≤ L) (hL : L ≤ 3584) {k n : Nat} (hk : k + 60 ≤ 601024) (hn : n + 12000 ≤ 7293034) {N : Nat} (hN : N < 2 ^ 29) {q1 q2 ao : Nat} {sg : Sg} (hW : LW x.g ez N q1 q2 ao sg) (kk : ∀ sg', LW x.g ez (N + 1) q1 q2 ao sg' → AW x Q (k + 60) (n + 12000) sg' 2214 [(0, .ref b), (1, .ref q1), (2, .ref q2), (3, .ref ao), (4, .int (nI a))] []) : AW x Q k n sg 2144 [(0, .ref b), (1, .ref q1), (2, .ref q2), (3, .ref ao), (4, .int (nI a))] [] := by
  obtain ⟨ad, am, u, Y, th, F, hS, rfl, hM, rfl, hZ, hR, ho⟩ := hW
  refine aw_aload_n C dL_law_2144 rfl rfl rfl ?_
  refine aw_callV C k_L_209 (F_duties GL.1 hS hZ.1) ⟨by decide, by decide⟩ (ci := 10) rfl hS.O rfl rfl (Nat.le_of_ble_eq_true rfl) (show k + 0 ≤ 601024 by omega) (show n + 0 ≤ 7293034 by omega) dL_law_2145 rfl (fun _ _ q => ax_no q) (fun v1 s1 hq => ?_)
  obtain ⟨rfl, hC⟩ := hq
  have hM1 := hM.keepC hS hC.fr
  have ho1 := out_C hS ho hC.fr
  obtain ⟨ad', Y', hS1, e0, -, -, hRP⟩ := hC
  refine aw_aload_n C dL_law_2148 rfl rfl rfl ?_
  refine aw_callV C k_L_213 (M_duties GL.1.1 GL.1.2.1 hM1) ⟨by decide, by decide⟩ (ci := 11) rfl hM1.1 rfl rfl (Nat.le_of_ble_eq_true rfl) (show k + 0 + 0 ≤ 601024 by omega) (show n + 0 + 0 ≤ 7293034 by omega) dL_law_2149 rfl (fun _ _ q => ax_no q) (fun v2 s3 hq2 => ?_)
  obtain ⟨rfl, hM3, hF3⟩ := hq2
  have hS3 := hS1.keepM hM1 hF3
  have ho3 := out_M hM1 ho1 hF3
  refine aw_lcmp C dL_law_2152 rfl ?_
  rw [lg_same]
  refine aw_if_eq (tgt := 2214) C dL_law_2153 (by decide) rfl (fun _ => ?_) (fun c => absurd rfl c)
  refine aw_widen (show k + 0 + 0 ≤ k + 60 by omega) (show n + 0 + 0 ≤ n + 12000 by omega) ?_
  exact kk _ ⟨ad', am, _, Y', _, F, hS3, e0, hM3, rfl, hZ.next, hRP hR, ho3⟩
set_option maxRecDepth 100000 in
theorem W_pass {x : Cx} {Q : State → Prop} {ez : Nat} (GL : GLk x.g x.l ez) (C : AWC x cL_law 7 RL room_1 (some .boolean)) {b L : Nat} {xs : Nat → Int32} (hX : SCR x b L xs) {a : Nat} (ha : a + 7 ≤ L) (hL : L ≤ 3584) {k n : Nat} (hk : k + 60 ≤ 601024) (hn : n + 12000 ≤ 7293034) {N : Nat} (hN : N < 2 ^ 29) {q1 q2 ao : Nat} {sg : Sg} (hW : LW x.g ez N q1 q2 ao sg) (kk : ∀ sg', LW x.g ez (N + 1) q1 q2 ao sg' → AW x Q (k + 60) (n + 12000) sg' 2214 [(0, .ref b), (1, .ref q1), (2, .ref q2), (3, .ref ao), (4, .int (nI a))] []) : AW x Q k n sg 2158 [(0, .ref b), (1, .ref q1), (2, .ref q2), (3, .ref ao), (4, .int (nI a))] [] := by
  obtain ⟨ad, am, u, Y, th, F, hS, rfl, hM, rfl, hZ, hR, ho⟩ := hW
  refine aw_aload_n C dL_law_2158 rfl rfl rfl ?_
  refine aw_scr (j := 1) (a := a) (p1 := 2160) (p2 := 2162) (p3 := 2163) (p4 := 2164) (p5 := 2165) C hX dL_law_2159 dL_law_2160 dL_law_2162 dL_law_2163 dL_law_2164 rfl rfl rfl rfl rfl rfl rfl rfl (by omega) (by omega) ?_
  refine aw_aload_n C dL_law_2165 rfl rfl rfl ?_
  refine aw_callSW C kL_pass (H_pass GL hS hZ.1 (v := (xs (a + 1))) ho) ⟨by decide, by decide⟩ rfl rfl (Nat.le_of_ble_eq_true rfl) hk hn dL_law_2166 rfl (fun _ _ q => ax_no q) (fun v1 s1 hq => ?_)
  obtain ⟨rfl, ad', Y', F', hS1, e0, hM1, ho1, hR1, hv⟩ := law_after hS hM ho hR hq
  refine aw_istore (ls' := [(5, _), (0, _), (1, _), (2, _), (3, _), (4, _)]) C dL_law_2169 (by decide) rfl rfl ?_
  refine aw_aload_n C dL_law_2171 rfl rfl rfl ?_
  refine aw_scr (j := 1) (a := a) (p1 := 2173) (p2 := 2175) (p3 := 2176) (p4 := 2177) (p5 := 2178) C hX dL_law_2172 dL_law_2173 dL_law_2175 dL_law_2176 dL_law_2177 rfl rfl rfl rfl rfl rfl rfl rfl (by omega) (by omega) ?_
  refine aw_callV C k_L_216 (M_pass GL.1.1 GL.1.2.1 hM1 (v := (xs (a + 1)))) ⟨by decide, by decide⟩ (ci := 11) rfl hM1.1 rfl rfl (Nat.le_of_ble_eq_true rfl) hk hn dL_law_2178 rfl (fun _ _ q => ax_no q) (fun v2 s3 hq2 => ?_)
  obtain ⟨rfl, hM3, hF3⟩ := hq2
  have hS3 := hS1.keepM hM1 hF3
  have ho3 := out_M hM1 ho1 hF3
  refine aw_istore (ls' := [(6, _), (5, _), (0, _), (1, _), (2, _), (3, _), (4, _)]) C dL_law_2181 (by decide) rfl rfl ?_
  refine aw_aload_n C dL_law_2183 rfl rfl rfl ?_
  refine cw_callVp C k_L_118 (M_thrown GL.1.1 GL.1.2.1 hM3) ⟨by decide, by decide⟩ (ci := 11) rfl hM3.1 rfl rfl (Nat.le_of_ble_eq_true rfl) hk hn dL_law_2184 rfl ?_
  refine aw_iload C dL_law_2187 rfl rfl ?_
  refine aw_icmp_eq (tgt := 2194) C dL_law_2189 (by decide) rfl (fun _ => ?_) (fun c => absurd rfl c)
  refine aw_iload C dL_law_2194 rfl rfl ?_
  refine aw_if_ne (tgt := 2211) C dL_law_2196 (by decide) rfl (fun c2196 => ?_) (fun c2196 => ?_)
  · refine aw_goto (tgt := 2214) C dL_law_2211 (by decide) ?_
    refine aw_pick (ls' := [(0, _), (1, _), (2, _), (3, _), (4, _)]) [2, 3, 4, 5, 6] rfl ?_
    exact kk _ ⟨ad', am, _, Y', _, F', hS3, e0, hM3, rfl, hZ.pass.next, hR1, ho3⟩
  · refine aw_aload_n C dL_law_2199 rfl rfl rfl ?_
    refine aw_iconst (v := 0) C dL_law_2200 rfl rfl ?_
    refine aw_lald (N := 1) C ho3 (show vp_in (0 : Int32) 1 from vp_in_nI (n := 0) (by decide) (by decide)) dL_law_2201 rfl ?_
    rw [hv c2196]
    refine aw_iload C dL_law_2202 rfl rfl ?_
    refine aw_i2l C dL_law_2204 rfl ?_
    refine aw_lcmp C dL_law_2205 rfl ?_
    rw [lg_v]
    refine aw_if_eq (tgt := 2211) C dL_law_2206 (by decide) rfl (fun _ => ?_) (fun c => absurd rfl c)
    refine aw_goto (tgt := 2214) C dL_law_2211 (by decide) ?_
    refine aw_pick (ls' := [(0, _), (1, _), (2, _), (3, _), (4, _)]) [2, 3, 4, 5, 6] rfl ?_
    exact kk _ ⟨ad', am, _, Y', _, F', hS3, e0, hM3, rfl, hZ.pass.next, hR1, ho3⟩
