/-! the law's helpers -/
theorem oc_Person {u : MU} {v : Int32} {f : Bool} : (opPerson u v f).1 = 0 ∨ (opPerson u v f).1 = 1 ∨ (opPerson u v f).1 = 2 := by
  unfold opPerson
  repeat' split
  all_goals simp
theorem kL_person : KSW RL 112 yL_person cL_person 5 (some .int) [(0, 10, 13, 13), (0, 10, 17, 15)] 4 := ⟨ws_of 190 (by decide +kernel), h_ini_L, ⟨⟨by decide, by decide⟩, by decide +kernel⟩, ws_of 188 (by decide +kernel), ws_of 189 (by decide +kernel)⟩
set_option maxRecDepth 100000 in
theorem H_person {g : Gx} {l : Launch} {ez : Nat} (GL : GLk g l ez) {sg : Sg} {ad : Nat → Nat → Nat} {u : MU} {Y : GS} (hS : CS g ez ad u Y sg) {N : Nat} (hI : CI N u) {v : Int32} {f : Bool} {ao : Nat} {F : Nat → Int64} (ho : sg ao = some (arJ g 1 F)) : MMW g l yL_person cL_person 5 (some .int) [(0, 10, 13, 13), (0, 10, 17, 15)] rmH sg [.ref (ad 0 0), .int v, .int (b2i f), .ref ao] (HP g ez ad u Y sg ao F vL (opPerson u v f)) noX := by
  have G := GL.1
  refine MMW.of G.1 G.2.1 (by decide) (Nat.le_of_ble_eq_true rfl) (fun x hg hlx C ht hargs => ?_)
  subst hg; subst hlx
  have C : AWC x cL_person 5 RL rmH (some .int) := C
  have hN : XNC x.s := GL.2 _ C.env.2.2
  show AW x (RQ x _ _ _ _) 0 0 sg 0 [(0, .ref (ad 0 0)), (1, .int v), (2, .int (b2i f)), (3, .ref ao)] []
  refine aw_aload_n C dL_person_0 rfl rfl rfl ?_
  refine aw_iconst (v := 0) C dL_person_1 rfl rfl ?_
  refine aw_aload_n C dL_person_2 rfl rfl rfl ?_
  refine aw_iload_n C dL_person_3 rfl rfl rfl ?_
  refine aw_iload_n C dL_person_4 rfl rfl rfl ?_
  refine aw_callV C k_L_7 (F_person G hS hI (v := v) (f := f)) ⟨by decide, by decide⟩ (ci := 10) rfl hS.O rfl rfl (Nat.le_of_ble_eq_true rfl) (Nat.le_of_ble_eq_true rfl) (Nat.le_of_ble_eq_true rfl) dL_person_5 rfl (fun E s1 hx => ?_) (fun v1 s1 hq => ?_)
  · obtain ⟨h0, rfl, hC⟩ := hx
    rcases oc_Person (u := u) (v := v) (f := f) with e | e | e
    · exact absurd e h0
    · rw [show x2p (opPerson u v f).1 = nAr from by rw [e]; rfl]
      refine ax_catch (pc' := 13) (name := nAr) C [] ⟨0, 10, 13, 13⟩ [⟨0, 10, 17, 15⟩] (ht.trans rfl) (fun y hy => absurd hy List.not_mem_nil) (by decide) (by decide) h_L_13 (ws_of 199 (by decide +kernel)) rfl (fun q => ?_)
      refine aw_astore (ls' := [(4, _), (0, _), (1, _), (2, _), (3, _)]) C dL_person_13 (by decide) rfl rfl ?_
      refine aw_iconst (v := 1) C dL_person_15 rfl rfl ?_
      exact aw_iret C rfl (Nat.le_of_ble_eq_true rfl) (Nat.le_of_ble_eq_true rfl) (HP.of1 e h0 hC) dL_person_16
    · rw [show x2p (opPerson u v f).1 = nSt from by rw [e]; rfl]
      refine ax_catch (pc' := 17) (name := nSt) C [⟨0, 10, 13, 13⟩] ⟨0, 10, 17, 15⟩ [] (ht.trans rfl) (fun y hy => by
          rw [List.mem_singleton.mp hy]
          exact Or.inr ⟨by decide, nAr, h_L_13, hN.2.2.1⟩) (by decide) (by decide) h_L_15 (ws_of 267 (by decide +kernel)) rfl (fun q => ?_)
      refine aw_astore (ls' := [(4, _), (0, _), (1, _), (2, _), (3, _)]) C dL_person_17 (by decide) rfl rfl ?_
      refine aw_iconst (v := 2) C dL_person_19 rfl rfl ?_
      exact aw_iret C rfl (Nat.le_of_ble_eq_true rfl) (Nat.le_of_ble_eq_true rfl) (HP.of1 e h0 hC) dL_person_20
  obtain ⟨h0, rfl, hC⟩ := hq
  refine aw_i2l C dL_person_8 rfl ?_
  refine aw_last (N := 1) C (out_C hS ho hC.fr) (show vp_in (0 : Int32) 1 from vp_in_nI (n := 0) (by decide) (by decide)) dL_person_9 rfl ?_
  refine aw_goto (tgt := 21) C dL_person_10 (by decide) ?_
  refine aw_iconst (v := 0) C dL_person_21 rfl rfl ?_
  exact aw_iret C rfl (Nat.le_of_ble_eq_true rfl) (Nat.le_of_ble_eq_true rfl) (HP.of0 h0 hC) dL_person_22
theorem oc_Child {u : MU} {v w : Int32} : (opChild u v w).1 = 0 ∨ (opChild u v w).1 = 1 ∨ (opChild u v w).1 = 2 ∨ (opChild u v w).1 = 3 := by
  unfold opChild
  repeat' split
  all_goals simp
theorem kL_child : KSW RL 122 yL_child cL_child 5 (some .int) [(0, 10, 13, 21), (0, 10, 17, 13), (0, 10, 21, 15)] 4 := ⟨ws_of 378 (by decide +kernel), h_ini_L, ⟨⟨by decide, by decide⟩, by decide +kernel⟩, ws_of 376 (by decide +kernel), ws_of 377 (by decide +kernel)⟩
set_option maxRecDepth 100000 in
theorem H_child {g : Gx} {l : Launch} {ez : Nat} (GL : GLk g l ez) {sg : Sg} {ad : Nat → Nat → Nat} {u : MU} {Y : GS} (hS : CS g ez ad u Y sg) {N : Nat} (hI : CI N u) {v w : Int32} {ao : Nat} {F : Nat → Int64} (ho : sg ao = some (arJ g 1 F)) : MMW g l yL_child cL_child 5 (some .int) [(0, 10, 13, 21), (0, 10, 17, 13), (0, 10, 21, 15)] rmH sg [.ref (ad 0 0), .int v, .int w, .ref ao] (HP g ez ad u Y sg ao F vL (opChild u v w)) noX := by
  have G := GL.1
  refine MMW.of G.1 G.2.1 (by decide) (Nat.le_of_ble_eq_true rfl) (fun x hg hlx C ht hargs => ?_)
  subst hg; subst hlx
  have C : AWC x cL_child 5 RL rmH (some .int) := C
  have hN : XNC x.s := GL.2 _ C.env.2.2
  show AW x (RQ x _ _ _ _) 0 0 sg 0 [(0, .ref (ad 0 0)), (1, .int v), (2, .int w), (3, .ref ao)] []
  refine aw_aload_n C dL_child_0 rfl rfl rfl ?_
  refine aw_iconst (v := 0) C dL_child_1 rfl rfl ?_
  refine aw_aload_n C dL_child_2 rfl rfl rfl ?_
  refine aw_iload_n C dL_child_3 rfl rfl rfl ?_
  refine aw_iload_n C dL_child_4 rfl rfl rfl ?_
  refine aw_callV C k_L_17 (F_child G hS hI (v := v) (w := w)) ⟨by decide, by decide⟩ (ci := 10) rfl hS.O rfl rfl (Nat.le_of_ble_eq_true rfl) (Nat.le_of_ble_eq_true rfl) (Nat.le_of_ble_eq_true rfl) dL_child_5 rfl (fun E s1 hx => ?_) (fun v1 s1 hq => ?_)
  · obtain ⟨h0, rfl, hC⟩ := hx
    rcases oc_Child (u := u) (v := v) (w := w) with e | e | e | e
    · exact absurd e h0
    · rw [show x3 (opChild u v w).1 = nB from by rw [e]; rfl]
      refine ax_catch (pc' := 13) (name := nB) C [] ⟨0, 10, 13, 21⟩ [⟨0, 10, 17, 13⟩, ⟨0, 10, 21, 15⟩] (ht.trans rfl) (fun y hy => absurd hy List.not_mem_nil) (by decide) (by decide) h_L_21 (ws_of 390 (by decide +kernel)) rfl (fun q => ?_)
      refine aw_astore (ls' := [(4, _), (0, _), (1, _), (2, _), (3, _)]) C dL_child_13 (by decide) rfl rfl ?_
      refine aw_iconst (v := 1) C dL_child_15 rfl rfl ?_
      exact aw_iret C rfl (Nat.le_of_ble_eq_true rfl) (Nat.le_of_ble_eq_true rfl) (HP.of1 e h0 hC) dL_child_16
    · rw [show x3 (opChild u v w).1 = nAr from by rw [e]; rfl]
      refine ax_catch (pc' := 17) (name := nAr) C [⟨0, 10, 13, 21⟩] ⟨0, 10, 17, 13⟩ [⟨0, 10, 21, 15⟩] (ht.trans rfl) (fun y hy => by
          rw [List.mem_singleton.mp hy]
          exact Or.inr ⟨by decide, nB, h_L_21, hN.2.1⟩) (by decide) (by decide) h_L_13 (ws_of 199 (by decide +kernel)) rfl (fun q => ?_)
      refine aw_astore (ls' := [(4, _), (0, _), (1, _), (2, _), (3, _)]) C dL_child_17 (by decide) rfl rfl ?_
      refine aw_iconst (v := 2) C dL_child_19 rfl rfl ?_
      exact aw_iret C rfl (Nat.le_of_ble_eq_true rfl) (Nat.le_of_ble_eq_true rfl) (HP.of1 e h0 hC) dL_child_20
    · rw [show x3 (opChild u v w).1 = nSt from by rw [e]; rfl]
      refine ax_catch (pc' := 21) (name := nSt) C [⟨0, 10, 13, 21⟩, ⟨0, 10, 17, 13⟩] ⟨0, 10, 21, 15⟩ [] (ht.trans rfl) (fun y hy => by
          rcases List.mem_cons.mp hy with hy | hy
          · rw [hy]
            exact Or.inr ⟨by decide, nB, h_L_21, hN.2.2.2.1⟩
          · rw [List.mem_singleton.mp hy]
            exact Or.inr ⟨by decide, nAr, h_L_13, hN.2.2.1⟩) (by decide) (by decide) h_L_15 (ws_of 267 (by decide +kernel)) rfl (fun q => ?_)
      refine aw_astore (ls' := [(4, _), (0, _), (1, _), (2, _), (3, _)]) C dL_child_21 (by decide) rfl rfl ?_
      refine aw_iconst (v := 3) C dL_child_23 rfl rfl ?_
      exact aw_iret C rfl (Nat.le_of_ble_eq_true rfl) (Nat.le_of_ble_eq_true rfl) (HP.of1 e h0 hC) dL_child_24
  obtain ⟨h0, rfl, hC⟩ := hq
  refine aw_i2l C dL_child_8 rfl ?_
  refine aw_last (N := 1) C (out_C hS ho hC.fr) (show vp_in (0 : Int32) 1 from vp_in_nI (n := 0) (by decide) (by decide)) dL_child_9 rfl ?_
  refine aw_goto (tgt := 25) C dL_child_10 (by decide) ?_
  refine aw_iconst (v := 0) C dL_child_25 rfl rfl ?_
  exact aw_iret C rfl (Nat.le_of_ble_eq_true rfl) (Nat.le_of_ble_eq_true rfl) (HP.of0 h0 hC) dL_child_26
theorem oc_Guard {u : MU} {v w : Int32} : (opGuard u v w).1 = 0 ∨ (opGuard u v w).1 = 1 ∨ (opGuard u v w).1 = 2 ∨ (opGuard u v w).1 = 3 := by
  unfold opGuard
  repeat' split
  all_goals simp
theorem kL_guard : KSW RL 126 yL_guard cL_guard 5 (some .int) [(0, 10, 13, 21), (0, 10, 17, 13), (0, 10, 21, 15)] 4 := ⟨ws_of 444 (by decide +kernel), h_ini_L, ⟨⟨by decide, by decide⟩, by decide +kernel⟩, ws_of 442 (by decide +kernel), ws_of 443 (by decide +kernel)⟩
set_option maxRecDepth 100000 in
theorem H_guard {g : Gx} {l : Launch} {ez : Nat} (GL : GLk g l ez) {sg : Sg} {ad : Nat → Nat → Nat} {u : MU} {Y : GS} (hS : CS g ez ad u Y sg) {N : Nat} (hI : CI N u) {v w : Int32} {ao : Nat} {F : Nat → Int64} (ho : sg ao = some (arJ g 1 F)) : MMW g l yL_guard cL_guard 5 (some .int) [(0, 10, 13, 21), (0, 10, 17, 13), (0, 10, 21, 15)] rmH sg [.ref (ad 0 0), .int v, .int w, .ref ao] (HP g ez ad u Y sg ao F vL (opGuard u v w)) noX := by
  have G := GL.1
  refine MMW.of G.1 G.2.1 (by decide) (Nat.le_of_ble_eq_true rfl) (fun x hg hlx C ht hargs => ?_)
  subst hg; subst hlx
  have C : AWC x cL_guard 5 RL rmH (some .int) := C
  have hN : XNC x.s := GL.2 _ C.env.2.2
  show AW x (RQ x _ _ _ _) 0 0 sg 0 [(0, .ref (ad 0 0)), (1, .int v), (2, .int w), (3, .ref ao)] []
  refine aw_aload_n C dL_guard_0 rfl rfl rfl ?_
  refine aw_iconst (v := 0) C dL_guard_1 rfl rfl ?_
  refine aw_aload_n C dL_guard_2 rfl rfl rfl ?_
  refine aw_iload_n C dL_guard_3 rfl rfl rfl ?_
  refine aw_iload_n C dL_guard_4 rfl rfl rfl ?_
  refine aw_callV C k_L_23 (F_guard G hS hI (v := v) (w := w)) ⟨by decide, by decide⟩ (ci := 10) rfl hS.O rfl rfl (Nat.le_of_ble_eq_true rfl) (Nat.le_of_ble_eq_true rfl) (Nat.le_of_ble_eq_true rfl) dL_guard_5 rfl (fun E s1 hx => ?_) (fun v1 s1 hq => ?_)
  · obtain ⟨h0, rfl, hC⟩ := hx
    rcases oc_Guard (u := u) (v := v) (w := w) with e | e | e | e
    · exact absurd e h0
    · rw [show x3 (opGuard u v w).1 = nB from by rw [e]; rfl]
      refine ax_catch (pc' := 13) (name := nB) C [] ⟨0, 10, 13, 21⟩ [⟨0, 10, 17, 13⟩, ⟨0, 10, 21, 15⟩] (ht.trans rfl) (fun y hy => absurd hy List.not_mem_nil) (by decide) (by decide) h_L_21 (ws_of 390 (by decide +kernel)) rfl (fun q => ?_)
      refine aw_astore (ls' := [(4, _), (0, _), (1, _), (2, _), (3, _)]) C dL_guard_13 (by decide) rfl rfl ?_
      refine aw_iconst (v := 1) C dL_guard_15 rfl rfl ?_
      exact aw_iret C rfl (Nat.le_of_ble_eq_true rfl) (Nat.le_of_ble_eq_true rfl) (HP.of1 e h0 hC) dL_guard_16
    · rw [show x3 (opGuard u v w).1 = nAr from by rw [e]; rfl]
      refine ax_catch (pc' := 17) (name := nAr) C [⟨0, 10, 13, 21⟩] ⟨0, 10, 17, 13⟩ [⟨0, 10, 21, 15⟩] (ht.trans rfl) (fun y hy => by
          rw [List.mem_singleton.mp hy]
          exact Or.inr ⟨by decide, nB, h_L_21, hN.2.1⟩) (by decide) (by decide) h_L_13 (ws_of 199 (by decide +kernel)) rfl (fun q => ?_)
      refine aw_astore (ls' := [(4, _), (0, _), (1, _), (2, _), (3, _)]) C dL_guard_17 (by decide) rfl rfl ?_
      refine aw_iconst (v := 2) C dL_guard_19 rfl rfl ?_
      exact aw_iret C rfl (Nat.le_of_ble_eq_true rfl) (Nat.le_of_ble_eq_true rfl) (HP.of1 e h0 hC) dL_guard_20
    · rw [show x3 (opGuard u v w).1 = nSt from by rw [e]; rfl]
      refine ax_catch (pc' := 21) (name := nSt) C [⟨0, 10, 13, 21⟩, ⟨0, 10, 17, 13⟩] ⟨0, 10, 21, 15⟩ [] (ht.trans rfl) (fun y hy => by
          rcases List.mem_cons.mp hy with hy | hy
          · rw [hy]
            exact Or.inr ⟨by decide, nB, h_L_21, hN.2.2.2.1⟩
          · rw [List.mem_singleton.mp hy]
            exact Or.inr ⟨by decide, nAr, h_L_13, hN.2.2.1⟩) (by decide) (by decide) h_L_15 (ws_of 267 (by decide +kernel)) rfl (fun q => ?_)
      refine aw_astore (ls' := [(4, _), (0, _), (1, _), (2, _), (3, _)]) C dL_guard_21 (by decide) rfl rfl ?_
      refine aw_iconst (v := 3) C dL_guard_23 rfl rfl ?_
      exact aw_iret C rfl (Nat.le_of_ble_eq_true rfl) (Nat.le_of_ble_eq_true rfl) (HP.of1 e h0 hC) dL_guard_24
  obtain ⟨h0, rfl, hC⟩ := hq
  refine aw_i2l C dL_guard_8 rfl ?_
  refine aw_last (N := 1) C (out_C hS ho hC.fr) (show vp_in (0 : Int32) 1 from vp_in_nI (n := 0) (by decide) (by decide)) dL_guard_9 rfl ?_
  refine aw_goto (tgt := 25) C dL_guard_10 (by decide) ?_
  refine aw_iconst (v := 0) C dL_guard_25 rfl rfl ?_
  exact aw_iret C rfl (Nat.le_of_ble_eq_true rfl) (Nat.le_of_ble_eq_true rfl) (HP.of0 h0 hC) dL_guard_26
theorem oc_Thing {u : MU} {v w : Int32} : (opThing u v w).1 = 0 ∨ (opThing u v w).1 = 1 ∨ (opThing u v w).1 = 2 ∨ (opThing u v w).1 = 3 := by
  unfold opThing
  repeat' split
  all_goals simp
theorem kL_thing : KSW RL 129 yL_thing cL_thing 5 (some .int) [(0, 10, 13, 21), (0, 10, 17, 13), (0, 10, 21, 15)] 4 := ⟨ws_of 452 (by decide +kernel), h_ini_L, ⟨⟨by decide, by decide⟩, by decide +kernel⟩, ws_of 450 (by decide +kernel), ws_of 451 (by decide +kernel)⟩
set_option maxRecDepth 100000 in
theorem H_thing {g : Gx} {l : Launch} {ez : Nat} (GL : GLk g l ez) {sg : Sg} {ad : Nat → Nat → Nat} {u : MU} {Y : GS} (hS : CS g ez ad u Y sg) {N : Nat} (hI : CI N u) {v w : Int32} {ao : Nat} {F : Nat → Int64} (ho : sg ao = some (arJ g 1 F)) : MMW g l yL_thing cL_thing 5 (some .int) [(0, 10, 13, 21), (0, 10, 17, 13), (0, 10, 21, 15)] rmH sg [.ref (ad 0 0), .int v, .int w, .ref ao] (HP g ez ad u Y sg ao F vL (opThing u v w)) noX := by
  have G := GL.1
  refine MMW.of G.1 G.2.1 (by decide) (Nat.le_of_ble_eq_true rfl) (fun x hg hlx C ht hargs => ?_)
  subst hg; subst hlx
  have C : AWC x cL_thing 5 RL rmH (some .int) := C
  have hN : XNC x.s := GL.2 _ C.env.2.2
  show AW x (RQ x _ _ _ _) 0 0 sg 0 [(0, .ref (ad 0 0)), (1, .int v), (2, .int w), (3, .ref ao)] []
  refine aw_aload_n C dL_thing_0 rfl rfl rfl ?_
  refine aw_iconst (v := 0) C dL_thing_1 rfl rfl ?_
  refine aw_aload_n C dL_thing_2 rfl rfl rfl ?_
  refine aw_iload_n C dL_thing_3 rfl rfl rfl ?_
  refine aw_iload_n C dL_thing_4 rfl rfl rfl ?_
  refine aw_callV C k_L_26 (F_thing G hS hI (v := v) (w := w)) ⟨by decide, by decide⟩ (ci := 10) rfl hS.O rfl rfl (Nat.le_of_ble_eq_true rfl) (Nat.le_of_ble_eq_true rfl) (Nat.le_of_ble_eq_true rfl) dL_thing_5 rfl (fun E s1 hx => ?_) (fun v1 s1 hq => ?_)
  · obtain ⟨h0, rfl, hC⟩ := hx
    rcases oc_Thing (u := u) (v := v) (w := w) with e | e | e | e
    · exact absurd e h0
    · rw [show x3 (opThing u v w).1 = nB from by rw [e]; rfl]
      refine ax_catch (pc' := 13) (name := nB) C [] ⟨0, 10, 13, 21⟩ [⟨0, 10, 17, 13⟩, ⟨0, 10, 21, 15⟩] (ht.trans rfl) (fun y hy => absurd hy List.not_mem_nil) (by decide) (by decide) h_L_21 (ws_of 390 (by decide +kernel)) rfl (fun q => ?_)
      refine aw_astore (ls' := [(4, _), (0, _), (1, _), (2, _), (3, _)]) C dL_thing_13 (by decide) rfl rfl ?_
      refine aw_iconst (v := 1) C dL_thing_15 rfl rfl ?_
      exact aw_iret C rfl (Nat.le_of_ble_eq_true rfl) (Nat.le_of_ble_eq_true rfl) (HP.of1 e h0 hC) dL_thing_16
    · rw [show x3 (opThing u v w).1 = nAr from by rw [e]; rfl]
      refine ax_catch (pc' := 17) (name := nAr) C [⟨0, 10, 13, 21⟩] ⟨0, 10, 17, 13⟩ [⟨0, 10, 21, 15⟩] (ht.trans rfl) (fun y hy => by
          rw [List.mem_singleton.mp hy]
          exact Or.inr ⟨by decide, nB, h_L_21, hN.2.1⟩) (by decide) (by decide) h_L_13 (ws_of 199 (by decide +kernel)) rfl (fun q => ?_)
      refine aw_astore (ls' := [(4, _), (0, _), (1, _), (2, _), (3, _)]) C dL_thing_17 (by decide) rfl rfl ?_
      refine aw_iconst (v := 2) C dL_thing_19 rfl rfl ?_
      exact aw_iret C rfl (Nat.le_of_ble_eq_true rfl) (Nat.le_of_ble_eq_true rfl) (HP.of1 e h0 hC) dL_thing_20
    · rw [show x3 (opThing u v w).1 = nSt from by rw [e]; rfl]
      refine ax_catch (pc' := 21) (name := nSt) C [⟨0, 10, 13, 21⟩, ⟨0, 10, 17, 13⟩] ⟨0, 10, 21, 15⟩ [] (ht.trans rfl) (fun y hy => by
          rcases List.mem_cons.mp hy with hy | hy
          · rw [hy]
            exact Or.inr ⟨by decide, nB, h_L_21, hN.2.2.2.1⟩
          · rw [List.mem_singleton.mp hy]
            exact Or.inr ⟨by decide, nAr, h_L_13, hN.2.2.1⟩) (by decide) (by decide) h_L_15 (ws_of 267 (by decide +kernel)) rfl (fun q => ?_)
      refine aw_astore (ls' := [(4, _), (0, _), (1, _), (2, _), (3, _)]) C dL_thing_21 (by decide) rfl rfl ?_
      refine aw_iconst (v := 3) C dL_thing_23 rfl rfl ?_
      exact aw_iret C rfl (Nat.le_of_ble_eq_true rfl) (Nat.le_of_ble_eq_true rfl) (HP.of1 e h0 hC) dL_thing_24
  obtain ⟨h0, rfl, hC⟩ := hq
  refine aw_i2l C dL_thing_8 rfl ?_
  refine aw_last (N := 1) C (out_C hS ho hC.fr) (show vp_in (0 : Int32) 1 from vp_in_nI (n := 0) (by decide) (by decide)) dL_thing_9 rfl ?_
  refine aw_goto (tgt := 25) C dL_thing_10 (by decide) ?_
  refine aw_iconst (v := 0) C dL_thing_25 rfl rfl ?_
  exact aw_iret C rfl (Nat.le_of_ble_eq_true rfl) (Nat.le_of_ble_eq_true rfl) (HP.of0 h0 hC) dL_thing_26
theorem oc_IsAble {u : MU} {v : Int32} : (opIsAble u v).1 = 0 ∨ (opIsAble u v).1 = 1 := by
  unfold opIsAble
  repeat' split
  all_goals simp
theorem kL_isAble : KSW RL 132 yL_isAble cL_isAble 4 (some .int) [(0, 16, 19, 21)] 3 := ⟨ws_of 491 (by decide +kernel), h_ini_L, ⟨⟨by decide, by decide⟩, by decide +kernel⟩, ws_of 489 (by decide +kernel), ws_of 490 (by decide +kernel)⟩
set_option maxRecDepth 100000 in
theorem H_isAble {g : Gx} {l : Launch} {ez : Nat} (GL : GLk g l ez) {sg : Sg} {ad : Nat → Nat → Nat} {u : MU} {Y : GS} (hS : CS g ez ad u Y sg) {N : Nat} (hI : CI N u) {v : Int32} {ao : Nat} {F : Nat → Int64} (ho : sg ao = some (arJ g 1 F)) : MMW g l yL_isAble cL_isAble 4 (some .int) [(0, 16, 19, 21)] rmH sg [.ref (ad 0 0), .int v, .ref ao] (HP g ez ad u Y sg ao F bL (opIsAble u v)) noX := by
  have G := GL.1
  refine MMW.of G.1 G.2.1 (by decide) (Nat.le_of_ble_eq_true rfl) (fun x hg hlx C ht hargs => ?_)
  subst hg; subst hlx
  have C : AWC x cL_isAble 4 RL rmH (some .int) := C
  have hN : XNC x.s := GL.2 _ C.env.2.2
  show AW x (RQ x _ _ _ _) 0 0 sg 0 [(0, .ref (ad 0 0)), (1, .int v), (2, .ref ao)] []
  refine aw_aload_n C dL_isAble_0 rfl rfl rfl ?_
  refine aw_iconst (v := 0) C dL_isAble_1 rfl rfl ?_
  refine aw_aload_n C dL_isAble_2 rfl rfl rfl ?_
  refine aw_iload_n C dL_isAble_3 rfl rfl rfl ?_
  refine aw_callV C k_L_29 (F_isAble G hS hI (v := v)) ⟨by decide, by decide⟩ (ci := 10) rfl hS.O rfl rfl (Nat.le_of_ble_eq_true rfl) (Nat.le_of_ble_eq_true rfl) (Nat.le_of_ble_eq_true rfl) dL_isAble_4 rfl (fun E s1 hx => ?_) (fun v1 s1 hq => ?_)
  · obtain ⟨h0, rfl, hC⟩ := hx
    rcases oc_IsAble (u := u) (v := v) with e | e
    · exact absurd e h0
    · rw [show x1b (opIsAble u v).1 = nB from by rw [e]; rfl]
      refine ax_catch (pc' := 19) (name := nB) C [] ⟨0, 16, 19, 21⟩ [] (ht.trans rfl) (fun y hy => absurd hy List.not_mem_nil) (by decide) (by decide) h_L_21 (ws_of 390 (by decide +kernel)) rfl (fun q => ?_)
      refine aw_astore_n (ls' := [(3, _), (0, _), (1, _), (2, _)]) C dL_isAble_19 rfl (by decide) rfl rfl ?_
      refine aw_iconst (v := 1) C dL_isAble_20 rfl rfl ?_
      exact aw_iret C rfl (Nat.le_of_ble_eq_true rfl) (Nat.le_of_ble_eq_true rfl) (HP.of1 e h0 hC) dL_isAble_21
  obtain ⟨h0, rfl, hC⟩ := hq
  refine aw_boolL (p1 := 10) (p2 := 11) (p3 := 14) (p4 := 15) C dL_isAble_7 dL_isAble_10 dL_isAble_11 dL_isAble_14 rfl rfl rfl rfl ?_
  refine aw_last (N := 1) C (out_C hS ho hC.fr) (show vp_in (0 : Int32) 1 from vp_in_nI (n := 0) (by decide) (by decide)) dL_isAble_15 rfl ?_
  refine aw_goto (tgt := 22) C dL_isAble_16 (by decide) ?_
  refine aw_iconst (v := 0) C dL_isAble_22 rfl rfl ?_
  exact aw_iret C rfl (Nat.le_of_ble_eq_true rfl) (Nat.le_of_ble_eq_true rfl) (HP.of0 h0 hC) dL_isAble_23
theorem oc_Draft {u : MU} {sk v w t x0 y0 : Int32} : (opDraft u sk v w t x0 y0).1 = 0 ∨ (opDraft u sk v w t x0 y0).1 = 1 ∨ (opDraft u sk v w t x0 y0).1 = 2 ∨ (opDraft u sk v w t x0 y0).1 = 3 := by
  unfold opDraft
  repeat' split
  all_goals simp
theorem kL_draft : KSW RL 136 yL_draft cL_draft 9 (some .int) [(0, 18, 21, 21), (0, 18, 25, 13), (0, 18, 29, 15)] 8 := ⟨ws_of 502 (by decide +kernel), h_ini_L, ⟨⟨by decide, by decide⟩, by decide +kernel⟩, ws_of 500 (by decide +kernel), ws_of 501 (by decide +kernel)⟩
set_option maxRecDepth 100000 in
theorem H_draft {g : Gx} {l : Launch} {ez : Nat} (GL : GLk g l ez) {sg : Sg} {ad : Nat → Nat → Nat} {u : MU} {Y : GS} (hS : CS g ez ad u Y sg) {N : Nat} (hI : CI N u) {sk v w t x0 y0 : Int32} {ao : Nat} {F : Nat → Int64} (ho : sg ao = some (arJ g 1 F)) : MMW g l yL_draft cL_draft 9 (some .int) [(0, 18, 21, 21), (0, 18, 25, 13), (0, 18, 29, 15)] rmH sg [.ref (ad 0 0), .int sk, .int v, .int w, .int t, .int x0, .int y0, .ref ao] (HP g ez ad u Y sg ao F vL (opDraft u sk v w t x0 y0)) noX := by
  have G := GL.1
  refine MMW.of G.1 G.2.1 (by decide) (Nat.le_of_ble_eq_true rfl) (fun x hg hlx C ht hargs => ?_)
  subst hg; subst hlx
  have C : AWC x cL_draft 9 RL rmH (some .int) := C
  have hN : XNC x.s := GL.2 _ C.env.2.2
  show AW x (RQ x _ _ _ _) 0 0 sg 0 [(0, .ref (ad 0 0)), (1, .int sk), (2, .int v), (3, .int w), (4, .int t), (5, .int x0), (6, .int y0), (7, .ref ao)] []
  refine aw_aload C dL_draft_0 rfl rfl ?_
  refine aw_iconst (v := 0) C dL_draft_2 rfl rfl ?_
  refine aw_aload_n C dL_draft_3 rfl rfl rfl ?_
  refine aw_iload_n C dL_draft_4 rfl rfl rfl ?_
  refine aw_iload_n C dL_draft_5 rfl rfl rfl ?_
  refine aw_iload_n C dL_draft_6 rfl rfl rfl ?_
  refine aw_iload C dL_draft_7 rfl rfl ?_
  refine aw_iload C dL_draft_9 rfl rfl ?_
  refine aw_iload C dL_draft_11 rfl rfl ?_
  refine aw_callV C k_L_33 (F_draft G hS hI (sk := sk) (v := v) (w := w) (t := t) (x0 := x0) (y0 := y0)) ⟨by decide, by decide⟩ (ci := 10) rfl hS.O rfl rfl (Nat.le_of_ble_eq_true rfl) (Nat.le_of_ble_eq_true rfl) (Nat.le_of_ble_eq_true rfl) dL_draft_13 rfl (fun E s1 hx => ?_) (fun v1 s1 hq => ?_)
  · obtain ⟨h0, rfl, hC⟩ := hx
    rcases oc_Draft (u := u) (sk := sk) (v := v) (w := w) (t := t) (x0 := x0) (y0 := y0) with e | e | e | e
    · exact absurd e h0
    · rw [show x3 (opDraft u sk v w t x0 y0).1 = nB from by rw [e]; rfl]
      refine ax_catch (pc' := 21) (name := nB) C [] ⟨0, 18, 21, 21⟩ [⟨0, 18, 25, 13⟩, ⟨0, 18, 29, 15⟩] (ht.trans rfl) (fun y hy => absurd hy List.not_mem_nil) (by decide) (by decide) h_L_21 (ws_of 390 (by decide +kernel)) rfl (fun q => ?_)
      refine aw_astore (ls' := [(8, _), (0, _), (1, _), (2, _), (3, _), (4, _), (5, _), (6, _), (7, _)]) C dL_draft_21 (by decide) rfl rfl ?_
      refine aw_iconst (v := 1) C dL_draft_23 rfl rfl ?_
      exact aw_iret C rfl (Nat.le_of_ble_eq_true rfl) (Nat.le_of_ble_eq_true rfl) (HP.of1 e h0 hC) dL_draft_24
    · rw [show x3 (opDraft u sk v w t x0 y0).1 = nAr from by rw [e]; rfl]
      refine ax_catch (pc' := 25) (name := nAr) C [⟨0, 18, 21, 21⟩] ⟨0, 18, 25, 13⟩ [⟨0, 18, 29, 15⟩] (ht.trans rfl) (fun y hy => by
          rw [List.mem_singleton.mp hy]
          exact Or.inr ⟨by decide, nB, h_L_21, hN.2.1⟩) (by decide) (by decide) h_L_13 (ws_of 199 (by decide +kernel)) rfl (fun q => ?_)
      refine aw_astore (ls' := [(8, _), (0, _), (1, _), (2, _), (3, _), (4, _), (5, _), (6, _), (7, _)]) C dL_draft_25 (by decide) rfl rfl ?_
      refine aw_iconst (v := 2) C dL_draft_27 rfl rfl ?_
      exact aw_iret C rfl (Nat.le_of_ble_eq_true rfl) (Nat.le_of_ble_eq_true rfl) (HP.of1 e h0 hC) dL_draft_28
    · rw [show x3 (opDraft u sk v w t x0 y0).1 = nSt from by rw [e]; rfl]
      refine ax_catch (pc' := 29) (name := nSt) C [⟨0, 18, 21, 21⟩, ⟨0, 18, 25, 13⟩] ⟨0, 18, 29, 15⟩ [] (ht.trans rfl) (fun y hy => by
          rcases List.mem_cons.mp hy with hy | hy
          · rw [hy]
            exact Or.inr ⟨by decide, nB, h_L_21, hN.2.2.2.1⟩
          · rw [List.mem_singleton.mp hy]
            exact Or.inr ⟨by decide, nAr, h_L_13, hN.2.2.1⟩) (by decide) (by decide) h_L_15 (ws_of 267 (by decide +kernel)) rfl (fun q => ?_)
      refine aw_astore (ls' := [(8, _), (0, _), (1, _), (2, _), (3, _), (4, _), (5, _), (6, _), (7, _)]) C dL_draft_29 (by decide) rfl rfl ?_
      refine aw_iconst (v := 3) C dL_draft_31 rfl rfl ?_
      exact aw_iret C rfl (Nat.le_of_ble_eq_true rfl) (Nat.le_of_ble_eq_true rfl) (HP.of1 e h0 hC) dL_draft_32
  obtain ⟨h0, rfl, hC⟩ := hq
  refine aw_i2l C dL_draft_16 rfl ?_
  refine aw_last (N := 1) C (out_C hS ho hC.fr) (show vp_in (0 : Int32) 1 from vp_in_nI (n := 0) (by decide) (by decide)) dL_draft_17 rfl ?_
  refine aw_goto (tgt := 33) C dL_draft_18 (by decide) ?_
  refine aw_iconst (v := 0) C dL_draft_33 rfl rfl ?_
  exact aw_iret C rfl (Nat.le_of_ble_eq_true rfl) (Nat.le_of_ble_eq_true rfl) (HP.of0 h0 hC) dL_draft_34
theorem oc_Power {u : MU} {v w t dd : Int32} {on : Bool} : (opPower u v w t dd on).1 = 0 ∨ (opPower u v w t dd on).1 = 1 ∨ (opPower u v w t dd on).1 = 2 ∨ (opPower u v w t dd on).1 = 3 := by
  unfold opPower
  repeat' split
  all_goals simp
theorem kL_power : KSW RL 140 yL_power cL_power 8 (some .int) [(0, 16, 19, 21), (0, 16, 23, 13), (0, 16, 27, 15)] 7 := ⟨ws_of 611 (by decide +kernel), h_ini_L, ⟨⟨by decide, by decide⟩, by decide +kernel⟩, ws_of 609 (by decide +kernel), ws_of 610 (by decide +kernel)⟩
set_option maxRecDepth 100000 in
theorem H_power {g : Gx} {l : Launch} {ez : Nat} (GL : GLk g l ez) {sg : Sg} {ad : Nat → Nat → Nat} {u : MU} {Y : GS} (hS : CS g ez ad u Y sg) {N : Nat} (hI : CI N u) {v w t dd : Int32} {on : Bool} {ao : Nat} {F : Nat → Int64} (ho : sg ao = some (arJ g 1 F)) : MMW g l yL_power cL_power 8 (some .int) [(0, 16, 19, 21), (0, 16, 23, 13), (0, 16, 27, 15)] rmH sg [.ref (ad 0 0), .int v, .int w, .int t, .int dd, .int (b2i on), .ref ao] (HP g ez ad u Y sg ao F vL (opPower u v w t dd on)) noX := by
  have G := GL.1
  refine MMW.of G.1 G.2.1 (by decide) (Nat.le_of_ble_eq_true rfl) (fun x hg hlx C ht hargs => ?_)
  subst hg; subst hlx
  have C : AWC x cL_power 8 RL rmH (some .int) := C
  have hN : XNC x.s := GL.2 _ C.env.2.2
  show AW x (RQ x _ _ _ _) 0 0 sg 0 [(0, .ref (ad 0 0)), (1, .int v), (2, .int w), (3, .int t), (4, .int dd), (5, .int (b2i on)), (6, .ref ao)] []
  refine aw_aload C dL_power_0 rfl rfl ?_
  refine aw_iconst (v := 0) C dL_power_2 rfl rfl ?_
  refine aw_aload_n C dL_power_3 rfl rfl rfl ?_
  refine aw_iload_n C dL_power_4 rfl rfl rfl ?_
  refine aw_iload_n C dL_power_5 rfl rfl rfl ?_
  refine aw_iload_n C dL_power_6 rfl rfl rfl ?_
  refine aw_iload C dL_power_7 rfl rfl ?_
  refine aw_iload C dL_power_9 rfl rfl ?_
  refine aw_callV C k_L_37 (F_power G hS hI (v := v) (w := w) (t := t) (dd := dd) (on := on)) ⟨by decide, by decide⟩ (ci := 10) rfl hS.O rfl rfl (Nat.le_of_ble_eq_true rfl) (Nat.le_of_ble_eq_true rfl) (Nat.le_of_ble_eq_true rfl) dL_power_11 rfl (fun E s1 hx => ?_) (fun v1 s1 hq => ?_)
  · obtain ⟨h0, rfl, hC⟩ := hx
    rcases oc_Power (u := u) (v := v) (w := w) (t := t) (dd := dd) (on := on) with e | e | e | e
    · exact absurd e h0
    · rw [show x3 (opPower u v w t dd on).1 = nB from by rw [e]; rfl]
      refine ax_catch (pc' := 19) (name := nB) C [] ⟨0, 16, 19, 21⟩ [⟨0, 16, 23, 13⟩, ⟨0, 16, 27, 15⟩] (ht.trans rfl) (fun y hy => absurd hy List.not_mem_nil) (by decide) (by decide) h_L_21 (ws_of 390 (by decide +kernel)) rfl (fun q => ?_)
      refine aw_astore (ls' := [(7, _), (0, _), (1, _), (2, _), (3, _), (4, _), (5, _), (6, _)]) C dL_power_19 (by decide) rfl rfl ?_
      refine aw_iconst (v := 1) C dL_power_21 rfl rfl ?_
      exact aw_iret C rfl (Nat.le_of_ble_eq_true rfl) (Nat.le_of_ble_eq_true rfl) (HP.of1 e h0 hC) dL_power_22
    · rw [show x3 (opPower u v w t dd on).1 = nAr from by rw [e]; rfl]
      refine ax_catch (pc' := 23) (name := nAr) C [⟨0, 16, 19, 21⟩] ⟨0, 16, 23, 13⟩ [⟨0, 16, 27, 15⟩] (ht.trans rfl) (fun y hy => by
          rw [List.mem_singleton.mp hy]
          exact Or.inr ⟨by decide, nB, h_L_21, hN.2.1⟩) (by decide) (by decide) h_L_13 (ws_of 199 (by decide +kernel)) rfl (fun q => ?_)
      refine aw_astore (ls' := [(7, _), (0, _), (1, _), (2, _), (3, _), (4, _), (5, _), (6, _)]) C dL_power_23 (by decide) rfl rfl ?_
      refine aw_iconst (v := 2) C dL_power_25 rfl rfl ?_
      exact aw_iret C rfl (Nat.le_of_ble_eq_true rfl) (Nat.le_of_ble_eq_true rfl) (HP.of1 e h0 hC) dL_power_26
    · rw [show x3 (opPower u v w t dd on).1 = nSt from by rw [e]; rfl]
      refine ax_catch (pc' := 27) (name := nSt) C [⟨0, 16, 19, 21⟩, ⟨0, 16, 23, 13⟩] ⟨0, 16, 27, 15⟩ [] (ht.trans rfl) (fun y hy => by
          rcases List.mem_cons.mp hy with hy | hy
          · rw [hy]
            exact Or.inr ⟨by decide, nB, h_L_21, hN.2.2.2.1⟩
          · rw [List.mem_singleton.mp hy]
            exact Or.inr ⟨by decide, nAr, h_L_13, hN.2.2.1⟩) (by decide) (by decide) h_L_15 (ws_of 267 (by decide +kernel)) rfl (fun q => ?_)
      refine aw_astore (ls' := [(7, _), (0, _), (1, _), (2, _), (3, _), (4, _), (5, _), (6, _)]) C dL_power_27 (by decide) rfl rfl ?_
      refine aw_iconst (v := 3) C dL_power_29 rfl rfl ?_
      exact aw_iret C rfl (Nat.le_of_ble_eq_true rfl) (Nat.le_of_ble_eq_true rfl) (HP.of1 e h0 hC) dL_power_30
  obtain ⟨h0, rfl, hC⟩ := hq
  refine aw_i2l C dL_power_14 rfl ?_
  refine aw_last (N := 1) C (out_C hS ho hC.fr) (show vp_in (0 : Int32) 1 from vp_in_nI (n := 0) (by decide) (by decide)) dL_power_15 rfl ?_
  refine aw_goto (tgt := 31) C dL_power_16 (by decide) ?_
  refine aw_iconst (v := 0) C dL_power_31 rfl rfl ?_
  exact aw_iret C rfl (Nat.le_of_ble_eq_true rfl) (Nat.le_of_ble_eq_true rfl) (HP.of0 h0 hC) dL_power_32
theorem oc_Will {u : MU} {v w x0 y0 : Int32} : (opWill u v w x0 y0).1 = 0 ∨ (opWill u v w x0 y0).1 = 1 ∨ (opWill u v w x0 y0).1 = 2 ∨ (opWill u v w x0 y0).1 = 3 := by
  unfold opWill
  repeat' split
  all_goals simp
theorem kL_will : KSW RL 144 yL_will cL_will 7 (some .int) [(0, 14, 17, 21), (0, 14, 21, 13), (0, 14, 25, 15)] 6 := ⟨ws_of 646 (by decide +kernel), h_ini_L, ⟨⟨by decide, by decide⟩, by decide +kernel⟩, ws_of 644 (by decide +kernel), ws_of 645 (by decide +kernel)⟩
set_option maxRecDepth 100000 in
theorem H_will {g : Gx} {l : Launch} {ez : Nat} (GL : GLk g l ez) {sg : Sg} {ad : Nat → Nat → Nat} {u : MU} {Y : GS} (hS : CS g ez ad u Y sg) {N : Nat} (hI : CI N u) {v w x0 y0 : Int32} {ao : Nat} {F : Nat → Int64} (ho : sg ao = some (arJ g 1 F)) : MMW g l yL_will cL_will 7 (some .int) [(0, 14, 17, 21), (0, 14, 21, 13), (0, 14, 25, 15)] rmH sg [.ref (ad 0 0), .int v, .int w, .int x0, .int y0, .ref ao] (HP g ez ad u Y sg ao F vL (opWill u v w x0 y0)) noX := by
  have G := GL.1
  refine MMW.of G.1 G.2.1 (by decide) (Nat.le_of_ble_eq_true rfl) (fun x hg hlx C ht hargs => ?_)
  subst hg; subst hlx
  have C : AWC x cL_will 7 RL rmH (some .int) := C
  have hN : XNC x.s := GL.2 _ C.env.2.2
  show AW x (RQ x _ _ _ _) 0 0 sg 0 [(0, .ref (ad 0 0)), (1, .int v), (2, .int w), (3, .int x0), (4, .int y0), (5, .ref ao)] []
  refine aw_aload C dL_will_0 rfl rfl ?_
  refine aw_iconst (v := 0) C dL_will_2 rfl rfl ?_
  refine aw_aload_n C dL_will_3 rfl rfl rfl ?_
  refine aw_iload_n C dL_will_4 rfl rfl rfl ?_
  refine aw_iload_n C dL_will_5 rfl rfl rfl ?_
  refine aw_iload_n C dL_will_6 rfl rfl rfl ?_
  refine aw_iload C dL_will_7 rfl rfl ?_
  refine aw_callV C k_L_41 (F_will G hS hI (v := v) (w := w) (x0 := x0) (y0 := y0)) ⟨by decide, by decide⟩ (ci := 10) rfl hS.O rfl rfl (Nat.le_of_ble_eq_true rfl) (Nat.le_of_ble_eq_true rfl) (Nat.le_of_ble_eq_true rfl) dL_will_9 rfl (fun E s1 hx => ?_) (fun v1 s1 hq => ?_)
  · obtain ⟨h0, rfl, hC⟩ := hx
    rcases oc_Will (u := u) (v := v) (w := w) (x0 := x0) (y0 := y0) with e | e | e | e
    · exact absurd e h0
    · rw [show x3 (opWill u v w x0 y0).1 = nB from by rw [e]; rfl]
      refine ax_catch (pc' := 17) (name := nB) C [] ⟨0, 14, 17, 21⟩ [⟨0, 14, 21, 13⟩, ⟨0, 14, 25, 15⟩] (ht.trans rfl) (fun y hy => absurd hy List.not_mem_nil) (by decide) (by decide) h_L_21 (ws_of 390 (by decide +kernel)) rfl (fun q => ?_)
      refine aw_astore (ls' := [(6, _), (0, _), (1, _), (2, _), (3, _), (4, _), (5, _)]) C dL_will_17 (by decide) rfl rfl ?_
      refine aw_iconst (v := 1) C dL_will_19 rfl rfl ?_
      exact aw_iret C rfl (Nat.le_of_ble_eq_true rfl) (Nat.le_of_ble_eq_true rfl) (HP.of1 e h0 hC) dL_will_20
    · rw [show x3 (opWill u v w x0 y0).1 = nAr from by rw [e]; rfl]
      refine ax_catch (pc' := 21) (name := nAr) C [⟨0, 14, 17, 21⟩] ⟨0, 14, 21, 13⟩ [⟨0, 14, 25, 15⟩] (ht.trans rfl) (fun y hy => by
          rw [List.mem_singleton.mp hy]
          exact Or.inr ⟨by decide, nB, h_L_21, hN.2.1⟩) (by decide) (by decide) h_L_13 (ws_of 199 (by decide +kernel)) rfl (fun q => ?_)
      refine aw_astore (ls' := [(6, _), (0, _), (1, _), (2, _), (3, _), (4, _), (5, _)]) C dL_will_21 (by decide) rfl rfl ?_
      refine aw_iconst (v := 2) C dL_will_23 rfl rfl ?_
      exact aw_iret C rfl (Nat.le_of_ble_eq_true rfl) (Nat.le_of_ble_eq_true rfl) (HP.of1 e h0 hC) dL_will_24
    · rw [show x3 (opWill u v w x0 y0).1 = nSt from by rw [e]; rfl]
      refine ax_catch (pc' := 25) (name := nSt) C [⟨0, 14, 17, 21⟩, ⟨0, 14, 21, 13⟩] ⟨0, 14, 25, 15⟩ [] (ht.trans rfl) (fun y hy => by
          rcases List.mem_cons.mp hy with hy | hy
          · rw [hy]
            exact Or.inr ⟨by decide, nB, h_L_21, hN.2.2.2.1⟩
          · rw [List.mem_singleton.mp hy]
            exact Or.inr ⟨by decide, nAr, h_L_13, hN.2.2.1⟩) (by decide) (by decide) h_L_15 (ws_of 267 (by decide +kernel)) rfl (fun q => ?_)
      refine aw_astore (ls' := [(6, _), (0, _), (1, _), (2, _), (3, _), (4, _), (5, _)]) C dL_will_25 (by decide) rfl rfl ?_
      refine aw_iconst (v := 3) C dL_will_27 rfl rfl ?_
      exact aw_iret C rfl (Nat.le_of_ble_eq_true rfl) (Nat.le_of_ble_eq_true rfl) (HP.of1 e h0 hC) dL_will_28
  obtain ⟨h0, rfl, hC⟩ := hq
  refine aw_i2l C dL_will_12 rfl ?_
  refine aw_last (N := 1) C (out_C hS ho hC.fr) (show vp_in (0 : Int32) 1 from vp_in_nI (n := 0) (by decide) (by decide)) dL_will_13 rfl ?_
  refine aw_goto (tgt := 29) C dL_will_14 (by decide) ?_
  refine aw_iconst (v := 0) C dL_will_29 rfl rfl ?_
  exact aw_iret C rfl (Nat.le_of_ble_eq_true rfl) (Nat.le_of_ble_eq_true rfl) (HP.of0 h0 hC) dL_will_30
theorem oc_Sign {u : MU} {v w kp0 : Int32} {ig : Bool} : (opSign u v w ig kp0).1 = 0 ∨ (opSign u v w ig kp0).1 = 1 ∨ (opSign u v w ig kp0).1 = 2 := by
  unfold opSign
  repeat' split
  all_goals simp
theorem kL_sign : KSW RL 148 yL_sign cL_sign 7 (some .int) [(0, 14, 17, 21), (0, 14, 21, 15)] 6 := ⟨ws_of 654 (by decide +kernel), h_ini_L, ⟨⟨by decide, by decide⟩, by decide +kernel⟩, ws_of 652 (by decide +kernel), ws_of 653 (by decide +kernel)⟩
set_option maxRecDepth 100000 in
theorem H_sign {g : Gx} {l : Launch} {ez : Nat} (GL : GLk g l ez) {sg : Sg} {ad : Nat → Nat → Nat} {u : MU} {Y : GS} (hS : CS g ez ad u Y sg) {N : Nat} (hI : CI N u) {v w kp0 : Int32} {ig : Bool} {ao : Nat} {F : Nat → Int64} (ho : sg ao = some (arJ g 1 F)) : MMW g l yL_sign cL_sign 7 (some .int) [(0, 14, 17, 21), (0, 14, 21, 15)] rmH sg [.ref (ad 0 0), .int v, .int w, .int (b2i ig), .int kp0, .ref ao] (HP g ez ad u Y sg ao F vL (opSign u v w ig kp0)) noX := by
  have G := GL.1
  refine MMW.of G.1 G.2.1 (by decide) (Nat.le_of_ble_eq_true rfl) (fun x hg hlx C ht hargs => ?_)
  subst hg; subst hlx
  have C : AWC x cL_sign 7 RL rmH (some .int) := C
  have hN : XNC x.s := GL.2 _ C.env.2.2
  show AW x (RQ x _ _ _ _) 0 0 sg 0 [(0, .ref (ad 0 0)), (1, .int v), (2, .int w), (3, .int (b2i ig)), (4, .int kp0), (5, .ref ao)] []
  refine aw_aload C dL_sign_0 rfl rfl ?_
  refine aw_iconst (v := 0) C dL_sign_2 rfl rfl ?_
  refine aw_aload_n C dL_sign_3 rfl rfl rfl ?_
  refine aw_iload_n C dL_sign_4 rfl rfl rfl ?_
  refine aw_iload_n C dL_sign_5 rfl rfl rfl ?_
  refine aw_iload_n C dL_sign_6 rfl rfl rfl ?_
  refine aw_iload C dL_sign_7 rfl rfl ?_
  refine aw_callV C k_L_45 (F_sign G hS hI (v := v) (w := w) (ig := ig) (kp0 := kp0)) ⟨by decide, by decide⟩ (ci := 10) rfl hS.O rfl rfl (Nat.le_of_ble_eq_true rfl) (Nat.le_of_ble_eq_true rfl) (Nat.le_of_ble_eq_true rfl) dL_sign_9 rfl (fun E s1 hx => ?_) (fun v1 s1 hq => ?_)
  · obtain ⟨h0, rfl, hC⟩ := hx
    rcases oc_Sign (u := u) (v := v) (w := w) (ig := ig) (kp0 := kp0) with e | e | e
    · exact absurd e h0
    · rw [show x2s (opSign u v w ig kp0).1 = nB from by rw [e]; rfl]
      refine ax_catch (pc' := 17) (name := nB) C [] ⟨0, 14, 17, 21⟩ [⟨0, 14, 21, 15⟩] (ht.trans rfl) (fun y hy => absurd hy List.not_mem_nil) (by decide) (by decide) h_L_21 (ws_of 390 (by decide +kernel)) rfl (fun q => ?_)
      refine aw_astore (ls' := [(6, _), (0, _), (1, _), (2, _), (3, _), (4, _), (5, _)]) C dL_sign_17 (by decide) rfl rfl ?_
      refine aw_iconst (v := 1) C dL_sign_19 rfl rfl ?_
      exact aw_iret C rfl (Nat.le_of_ble_eq_true rfl) (Nat.le_of_ble_eq_true rfl) (HP.of1 e h0 hC) dL_sign_20
    · rw [show x2s (opSign u v w ig kp0).1 = nSt from by rw [e]; rfl]
      refine ax_catch (pc' := 21) (name := nSt) C [⟨0, 14, 17, 21⟩] ⟨0, 14, 21, 15⟩ [] (ht.trans rfl) (fun y hy => by
          rw [List.mem_singleton.mp hy]
          exact Or.inr ⟨by decide, nB, h_L_21, hN.2.2.2.1⟩) (by decide) (by decide) h_L_15 (ws_of 267 (by decide +kernel)) rfl (fun q => ?_)
      refine aw_astore (ls' := [(6, _), (0, _), (1, _), (2, _), (3, _), (4, _), (5, _)]) C dL_sign_21 (by decide) rfl rfl ?_
      refine aw_iconst (v := 2) C dL_sign_23 rfl rfl ?_
      exact aw_iret C rfl (Nat.le_of_ble_eq_true rfl) (Nat.le_of_ble_eq_true rfl) (HP.of1 e h0 hC) dL_sign_24
  obtain ⟨h0, rfl, hC⟩ := hq
  refine aw_i2l C dL_sign_12 rfl ?_
  refine aw_last (N := 1) C (out_C hS ho hC.fr) (show vp_in (0 : Int32) 1 from vp_in_nI (n := 0) (by decide) (by decide)) dL_sign_13 rfl ?_
  refine aw_goto (tgt := 25) C dL_sign_14 (by decide) ?_
  refine aw_iconst (v := 0) C dL_sign_25 rfl rfl ?_
  exact aw_iret C rfl (Nat.le_of_ble_eq_true rfl) (Nat.le_of_ble_eq_true rfl) (HP.of0 h0 hC) dL_sign_26
theorem oc_Add {u : MU} {v w : Int32} : (opAdd u v w).1 = 0 ∨ (opAdd u v w).1 = 1 ∨ (opAdd u v w).1 = 2 ∨ (opAdd u v w).1 = 3 := by
  unfold opAdd
  repeat' split
  all_goals simp
theorem kL_add : KSW RL 152 yL_add cL_add 5 (some .int) [(0, 10, 13, 21), (0, 10, 17, 13), (0, 10, 21, 15)] 4 := ⟨ws_of 704 (by decide +kernel), h_ini_L, ⟨⟨by decide, by decide⟩, by decide +kernel⟩, ws_of 702 (by decide +kernel), ws_of 703 (by decide +kernel)⟩
set_option maxRecDepth 100000 in
theorem H_add {g : Gx} {l : Launch} {ez : Nat} (GL : GLk g l ez) {sg : Sg} {ad : Nat → Nat → Nat} {u : MU} {Y : GS} (hS : CS g ez ad u Y sg) {N : Nat} (hI : CI N u) {v w : Int32} {ao : Nat} {F : Nat → Int64} (ho : sg ao = some (arJ g 1 F)) : MMW g l yL_add cL_add 5 (some .int) [(0, 10, 13, 21), (0, 10, 17, 13), (0, 10, 21, 15)] rmH sg [.ref (ad 0 0), .int v, .int w, .ref ao] (HP g ez ad u Y sg ao F vL (opAdd u v w)) noX := by
  have G := GL.1
  refine MMW.of G.1 G.2.1 (by decide) (Nat.le_of_ble_eq_true rfl) (fun x hg hlx C ht hargs => ?_)
  subst hg; subst hlx
  have C : AWC x cL_add 5 RL rmH (some .int) := C
  have hN : XNC x.s := GL.2 _ C.env.2.2
  show AW x (RQ x _ _ _ _) 0 0 sg 0 [(0, .ref (ad 0 0)), (1, .int v), (2, .int w), (3, .ref ao)] []
  refine aw_aload_n C dL_add_0 rfl rfl rfl ?_
  refine aw_iconst (v := 0) C dL_add_1 rfl rfl ?_
  refine aw_aload_n C dL_add_2 rfl rfl rfl ?_
  refine aw_iload_n C dL_add_3 rfl rfl rfl ?_
  refine aw_iload_n C dL_add_4 rfl rfl rfl ?_
  refine aw_callV C k_L_49 (F_add G hS hI (v := v) (w := w)) ⟨by decide, by decide⟩ (ci := 10) rfl hS.O rfl rfl (Nat.le_of_ble_eq_true rfl) (Nat.le_of_ble_eq_true rfl) (Nat.le_of_ble_eq_true rfl) dL_add_5 rfl (fun E s1 hx => ?_) (fun v1 s1 hq => ?_)
  · obtain ⟨h0, rfl, hC⟩ := hx
    rcases oc_Add (u := u) (v := v) (w := w) with e | e | e | e
    · exact absurd e h0
    · rw [show x3 (opAdd u v w).1 = nB from by rw [e]; rfl]
      refine ax_catch (pc' := 13) (name := nB) C [] ⟨0, 10, 13, 21⟩ [⟨0, 10, 17, 13⟩, ⟨0, 10, 21, 15⟩] (ht.trans rfl) (fun y hy => absurd hy List.not_mem_nil) (by decide) (by decide) h_L_21 (ws_of 390 (by decide +kernel)) rfl (fun q => ?_)
      refine aw_astore (ls' := [(4, _), (0, _), (1, _), (2, _), (3, _)]) C dL_add_13 (by decide) rfl rfl ?_
      refine aw_iconst (v := 1) C dL_add_15 rfl rfl ?_
      exact aw_iret C rfl (Nat.le_of_ble_eq_true rfl) (Nat.le_of_ble_eq_true rfl) (HP.of1 e h0 hC) dL_add_16
    · rw [show x3 (opAdd u v w).1 = nAr from by rw [e]; rfl]
      refine ax_catch (pc' := 17) (name := nAr) C [⟨0, 10, 13, 21⟩] ⟨0, 10, 17, 13⟩ [⟨0, 10, 21, 15⟩] (ht.trans rfl) (fun y hy => by
          rw [List.mem_singleton.mp hy]
          exact Or.inr ⟨by decide, nB, h_L_21, hN.2.1⟩) (by decide) (by decide) h_L_13 (ws_of 199 (by decide +kernel)) rfl (fun q => ?_)
      refine aw_astore (ls' := [(4, _), (0, _), (1, _), (2, _), (3, _)]) C dL_add_17 (by decide) rfl rfl ?_
      refine aw_iconst (v := 2) C dL_add_19 rfl rfl ?_
      exact aw_iret C rfl (Nat.le_of_ble_eq_true rfl) (Nat.le_of_ble_eq_true rfl) (HP.of1 e h0 hC) dL_add_20
    · rw [show x3 (opAdd u v w).1 = nSt from by rw [e]; rfl]
      refine ax_catch (pc' := 21) (name := nSt) C [⟨0, 10, 13, 21⟩, ⟨0, 10, 17, 13⟩] ⟨0, 10, 21, 15⟩ [] (ht.trans rfl) (fun y hy => by
          rcases List.mem_cons.mp hy with hy | hy
          · rw [hy]
            exact Or.inr ⟨by decide, nB, h_L_21, hN.2.2.2.1⟩
          · rw [List.mem_singleton.mp hy]
            exact Or.inr ⟨by decide, nAr, h_L_13, hN.2.2.1⟩) (by decide) (by decide) h_L_15 (ws_of 267 (by decide +kernel)) rfl (fun q => ?_)
      refine aw_astore (ls' := [(4, _), (0, _), (1, _), (2, _), (3, _)]) C dL_add_21 (by decide) rfl rfl ?_
      refine aw_iconst (v := 3) C dL_add_23 rfl rfl ?_
      exact aw_iret C rfl (Nat.le_of_ble_eq_true rfl) (Nat.le_of_ble_eq_true rfl) (HP.of1 e h0 hC) dL_add_24
  obtain ⟨h0, rfl, hC⟩ := hq
  refine aw_i2l C dL_add_8 rfl ?_
  refine aw_last (N := 1) C (out_C hS ho hC.fr) (show vp_in (0 : Int32) 1 from vp_in_nI (n := 0) (by decide) (by decide)) dL_add_9 rfl ?_
  refine aw_goto (tgt := 25) C dL_add_10 (by decide) ?_
  refine aw_iconst (v := 0) C dL_add_25 rfl rfl ?_
  exact aw_iret C rfl (Nat.le_of_ble_eq_true rfl) (Nat.le_of_ble_eq_true rfl) (HP.of0 h0 hC) dL_add_26
theorem oc_Witness {u : MU} {v w : Int32} : (opWitness u v w).1 = 0 ∨ (opWitness u v w).1 = 1 ∨ (opWitness u v w).1 = 2 := by
  unfold opWitness
  repeat' split
  all_goals simp
theorem kL_witness : KSW RL 155 yL_witness cL_witness 5 (some .int) [(0, 10, 13, 21), (0, 10, 17, 15)] 4 := ⟨ws_of 712 (by decide +kernel), h_ini_L, ⟨⟨by decide, by decide⟩, by decide +kernel⟩, ws_of 710 (by decide +kernel), ws_of 711 (by decide +kernel)⟩
set_option maxRecDepth 100000 in
theorem H_witness {g : Gx} {l : Launch} {ez : Nat} (GL : GLk g l ez) {sg : Sg} {ad : Nat → Nat → Nat} {u : MU} {Y : GS} (hS : CS g ez ad u Y sg) {N : Nat} (hI : CI N u) {v w : Int32} {ao : Nat} {F : Nat → Int64} (ho : sg ao = some (arJ g 1 F)) : MMW g l yL_witness cL_witness 5 (some .int) [(0, 10, 13, 21), (0, 10, 17, 15)] rmH sg [.ref (ad 0 0), .int v, .int w, .ref ao] (HP g ez ad u Y sg ao F vL (opWitness u v w)) noX := by
  have G := GL.1
  refine MMW.of G.1 G.2.1 (by decide) (Nat.le_of_ble_eq_true rfl) (fun x hg hlx C ht hargs => ?_)
  subst hg; subst hlx
  have C : AWC x cL_witness 5 RL rmH (some .int) := C
  have hN : XNC x.s := GL.2 _ C.env.2.2
  show AW x (RQ x _ _ _ _) 0 0 sg 0 [(0, .ref (ad 0 0)), (1, .int v), (2, .int w), (3, .ref ao)] []
  refine aw_aload_n C dL_witness_0 rfl rfl rfl ?_
  refine aw_iconst (v := 0) C dL_witness_1 rfl rfl ?_
  refine aw_aload_n C dL_witness_2 rfl rfl rfl ?_
  refine aw_iload_n C dL_witness_3 rfl rfl rfl ?_
  refine aw_iload_n C dL_witness_4 rfl rfl rfl ?_
  refine aw_callV C k_L_52 (F_witness G hS hI (v := v) (w := w)) ⟨by decide, by decide⟩ (ci := 10) rfl hS.O rfl rfl (Nat.le_of_ble_eq_true rfl) (Nat.le_of_ble_eq_true rfl) (Nat.le_of_ble_eq_true rfl) dL_witness_5 rfl (fun E s1 hx => ?_) (fun v1 s1 hq => ?_)
  · obtain ⟨h0, rfl, hC⟩ := hx
    rcases oc_Witness (u := u) (v := v) (w := w) with e | e | e
    · exact absurd e h0
    · rw [show x2s (opWitness u v w).1 = nB from by rw [e]; rfl]
      refine ax_catch (pc' := 13) (name := nB) C [] ⟨0, 10, 13, 21⟩ [⟨0, 10, 17, 15⟩] (ht.trans rfl) (fun y hy => absurd hy List.not_mem_nil) (by decide) (by decide) h_L_21 (ws_of 390 (by decide +kernel)) rfl (fun q => ?_)
      refine aw_astore (ls' := [(4, _), (0, _), (1, _), (2, _), (3, _)]) C dL_witness_13 (by decide) rfl rfl ?_
      refine aw_iconst (v := 1) C dL_witness_15 rfl rfl ?_
      exact aw_iret C rfl (Nat.le_of_ble_eq_true rfl) (Nat.le_of_ble_eq_true rfl) (HP.of1 e h0 hC) dL_witness_16
    · rw [show x2s (opWitness u v w).1 = nSt from by rw [e]; rfl]
      refine ax_catch (pc' := 17) (name := nSt) C [⟨0, 10, 13, 21⟩] ⟨0, 10, 17, 15⟩ [] (ht.trans rfl) (fun y hy => by
          rw [List.mem_singleton.mp hy]
          exact Or.inr ⟨by decide, nB, h_L_21, hN.2.2.2.1⟩) (by decide) (by decide) h_L_15 (ws_of 267 (by decide +kernel)) rfl (fun q => ?_)
      refine aw_astore (ls' := [(4, _), (0, _), (1, _), (2, _), (3, _)]) C dL_witness_17 (by decide) rfl rfl ?_
      refine aw_iconst (v := 2) C dL_witness_19 rfl rfl ?_
      exact aw_iret C rfl (Nat.le_of_ble_eq_true rfl) (Nat.le_of_ble_eq_true rfl) (HP.of1 e h0 hC) dL_witness_20
  obtain ⟨h0, rfl, hC⟩ := hq
  refine aw_i2l C dL_witness_8 rfl ?_
  refine aw_last (N := 1) C (out_C hS ho hC.fr) (show vp_in (0 : Int32) 1 from vp_in_nI (n := 0) (by decide) (by decide)) dL_witness_9 rfl ?_
  refine aw_goto (tgt := 21) C dL_witness_10 (by decide) ?_
  refine aw_iconst (v := 0) C dL_witness_21 rfl rfl ?_
  exact aw_iret C rfl (Nat.le_of_ble_eq_true rfl) (Nat.le_of_ble_eq_true rfl) (HP.of0 h0 hC) dL_witness_22
theorem oc_Close {u : MU} {v : Int32} : (opClose u v).1 = 0 ∨ (opClose u v).1 = 1 ∨ (opClose u v).1 = 2 := by
  unfold opClose
  repeat' split
  all_goals simp
theorem kL_close : KSW RL 158 yL_close cL_close 4 (some .int) [(0, 9, 12, 21), (0, 9, 15, 15)] 3 := ⟨ws_of 737 (by decide +kernel), h_ini_L, ⟨⟨by decide, by decide⟩, by decide +kernel⟩, ws_of 735 (by decide +kernel), ws_of 736 (by decide +kernel)⟩
set_option maxRecDepth 100000 in
theorem H_close {g : Gx} {l : Launch} {ez : Nat} (GL : GLk g l ez) {sg : Sg} {ad : Nat → Nat → Nat} {u : MU} {Y : GS} (hS : CS g ez ad u Y sg) {N : Nat} (hI : CI N u) {v : Int32} {ao : Nat} {F : Nat → Int64} (ho : sg ao = some (arJ g 1 F)) : MMW g l yL_close cL_close 4 (some .int) [(0, 9, 12, 21), (0, 9, 15, 15)] rmH sg [.ref (ad 0 0), .int v, .ref ao] (HP g ez ad u Y sg ao F vL (opClose u v)) noX := by
  have G := GL.1
  refine MMW.of G.1 G.2.1 (by decide) (Nat.le_of_ble_eq_true rfl) (fun x hg hlx C ht hargs => ?_)
  subst hg; subst hlx
  have C : AWC x cL_close 4 RL rmH (some .int) := C
  have hN : XNC x.s := GL.2 _ C.env.2.2
  show AW x (RQ x _ _ _ _) 0 0 sg 0 [(0, .ref (ad 0 0)), (1, .int v), (2, .ref ao)] []
  refine aw_aload_n C dL_close_0 rfl rfl rfl ?_
  refine aw_iconst (v := 0) C dL_close_1 rfl rfl ?_
  refine aw_aload_n C dL_close_2 rfl rfl rfl ?_
  refine aw_iload_n C dL_close_3 rfl rfl rfl ?_
  refine aw_callV C k_L_55 (F_close G hS hI (v := v)) ⟨by decide, by decide⟩ (ci := 10) rfl hS.O rfl rfl (Nat.le_of_ble_eq_true rfl) (Nat.le_of_ble_eq_true rfl) (Nat.le_of_ble_eq_true rfl) dL_close_4 rfl (fun E s1 hx => ?_) (fun v1 s1 hq => ?_)
  · obtain ⟨h0, rfl, hC⟩ := hx
    rcases oc_Close (u := u) (v := v) with e | e | e
    · exact absurd e h0
    · rw [show x2s (opClose u v).1 = nB from by rw [e]; rfl]
      refine ax_catch (pc' := 12) (name := nB) C [] ⟨0, 9, 12, 21⟩ [⟨0, 9, 15, 15⟩] (ht.trans rfl) (fun y hy => absurd hy List.not_mem_nil) (by decide) (by decide) h_L_21 (ws_of 390 (by decide +kernel)) rfl (fun q => ?_)
      refine aw_astore_n (ls' := [(3, _), (0, _), (1, _), (2, _)]) C dL_close_12 rfl (by decide) rfl rfl ?_
      refine aw_iconst (v := 1) C dL_close_13 rfl rfl ?_
      exact aw_iret C rfl (Nat.le_of_ble_eq_true rfl) (Nat.le_of_ble_eq_true rfl) (HP.of1 e h0 hC) dL_close_14
    · rw [show x2s (opClose u v).1 = nSt from by rw [e]; rfl]
      refine ax_catch (pc' := 15) (name := nSt) C [⟨0, 9, 12, 21⟩] ⟨0, 9, 15, 15⟩ [] (ht.trans rfl) (fun y hy => by
          rw [List.mem_singleton.mp hy]
          exact Or.inr ⟨by decide, nB, h_L_21, hN.2.2.2.1⟩) (by decide) (by decide) h_L_15 (ws_of 267 (by decide +kernel)) rfl (fun q => ?_)
      refine aw_astore_n (ls' := [(3, _), (0, _), (1, _), (2, _)]) C dL_close_15 rfl (by decide) rfl rfl ?_
      refine aw_iconst (v := 2) C dL_close_16 rfl rfl ?_
      exact aw_iret C rfl (Nat.le_of_ble_eq_true rfl) (Nat.le_of_ble_eq_true rfl) (HP.of1 e h0 hC) dL_close_17
  obtain ⟨h0, rfl, hC⟩ := hq
  refine aw_i2l C dL_close_7 rfl ?_
  refine aw_last (N := 1) C (out_C hS ho hC.fr) (show vp_in (0 : Int32) 1 from vp_in_nI (n := 0) (by decide) (by decide)) dL_close_8 rfl ?_
  refine aw_goto (tgt := 18) C dL_close_9 (by decide) ?_
  refine aw_iconst (v := 0) C dL_close_18 rfl rfl ?_
  exact aw_iret C rfl (Nat.le_of_ble_eq_true rfl) (Nat.le_of_ble_eq_true rfl) (HP.of0 h0 hC) dL_close_19
theorem oc_Deed {u : MU} {v w : Int32} : (opDeed u v w).1 = 0 ∨ (opDeed u v w).1 = 1 ∨ (opDeed u v w).1 = 2 := by
  unfold opDeed
  repeat' split
  all_goals simp
theorem kL_deed : KSW RL 161 yL_deed cL_deed 5 (some .int) [(0, 10, 13, 21), (0, 10, 17, 13)] 4 := ⟨ws_of 755 (by decide +kernel), h_ini_L, ⟨⟨by decide, by decide⟩, by decide +kernel⟩, ws_of 753 (by decide +kernel), ws_of 754 (by decide +kernel)⟩
set_option maxRecDepth 100000 in
theorem H_deed {g : Gx} {l : Launch} {ez : Nat} (GL : GLk g l ez) {sg : Sg} {ad : Nat → Nat → Nat} {u : MU} {Y : GS} (hS : CS g ez ad u Y sg) {N : Nat} (hI : CI N u) {v w : Int32} {ao : Nat} {F : Nat → Int64} (ho : sg ao = some (arJ g 1 F)) : MMW g l yL_deed cL_deed 5 (some .int) [(0, 10, 13, 21), (0, 10, 17, 13)] rmH sg [.ref (ad 0 0), .int v, .int w, .ref ao] (HP g ez ad u Y sg ao F vL (opDeed u v w)) noX := by
  have G := GL.1
  refine MMW.of G.1 G.2.1 (by decide) (Nat.le_of_ble_eq_true rfl) (fun x hg hlx C ht hargs => ?_)
  subst hg; subst hlx
  have C : AWC x cL_deed 5 RL rmH (some .int) := C
  have hN : XNC x.s := GL.2 _ C.env.2.2
  show AW x (RQ x _ _ _ _) 0 0 sg 0 [(0, .ref (ad 0 0)), (1, .int v), (2, .int w), (3, .ref ao)] []
  refine aw_aload_n C dL_deed_0 rfl rfl rfl ?_
  refine aw_iconst (v := 0) C dL_deed_1 rfl rfl ?_
  refine aw_aload_n C dL_deed_2 rfl rfl rfl ?_
  refine aw_iload_n C dL_deed_3 rfl rfl rfl ?_
  refine aw_iload_n C dL_deed_4 rfl rfl rfl ?_
  refine aw_callV C k_L_59 (F_deed G hS hI (v := v) (w := w)) ⟨by decide, by decide⟩ (ci := 10) rfl hS.O rfl rfl (Nat.le_of_ble_eq_true rfl) (Nat.le_of_ble_eq_true rfl) (Nat.le_of_ble_eq_true rfl) dL_deed_5 rfl (fun E s1 hx => ?_) (fun v1 s1 hq => ?_)
  · obtain ⟨h0, rfl, hC⟩ := hx
    rcases oc_Deed (u := u) (v := v) (w := w) with e | e | e
    · exact absurd e h0
    · rw [show x2a (opDeed u v w).1 = nB from by rw [e]; rfl]
      refine ax_catch (pc' := 13) (name := nB) C [] ⟨0, 10, 13, 21⟩ [⟨0, 10, 17, 13⟩] (ht.trans rfl) (fun y hy => absurd hy List.not_mem_nil) (by decide) (by decide) h_L_21 (ws_of 390 (by decide +kernel)) rfl (fun q => ?_)
      refine aw_astore (ls' := [(4, _), (0, _), (1, _), (2, _), (3, _)]) C dL_deed_13 (by decide) rfl rfl ?_
      refine aw_iconst (v := 1) C dL_deed_15 rfl rfl ?_
      exact aw_iret C rfl (Nat.le_of_ble_eq_true rfl) (Nat.le_of_ble_eq_true rfl) (HP.of1 e h0 hC) dL_deed_16
    · rw [show x2a (opDeed u v w).1 = nAr from by rw [e]; rfl]
      refine ax_catch (pc' := 17) (name := nAr) C [⟨0, 10, 13, 21⟩] ⟨0, 10, 17, 13⟩ [] (ht.trans rfl) (fun y hy => by
          rw [List.mem_singleton.mp hy]
          exact Or.inr ⟨by decide, nB, h_L_21, hN.2.1⟩) (by decide) (by decide) h_L_13 (ws_of 199 (by decide +kernel)) rfl (fun q => ?_)
      refine aw_astore (ls' := [(4, _), (0, _), (1, _), (2, _), (3, _)]) C dL_deed_17 (by decide) rfl rfl ?_
      refine aw_iconst (v := 2) C dL_deed_19 rfl rfl ?_
      exact aw_iret C rfl (Nat.le_of_ble_eq_true rfl) (Nat.le_of_ble_eq_true rfl) (HP.of1 e h0 hC) dL_deed_20
  obtain ⟨h0, rfl, hC⟩ := hq
  refine aw_i2l C dL_deed_8 rfl ?_
  refine aw_last (N := 1) C (out_C hS ho hC.fr) (show vp_in (0 : Int32) 1 from vp_in_nI (n := 0) (by decide) (by decide)) dL_deed_9 rfl ?_
  refine aw_goto (tgt := 21) C dL_deed_10 (by decide) ?_
  refine aw_iconst (v := 0) C dL_deed_21 rfl rfl ?_
  exact aw_iret C rfl (Nat.le_of_ble_eq_true rfl) (Nat.le_of_ble_eq_true rfl) (HP.of0 h0 hC) dL_deed_22
theorem oc_Label {u : MU} {v w : Int32} : (opLabel u v w).1 = 0 ∨ (opLabel u v w).1 = 1 := by
  unfold opLabel
  repeat' split
  all_goals simp
theorem kL_label : KSW RL 164 yL_label cL_label 5 (some .int) [(0, 10, 13, 21)] 4 := ⟨ws_of 763 (by decide +kernel), h_ini_L, ⟨⟨by decide, by decide⟩, by decide +kernel⟩, ws_of 761 (by decide +kernel), ws_of 762 (by decide +kernel)⟩
set_option maxRecDepth 100000 in
theorem H_label {g : Gx} {l : Launch} {ez : Nat} (GL : GLk g l ez) {sg : Sg} {ad : Nat → Nat → Nat} {u : MU} {Y : GS} (hS : CS g ez ad u Y sg) {N : Nat} (hI : CI N u) {v w : Int32} {ao : Nat} {F : Nat → Int64} (ho : sg ao = some (arJ g 1 F)) : MMW g l yL_label cL_label 5 (some .int) [(0, 10, 13, 21)] rmH sg [.ref (ad 0 0), .int v, .int w, .ref ao] (HP g ez ad u Y sg ao F vL (opLabel u v w)) noX := by
  have G := GL.1
  refine MMW.of G.1 G.2.1 (by decide) (Nat.le_of_ble_eq_true rfl) (fun x hg hlx C ht hargs => ?_)
  subst hg; subst hlx
  have C : AWC x cL_label 5 RL rmH (some .int) := C
  have hN : XNC x.s := GL.2 _ C.env.2.2
  show AW x (RQ x _ _ _ _) 0 0 sg 0 [(0, .ref (ad 0 0)), (1, .int v), (2, .int w), (3, .ref ao)] []
  refine aw_aload_n C dL_label_0 rfl rfl rfl ?_
  refine aw_iconst (v := 0) C dL_label_1 rfl rfl ?_
  refine aw_aload_n C dL_label_2 rfl rfl rfl ?_
  refine aw_iload_n C dL_label_3 rfl rfl rfl ?_
  refine aw_iload_n C dL_label_4 rfl rfl rfl ?_
  refine aw_callV C k_L_62 (F_label G hS hI (v := v) (w := w)) ⟨by decide, by decide⟩ (ci := 10) rfl hS.O rfl rfl (Nat.le_of_ble_eq_true rfl) (Nat.le_of_ble_eq_true rfl) (Nat.le_of_ble_eq_true rfl) dL_label_5 rfl (fun E s1 hx => ?_) (fun v1 s1 hq => ?_)
  · obtain ⟨h0, rfl, hC⟩ := hx
    rcases oc_Label (u := u) (v := v) (w := w) with e | e
    · exact absurd e h0
    · rw [show x1b (opLabel u v w).1 = nB from by rw [e]; rfl]
      refine ax_catch (pc' := 13) (name := nB) C [] ⟨0, 10, 13, 21⟩ [] (ht.trans rfl) (fun y hy => absurd hy List.not_mem_nil) (by decide) (by decide) h_L_21 (ws_of 390 (by decide +kernel)) rfl (fun q => ?_)
      refine aw_astore (ls' := [(4, _), (0, _), (1, _), (2, _), (3, _)]) C dL_label_13 (by decide) rfl rfl ?_
      refine aw_iconst (v := 1) C dL_label_15 rfl rfl ?_
      exact aw_iret C rfl (Nat.le_of_ble_eq_true rfl) (Nat.le_of_ble_eq_true rfl) (HP.of1 e h0 hC) dL_label_16
  obtain ⟨h0, rfl, hC⟩ := hq
  refine aw_i2l C dL_label_8 rfl ?_
  refine aw_last (N := 1) C (out_C hS ho hC.fr) (show vp_in (0 : Int32) 1 from vp_in_nI (n := 0) (by decide) (by decide)) dL_label_9 rfl ?_
  refine aw_goto (tgt := 17) C dL_label_10 (by decide) ?_
  refine aw_iconst (v := 0) C dL_label_17 rfl rfl ?_
  exact aw_iret C rfl (Nat.le_of_ble_eq_true rfl) (Nat.le_of_ble_eq_true rfl) (HP.of0 h0 hC) dL_label_18
theorem oc_Revoke {u : MU} {v : Int32} {t : Bool} : (opRevoke u v t).1 = 0 ∨ (opRevoke u v t).1 = 1 ∨ (opRevoke u v t).1 = 2 := by
  unfold opRevoke
  repeat' split
  all_goals simp
theorem kL_revoke : KSW RL 167 yL_revoke cL_revoke 5 (some .int) [(0, 17, 20, 21), (0, 17, 24, 15)] 4 := ⟨ws_of 938 (by decide +kernel), h_ini_L, ⟨⟨by decide, by decide⟩, by decide +kernel⟩, ws_of 936 (by decide +kernel), ws_of 937 (by decide +kernel)⟩
set_option maxRecDepth 100000 in
theorem H_revoke {g : Gx} {l : Launch} {ez : Nat} (GL : GLk g l ez) {sg : Sg} {ad : Nat → Nat → Nat} {u : MU} {Y : GS} (hS : CS g ez ad u Y sg) {N : Nat} (hI : CI N u) {v : Int32} {t : Bool} {ao : Nat} {F : Nat → Int64} (ho : sg ao = some (arJ g 1 F)) : MMW g l yL_revoke cL_revoke 5 (some .int) [(0, 17, 20, 21), (0, 17, 24, 15)] rmH sg [.ref (ad 0 0), .int v, .int (b2i t), .ref ao] (HP g ez ad u Y sg ao F bL (opRevoke u v t)) noX := by
  have G := GL.1
  refine MMW.of G.1 G.2.1 (by decide) (Nat.le_of_ble_eq_true rfl) (fun x hg hlx C ht hargs => ?_)
  subst hg; subst hlx
  have C : AWC x cL_revoke 5 RL rmH (some .int) := C
  have hN : XNC x.s := GL.2 _ C.env.2.2
  show AW x (RQ x _ _ _ _) 0 0 sg 0 [(0, .ref (ad 0 0)), (1, .int v), (2, .int (b2i t)), (3, .ref ao)] []
  refine aw_aload_n C dL_revoke_0 rfl rfl rfl ?_
  refine aw_iconst (v := 0) C dL_revoke_1 rfl rfl ?_
  refine aw_aload_n C dL_revoke_2 rfl rfl rfl ?_
  refine aw_iload_n C dL_revoke_3 rfl rfl rfl ?_
  refine aw_iload_n C dL_revoke_4 rfl rfl rfl ?_
  refine aw_callV C k_L_66 (F_revoke G hS hI (v := v) (t := t)) ⟨by decide, by decide⟩ (ci := 10) rfl hS.O rfl rfl (Nat.le_of_ble_eq_true rfl) (Nat.le_of_ble_eq_true rfl) (Nat.le_of_ble_eq_true rfl) dL_revoke_5 rfl (fun E s1 hx => ?_) (fun v1 s1 hq => ?_)
  · obtain ⟨h0, rfl, hC⟩ := hx
    rcases oc_Revoke (u := u) (v := v) (t := t) with e | e | e
    · exact absurd e h0
    · rw [show x2s (opRevoke u v t).1 = nB from by rw [e]; rfl]
      refine ax_catch (pc' := 20) (name := nB) C [] ⟨0, 17, 20, 21⟩ [⟨0, 17, 24, 15⟩] (ht.trans rfl) (fun y hy => absurd hy List.not_mem_nil) (by decide) (by decide) h_L_21 (ws_of 390 (by decide +kernel)) rfl (fun q => ?_)
      refine aw_astore (ls' := [(4, _), (0, _), (1, _), (2, _), (3, _)]) C dL_revoke_20 (by decide) rfl rfl ?_
      refine aw_iconst (v := 1) C dL_revoke_22 rfl rfl ?_
      exact aw_iret C rfl (Nat.le_of_ble_eq_true rfl) (Nat.le_of_ble_eq_true rfl) (HP.of1 e h0 hC) dL_revoke_23
    · rw [show x2s (opRevoke u v t).1 = nSt from by rw [e]; rfl]
      refine ax_catch (pc' := 24) (name := nSt) C [⟨0, 17, 20, 21⟩] ⟨0, 17, 24, 15⟩ [] (ht.trans rfl) (fun y hy => by
          rw [List.mem_singleton.mp hy]
          exact Or.inr ⟨by decide, nB, h_L_21, hN.2.2.2.1⟩) (by decide) (by decide) h_L_15 (ws_of 267 (by decide +kernel)) rfl (fun q => ?_)
      refine aw_astore (ls' := [(4, _), (0, _), (1, _), (2, _), (3, _)]) C dL_revoke_24 (by decide) rfl rfl ?_
      refine aw_iconst (v := 2) C dL_revoke_26 rfl rfl ?_
      exact aw_iret C rfl (Nat.le_of_ble_eq_true rfl) (Nat.le_of_ble_eq_true rfl) (HP.of1 e h0 hC) dL_revoke_27
  obtain ⟨h0, rfl, hC⟩ := hq
  refine aw_boolL (p1 := 11) (p2 := 12) (p3 := 15) (p4 := 16) C dL_revoke_8 dL_revoke_11 dL_revoke_12 dL_revoke_15 rfl rfl rfl rfl ?_
  refine aw_last (N := 1) C (out_C hS ho hC.fr) (show vp_in (0 : Int32) 1 from vp_in_nI (n := 0) (by decide) (by decide)) dL_revoke_16 rfl ?_
  refine aw_goto (tgt := 28) C dL_revoke_17 (by decide) ?_
  refine aw_iconst (v := 0) C dL_revoke_28 rfl rfl ?_
  exact aw_iret C rfl (Nat.le_of_ble_eq_true rfl) (Nat.le_of_ble_eq_true rfl) (HP.of0 h0 hC) dL_revoke_29
theorem oc_IsGood {u : MU} {v : Int32} : (opIsGood u v).1 = 0 ∨ (opIsGood u v).1 = 1 := by
  unfold opIsGood
  repeat' split
  all_goals simp
theorem kL_isGood : KSW RL 170 yL_isGood cL_isGood 4 (some .int) [(0, 16, 19, 21)] 3 := ⟨ws_of 946 (by decide +kernel), h_ini_L, ⟨⟨by decide, by decide⟩, by decide +kernel⟩, ws_of 944 (by decide +kernel), ws_of 945 (by decide +kernel)⟩
set_option maxRecDepth 100000 in
theorem H_isGood {g : Gx} {l : Launch} {ez : Nat} (GL : GLk g l ez) {sg : Sg} {ad : Nat → Nat → Nat} {u : MU} {Y : GS} (hS : CS g ez ad u Y sg) {N : Nat} (hI : CI N u) {v : Int32} {ao : Nat} {F : Nat → Int64} (ho : sg ao = some (arJ g 1 F)) : MMW g l yL_isGood cL_isGood 4 (some .int) [(0, 16, 19, 21)] rmH sg [.ref (ad 0 0), .int v, .ref ao] (HP g ez ad u Y sg ao F bL (opIsGood u v)) noX := by
  have G := GL.1
  refine MMW.of G.1 G.2.1 (by decide) (Nat.le_of_ble_eq_true rfl) (fun x hg hlx C ht hargs => ?_)
  subst hg; subst hlx
  have C : AWC x cL_isGood 4 RL rmH (some .int) := C
  have hN : XNC x.s := GL.2 _ C.env.2.2
  show AW x (RQ x _ _ _ _) 0 0 sg 0 [(0, .ref (ad 0 0)), (1, .int v), (2, .ref ao)] []
  refine aw_aload_n C dL_isGood_0 rfl rfl rfl ?_
  refine aw_iconst (v := 0) C dL_isGood_1 rfl rfl ?_
  refine aw_aload_n C dL_isGood_2 rfl rfl rfl ?_
  refine aw_iload_n C dL_isGood_3 rfl rfl rfl ?_
  refine aw_callV C k_L_70 (F_isGood G hS hI (v := v)) ⟨by decide, by decide⟩ (ci := 10) rfl hS.O rfl rfl (Nat.le_of_ble_eq_true rfl) (Nat.le_of_ble_eq_true rfl) (Nat.le_of_ble_eq_true rfl) dL_isGood_4 rfl (fun E s1 hx => ?_) (fun v1 s1 hq => ?_)
  · obtain ⟨h0, rfl, hC⟩ := hx
    rcases oc_IsGood (u := u) (v := v) with e | e
    · exact absurd e h0
    · rw [show x1b (opIsGood u v).1 = nB from by rw [e]; rfl]
      refine ax_catch (pc' := 19) (name := nB) C [] ⟨0, 16, 19, 21⟩ [] (ht.trans rfl) (fun y hy => absurd hy List.not_mem_nil) (by decide) (by decide) h_L_21 (ws_of 390 (by decide +kernel)) rfl (fun q => ?_)
      refine aw_astore_n (ls' := [(3, _), (0, _), (1, _), (2, _)]) C dL_isGood_19 rfl (by decide) rfl rfl ?_
      refine aw_iconst (v := 1) C dL_isGood_20 rfl rfl ?_
      exact aw_iret C rfl (Nat.le_of_ble_eq_true rfl) (Nat.le_of_ble_eq_true rfl) (HP.of1 e h0 hC) dL_isGood_21
  obtain ⟨h0, rfl, hC⟩ := hq
  refine aw_boolL (p1 := 10) (p2 := 11) (p3 := 14) (p4 := 15) C dL_isGood_7 dL_isGood_10 dL_isGood_11 dL_isGood_14 rfl rfl rfl rfl ?_
  refine aw_last (N := 1) C (out_C hS ho hC.fr) (show vp_in (0 : Int32) 1 from vp_in_nI (n := 0) (by decide) (by decide)) dL_isGood_15 rfl ?_
  refine aw_goto (tgt := 22) C dL_isGood_16 (by decide) ?_
  refine aw_iconst (v := 0) C dL_isGood_22 rfl rfl ?_
  exact aw_iret C rfl (Nat.le_of_ble_eq_true rfl) (Nat.le_of_ble_eq_true rfl) (HP.of0 h0 hC) dL_isGood_23
theorem oc_Copy {u : MU} {v : Int32} : (opCopy u v).1 = 0 ∨ (opCopy u v).1 = 1 ∨ (opCopy u v).1 = 2 := by
  unfold opCopy
  repeat' split
  all_goals simp
theorem kL_copy : KSW RL 173 yL_copy cL_copy 4 (some .int) [(0, 9, 12, 21), (0, 9, 15, 15)] 3 := ⟨ws_of 953 (by decide +kernel), h_ini_L, ⟨⟨by decide, by decide⟩, by decide +kernel⟩, ws_of 951 (by decide +kernel), ws_of 952 (by decide +kernel)⟩
set_option maxRecDepth 100000 in
theorem H_copy {g : Gx} {l : Launch} {ez : Nat} (GL : GLk g l ez) {sg : Sg} {ad : Nat → Nat → Nat} {u : MU} {Y : GS} (hS : CS g ez ad u Y sg) {N : Nat} (hI : CI N u) {v : Int32} {ao : Nat} {F : Nat → Int64} (ho : sg ao = some (arJ g 1 F)) : MMW g l yL_copy cL_copy 4 (some .int) [(0, 9, 12, 21), (0, 9, 15, 15)] rmH sg [.ref (ad 0 0), .int v, .ref ao] (HP g ez ad u Y sg ao F vL (opCopy u v)) noX := by
  have G := GL.1
  refine MMW.of G.1 G.2.1 (by decide) (Nat.le_of_ble_eq_true rfl) (fun x hg hlx C ht hargs => ?_)
  subst hg; subst hlx
  have C : AWC x cL_copy 4 RL rmH (some .int) := C
  have hN : XNC x.s := GL.2 _ C.env.2.2
  show AW x (RQ x _ _ _ _) 0 0 sg 0 [(0, .ref (ad 0 0)), (1, .int v), (2, .ref ao)] []
  refine aw_aload_n C dL_copy_0 rfl rfl rfl ?_
  refine aw_iconst (v := 0) C dL_copy_1 rfl rfl ?_
  refine aw_aload_n C dL_copy_2 rfl rfl rfl ?_
  refine aw_iload_n C dL_copy_3 rfl rfl rfl ?_
  refine aw_callV C k_L_73 (F_copy G hS hI (v := v)) ⟨by decide, by decide⟩ (ci := 10) rfl hS.O rfl rfl (Nat.le_of_ble_eq_true rfl) (Nat.le_of_ble_eq_true rfl) (Nat.le_of_ble_eq_true rfl) dL_copy_4 rfl (fun E s1 hx => ?_) (fun v1 s1 hq => ?_)
  · obtain ⟨h0, rfl, hC⟩ := hx
    rcases oc_Copy (u := u) (v := v) with e | e | e
    · exact absurd e h0
    · rw [show x2s (opCopy u v).1 = nB from by rw [e]; rfl]
      refine ax_catch (pc' := 12) (name := nB) C [] ⟨0, 9, 12, 21⟩ [⟨0, 9, 15, 15⟩] (ht.trans rfl) (fun y hy => absurd hy List.not_mem_nil) (by decide) (by decide) h_L_21 (ws_of 390 (by decide +kernel)) rfl (fun q => ?_)
      refine aw_astore_n (ls' := [(3, _), (0, _), (1, _), (2, _)]) C dL_copy_12 rfl (by decide) rfl rfl ?_
      refine aw_iconst (v := 1) C dL_copy_13 rfl rfl ?_
      exact aw_iret C rfl (Nat.le_of_ble_eq_true rfl) (Nat.le_of_ble_eq_true rfl) (HP.of1 e h0 hC) dL_copy_14
    · rw [show x2s (opCopy u v).1 = nSt from by rw [e]; rfl]
      refine ax_catch (pc' := 15) (name := nSt) C [⟨0, 9, 12, 21⟩] ⟨0, 9, 15, 15⟩ [] (ht.trans rfl) (fun y hy => by
          rw [List.mem_singleton.mp hy]
          exact Or.inr ⟨by decide, nB, h_L_21, hN.2.2.2.1⟩) (by decide) (by decide) h_L_15 (ws_of 267 (by decide +kernel)) rfl (fun q => ?_)
      refine aw_astore_n (ls' := [(3, _), (0, _), (1, _), (2, _)]) C dL_copy_15 rfl (by decide) rfl rfl ?_
      refine aw_iconst (v := 2) C dL_copy_16 rfl rfl ?_
      exact aw_iret C rfl (Nat.le_of_ble_eq_true rfl) (Nat.le_of_ble_eq_true rfl) (HP.of1 e h0 hC) dL_copy_17
  obtain ⟨h0, rfl, hC⟩ := hq
  refine aw_i2l C dL_copy_7 rfl ?_
  refine aw_last (N := 1) C (out_C hS ho hC.fr) (show vp_in (0 : Int32) 1 from vp_in_nI (n := 0) (by decide) (by decide)) dL_copy_8 rfl ?_
  refine aw_goto (tgt := 18) C dL_copy_9 (by decide) ?_
  refine aw_iconst (v := 0) C dL_copy_18 rfl rfl ?_
  exact aw_iret C rfl (Nat.le_of_ble_eq_true rfl) (Nat.le_of_ble_eq_true rfl) (HP.of0 h0 hC) dL_copy_19
theorem oc_Lose {u : MU} {v : Int32} : (opLose u v).1 = 0 ∨ (opLose u v).1 = 1 ∨ (opLose u v).1 = 2 := by
  unfold opLose
  repeat' split
  all_goals simp
theorem kL_lose : KSW RL 176 yL_lose cL_lose 4 (some .int) [(0, 9, 12, 21), (0, 9, 15, 15)] 3 := ⟨ws_of 965 (by decide +kernel), h_ini_L, ⟨⟨by decide, by decide⟩, by decide +kernel⟩, ws_of 963 (by decide +kernel), ws_of 964 (by decide +kernel)⟩
set_option maxRecDepth 100000 in
theorem H_lose {g : Gx} {l : Launch} {ez : Nat} (GL : GLk g l ez) {sg : Sg} {ad : Nat → Nat → Nat} {u : MU} {Y : GS} (hS : CS g ez ad u Y sg) {N : Nat} (hI : CI N u) {v : Int32} {ao : Nat} {F : Nat → Int64} (ho : sg ao = some (arJ g 1 F)) : MMW g l yL_lose cL_lose 4 (some .int) [(0, 9, 12, 21), (0, 9, 15, 15)] rmH sg [.ref (ad 0 0), .int v, .ref ao] (HP g ez ad u Y sg ao F vL (opLose u v)) noX := by
  have G := GL.1
  refine MMW.of G.1 G.2.1 (by decide) (Nat.le_of_ble_eq_true rfl) (fun x hg hlx C ht hargs => ?_)
  subst hg; subst hlx
  have C : AWC x cL_lose 4 RL rmH (some .int) := C
  have hN : XNC x.s := GL.2 _ C.env.2.2
  show AW x (RQ x _ _ _ _) 0 0 sg 0 [(0, .ref (ad 0 0)), (1, .int v), (2, .ref ao)] []
  refine aw_aload_n C dL_lose_0 rfl rfl rfl ?_
  refine aw_iconst (v := 0) C dL_lose_1 rfl rfl ?_
  refine aw_aload_n C dL_lose_2 rfl rfl rfl ?_
  refine aw_iload_n C dL_lose_3 rfl rfl rfl ?_
  refine aw_callV C k_L_76 (F_lose G hS hI (v := v)) ⟨by decide, by decide⟩ (ci := 10) rfl hS.O rfl rfl (Nat.le_of_ble_eq_true rfl) (Nat.le_of_ble_eq_true rfl) (Nat.le_of_ble_eq_true rfl) dL_lose_4 rfl (fun E s1 hx => ?_) (fun v1 s1 hq => ?_)
  · obtain ⟨h0, rfl, hC⟩ := hx
    rcases oc_Lose (u := u) (v := v) with e | e | e
    · exact absurd e h0
    · rw [show x2s (opLose u v).1 = nB from by rw [e]; rfl]
      refine ax_catch (pc' := 12) (name := nB) C [] ⟨0, 9, 12, 21⟩ [⟨0, 9, 15, 15⟩] (ht.trans rfl) (fun y hy => absurd hy List.not_mem_nil) (by decide) (by decide) h_L_21 (ws_of 390 (by decide +kernel)) rfl (fun q => ?_)
      refine aw_astore_n (ls' := [(3, _), (0, _), (1, _), (2, _)]) C dL_lose_12 rfl (by decide) rfl rfl ?_
      refine aw_iconst (v := 1) C dL_lose_13 rfl rfl ?_
      exact aw_iret C rfl (Nat.le_of_ble_eq_true rfl) (Nat.le_of_ble_eq_true rfl) (HP.of1 e h0 hC) dL_lose_14
    · rw [show x2s (opLose u v).1 = nSt from by rw [e]; rfl]
      refine ax_catch (pc' := 15) (name := nSt) C [⟨0, 9, 12, 21⟩] ⟨0, 9, 15, 15⟩ [] (ht.trans rfl) (fun y hy => by
          rw [List.mem_singleton.mp hy]
          exact Or.inr ⟨by decide, nB, h_L_21, hN.2.2.2.1⟩) (by decide) (by decide) h_L_15 (ws_of 267 (by decide +kernel)) rfl (fun q => ?_)
      refine aw_astore_n (ls' := [(3, _), (0, _), (1, _), (2, _)]) C dL_lose_15 rfl (by decide) rfl rfl ?_
      refine aw_iconst (v := 2) C dL_lose_16 rfl rfl ?_
      exact aw_iret C rfl (Nat.le_of_ble_eq_true rfl) (Nat.le_of_ble_eq_true rfl) (HP.of1 e h0 hC) dL_lose_17
  obtain ⟨h0, rfl, hC⟩ := hq
  refine aw_i2l C dL_lose_7 rfl ?_
  refine aw_last (N := 1) C (out_C hS ho hC.fr) (show vp_in (0 : Int32) 1 from vp_in_nI (n := 0) (by decide) (by decide)) dL_lose_8 rfl ?_
  refine aw_goto (tgt := 18) C dL_lose_9 (by decide) ?_
  refine aw_iconst (v := 0) C dL_lose_18 rfl rfl ?_
  exact aw_iret C rfl (Nat.le_of_ble_eq_true rfl) (Nat.le_of_ble_eq_true rfl) (HP.of0 h0 hC) dL_lose_19
theorem oc_Proof {u : MU} {v : Int32} : (opProof u v).1 = 0 ∨ (opProof u v).1 = 1 := by
  unfold opProof
  repeat' split
  all_goals simp
theorem kL_proof : KSW RL 179 yL_proof cL_proof 4 (some .int) [(0, 9, 12, 21)] 3 := ⟨ws_of 977 (by decide +kernel), h_ini_L, ⟨⟨by decide, by decide⟩, by decide +kernel⟩, ws_of 975 (by decide +kernel), ws_of 976 (by decide +kernel)⟩
set_option maxRecDepth 100000 in
theorem H_proof {g : Gx} {l : Launch} {ez : Nat} (GL : GLk g l ez) {sg : Sg} {ad : Nat → Nat → Nat} {u : MU} {Y : GS} (hS : CS g ez ad u Y sg) {N : Nat} (hI : CI N u) {v : Int32} {ao : Nat} {F : Nat → Int64} (ho : sg ao = some (arJ g 1 F)) : MMW g l yL_proof cL_proof 4 (some .int) [(0, 9, 12, 21)] rmH sg [.ref (ad 0 0), .int v, .ref ao] (HP g ez ad u Y sg ao F vL (opProof u v)) noX := by
  have G := GL.1
  refine MMW.of G.1 G.2.1 (by decide) (Nat.le_of_ble_eq_true rfl) (fun x hg hlx C ht hargs => ?_)
  subst hg; subst hlx
  have C : AWC x cL_proof 4 RL rmH (some .int) := C
  have hN : XNC x.s := GL.2 _ C.env.2.2
  show AW x (RQ x _ _ _ _) 0 0 sg 0 [(0, .ref (ad 0 0)), (1, .int v), (2, .ref ao)] []
  refine aw_aload_n C dL_proof_0 rfl rfl rfl ?_
  refine aw_iconst (v := 0) C dL_proof_1 rfl rfl ?_
  refine aw_aload_n C dL_proof_2 rfl rfl rfl ?_
  refine aw_iload_n C dL_proof_3 rfl rfl rfl ?_
  refine aw_callV C k_L_79 (F_proof G hS hI (v := v)) ⟨by decide, by decide⟩ (ci := 10) rfl hS.O rfl rfl (Nat.le_of_ble_eq_true rfl) (Nat.le_of_ble_eq_true rfl) (Nat.le_of_ble_eq_true rfl) dL_proof_4 rfl (fun E s1 hx => ?_) (fun v1 s1 hq => ?_)
  · obtain ⟨h0, rfl, hC⟩ := hx
    rcases oc_Proof (u := u) (v := v) with e | e
    · exact absurd e h0
    · rw [show x1b (opProof u v).1 = nB from by rw [e]; rfl]
      refine ax_catch (pc' := 12) (name := nB) C [] ⟨0, 9, 12, 21⟩ [] (ht.trans rfl) (fun y hy => absurd hy List.not_mem_nil) (by decide) (by decide) h_L_21 (ws_of 390 (by decide +kernel)) rfl (fun q => ?_)
      refine aw_astore_n (ls' := [(3, _), (0, _), (1, _), (2, _)]) C dL_proof_12 rfl (by decide) rfl rfl ?_
      refine aw_iconst (v := 1) C dL_proof_13 rfl rfl ?_
      exact aw_iret C rfl (Nat.le_of_ble_eq_true rfl) (Nat.le_of_ble_eq_true rfl) (HP.of1 e h0 hC) dL_proof_14
  obtain ⟨h0, rfl, hC⟩ := hq
  refine aw_i2l C dL_proof_7 rfl ?_
  refine aw_last (N := 1) C (out_C hS ho hC.fr) (show vp_in (0 : Int32) 1 from vp_in_nI (n := 0) (by decide) (by decide)) dL_proof_8 rfl ?_
  refine aw_goto (tgt := 15) C dL_proof_9 (by decide) ?_
  refine aw_iconst (v := 0) C dL_proof_15 rfl rfl ?_
  exact aw_iret C rfl (Nat.le_of_ble_eq_true rfl) (Nat.le_of_ble_eq_true rfl) (HP.of0 h0 hC) dL_proof_16
theorem oc_Enter {u : MU} {v : Int32} : (opEnter u v).1 = 0 ∨ (opEnter u v).1 = 1 ∨ (opEnter u v).1 = 2 := by
  unfold opEnter
  repeat' split
  all_goals simp
theorem kL_enter : KSW RL 182 yL_enter cL_enter 4 (some .int) [(0, 9, 12, 21), (0, 9, 15, 15)] 3 := ⟨ws_of 984 (by decide +kernel), h_ini_L, ⟨⟨by decide, by decide⟩, by decide +kernel⟩, ws_of 982 (by decide +kernel), ws_of 983 (by decide +kernel)⟩
set_option maxRecDepth 100000 in
theorem H_enter {g : Gx} {l : Launch} {ez : Nat} (GL : GLk g l ez) {sg : Sg} {ad : Nat → Nat → Nat} {u : MU} {Y : GS} (hS : CS g ez ad u Y sg) {N : Nat} (hI : CI N u) {v : Int32} {ao : Nat} {F : Nat → Int64} (ho : sg ao = some (arJ g 1 F)) : MMW g l yL_enter cL_enter 4 (some .int) [(0, 9, 12, 21), (0, 9, 15, 15)] rmH sg [.ref (ad 0 0), .int v, .ref ao] (HP g ez ad u Y sg ao F vL (opEnter u v)) noX := by
  have G := GL.1
  refine MMW.of G.1 G.2.1 (by decide) (Nat.le_of_ble_eq_true rfl) (fun x hg hlx C ht hargs => ?_)
  subst hg; subst hlx
  have C : AWC x cL_enter 4 RL rmH (some .int) := C
  have hN : XNC x.s := GL.2 _ C.env.2.2
  show AW x (RQ x _ _ _ _) 0 0 sg 0 [(0, .ref (ad 0 0)), (1, .int v), (2, .ref ao)] []
  refine aw_aload_n C dL_enter_0 rfl rfl rfl ?_
  refine aw_iconst (v := 0) C dL_enter_1 rfl rfl ?_
  refine aw_aload_n C dL_enter_2 rfl rfl rfl ?_
  refine aw_iload_n C dL_enter_3 rfl rfl rfl ?_
  refine aw_callV C k_L_82 (F_enter G hS hI (v := v)) ⟨by decide, by decide⟩ (ci := 10) rfl hS.O rfl rfl (Nat.le_of_ble_eq_true rfl) (Nat.le_of_ble_eq_true rfl) (Nat.le_of_ble_eq_true rfl) dL_enter_4 rfl (fun E s1 hx => ?_) (fun v1 s1 hq => ?_)
  · obtain ⟨h0, rfl, hC⟩ := hx
    rcases oc_Enter (u := u) (v := v) with e | e | e
    · exact absurd e h0
    · rw [show x2s (opEnter u v).1 = nB from by rw [e]; rfl]
      refine ax_catch (pc' := 12) (name := nB) C [] ⟨0, 9, 12, 21⟩ [⟨0, 9, 15, 15⟩] (ht.trans rfl) (fun y hy => absurd hy List.not_mem_nil) (by decide) (by decide) h_L_21 (ws_of 390 (by decide +kernel)) rfl (fun q => ?_)
      refine aw_astore_n (ls' := [(3, _), (0, _), (1, _), (2, _)]) C dL_enter_12 rfl (by decide) rfl rfl ?_
      refine aw_iconst (v := 1) C dL_enter_13 rfl rfl ?_
      exact aw_iret C rfl (Nat.le_of_ble_eq_true rfl) (Nat.le_of_ble_eq_true rfl) (HP.of1 e h0 hC) dL_enter_14
    · rw [show x2s (opEnter u v).1 = nSt from by rw [e]; rfl]
      refine ax_catch (pc' := 15) (name := nSt) C [⟨0, 9, 12, 21⟩] ⟨0, 9, 15, 15⟩ [] (ht.trans rfl) (fun y hy => by
          rw [List.mem_singleton.mp hy]
          exact Or.inr ⟨by decide, nB, h_L_21, hN.2.2.2.1⟩) (by decide) (by decide) h_L_15 (ws_of 267 (by decide +kernel)) rfl (fun q => ?_)
      refine aw_astore_n (ls' := [(3, _), (0, _), (1, _), (2, _)]) C dL_enter_15 rfl (by decide) rfl rfl ?_
      refine aw_iconst (v := 2) C dL_enter_16 rfl rfl ?_
      exact aw_iret C rfl (Nat.le_of_ble_eq_true rfl) (Nat.le_of_ble_eq_true rfl) (HP.of1 e h0 hC) dL_enter_17
  obtain ⟨h0, rfl, hC⟩ := hq
  refine aw_i2l C dL_enter_7 rfl ?_
  refine aw_last (N := 1) C (out_C hS ho hC.fr) (show vp_in (0 : Int32) 1 from vp_in_nI (n := 0) (by decide) (by decide)) dL_enter_8 rfl ?_
  refine aw_goto (tgt := 18) C dL_enter_9 (by decide) ?_
  refine aw_iconst (v := 0) C dL_enter_18 rfl rfl ?_
  exact aw_iret C rfl (Nat.le_of_ble_eq_true rfl) (Nat.le_of_ble_eq_true rfl) (HP.of0 h0 hC) dL_enter_19
theorem oc_Die {u : MU} {v : Int32} : (opDie u v).1 = 0 ∨ (opDie u v).1 = 1 ∨ (opDie u v).1 = 2 := by
  unfold opDie
  repeat' split
  all_goals simp
theorem kL_die : KSW RL 185 yL_die cL_die 4 (some .int) [(0, 9, 12, 21), (0, 9, 15, 15)] 3 := ⟨ws_of 1098 (by decide +kernel), h_ini_L, ⟨⟨by decide, by decide⟩, by decide +kernel⟩, ws_of 1096 (by decide +kernel), ws_of 1097 (by decide +kernel)⟩
set_option maxRecDepth 100000 in
theorem H_die {g : Gx} {l : Launch} {ez : Nat} (GL : GLk g l ez) {sg : Sg} {ad : Nat → Nat → Nat} {u : MU} {Y : GS} (hS : CS g ez ad u Y sg) {N : Nat} (hI : CI N u) (hNS : NSf u) {v : Int32} {ao : Nat} {F : Nat → Int64} (ho : sg ao = some (arJ g 1 F)) : MMW g l yL_die cL_die 4 (some .int) [(0, 9, 12, 21), (0, 9, 15, 15)] rmH sg [.ref (ad 0 0), .int v, .ref ao] (HP g ez ad u Y sg ao F vL (opDie u v)) noX := by
  have G := GL.1
  refine MMW.of G.1 G.2.1 (by decide) (Nat.le_of_ble_eq_true rfl) (fun x hg hlx C ht hargs => ?_)
  subst hg; subst hlx
  have C : AWC x cL_die 4 RL rmH (some .int) := C
  have hN : XNC x.s := GL.2 _ C.env.2.2
  show AW x (RQ x _ _ _ _) 0 0 sg 0 [(0, .ref (ad 0 0)), (1, .int v), (2, .ref ao)] []
  refine aw_aload_n C dL_die_0 rfl rfl rfl ?_
  refine aw_iconst (v := 0) C dL_die_1 rfl rfl ?_
  refine aw_aload_n C dL_die_2 rfl rfl rfl ?_
  refine aw_iload_n C dL_die_3 rfl rfl rfl ?_
  refine aw_callV C k_L_85 (F_die G hS hI (fun p hp => hNS p (by have := hI.n2; omega)) (v := v)) ⟨by decide, by decide⟩ (ci := 10) rfl hS.O rfl rfl (Nat.le_of_ble_eq_true rfl) (Nat.le_of_ble_eq_true rfl) (Nat.le_of_ble_eq_true rfl) dL_die_4 rfl (fun E s1 hx => ?_) (fun v1 s1 hq => ?_)
  · obtain ⟨h0, rfl, hC⟩ := hx
    rcases oc_Die (u := u) (v := v) with e | e | e
    · exact absurd e h0
    · rw [show x2s (opDie u v).1 = nB from by rw [e]; rfl]
      refine ax_catch (pc' := 12) (name := nB) C [] ⟨0, 9, 12, 21⟩ [⟨0, 9, 15, 15⟩] (ht.trans rfl) (fun y hy => absurd hy List.not_mem_nil) (by decide) (by decide) h_L_21 (ws_of 390 (by decide +kernel)) rfl (fun q => ?_)
      refine aw_astore_n (ls' := [(3, _), (0, _), (1, _), (2, _)]) C dL_die_12 rfl (by decide) rfl rfl ?_
      refine aw_iconst (v := 1) C dL_die_13 rfl rfl ?_
      exact aw_iret C rfl (Nat.le_of_ble_eq_true rfl) (Nat.le_of_ble_eq_true rfl) (HP.of1 e h0 hC) dL_die_14
    · rw [show x2s (opDie u v).1 = nSt from by rw [e]; rfl]
      refine ax_catch (pc' := 15) (name := nSt) C [⟨0, 9, 12, 21⟩] ⟨0, 9, 15, 15⟩ [] (ht.trans rfl) (fun y hy => by
          rw [List.mem_singleton.mp hy]
          exact Or.inr ⟨by decide, nB, h_L_21, hN.2.2.2.1⟩) (by decide) (by decide) h_L_15 (ws_of 267 (by decide +kernel)) rfl (fun q => ?_)
      refine aw_astore_n (ls' := [(3, _), (0, _), (1, _), (2, _)]) C dL_die_15 rfl (by decide) rfl rfl ?_
      refine aw_iconst (v := 2) C dL_die_16 rfl rfl ?_
      exact aw_iret C rfl (Nat.le_of_ble_eq_true rfl) (Nat.le_of_ble_eq_true rfl) (HP.of1 e h0 hC) dL_die_17
  obtain ⟨h0, rfl, hC⟩ := hq
  refine aw_i2l C dL_die_7 rfl ?_
  refine aw_last (N := 1) C (out_C hS ho hC.fr) (show vp_in (0 : Int32) 1 from vp_in_nI (n := 0) (by decide) (by decide)) dL_die_8 rfl ?_
  refine aw_goto (tgt := 18) C dL_die_9 (by decide) ?_
  refine aw_iconst (v := 0) C dL_die_18 rfl rfl ?_
  exact aw_iret C rfl (Nat.le_of_ble_eq_true rfl) (Nat.le_of_ble_eq_true rfl) (HP.of0 h0 hC) dL_die_19
theorem oc_Entry {u : MU} {v w : Int32} : (opEntry u v w).1 = 0 ∨ (opEntry u v w).1 = 1 ∨ (opEntry u v w).1 = 2 := by
  unfold opEntry
  repeat' split
  all_goals simp
theorem kL_entry : KSW RL 188 yL_entry cL_entry 5 (some .int) [(0, 10, 13, 21), (0, 10, 17, 13)] 4 := ⟨ws_of 1146 (by decide +kernel), h_ini_L, ⟨⟨by decide, by decide⟩, by decide +kernel⟩, ws_of 1144 (by decide +kernel), ws_of 1145 (by decide +kernel)⟩
set_option maxRecDepth 100000 in
theorem H_entry {g : Gx} {l : Launch} {ez : Nat} (GL : GLk g l ez) {sg : Sg} {ad : Nat → Nat → Nat} {u : MU} {Y : GS} (hS : CS g ez ad u Y sg) {N : Nat} (hI : CI N u) {v w : Int32} {ao : Nat} {F : Nat → Int64} (ho : sg ao = some (arJ g 1 F)) : MMW g l yL_entry cL_entry 5 (some .int) [(0, 10, 13, 21), (0, 10, 17, 13)] rmH sg [.ref (ad 0 0), .int v, .int w, .ref ao] (HP g ez ad u Y sg ao F vL (opEntry u v w)) noX := by
  have G := GL.1
  refine MMW.of G.1 G.2.1 (by decide) (Nat.le_of_ble_eq_true rfl) (fun x hg hlx C ht hargs => ?_)
  subst hg; subst hlx
  have C : AWC x cL_entry 5 RL rmH (some .int) := C
  have hN : XNC x.s := GL.2 _ C.env.2.2
  show AW x (RQ x _ _ _ _) 0 0 sg 0 [(0, .ref (ad 0 0)), (1, .int v), (2, .int w), (3, .ref ao)] []
  refine aw_aload_n C dL_entry_0 rfl rfl rfl ?_
  refine aw_iconst (v := 0) C dL_entry_1 rfl rfl ?_
  refine aw_aload_n C dL_entry_2 rfl rfl rfl ?_
  refine aw_iload_n C dL_entry_3 rfl rfl rfl ?_
  refine aw_iload_n C dL_entry_4 rfl rfl rfl ?_
  refine aw_callV C k_L_88 (F_entry G hS hI (v := v) (w := w)) ⟨by decide, by decide⟩ (ci := 10) rfl hS.O rfl rfl (Nat.le_of_ble_eq_true rfl) (Nat.le_of_ble_eq_true rfl) (Nat.le_of_ble_eq_true rfl) dL_entry_5 rfl (fun E s1 hx => ?_) (fun v1 s1 hq => ?_)
  · obtain ⟨h0, rfl, hC⟩ := hx
    rcases oc_Entry (u := u) (v := v) (w := w) with e | e | e
    · exact absurd e h0
    · rw [show x2a (opEntry u v w).1 = nB from by rw [e]; rfl]
      refine ax_catch (pc' := 13) (name := nB) C [] ⟨0, 10, 13, 21⟩ [⟨0, 10, 17, 13⟩] (ht.trans rfl) (fun y hy => absurd hy List.not_mem_nil) (by decide) (by decide) h_L_21 (ws_of 390 (by decide +kernel)) rfl (fun q => ?_)
      refine aw_astore (ls' := [(4, _), (0, _), (1, _), (2, _), (3, _)]) C dL_entry_13 (by decide) rfl rfl ?_
      refine aw_iconst (v := 1) C dL_entry_15 rfl rfl ?_
      exact aw_iret C rfl (Nat.le_of_ble_eq_true rfl) (Nat.le_of_ble_eq_true rfl) (HP.of1 e h0 hC) dL_entry_16
    · rw [show x2a (opEntry u v w).1 = nAr from by rw [e]; rfl]
      refine ax_catch (pc' := 17) (name := nAr) C [⟨0, 10, 13, 21⟩] ⟨0, 10, 17, 13⟩ [] (ht.trans rfl) (fun y hy => by
          rw [List.mem_singleton.mp hy]
          exact Or.inr ⟨by decide, nB, h_L_21, hN.2.1⟩) (by decide) (by decide) h_L_13 (ws_of 199 (by decide +kernel)) rfl (fun q => ?_)
      refine aw_astore (ls' := [(4, _), (0, _), (1, _), (2, _), (3, _)]) C dL_entry_17 (by decide) rfl rfl ?_
      refine aw_iconst (v := 2) C dL_entry_19 rfl rfl ?_
      exact aw_iret C rfl (Nat.le_of_ble_eq_true rfl) (Nat.le_of_ble_eq_true rfl) (HP.of1 e h0 hC) dL_entry_20
  obtain ⟨h0, rfl, hC⟩ := hq
  refine aw_i2l C dL_entry_8 rfl ?_
  refine aw_last (N := 1) C (out_C hS ho hC.fr) (show vp_in (0 : Int32) 1 from vp_in_nI (n := 0) (by decide) (by decide)) dL_entry_9 rfl ?_
  refine aw_goto (tgt := 21) C dL_entry_10 (by decide) ?_
  refine aw_iconst (v := 0) C dL_entry_21 rfl rfl ?_
  exact aw_iret C rfl (Nat.le_of_ble_eq_true rfl) (Nat.le_of_ble_eq_true rfl) (HP.of0 h0 hC) dL_entry_22
theorem oc_Search {u : MU} {v a b : Int32} : (opSearch u v a b).1 = 0 ∨ (opSearch u v a b).1 = 1 ∨ (opSearch u v a b).1 = 2 := by
  unfold opSearch
  repeat' split
  all_goals simp
theorem kL_search : KSW RL 195 yL_search cL_search 6 (some .int) [(0, 12, 15, 21), (0, 12, 19, 13)] 5 := ⟨ws_of 1154 (by decide +kernel), h_ini_L, ⟨⟨by decide, by decide⟩, by decide +kernel⟩, ws_of 1152 (by decide +kernel), ws_of 1153 (by decide +kernel)⟩
set_option maxRecDepth 100000 in
theorem H_search {g : Gx} {l : Launch} {ez : Nat} (GL : GLk g l ez) {sg : Sg} {ad : Nat → Nat → Nat} {u : MU} {Y : GS} (hS : CS g ez ad u Y sg) {N : Nat} (hI : CI N u) {v a b : Int32} {ao : Nat} {F : Nat → Int64} (ho : sg ao = some (arJ g 1 F)) : MMW g l yL_search cL_search 6 (some .int) [(0, 12, 15, 21), (0, 12, 19, 13)] rmH sg [.ref (ad 0 0), .int v, .int a, .int b, .ref ao] (HP g ez ad u Y sg ao F vL (opSearch u v a b)) noX := by
  have G := GL.1
  refine MMW.of G.1 G.2.1 (by decide) (Nat.le_of_ble_eq_true rfl) (fun x hg hlx C ht hargs => ?_)
  subst hg; subst hlx
  have C : AWC x cL_search 6 RL rmH (some .int) := C
  have hN : XNC x.s := GL.2 _ C.env.2.2
  show AW x (RQ x _ _ _ _) 0 0 sg 0 [(0, .ref (ad 0 0)), (1, .int v), (2, .int a), (3, .int b), (4, .ref ao)] []
  refine aw_aload C dL_search_0 rfl rfl ?_
  refine aw_iconst (v := 0) C dL_search_2 rfl rfl ?_
  refine aw_aload_n C dL_search_3 rfl rfl rfl ?_
  refine aw_iload_n C dL_search_4 rfl rfl rfl ?_
  refine aw_iload_n C dL_search_5 rfl rfl rfl ?_
  refine aw_iload_n C dL_search_6 rfl rfl rfl ?_
  refine aw_callV C k_L_91 (F_search G hS hI (v := v) (a := a) (b := b)) ⟨by decide, by decide⟩ (ci := 10) rfl hS.O rfl rfl (Nat.le_of_ble_eq_true rfl) (Nat.le_of_ble_eq_true rfl) (Nat.le_of_ble_eq_true rfl) dL_search_7 rfl (fun E s1 hx => ?_) (fun v1 s1 hq => ?_)
  · obtain ⟨h0, rfl, hC⟩ := hx
    rcases oc_Search (u := u) (v := v) (a := a) (b := b) with e | e | e
    · exact absurd e h0
    · rw [show x2a (opSearch u v a b).1 = nB from by rw [e]; rfl]
      refine ax_catch (pc' := 15) (name := nB) C [] ⟨0, 12, 15, 21⟩ [⟨0, 12, 19, 13⟩] (ht.trans rfl) (fun y hy => absurd hy List.not_mem_nil) (by decide) (by decide) h_L_21 (ws_of 390 (by decide +kernel)) rfl (fun q => ?_)
      refine aw_astore (ls' := [(5, _), (0, _), (1, _), (2, _), (3, _), (4, _)]) C dL_search_15 (by decide) rfl rfl ?_
      refine aw_iconst (v := 1) C dL_search_17 rfl rfl ?_
      exact aw_iret C rfl (Nat.le_of_ble_eq_true rfl) (Nat.le_of_ble_eq_true rfl) (HP.of1 e h0 hC) dL_search_18
    · rw [show x2a (opSearch u v a b).1 = nAr from by rw [e]; rfl]
      refine ax_catch (pc' := 19) (name := nAr) C [⟨0, 12, 15, 21⟩] ⟨0, 12, 19, 13⟩ [] (ht.trans rfl) (fun y hy => by
          rw [List.mem_singleton.mp hy]
          exact Or.inr ⟨by decide, nB, h_L_21, hN.2.1⟩) (by decide) (by decide) h_L_13 (ws_of 199 (by decide +kernel)) rfl (fun q => ?_)
      refine aw_astore (ls' := [(5, _), (0, _), (1, _), (2, _), (3, _), (4, _)]) C dL_search_19 (by decide) rfl rfl ?_
      refine aw_iconst (v := 2) C dL_search_21 rfl rfl ?_
      exact aw_iret C rfl (Nat.le_of_ble_eq_true rfl) (Nat.le_of_ble_eq_true rfl) (HP.of1 e h0 hC) dL_search_22
  obtain ⟨h0, rfl, hC⟩ := hq
  refine aw_i2l C dL_search_10 rfl ?_
  refine aw_last (N := 1) C (out_C hS ho hC.fr) (show vp_in (0 : Int32) 1 from vp_in_nI (n := 0) (by decide) (by decide)) dL_search_11 rfl ?_
  refine aw_goto (tgt := 23) C dL_search_12 (by decide) ?_
  refine aw_iconst (v := 0) C dL_search_23 rfl rfl ?_
  exact aw_iret C rfl (Nat.le_of_ble_eq_true rfl) (Nat.le_of_ble_eq_true rfl) (HP.of0 h0 hC) dL_search_24
theorem oc_Pledge {u : MU} {v w : Int32} : (opPledge u v w).1 = 0 ∨ (opPledge u v w).1 = 1 := by
  unfold opPledge
  repeat' split
  all_goals simp
theorem kL_pledge : KSW RL 199 yL_pledge cL_pledge 5 (some .int) [(0, 10, 13, 21)] 4 := ⟨ws_of 1162 (by decide +kernel), h_ini_L, ⟨⟨by decide, by decide⟩, by decide +kernel⟩, ws_of 1160 (by decide +kernel), ws_of 1161 (by decide +kernel)⟩
set_option maxRecDepth 100000 in
theorem H_pledge {g : Gx} {l : Launch} {ez : Nat} (GL : GLk g l ez) {sg : Sg} {ad : Nat → Nat → Nat} {u : MU} {Y : GS} (hS : CS g ez ad u Y sg) {N : Nat} (hI : CI N u) {v w : Int32} {ao : Nat} {F : Nat → Int64} (ho : sg ao = some (arJ g 1 F)) : MMW g l yL_pledge cL_pledge 5 (some .int) [(0, 10, 13, 21)] rmH sg [.ref (ad 0 0), .int v, .int w, .ref ao] (HP g ez ad u Y sg ao F vL (opPledge u v w)) noX := by
  have G := GL.1
  refine MMW.of G.1 G.2.1 (by decide) (Nat.le_of_ble_eq_true rfl) (fun x hg hlx C ht hargs => ?_)
  subst hg; subst hlx
  have C : AWC x cL_pledge 5 RL rmH (some .int) := C
  have hN : XNC x.s := GL.2 _ C.env.2.2
  show AW x (RQ x _ _ _ _) 0 0 sg 0 [(0, .ref (ad 0 0)), (1, .int v), (2, .int w), (3, .ref ao)] []
  refine aw_aload_n C dL_pledge_0 rfl rfl rfl ?_
  refine aw_iconst (v := 0) C dL_pledge_1 rfl rfl ?_
  refine aw_aload_n C dL_pledge_2 rfl rfl rfl ?_
  refine aw_iload_n C dL_pledge_3 rfl rfl rfl ?_
  refine aw_iload_n C dL_pledge_4 rfl rfl rfl ?_
  refine aw_callV C k_L_95 (F_pledge G hS hI (v := v) (w := w)) ⟨by decide, by decide⟩ (ci := 10) rfl hS.O rfl rfl (Nat.le_of_ble_eq_true rfl) (Nat.le_of_ble_eq_true rfl) (Nat.le_of_ble_eq_true rfl) dL_pledge_5 rfl (fun E s1 hx => ?_) (fun v1 s1 hq => ?_)
  · obtain ⟨h0, rfl, hC⟩ := hx
    rcases oc_Pledge (u := u) (v := v) (w := w) with e | e
    · exact absurd e h0
    · rw [show x1b (opPledge u v w).1 = nB from by rw [e]; rfl]
      refine ax_catch (pc' := 13) (name := nB) C [] ⟨0, 10, 13, 21⟩ [] (ht.trans rfl) (fun y hy => absurd hy List.not_mem_nil) (by decide) (by decide) h_L_21 (ws_of 390 (by decide +kernel)) rfl (fun q => ?_)
      refine aw_astore (ls' := [(4, _), (0, _), (1, _), (2, _), (3, _)]) C dL_pledge_13 (by decide) rfl rfl ?_
      refine aw_iconst (v := 1) C dL_pledge_15 rfl rfl ?_
      exact aw_iret C rfl (Nat.le_of_ble_eq_true rfl) (Nat.le_of_ble_eq_true rfl) (HP.of1 e h0 hC) dL_pledge_16
  obtain ⟨h0, rfl, hC⟩ := hq
  refine aw_i2l C dL_pledge_8 rfl ?_
  refine aw_last (N := 1) C (out_C hS ho hC.fr) (show vp_in (0 : Int32) 1 from vp_in_nI (n := 0) (by decide) (by decide)) dL_pledge_9 rfl ?_
  refine aw_goto (tgt := 17) C dL_pledge_10 (by decide) ?_
  refine aw_iconst (v := 0) C dL_pledge_17 rfl rfl ?_
  exact aw_iret C rfl (Nat.le_of_ble_eq_true rfl) (Nat.le_of_ble_eq_true rfl) (HP.of0 h0 hC) dL_pledge_18
theorem oc_Share {u : MU} {v w : Int32} {fl : Bool} : (opShare u v w fl).1 = 0 ∨ (opShare u v w fl).1 = 1 := by
  unfold opShare
  repeat' split
  all_goals simp
theorem kL_share : KSW RL 202 yL_share cL_share 6 (some .int) [(0, 12, 15, 21)] 5 := ⟨ws_of 1170 (by decide +kernel), h_ini_L, ⟨⟨by decide, by decide⟩, by decide +kernel⟩, ws_of 1168 (by decide +kernel), ws_of 1169 (by decide +kernel)⟩
set_option maxRecDepth 100000 in
theorem H_share {g : Gx} {l : Launch} {ez : Nat} (GL : GLk g l ez) {sg : Sg} {ad : Nat → Nat → Nat} {u : MU} {Y : GS} (hS : CS g ez ad u Y sg) {N : Nat} (hI : CI N u) {v w : Int32} {fl : Bool} {ao : Nat} {F : Nat → Int64} (ho : sg ao = some (arJ g 1 F)) : MMW g l yL_share cL_share 6 (some .int) [(0, 12, 15, 21)] rmH sg [.ref (ad 0 0), .int v, .int w, .int (b2i fl), .ref ao] (HP g ez ad u Y sg ao F vL (opShare u v w fl)) noX := by
  have G := GL.1
  refine MMW.of G.1 G.2.1 (by decide) (Nat.le_of_ble_eq_true rfl) (fun x hg hlx C ht hargs => ?_)
  subst hg; subst hlx
  have C : AWC x cL_share 6 RL rmH (some .int) := C
  have hN : XNC x.s := GL.2 _ C.env.2.2
  show AW x (RQ x _ _ _ _) 0 0 sg 0 [(0, .ref (ad 0 0)), (1, .int v), (2, .int w), (3, .int (b2i fl)), (4, .ref ao)] []
  refine aw_aload C dL_share_0 rfl rfl ?_
  refine aw_iconst (v := 0) C dL_share_2 rfl rfl ?_
  refine aw_aload_n C dL_share_3 rfl rfl rfl ?_
  refine aw_iload_n C dL_share_4 rfl rfl rfl ?_
  refine aw_iload_n C dL_share_5 rfl rfl rfl ?_
  refine aw_iload_n C dL_share_6 rfl rfl rfl ?_
  refine aw_callV C k_L_98 (F_share G hS hI (v := v) (w := w) (fl := fl)) ⟨by decide, by decide⟩ (ci := 10) rfl hS.O rfl rfl (Nat.le_of_ble_eq_true rfl) (Nat.le_of_ble_eq_true rfl) (Nat.le_of_ble_eq_true rfl) dL_share_7 rfl (fun E s1 hx => ?_) (fun v1 s1 hq => ?_)
  · obtain ⟨h0, rfl, hC⟩ := hx
    rcases oc_Share (u := u) (v := v) (w := w) (fl := fl) with e | e
    · exact absurd e h0
    · rw [show x1b (opShare u v w fl).1 = nB from by rw [e]; rfl]
      refine ax_catch (pc' := 15) (name := nB) C [] ⟨0, 12, 15, 21⟩ [] (ht.trans rfl) (fun y hy => absurd hy List.not_mem_nil) (by decide) (by decide) h_L_21 (ws_of 390 (by decide +kernel)) rfl (fun q => ?_)
      refine aw_astore (ls' := [(5, _), (0, _), (1, _), (2, _), (3, _), (4, _)]) C dL_share_15 (by decide) rfl rfl ?_
      refine aw_iconst (v := 1) C dL_share_17 rfl rfl ?_
      exact aw_iret C rfl (Nat.le_of_ble_eq_true rfl) (Nat.le_of_ble_eq_true rfl) (HP.of1 e h0 hC) dL_share_18
  obtain ⟨h0, rfl, hC⟩ := hq
  refine aw_i2l C dL_share_10 rfl ?_
  refine aw_last (N := 1) C (out_C hS ho hC.fr) (show vp_in (0 : Int32) 1 from vp_in_nI (n := 0) (by decide) (by decide)) dL_share_11 rfl ?_
  refine aw_goto (tgt := 19) C dL_share_12 (by decide) ?_
  refine aw_iconst (v := 0) C dL_share_19 rfl rfl ?_
  exact aw_iret C rfl (Nat.le_of_ble_eq_true rfl) (Nat.le_of_ble_eq_true rfl) (HP.of0 h0 hC) dL_share_20
theorem kL_shareAnew : KSW RL 206 yL_shareAnew cL_shareAnew 6 (some .int) [(0, 12, 15, 21)] 5 := ⟨ws_of 1185 (by decide +kernel), h_ini_L, ⟨⟨by decide, by decide⟩, by decide +kernel⟩, ws_of 1183 (by decide +kernel), ws_of 1184 (by decide +kernel)⟩
set_option maxRecDepth 100000 in
theorem H_shareAnew {g : Gx} {l : Launch} {ez : Nat} (GL : GLk g l ez) {sg : Sg} {ad : Nat → Nat → Nat} {u : MU} {Y : GS} (hS : CS g ez ad u Y sg) {N : Nat} (hI : CI N u) (hR : RP u Y) {v w : Int32} {fl : Bool} {ao : Nat} {F : Nat → Int64} (ho : sg ao = some (arJ g 1 F)) : MMW g l yL_shareAnew cL_shareAnew 6 (some .int) [(0, 12, 15, 21)] rmH sg [.ref (ad 0 0), .int v, .int w, .int (b2i fl), .ref ao] (HP g ez ad u Y sg ao F vL (opShare u v w fl)) noX := by
  have G := GL.1
  refine MMW.of G.1 G.2.1 (by decide) (Nat.le_of_ble_eq_true rfl) (fun x hg hlx C ht hargs => ?_)
  subst hg; subst hlx
  have C : AWC x cL_shareAnew 6 RL rmH (some .int) := C
  have hN : XNC x.s := GL.2 _ C.env.2.2
  show AW x (RQ x _ _ _ _) 0 0 sg 0 [(0, .ref (ad 0 0)), (1, .int v), (2, .int w), (3, .int (b2i fl)), (4, .ref ao)] []
  refine aw_aload C dL_shareAnew_0 rfl rfl ?_
  refine aw_iconst (v := 0) C dL_shareAnew_2 rfl rfl ?_
  refine aw_aload_n C dL_shareAnew_3 rfl rfl rfl ?_
  refine aw_iload_n C dL_shareAnew_4 rfl rfl rfl ?_
  refine aw_iload_n C dL_shareAnew_5 rfl rfl rfl ?_
  refine aw_iload_n C dL_shareAnew_6 rfl rfl rfl ?_
  refine aw_callV C k_L_102 (F_shareAnew G hS hI hR (v := v) (w := w) (fl := fl)) ⟨by decide, by decide⟩ (ci := 10) rfl hS.O rfl rfl (Nat.le_of_ble_eq_true rfl) (Nat.le_of_ble_eq_true rfl) (Nat.le_of_ble_eq_true rfl) dL_shareAnew_7 rfl (fun E s1 hx => ?_) (fun v1 s1 hq => ?_)
  · obtain ⟨h0, rfl, hC⟩ := hx
    rcases oc_Share (u := u) (v := v) (w := w) (fl := fl) with e | e
    · exact absurd e h0
    · rw [show x1b (opShare u v w fl).1 = nB from by rw [e]; rfl]
      refine ax_catch (pc' := 15) (name := nB) C [] ⟨0, 12, 15, 21⟩ [] (ht.trans rfl) (fun y hy => absurd hy List.not_mem_nil) (by decide) (by decide) h_L_21 (ws_of 390 (by decide +kernel)) rfl (fun q => ?_)
      refine aw_astore (ls' := [(5, _), (0, _), (1, _), (2, _), (3, _), (4, _)]) C dL_shareAnew_15 (by decide) rfl rfl ?_
      refine aw_iconst (v := 1) C dL_shareAnew_17 rfl rfl ?_
      exact aw_iret C rfl (Nat.le_of_ble_eq_true rfl) (Nat.le_of_ble_eq_true rfl) (HP.of1 e h0 hC) dL_shareAnew_18
  obtain ⟨h0, rfl, hC⟩ := hq
  refine aw_i2l C dL_shareAnew_10 rfl ?_
  refine aw_last (N := 1) C (out_C hS ho hC.fr) (show vp_in (0 : Int32) 1 from vp_in_nI (n := 0) (by decide) (by decide)) dL_shareAnew_11 rfl ?_
  refine aw_goto (tgt := 19) C dL_shareAnew_12 (by decide) ?_
  refine aw_iconst (v := 0) C dL_shareAnew_19 rfl rfl ?_
  exact aw_iret C rfl (Nat.le_of_ble_eq_true rfl) (Nat.le_of_ble_eq_true rfl) (HP.of0 h0 hC) dL_shareAnew_20
theorem oc_Pass {u : MU} {v : Int32} : (opPass u v).1 = 0 ∨ (opPass u v).1 = 1 := by
  unfold opPass
  repeat' split
  all_goals simp
theorem kL_pass : KSW RL 214 yL_pass cL_pass 4 (some .int) [(0, 9, 12, 13)] 3 := ⟨ws_of 1193 (by decide +kernel), h_ini_L, ⟨⟨by decide, by decide⟩, by decide +kernel⟩, ws_of 1191 (by decide +kernel), ws_of 1192 (by decide +kernel)⟩
set_option maxRecDepth 100000 in
theorem H_pass {g : Gx} {l : Launch} {ez : Nat} (GL : GLk g l ez) {sg : Sg} {ad : Nat → Nat → Nat} {u : MU} {Y : GS} (hS : CS g ez ad u Y sg) {N : Nat} (hI : CI N u) {v : Int32} {ao : Nat} {F : Nat → Int64} (ho : sg ao = some (arJ g 1 F)) : MMW g l yL_pass cL_pass 4 (some .int) [(0, 9, 12, 13)] rmH sg [.ref (ad 0 0), .int v, .ref ao] (HP g ez ad u Y sg ao F vL (opPass u v)) noX := by
  have G := GL.1
  refine MMW.of G.1 G.2.1 (by decide) (Nat.le_of_ble_eq_true rfl) (fun x hg hlx C ht hargs => ?_)
  subst hg; subst hlx
  have C : AWC x cL_pass 4 RL rmH (some .int) := C
  have hN : XNC x.s := GL.2 _ C.env.2.2
  show AW x (RQ x _ _ _ _) 0 0 sg 0 [(0, .ref (ad 0 0)), (1, .int v), (2, .ref ao)] []
  refine aw_aload_n C dL_pass_0 rfl rfl rfl ?_
  refine aw_iconst (v := 0) C dL_pass_1 rfl rfl ?_
  refine aw_aload_n C dL_pass_2 rfl rfl rfl ?_
  refine aw_iload_n C dL_pass_3 rfl rfl rfl ?_
  refine aw_callV C k_L_105 (F_pass G hS hI (v := v)) ⟨by decide, by decide⟩ (ci := 10) rfl hS.O rfl rfl (Nat.le_of_ble_eq_true rfl) (Nat.le_of_ble_eq_true rfl) (Nat.le_of_ble_eq_true rfl) dL_pass_4 rfl (fun E s1 hx => ?_) (fun v1 s1 hq => ?_)
  · obtain ⟨h0, rfl, hC⟩ := hx
    rcases oc_Pass (u := u) (v := v) with e | e
    · exact absurd e h0
    · rw [show x1a (opPass u v).1 = nAr from by rw [e]; rfl]
      refine ax_catch (pc' := 12) (name := nAr) C [] ⟨0, 9, 12, 13⟩ [] (ht.trans rfl) (fun y hy => absurd hy List.not_mem_nil) (by decide) (by decide) h_L_13 (ws_of 199 (by decide +kernel)) rfl (fun q => ?_)
      refine aw_astore_n (ls' := [(3, _), (0, _), (1, _), (2, _)]) C dL_pass_12 rfl (by decide) rfl rfl ?_
      refine aw_iconst (v := 1) C dL_pass_13 rfl rfl ?_
      exact aw_iret C rfl (Nat.le_of_ble_eq_true rfl) (Nat.le_of_ble_eq_true rfl) (HP.of1 e h0 hC) dL_pass_14
  obtain ⟨h0, rfl, hC⟩ := hq
  refine aw_i2l C dL_pass_7 rfl ?_
  refine aw_last (N := 1) C (out_C hS ho hC.fr) (show vp_in (0 : Int32) 1 from vp_in_nI (n := 0) (by decide) (by decide)) dL_pass_8 rfl ?_
  refine aw_goto (tgt := 15) C dL_pass_9 (by decide) ?_
  refine aw_iconst (v := 0) C dL_pass_15 rfl rfl ?_
  exact aw_iret C rfl (Nat.le_of_ble_eq_true rfl) (Nat.le_of_ble_eq_true rfl) (HP.of0 h0 hC) dL_pass_16
