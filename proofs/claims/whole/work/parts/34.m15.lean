def u00 : MU := (fun _ _ => 0, fun _ _ => 0, fun _ => 0, 0, 0)
def fvl (ad : Nat → Nat) (n : Nat) : List Value := (List.range 43).map fun j => if j < n ∧ mk j ≠ 0 ∧ j ≠ 0 then .ref (ad j) else defaultValue (tyX9 j)
def INI (g : Gx) (s0 : Sg) (q0 : Nat) (sg : Sg) (ad : Nat → Nat) (n : Nat) : Prop := (ad 0 = q0) ∧ (sg q0 = some (ob 11 (fvl ad n))) ∧ (∀ k, k < n → mk k = 1 → sg (ad k) = some (arI g (mlen k) fun _ => 0)) ∧ (∀ k, k < n → mk k = 2 → sg (ad k) = some (arZ g (mlen k) fun _ => 0)) ∧ (∀ k, k < n → mk k = 3 → sg (ad k) = some (arJ g (mlen k) fun _ => 0)) ∧ (∀ i j, i < n → j < n → mk i ≠ 0 → mk j ≠ 0 → ad i = ad j → i = j) ∧ (∀ a, s0 a ≠ none → a ≠ q0 → sg a = s0 a) ∧ (∀ k, k < n → mk k ≠ 0 → k ≠ 0 → s0 (ad k) = none)
theorem INI.z0 {g : Gx} {s0 : Sg} {q0 : Nat} {sg : Sg} {ad : Nat → Nat} {n : Nat} (h : INI g s0 q0 sg ad n) : ad 0 = q0 := h.1
theorem INI.h0 {g : Gx} {s0 : Sg} {q0 : Nat} {sg : Sg} {ad : Nat → Nat} {n : Nat} (h : INI g s0 q0 sg ad n) : sg q0 = some (ob 11 (fvl ad n)) := h.2.1
theorem INI.h1 {g : Gx} {s0 : Sg} {q0 : Nat} {sg : Sg} {ad : Nat → Nat} {n : Nat} (h : INI g s0 q0 sg ad n) : ∀ k, k < n → mk k = 1 → sg (ad k) = some (arI g (mlen k) fun _ => 0) := h.2.2.1
theorem INI.h2 {g : Gx} {s0 : Sg} {q0 : Nat} {sg : Sg} {ad : Nat → Nat} {n : Nat} (h : INI g s0 q0 sg ad n) : ∀ k, k < n → mk k = 2 → sg (ad k) = some (arZ g (mlen k) fun _ => 0) := h.2.2.2.1
theorem INI.h3 {g : Gx} {s0 : Sg} {q0 : Nat} {sg : Sg} {ad : Nat → Nat} {n : Nat} (h : INI g s0 q0 sg ad n) : ∀ k, k < n → mk k = 3 → sg (ad k) = some (arJ g (mlen k) fun _ => 0) := h.2.2.2.2.1
theorem INI.inj {g : Gx} {s0 : Sg} {q0 : Nat} {sg : Sg} {ad : Nat → Nat} {n : Nat} (h : INI g s0 q0 sg ad n) : ∀ i j, i < n → j < n → mk i ≠ 0 → mk j ≠ 0 → ad i = ad j → i = j := h.2.2.2.2.2.1
theorem INI.fr {g : Gx} {s0 : Sg} {q0 : Nat} {sg : Sg} {ad : Nat → Nat} {n : Nat} (h : INI g s0 q0 sg ad n) : ∀ a, s0 a ≠ none → a ≠ q0 → sg a = s0 a := h.2.2.2.2.2.2.1
theorem INI.nw {g : Gx} {s0 : Sg} {q0 : Nat} {sg : Sg} {ad : Nat → Nat} {n : Nat} (h : INI g s0 q0 sg ad n) : ∀ k, k < n → mk k ≠ 0 → k ≠ 0 → s0 (ad k) = none := h.2.2.2.2.2.2.2
theorem fvl_skip {ad : Nat → Nat} {n : Nat} (h : mk n = 0) : fvl ad (n + 1) = fvl ad n := by
  unfold fvl
  refine List.map_congr_left fun j _ => ?_
  by_cases e : j = n
  · subst e
    rw [if_neg (fun q => q.2.1 h), if_neg (fun q => q.2.1 h)]
  · by_cases e2 : j < n ∧ mk j ≠ 0 ∧ j ≠ 0
    · rw [if_pos e2, if_pos ⟨by omega, e2.2⟩]
    · rw [if_neg e2, if_neg (fun q => e2 ⟨by omega, q.2⟩)]
theorem INI.skip {g : Gx} {s0 sg : Sg} {q0 : Nat} {ad : Nat → Nat} {n : Nat} (I : INI g s0 q0 sg ad n) (h : mk n = 0) : INI g s0 q0 sg ad (n + 1) := by
  have lt : ∀ {k}, k < n + 1 → mk k ≠ 0 → k < n := fun {k} hk hm => by
    by_cases e : k = n
    · subst e; exact absurd h hm
    · omega
  exact ⟨I.z0, by rw [fvl_skip h]; exact I.h0, fun k hk hm => I.h1 k (lt hk (by omega)) hm, fun k hk hm => I.h2 k (lt hk (by omega)) hm, fun k hk hm => I.h3 k (lt hk (by omega)) hm, fun i j hi hj mi mj => I.inj i j (lt hi mi) (lt hj mj) mi mj, I.fr, fun k hk hm h0 => I.nw k (lt hk hm) hm h0⟩
theorem fvl_set {ad : Nat → Nat} {n q : Nat} (hm : mk n ≠ 0) (h0 : n ≠ 0) : (fvl ad n).set n (.ref q) = fvl (fun k => if k = n then q else ad k) (n + 1) := by
  refine List.ext_getElem (by simp [fvl]) fun j h1 h2 => ?_
  have hj : j < 43 := by simpa [fvl] using h2
  by_cases e : n = j
  · subst e
    rw [List.getElem_set_self]
    simp [fvl, hm, h0]
  · rw [List.getElem_set_ne e]
    have e' : ¬ j = n := fun z => e z.symm
    simp only [fvl, List.getElem_map, List.getElem_range, if_neg e']
    by_cases e2 : j < n ∧ mk j ≠ 0 ∧ j ≠ 0
    · rw [if_pos e2, if_pos ⟨by omega, e2.2⟩]
    · rw [if_neg e2, if_neg (fun z => e2 ⟨by omega, z.2⟩)]
theorem INI.nq {g : Gx} {s0 sg : Sg} {q0 : Nat} {ad : Nat → Nat} {n q : Nat} (I : INI g s0 q0 sg ad n) (hq : sg q = none) : q0 ≠ q := fun z => by
  have h := I.h0
  rw [z, hq] at h
  cases h
theorem INI.step {g : Gx} {s0 sg : Sg} {q0 : Nat} {ad : Nat → Nat} {n q : Nat} {e : va_E} (I : INI g s0 q0 sg ad n) (hm : mk n ≠ 0) (hn : n ≠ 0) (hq : sg q = none)
    (he : (mk n = 1 ∧ e = arI g (mlen n) fun _ => 0) ∨ (mk n = 2 ∧ e = arZ g (mlen n) fun _ => 0) ∨ (mk n = 3 ∧ e = arJ g (mlen n) fun _ => 0)) :
    INI g s0 q0 (sgu (sgu sg q e) q0 (ob 11 (fvl (fun k => if k = n then q else ad k) (n + 1)))) (fun k => if k = n then q else ad k) (n + 1) := by
  have hq0 : q ≠ q0 := fun z => I.nq hq z.symm
  have there : ∀ k, k < n → mk k ≠ 0 → sg (ad k) ≠ none := by
    intro k hk hmk
    by_cases z : k = 0
    · rw [z, I.z0, I.h0]; exact fun z => by cases z
    · have : mk k = 1 ∨ mk k = 2 ∨ mk k = 3 := by revert hmk z; unfold mk; split <;> simp
      rcases this with c | c | c
      · rw [I.h1 k hk c]; exact fun z => by cases z
      · rw [I.h2 k hk c]; exact fun z => by cases z
      · rw [I.h3 k hk c]; exact fun z => by cases z
  have nq : ∀ k, k < n → mk k ≠ 0 → ad k ≠ q := fun k hk hmk z => there k hk hmk (z ▸ hq)
  have n0 : ∀ k, k < n → mk k ≠ 0 → k ≠ 0 → ad k ≠ q0 := fun k hk hmk z w => z (I.inj k 0 hk (by omega) hmk (by decide) (w.trans I.z0.symm))
  have get : ∀ k, k < n + 1 → mk k ≠ 0 → k ≠ 0 → (sgu (sgu sg q e) q0 (ob 11 (fvl (fun k => if k = n then q else ad k) (n + 1)))) (if k = n then q else ad k) = if k = n then some e else sg (ad k) := by
    intro k hk hmk hk0
    by_cases z : k = n
    · rw [if_pos z, if_pos z, sgu_n hq0, sgu_s]
    · rw [if_neg z, if_neg z, sgu_n (n0 k (by omega) hmk hk0), sgu_n (nq k (by omega) hmk)]
  refine ⟨?_, sgu_s, fun k hk c => ?_, fun k hk c => ?_, fun k hk c => ?_, fun i j hi hj mi mj w => ?_, fun a ha hb => ?_, fun k hk c h0 => ?_⟩
  · show (if 0 = n then q else ad 0) = q0
    rw [if_neg (fun z => hn z.symm)]
    exact I.z0
  · show _ = _
    refine (get k hk (by omega) (fun z => by subst z; cases c)).trans ?_
    split
    · next z =>
      subst z
      rcases he with h | h | h
      · exact congrArg some h.2
      · omega
      · omega
    · exact I.h1 k (by omega) c
  · refine (get k hk (by omega) (fun z => by subst z; cases c)).trans ?_
    split
    · next z =>
      subst z
      rcases he with h | h | h
      · omega
      · exact congrArg some h.2
      · omega
    · exact I.h2 k (by omega) c
  · refine (get k hk (by omega) (fun z => by subst z; cases c)).trans ?_
    split
    · next z =>
      subst z
      rcases he with h | h | h
      · omega
      · omega
      · exact congrArg some h.2
    · exact I.h3 k (by omega) c
  · have w : (if i = n then q else ad i) = (if j = n then q else ad j) := w
    by_cases zi : i = n
    · by_cases zj : j = n
      · omega
      · rw [if_pos zi, if_neg zj] at w
        exact absurd w.symm (nq j (by omega) mj)
    · by_cases zj : j = n
      · rw [if_neg zi, if_pos zj] at w
        exact absurd w (nq i (by omega) mi)
      · rw [if_neg zi, if_neg zj] at w
        exact I.inj i j (by omega) (by omega) mi mj w
  · have hs := I.fr a ha hb
    rw [sgu_n hb, sgu_n (fun z => by rw [z] at hs; exact ha (z ▸ hs ▸ hq))]
    exact hs
  · show s0 (if k = n then q else ad k) = none
    by_cases z : k = n
    · rw [if_pos z]
      by_cases w : s0 q = none
      · exact w
      · have h := I.fr q w hq0
        rw [hq] at h
        exact h.symm
    · rw [if_neg z]
      exact I.nw k (by omega) c h0
theorem INI.zero {g : Gx} {sg : Sg} {q0 : Nat} (hs : sg q0 = some (ob 11 (fvl (fun _ => q0) 3))) : INI g sg q0 sg (fun _ => q0) 3 := by
  have small : ∀ k, k < 3 → mk k ≠ 0 → k = 0 := by
    intro k hk
    match k, hk with
    | 0, _ => exact fun _ => rfl
    | 1, _ => exact fun h => absurd rfl h
    | 2, _ => exact fun h => absurd rfl h
  refine ⟨rfl, hs, fun k hk c => ?_, fun k hk c => ?_, fun k hk c => ?_, fun i j hi hj mi mj _ => (small i hi mi).trans (small j hj mj).symm, fun _ _ _ => rfl, fun k hk c h0 => absurd (small k hk c) h0⟩
  · have h := small k hk (by omega)
    subst h
    cases c
  · have h := small k hk (by omega)
    subst h
    cases c
  · have h := small k hk (by omega)
    subst h
    cases c
theorem ini_go {P : Sg → Prop} {g : Gx} {s0 sg : Sg} {q0 n : Nat} {ad : Nat → Nat} (I : INI g s0 q0 sg ad n) (kk : ∀ sg ad, INI g s0 q0 sg ad n → P sg) : P sg := kk sg ad I
theorem mk_lt {k : Nat} (h : mk k ≠ 0) : k < 43 := by
  revert h
  unfold mk
  split <;> simp
theorem INI.done {g : Gx} {s0 sg : Sg} {q0 : Nat} {ad : Nat → Nat} (I : INI g s0 q0 sg ad 43) : MS g ad 0 u00 sg := by
  refine ⟨?_, fun k hk => I.h1 k (mk_lt (by omega)) hk, fun k hk => I.h2 k (mk_lt (by omega)) hk, fun k hk => I.h3 k (mk_lt (by omega)) hk, fun i j mi mj w => I.inj i j (mk_lt mi) (mk_lt mj) mi mj w⟩
  rw [I.z0]
  exact I.h0
abbrev rmI9 : Room := { frames := 1, cells := 35, slots := 2240, locals := 40 }
set_option maxRecDepth 100000 in
set_option maxHeartbeats 4000000 in
theorem M_mInit {g : Gx} {l : Launch} (hl : l.flags = flags0) (hst : g.Stable) {sg : Sg} {q0 : Nat} (hs : sg q0 = some (ob 11 (fvl (fun _ => q0) 3))) : MM g l yX9_init cX9_init 1 none rmI9 sg [.ref q0] (fun v s' => v = none ∧ ∃ ad : Nat → Nat, ad 0 = q0 ∧ MS g ad 0 u00 s' ∧ (∀ a, sg a ≠ none → a ≠ q0 → s' a = sg a) ∧ ∀ k, mk k ≠ 0 → k ≠ 0 → sg (ad k) = none) noX := by
  refine MM.of hl hst (by decide) (Nat.le_of_ble_eq_true rfl) (fun x hg hlx C hin hout hargs => ?_)
  subst hg; subst hlx
  have C : AWC x cX9_init 1 RX9 rmI9 none := C
  show AW x (RQ x _ _ _ _) 0 0 sg 0 [(0, .ref q0)] []
  refine aw_aload_n C dX9_init_0 rfl rfl rfl ?_
  refine aw_objI C (ws_of 1204 (by decide +kernel)) (ws_of 109 (by decide +kernel)) (ws_of 110 (by decide +kernel)) (by decide) (by decide) dX9_init_1 rfl ?_
  refine ini_go (P := fun sg => AW x _ 0 0 sg 4 [(0, .ref q0)] []) (INI.zero (g := x.g) hs) (fun sg ad I => ?_)
  refine aw_aload_n C dX9_init_4 rfl rfl rfl ?_
  refine aw_bipush (v := 12) C dX9_init_5 rfl rfl ?_
  refine aw_newarr (atype := .int) (t0 := 0) (cA0 := x.g.ca 0) (ty := .int) (N := 12) (a0 := (12, .inl fun _ => 0)) C h_arr_int rfl rfl (fun o h => by cases h) (fun _ => rfl) (by decide) rfl (by decide) (by decide) (by decide) dX9_init_7 rfl (fun q hq => ?_)
  refine aw_putF (kf := 3) C hin cf_X9 (by decide) (ws_of 1208 (by decide +kernel)) rfl rfl ((sgu_n (I.nq hq)).trans I.h0) rfl rfl (by simp [fvl]) (fvl_set (by decide) (by decide)) dX9_init_9 rfl ?_
  refine ini_go (P := fun sg => AW x _ 1 12 sg 12 [(0, .ref q0)] []) (I.step (by decide) (by decide) hq (Or.inl ⟨rfl, rfl⟩)) (fun sg ad I => ?_)
  refine aw_aload_n C dX9_init_12 rfl rfl rfl ?_
  refine aw_bipush (v := 12) C dX9_init_13 rfl rfl ?_
  refine aw_newarr (atype := .int) (t0 := 0) (cA0 := x.g.ca 0) (ty := .int) (N := 12) (a0 := (12, .inl fun _ => 0)) C h_arr_int rfl rfl (fun o h => by cases h) (fun _ => rfl) (by decide) rfl (by decide) (by decide) (by decide) dX9_init_15 rfl (fun q hq => ?_)
  refine aw_putF (kf := 4) C hin cf_X9 (by decide) (ws_of 1209 (by decide +kernel)) rfl rfl ((sgu_n (I.nq hq)).trans I.h0) rfl rfl (by simp [fvl]) (fvl_set (by decide) (by decide)) dX9_init_17 rfl ?_
  refine ini_go (P := fun sg => AW x _ 2 24 sg 20 [(0, .ref q0)] []) (I.step (by decide) (by decide) hq (Or.inl ⟨rfl, rfl⟩)) (fun sg ad I => ?_)
  refine aw_aload_n C dX9_init_20 rfl rfl rfl ?_
  refine aw_bipush (v := 12) C dX9_init_21 rfl rfl ?_
  refine aw_newarr (atype := .boolean) (t0 := 1) (cA0 := x.g.ca 1) (ty := .boolean) (N := 12) (a0 := (12, .inl fun _ => 0)) C h_arr_boolean rfl rfl (fun o h => by cases h) (fun _ => rfl) (by decide) rfl (by decide) (by decide) (by decide) dX9_init_23 rfl (fun q hq => ?_)
  refine aw_putF (kf := 5) C hin cf_X9 (by decide) (ws_of 1210 (by decide +kernel)) rfl rfl ((sgu_n (I.nq hq)).trans I.h0) rfl rfl (by simp [fvl]) (fvl_set (by decide) (by decide)) dX9_init_25 rfl ?_
  refine ini_go (P := fun sg => AW x _ 3 36 sg 28 [(0, .ref q0)] []) (I.step (by decide) (by decide) hq (Or.inr (Or.inl ⟨rfl, rfl⟩))) (fun sg ad I => ?_)
  refine aw_aload_n C dX9_init_28 rfl rfl rfl ?_
  refine aw_bipush (v := 12) C dX9_init_29 rfl rfl ?_
  refine aw_newarr (atype := .boolean) (t0 := 1) (cA0 := x.g.ca 1) (ty := .boolean) (N := 12) (a0 := (12, .inl fun _ => 0)) C h_arr_boolean rfl rfl (fun o h => by cases h) (fun _ => rfl) (by decide) rfl (by decide) (by decide) (by decide) dX9_init_31 rfl (fun q hq => ?_)
  refine aw_putF (kf := 6) C hin cf_X9 (by decide) (ws_of 1211 (by decide +kernel)) rfl rfl ((sgu_n (I.nq hq)).trans I.h0) rfl rfl (by simp [fvl]) (fvl_set (by decide) (by decide)) dX9_init_33 rfl ?_
  refine ini_go (P := fun sg => AW x _ 4 48 sg 36 [(0, .ref q0)] []) (I.step (by decide) (by decide) hq (Or.inr (Or.inl ⟨rfl, rfl⟩))) (fun sg ad I => ?_)
  refine aw_aload_n C dX9_init_36 rfl rfl rfl ?_
  refine aw_bipush (v := 24) C dX9_init_37 rfl rfl ?_
  refine aw_newarr (atype := .int) (t0 := 0) (cA0 := x.g.ca 0) (ty := .int) (N := 24) (a0 := (24, .inl fun _ => 0)) C h_arr_int rfl rfl (fun o h => by cases h) (fun _ => rfl) (by decide) rfl (by decide) (by decide) (by decide) dX9_init_39 rfl (fun q hq => ?_)
  refine aw_putF (kf := 7) C hin cf_X9 (by decide) (ws_of 1212 (by decide +kernel)) rfl rfl ((sgu_n (I.nq hq)).trans I.h0) rfl rfl (by simp [fvl]) (fvl_set (by decide) (by decide)) dX9_init_41 rfl ?_
  refine ini_go (P := fun sg => AW x _ 5 72 sg 44 [(0, .ref q0)] []) (I.step (by decide) (by decide) hq (Or.inl ⟨rfl, rfl⟩)) (fun sg ad I => ?_)
  refine aw_aload_n C dX9_init_44 rfl rfl rfl ?_
  refine aw_bipush (v := 12) C dX9_init_45 rfl rfl ?_
  refine aw_newarr (atype := .int) (t0 := 0) (cA0 := x.g.ca 0) (ty := .int) (N := 12) (a0 := (12, .inl fun _ => 0)) C h_arr_int rfl rfl (fun o h => by cases h) (fun _ => rfl) (by decide) rfl (by decide) (by decide) (by decide) dX9_init_47 rfl (fun q hq => ?_)
  refine aw_putF (kf := 8) C hin cf_X9 (by decide) (ws_of 1213 (by decide +kernel)) rfl rfl ((sgu_n (I.nq hq)).trans I.h0) rfl rfl (by simp [fvl]) (fvl_set (by decide) (by decide)) dX9_init_49 rfl ?_
  refine ini_go (P := fun sg => AW x _ 6 84 sg 52 [(0, .ref q0)] []) (I.step (by decide) (by decide) hq (Or.inl ⟨rfl, rfl⟩)) (fun sg ad I => ?_)
  refine aw_aload_n C dX9_init_52 rfl rfl rfl ?_
  refine aw_bipush (v := 12) C dX9_init_53 rfl rfl ?_
  refine aw_newarr (atype := .int) (t0 := 0) (cA0 := x.g.ca 0) (ty := .int) (N := 12) (a0 := (12, .inl fun _ => 0)) C h_arr_int rfl rfl (fun o h => by cases h) (fun _ => rfl) (by decide) rfl (by decide) (by decide) (by decide) dX9_init_55 rfl (fun q hq => ?_)
  refine aw_putF (kf := 9) C hin cf_X9 (by decide) (ws_of 1214 (by decide +kernel)) rfl rfl ((sgu_n (I.nq hq)).trans I.h0) rfl rfl (by simp [fvl]) (fvl_set (by decide) (by decide)) dX9_init_57 rfl ?_
  refine ini_go (P := fun sg => AW x _ 7 96 sg 60 [(0, .ref q0)] []) (I.step (by decide) (by decide) hq (Or.inl ⟨rfl, rfl⟩)) (fun sg ad I => ?_)
  have I := I.skip rfl
  refine aw_aload_n C dX9_init_60 rfl rfl rfl ?_
  refine aw_bipush (v := 60) C dX9_init_61 rfl rfl ?_
  refine aw_newarr (atype := .int) (t0 := 0) (cA0 := x.g.ca 0) (ty := .int) (N := 60) (a0 := (60, .inl fun _ => 0)) C h_arr_int rfl rfl (fun o h => by cases h) (fun _ => rfl) (by decide) rfl (by decide) (by decide) (by decide) dX9_init_63 rfl (fun q hq => ?_)
  refine aw_putF (kf := 11) C hin cf_X9 (by decide) (ws_of 1216 (by decide +kernel)) rfl rfl ((sgu_n (I.nq hq)).trans I.h0) rfl rfl (by simp [fvl]) (fvl_set (by decide) (by decide)) dX9_init_65 rfl ?_
  refine ini_go (P := fun sg => AW x _ 8 156 sg 68 [(0, .ref q0)] []) (I.step (by decide) (by decide) hq (Or.inl ⟨rfl, rfl⟩)) (fun sg ad I => ?_)
  refine aw_aload_n C dX9_init_68 rfl rfl rfl ?_
  refine aw_bipush (v := 60) C dX9_init_69 rfl rfl ?_
  refine aw_newarr (atype := .int) (t0 := 0) (cA0 := x.g.ca 0) (ty := .int) (N := 60) (a0 := (60, .inl fun _ => 0)) C h_arr_int rfl rfl (fun o h => by cases h) (fun _ => rfl) (by decide) rfl (by decide) (by decide) (by decide) dX9_init_71 rfl (fun q hq => ?_)
  refine aw_putF (kf := 12) C hin cf_X9 (by decide) (ws_of 1217 (by decide +kernel)) rfl rfl ((sgu_n (I.nq hq)).trans I.h0) rfl rfl (by simp [fvl]) (fvl_set (by decide) (by decide)) dX9_init_73 rfl ?_
  refine ini_go (P := fun sg => AW x _ 9 216 sg 76 [(0, .ref q0)] []) (I.step (by decide) (by decide) hq (Or.inl ⟨rfl, rfl⟩)) (fun sg ad I => ?_)
  refine aw_aload_n C dX9_init_76 rfl rfl rfl ?_
  refine aw_bipush (v := 60) C dX9_init_77 rfl rfl ?_
  refine aw_newarr (atype := .int) (t0 := 0) (cA0 := x.g.ca 0) (ty := .int) (N := 60) (a0 := (60, .inl fun _ => 0)) C h_arr_int rfl rfl (fun o h => by cases h) (fun _ => rfl) (by decide) rfl (by decide) (by decide) (by decide) dX9_init_79 rfl (fun q hq => ?_)
  refine aw_putF (kf := 13) C hin cf_X9 (by decide) (ws_of 1218 (by decide +kernel)) rfl rfl ((sgu_n (I.nq hq)).trans I.h0) rfl rfl (by simp [fvl]) (fvl_set (by decide) (by decide)) dX9_init_81 rfl ?_
  refine ini_go (P := fun sg => AW x _ 10 276 sg 84 [(0, .ref q0)] []) (I.step (by decide) (by decide) hq (Or.inl ⟨rfl, rfl⟩)) (fun sg ad I => ?_)
  refine aw_aload_n C dX9_init_84 rfl rfl rfl ?_
  refine aw_bipush (v := 60) C dX9_init_85 rfl rfl ?_
  refine aw_newarr (atype := .int) (t0 := 0) (cA0 := x.g.ca 0) (ty := .int) (N := 60) (a0 := (60, .inl fun _ => 0)) C h_arr_int rfl rfl (fun o h => by cases h) (fun _ => rfl) (by decide) rfl (by decide) (by decide) (by decide) dX9_init_87 rfl (fun q hq => ?_)
  refine aw_putF (kf := 14) C hin cf_X9 (by decide) (ws_of 1219 (by decide +kernel)) rfl rfl ((sgu_n (I.nq hq)).trans I.h0) rfl rfl (by simp [fvl]) (fvl_set (by decide) (by decide)) dX9_init_89 rfl ?_
  refine ini_go (P := fun sg => AW x _ 11 336 sg 92 [(0, .ref q0)] []) (I.step (by decide) (by decide) hq (Or.inl ⟨rfl, rfl⟩)) (fun sg ad I => ?_)
  refine aw_aload_n C dX9_init_92 rfl rfl rfl ?_
  refine aw_bipush (v := 60) C dX9_init_93 rfl rfl ?_
  refine aw_newarr (atype := .int) (t0 := 0) (cA0 := x.g.ca 0) (ty := .int) (N := 60) (a0 := (60, .inl fun _ => 0)) C h_arr_int rfl rfl (fun o h => by cases h) (fun _ => rfl) (by decide) rfl (by decide) (by decide) (by decide) dX9_init_95 rfl (fun q hq => ?_)
  refine aw_putF (kf := 15) C hin cf_X9 (by decide) (ws_of 1220 (by decide +kernel)) rfl rfl ((sgu_n (I.nq hq)).trans I.h0) rfl rfl (by simp [fvl]) (fvl_set (by decide) (by decide)) dX9_init_97 rfl ?_
  refine ini_go (P := fun sg => AW x _ 12 396 sg 100 [(0, .ref q0)] []) (I.step (by decide) (by decide) hq (Or.inl ⟨rfl, rfl⟩)) (fun sg ad I => ?_)
  refine aw_aload_n C dX9_init_100 rfl rfl rfl ?_
  refine aw_bipush (v := 60) C dX9_init_101 rfl rfl ?_
  refine aw_newarr (atype := .int) (t0 := 0) (cA0 := x.g.ca 0) (ty := .int) (N := 60) (a0 := (60, .inl fun _ => 0)) C h_arr_int rfl rfl (fun o h => by cases h) (fun _ => rfl) (by decide) rfl (by decide) (by decide) (by decide) dX9_init_103 rfl (fun q hq => ?_)
  refine aw_putF (kf := 16) C hin cf_X9 (by decide) (ws_of 1221 (by decide +kernel)) rfl rfl ((sgu_n (I.nq hq)).trans I.h0) rfl rfl (by simp [fvl]) (fvl_set (by decide) (by decide)) dX9_init_105 rfl ?_
  refine ini_go (P := fun sg => AW x _ 13 456 sg 108 [(0, .ref q0)] []) (I.step (by decide) (by decide) hq (Or.inl ⟨rfl, rfl⟩)) (fun sg ad I => ?_)
  refine aw_aload_n C dX9_init_108 rfl rfl rfl ?_
  refine aw_bipush (v := 60) C dX9_init_109 rfl rfl ?_
  refine aw_newarr (atype := .int) (t0 := 0) (cA0 := x.g.ca 0) (ty := .int) (N := 60) (a0 := (60, .inl fun _ => 0)) C h_arr_int rfl rfl (fun o h => by cases h) (fun _ => rfl) (by decide) rfl (by decide) (by decide) (by decide) dX9_init_111 rfl (fun q hq => ?_)
  refine aw_putF (kf := 17) C hin cf_X9 (by decide) (ws_of 1222 (by decide +kernel)) rfl rfl ((sgu_n (I.nq hq)).trans I.h0) rfl rfl (by simp [fvl]) (fvl_set (by decide) (by decide)) dX9_init_113 rfl ?_
  refine ini_go (P := fun sg => AW x _ 14 516 sg 116 [(0, .ref q0)] []) (I.step (by decide) (by decide) hq (Or.inl ⟨rfl, rfl⟩)) (fun sg ad I => ?_)
  refine aw_aload_n C dX9_init_116 rfl rfl rfl ?_
  refine aw_bipush (v := 60) C dX9_init_117 rfl rfl ?_
  refine aw_newarr (atype := .boolean) (t0 := 1) (cA0 := x.g.ca 1) (ty := .boolean) (N := 60) (a0 := (60, .inl fun _ => 0)) C h_arr_boolean rfl rfl (fun o h => by cases h) (fun _ => rfl) (by decide) rfl (by decide) (by decide) (by decide) dX9_init_119 rfl (fun q hq => ?_)
  refine aw_putF (kf := 18) C hin cf_X9 (by decide) (ws_of 1223 (by decide +kernel)) rfl rfl ((sgu_n (I.nq hq)).trans I.h0) rfl rfl (by simp [fvl]) (fvl_set (by decide) (by decide)) dX9_init_121 rfl ?_
  refine ini_go (P := fun sg => AW x _ 15 576 sg 124 [(0, .ref q0)] []) (I.step (by decide) (by decide) hq (Or.inr (Or.inl ⟨rfl, rfl⟩))) (fun sg ad I => ?_)
  refine aw_aload_n C dX9_init_124 rfl rfl rfl ?_
  refine aw_bipush (v := 60) C dX9_init_125 rfl rfl ?_
  refine aw_newarr (atype := .int) (t0 := 0) (cA0 := x.g.ca 0) (ty := .int) (N := 60) (a0 := (60, .inl fun _ => 0)) C h_arr_int rfl rfl (fun o h => by cases h) (fun _ => rfl) (by decide) rfl (by decide) (by decide) (by decide) dX9_init_127 rfl (fun q hq => ?_)
  refine aw_putF (kf := 19) C hin cf_X9 (by decide) (ws_of 1224 (by decide +kernel)) rfl rfl ((sgu_n (I.nq hq)).trans I.h0) rfl rfl (by simp [fvl]) (fvl_set (by decide) (by decide)) dX9_init_129 rfl ?_
  refine ini_go (P := fun sg => AW x _ 16 636 sg 132 [(0, .ref q0)] []) (I.step (by decide) (by decide) hq (Or.inl ⟨rfl, rfl⟩)) (fun sg ad I => ?_)
  refine aw_aload_n C dX9_init_132 rfl rfl rfl ?_
  refine aw_bipush (v := 60) C dX9_init_133 rfl rfl ?_
  refine aw_newarr (atype := .int) (t0 := 0) (cA0 := x.g.ca 0) (ty := .int) (N := 60) (a0 := (60, .inl fun _ => 0)) C h_arr_int rfl rfl (fun o h => by cases h) (fun _ => rfl) (by decide) rfl (by decide) (by decide) (by decide) dX9_init_135 rfl (fun q hq => ?_)
  refine aw_putF (kf := 20) C hin cf_X9 (by decide) (ws_of 1225 (by decide +kernel)) rfl rfl ((sgu_n (I.nq hq)).trans I.h0) rfl rfl (by simp [fvl]) (fvl_set (by decide) (by decide)) dX9_init_137 rfl ?_
  refine ini_go (P := fun sg => AW x _ 17 696 sg 140 [(0, .ref q0)] []) (I.step (by decide) (by decide) hq (Or.inl ⟨rfl, rfl⟩)) (fun sg ad I => ?_)
  refine aw_aload_n C dX9_init_140 rfl rfl rfl ?_
  refine aw_bipush (v := 60) C dX9_init_141 rfl rfl ?_
  refine aw_newarr (atype := .int) (t0 := 0) (cA0 := x.g.ca 0) (ty := .int) (N := 60) (a0 := (60, .inl fun _ => 0)) C h_arr_int rfl rfl (fun o h => by cases h) (fun _ => rfl) (by decide) rfl (by decide) (by decide) (by decide) dX9_init_143 rfl (fun q hq => ?_)
  refine aw_putF (kf := 21) C hin cf_X9 (by decide) (ws_of 1226 (by decide +kernel)) rfl rfl ((sgu_n (I.nq hq)).trans I.h0) rfl rfl (by simp [fvl]) (fvl_set (by decide) (by decide)) dX9_init_145 rfl ?_
  refine ini_go (P := fun sg => AW x _ 18 756 sg 148 [(0, .ref q0)] []) (I.step (by decide) (by decide) hq (Or.inl ⟨rfl, rfl⟩)) (fun sg ad I => ?_)
  refine aw_aload_n C dX9_init_148 rfl rfl rfl ?_
  refine aw_bipush (v := 60) C dX9_init_149 rfl rfl ?_
  refine aw_newarr (atype := .int) (t0 := 0) (cA0 := x.g.ca 0) (ty := .int) (N := 60) (a0 := (60, .inl fun _ => 0)) C h_arr_int rfl rfl (fun o h => by cases h) (fun _ => rfl) (by decide) rfl (by decide) (by decide) (by decide) dX9_init_151 rfl (fun q hq => ?_)
  refine aw_putF (kf := 22) C hin cf_X9 (by decide) (ws_of 1227 (by decide +kernel)) rfl rfl ((sgu_n (I.nq hq)).trans I.h0) rfl rfl (by simp [fvl]) (fvl_set (by decide) (by decide)) dX9_init_153 rfl ?_
  refine ini_go (P := fun sg => AW x _ 19 816 sg 156 [(0, .ref q0)] []) (I.step (by decide) (by decide) hq (Or.inl ⟨rfl, rfl⟩)) (fun sg ad I => ?_)
  refine aw_aload_n C dX9_init_156 rfl rfl rfl ?_
  refine aw_bipush (v := 60) C dX9_init_157 rfl rfl ?_
  refine aw_newarr (atype := .int) (t0 := 0) (cA0 := x.g.ca 0) (ty := .int) (N := 60) (a0 := (60, .inl fun _ => 0)) C h_arr_int rfl rfl (fun o h => by cases h) (fun _ => rfl) (by decide) rfl (by decide) (by decide) (by decide) dX9_init_159 rfl (fun q hq => ?_)
  refine aw_putF (kf := 23) C hin cf_X9 (by decide) (ws_of 1228 (by decide +kernel)) rfl rfl ((sgu_n (I.nq hq)).trans I.h0) rfl rfl (by simp [fvl]) (fvl_set (by decide) (by decide)) dX9_init_161 rfl ?_
  refine ini_go (P := fun sg => AW x _ 20 876 sg 164 [(0, .ref q0)] []) (I.step (by decide) (by decide) hq (Or.inl ⟨rfl, rfl⟩)) (fun sg ad I => ?_)
  refine aw_aload_n C dX9_init_164 rfl rfl rfl ?_
  refine aw_bipush (v := 60) C dX9_init_165 rfl rfl ?_
  refine aw_newarr (atype := .int) (t0 := 0) (cA0 := x.g.ca 0) (ty := .int) (N := 60) (a0 := (60, .inl fun _ => 0)) C h_arr_int rfl rfl (fun o h => by cases h) (fun _ => rfl) (by decide) rfl (by decide) (by decide) (by decide) dX9_init_167 rfl (fun q hq => ?_)
  refine aw_putF (kf := 24) C hin cf_X9 (by decide) (ws_of 1229 (by decide +kernel)) rfl rfl ((sgu_n (I.nq hq)).trans I.h0) rfl rfl (by simp [fvl]) (fvl_set (by decide) (by decide)) dX9_init_169 rfl ?_
  refine ini_go (P := fun sg => AW x _ 21 936 sg 172 [(0, .ref q0)] []) (I.step (by decide) (by decide) hq (Or.inl ⟨rfl, rfl⟩)) (fun sg ad I => ?_)
  refine aw_aload_n C dX9_init_172 rfl rfl rfl ?_
  refine aw_bipush (v := 60) C dX9_init_173 rfl rfl ?_
  refine aw_newarr (atype := .int) (t0 := 0) (cA0 := x.g.ca 0) (ty := .int) (N := 60) (a0 := (60, .inl fun _ => 0)) C h_arr_int rfl rfl (fun o h => by cases h) (fun _ => rfl) (by decide) rfl (by decide) (by decide) (by decide) dX9_init_175 rfl (fun q hq => ?_)
  refine aw_putF (kf := 25) C hin cf_X9 (by decide) (ws_of 1230 (by decide +kernel)) rfl rfl ((sgu_n (I.nq hq)).trans I.h0) rfl rfl (by simp [fvl]) (fvl_set (by decide) (by decide)) dX9_init_177 rfl ?_
  refine ini_go (P := fun sg => AW x _ 22 996 sg 180 [(0, .ref q0)] []) (I.step (by decide) (by decide) hq (Or.inl ⟨rfl, rfl⟩)) (fun sg ad I => ?_)
  refine aw_aload_n C dX9_init_180 rfl rfl rfl ?_
  refine aw_bipush (v := 60) C dX9_init_181 rfl rfl ?_
  refine aw_newarr (atype := .boolean) (t0 := 1) (cA0 := x.g.ca 1) (ty := .boolean) (N := 60) (a0 := (60, .inl fun _ => 0)) C h_arr_boolean rfl rfl (fun o h => by cases h) (fun _ => rfl) (by decide) rfl (by decide) (by decide) (by decide) dX9_init_183 rfl (fun q hq => ?_)
  refine aw_putF (kf := 26) C hin cf_X9 (by decide) (ws_of 1231 (by decide +kernel)) rfl rfl ((sgu_n (I.nq hq)).trans I.h0) rfl rfl (by simp [fvl]) (fvl_set (by decide) (by decide)) dX9_init_185 rfl ?_
  refine ini_go (P := fun sg => AW x _ 23 1056 sg 188 [(0, .ref q0)] []) (I.step (by decide) (by decide) hq (Or.inr (Or.inl ⟨rfl, rfl⟩))) (fun sg ad I => ?_)
  refine aw_aload_n C dX9_init_188 rfl rfl rfl ?_
  refine aw_bipush (v := 60) C dX9_init_189 rfl rfl ?_
  refine aw_newarr (atype := .boolean) (t0 := 1) (cA0 := x.g.ca 1) (ty := .boolean) (N := 60) (a0 := (60, .inl fun _ => 0)) C h_arr_boolean rfl rfl (fun o h => by cases h) (fun _ => rfl) (by decide) rfl (by decide) (by decide) (by decide) dX9_init_191 rfl (fun q hq => ?_)
  refine aw_putF (kf := 27) C hin cf_X9 (by decide) (ws_of 1232 (by decide +kernel)) rfl rfl ((sgu_n (I.nq hq)).trans I.h0) rfl rfl (by simp [fvl]) (fvl_set (by decide) (by decide)) dX9_init_193 rfl ?_
  refine ini_go (P := fun sg => AW x _ 24 1116 sg 196 [(0, .ref q0)] []) (I.step (by decide) (by decide) hq (Or.inr (Or.inl ⟨rfl, rfl⟩))) (fun sg ad I => ?_)
  refine aw_aload_n C dX9_init_196 rfl rfl rfl ?_
  refine aw_sipush (v := 240) C dX9_init_197 rfl rfl ?_
  refine aw_newarr (atype := .int) (t0 := 0) (cA0 := x.g.ca 0) (ty := .int) (N := 240) (a0 := (240, .inl fun _ => 0)) C h_arr_int rfl rfl (fun o h => by cases h) (fun _ => rfl) (by decide) rfl (by decide) (by decide) (by decide) dX9_init_200 rfl (fun q hq => ?_)
  refine aw_putF (kf := 28) C hin cf_X9 (by decide) (ws_of 1233 (by decide +kernel)) rfl rfl ((sgu_n (I.nq hq)).trans I.h0) rfl rfl (by simp [fvl]) (fvl_set (by decide) (by decide)) dX9_init_202 rfl ?_
  refine ini_go (P := fun sg => AW x _ 25 1356 sg 205 [(0, .ref q0)] []) (I.step (by decide) (by decide) hq (Or.inl ⟨rfl, rfl⟩)) (fun sg ad I => ?_)
  refine aw_aload_n C dX9_init_205 rfl rfl rfl ?_
  refine aw_bipush (v := 60) C dX9_init_206 rfl rfl ?_
  refine aw_newarr (atype := .int) (t0 := 0) (cA0 := x.g.ca 0) (ty := .int) (N := 60) (a0 := (60, .inl fun _ => 0)) C h_arr_int rfl rfl (fun o h => by cases h) (fun _ => rfl) (by decide) rfl (by decide) (by decide) (by decide) dX9_init_208 rfl (fun q hq => ?_)
  refine aw_putF (kf := 29) C hin cf_X9 (by decide) (ws_of 1234 (by decide +kernel)) rfl rfl ((sgu_n (I.nq hq)).trans I.h0) rfl rfl (by simp [fvl]) (fvl_set (by decide) (by decide)) dX9_init_210 rfl ?_
  refine ini_go (P := fun sg => AW x _ 26 1416 sg 213 [(0, .ref q0)] []) (I.step (by decide) (by decide) hq (Or.inl ⟨rfl, rfl⟩)) (fun sg ad I => ?_)
  have I := I.skip rfl
  have I := I.skip rfl
  refine aw_aload_n C dX9_init_213 rfl rfl rfl ?_
  refine aw_bipush (v := 8) C dX9_init_214 rfl rfl ?_
  refine aw_newarr (atype := .int) (t0 := 0) (cA0 := x.g.ca 0) (ty := .int) (N := 8) (a0 := (8, .inl fun _ => 0)) C h_arr_int rfl rfl (fun o h => by cases h) (fun _ => rfl) (by decide) rfl (by decide) (by decide) (by decide) dX9_init_216 rfl (fun q hq => ?_)
  refine aw_putF (kf := 32) C hin cf_X9 (by decide) (ws_of 1237 (by decide +kernel)) rfl rfl ((sgu_n (I.nq hq)).trans I.h0) rfl rfl (by simp [fvl]) (fvl_set (by decide) (by decide)) dX9_init_218 rfl ?_
  refine ini_go (P := fun sg => AW x _ 27 1424 sg 221 [(0, .ref q0)] []) (I.step (by decide) (by decide) hq (Or.inl ⟨rfl, rfl⟩)) (fun sg ad I => ?_)
  refine aw_aload_n C dX9_init_221 rfl rfl rfl ?_
  refine aw_bipush (v := 104) C dX9_init_222 rfl rfl ?_
  refine aw_newarr (atype := .long) (t0 := 2) (cA0 := x.g.ca 2) (ty := .long) (N := 104) (a0 := (104, .inr (.inl fun _ => 0))) C h_arr_long rfl rfl (fun o h => by cases h) (fun _ => rfl) (by decide) rfl (by decide) (by decide) (by decide) dX9_init_224 rfl (fun q hq => ?_)
  refine aw_putF (kf := 33) C hin cf_X9 (by decide) (ws_of 1238 (by decide +kernel)) rfl rfl ((sgu_n (I.nq hq)).trans I.h0) rfl rfl (by simp [fvl]) (fvl_set (by decide) (by decide)) dX9_init_226 rfl ?_
  refine ini_go (P := fun sg => AW x _ 28 1528 sg 229 [(0, .ref q0)] []) (I.step (by decide) (by decide) hq (Or.inr (Or.inr ⟨rfl, rfl⟩))) (fun sg ad I => ?_)
  refine aw_aload_n C dX9_init_229 rfl rfl rfl ?_
  refine aw_bipush (v := 104) C dX9_init_230 rfl rfl ?_
  refine aw_newarr (atype := .long) (t0 := 2) (cA0 := x.g.ca 2) (ty := .long) (N := 104) (a0 := (104, .inr (.inl fun _ => 0))) C h_arr_long rfl rfl (fun o h => by cases h) (fun _ => rfl) (by decide) rfl (by decide) (by decide) (by decide) dX9_init_232 rfl (fun q hq => ?_)
  refine aw_putF (kf := 34) C hin cf_X9 (by decide) (ws_of 1239 (by decide +kernel)) rfl rfl ((sgu_n (I.nq hq)).trans I.h0) rfl rfl (by simp [fvl]) (fvl_set (by decide) (by decide)) dX9_init_234 rfl ?_
  refine ini_go (P := fun sg => AW x _ 29 1632 sg 237 [(0, .ref q0)] []) (I.step (by decide) (by decide) hq (Or.inr (Or.inr ⟨rfl, rfl⟩))) (fun sg ad I => ?_)
  have I := I.skip rfl
  refine aw_aload_n C dX9_init_237 rfl rfl rfl ?_
  refine aw_bipush (v := 100) C dX9_init_238 rfl rfl ?_
  refine aw_newarr (atype := .int) (t0 := 0) (cA0 := x.g.ca 0) (ty := .int) (N := 100) (a0 := (100, .inl fun _ => 0)) C h_arr_int rfl rfl (fun o h => by cases h) (fun _ => rfl) (by decide) rfl (by decide) (by decide) (by decide) dX9_init_240 rfl (fun q hq => ?_)
  refine aw_putF (kf := 36) C hin cf_X9 (by decide) (ws_of 1241 (by decide +kernel)) rfl rfl ((sgu_n (I.nq hq)).trans I.h0) rfl rfl (by simp [fvl]) (fvl_set (by decide) (by decide)) dX9_init_242 rfl ?_
  refine ini_go (P := fun sg => AW x _ 30 1732 sg 245 [(0, .ref q0)] []) (I.step (by decide) (by decide) hq (Or.inl ⟨rfl, rfl⟩)) (fun sg ad I => ?_)
  refine aw_aload_n C dX9_init_245 rfl rfl rfl ?_
  refine aw_bipush (v := 100) C dX9_init_246 rfl rfl ?_
  refine aw_newarr (atype := .int) (t0 := 0) (cA0 := x.g.ca 0) (ty := .int) (N := 100) (a0 := (100, .inl fun _ => 0)) C h_arr_int rfl rfl (fun o h => by cases h) (fun _ => rfl) (by decide) rfl (by decide) (by decide) (by decide) dX9_init_248 rfl (fun q hq => ?_)
  refine aw_putF (kf := 37) C hin cf_X9 (by decide) (ws_of 1242 (by decide +kernel)) rfl rfl ((sgu_n (I.nq hq)).trans I.h0) rfl rfl (by simp [fvl]) (fvl_set (by decide) (by decide)) dX9_init_250 rfl ?_
  refine ini_go (P := fun sg => AW x _ 31 1832 sg 253 [(0, .ref q0)] []) (I.step (by decide) (by decide) hq (Or.inl ⟨rfl, rfl⟩)) (fun sg ad I => ?_)
  refine aw_aload_n C dX9_init_253 rfl rfl rfl ?_
  refine aw_bipush (v := 100) C dX9_init_254 rfl rfl ?_
  refine aw_newarr (atype := .int) (t0 := 0) (cA0 := x.g.ca 0) (ty := .int) (N := 100) (a0 := (100, .inl fun _ => 0)) C h_arr_int rfl rfl (fun o h => by cases h) (fun _ => rfl) (by decide) rfl (by decide) (by decide) (by decide) dX9_init_256 rfl (fun q hq => ?_)
  refine aw_putF (kf := 38) C hin cf_X9 (by decide) (ws_of 1243 (by decide +kernel)) rfl rfl ((sgu_n (I.nq hq)).trans I.h0) rfl rfl (by simp [fvl]) (fvl_set (by decide) (by decide)) dX9_init_258 rfl ?_
  refine ini_go (P := fun sg => AW x _ 32 1932 sg 261 [(0, .ref q0)] []) (I.step (by decide) (by decide) hq (Or.inl ⟨rfl, rfl⟩)) (fun sg ad I => ?_)
  refine aw_aload_n C dX9_init_261 rfl rfl rfl ?_
  refine aw_bipush (v := 100) C dX9_init_262 rfl rfl ?_
  refine aw_newarr (atype := .int) (t0 := 0) (cA0 := x.g.ca 0) (ty := .int) (N := 100) (a0 := (100, .inl fun _ => 0)) C h_arr_int rfl rfl (fun o h => by cases h) (fun _ => rfl) (by decide) rfl (by decide) (by decide) (by decide) dX9_init_264 rfl (fun q hq => ?_)
  refine aw_putF (kf := 39) C hin cf_X9 (by decide) (ws_of 1244 (by decide +kernel)) rfl rfl ((sgu_n (I.nq hq)).trans I.h0) rfl rfl (by simp [fvl]) (fvl_set (by decide) (by decide)) dX9_init_266 rfl ?_
  refine ini_go (P := fun sg => AW x _ 33 2032 sg 269 [(0, .ref q0)] []) (I.step (by decide) (by decide) hq (Or.inl ⟨rfl, rfl⟩)) (fun sg ad I => ?_)
  have I := I.skip rfl
  refine aw_aload_n C dX9_init_269 rfl rfl rfl ?_
  refine aw_bipush (v := 104) C dX9_init_270 rfl rfl ?_
  refine aw_newarr (atype := .long) (t0 := 2) (cA0 := x.g.ca 2) (ty := .long) (N := 104) (a0 := (104, .inr (.inl fun _ => 0))) C h_arr_long rfl rfl (fun o h => by cases h) (fun _ => rfl) (by decide) rfl (by decide) (by decide) (by decide) dX9_init_272 rfl (fun q hq => ?_)
  refine aw_putF (kf := 41) C hin cf_X9 (by decide) (ws_of 1246 (by decide +kernel)) rfl rfl ((sgu_n (I.nq hq)).trans I.h0) rfl rfl (by simp [fvl]) (fvl_set (by decide) (by decide)) dX9_init_274 rfl ?_
  refine ini_go (P := fun sg => AW x _ 34 2136 sg 277 [(0, .ref q0)] []) (I.step (by decide) (by decide) hq (Or.inr (Or.inr ⟨rfl, rfl⟩))) (fun sg ad I => ?_)
  refine aw_aload_n C dX9_init_277 rfl rfl rfl ?_
  refine aw_bipush (v := 104) C dX9_init_278 rfl rfl ?_
  refine aw_newarr (atype := .long) (t0 := 2) (cA0 := x.g.ca 2) (ty := .long) (N := 104) (a0 := (104, .inr (.inl fun _ => 0))) C h_arr_long rfl rfl (fun o h => by cases h) (fun _ => rfl) (by decide) rfl (by decide) (by decide) (by decide) dX9_init_280 rfl (fun q hq => ?_)
  refine aw_putF (kf := 42) C hin cf_X9 (by decide) (ws_of 1247 (by decide +kernel)) rfl rfl ((sgu_n (I.nq hq)).trans I.h0) rfl rfl (by simp [fvl]) (fvl_set (by decide) (by decide)) dX9_init_282 rfl ?_
  refine ini_go (P := fun sg => AW x _ 35 2240 sg 285 [(0, .ref q0)] []) (I.step (by decide) (by decide) hq (Or.inr (Or.inr ⟨rfl, rfl⟩))) (fun sg ad I => ?_)
  exact aw_vret C (by decide) (by decide) ⟨rfl, ad, I.z0, I.done, I.fr, fun k hk h0 => I.nw k (mk_lt hk) hk h0⟩ dX9_init_285
