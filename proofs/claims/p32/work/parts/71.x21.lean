/-! the class: its constructor -/
theorem ini_keep {S s' : Sg} {q n a : Nat} {e f : va_E} (hq : a ≠ q) (h : S a = some e) (hn : S n = none) (hf : ∀ b, b ≠ n → s' b = S b) : sgu s' q f a = some e ∧ a ≠ n := by
  have d := no_ne h hn
  exact ⟨(sgu_n hq).trans ((hf a d).trans h), d⟩
theorem ini_fr {sg S s' : Sg} {q n : Nat} {f : va_E} (F : ∀ c, sg c ≠ none → c ≠ q → S c = sg c) (hn : S n = none) (hf : ∀ b, b ≠ n → s' b = S b) : ∀ c, sg c ≠ none → c ≠ q → sgu s' q f c = sg c := fun c h1 h2 =>
  (sgu_n h2).trans ((hf c (fun z => h1 (by rw [← F c h1 h2, z]; exact hn))).trans (F c h1 h2))
theorem ini_sg {sg S : Sg} {q n : Nat} (F : ∀ c, sg c ≠ none → c ≠ q → S c = sg c) (hn : S n = none) (hq : n ≠ q) : sg n = none := by
  cases e : sg n with
  | none => rfl
  | some b => rw [F n (by rw [e]; exact fun z => by cases z) hq, e] at hn; cases hn
theorem ini_f1 {S s1 : Sg} {n : Nat} {e : va_E} (hf : ∀ b, b ≠ n → s1 b = sgu S n e b) : ∀ b, b ≠ n → s1 b = S b := fun b h => (hf b h).trans (sgu_n h)
/-- the cells of an empty class -/
theorem cel_00 {g : Gx} {ez : Nat} {ad : Nat → Nat → Nat} {Y : GS} {k i : Nat} (h : cel g ez ad u00 Y k i ≠ none) : (k = 0 ∧ i = 0) ∨ (k = 1 ∧ i = 0) ∨ (k = 1 ∧ i = 1) ∨ (k = 1 ∧ i = 2) ∨ (k = 1 ∧ i = 3) ∨ (k = 9 ∧ i = 8) ∨ (k = 10 ∧ i = 8) ∨ (k = 11 ∧ i = 8) := by
  match k with
  | 0 =>
    by_cases e : i = 0
    · exact Or.inl ⟨rfl, e⟩
    · exact (h (if_neg e)).elim
  | 1 =>
    by_cases e : i < 4
    · omega
    · exact (h (if_neg e)).elim
  | 2 =>
    exfalso
    refine h (if_neg ?_)
    rintro ⟨h1, h2⟩
    match i, h1 with
    | 0, _ | 1, _ | 2, _ | 3, _ => exact absurd h2 (by decide)
    | _ + 4, q => omega
  | 3 => exact (h (if_neg (t := some (ob 7 (pcl ad u00 i))) (Nat.not_lt_zero i))).elim
  | 4 => exact (h (if_neg (c := i < 0) (t := some (ob 2 (dcl ad u00 i))) (Nat.not_lt_zero i))).elim
  | 5 => exact (h (if_neg (c := i < 0) (t := some (ob 6 [.ref (ad 6 i), .int (u00.1 29 i)])) (Nat.not_lt_zero i))).elim
  | 6 => exact (h (if_neg (c := i < 0) (t := some (arI g 4 (clip 4 0 (fun j => u00.1 28 (4 * i + j))))) (Nat.not_lt_zero i))).elim
  | 7 => exact (h (if_neg (c := i < u00.2.2.1 10 ∧ u00.1 11 i = 3) (t := some (ob 4 (ncl ad u00 i))) (fun z => Nat.not_lt_zero i z.1))).elim
  | 8 => exact (h (if_neg (c := i < 0) (t := some (ob 9 [.int (nI i), .int (nI (Y.2.1 i)), .int (u00.1 32 i), .ref (ad 9 i)])) (Nat.not_lt_zero i))).elim
  | 9 =>
    by_cases e : i = 8
    · omega
    · exact (h (if_neg (fun z => z.elim (Nat.not_lt_zero i) e))).elim
  | 10 =>
    by_cases e : i = 8
    · omega
    · exact (h ((if_neg e).trans (if_neg (Nat.not_lt_zero i)))).elim
  | 11 =>
    by_cases e : i = 8
    · omega
    · exact (h ((if_neg e).trans (if_neg (Nat.not_lt_zero i)))).elim
  | 12 => exact (h (if_neg (c := i < 0) (t := some (ob 3 (ecl ad u00 Y i))) (Nat.not_lt_zero i))).elim
  | _ + 13 => exact absurd rfl h
def adI (q a0 a1 a2 a3 so r1 r2 : Nat) : Nat → Nat → Nat := fun k i => if k = 0 then q else if k = 1 then (if i = 0 then a0 else if i = 1 then a1 else if i = 2 then a2 else a3) else if k = 9 then so else if k = 10 then r1 else r2
def Y00 : GS := (fun _ => none, fun _ => 0, fun _ => 0, fun _ => 0)
theorem CS.start {g : Gx} {ez : Nat} {s : Sg} {q a0 a1 a2 a3 so r1 r2 : Nat} (hq : s q = some (ob 10 [.ref a0, .ref a1, .ref a2, .ref a3, .ref so, .int 0, .int 0, .long 0])) (h0 : s a0 = some (ob 1 [.int 0, .ref ez, .int 0])) (h1 : s a1 = some (ob 1 [.int 0, .ref ez, .int 0])) (h2 : s a2 = some (ob 1 [.int 0, .ref ez, .int 0])) (h3 : s a3 = some (ob 1 [.int 0, .ref ez, .int 0])) (h4 : s so = some (ob 8 [.ref r1, .ref r2])) (h5 : s r1 = some (arJ g 13 (fun _ => 0))) (h6 : s r2 = some (arJ g 13 (fun _ => 0)))
    (d01 : a0 ≠ a1) (d02 : a0 ≠ a2) (d03 : a0 ≠ a3) (d12 : a1 ≠ a2) (d13 : a1 ≠ a3) (d23 : a2 ≠ a3) (d56 : r1 ≠ r2) : CS g ez (adI q a0 a1 a2 a3 so r1 r2) u00 Y00 s := by
  have dq0 : q ≠ a0 := fun z => by have := ob_ob (z ▸ hq) h0; omega
  have dq1 : q ≠ a1 := fun z => by have := ob_ob (z ▸ hq) h1; omega
  have dq2 : q ≠ a2 := fun z => by have := ob_ob (z ▸ hq) h2; omega
  have dq3 : q ≠ a3 := fun z => by have := ob_ob (z ▸ hq) h3; omega
  have dq4 : q ≠ so := fun z => by have := ob_ob (z ▸ hq) h4; omega
  have dq5 : q ≠ r1 := fun z => ob_ar (z ▸ hq) h5
  have dq6 : q ≠ r2 := fun z => ob_ar (z ▸ hq) h6
  have d04 : a0 ≠ so := fun z => by have := ob_ob (z ▸ h0) h4; omega
  have d14 : a1 ≠ so := fun z => by have := ob_ob (z ▸ h1) h4; omega
  have d24 : a2 ≠ so := fun z => by have := ob_ob (z ▸ h2) h4; omega
  have d34 : a3 ≠ so := fun z => by have := ob_ob (z ▸ h3) h4; omega
  have d05 : a0 ≠ r1 := fun z => ob_ar (z ▸ h0) h5
  have d15 : a1 ≠ r1 := fun z => ob_ar (z ▸ h1) h5
  have d25 : a2 ≠ r1 := fun z => ob_ar (z ▸ h2) h5
  have d35 : a3 ≠ r1 := fun z => ob_ar (z ▸ h3) h5
  have d45 : so ≠ r1 := fun z => ob_ar (z ▸ h4) h5
  have d06 : a0 ≠ r2 := fun z => ob_ar (z ▸ h0) h6
  have d16 : a1 ≠ r2 := fun z => ob_ar (z ▸ h1) h6
  have d26 : a2 ≠ r2 := fun z => ob_ar (z ▸ h2) h6
  have d36 : a3 ≠ r2 := fun z => ob_ar (z ▸ h3) h6
  have d46 : so ≠ r2 := fun z => ob_ar (z ▸ h4) h6
  refine ⟨fun k i e he => ?_, fun k i j n c1 c2 e => ?_, fun e he => absurd he (Nat.not_lt_zero _)⟩
  · have c0 : clip 13 (0 : Int64) (fun _ => 0) = fun _ => 0 := clip_0
    rcases cel_00 (by rw [he]; exact fun z => by cases z) with ⟨rfl, rfl⟩ | ⟨rfl, rfl⟩ | ⟨rfl, rfl⟩ | ⟨rfl, rfl⟩ | ⟨rfl, rfl⟩ | ⟨rfl, rfl⟩ | ⟨rfl, rfl⟩ | ⟨rfl, rfl⟩
    · exact hq.trans he
    · exact h0.trans he
    · exact h1.trans he
    · exact h2.trans he
    · exact h3.trans he
    · exact h4.trans he
    · rw [show cel g ez (adI q a0 a1 a2 a3 so r1 r2) u00 Y00 10 8 = some (arJ g 13 (clip 13 0 (fun _ => 0))) from rfl, c0] at he
      exact h5.trans he
    · rw [show cel g ez (adI q a0 a1 a2 a3 so r1 r2) u00 Y00 11 8 = some (arJ g 13 (clip 13 0 (fun _ => 0))) from rfl, c0] at he
      exact h6.trans he
  · rcases cel_00 c1 with ⟨rfl, rfl⟩ | ⟨rfl, rfl⟩ | ⟨rfl, rfl⟩ | ⟨rfl, rfl⟩ | ⟨rfl, rfl⟩ | ⟨rfl, rfl⟩ | ⟨rfl, rfl⟩ | ⟨rfl, rfl⟩ <;> rcases cel_00 c2 with ⟨rfl, rfl⟩ | ⟨rfl, rfl⟩ | ⟨rfl, rfl⟩ | ⟨rfl, rfl⟩ | ⟨rfl, rfl⟩ | ⟨rfl, rfl⟩ | ⟨rfl, rfl⟩ | ⟨rfl, rfl⟩
    · exact ⟨rfl, rfl⟩
    · exact absurd e dq0
    · exact absurd e dq1
    · exact absurd e dq2
    · exact absurd e dq3
    · exact absurd e dq4
    · exact absurd e dq5
    · exact absurd e dq6
    · exact absurd e.symm dq0
    · exact ⟨rfl, rfl⟩
    · exact absurd e d01
    · exact absurd e d02
    · exact absurd e d03
    · exact absurd e d04
    · exact absurd e d05
    · exact absurd e d06
    · exact absurd e.symm dq1
    · exact absurd e.symm d01
    · exact ⟨rfl, rfl⟩
    · exact absurd e d12
    · exact absurd e d13
    · exact absurd e d14
    · exact absurd e d15
    · exact absurd e d16
    · exact absurd e.symm dq2
    · exact absurd e.symm d02
    · exact absurd e.symm d12
    · exact ⟨rfl, rfl⟩
    · exact absurd e d23
    · exact absurd e d24
    · exact absurd e d25
    · exact absurd e d26
    · exact absurd e.symm dq3
    · exact absurd e.symm d03
    · exact absurd e.symm d13
    · exact absurd e.symm d23
    · exact ⟨rfl, rfl⟩
    · exact absurd e d34
    · exact absurd e d35
    · exact absurd e d36
    · exact absurd e.symm dq4
    · exact absurd e.symm d04
    · exact absurd e.symm d14
    · exact absurd e.symm d24
    · exact absurd e.symm d34
    · exact ⟨rfl, rfl⟩
    · exact absurd e d45
    · exact absurd e d46
    · exact absurd e.symm dq5
    · exact absurd e.symm d05
    · exact absurd e.symm d15
    · exact absurd e.symm d25
    · exact absurd e.symm d35
    · exact absurd e.symm d45
    · exact ⟨rfl, rfl⟩
    · exact absurd e d56
    · exact absurd e.symm dq6
    · exact absurd e.symm d06
    · exact absurd e.symm d16
    · exact absurd e.symm d26
    · exact absurd e.symm d36
    · exact absurd e.symm d46
    · exact absurd e.symm d56
    · exact ⟨rfl, rfl⟩
set_option maxRecDepth 100000 in
theorem C_init {g : Gx} {l : Launch} {ez : Nat} (G : GOK g l ez) {sg : Sg} {q : Nat} (hS0 : sg q = some (ob 10 [.null, .null, .null, .null, .null, .int 0, .int 0, .long 0])) : MM g l yX8_init cX8_init 1 none (rmC 5 12 60) sg [.ref q] (fun v s' => v = none ∧ ∃ ad, CS g ez ad u00 Y00 s' ∧ ad 0 0 = q ∧ (∀ c, sg c ≠ none → c ≠ q → s' c = sg c) ∧ ∀ k i, cel g ez ad u00 Y00 k i ≠ none → k = 0 ∨ sg (ad k i) = none) (noX) := by
  refine MM.of G.1 G.2.1 (by decide) (Nat.le_of_ble_eq_true rfl) (fun x hg hlx C hin hout hargs => ?_)
  subst hg; subst hlx
  have C : AWC x cX8_init 1 RX8 (rmC 5 12 60) none := C
  show AW x (RQ x _ _ _ _) 0 0 sg 0 [(0, .ref q)] []
  have F0 : ∀ c, sg c ≠ none → c ≠ q → sg c = sg c := fun _ _ _ => rfl
  refine aw_aload_n C dX8_init_0 rfl rfl rfl ?_
  refine aw_objI C (ws_of 83 (by decide +kernel)) (ws_of 84 (by decide +kernel)) (ws_of 85 (by decide +kernel)) (Nat.le_of_ble_eq_true rfl) (Nat.le_of_ble_eq_true rfl) dX8_init_1 rfl ?_
  refine aw_aload_n C dX8_init_4 rfl rfl rfl ?_
  refine aw_new (fs := [.int 0, .null, .int 0]) C cf_Jx4a65c h_X8_9 h_new_Jx4a65c h_ini_Jx4a65c (fun j hj => match j, hj with | 0, _ => rfl | 1, _ => rfl | 2, _ => rfl | _ + 3, h => absurd h (by omega)) (Nat.le_of_ble_eq_true rfl) (Nat.le_of_ble_eq_true rfl) dX8_init_5 rfl (fun a0 ha0 => ?_)
  have nq0 := no_ne hS0 ha0
  refine aw_dup C dX8_init_8 rfl rfl ?_
  refine aw_callI C k_X8_11 (L_listI G sgu_s) ⟨by decide, by decide⟩ rfl rfl (Nat.le_of_ble_eq_true rfl) (Nat.le_of_ble_eq_true rfl) (Nat.le_of_ble_eq_true rfl) dX8_init_9 rfl (fun _ _ q => ax_no q) (fun v1 t0 hq => ?_)
  obtain ⟨rfl, hl0, hf0⟩ := hq
  have hg0 := ini_f1 hf0
  have hx0 := (hg0 q nq0).trans hS0
  refine aw_putF (kf := 0) (fs' := [.ref a0, .null, .null, .null, .null, .int 0, .int 0, .long 0]) C hin cf_X8 (Nat.le_of_ble_eq_true rfl) (ws_of 126 (by decide +kernel)) rfl rfl hx0 rfl rfl (Nat.le_of_ble_eq_true rfl) rfl dX8_init_12 rfl ?_
  have hS1 : sgu t0 q (ob 10 [.ref a0, .null, .null, .null, .null, .int 0, .int 0, .long 0]) q = some (ob 10 [.ref a0, .null, .null, .null, .null, .int 0, .int 0, .long 0]) := sgu_s
  have F1 := ini_fr (f := ob 10 [.ref a0, .null, .null, .null, .null, .int 0, .int 0, .long 0]) F0 ha0 hg0
  have ga0 := ini_sg F0 ha0 (Ne.symm nq0)
  have k1_0 : sgu t0 q (ob 10 [.ref a0, .null, .null, .null, .null, .int 0, .int 0, .long 0]) a0 = _ := (sgu_n (Ne.symm nq0)).trans hl0
  refine aw_aload_n C dX8_init_15 rfl rfl rfl ?_
  refine aw_new (fs := [.int 0, .null, .int 0]) C cf_Jx4a65c h_X8_9 h_new_Jx4a65c h_ini_Jx4a65c (fun j hj => match j, hj with | 0, _ => rfl | 1, _ => rfl | 2, _ => rfl | _ + 3, h => absurd h (by omega)) (Nat.le_of_ble_eq_true rfl) (Nat.le_of_ble_eq_true rfl) dX8_init_16 rfl (fun a1 ha1 => ?_)
  have nq1 := no_ne hS1 ha1
  refine aw_dup C dX8_init_19 rfl rfl ?_
  refine aw_callI C k_X8_11 (L_listI G sgu_s) ⟨by decide, by decide⟩ rfl rfl (Nat.le_of_ble_eq_true rfl) (Nat.le_of_ble_eq_true rfl) (Nat.le_of_ble_eq_true rfl) dX8_init_20 rfl (fun _ _ q => ax_no q) (fun v1 t1 hq => ?_)
  obtain ⟨rfl, hl1, hf1⟩ := hq
  have hg1 := ini_f1 hf1
  have hx1 := (hg1 q nq1).trans hS1
  refine aw_putF (kf := 1) (fs' := [.ref a0, .ref a1, .null, .null, .null, .int 0, .int 0, .long 0]) C hin cf_X8 (Nat.le_of_ble_eq_true rfl) (ws_of 127 (by decide +kernel)) rfl rfl hx1 rfl rfl (Nat.le_of_ble_eq_true rfl) rfl dX8_init_23 rfl ?_
  have hS2 : sgu t1 q (ob 10 [.ref a0, .ref a1, .null, .null, .null, .int 0, .int 0, .long 0]) q = some (ob 10 [.ref a0, .ref a1, .null, .null, .null, .int 0, .int 0, .long 0]) := sgu_s
  have F2 := ini_fr (f := ob 10 [.ref a0, .ref a1, .null, .null, .null, .int 0, .int 0, .long 0]) F1 ha1 hg1
  have ga1 := ini_sg F1 ha1 (Ne.symm nq1)
  obtain ⟨k2_0, d01⟩ := ini_keep (f := ob 10 [.ref a0, .ref a1, .null, .null, .null, .int 0, .int 0, .long 0]) (Ne.symm nq0) k1_0 ha1 hg1
  have k2_1 : sgu t1 q (ob 10 [.ref a0, .ref a1, .null, .null, .null, .int 0, .int 0, .long 0]) a1 = _ := (sgu_n (Ne.symm nq1)).trans hl1
  refine aw_aload_n C dX8_init_26 rfl rfl rfl ?_
  refine aw_new (fs := [.int 0, .null, .int 0]) C cf_Jx4a65c h_X8_9 h_new_Jx4a65c h_ini_Jx4a65c (fun j hj => match j, hj with | 0, _ => rfl | 1, _ => rfl | 2, _ => rfl | _ + 3, h => absurd h (by omega)) (Nat.le_of_ble_eq_true rfl) (Nat.le_of_ble_eq_true rfl) dX8_init_27 rfl (fun a2 ha2 => ?_)
  have nq2 := no_ne hS2 ha2
  refine aw_dup C dX8_init_30 rfl rfl ?_
  refine aw_callI C k_X8_11 (L_listI G sgu_s) ⟨by decide, by decide⟩ rfl rfl (Nat.le_of_ble_eq_true rfl) (Nat.le_of_ble_eq_true rfl) (Nat.le_of_ble_eq_true rfl) dX8_init_31 rfl (fun _ _ q => ax_no q) (fun v1 t2 hq => ?_)
  obtain ⟨rfl, hl2, hf2⟩ := hq
  have hg2 := ini_f1 hf2
  have hx2 := (hg2 q nq2).trans hS2
  refine aw_putF (kf := 2) (fs' := [.ref a0, .ref a1, .ref a2, .null, .null, .int 0, .int 0, .long 0]) C hin cf_X8 (Nat.le_of_ble_eq_true rfl) (ws_of 128 (by decide +kernel)) rfl rfl hx2 rfl rfl (Nat.le_of_ble_eq_true rfl) rfl dX8_init_34 rfl ?_
  have hS3 : sgu t2 q (ob 10 [.ref a0, .ref a1, .ref a2, .null, .null, .int 0, .int 0, .long 0]) q = some (ob 10 [.ref a0, .ref a1, .ref a2, .null, .null, .int 0, .int 0, .long 0]) := sgu_s
  have F3 := ini_fr (f := ob 10 [.ref a0, .ref a1, .ref a2, .null, .null, .int 0, .int 0, .long 0]) F2 ha2 hg2
  have ga2 := ini_sg F2 ha2 (Ne.symm nq2)
  obtain ⟨k3_0, d02⟩ := ini_keep (f := ob 10 [.ref a0, .ref a1, .ref a2, .null, .null, .int 0, .int 0, .long 0]) (Ne.symm nq0) k2_0 ha2 hg2
  obtain ⟨k3_1, d12⟩ := ini_keep (f := ob 10 [.ref a0, .ref a1, .ref a2, .null, .null, .int 0, .int 0, .long 0]) (Ne.symm nq1) k2_1 ha2 hg2
  have k3_2 : sgu t2 q (ob 10 [.ref a0, .ref a1, .ref a2, .null, .null, .int 0, .int 0, .long 0]) a2 = _ := (sgu_n (Ne.symm nq2)).trans hl2
  refine aw_aload_n C dX8_init_37 rfl rfl rfl ?_
  refine aw_new (fs := [.int 0, .null, .int 0]) C cf_Jx4a65c h_X8_9 h_new_Jx4a65c h_ini_Jx4a65c (fun j hj => match j, hj with | 0, _ => rfl | 1, _ => rfl | 2, _ => rfl | _ + 3, h => absurd h (by omega)) (Nat.le_of_ble_eq_true rfl) (Nat.le_of_ble_eq_true rfl) dX8_init_38 rfl (fun a3 ha3 => ?_)
  have nq3 := no_ne hS3 ha3
  refine aw_dup C dX8_init_41 rfl rfl ?_
  refine aw_callI C k_X8_11 (L_listI G sgu_s) ⟨by decide, by decide⟩ rfl rfl (Nat.le_of_ble_eq_true rfl) (Nat.le_of_ble_eq_true rfl) (Nat.le_of_ble_eq_true rfl) dX8_init_42 rfl (fun _ _ q => ax_no q) (fun v1 t3 hq => ?_)
  obtain ⟨rfl, hl3, hf3⟩ := hq
  have hg3 := ini_f1 hf3
  have hx3 := (hg3 q nq3).trans hS3
  refine aw_putF (kf := 3) (fs' := [.ref a0, .ref a1, .ref a2, .ref a3, .null, .int 0, .int 0, .long 0]) C hin cf_X8 (Nat.le_of_ble_eq_true rfl) (ws_of 129 (by decide +kernel)) rfl rfl hx3 rfl rfl (Nat.le_of_ble_eq_true rfl) rfl dX8_init_45 rfl ?_
  have hS4 : sgu t3 q (ob 10 [.ref a0, .ref a1, .ref a2, .ref a3, .null, .int 0, .int 0, .long 0]) q = some (ob 10 [.ref a0, .ref a1, .ref a2, .ref a3, .null, .int 0, .int 0, .long 0]) := sgu_s
  have F4 := ini_fr (f := ob 10 [.ref a0, .ref a1, .ref a2, .ref a3, .null, .int 0, .int 0, .long 0]) F3 ha3 hg3
  have ga3 := ini_sg F3 ha3 (Ne.symm nq3)
  obtain ⟨k4_0, d03⟩ := ini_keep (f := ob 10 [.ref a0, .ref a1, .ref a2, .ref a3, .null, .int 0, .int 0, .long 0]) (Ne.symm nq0) k3_0 ha3 hg3
  obtain ⟨k4_1, d13⟩ := ini_keep (f := ob 10 [.ref a0, .ref a1, .ref a2, .ref a3, .null, .int 0, .int 0, .long 0]) (Ne.symm nq1) k3_1 ha3 hg3
  obtain ⟨k4_2, d23⟩ := ini_keep (f := ob 10 [.ref a0, .ref a1, .ref a2, .ref a3, .null, .int 0, .int 0, .long 0]) (Ne.symm nq2) k3_2 ha3 hg3
  have k4_3 : sgu t3 q (ob 10 [.ref a0, .ref a1, .ref a2, .ref a3, .null, .int 0, .int 0, .long 0]) a3 = _ := (sgu_n (Ne.symm nq3)).trans hl3
  refine aw_aload_n C dX8_init_48 rfl rfl rfl ?_
  refine aw_new (fs := [.null, .null]) C cf_X6 h_X8_25 h_new_X6 h_ini_X6 (fun j hj => match j, hj with | 0, _ => rfl | 1, _ => rfl | _ + 2, h => absurd h (by omega)) (Nat.le_of_ble_eq_true rfl) (Nat.le_of_ble_eq_true rfl) dX8_init_49 rfl (fun so hso => ?_)
  have nq4 := no_ne hS4 hso
  refine aw_dup C dX8_init_52 rfl rfl ?_
  refine aw_callIN C k_X8_27 (C_iShares G sgu_s) ⟨by decide, by decide⟩ rfl rfl (Nat.le_of_ble_eq_true rfl) (Nat.le_of_ble_eq_true rfl) (Nat.le_of_ble_eq_true rfl) dX8_init_53 rfl (fun _ _ q => ax_no q) (fun v1 s1 hq => ?_)
  obtain ⟨rfl, r1, r2, hr10, hr20, d56, h5, h6, h4, hf4⟩ := hq
  obtain ⟨ns1, hr1⟩ := new2 hr10
  obtain ⟨ns2, hr2⟩ := new2 hr20
  have nq5 := no_ne hS4 hr1
  have nq6 := no_ne hS4 hr2
  have hg4 : ∀ b, b ≠ so → b ≠ r1 → b ≠ r2 → s1 b = _ := fun b z1 z2 z3 => (hf4 b z1 z2 z3).trans (sgu_n z1)
  have hx4 := (hg4 q nq4 nq5 nq6).trans hS4
  have gso := ini_sg F4 hso (Ne.symm nq4)
  have gr1 := ini_sg F4 hr1 (Ne.symm nq5)
  have gr2 := ini_sg F4 hr2 (Ne.symm nq6)
  refine aw_putF (kf := 4) (fs' := [.ref a0, .ref a1, .ref a2, .ref a3, .ref so, .int 0, .int 0, .long 0]) C hin cf_X8 (Nat.le_of_ble_eq_true rfl) (ws_of 130 (by decide +kernel)) rfl rfl hx4 rfl rfl (Nat.le_of_ble_eq_true rfl) rfl dX8_init_56 rfl ?_
  refine aw_aload_n C dX8_init_59 rfl rfl rfl ?_
  refine aw_iconst (v := 0) C dX8_init_60 rfl rfl ?_
  refine aw_putf (fs' := [.ref a0, .ref a1, .ref a2, .ref a3, .ref so, .int 0, .int 0, .long 0]) C f_X8_32 rfl sgu_s rfl rfl (Nat.le_of_ble_eq_true rfl) rfl dX8_init_61 rfl ?_
  refine aw_aload_n C dX8_init_64 rfl rfl rfl ?_
  refine aw_iconst (v := 0) C dX8_init_65 rfl rfl ?_
  refine aw_putf (fs' := [.ref a0, .ref a1, .ref a2, .ref a3, .ref so, .int 0, .int 0, .long 0]) C f_X8_36 rfl sgu_s rfl rfl (Nat.le_of_ble_eq_true rfl) rfl dX8_init_66 rfl ?_
  refine aw_aload_n C dX8_init_69 rfl rfl rfl ?_
  refine aw_lconst (v := 0) C dX8_init_70 rfl rfl ?_
  refine aw_putf (fs' := [.ref a0, .ref a1, .ref a2, .ref a3, .ref so, .int 0, .int 0, .long 0]) C f_X8_39 rfl sgu_s rfl rfl (Nat.le_of_ble_eq_true rfl) rfl dX8_init_71 rfl ?_
  exact aw_vret C (Nat.le_of_ble_eq_true rfl) (Nat.le_of_ble_eq_true rfl) ⟨rfl, adI q a0 a1 a2 a3 so r1 r2, CS.start sgu_s ((sgu_n (Ne.symm nq0)).trans ((sgu_n (Ne.symm nq0)).trans ((sgu_n (Ne.symm nq0)).trans ((sgu_n (Ne.symm nq0)).trans ((hg4 a0 (no_ne k4_0 hso) (no_ne k4_0 hr1) (no_ne k4_0 hr2)).trans k4_0))))) ((sgu_n (Ne.symm nq1)).trans ((sgu_n (Ne.symm nq1)).trans ((sgu_n (Ne.symm nq1)).trans ((sgu_n (Ne.symm nq1)).trans ((hg4 a1 (no_ne k4_1 hso) (no_ne k4_1 hr1) (no_ne k4_1 hr2)).trans k4_1))))) ((sgu_n (Ne.symm nq2)).trans ((sgu_n (Ne.symm nq2)).trans ((sgu_n (Ne.symm nq2)).trans ((sgu_n (Ne.symm nq2)).trans ((hg4 a2 (no_ne k4_2 hso) (no_ne k4_2 hr1) (no_ne k4_2 hr2)).trans k4_2))))) ((sgu_n (Ne.symm nq3)).trans ((sgu_n (Ne.symm nq3)).trans ((sgu_n (Ne.symm nq3)).trans ((sgu_n (Ne.symm nq3)).trans ((hg4 a3 (no_ne k4_3 hso) (no_ne k4_3 hr1) (no_ne k4_3 hr2)).trans k4_3))))) ((sgu_n (Ne.symm nq4)).trans ((sgu_n (Ne.symm nq4)).trans ((sgu_n (Ne.symm nq4)).trans ((sgu_n (Ne.symm nq4)).trans (h4))))) ((sgu_n (Ne.symm nq5)).trans ((sgu_n (Ne.symm nq5)).trans ((sgu_n (Ne.symm nq5)).trans ((sgu_n (Ne.symm nq5)).trans (h5))))) ((sgu_n (Ne.symm nq6)).trans ((sgu_n (Ne.symm nq6)).trans ((sgu_n (Ne.symm nq6)).trans ((sgu_n (Ne.symm nq6)).trans (h6))))) d01 d02 d03 d12 d13 d23 d56, rfl, (fun c h1 h2 => (sgu_n h2).trans ((sgu_n h2).trans ((sgu_n h2).trans ((sgu_n h2).trans ((hg4 c (fun z => h1 (by rw [z]; exact gso)) (fun z => h1 (by rw [z]; exact gr1)) (fun z => h1 (by rw [z]; exact gr2))).trans (F4 c h1 h2)))))), fun k i hc => (by rcases cel_00 hc with ⟨rfl, rfl⟩ | ⟨rfl, rfl⟩ | ⟨rfl, rfl⟩ | ⟨rfl, rfl⟩ | ⟨rfl, rfl⟩ | ⟨rfl, rfl⟩ | ⟨rfl, rfl⟩ | ⟨rfl, rfl⟩ <;> first | exact Or.inl rfl | exact Or.inr ga0 | exact Or.inr ga1 | exact Or.inr ga2 | exact Or.inr ga3 | exact Or.inr gso | exact Or.inr gr1 | exact Or.inr gr2)⟩ dX8_init_74
theorem RP.start : RP u00 Y00 := fun _ ht => absurd ht (Nat.not_lt_zero _)
