/-! the law's helpers that write: enters -/
def n_enters_278_s0 (L : ZU) (d : Nat) : Nat := (if ((L.1 1 d) / 512) - 1 = 0 then 999 else 54321)
def n_enters_342_s0 (L : ZU) (d : Nat) : Nat := (if (L.1 1 d) % 8 = 0 then 20 else (if ((L.1 1 d) % 8) = 2 then 100 else (if (n_kin (zJ (zJ L ((7 * (((L.1 1 d) / 512) - 1)) + (((L.1 1 d) / 8) % 8)) ((L.2 ((7 * (((L.1 1 d) / 512) - 1)) + (((L.1 1 d) / 8) % 8))) - 0)) ((7 * (((L.1 1 d) / 512) - 1)) + (((L.1 1 d) / 64) % 8)) (((zJ L ((7 * (((L.1 1 d) / 512) - 1)) + (((L.1 1 d) / 8) % 8)) ((L.2 ((7 * (((L.1 1 d) / 512) - 1)) + (((L.1 1 d) / 8) % 8))) - 0)).2 ((7 * (((L.1 1 d) / 512) - 1)) + (((L.1 1 d) / 64) % 8))) + 0)) (((L.1 1 d) / 8) % 8) (((L.1 1 d) / 64) % 8)) = true then 50 else 10)))
def n_enters_278_s0' (L : ZU) (d : Nat) : Nat := (if ((L.1 1 d) / 512) - 1 = 0 then 999 else 54321)
def n_enters_342_s0' (L : ZU) (d : Nat) : Nat := (if (L.1 1 d) % 8 = 0 then 20 else (if ((L.1 1 d) % 8) = 2 then 100 else (if (n_kin (zJ (zJ L ((7 * (((L.1 1 d) / 512) - 1)) + (((L.1 1 d) / 8) % 8)) ((L.2 ((7 * (((L.1 1 d) / 512) - 1)) + (((L.1 1 d) / 8) % 8))) - ((PARTS / ((L.1 2 d) % 128)) * ((L.1 2 d) / 128)))) ((7 * (((L.1 1 d) / 512) - 1)) + (((L.1 1 d) / 64) % 8)) (((zJ L ((7 * (((L.1 1 d) / 512) - 1)) + (((L.1 1 d) / 8) % 8)) ((L.2 ((7 * (((L.1 1 d) / 512) - 1)) + (((L.1 1 d) / 8) % 8))) - ((PARTS / ((L.1 2 d) % 128)) * ((L.1 2 d) / 128)))).2 ((7 * (((L.1 1 d) / 512) - 1)) + (((L.1 1 d) / 64) % 8))) + ((PARTS / ((L.1 2 d) % 128)) * ((L.1 2 d) / 128)))) (((L.1 1 d) / 8) % 8) (((L.1 1 d) / 64) % 8)) = true then 50 else 10)))
def n_enters (L : ZU) (d : Nat) : Int32 := (if 2 < ((L.1 1 d) % 8) then (-1003) else (if ((L.1 5 d) % 4) = 1 then (if (n_least (L.1 9 d)) < 0 then (-1003) else (if (nI 1) < (n_least (L.1 9 d)) then (-1003) else (if 0 < (L.1 8 d) then (-1003) else (if 0 < (L.1 0 (16 + (((L.1 1 d) / 8) % 8))) + (L.1 0 (16 + (((L.1 1 d) / 64) % 8))) then (-1003) else (if (L.1 10 3) = 30 then (-1003) else (if (L.2 ((7 * (((L.1 1 d) / 512) - 1)) + (((L.1 1 d) / 8) % 8))) < ((PARTS / ((L.1 2 d) % 128)) * ((L.1 2 d) / 128)) then (-1003) else (if ((L.1 1 d) % 8) < 2 then (if 1000000 < (n_below ((L.2 ((7 * (((L.1 1 d) / 512) - 1)) + (((L.1 1 d) / 8) % 8))) - ((PARTS / ((L.1 2 d) % 128)) * ((L.1 2 d) / 128)))) then (-1003) else (if 1000000 < (n_below ((L.2 ((7 * (((L.1 1 d) / 512) - 1)) + (((L.1 1 d) / 64) % 8))) + ((PARTS / ((L.1 2 d) % 128)) * ((L.1 2 d) / 128)))) then (-1003) else (nI (((L.1 10 3) + 1) - 1)))) else (nI (((L.1 10 3) + 1) - 1))))))))) else (-1003)))
def n_entersL (L : ZU) (d : Nat) : ZU := (if 2 < ((L.1 1 d) % 8) then L else (if ((L.1 5 d) % 4) = 1 then (if (n_least (L.1 9 d)) < 0 then L else (if (nI 1) < (n_least (L.1 9 d)) then L else (if 0 < (L.1 8 d) then L else (if 0 < (L.1 0 (16 + (((L.1 1 d) / 8) % 8))) + (L.1 0 (16 + (((L.1 1 d) / 64) % 8))) then L else (if (L.1 10 3) = 30 then L else (if (L.2 ((7 * (((L.1 1 d) / 512) - 1)) + (((L.1 1 d) / 8) % 8))) < ((PARTS / ((L.1 2 d) % 128)) * ((L.1 2 d) / 128)) then L else (if ((L.1 1 d) % 8) < 2 then (if 1000000 < (n_below ((L.2 ((7 * (((L.1 1 d) / 512) - 1)) + (((L.1 1 d) / 8) % 8))) - ((PARTS / ((L.1 2 d) % 128)) * ((L.1 2 d) / 128)))) then L else (if 1000000 < (n_below ((L.2 ((7 * (((L.1 1 d) / 512) - 1)) + (((L.1 1 d) / 64) % 8))) + ((PARTS / ((L.1 2 d) % 128)) * ((L.1 2 d) / 128)))) then L else (zI (zI (zI (zI (zJ (zJ L ((7 * (((L.1 1 d) / 512) - 1)) + (((L.1 1 d) / 8) % 8)) ((L.2 ((7 * (((L.1 1 d) / 512) - 1)) + (((L.1 1 d) / 8) % 8))) - ((PARTS / ((L.1 2 d) % 128)) * ((L.1 2 d) / 128)))) ((7 * (((L.1 1 d) / 512) - 1)) + (((L.1 1 d) / 64) % 8)) (((zJ L ((7 * (((L.1 1 d) / 512) - 1)) + (((L.1 1 d) / 8) % 8)) ((L.2 ((7 * (((L.1 1 d) / 512) - 1)) + (((L.1 1 d) / 8) % 8))) - ((PARTS / ((L.1 2 d) % 128)) * ((L.1 2 d) / 128)))).2 ((7 * (((L.1 1 d) / 512) - 1)) + (((L.1 1 d) / 64) % 8))) + ((PARTS / ((L.1 2 d) % 128)) * ((L.1 2 d) / 128)))) 10 4 ((L.1 10 4) + ((((n_enters_278_s0' L d) * ((L.1 2 d) / 128)) / ((L.1 2 d) % 128)) / (n_enters_342_s0' L d)))) 12 (L.1 10 3) ((((L.1 1 d) % 8) + (8 * d)) + (512 * (((L.1 1 d) / 512) - 1)))) 10 3 ((L.1 10 3) + 1)) 8 d ((L.1 10 3) + 1)))) else (zI (zI (zI (zI (zJ (zJ L ((7 * (((L.1 1 d) / 512) - 1)) + (((L.1 1 d) / 8) % 8)) ((L.2 ((7 * (((L.1 1 d) / 512) - 1)) + (((L.1 1 d) / 8) % 8))) - 0)) ((7 * (((L.1 1 d) / 512) - 1)) + (((L.1 1 d) / 64) % 8)) (((zJ L ((7 * (((L.1 1 d) / 512) - 1)) + (((L.1 1 d) / 8) % 8)) ((L.2 ((7 * (((L.1 1 d) / 512) - 1)) + (((L.1 1 d) / 8) % 8))) - 0)).2 ((7 * (((L.1 1 d) / 512) - 1)) + (((L.1 1 d) / 64) % 8))) + 0)) 10 4 ((L.1 10 4) + ((((n_enters_278_s0 L d) * ((L.1 2 d) / 128)) / ((L.1 2 d) % 128)) / (n_enters_342_s0 L d)))) 12 (L.1 10 3) ((((L.1 1 d) % 8) + (8 * d)) + (512 * (((L.1 1 d) / 512) - 1)))) 10 3 ((L.1 10 3) + 1)) 8 d ((L.1 10 3) + 1))))))))) else L))
set_option maxRecDepth 100000 in
theorem N_enters {g : Gx} {l : Launch} (hl : l.flags = flags0) (hst : g.Stable) {sg0 : Sg} {al : Nat → Nat} {L : ZU} {d : Nat} (hM : ZS g al L sg0) (hB : ZB L) (hJ : ∀ i, L.2 i < 2 ^ 61) (hd : d < 24) (hb : L.1 1 d % 8 ≤ 2 → 1 ≤ L.1 2 d % 128 ∧ L.1 2 d / 128 ≤ 100 ∧ 1 ≤ L.1 1 d / 512 ∧ L.1 1 d / 512 ≤ 2) (hx6 : L.1 1 d / 8 % 8 < 6) (hy6 : L.1 1 d / 64 % 8 < 6) (hp : L.1 1 d % 8 ≤ 2 → PARTS / (L.1 2 d % 128) * (L.1 2 d / 128) < 2 ^ 61) (hn : L.1 10 3 < 30 ∨ L.1 10 3 = 30) : MM g l yL_enters cL_enters 18 (some .int) (rmZ 2) sg0 [.int (nI (d)), .ref (al 0), .ref (al 1), .ref (al 2), .ref (al 5), .ref (al 8), .ref (al 9), .ref (al 10), .ref (al 11), .ref (al 12)] (ZP g al sg0 (n_enters L d) (n_entersL L d)) noX := by
  refine MM.of hl hst (by decide) (Nat.le_of_ble_eq_true rfl) (fun x hg hlx C hin hout hargs => ?_)
  subst hg; subst hlx
  have C : AWC x cL_enters 18 RL (rmZ 2) (some .int) := C
  have hF : ZFr al sg0 sg0 := ZFr.rf
  show AW x (RQ x (ZP x.g al sg0 (n_enters L d) (n_entersL L d)) noX 0 0) 0 0 sg0 0 [(0, .int (nI (d))), (1, .ref (al 0)), (2, .ref (al 1)), (3, .ref (al 2)), (4, .ref (al 5)), (5, .ref (al 8)), (6, .ref (al 9)), (7, .ref (al 10)), (8, .ref (al 11)), (9, .ref (al 12))] []
  refine aw_aload_n C dL_enters_0 rfl rfl rfl ?_
  refine aw_iload_n C dL_enters_1 rfl rfl rfl ?_
  refine an_iald (k := 1) (i := d) (N := 24) (v := (L.1 1 d)) C hM rfl rfl (by omega) rfl dL_enters_2 rfl ?_
  refine aw_bipush (v := nI 8) C dL_enters_3 rfl rfl ?_
  refine an_rem C (by have := hB 1 d; omega) (by decide) (by decide) dL_enters_5 rfl ?_
  refine aw_istore (ls' := [(10, _), (0, _), (1, _), (2, _), (3, _), (4, _), (5, _), (6, _), (7, _), (8, _), (9, _)]) C dL_enters_6 (by decide) rfl rfl ?_
  refine aw_pick (ls' := [(0, _), (1, _), (2, _), (3, _), (4, _), (5, _), (6, _), (7, _), (8, _), (9, _), (10, _)]) [1, 2, 3, 4, 5, 6, 7, 8, 9, 10, 0] rfl ?_
  refine aw_aload_n C dL_enters_8 rfl rfl rfl ?_
  refine aw_iload_n C dL_enters_9 rfl rfl rfl ?_
  refine an_iald (k := 1) (i := d) (N := 24) (v := (L.1 1 d)) C hM rfl rfl (by omega) rfl dL_enters_10 rfl ?_
  refine aw_bipush (v := nI 8) C dL_enters_11 rfl rfl ?_
  refine an_div C (by have := hB 1 d; omega) (by decide) (by decide) dL_enters_13 rfl ?_
  refine aw_bipush (v := nI 8) C dL_enters_14 rfl rfl ?_
  refine an_rem C (by have := hB 1 d; omega) (by decide) (by decide) dL_enters_16 rfl ?_
  refine aw_istore (ls' := [(11, _), (0, _), (1, _), (2, _), (3, _), (4, _), (5, _), (6, _), (7, _), (8, _), (9, _), (10, _)]) C dL_enters_17 (by decide) rfl rfl ?_
  refine aw_pick (ls' := [(0, _), (1, _), (2, _), (3, _), (4, _), (5, _), (6, _), (7, _), (8, _), (9, _), (10, _), (11, _)]) [1, 2, 3, 4, 5, 6, 7, 8, 9, 10, 11, 0] rfl ?_
  refine aw_aload_n C dL_enters_19 rfl rfl rfl ?_
  refine aw_iload_n C dL_enters_20 rfl rfl rfl ?_
  refine an_iald (k := 1) (i := d) (N := 24) (v := (L.1 1 d)) C hM rfl rfl (by omega) rfl dL_enters_21 rfl ?_
  refine aw_bipush (v := nI 64) C dL_enters_22 rfl rfl ?_
  refine an_div C (by have := hB 1 d; omega) (by decide) (by decide) dL_enters_24 rfl ?_
  refine aw_bipush (v := nI 8) C dL_enters_25 rfl rfl ?_
  refine an_rem C (by have := hB 1 d; omega) (by decide) (by decide) dL_enters_27 rfl ?_
  refine aw_istore (ls' := [(12, _), (0, _), (1, _), (2, _), (3, _), (4, _), (5, _), (6, _), (7, _), (8, _), (9, _), (10, _), (11, _)]) C dL_enters_28 (by decide) rfl rfl ?_
  refine aw_pick (ls' := [(0, _), (1, _), (2, _), (3, _), (4, _), (5, _), (6, _), (7, _), (8, _), (9, _), (10, _), (11, _), (12, _)]) [1, 2, 3, 4, 5, 6, 7, 8, 9, 10, 11, 12, 0] rfl ?_
  refine aw_aload_n C dL_enters_30 rfl rfl rfl ?_
  refine aw_iload_n C dL_enters_31 rfl rfl rfl ?_
  refine an_iald (k := 1) (i := d) (N := 24) (v := (L.1 1 d)) C hM rfl rfl (by omega) rfl dL_enters_32 rfl ?_
  refine aw_sipush (v := nI 512) C dL_enters_33 rfl rfl ?_
  refine an_div C (by have := hB 1 d; omega) (by decide) (by decide) dL_enters_36 rfl ?_
  refine aw_iconst (v := nI 1) C dL_enters_37 rfl rfl ?_
  refine aw_isub C dL_enters_38 rfl ?_
  refine aw_istore (ls' := [(13, _), (0, _), (1, _), (2, _), (3, _), (4, _), (5, _), (6, _), (7, _), (8, _), (9, _), (10, _), (11, _), (12, _)]) C dL_enters_39 (by decide) rfl rfl ?_
  refine aw_pick (ls' := [(0, _), (1, _), (2, _), (3, _), (4, _), (5, _), (6, _), (7, _), (8, _), (9, _), (10, _), (11, _), (12, _), (13, _)]) [1, 2, 3, 4, 5, 6, 7, 8, 9, 10, 11, 12, 13, 0] rfl ?_
  refine aw_aload C dL_enters_41 rfl rfl ?_
  refine aw_iload_n C dL_enters_43 rfl rfl rfl ?_
  refine an_iald (k := 9) (i := d) (N := 24) (v := (L.1 9 d)) C hM rfl rfl (by omega) rfl dL_enters_44 rfl ?_
  refine cw_callSp C k_L_79 (N_least hl hst (p := (L.1 9 d)) (by have := hB 9 d; omega)) ⟨by decide, by decide⟩ rfl rfl (Nat.le_of_ble_eq_true rfl) (Nat.le_of_ble_eq_true rfl) (Nat.le_of_ble_eq_true rfl) dL_enters_45 rfl ?_
  refine aw_istore (ls' := [(14, _), (0, _), (1, _), (2, _), (3, _), (4, _), (5, _), (6, _), (7, _), (8, _), (9, _), (10, _), (11, _), (12, _), (13, _)]) C dL_enters_48 (by decide) rfl rfl ?_
  refine aw_pick (ls' := [(0, _), (1, _), (2, _), (3, _), (4, _), (5, _), (6, _), (7, _), (8, _), (9, _), (10, _), (11, _), (12, _), (13, _), (14, _)]) [1, 2, 3, 4, 5, 6, 7, 8, 9, 10, 11, 12, 13, 14, 0] rfl ?_
  refine aw_iload C dL_enters_50 rfl rfl ?_
  refine aw_iconst (v := nI 2) C dL_enters_52 rfl rfl ?_
  refine an_icmp_gt (a := (L.1 1 d) % 8) (b := 2) (tgt := 111) C dL_enters_53 (by have := hB 1 d; omega) (by decide) (by decide) rfl (fun c53 => ?_) (fun c53 => ?_)
  · refine aw_sipush (v := -1003) C dL_enters_111 rfl rfl ?_
    exact aw_iret C rfl (Nat.le_refl _) (Nat.le_refl _) (ZP.of (by rw [n_enters, if_pos c53]) (by rw [n_entersL, if_pos c53]) hM hF) dL_enters_114
  · refine aw_aload C dL_enters_56 rfl rfl ?_
    refine aw_iload_n C dL_enters_58 rfl rfl rfl ?_
    refine an_iald (k := 5) (i := d) (N := 24) (v := (L.1 5 d)) C hM rfl rfl (by omega) rfl dL_enters_59 rfl ?_
    refine aw_iconst (v := nI 4) C dL_enters_60 rfl rfl ?_
    refine an_rem C (by have := hB 5 d; omega) (by decide) (by decide) dL_enters_61 rfl ?_
    refine aw_iconst (v := nI 1) C dL_enters_62 rfl rfl ?_
    refine an_icmp_ne (a := (L.1 5 d) % 4) (b := 1) (tgt := 111) C dL_enters_63 (by have := hB 5 d; omega) (by decide) (by decide) rfl (fun c63 => ?_) (fun c63 => ?_)
    · refine aw_sipush (v := -1003) C dL_enters_111 rfl rfl ?_
      exact aw_iret C rfl (Nat.le_refl _) (Nat.le_refl _) (ZP.of (by rw [n_enters, if_neg c53, if_neg c63]) (by rw [n_entersL, if_neg c53, if_neg c63]) hM hF) dL_enters_114
    · refine aw_iload C dL_enters_66 rfl rfl ?_
      refine aw_if_lt (tgt := 111) C dL_enters_68 (by decide) rfl (fun c68 => ?_) (fun c68 => ?_)
      · refine aw_sipush (v := -1003) C dL_enters_111 rfl rfl ?_
        exact aw_iret C rfl (Nat.le_refl _) (Nat.le_refl _) (ZP.of (by rw [n_enters, if_neg c53, if_pos c63, if_pos c68]) (by rw [n_entersL, if_neg c53, if_pos c63, if_pos c68]) hM hF) dL_enters_114
      · refine aw_iload C dL_enters_71 rfl rfl ?_
        refine aw_iconst (v := nI 1) C dL_enters_73 rfl rfl ?_
        refine aw_icmp_gt (a := (n_least (L.1 9 d))) (b := (nI 1)) (tgt := 111) C dL_enters_74 (by decide) rfl (fun c74 => ?_) (fun c74 => ?_)
        · refine aw_sipush (v := -1003) C dL_enters_111 rfl rfl ?_
          exact aw_iret C rfl (Nat.le_refl _) (Nat.le_refl _) (ZP.of (by rw [n_enters, if_neg c53, if_pos c63, if_neg c68, if_pos c74]) (by rw [n_entersL, if_neg c53, if_pos c63, if_neg c68, if_pos c74]) hM hF) dL_enters_114
        · refine aw_aload C dL_enters_77 rfl rfl ?_
          refine aw_iload_n C dL_enters_79 rfl rfl rfl ?_
          refine an_iald (k := 8) (i := d) (N := 24) (v := (L.1 8 d)) C hM rfl rfl (by omega) rfl dL_enters_80 rfl ?_
          refine an_if_gt (a := (L.1 8 d)) (tgt := 111) C dL_enters_81 (by have := hB 8 d; omega) (by decide) rfl (fun c81 => ?_) (fun c81 => ?_)
          · refine aw_sipush (v := -1003) C dL_enters_111 rfl rfl ?_
            exact aw_iret C rfl (Nat.le_refl _) (Nat.le_refl _) (ZP.of (by rw [n_enters, if_neg c53, if_pos c63, if_neg c68, if_neg c74, if_pos c81]) (by rw [n_entersL, if_neg c53, if_pos c63, if_neg c68, if_neg c74, if_pos c81]) hM hF) dL_enters_114
          · refine aw_aload_n C dL_enters_84 rfl rfl rfl ?_
            refine aw_bipush (v := nI 16) C dL_enters_85 rfl rfl ?_
            refine aw_iload C dL_enters_87 rfl rfl ?_
            refine an_add C dL_enters_89 rfl ?_
            refine an_iald (k := 0) (i := 16 + (((L.1 1 d) / 8) % 8)) (N := 40) (v := (L.1 0 (16 + (((L.1 1 d) / 8) % 8)))) C hM rfl rfl (by have := hB 1 d; omega) rfl dL_enters_90 rfl ?_
            refine aw_aload_n C dL_enters_91 rfl rfl rfl ?_
            refine aw_bipush (v := nI 16) C dL_enters_92 rfl rfl ?_
            refine aw_iload C dL_enters_94 rfl rfl ?_
            refine an_add C dL_enters_96 rfl ?_
            refine an_iald (k := 0) (i := 16 + (((L.1 1 d) / 64) % 8)) (N := 40) (v := (L.1 0 (16 + (((L.1 1 d) / 64) % 8)))) C hM rfl rfl (by have := hB 1 d; omega) rfl dL_enters_97 rfl ?_
            refine an_add C dL_enters_98 rfl ?_
            refine an_if_gt (a := (L.1 0 (16 + (((L.1 1 d) / 8) % 8))) + (L.1 0 (16 + (((L.1 1 d) / 64) % 8)))) (tgt := 111) C dL_enters_99 (by have := hB 0 (16 + (((L.1 1 d) / 8) % 8)); have := hB 1 d; have := hB 0 (16 + (((L.1 1 d) / 64) % 8)); omega) (by decide) rfl (fun c99 => ?_) (fun c99 => ?_)
            · refine aw_sipush (v := -1003) C dL_enters_111 rfl rfl ?_
              exact aw_iret C rfl (Nat.le_refl _) (Nat.le_refl _) (ZP.of (by rw [n_enters, if_neg c53, if_pos c63, if_neg c68, if_neg c74, if_neg c81, if_pos c99]) (by rw [n_entersL, if_neg c53, if_pos c63, if_neg c68, if_neg c74, if_neg c81, if_pos c99]) hM hF) dL_enters_114
            · refine aw_aload C dL_enters_102 rfl rfl ?_
              refine aw_iconst (v := nI 3) C dL_enters_104 rfl rfl ?_
              refine an_iald (k := 10) (i := 3) (N := 5) (v := (L.1 10 3)) C hM rfl rfl (by decide) rfl dL_enters_105 rfl ?_
              refine aw_bipush (v := nI 30) C dL_enters_106 rfl rfl ?_
              refine an_icmp_ne (a := (L.1 10 3)) (b := 30) (tgt := 115) C dL_enters_108 (by have := hB 10 3; omega) (by decide) (by decide) rfl (fun c108 => ?_) (fun c108 => ?_)
              · have hb2 := hb (by omega)
                have hp := hp (by omega)
                rw [pk_sub (show 1 ≤ ((L.1 1 d) / 512) from hb2.2.2.1)]
                refine aw_ldc2 (v := lN PARTS) C dL_enters_115 q_L_77 rfl ?_
                refine aw_aload_n C dL_enters_118 rfl rfl rfl ?_
                refine aw_iload_n C dL_enters_119 rfl rfl rfl ?_
                refine an_iald (k := 2) (i := d) (N := 24) (v := (L.1 2 d)) C hM rfl rfl (by omega) rfl dL_enters_120 rfl ?_
                refine aw_sipush (v := nI 128) C dL_enters_121 rfl rfl ?_
                refine an_rem C (by have := hB 2 d; omega) (by decide) (by decide) dL_enters_124 rfl ?_
                refine an_i2l C (by have := hB 2 d; omega) dL_enters_125 rfl ?_
                refine an_ldiv C (by decide) (by have := hB 2 d; omega) (by have := hB 2 d; omega) dL_enters_126 rfl ?_
                refine aw_aload_n C dL_enters_127 rfl rfl rfl ?_
                refine aw_iload_n C dL_enters_128 rfl rfl rfl ?_
                refine an_iald (k := 2) (i := d) (N := 24) (v := (L.1 2 d)) C hM rfl rfl (by omega) rfl dL_enters_129 rfl ?_
                refine aw_sipush (v := nI 128) C dL_enters_130 rfl rfl ?_
                refine an_div C (by have := hB 2 d; omega) (by decide) (by decide) dL_enters_133 rfl ?_
                refine an_i2l C (by have := hB 2 d; omega) dL_enters_134 rfl ?_
                refine an_lmul C dL_enters_135 rfl ?_
                refine aw_lstore (ls' := [(15, _), (0, _), (1, _), (2, _), (3, _), (4, _), (5, _), (6, _), (7, _), (8, _), (9, _), (10, _), (11, _), (12, _), (13, _), (14, _)]) C dL_enters_136 (by decide) rfl rfl ?_
                refine aw_pick (ls' := [(0, _), (1, _), (2, _), (3, _), (4, _), (5, _), (6, _), (7, _), (8, _), (9, _), (10, _), (11, _), (12, _), (13, _), (14, _), (15, _)]) [1, 2, 3, 4, 5, 6, 7, 8, 9, 10, 11, 12, 13, 14, 15, 0] rfl ?_
                refine aw_aload C dL_enters_138 rfl rfl ?_
                refine aw_bipush (v := nI 7) C dL_enters_140 rfl rfl ?_
                refine aw_iload C dL_enters_142 rfl rfl ?_
                refine an_mul C dL_enters_144 rfl ?_
                refine aw_iload C dL_enters_145 rfl rfl ?_
                refine an_add C dL_enters_147 rfl ?_
                refine an_lald (i := (7 * (((L.1 1 d) / 512) - 1)) + (((L.1 1 d) / 8) % 8)) (v := (L.2 ((7 * (((L.1 1 d) / 512) - 1)) + (((L.1 1 d) / 8) % 8)))) C hM (by have := hB 1 d; omega) rfl dL_enters_148 rfl ?_
                refine aw_lload C dL_enters_149 rfl rfl ?_
                refine an_lc_lt (p1 := 151) (a := (L.2 ((7 * (((L.1 1 d) / 512) - 1)) + (((L.1 1 d) / 8) % 8)))) (b := (PARTS / ((L.1 2 d) % 128)) * ((L.1 2 d) / 128)) (tgt := 209) C dL_enters_151 rfl dL_enters_152 (by have := hB 1 d; have := hJ ((7 * (((L.1 1 d) / 512) - 1)) + (((L.1 1 d) / 8) % 8)); omega) (by have := hB 2 d; omega) (by decide) rfl (fun c152 => ?_) (fun c152 => ?_)
                · refine aw_sipush (v := -1003) C dL_enters_209 rfl rfl ?_
                  exact aw_iret C rfl (Nat.le_refl _) (Nat.le_refl _) (ZP.of (by rw [n_enters, if_neg c53, if_pos c63, if_neg c68, if_neg c74, if_neg c81, if_neg c99, if_neg c108, if_pos c152]) (by rw [n_entersL, if_neg c53, if_pos c63, if_neg c68, if_neg c74, if_neg c81, if_neg c99, if_neg c108, if_pos c152]) hM hF) dL_enters_212
                · refine aw_iload C dL_enters_155 rfl rfl ?_
                  refine aw_iconst (v := nI 2) C dL_enters_157 rfl rfl ?_
                  refine an_icmp_ge (a := (L.1 1 d) % 8) (b := 2) (tgt := 213) C dL_enters_158 (by have := hB 1 d; omega) (by decide) (by decide) rfl (fun c158 => ?_) (fun c158 => ?_)
                  · refine aw_aload C dL_enters_213 rfl rfl ?_
                    refine aw_bipush (v := nI 7) C dL_enters_215 rfl rfl ?_
                    refine aw_iload C dL_enters_217 rfl rfl ?_
                    refine an_mul C dL_enters_219 rfl ?_
                    refine aw_iload C dL_enters_220 rfl rfl ?_
                    refine an_add C dL_enters_222 rfl ?_
                    refine aw_dup2 C dL_enters_223 rfl rfl rfl ?_
                    refine an_lald (i := (7 * (((L.1 1 d) / 512) - 1)) + (((L.1 1 d) / 8) % 8)) (v := (L.2 ((7 * (((L.1 1 d) / 512) - 1)) + (((L.1 1 d) / 8) % 8)))) C hM (by have := hB 1 d; omega) rfl dL_enters_224 rfl ?_
                    refine aw_iload C dL_enters_225 rfl rfl ?_
                    refine aw_iconst (v := nI 2) C dL_enters_227 rfl rfl ?_
                    refine an_icmp_ge (a := (L.1 1 d) % 8) (b := 2) (tgt := 236) C dL_enters_228 (by have := hB 1 d; omega) (by decide) (by decide) rfl (fun _ => ?_) (fun q => absurd q c158)
                    refine aw_lconst (v := lN 0) C dL_enters_236 rfl rfl ?_
                    refine an_lsub C (by have := hB 1 d; have := hJ ((7 * (((L.1 1 d) / 512) - 1)) + (((L.1 1 d) / 8) % 8)); omega) dL_enters_237 rfl ?_
                    refine an_last (i := (7 * (((L.1 1 d) / 512) - 1)) + (((L.1 1 d) / 8) % 8)) (v := (L.2 ((7 * (((L.1 1 d) / 512) - 1)) + (((L.1 1 d) / 8) % 8))) - 0) C hM hF (by have := hB 1 d; omega) dL_enters_238 rfl (fun sg hM hF => ?_)
                    refine aw_aload C dL_enters_239 rfl rfl ?_
                    refine aw_bipush (v := nI 7) C dL_enters_241 rfl rfl ?_
                    refine aw_iload C dL_enters_243 rfl rfl ?_
                    refine an_mul C dL_enters_245 rfl ?_
                    refine aw_iload C dL_enters_246 rfl rfl ?_
                    refine an_add C dL_enters_248 rfl ?_
                    refine aw_dup2 C dL_enters_249 rfl rfl rfl ?_
                    refine an_lald (i := (7 * (((L.1 1 d) / 512) - 1)) + (((L.1 1 d) / 64) % 8)) (v := ((zJ L ((7 * (((L.1 1 d) / 512) - 1)) + (((L.1 1 d) / 8) % 8)) ((L.2 ((7 * (((L.1 1 d) / 512) - 1)) + (((L.1 1 d) / 8) % 8))) - 0)).2 ((7 * (((L.1 1 d) / 512) - 1)) + (((L.1 1 d) / 64) % 8)))) C hM (by have := hB 1 d; omega) rfl dL_enters_250 rfl ?_
                    refine aw_iload C dL_enters_251 rfl rfl ?_
                    refine aw_iconst (v := nI 2) C dL_enters_253 rfl rfl ?_
                    refine an_icmp_ge (a := (L.1 1 d) % 8) (b := 2) (tgt := 262) C dL_enters_254 (by have := hB 1 d; omega) (by decide) (by decide) rfl (fun _ => ?_) (fun q => absurd q c158)
                    refine aw_lconst (v := lN 0) C dL_enters_262 rfl rfl ?_
                    refine an_ladd C dL_enters_263 rfl ?_
                    refine an_last (i := (7 * (((L.1 1 d) / 512) - 1)) + (((L.1 1 d) / 64) % 8)) (v := ((zJ L ((7 * (((L.1 1 d) / 512) - 1)) + (((L.1 1 d) / 8) % 8)) ((L.2 ((7 * (((L.1 1 d) / 512) - 1)) + (((L.1 1 d) / 8) % 8))) - 0)).2 ((7 * (((L.1 1 d) / 512) - 1)) + (((L.1 1 d) / 64) % 8))) + 0) C hM hF (by have := hB 1 d; omega) dL_enters_264 rfl (fun sg hM hF => ?_)
                    refine aw_iload C dL_enters_265 rfl rfl ?_
                    have K278_1 : AW x (RQ x (ZP x.g al sg0 (n_enters L d) (n_entersL L d)) noX 0 0) 0 0 sg 278 [(0, .int (nI (d))), (1, .ref (al 0)), (3, .ref (al 2)), (5, .ref (al 8)), (7, .ref (al 10)), (9, .ref (al 12)), (10, .int (nI ((L.1 1 d) % 8))), (11, .int (nI (((L.1 1 d) / 8) % 8))), (12, .int (nI (((L.1 1 d) / 64) % 8))), (13, .int (nI (((L.1 1 d) / 512) - 1)))] [.int (nI ((n_enters_278_s0 L d)))] := by
                      have q278s0 : (n_enters_278_s0 L d) ≤ 54321 := by unfold n_enters_278_s0; (repeat' split) <;> (have := hB 1 d; omega)
                      refine aw_aload_n C dL_enters_278 rfl rfl rfl ?_
                      refine aw_iload_n C dL_enters_279 rfl rfl rfl ?_
                      refine an_iald (k := 2) (i := d) (N := 24) (v := (L.1 2 d)) C hM rfl rfl (by omega) (by rw [zJ_1]; exact (by rw [zJ_1])) dL_enters_280 rfl ?_
                      refine aw_sipush (v := nI 128) C dL_enters_281 rfl rfl ?_
                      refine an_div C (by have := hB 2 d; omega) (by decide) (by decide) dL_enters_284 rfl ?_
                      refine an_mul C dL_enters_285 rfl ?_
                      refine aw_aload_n C dL_enters_286 rfl rfl rfl ?_
                      refine aw_iload_n C dL_enters_287 rfl rfl rfl ?_
                      refine an_iald (k := 2) (i := d) (N := 24) (v := (L.1 2 d)) C hM rfl rfl (by omega) (by rw [zJ_1]; exact (by rw [zJ_1])) dL_enters_288 rfl ?_
                      refine aw_sipush (v := nI 128) C dL_enters_289 rfl rfl ?_
                      refine an_rem C (by have := hB 2 d; omega) (by decide) (by decide) dL_enters_292 rfl ?_
                      refine an_div C (Nat.lt_of_le_of_lt (Nat.mul_le_mul q278s0 hb2.2.1) (by decide)) (by have := hB 2 d; omega) (by have := hB 2 d; omega) dL_enters_293 rfl ?_
                      refine aw_istore (ls' := [(17, _), (0, _), (1, _), (3, _), (5, _), (7, _), (9, _), (10, _), (11, _), (12, _), (13, _)]) C dL_enters_294 (by decide) rfl rfl ?_
                      refine aw_pick (ls' := [(0, _), (1, _), (3, _), (5, _), (7, _), (9, _), (10, _), (11, _), (12, _), (13, _), (17, _)]) [1, 2, 3, 4, 5, 6, 7, 8, 9, 10, 0] rfl ?_
                      refine aw_aload C dL_enters_296 rfl rfl ?_
                      refine aw_iconst (v := nI 4) C dL_enters_298 rfl rfl ?_
                      refine aw_dup2 C dL_enters_299 rfl rfl rfl ?_
                      refine an_iald (k := 10) (i := 4) (N := 5) (v := (L.1 10 4)) C hM rfl rfl (by decide) (by rw [zJ_1]; exact (by rw [zJ_1])) dL_enters_300 rfl ?_
                      refine aw_iload C dL_enters_301 rfl rfl ?_
                      refine aw_iload C dL_enters_303 rfl rfl ?_
                      have K342_2 : AW x (RQ x (ZP x.g al sg0 (n_enters L d) (n_entersL L d)) noX 0 0) 0 0 sg 342 [(0, .int (nI (d))), (5, .ref (al 8)), (7, .ref (al 10)), (9, .ref (al 12)), (10, .int (nI ((L.1 1 d) % 8))), (13, .int (nI (((L.1 1 d) / 512) - 1)))] [.int (nI ((n_enters_342_s0 L d))), .int (nI (((n_enters_278_s0 L d) * ((L.1 2 d) / 128)) / ((L.1 2 d) % 128))), .int (nI ((L.1 10 4))), .int (nI (4)), .ref (al 10)] := by
                        have q342s0 : (n_enters_342_s0 L d) ≥ 1 ∧ (n_enters_342_s0 L d) ≤ 100 := by unfold n_enters_342_s0; (repeat' split) <;> (have := hB 1 d; have := hJ ((7 * (((L.1 1 d) / 512) - 1)) + (((L.1 1 d) / 8) % 8)); omega)
                        refine an_div C (Nat.lt_of_le_of_lt (Nat.div_le_self _ _) (Nat.lt_of_le_of_lt (Nat.mul_le_mul q278s0 hb2.2.1) (by decide))) (by omega) (by omega) dL_enters_342 rfl ?_
                        refine an_add C dL_enters_343 rfl ?_
                        refine an_iast (k := 10) (i := 4) (N := 5) (v := (L.1 10 4) + ((((n_enters_278_s0 L d) * ((L.1 2 d) / 128)) / ((L.1 2 d) % 128)) / (n_enters_342_s0 L d))) C hM hF rfl rfl (by decide) dL_enters_344 rfl (fun sg hM hF => ?_)
                        refine aw_aload C dL_enters_345 rfl rfl ?_
                        refine aw_aload C dL_enters_347 rfl rfl ?_
                        refine aw_iconst (v := nI 3) C dL_enters_349 rfl rfl ?_
                        refine an_iald (k := 10) (i := 3) (N := 5) (v := (L.1 10 3)) C hM rfl rfl (by decide) (by rw [zI_n (by decide)]; exact (by rw [zJ_1]; exact (by rw [zJ_1]))) dL_enters_350 rfl ?_
                        refine aw_iload C dL_enters_351 rfl rfl ?_
                        refine aw_bipush (v := nI 8) C dL_enters_353 rfl rfl ?_
                        refine aw_iload_n C dL_enters_355 rfl rfl rfl ?_
                        refine an_mul C dL_enters_356 rfl ?_
                        refine an_add C dL_enters_357 rfl ?_
                        refine aw_sipush (v := nI 512) C dL_enters_358 rfl rfl ?_
                        refine aw_iload C dL_enters_361 rfl rfl ?_
                        refine an_mul C dL_enters_363 rfl ?_
                        refine an_add C dL_enters_364 rfl ?_
                        refine an_iast (k := 12) (i := (L.1 10 3)) (N := 32) (v := (((L.1 1 d) % 8) + (8 * d)) + (512 * (((L.1 1 d) / 512) - 1))) C hM hF rfl rfl (by have := hB 10 3; omega) dL_enters_365 rfl (fun sg hM hF => ?_)
                        refine aw_aload C dL_enters_366 rfl rfl ?_
                        refine aw_iconst (v := nI 3) C dL_enters_368 rfl rfl ?_
                        refine aw_dup2 C dL_enters_369 rfl rfl rfl ?_
                        refine an_iald (k := 10) (i := 3) (N := 5) (v := (L.1 10 3)) C hM rfl rfl (by decide) (by rw [zI_k (by decide)]; exact (by rw [zI_n (by decide)]; exact (by rw [zJ_1]; exact (by rw [zJ_1])))) dL_enters_370 rfl ?_
                        refine aw_iconst (v := nI 1) C dL_enters_371 rfl rfl ?_
                        refine an_add C dL_enters_372 rfl ?_
                        refine an_iast (k := 10) (i := 3) (N := 5) (v := (L.1 10 3) + 1) C hM hF rfl rfl (by decide) dL_enters_373 rfl (fun sg hM hF => ?_)
                        refine aw_aload C dL_enters_374 rfl rfl ?_
                        refine aw_iload_n C dL_enters_376 rfl rfl rfl ?_
                        refine aw_aload C dL_enters_377 rfl rfl ?_
                        refine aw_iconst (v := nI 3) C dL_enters_379 rfl rfl ?_
                        refine an_iald (k := 10) (i := 3) (N := 5) (v := ((L.1 10 3) + 1)) C hM rfl rfl (by decide) zI_s dL_enters_380 rfl ?_
                        refine an_iast (k := 8) (i := d) (N := 24) (v := ((L.1 10 3) + 1)) C hM hF rfl rfl (by omega) dL_enters_381 rfl (fun sg hM hF => ?_)
                        refine aw_aload C dL_enters_382 rfl rfl ?_
                        refine aw_iconst (v := nI 3) C dL_enters_384 rfl rfl ?_
                        refine an_iald (k := 10) (i := 3) (N := 5) (v := ((L.1 10 3) + 1)) C hM rfl rfl (by decide) (by rw [zI_k (by decide)]; exact zI_s) dL_enters_385 rfl ?_
                        refine aw_iconst (v := nI 1) C dL_enters_386 rfl rfl ?_
                        refine an_sub C (by have := hB 10 3; omega) dL_enters_387 rfl ?_
                        exact aw_iret C rfl (Nat.le_refl _) (Nat.le_refl _) (ZP.of (by rw [n_enters, if_neg c53, if_pos c63, if_neg c68, if_neg c74, if_neg c81, if_neg c99, if_neg c108, if_neg c152, if_neg c158]) (by rw [n_entersL, if_neg c53, if_pos c63, if_neg c68, if_neg c74, if_neg c81, if_neg c99, if_neg c108, if_neg c152, if_neg c158]) hM hF) dL_enters_388
                      refine an_if_ne (a := (L.1 1 d) % 8) (tgt := 313) C dL_enters_305 (by have := hB 1 d; omega) (by decide) rfl (fun c305 => ?_) (fun c305 => ?_)
                      · refine aw_iload C dL_enters_313 rfl rfl ?_
                        refine aw_iconst (v := nI 2) C dL_enters_315 rfl rfl ?_
                        refine an_icmp_ne (a := (L.1 1 d) % 8) (b := 2) (tgt := 324) C dL_enters_316 (by have := hB 1 d; omega) (by decide) (by decide) rfl (fun c316 => ?_) (fun c316 => ?_)
                        · refine aw_iload C dL_enters_324 rfl rfl ?_
                          refine aw_iload C dL_enters_326 rfl rfl ?_
                          refine aw_aload_n C dL_enters_328 rfl rfl rfl ?_
                          refine cw_callSp C k_L_89 (N_kin hl hst hM hB (x0 := ((L.1 1 d) / 8) % 8) (y0 := ((L.1 1 d) / 64) % 8) (by have := hB 1 d; omega) (by have := hB 1 d; omega)) ⟨by decide, by decide⟩ rfl rfl (Nat.le_of_ble_eq_true rfl) (Nat.le_of_ble_eq_true rfl) (Nat.le_of_ble_eq_true rfl) dL_enters_329 rfl ?_
                          refine an_bif_eq (z := (n_kin (zJ (zJ L ((7 * (((L.1 1 d) / 512) - 1)) + (((L.1 1 d) / 8) % 8)) ((L.2 ((7 * (((L.1 1 d) / 512) - 1)) + (((L.1 1 d) / 8) % 8))) - 0)) ((7 * (((L.1 1 d) / 512) - 1)) + (((L.1 1 d) / 64) % 8)) (((zJ L ((7 * (((L.1 1 d) / 512) - 1)) + (((L.1 1 d) / 8) % 8)) ((L.2 ((7 * (((L.1 1 d) / 512) - 1)) + (((L.1 1 d) / 8) % 8))) - 0)).2 ((7 * (((L.1 1 d) / 512) - 1)) + (((L.1 1 d) / 64) % 8))) + 0)) (((L.1 1 d) / 8) % 8) (((L.1 1 d) / 64) % 8))) (tgt := 340) C dL_enters_332 (by decide) rfl (fun c332 => ?_) (fun c332 => ?_)
                          · refine aw_bipush (v := nI 10) C dL_enters_340 rfl rfl ?_
                            refine aw_pick (ls' := [(0, _), (5, _), (7, _), (9, _), (10, _), (13, _)]) [0, 3, 4, 5, 6, 9] rfl ?_
                            have k9 := K342_2
                            rw [show (n_enters_342_s0 L d) = 10 from by rw [n_enters_342_s0, if_neg c305, if_neg c316, if_neg c332]] at k9
                            exact k9
                          · refine aw_bipush (v := nI 50) C dL_enters_335 rfl rfl ?_
                            refine aw_goto (tgt := 342) C dL_enters_337 (by decide) ?_
                            refine aw_pick (ls' := [(0, _), (5, _), (7, _), (9, _), (10, _), (13, _)]) [0, 3, 4, 5, 6, 9] rfl ?_
                            have k9 := K342_2
                            rw [show (n_enters_342_s0 L d) = 50 from by rw [n_enters_342_s0, if_neg c305, if_neg c316, if_pos c332]] at k9
                            exact k9
                        · refine aw_bipush (v := nI 100) C dL_enters_319 rfl rfl ?_
                          refine aw_goto (tgt := 342) C dL_enters_321 (by decide) ?_
                          refine aw_pick (ls' := [(0, _), (5, _), (7, _), (9, _), (10, _), (13, _)]) [0, 3, 4, 5, 6, 9] rfl ?_
                          have k9 := K342_2
                          rw [show (n_enters_342_s0 L d) = 100 from by rw [n_enters_342_s0, if_neg c305, if_pos c316]] at k9
                          exact k9
                      · refine aw_bipush (v := nI 20) C dL_enters_308 rfl rfl ?_
                        refine aw_goto (tgt := 342) C dL_enters_310 (by decide) ?_
                        refine aw_pick (ls' := [(0, _), (5, _), (7, _), (9, _), (10, _), (13, _)]) [0, 3, 4, 5, 6, 9] rfl ?_
                        have k9 := K342_2
                        rw [show (n_enters_342_s0 L d) = 20 from by rw [n_enters_342_s0, if_pos c305]] at k9
                        exact k9
                    refine an_if_ne (a := ((L.1 1 d) / 512) - 1) (tgt := 276) C dL_enters_267 (by have := hB 1 d; omega) (by decide) rfl (fun c267 => ?_) (fun c267 => ?_)
                    · refine aw_ldc (v := nI 54321) C dL_enters_276 q_L_88 rfl ?_
                      refine aw_pick (ls' := [(0, _), (1, _), (3, _), (5, _), (7, _), (9, _), (10, _), (11, _), (12, _), (13, _)]) [0, 1, 3, 5, 7, 9, 10, 11, 12, 13] rfl ?_
                      have k9 := K278_1
                      rw [show (n_enters_278_s0 L d) = 54321 from by rw [n_enters_278_s0, if_neg c267]] at k9
                      exact k9
                    · refine aw_sipush (v := nI 999) C dL_enters_270 rfl rfl ?_
                      refine aw_goto (tgt := 278) C dL_enters_273 (by decide) ?_
                      refine aw_pick (ls' := [(0, _), (1, _), (3, _), (5, _), (7, _), (9, _), (10, _), (11, _), (12, _), (13, _)]) [0, 1, 3, 5, 7, 9, 10, 11, 12, 13] rfl ?_
                      have k9 := K278_1
                      rw [show (n_enters_278_s0 L d) = 999 from by rw [n_enters_278_s0, if_pos c267]] at k9
                      exact k9
                  · refine aw_aload C dL_enters_161 rfl rfl ?_
                    refine aw_bipush (v := nI 7) C dL_enters_163 rfl rfl ?_
                    refine aw_iload C dL_enters_165 rfl rfl ?_
                    refine an_mul C dL_enters_167 rfl ?_
                    refine aw_iload C dL_enters_168 rfl rfl ?_
                    refine an_add C dL_enters_170 rfl ?_
                    refine an_lald (i := (7 * (((L.1 1 d) / 512) - 1)) + (((L.1 1 d) / 8) % 8)) (v := (L.2 ((7 * (((L.1 1 d) / 512) - 1)) + (((L.1 1 d) / 8) % 8)))) C hM (by have := hB 1 d; omega) rfl dL_enters_171 rfl ?_
                    refine aw_lload C dL_enters_172 rfl rfl ?_
                    refine an_lsub C (by have := hB 1 d; have := hJ ((7 * (((L.1 1 d) / 512) - 1)) + (((L.1 1 d) / 8) % 8)); have := hB 2 d; omega) dL_enters_174 rfl ?_
                    refine cw_callSp C k_L_82 (N_below hl hst (s := (L.2 ((7 * (((L.1 1 d) / 512) - 1)) + (((L.1 1 d) / 8) % 8))) - ((PARTS / ((L.1 2 d) % 128)) * ((L.1 2 d) / 128))) (by have := hB 1 d; have := hB 2 d; have := hJ ((7 * (((L.1 1 d) / 512) - 1)) + (((L.1 1 d) / 8) % 8)); omega)) ⟨by decide, by decide⟩ rfl rfl (Nat.le_of_ble_eq_true rfl) (Nat.le_of_ble_eq_true rfl) (Nat.le_of_ble_eq_true rfl) dL_enters_175 rfl ?_
                    refine aw_ldc2 (v := lN 1000000) C dL_enters_178 q_L_86 rfl ?_
                    refine an_lc_gt (p1 := 181) (a := n_below ((L.2 ((7 * (((L.1 1 d) / 512) - 1)) + (((L.1 1 d) / 8) % 8))) - ((PARTS / ((L.1 2 d) % 128)) * ((L.1 2 d) / 128)))) (b := 1000000) (tgt := 209) C dL_enters_181 rfl dL_enters_182 (by have := hB 1 d; have := hB 2 d; have := hJ ((7 * (((L.1 1 d) / 512) - 1)) + (((L.1 1 d) / 8) % 8)); have := @n_below_lt ((L.2 ((7 * (((L.1 1 d) / 512) - 1)) + (((L.1 1 d) / 8) % 8))) - ((PARTS / ((L.1 2 d) % 128)) * ((L.1 2 d) / 128))); omega) (by omega) (by decide) rfl (fun c182 => ?_) (fun c182 => ?_)
                    · refine aw_sipush (v := -1003) C dL_enters_209 rfl rfl ?_
                      exact aw_iret C rfl (Nat.le_refl _) (Nat.le_refl _) (ZP.of (by rw [n_enters, if_neg c53, if_pos c63, if_neg c68, if_neg c74, if_neg c81, if_neg c99, if_neg c108, if_neg c152, if_pos c158, if_pos c182]) (by rw [n_entersL, if_neg c53, if_pos c63, if_neg c68, if_neg c74, if_neg c81, if_neg c99, if_neg c108, if_neg c152, if_pos c158, if_pos c182]) hM hF) dL_enters_212
                    · refine aw_aload C dL_enters_185 rfl rfl ?_
                      refine aw_bipush (v := nI 7) C dL_enters_187 rfl rfl ?_
                      refine aw_iload C dL_enters_189 rfl rfl ?_
                      refine an_mul C dL_enters_191 rfl ?_
                      refine aw_iload C dL_enters_192 rfl rfl ?_
                      refine an_add C dL_enters_194 rfl ?_
                      refine an_lald (i := (7 * (((L.1 1 d) / 512) - 1)) + (((L.1 1 d) / 64) % 8)) (v := (L.2 ((7 * (((L.1 1 d) / 512) - 1)) + (((L.1 1 d) / 64) % 8)))) C hM (by have := hB 1 d; omega) rfl dL_enters_195 rfl ?_
                      refine aw_lload C dL_enters_196 rfl rfl ?_
                      refine an_ladd C dL_enters_198 rfl ?_
                      refine cw_callSp C k_L_82 (N_below hl hst (s := (L.2 ((7 * (((L.1 1 d) / 512) - 1)) + (((L.1 1 d) / 64) % 8))) + ((PARTS / ((L.1 2 d) % 128)) * ((L.1 2 d) / 128))) (by have := hB 1 d; have := hB 2 d; have := hJ ((7 * (((L.1 1 d) / 512) - 1)) + (((L.1 1 d) / 64) % 8)); omega)) ⟨by decide, by decide⟩ rfl rfl (Nat.le_of_ble_eq_true rfl) (Nat.le_of_ble_eq_true rfl) (Nat.le_of_ble_eq_true rfl) dL_enters_199 rfl ?_
                      refine aw_ldc2 (v := lN 1000000) C dL_enters_202 q_L_86 rfl ?_
                      refine an_lc_le (p1 := 205) (a := n_below ((L.2 ((7 * (((L.1 1 d) / 512) - 1)) + (((L.1 1 d) / 64) % 8))) + ((PARTS / ((L.1 2 d) % 128)) * ((L.1 2 d) / 128)))) (b := 1000000) (tgt := 213) C dL_enters_205 rfl dL_enters_206 (by have := hB 1 d; have := hB 2 d; have := hJ ((7 * (((L.1 1 d) / 512) - 1)) + (((L.1 1 d) / 64) % 8)); have := @n_below_lt ((L.2 ((7 * (((L.1 1 d) / 512) - 1)) + (((L.1 1 d) / 64) % 8))) + ((PARTS / ((L.1 2 d) % 128)) * ((L.1 2 d) / 128))); omega) (by omega) (by decide) rfl (fun c206 => ?_) (fun c206 => ?_)
                      · refine aw_aload C dL_enters_213 rfl rfl ?_
                        refine aw_bipush (v := nI 7) C dL_enters_215 rfl rfl ?_
                        refine aw_iload C dL_enters_217 rfl rfl ?_
                        refine an_mul C dL_enters_219 rfl ?_
                        refine aw_iload C dL_enters_220 rfl rfl ?_
                        refine an_add C dL_enters_222 rfl ?_
                        refine aw_dup2 C dL_enters_223 rfl rfl rfl ?_
                        refine an_lald (i := (7 * (((L.1 1 d) / 512) - 1)) + (((L.1 1 d) / 8) % 8)) (v := (L.2 ((7 * (((L.1 1 d) / 512) - 1)) + (((L.1 1 d) / 8) % 8)))) C hM (by have := hB 1 d; omega) rfl dL_enters_224 rfl ?_
                        refine aw_iload C dL_enters_225 rfl rfl ?_
                        refine aw_iconst (v := nI 2) C dL_enters_227 rfl rfl ?_
                        refine an_icmp_ge (a := (L.1 1 d) % 8) (b := 2) (tgt := 236) C dL_enters_228 (by have := hB 1 d; omega) (by decide) (by decide) rfl (fun q => absurd c158 q) (fun _ => ?_)
                        refine aw_lload C dL_enters_231 rfl rfl ?_
                        refine aw_goto (tgt := 237) C dL_enters_233 (by decide) ?_
                        refine an_lsub C (by have := hB 1 d; have := hJ ((7 * (((L.1 1 d) / 512) - 1)) + (((L.1 1 d) / 8) % 8)); have := hB 2 d; omega) dL_enters_237 rfl ?_
                        refine an_last (i := (7 * (((L.1 1 d) / 512) - 1)) + (((L.1 1 d) / 8) % 8)) (v := (L.2 ((7 * (((L.1 1 d) / 512) - 1)) + (((L.1 1 d) / 8) % 8))) - ((PARTS / ((L.1 2 d) % 128)) * ((L.1 2 d) / 128))) C hM hF (by have := hB 1 d; omega) dL_enters_238 rfl (fun sg hM hF => ?_)
                        refine aw_aload C dL_enters_239 rfl rfl ?_
                        refine aw_bipush (v := nI 7) C dL_enters_241 rfl rfl ?_
                        refine aw_iload C dL_enters_243 rfl rfl ?_
                        refine an_mul C dL_enters_245 rfl ?_
                        refine aw_iload C dL_enters_246 rfl rfl ?_
                        refine an_add C dL_enters_248 rfl ?_
                        refine aw_dup2 C dL_enters_249 rfl rfl rfl ?_
                        refine an_lald (i := (7 * (((L.1 1 d) / 512) - 1)) + (((L.1 1 d) / 64) % 8)) (v := ((zJ L ((7 * (((L.1 1 d) / 512) - 1)) + (((L.1 1 d) / 8) % 8)) ((L.2 ((7 * (((L.1 1 d) / 512) - 1)) + (((L.1 1 d) / 8) % 8))) - ((PARTS / ((L.1 2 d) % 128)) * ((L.1 2 d) / 128)))).2 ((7 * (((L.1 1 d) / 512) - 1)) + (((L.1 1 d) / 64) % 8)))) C hM (by have := hB 1 d; omega) rfl dL_enters_250 rfl ?_
                        refine aw_iload C dL_enters_251 rfl rfl ?_
                        refine aw_iconst (v := nI 2) C dL_enters_253 rfl rfl ?_
                        refine an_icmp_ge (a := (L.1 1 d) % 8) (b := 2) (tgt := 262) C dL_enters_254 (by have := hB 1 d; omega) (by decide) (by decide) rfl (fun q => absurd c158 q) (fun _ => ?_)
                        refine aw_lload C dL_enters_257 rfl rfl ?_
                        refine aw_goto (tgt := 263) C dL_enters_259 (by decide) ?_
                        refine an_ladd C dL_enters_263 rfl ?_
                        refine an_last (i := (7 * (((L.1 1 d) / 512) - 1)) + (((L.1 1 d) / 64) % 8)) (v := ((zJ L ((7 * (((L.1 1 d) / 512) - 1)) + (((L.1 1 d) / 8) % 8)) ((L.2 ((7 * (((L.1 1 d) / 512) - 1)) + (((L.1 1 d) / 8) % 8))) - ((PARTS / ((L.1 2 d) % 128)) * ((L.1 2 d) / 128)))).2 ((7 * (((L.1 1 d) / 512) - 1)) + (((L.1 1 d) / 64) % 8))) + ((PARTS / ((L.1 2 d) % 128)) * ((L.1 2 d) / 128))) C hM hF (by have := hB 1 d; omega) dL_enters_264 rfl (fun sg hM hF => ?_)
                        refine aw_iload C dL_enters_265 rfl rfl ?_
                        have K278_3 : AW x (RQ x (ZP x.g al sg0 (n_enters L d) (n_entersL L d)) noX 0 0) 0 0 sg 278 [(0, .int (nI (d))), (1, .ref (al 0)), (3, .ref (al 2)), (5, .ref (al 8)), (7, .ref (al 10)), (9, .ref (al 12)), (10, .int (nI ((L.1 1 d) % 8))), (11, .int (nI (((L.1 1 d) / 8) % 8))), (12, .int (nI (((L.1 1 d) / 64) % 8))), (13, .int (nI (((L.1 1 d) / 512) - 1)))] [.int (nI ((n_enters_278_s0' L d)))] := by
                          have q278s0 : (n_enters_278_s0' L d) ≤ 54321 := by unfold n_enters_278_s0'; (repeat' split) <;> (have := hB 1 d; omega)
                          refine aw_aload_n C dL_enters_278 rfl rfl rfl ?_
                          refine aw_iload_n C dL_enters_279 rfl rfl rfl ?_
                          refine an_iald (k := 2) (i := d) (N := 24) (v := (L.1 2 d)) C hM rfl rfl (by omega) (by rw [zJ_1]; exact (by rw [zJ_1])) dL_enters_280 rfl ?_
                          refine aw_sipush (v := nI 128) C dL_enters_281 rfl rfl ?_
                          refine an_div C (by have := hB 2 d; omega) (by decide) (by decide) dL_enters_284 rfl ?_
                          refine an_mul C dL_enters_285 rfl ?_
                          refine aw_aload_n C dL_enters_286 rfl rfl rfl ?_
                          refine aw_iload_n C dL_enters_287 rfl rfl rfl ?_
                          refine an_iald (k := 2) (i := d) (N := 24) (v := (L.1 2 d)) C hM rfl rfl (by omega) (by rw [zJ_1]; exact (by rw [zJ_1])) dL_enters_288 rfl ?_
                          refine aw_sipush (v := nI 128) C dL_enters_289 rfl rfl ?_
                          refine an_rem C (by have := hB 2 d; omega) (by decide) (by decide) dL_enters_292 rfl ?_
                          refine an_div C (Nat.lt_of_le_of_lt (Nat.mul_le_mul q278s0 hb2.2.1) (by decide)) (by have := hB 2 d; omega) (by have := hB 2 d; omega) dL_enters_293 rfl ?_
                          refine aw_istore (ls' := [(17, _), (0, _), (1, _), (3, _), (5, _), (7, _), (9, _), (10, _), (11, _), (12, _), (13, _)]) C dL_enters_294 (by decide) rfl rfl ?_
                          refine aw_pick (ls' := [(0, _), (1, _), (3, _), (5, _), (7, _), (9, _), (10, _), (11, _), (12, _), (13, _), (17, _)]) [1, 2, 3, 4, 5, 6, 7, 8, 9, 10, 0] rfl ?_
                          refine aw_aload C dL_enters_296 rfl rfl ?_
                          refine aw_iconst (v := nI 4) C dL_enters_298 rfl rfl ?_
                          refine aw_dup2 C dL_enters_299 rfl rfl rfl ?_
                          refine an_iald (k := 10) (i := 4) (N := 5) (v := (L.1 10 4)) C hM rfl rfl (by decide) (by rw [zJ_1]; exact (by rw [zJ_1])) dL_enters_300 rfl ?_
                          refine aw_iload C dL_enters_301 rfl rfl ?_
                          refine aw_iload C dL_enters_303 rfl rfl ?_
                          have K342_4 : AW x (RQ x (ZP x.g al sg0 (n_enters L d) (n_entersL L d)) noX 0 0) 0 0 sg 342 [(0, .int (nI (d))), (5, .ref (al 8)), (7, .ref (al 10)), (9, .ref (al 12)), (10, .int (nI ((L.1 1 d) % 8))), (13, .int (nI (((L.1 1 d) / 512) - 1)))] [.int (nI ((n_enters_342_s0' L d))), .int (nI (((n_enters_278_s0' L d) * ((L.1 2 d) / 128)) / ((L.1 2 d) % 128))), .int (nI ((L.1 10 4))), .int (nI (4)), .ref (al 10)] := by
                            have q342s0 : (n_enters_342_s0' L d) ≥ 1 ∧ (n_enters_342_s0' L d) ≤ 100 := by unfold n_enters_342_s0'; (repeat' split) <;> (have := hB 1 d; have := hB 2 d; have := hJ ((7 * (((L.1 1 d) / 512) - 1)) + (((L.1 1 d) / 8) % 8)); omega)
                            refine an_div C (Nat.lt_of_le_of_lt (Nat.div_le_self _ _) (Nat.lt_of_le_of_lt (Nat.mul_le_mul q278s0 hb2.2.1) (by decide))) (by omega) (by omega) dL_enters_342 rfl ?_
                            refine an_add C dL_enters_343 rfl ?_
                            refine an_iast (k := 10) (i := 4) (N := 5) (v := (L.1 10 4) + ((((n_enters_278_s0' L d) * ((L.1 2 d) / 128)) / ((L.1 2 d) % 128)) / (n_enters_342_s0' L d))) C hM hF rfl rfl (by decide) dL_enters_344 rfl (fun sg hM hF => ?_)
                            refine aw_aload C dL_enters_345 rfl rfl ?_
                            refine aw_aload C dL_enters_347 rfl rfl ?_
                            refine aw_iconst (v := nI 3) C dL_enters_349 rfl rfl ?_
                            refine an_iald (k := 10) (i := 3) (N := 5) (v := (L.1 10 3)) C hM rfl rfl (by decide) (by rw [zI_n (by decide)]; exact (by rw [zJ_1]; exact (by rw [zJ_1]))) dL_enters_350 rfl ?_
                            refine aw_iload C dL_enters_351 rfl rfl ?_
                            refine aw_bipush (v := nI 8) C dL_enters_353 rfl rfl ?_
                            refine aw_iload_n C dL_enters_355 rfl rfl rfl ?_
                            refine an_mul C dL_enters_356 rfl ?_
                            refine an_add C dL_enters_357 rfl ?_
                            refine aw_sipush (v := nI 512) C dL_enters_358 rfl rfl ?_
                            refine aw_iload C dL_enters_361 rfl rfl ?_
                            refine an_mul C dL_enters_363 rfl ?_
                            refine an_add C dL_enters_364 rfl ?_
                            refine an_iast (k := 12) (i := (L.1 10 3)) (N := 32) (v := (((L.1 1 d) % 8) + (8 * d)) + (512 * (((L.1 1 d) / 512) - 1))) C hM hF rfl rfl (by have := hB 10 3; omega) dL_enters_365 rfl (fun sg hM hF => ?_)
                            refine aw_aload C dL_enters_366 rfl rfl ?_
                            refine aw_iconst (v := nI 3) C dL_enters_368 rfl rfl ?_
                            refine aw_dup2 C dL_enters_369 rfl rfl rfl ?_
                            refine an_iald (k := 10) (i := 3) (N := 5) (v := (L.1 10 3)) C hM rfl rfl (by decide) (by rw [zI_k (by decide)]; exact (by rw [zI_n (by decide)]; exact (by rw [zJ_1]; exact (by rw [zJ_1])))) dL_enters_370 rfl ?_
                            refine aw_iconst (v := nI 1) C dL_enters_371 rfl rfl ?_
                            refine an_add C dL_enters_372 rfl ?_
                            refine an_iast (k := 10) (i := 3) (N := 5) (v := (L.1 10 3) + 1) C hM hF rfl rfl (by decide) dL_enters_373 rfl (fun sg hM hF => ?_)
                            refine aw_aload C dL_enters_374 rfl rfl ?_
                            refine aw_iload_n C dL_enters_376 rfl rfl rfl ?_
                            refine aw_aload C dL_enters_377 rfl rfl ?_
                            refine aw_iconst (v := nI 3) C dL_enters_379 rfl rfl ?_
                            refine an_iald (k := 10) (i := 3) (N := 5) (v := ((L.1 10 3) + 1)) C hM rfl rfl (by decide) zI_s dL_enters_380 rfl ?_
                            refine an_iast (k := 8) (i := d) (N := 24) (v := ((L.1 10 3) + 1)) C hM hF rfl rfl (by omega) dL_enters_381 rfl (fun sg hM hF => ?_)
                            refine aw_aload C dL_enters_382 rfl rfl ?_
                            refine aw_iconst (v := nI 3) C dL_enters_384 rfl rfl ?_
                            refine an_iald (k := 10) (i := 3) (N := 5) (v := ((L.1 10 3) + 1)) C hM rfl rfl (by decide) (by rw [zI_k (by decide)]; exact zI_s) dL_enters_385 rfl ?_
                            refine aw_iconst (v := nI 1) C dL_enters_386 rfl rfl ?_
                            refine an_sub C (by have := hB 10 3; omega) dL_enters_387 rfl ?_
                            exact aw_iret C rfl (Nat.le_refl _) (Nat.le_refl _) (ZP.of (by rw [n_enters, if_neg c53, if_pos c63, if_neg c68, if_neg c74, if_neg c81, if_neg c99, if_neg c108, if_neg c152, if_pos c158, if_neg c182, if_neg c206]) (by rw [n_entersL, if_neg c53, if_pos c63, if_neg c68, if_neg c74, if_neg c81, if_neg c99, if_neg c108, if_neg c152, if_pos c158, if_neg c182, if_neg c206]) hM hF) dL_enters_388
                          refine an_if_ne (a := (L.1 1 d) % 8) (tgt := 313) C dL_enters_305 (by have := hB 1 d; omega) (by decide) rfl (fun c305 => ?_) (fun c305 => ?_)
                          · refine aw_iload C dL_enters_313 rfl rfl ?_
                            refine aw_iconst (v := nI 2) C dL_enters_315 rfl rfl ?_
                            refine an_icmp_ne (a := (L.1 1 d) % 8) (b := 2) (tgt := 324) C dL_enters_316 (by have := hB 1 d; omega) (by decide) (by decide) rfl (fun c316 => ?_) (fun c316 => ?_)
                            · refine aw_iload C dL_enters_324 rfl rfl ?_
                              refine aw_iload C dL_enters_326 rfl rfl ?_
                              refine aw_aload_n C dL_enters_328 rfl rfl rfl ?_
                              refine cw_callSp C k_L_89 (N_kin hl hst hM hB (x0 := ((L.1 1 d) / 8) % 8) (y0 := ((L.1 1 d) / 64) % 8) (by have := hB 1 d; omega) (by have := hB 1 d; omega)) ⟨by decide, by decide⟩ rfl rfl (Nat.le_of_ble_eq_true rfl) (Nat.le_of_ble_eq_true rfl) (Nat.le_of_ble_eq_true rfl) dL_enters_329 rfl ?_
                              refine an_bif_eq (z := (n_kin (zJ (zJ L ((7 * (((L.1 1 d) / 512) - 1)) + (((L.1 1 d) / 8) % 8)) ((L.2 ((7 * (((L.1 1 d) / 512) - 1)) + (((L.1 1 d) / 8) % 8))) - ((PARTS / ((L.1 2 d) % 128)) * ((L.1 2 d) / 128)))) ((7 * (((L.1 1 d) / 512) - 1)) + (((L.1 1 d) / 64) % 8)) (((zJ L ((7 * (((L.1 1 d) / 512) - 1)) + (((L.1 1 d) / 8) % 8)) ((L.2 ((7 * (((L.1 1 d) / 512) - 1)) + (((L.1 1 d) / 8) % 8))) - ((PARTS / ((L.1 2 d) % 128)) * ((L.1 2 d) / 128)))).2 ((7 * (((L.1 1 d) / 512) - 1)) + (((L.1 1 d) / 64) % 8))) + ((PARTS / ((L.1 2 d) % 128)) * ((L.1 2 d) / 128)))) (((L.1 1 d) / 8) % 8) (((L.1 1 d) / 64) % 8))) (tgt := 340) C dL_enters_332 (by decide) rfl (fun c332 => ?_) (fun c332 => ?_)
                              · refine aw_bipush (v := nI 10) C dL_enters_340 rfl rfl ?_
                                refine aw_pick (ls' := [(0, _), (5, _), (7, _), (9, _), (10, _), (13, _)]) [0, 3, 4, 5, 6, 9] rfl ?_
                                have k9 := K342_4
                                rw [show (n_enters_342_s0' L d) = 10 from by rw [n_enters_342_s0', if_neg c305, if_neg c316, if_neg c332]] at k9
                                exact k9
                              · refine aw_bipush (v := nI 50) C dL_enters_335 rfl rfl ?_
                                refine aw_goto (tgt := 342) C dL_enters_337 (by decide) ?_
                                refine aw_pick (ls' := [(0, _), (5, _), (7, _), (9, _), (10, _), (13, _)]) [0, 3, 4, 5, 6, 9] rfl ?_
                                have k9 := K342_4
                                rw [show (n_enters_342_s0' L d) = 50 from by rw [n_enters_342_s0', if_neg c305, if_neg c316, if_pos c332]] at k9
                                exact k9
                            · refine aw_bipush (v := nI 100) C dL_enters_319 rfl rfl ?_
                              refine aw_goto (tgt := 342) C dL_enters_321 (by decide) ?_
                              refine aw_pick (ls' := [(0, _), (5, _), (7, _), (9, _), (10, _), (13, _)]) [0, 3, 4, 5, 6, 9] rfl ?_
                              have k9 := K342_4
                              rw [show (n_enters_342_s0' L d) = 100 from by rw [n_enters_342_s0', if_neg c305, if_pos c316]] at k9
                              exact k9
                          · refine aw_bipush (v := nI 20) C dL_enters_308 rfl rfl ?_
                            refine aw_goto (tgt := 342) C dL_enters_310 (by decide) ?_
                            refine aw_pick (ls' := [(0, _), (5, _), (7, _), (9, _), (10, _), (13, _)]) [0, 3, 4, 5, 6, 9] rfl ?_
                            have k9 := K342_4
                            rw [show (n_enters_342_s0' L d) = 20 from by rw [n_enters_342_s0', if_pos c305]] at k9
                            exact k9
                        refine an_if_ne (a := ((L.1 1 d) / 512) - 1) (tgt := 276) C dL_enters_267 (by have := hB 1 d; omega) (by decide) rfl (fun c267 => ?_) (fun c267 => ?_)
                        · refine aw_ldc (v := nI 54321) C dL_enters_276 q_L_88 rfl ?_
                          refine aw_pick (ls' := [(0, _), (1, _), (3, _), (5, _), (7, _), (9, _), (10, _), (11, _), (12, _), (13, _)]) [0, 1, 3, 5, 7, 9, 10, 11, 12, 13] rfl ?_
                          have k9 := K278_3
                          rw [show (n_enters_278_s0' L d) = 54321 from by rw [n_enters_278_s0', if_neg c267]] at k9
                          exact k9
                        · refine aw_sipush (v := nI 999) C dL_enters_270 rfl rfl ?_
                          refine aw_goto (tgt := 278) C dL_enters_273 (by decide) ?_
                          refine aw_pick (ls' := [(0, _), (1, _), (3, _), (5, _), (7, _), (9, _), (10, _), (11, _), (12, _), (13, _)]) [0, 1, 3, 5, 7, 9, 10, 11, 12, 13] rfl ?_
                          have k9 := K278_3
                          rw [show (n_enters_278_s0' L d) = 999 from by rw [n_enters_278_s0', if_pos c267]] at k9
                          exact k9
                      · refine aw_sipush (v := -1003) C dL_enters_209 rfl rfl ?_
                        exact aw_iret C rfl (Nat.le_refl _) (Nat.le_refl _) (ZP.of (by rw [n_enters, if_neg c53, if_pos c63, if_neg c68, if_neg c74, if_neg c81, if_neg c99, if_neg c108, if_neg c152, if_pos c158, if_neg c182, if_pos c206]) (by rw [n_entersL, if_neg c53, if_pos c63, if_neg c68, if_neg c74, if_neg c81, if_neg c99, if_neg c108, if_neg c152, if_pos c158, if_neg c182, if_pos c206]) hM hF) dL_enters_212
              · refine aw_sipush (v := -1003) C dL_enters_111 rfl rfl ?_
                exact aw_iret C rfl (Nat.le_refl _) (Nat.le_refl _) (ZP.of (by rw [n_enters, if_neg c53, if_pos c63, if_neg c68, if_neg c74, if_neg c81, if_neg c99, if_pos c108]) (by rw [n_entersL, if_neg c53, if_pos c63, if_neg c68, if_neg c74, if_neg c81, if_neg c99, if_pos c108]) hM hF) dL_enters_114
