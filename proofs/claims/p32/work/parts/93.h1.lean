/-! the law's helpers: what they compute, over naturals; their contracts -/
/-- the law's rows: bounds -/
def ZB (L : ZU) : Prop := ∀ k i, L.1 k i < 2 ^ 30
def n_able_36_s0 (L : ZU) (x0 : Nat) : Bool := (if (L.1 0 (16 + x0)) = 0 then (if (L.1 0 (32 + x0)) = 0 then (if ((L.1 0 x0) + (L.1 10 0)) < 6480 then false else true) else false) else false)
def n_able (L : ZU) (x0 : Nat) : Bool := (n_able_36_s0 L x0)
set_option maxRecDepth 100000 in
theorem N_able {g : Gx} {l : Launch} (hl : l.flags = flags0) (hst : g.Stable) {sg0 : Sg} {al : Nat → Nat} {L : ZU} {x0 : Nat} (hM : ZS g al L sg0) (hB : ZB L) (hx : x0 < 8) : MM g l yL_able cL_able 3 (some .boolean) (rmZ 1) sg0 [.int (nI (x0)), .ref (al 0), .ref (al 10)] (PP sg0 (.int (b2i (n_able L x0)))) noX := by
  refine MM.of hl hst (by decide) (Nat.le_of_ble_eq_true rfl) (fun x hg hlx C hin hout hargs => ?_)
  subst hg; subst hlx
  have C : AWC x cL_able 3 RL (rmZ 1) (some .boolean) := C
  have hF : ZFr al sg0 sg0 := ZFr.rf
  show AW x (RQ x (PP sg0 (.int (b2i (n_able L x0)))) noX 0 0) 0 0 sg0 0 [(0, .int (nI (x0))), (1, .ref (al 0)), (2, .ref (al 10))] []
  refine aw_aload_n C dL_able_0 rfl rfl rfl ?_
  refine aw_bipush (v := nI 16) C dL_able_1 rfl rfl ?_
  refine aw_iload_n C dL_able_3 rfl rfl rfl ?_
  refine an_add C dL_able_4 rfl ?_
  refine an_iald (k := 0) (i := 16 + x0) (N := 40) (v := (L.1 0 (16 + x0))) C hM rfl rfl (by omega) rfl dL_able_5 rfl ?_
  have K36_1 : AW x (RQ x (PP sg0 (.int (b2i (n_able L x0)))) noX 0 0) 0 0 sg0 36 [] [.int (b2i ((n_able_36_s0 L x0)))] := by
    exact aw_iret C (nrw_b2i _) (Nat.le_refl _) (Nat.le_refl _) (PP.of (by rw [n_able])) dL_able_36
  refine an_if_ne (a := (L.1 0 (16 + x0))) (tgt := 35) C dL_able_6 (by have := hB 0 (16 + x0); omega) (by decide) rfl (fun c6 => ?_) (fun c6 => ?_)
  · refine aw_iconst (v := nI 0) C dL_able_35 rfl rfl ?_
    refine aw_pick (ls' := []) [] rfl ?_
    have k9 := K36_1
    rw [show (n_able_36_s0 L x0) = false from by rw [n_able_36_s0, if_neg c6]] at k9
    exact k9
  · refine aw_aload_n C dL_able_9 rfl rfl rfl ?_
    refine aw_bipush (v := nI 32) C dL_able_10 rfl rfl ?_
    refine aw_iload_n C dL_able_12 rfl rfl rfl ?_
    refine an_add C dL_able_13 rfl ?_
    refine an_iald (k := 0) (i := 32 + x0) (N := 40) (v := (L.1 0 (32 + x0))) C hM rfl rfl (by omega) rfl dL_able_14 rfl ?_
    refine an_if_ne (a := (L.1 0 (32 + x0))) (tgt := 35) C dL_able_15 (by have := hB 0 (32 + x0); omega) (by decide) rfl (fun c15 => ?_) (fun c15 => ?_)
    · refine aw_iconst (v := nI 0) C dL_able_35 rfl rfl ?_
      refine aw_pick (ls' := []) [] rfl ?_
      have k9 := K36_1
      rw [show (n_able_36_s0 L x0) = false from by rw [n_able_36_s0, if_pos c6, if_neg c15]] at k9
      exact k9
    · refine aw_aload_n C dL_able_18 rfl rfl rfl ?_
      refine aw_iload_n C dL_able_19 rfl rfl rfl ?_
      refine an_iald (k := 0) (i := x0) (N := 40) (v := (L.1 0 x0)) C hM rfl rfl (by omega) rfl dL_able_20 rfl ?_
      refine aw_aload_n C dL_able_21 rfl rfl rfl ?_
      refine aw_iconst (v := nI 0) C dL_able_22 rfl rfl ?_
      refine an_iald (k := 10) (i := 0) (N := 5) (v := (L.1 10 0)) C hM rfl rfl (by decide) rfl dL_able_23 rfl ?_
      refine an_add C dL_able_24 rfl ?_
      refine aw_sipush (v := nI 6480) C dL_able_25 rfl rfl ?_
      refine an_icmp_lt (a := (L.1 0 x0) + (L.1 10 0)) (b := 6480) (tgt := 35) C dL_able_28 (by have := hB 0 x0; have := hB 10 0; omega) (by decide) (by decide) rfl (fun c28 => ?_) (fun c28 => ?_)
      · refine aw_iconst (v := nI 0) C dL_able_35 rfl rfl ?_
        refine aw_pick (ls' := []) [] rfl ?_
        have k9 := K36_1
        rw [show (n_able_36_s0 L x0) = false from by rw [n_able_36_s0, if_pos c6, if_pos c15, if_pos c28]] at k9
        exact k9
      · refine aw_iconst (v := nI 1) C dL_able_31 rfl rfl ?_
        refine aw_goto (tgt := 36) C dL_able_32 (by decide) ?_
        refine aw_pick (ls' := []) [] rfl ?_
        have k9 := K36_1
        rw [show (n_able_36_s0 L x0) = true from by rw [n_able_36_s0, if_pos c6, if_pos c15, if_neg c28]] at k9
        exact k9
def n_alone_45_s0 (L : ZU) (d : Nat) : Nat := (if ((L.1 5 d) % 4) = 2 then (if ((L.1 7 d) + 30) < ((L.1 2 d) / 2) then (L.1 7 d) + 30 else (L.1 2 d) / 2) else (L.1 2 d) / 2)
def n_alone_110_s0 (L : ZU) (d : Nat) : Bool := (if ((L.1 1 d) % 8) = 3 then (if ((L.1 5 d) % 4) = 1 then (if (n_alone_45_s0 L d) < (L.1 10 0) then false else (if ((L.1 5 d) / 4) < 2 then (if (L.1 0 (16 + (((L.1 1 d) / 8) % 8))) = 0 then true else false) else false)) else (if ((L.1 5 d) % 4) = 2 then (if (n_alone_45_s0 L d) < (L.1 10 0) then false else (if ((L.1 5 d) / 4) < 2 then (if (L.1 0 (16 + (((L.1 1 d) / 8) % 8))) = 0 then true else false) else false)) else false)) else false)
def n_alone (L : ZU) (d : Nat) : Bool := (n_alone_110_s0 L d)
set_option maxRecDepth 100000 in
theorem N_alone {g : Gx} {l : Launch} (hl : l.flags = flags0) (hst : g.Stable) {sg0 : Sg} {al : Nat → Nat} {L : ZU} {d : Nat} (hM : ZS g al L sg0) (hB : ZB L) (hd : d < 24) : MM g l yL_alone cL_alone 9 (some .boolean) (rmZ 1) sg0 [.int (nI (d)), .ref (al 0), .ref (al 1), .ref (al 2), .ref (al 5), .ref (al 7), .ref (al 10)] (PP sg0 (.int (b2i (n_alone L d)))) noX := by
  refine MM.of hl hst (by decide) (Nat.le_of_ble_eq_true rfl) (fun x hg hlx C hin hout hargs => ?_)
  subst hg; subst hlx
  have C : AWC x cL_alone 9 RL (rmZ 1) (some .boolean) := C
  have hF : ZFr al sg0 sg0 := ZFr.rf
  show AW x (RQ x (PP sg0 (.int (b2i (n_alone L d)))) noX 0 0) 0 0 sg0 0 [(0, .int (nI (d))), (1, .ref (al 0)), (2, .ref (al 1)), (3, .ref (al 2)), (4, .ref (al 5)), (5, .ref (al 7)), (6, .ref (al 10))] []
  refine aw_aload C dL_alone_0 rfl rfl ?_
  refine aw_iload_n C dL_alone_2 rfl rfl rfl ?_
  refine an_iald (k := 5) (i := d) (N := 24) (v := (L.1 5 d)) C hM rfl rfl (by omega) rfl dL_alone_3 rfl ?_
  refine aw_iconst (v := nI 4) C dL_alone_4 rfl rfl ?_
  refine an_rem C (by have := hB 5 d; omega) (by decide) (by decide) dL_alone_5 rfl ?_
  refine aw_istore (ls' := [(7, _), (0, _), (1, _), (2, _), (3, _), (4, _), (5, _), (6, _)]) C dL_alone_6 (by decide) rfl rfl ?_
  refine aw_pick (ls' := [(0, _), (1, _), (2, _), (3, _), (4, _), (5, _), (6, _), (7, _)]) [1, 2, 3, 4, 5, 6, 7, 0] rfl ?_
  refine aw_aload_n C dL_alone_8 rfl rfl rfl ?_
  refine aw_iload_n C dL_alone_9 rfl rfl rfl ?_
  refine an_iald (k := 2) (i := d) (N := 24) (v := (L.1 2 d)) C hM rfl rfl (by omega) rfl dL_alone_10 rfl ?_
  refine aw_iconst (v := nI 2) C dL_alone_11 rfl rfl ?_
  refine an_div C (by have := hB 2 d; omega) (by decide) (by decide) dL_alone_12 rfl ?_
  refine aw_istore (ls' := [(8, _), (0, _), (1, _), (2, _), (3, _), (4, _), (5, _), (6, _), (7, _)]) C dL_alone_13 (by decide) rfl rfl ?_
  refine aw_pick (ls' := [(0, _), (1, _), (2, _), (3, _), (4, _), (5, _), (6, _), (7, _), (8, _)]) [1, 2, 3, 4, 5, 6, 7, 8, 0] rfl ?_
  refine aw_iload C dL_alone_15 rfl rfl ?_
  refine aw_iconst (v := nI 2) C dL_alone_17 rfl rfl ?_
  have K45_1 : AW x (RQ x (PP sg0 (.int (b2i (n_alone L d)))) noX 0 0) 0 0 sg0 45 [(0, .int (nI (d))), (1, .ref (al 0)), (2, .ref (al 1)), (4, .ref (al 5)), (6, .ref (al 10)), (7, .int (nI ((L.1 5 d) % 4)))] [.int (nI ((n_alone_45_s0 L d)))] := by
    have q45s0 : (n_alone_45_s0 L d) < 2 ^ 31 := by unfold n_alone_45_s0; (repeat' split) <;> (have := hB 5 d; have := hB 7 d; have := hB 2 d; omega)
    refine aw_istore (ls' := [(8, _), (0, _), (1, _), (2, _), (4, _), (6, _), (7, _)]) C dL_alone_45 (by decide) rfl rfl ?_
    refine aw_pick (ls' := [(0, _), (1, _), (2, _), (4, _), (6, _), (7, _), (8, _)]) [1, 2, 3, 4, 5, 6, 0] rfl ?_
    refine aw_aload_n C dL_alone_47 rfl rfl rfl ?_
    refine aw_iload_n C dL_alone_48 rfl rfl rfl ?_
    refine an_iald (k := 1) (i := d) (N := 24) (v := (L.1 1 d)) C hM rfl rfl (by omega) rfl dL_alone_49 rfl ?_
    refine aw_bipush (v := nI 8) C dL_alone_50 rfl rfl ?_
    refine an_rem C (by have := hB 1 d; omega) (by decide) (by decide) dL_alone_52 rfl ?_
    refine aw_iconst (v := nI 3) C dL_alone_53 rfl rfl ?_
    have K110_2 : AW x (RQ x (PP sg0 (.int (b2i (n_alone L d)))) noX 0 0) 0 0 sg0 110 [] [.int (b2i ((n_alone_110_s0 L d)))] := by
      exact aw_iret C (nrw_b2i _) (Nat.le_refl _) (Nat.le_refl _) (PP.of (by rw [n_alone])) dL_alone_110
    refine an_icmp_ne (a := (L.1 1 d) % 8) (b := 3) (tgt := 109) C dL_alone_54 (by have := hB 1 d; omega) (by decide) (by decide) rfl (fun c54 => ?_) (fun c54 => ?_)
    · refine aw_iconst (v := nI 0) C dL_alone_109 rfl rfl ?_
      refine aw_pick (ls' := []) [] rfl ?_
      have k9 := K110_2
      rw [show (n_alone_110_s0 L d) = false from by rw [n_alone_110_s0, if_neg c54]] at k9
      exact k9
    · refine aw_iload C dL_alone_57 rfl rfl ?_
      refine aw_iconst (v := nI 1) C dL_alone_59 rfl rfl ?_
      refine an_icmp_eq (a := (L.1 5 d) % 4) (b := 1) (tgt := 69) C dL_alone_60 (by have := hB 5 d; omega) (by decide) (by decide) rfl (fun c60 => ?_) (fun c60 => ?_)
      · refine aw_aload C dL_alone_69 rfl rfl ?_
        refine aw_iconst (v := nI 0) C dL_alone_71 rfl rfl ?_
        refine an_iald (k := 10) (i := 0) (N := 5) (v := (L.1 10 0)) C hM rfl rfl (by decide) rfl dL_alone_72 rfl ?_
        refine aw_iload C dL_alone_73 rfl rfl ?_
        refine an_icmp_gt (a := (L.1 10 0)) (b := (n_alone_45_s0 L d)) (tgt := 109) C dL_alone_75 (by have := hB 10 0; omega) (by omega) (by decide) rfl (fun c75 => ?_) (fun c75 => ?_)
        · refine aw_iconst (v := nI 0) C dL_alone_109 rfl rfl ?_
          refine aw_pick (ls' := []) [] rfl ?_
          have k9 := K110_2
          rw [show (n_alone_110_s0 L d) = false from by rw [n_alone_110_s0, if_pos c54, if_pos c60, if_pos c75]] at k9
          exact k9
        · refine aw_aload C dL_alone_78 rfl rfl ?_
          refine aw_iload_n C dL_alone_80 rfl rfl rfl ?_
          refine an_iald (k := 5) (i := d) (N := 24) (v := (L.1 5 d)) C hM rfl rfl (by omega) rfl dL_alone_81 rfl ?_
          refine aw_iconst (v := nI 4) C dL_alone_82 rfl rfl ?_
          refine an_div C (by have := hB 5 d; omega) (by decide) (by decide) dL_alone_83 rfl ?_
          refine aw_iconst (v := nI 2) C dL_alone_84 rfl rfl ?_
          refine an_icmp_ge (a := (L.1 5 d) / 4) (b := 2) (tgt := 109) C dL_alone_85 (by have := hB 5 d; omega) (by decide) (by decide) rfl (fun c85 => ?_) (fun c85 => ?_)
          · refine aw_iconst (v := nI 0) C dL_alone_109 rfl rfl ?_
            refine aw_pick (ls' := []) [] rfl ?_
            have k9 := K110_2
            rw [show (n_alone_110_s0 L d) = false from by rw [n_alone_110_s0, if_pos c54, if_pos c60, if_neg c75, if_neg c85]] at k9
            exact k9
          · refine aw_aload_n C dL_alone_88 rfl rfl rfl ?_
            refine aw_bipush (v := nI 16) C dL_alone_89 rfl rfl ?_
            refine aw_aload_n C dL_alone_91 rfl rfl rfl ?_
            refine aw_iload_n C dL_alone_92 rfl rfl rfl ?_
            refine an_iald (k := 1) (i := d) (N := 24) (v := (L.1 1 d)) C hM rfl rfl (by omega) rfl dL_alone_93 rfl ?_
            refine aw_bipush (v := nI 8) C dL_alone_94 rfl rfl ?_
            refine an_div C (by have := hB 1 d; omega) (by decide) (by decide) dL_alone_96 rfl ?_
            refine aw_bipush (v := nI 8) C dL_alone_97 rfl rfl ?_
            refine an_rem C (by have := hB 1 d; omega) (by decide) (by decide) dL_alone_99 rfl ?_
            refine an_add C dL_alone_100 rfl ?_
            refine an_iald (k := 0) (i := 16 + (((L.1 1 d) / 8) % 8)) (N := 40) (v := (L.1 0 (16 + (((L.1 1 d) / 8) % 8)))) C hM rfl rfl (by have := hB 1 d; omega) rfl dL_alone_101 rfl ?_
            refine an_if_ne (a := (L.1 0 (16 + (((L.1 1 d) / 8) % 8)))) (tgt := 109) C dL_alone_102 (by have := hB 0 (16 + (((L.1 1 d) / 8) % 8)); have := hB 1 d; omega) (by decide) rfl (fun c102 => ?_) (fun c102 => ?_)
            · refine aw_iconst (v := nI 0) C dL_alone_109 rfl rfl ?_
              refine aw_pick (ls' := []) [] rfl ?_
              have k9 := K110_2
              rw [show (n_alone_110_s0 L d) = false from by rw [n_alone_110_s0, if_pos c54, if_pos c60, if_neg c75, if_pos c85, if_neg c102]] at k9
              exact k9
            · refine aw_iconst (v := nI 1) C dL_alone_105 rfl rfl ?_
              refine aw_goto (tgt := 110) C dL_alone_106 (by decide) ?_
              refine aw_pick (ls' := []) [] rfl ?_
              have k9 := K110_2
              rw [show (n_alone_110_s0 L d) = true from by rw [n_alone_110_s0, if_pos c54, if_pos c60, if_neg c75, if_pos c85, if_pos c102]] at k9
              exact k9
      · refine aw_iload C dL_alone_63 rfl rfl ?_
        refine aw_iconst (v := nI 2) C dL_alone_65 rfl rfl ?_
        refine an_icmp_ne (a := (L.1 5 d) % 4) (b := 2) (tgt := 109) C dL_alone_66 (by have := hB 5 d; omega) (by decide) (by decide) rfl (fun c66 => ?_) (fun c66 => ?_)
        · refine aw_iconst (v := nI 0) C dL_alone_109 rfl rfl ?_
          refine aw_pick (ls' := []) [] rfl ?_
          have k9 := K110_2
          rw [show (n_alone_110_s0 L d) = false from by rw [n_alone_110_s0, if_pos c54, if_neg c60, if_neg c66]] at k9
          exact k9
        · refine aw_aload C dL_alone_69 rfl rfl ?_
          refine aw_iconst (v := nI 0) C dL_alone_71 rfl rfl ?_
          refine an_iald (k := 10) (i := 0) (N := 5) (v := (L.1 10 0)) C hM rfl rfl (by decide) rfl dL_alone_72 rfl ?_
          refine aw_iload C dL_alone_73 rfl rfl ?_
          refine an_icmp_gt (a := (L.1 10 0)) (b := (n_alone_45_s0 L d)) (tgt := 109) C dL_alone_75 (by have := hB 10 0; omega) (by omega) (by decide) rfl (fun c75 => ?_) (fun c75 => ?_)
          · refine aw_iconst (v := nI 0) C dL_alone_109 rfl rfl ?_
            refine aw_pick (ls' := []) [] rfl ?_
            have k9 := K110_2
            rw [show (n_alone_110_s0 L d) = false from by rw [n_alone_110_s0, if_pos c54, if_neg c60, if_pos c66, if_pos c75]] at k9
            exact k9
          · refine aw_aload C dL_alone_78 rfl rfl ?_
            refine aw_iload_n C dL_alone_80 rfl rfl rfl ?_
            refine an_iald (k := 5) (i := d) (N := 24) (v := (L.1 5 d)) C hM rfl rfl (by omega) rfl dL_alone_81 rfl ?_
            refine aw_iconst (v := nI 4) C dL_alone_82 rfl rfl ?_
            refine an_div C (by have := hB 5 d; omega) (by decide) (by decide) dL_alone_83 rfl ?_
            refine aw_iconst (v := nI 2) C dL_alone_84 rfl rfl ?_
            refine an_icmp_ge (a := (L.1 5 d) / 4) (b := 2) (tgt := 109) C dL_alone_85 (by have := hB 5 d; omega) (by decide) (by decide) rfl (fun c85 => ?_) (fun c85 => ?_)
            · refine aw_iconst (v := nI 0) C dL_alone_109 rfl rfl ?_
              refine aw_pick (ls' := []) [] rfl ?_
              have k9 := K110_2
              rw [show (n_alone_110_s0 L d) = false from by rw [n_alone_110_s0, if_pos c54, if_neg c60, if_pos c66, if_neg c75, if_neg c85]] at k9
              exact k9
            · refine aw_aload_n C dL_alone_88 rfl rfl rfl ?_
              refine aw_bipush (v := nI 16) C dL_alone_89 rfl rfl ?_
              refine aw_aload_n C dL_alone_91 rfl rfl rfl ?_
              refine aw_iload_n C dL_alone_92 rfl rfl rfl ?_
              refine an_iald (k := 1) (i := d) (N := 24) (v := (L.1 1 d)) C hM rfl rfl (by omega) rfl dL_alone_93 rfl ?_
              refine aw_bipush (v := nI 8) C dL_alone_94 rfl rfl ?_
              refine an_div C (by have := hB 1 d; omega) (by decide) (by decide) dL_alone_96 rfl ?_
              refine aw_bipush (v := nI 8) C dL_alone_97 rfl rfl ?_
              refine an_rem C (by have := hB 1 d; omega) (by decide) (by decide) dL_alone_99 rfl ?_
              refine an_add C dL_alone_100 rfl ?_
              refine an_iald (k := 0) (i := 16 + (((L.1 1 d) / 8) % 8)) (N := 40) (v := (L.1 0 (16 + (((L.1 1 d) / 8) % 8)))) C hM rfl rfl (by have := hB 1 d; omega) rfl dL_alone_101 rfl ?_
              refine an_if_ne (a := (L.1 0 (16 + (((L.1 1 d) / 8) % 8)))) (tgt := 109) C dL_alone_102 (by have := hB 0 (16 + (((L.1 1 d) / 8) % 8)); have := hB 1 d; omega) (by decide) rfl (fun c102 => ?_) (fun c102 => ?_)
              · refine aw_iconst (v := nI 0) C dL_alone_109 rfl rfl ?_
                refine aw_pick (ls' := []) [] rfl ?_
                have k9 := K110_2
                rw [show (n_alone_110_s0 L d) = false from by rw [n_alone_110_s0, if_pos c54, if_neg c60, if_pos c66, if_neg c75, if_pos c85, if_neg c102]] at k9
                exact k9
              · refine aw_iconst (v := nI 1) C dL_alone_105 rfl rfl ?_
                refine aw_goto (tgt := 110) C dL_alone_106 (by decide) ?_
                refine aw_pick (ls' := []) [] rfl ?_
                have k9 := K110_2
                rw [show (n_alone_110_s0 L d) = true from by rw [n_alone_110_s0, if_pos c54, if_neg c60, if_pos c66, if_neg c75, if_pos c85, if_pos c102]] at k9
                exact k9
  refine an_icmp_ne (a := (L.1 5 d) % 4) (b := 2) (tgt := 43) C dL_alone_18 (by have := hB 5 d; omega) (by decide) (by decide) rfl (fun c18 => ?_) (fun c18 => ?_)
  · refine aw_iload C dL_alone_43 rfl rfl ?_
    refine aw_pick (ls' := [(0, _), (1, _), (2, _), (4, _), (6, _), (7, _)]) [0, 1, 2, 4, 6, 7] rfl ?_
    have k9 := K45_1
    rw [show (n_alone_45_s0 L d) = (L.1 2 d) / 2 from by rw [n_alone_45_s0, if_neg c18]] at k9
    exact k9
  · refine aw_aload C dL_alone_21 rfl rfl ?_
    refine aw_iload_n C dL_alone_23 rfl rfl rfl ?_
    refine an_iald (k := 7) (i := d) (N := 24) (v := (L.1 7 d)) C hM rfl rfl (by omega) rfl dL_alone_24 rfl ?_
    refine aw_bipush (v := nI 30) C dL_alone_25 rfl rfl ?_
    refine an_add C dL_alone_27 rfl ?_
    refine aw_iload C dL_alone_28 rfl rfl ?_
    refine an_icmp_ge (a := (L.1 7 d) + 30) (b := (L.1 2 d) / 2) (tgt := 43) C dL_alone_30 (by have := hB 7 d; omega) (by have := hB 2 d; omega) (by decide) rfl (fun c30 => ?_) (fun c30 => ?_)
    · refine aw_iload C dL_alone_43 rfl rfl ?_
      refine aw_pick (ls' := [(0, _), (1, _), (2, _), (4, _), (6, _), (7, _)]) [0, 1, 2, 4, 6, 7] rfl ?_
      have k9 := K45_1
      rw [show (n_alone_45_s0 L d) = (L.1 2 d) / 2 from by rw [n_alone_45_s0, if_pos c18, if_neg c30]] at k9
      exact k9
    · refine aw_aload C dL_alone_33 rfl rfl ?_
      refine aw_iload_n C dL_alone_35 rfl rfl rfl ?_
      refine an_iald (k := 7) (i := d) (N := 24) (v := (L.1 7 d)) C hM rfl rfl (by omega) rfl dL_alone_36 rfl ?_
      refine aw_bipush (v := nI 30) C dL_alone_37 rfl rfl ?_
      refine an_add C dL_alone_39 rfl ?_
      refine aw_goto (tgt := 45) C dL_alone_40 (by decide) ?_
      refine aw_pick (ls' := [(0, _), (1, _), (2, _), (4, _), (6, _), (7, _)]) [0, 1, 2, 4, 6, 7] rfl ?_
      have k9 := K45_1
      rw [show (n_alone_45_s0 L d) = (L.1 7 d) + 30 from by rw [n_alone_45_s0, if_pos c18, if_pos c30]] at k9
      exact k9
def n_kin_33_s0 (L : ZU) (x0 y0 : Nat) : Bool := (if (((L.1 0 (24 + x0)) / 2 ^ y0) % 2) = 1 then true else (if (((L.1 0 (24 + y0)) / 2 ^ x0) % 2) = 1 then true else false))
def n_kin (L : ZU) (x0 y0 : Nat) : Bool := (n_kin_33_s0 L x0 y0)
set_option maxRecDepth 100000 in
theorem N_kin {g : Gx} {l : Launch} (hl : l.flags = flags0) (hst : g.Stable) {sg0 : Sg} {al : Nat → Nat} {L : ZU} {x0 y0 : Nat} (hM : ZS g al L sg0) (hB : ZB L) (hx : x0 < 8) (hy : y0 < 8) : MM g l yL_kin cL_kin 3 (some .boolean) (rmZ 1) sg0 [.int (nI (x0)), .int (nI (y0)), .ref (al 0)] (PP sg0 (.int (b2i (n_kin L x0 y0)))) noX := by
  refine MM.of hl hst (by decide) (Nat.le_of_ble_eq_true rfl) (fun x hg hlx C hin hout hargs => ?_)
  subst hg; subst hlx
  have C : AWC x cL_kin 3 RL (rmZ 1) (some .boolean) := C
  have hF : ZFr al sg0 sg0 := ZFr.rf
  show AW x (RQ x (PP sg0 (.int (b2i (n_kin L x0 y0)))) noX 0 0) 0 0 sg0 0 [(0, .int (nI (x0))), (1, .int (nI (y0))), (2, .ref (al 0))] []
  refine aw_aload_n C dL_kin_0 rfl rfl rfl ?_
  refine aw_bipush (v := nI 24) C dL_kin_1 rfl rfl ?_
  refine aw_iload_n C dL_kin_3 rfl rfl rfl ?_
  refine an_add C dL_kin_4 rfl ?_
  refine an_iald (k := 0) (i := 24 + x0) (N := 40) (v := (L.1 0 (24 + x0))) C hM rfl rfl (by omega) rfl dL_kin_5 rfl ?_
  refine aw_iload_n C dL_kin_6 rfl rfl rfl ?_
  refine an_shr C (by omega) (by have := hB 0 (24 + x0); omega) dL_kin_7 rfl ?_
  refine aw_iconst (v := nI 1) C dL_kin_8 rfl rfl ?_
  refine an_and1 C dL_kin_9 rfl ?_
  refine aw_iconst (v := nI 1) C dL_kin_10 rfl rfl ?_
  have K33_1 : AW x (RQ x (PP sg0 (.int (b2i (n_kin L x0 y0)))) noX 0 0) 0 0 sg0 33 [] [.int (b2i ((n_kin_33_s0 L x0 y0)))] := by
    exact aw_iret C (nrw_b2i _) (Nat.le_refl _) (Nat.le_refl _) (PP.of (by rw [n_kin])) dL_kin_33
  refine an_icmp_eq (a := ((L.1 0 (24 + x0)) / 2 ^ y0) % 2) (b := 1) (tgt := 28) C dL_kin_11 (by have := hB 0 (24 + x0); omega) (by decide) (by decide) rfl (fun c11 => ?_) (fun c11 => ?_)
  · refine aw_iconst (v := nI 1) C dL_kin_28 rfl rfl ?_
    refine aw_goto (tgt := 33) C dL_kin_29 (by decide) ?_
    refine aw_pick (ls' := []) [] rfl ?_
    have k9 := K33_1
    rw [show (n_kin_33_s0 L x0 y0) = true from by rw [n_kin_33_s0, if_pos c11]] at k9
    exact k9
  · refine aw_aload_n C dL_kin_14 rfl rfl rfl ?_
    refine aw_bipush (v := nI 24) C dL_kin_15 rfl rfl ?_
    refine aw_iload_n C dL_kin_17 rfl rfl rfl ?_
    refine an_add C dL_kin_18 rfl ?_
    refine an_iald (k := 0) (i := 24 + y0) (N := 40) (v := (L.1 0 (24 + y0))) C hM rfl rfl (by omega) rfl dL_kin_19 rfl ?_
    refine aw_iload_n C dL_kin_20 rfl rfl rfl ?_
    refine an_shr C (by omega) (by have := hB 0 (24 + y0); omega) dL_kin_21 rfl ?_
    refine aw_iconst (v := nI 1) C dL_kin_22 rfl rfl ?_
    refine an_and1 C dL_kin_23 rfl ?_
    refine aw_iconst (v := nI 1) C dL_kin_24 rfl rfl ?_
    refine an_icmp_ne (a := ((L.1 0 (24 + y0)) / 2 ^ x0) % 2) (b := 1) (tgt := 32) C dL_kin_25 (by have := hB 0 (24 + y0); omega) (by decide) (by decide) rfl (fun c25 => ?_) (fun c25 => ?_)
    · refine aw_iconst (v := nI 0) C dL_kin_32 rfl rfl ?_
      refine aw_pick (ls' := []) [] rfl ?_
      have k9 := K33_1
      rw [show (n_kin_33_s0 L x0 y0) = false from by rw [n_kin_33_s0, if_neg c11, if_neg c25]] at k9
      exact k9
    · refine aw_iconst (v := nI 1) C dL_kin_28 rfl rfl ?_
      refine aw_goto (tgt := 33) C dL_kin_29 (by decide) ?_
      refine aw_pick (ls' := []) [] rfl ?_
      have k9 := K33_1
      rw [show (n_kin_33_s0 L x0 y0) = true from by rw [n_kin_33_s0, if_neg c11, if_pos c25]] at k9
      exact k9
