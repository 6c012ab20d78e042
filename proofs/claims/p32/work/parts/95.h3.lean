/-! the law's helpers that write: closes, signs, enters -/
def n_closes_72_s0 (L : ZU) (d : Nat) : Bool := (if ((L.1 1 d) % 8) < 3 then true else false)
def n_closes_85_s0 (L : ZU) (d : Nat) : Nat := (if (n_closes_72_s0 L d) = true then 2 else 0)
def n_closes_104_s0 (L : ZU) (d : Nat) : Nat := (if ((L.1 1 d) % 8) = 1 then 8 else (if ((L.1 1 d) % 8) = 4 then 8 else 0))
def n_closes_138_s0 (L : ZU) (d : Nat) : Nat := (if (L.1 0 (8 + (((L.1 1 d) / 8) % 8))) = 1 then 16 else (if (n_closes_72_s0 L d) = true then (if (L.1 0 (8 + (((L.1 1 d) / 64) % 8))) = 1 then 16 else 0) else 0))
def n_closes_175_s0 (L : ZU) (d : Nat) : Nat := (if (n_closes_72_s0 L d) = true then 3 else 1)
def n_closes_186_s0 (L : ZU) (d : Nat) : Nat := (if (n_closes_72_s0 L d) = true then 3 else 1)
def n_closes_194_s0 (L : ZU) (d : Nat) : Nat := (if (((L.1 4 d) % 32) &&& (((5 + (n_closes_85_s0 L d)) + (n_closes_104_s0 L d)) + (n_closes_138_s0 L d))) = (((5 + (n_closes_85_s0 L d)) + (n_closes_104_s0 L d)) + (n_closes_138_s0 L d)) then 1 else (if (((L.1 4 d) % 32) &&& (n_closes_175_s0 L d)) = (n_closes_186_s0 L d) then 2 else 3))
def n_closes (L : ZU) (d : Nat) : Int32 := (if 0 < (L.1 5 d) % 4 then (-1003) else (if 0 < (L.1 0 (16 + (((L.1 1 d) / 8) % 8))) + (L.1 0 (16 + (((L.1 1 d) / 64) % 8))) then (-1003) else (nI (n_closes_194_s0 L d))))
def n_closesL (L : ZU) (d : Nat) : ZU := (if 0 < (L.1 5 d) % 4 then L else (if 0 < (L.1 0 (16 + (((L.1 1 d) / 8) % 8))) + (L.1 0 (16 + (((L.1 1 d) / 64) % 8))) then L else (zI (zI (zI (zI (zI L 5 d ((L.1 5 d) + (n_closes_194_s0 L d))) 10 2 ((L.1 10 2) + 1)) 6 d ((L.1 10 2) + 1)) 7 d (L.1 10 0)) 9 d 1)))
set_option maxRecDepth 100000 in
theorem N_closes {g : Gx} {l : Launch} (hl : l.flags = flags0) (hst : g.Stable) {sg0 : Sg} {al : Nat → Nat} {L : ZU} {d : Nat} (hM : ZS g al L sg0) (hB : ZB L) (hd : d < 24) : MM g l yL_closes cL_closes 16 (some .int) (rmZ 1) sg0 [.int (nI (d)), .ref (al 0), .ref (al 1), .ref (al 4), .ref (al 5), .ref (al 6), .ref (al 7), .ref (al 9), .ref (al 10)] (ZP g al sg0 (n_closes L d) (n_closesL L d)) noX := by
  refine MM.of hl hst (by decide) (Nat.le_of_ble_eq_true rfl) (fun x hg hlx C hin hout hargs => ?_)
  subst hg; subst hlx
  have C : AWC x cL_closes 16 RL (rmZ 1) (some .int) := C
  have hF : ZFr al sg0 sg0 := ZFr.rf
  show AW x (RQ x (ZP x.g al sg0 (n_closes L d) (n_closesL L d)) noX 0 0) 0 0 sg0 0 [(0, .int (nI (d))), (1, .ref (al 0)), (2, .ref (al 1)), (3, .ref (al 4)), (4, .ref (al 5)), (5, .ref (al 6)), (6, .ref (al 7)), (7, .ref (al 9)), (8, .ref (al 10))] []
  refine aw_aload_n C dL_closes_0 rfl rfl rfl ?_
  refine aw_iload_n C dL_closes_1 rfl rfl rfl ?_
  refine an_iald (k := 1) (i := d) (N := 24) (v := (L.1 1 d)) C hM rfl rfl (by omega) rfl dL_closes_2 rfl ?_
  refine aw_bipush (v := nI 8) C dL_closes_3 rfl rfl ?_
  refine an_div C (by have := hB 1 d; omega) (by decide) (by decide) dL_closes_5 rfl ?_
  refine aw_bipush (v := nI 8) C dL_closes_6 rfl rfl ?_
  refine an_rem C (by have := hB 1 d; omega) (by decide) (by decide) dL_closes_8 rfl ?_
  refine aw_istore (ls' := [(9, _), (0, _), (1, _), (2, _), (3, _), (4, _), (5, _), (6, _), (7, _), (8, _)]) C dL_closes_9 (by decide) rfl rfl ?_
  refine aw_pick (ls' := [(0, _), (1, _), (2, _), (3, _), (4, _), (5, _), (6, _), (7, _), (8, _), (9, _)]) [1, 2, 3, 4, 5, 6, 7, 8, 9, 0] rfl ?_
  refine aw_aload_n C dL_closes_11 rfl rfl rfl ?_
  refine aw_iload_n C dL_closes_12 rfl rfl rfl ?_
  refine an_iald (k := 1) (i := d) (N := 24) (v := (L.1 1 d)) C hM rfl rfl (by omega) rfl dL_closes_13 rfl ?_
  refine aw_bipush (v := nI 64) C dL_closes_14 rfl rfl ?_
  refine an_div C (by have := hB 1 d; omega) (by decide) (by decide) dL_closes_16 rfl ?_
  refine aw_bipush (v := nI 8) C dL_closes_17 rfl rfl ?_
  refine an_rem C (by have := hB 1 d; omega) (by decide) (by decide) dL_closes_19 rfl ?_
  refine aw_istore (ls' := [(10, _), (0, _), (1, _), (2, _), (3, _), (4, _), (5, _), (6, _), (7, _), (8, _), (9, _)]) C dL_closes_20 (by decide) rfl rfl ?_
  refine aw_pick (ls' := [(0, _), (1, _), (2, _), (3, _), (4, _), (5, _), (6, _), (7, _), (8, _), (9, _), (10, _)]) [1, 2, 3, 4, 5, 6, 7, 8, 9, 10, 0] rfl ?_
  refine aw_aload_n C dL_closes_22 rfl rfl rfl ?_
  refine aw_iload_n C dL_closes_23 rfl rfl rfl ?_
  refine an_iald (k := 1) (i := d) (N := 24) (v := (L.1 1 d)) C hM rfl rfl (by omega) rfl dL_closes_24 rfl ?_
  refine aw_bipush (v := nI 8) C dL_closes_25 rfl rfl ?_
  refine an_rem C (by have := hB 1 d; omega) (by decide) (by decide) dL_closes_27 rfl ?_
  refine aw_istore (ls' := [(11, _), (0, _), (1, _), (2, _), (3, _), (4, _), (5, _), (6, _), (7, _), (8, _), (9, _), (10, _)]) C dL_closes_28 (by decide) rfl rfl ?_
  refine aw_pick (ls' := [(0, _), (1, _), (2, _), (3, _), (4, _), (5, _), (6, _), (7, _), (8, _), (9, _), (10, _), (11, _)]) [1, 2, 3, 4, 5, 6, 7, 8, 9, 10, 11, 0] rfl ?_
  refine aw_aload C dL_closes_30 rfl rfl ?_
  refine aw_iload_n C dL_closes_32 rfl rfl rfl ?_
  refine an_iald (k := 5) (i := d) (N := 24) (v := (L.1 5 d)) C hM rfl rfl (by omega) rfl dL_closes_33 rfl ?_
  refine aw_iconst (v := nI 4) C dL_closes_34 rfl rfl ?_
  refine an_rem C (by have := hB 5 d; omega) (by decide) (by decide) dL_closes_35 rfl ?_
  refine an_if_gt (a := (L.1 5 d) % 4) (tgt := 57) C dL_closes_36 (by have := hB 5 d; omega) (by decide) rfl (fun c36 => ?_) (fun c36 => ?_)
  · refine aw_sipush (v := -1003) C dL_closes_57 rfl rfl ?_
    exact aw_iret C rfl (Nat.le_refl _) (Nat.le_refl _) (ZP.of (by rw [n_closes, if_pos c36]) (by rw [n_closesL, if_pos c36]) hM hF) dL_closes_60
  · refine aw_aload_n C dL_closes_39 rfl rfl rfl ?_
    refine aw_bipush (v := nI 16) C dL_closes_40 rfl rfl ?_
    refine aw_iload C dL_closes_42 rfl rfl ?_
    refine an_add C dL_closes_44 rfl ?_
    refine an_iald (k := 0) (i := 16 + (((L.1 1 d) / 8) % 8)) (N := 40) (v := (L.1 0 (16 + (((L.1 1 d) / 8) % 8)))) C hM rfl rfl (by have := hB 1 d; omega) rfl dL_closes_45 rfl ?_
    refine aw_aload_n C dL_closes_46 rfl rfl rfl ?_
    refine aw_bipush (v := nI 16) C dL_closes_47 rfl rfl ?_
    refine aw_iload C dL_closes_49 rfl rfl ?_
    refine an_add C dL_closes_51 rfl ?_
    refine an_iald (k := 0) (i := 16 + (((L.1 1 d) / 64) % 8)) (N := 40) (v := (L.1 0 (16 + (((L.1 1 d) / 64) % 8)))) C hM rfl rfl (by have := hB 1 d; omega) rfl dL_closes_52 rfl ?_
    refine an_add C dL_closes_53 rfl ?_
    refine an_if_le (a := (L.1 0 (16 + (((L.1 1 d) / 8) % 8))) + (L.1 0 (16 + (((L.1 1 d) / 64) % 8)))) (tgt := 61) C dL_closes_54 (by have := hB 0 (16 + (((L.1 1 d) / 8) % 8)); have := hB 1 d; have := hB 0 (16 + (((L.1 1 d) / 64) % 8)); omega) (by decide) rfl (fun c54 => ?_) (fun c54 => ?_)
    · refine aw_iload C dL_closes_61 rfl rfl ?_
      refine aw_iconst (v := nI 3) C dL_closes_63 rfl rfl ?_
      have K72_1 : AW x (RQ x (ZP x.g al sg0 (n_closes L d) (n_closesL L d)) noX 0 0) 0 0 sg0 72 [(0, .int (nI (d))), (1, .ref (al 0)), (3, .ref (al 4)), (4, .ref (al 5)), (5, .ref (al 6)), (6, .ref (al 7)), (7, .ref (al 9)), (8, .ref (al 10)), (9, .int (nI (((L.1 1 d) / 8) % 8))), (10, .int (nI (((L.1 1 d) / 64) % 8))), (11, .int (nI ((L.1 1 d) % 8)))] [.int (b2i ((n_closes_72_s0 L d)))] := by
        refine aw_istore (ls' := [(12, _), (0, _), (1, _), (3, _), (4, _), (5, _), (6, _), (7, _), (8, _), (9, _), (10, _), (11, _)]) C dL_closes_72 (by decide) rfl rfl ?_
        refine aw_pick (ls' := [(0, _), (1, _), (3, _), (4, _), (5, _), (6, _), (7, _), (8, _), (9, _), (10, _), (11, _), (12, _)]) [1, 2, 3, 4, 5, 6, 7, 8, 9, 10, 11, 0] rfl ?_
        refine aw_iconst (v := nI 5) C dL_closes_74 rfl rfl ?_
        refine aw_iload C dL_closes_75 rfl rfl ?_
        have K85_2 : AW x (RQ x (ZP x.g al sg0 (n_closes L d) (n_closesL L d)) noX 0 0) 0 0 sg0 85 [(0, .int (nI (d))), (1, .ref (al 0)), (3, .ref (al 4)), (4, .ref (al 5)), (5, .ref (al 6)), (6, .ref (al 7)), (7, .ref (al 9)), (8, .ref (al 10)), (9, .int (nI (((L.1 1 d) / 8) % 8))), (10, .int (nI (((L.1 1 d) / 64) % 8))), (11, .int (nI ((L.1 1 d) % 8))), (12, .int (b2i ((n_closes_72_s0 L d))))] [.int (nI ((n_closes_85_s0 L d))), .int (nI (5))] := by
          have q85s0 : (n_closes_85_s0 L d) ≤ 2 := by unfold n_closes_85_s0; (repeat' split) <;> (omega)
          refine an_add C dL_closes_85 rfl ?_
          refine aw_iload C dL_closes_86 rfl rfl ?_
          refine aw_iconst (v := nI 1) C dL_closes_88 rfl rfl ?_
          have K104_3 : AW x (RQ x (ZP x.g al sg0 (n_closes L d) (n_closesL L d)) noX 0 0) 0 0 sg0 104 [(0, .int (nI (d))), (1, .ref (al 0)), (3, .ref (al 4)), (4, .ref (al 5)), (5, .ref (al 6)), (6, .ref (al 7)), (7, .ref (al 9)), (8, .ref (al 10)), (9, .int (nI (((L.1 1 d) / 8) % 8))), (10, .int (nI (((L.1 1 d) / 64) % 8))), (12, .int (b2i ((n_closes_72_s0 L d))))] [.int (nI ((n_closes_104_s0 L d))), .int (nI (5 + (n_closes_85_s0 L d)))] := by
            have q104s0 : (n_closes_104_s0 L d) ≤ 8 := by unfold n_closes_104_s0; (repeat' split) <;> (have := hB 1 d; omega)
            refine an_add C dL_closes_104 rfl ?_
            refine aw_aload_n C dL_closes_105 rfl rfl rfl ?_
            refine aw_bipush (v := nI 8) C dL_closes_106 rfl rfl ?_
            refine aw_iload C dL_closes_108 rfl rfl ?_
            refine an_add C dL_closes_110 rfl ?_
            refine an_iald (k := 0) (i := 8 + (((L.1 1 d) / 8) % 8)) (N := 40) (v := (L.1 0 (8 + (((L.1 1 d) / 8) % 8)))) C hM rfl rfl (by have := hB 1 d; omega) rfl dL_closes_111 rfl ?_
            refine aw_iconst (v := nI 1) C dL_closes_112 rfl rfl ?_
            have K138_4 : AW x (RQ x (ZP x.g al sg0 (n_closes L d) (n_closesL L d)) noX 0 0) 0 0 sg0 138 [(0, .int (nI (d))), (3, .ref (al 4)), (4, .ref (al 5)), (5, .ref (al 6)), (6, .ref (al 7)), (7, .ref (al 9)), (8, .ref (al 10)), (12, .int (b2i ((n_closes_72_s0 L d))))] [.int (nI ((n_closes_138_s0 L d))), .int (nI ((5 + (n_closes_85_s0 L d)) + (n_closes_104_s0 L d)))] := by
              have q138s0 : (n_closes_138_s0 L d) ≤ 16 := by unfold n_closes_138_s0; (repeat' split) <;> (have := hB 0 (8 + (((L.1 1 d) / 8) % 8)); have := hB 1 d; have := hB 0 (8 + (((L.1 1 d) / 64) % 8)); omega)
              refine an_add C dL_closes_138 rfl ?_
              refine aw_istore (ls' := [(13, _), (0, _), (3, _), (4, _), (5, _), (6, _), (7, _), (8, _), (12, _)]) C dL_closes_139 (by decide) rfl rfl ?_
              refine aw_pick (ls' := [(0, _), (3, _), (4, _), (5, _), (6, _), (7, _), (8, _), (12, _), (13, _)]) [1, 2, 3, 4, 5, 6, 7, 8, 0] rfl ?_
              refine aw_aload_n C dL_closes_141 rfl rfl rfl ?_
              refine aw_iload_n C dL_closes_142 rfl rfl rfl ?_
              refine an_iald (k := 4) (i := d) (N := 24) (v := (L.1 4 d)) C hM rfl rfl (by omega) rfl dL_closes_143 rfl ?_
              refine aw_bipush (v := nI 32) C dL_closes_144 rfl rfl ?_
              refine an_rem C (by have := hB 4 d; omega) (by decide) (by decide) dL_closes_146 rfl ?_
              refine aw_istore (ls' := [(14, _), (0, _), (3, _), (4, _), (5, _), (6, _), (7, _), (8, _), (12, _), (13, _)]) C dL_closes_147 (by decide) rfl rfl ?_
              refine aw_pick (ls' := [(0, _), (3, _), (4, _), (5, _), (6, _), (7, _), (8, _), (12, _), (13, _), (14, _)]) [1, 2, 3, 4, 5, 6, 7, 8, 9, 0] rfl ?_
              refine aw_iload C dL_closes_149 rfl rfl ?_
              refine aw_iload C dL_closes_151 rfl rfl ?_
              refine an_and C dL_closes_153 rfl ?_
              refine aw_iload C dL_closes_154 rfl rfl ?_
              have K194_5 : AW x (RQ x (ZP x.g al sg0 (n_closes L d) (n_closesL L d)) noX 0 0) 0 0 sg0 194 [(0, .int (nI (d))), (4, .ref (al 5)), (5, .ref (al 6)), (6, .ref (al 7)), (7, .ref (al 9)), (8, .ref (al 10))] [.int (nI ((n_closes_194_s0 L d)))] := by
                have q194s0 : (n_closes_194_s0 L d) ≤ 3 := by unfold n_closes_194_s0; (repeat' split) <;> (have := hB 4 d; omega)
                refine aw_istore (ls' := [(15, _), (0, _), (4, _), (5, _), (6, _), (7, _), (8, _)]) C dL_closes_194 (by decide) rfl rfl ?_
                refine aw_pick (ls' := [(0, _), (4, _), (5, _), (6, _), (7, _), (8, _), (15, _)]) [1, 2, 3, 4, 5, 6, 0] rfl ?_
                refine aw_aload C dL_closes_196 rfl rfl ?_
                refine aw_iload_n C dL_closes_198 rfl rfl rfl ?_
                refine aw_dup2 C dL_closes_199 rfl rfl rfl ?_
                refine an_iald (k := 5) (i := d) (N := 24) (v := (L.1 5 d)) C hM rfl rfl (by omega) rfl dL_closes_200 rfl ?_
                refine aw_iload C dL_closes_201 rfl rfl ?_
                refine an_add C dL_closes_203 rfl ?_
                refine an_iast (k := 5) (i := d) (N := 24) (v := (L.1 5 d) + (n_closes_194_s0 L d)) C hM hF rfl rfl (by omega) dL_closes_204 rfl (fun sg hM hF => ?_)
                refine aw_aload C dL_closes_205 rfl rfl ?_
                refine aw_iconst (v := nI 2) C dL_closes_207 rfl rfl ?_
                refine aw_dup2 C dL_closes_208 rfl rfl rfl ?_
                refine an_iald (k := 10) (i := 2) (N := 5) (v := (L.1 10 2)) C hM rfl rfl (by decide) (by rw [zI_k (by decide)]) dL_closes_209 rfl ?_
                refine aw_iconst (v := nI 1) C dL_closes_210 rfl rfl ?_
                refine an_add C dL_closes_211 rfl ?_
                refine an_iast (k := 10) (i := 2) (N := 5) (v := (L.1 10 2) + 1) C hM hF rfl rfl (by decide) dL_closes_212 rfl (fun sg hM hF => ?_)
                refine aw_aload C dL_closes_213 rfl rfl ?_
                refine aw_iload_n C dL_closes_215 rfl rfl rfl ?_
                refine aw_aload C dL_closes_216 rfl rfl ?_
                refine aw_iconst (v := nI 2) C dL_closes_218 rfl rfl ?_
                refine an_iald (k := 10) (i := 2) (N := 5) (v := ((L.1 10 2) + 1)) C hM rfl rfl (by decide) zI_s dL_closes_219 rfl ?_
                refine an_iast (k := 6) (i := d) (N := 24) (v := ((L.1 10 2) + 1)) C hM hF rfl rfl (by omega) dL_closes_220 rfl (fun sg hM hF => ?_)
                refine aw_aload C dL_closes_221 rfl rfl ?_
                refine aw_iload_n C dL_closes_223 rfl rfl rfl ?_
                refine aw_aload C dL_closes_224 rfl rfl ?_
                refine aw_iconst (v := nI 0) C dL_closes_226 rfl rfl ?_
                refine an_iald (k := 10) (i := 0) (N := 5) (v := (L.1 10 0)) C hM rfl rfl (by decide) (by rw [zI_k (by decide)]; exact (by rw [zI_n (by decide)]; exact (by rw [zI_k (by decide)]))) dL_closes_227 rfl ?_
                refine an_iast (k := 7) (i := d) (N := 24) (v := (L.1 10 0)) C hM hF rfl rfl (by omega) dL_closes_228 rfl (fun sg hM hF => ?_)
                refine aw_aload C dL_closes_229 rfl rfl ?_
                refine aw_iload_n C dL_closes_231 rfl rfl rfl ?_
                refine aw_iconst (v := nI 1) C dL_closes_232 rfl rfl ?_
                refine an_iast (k := 9) (i := d) (N := 24) (v := 1) C hM hF rfl rfl (by omega) dL_closes_233 rfl (fun sg hM hF => ?_)
                refine aw_iload C dL_closes_234 rfl rfl ?_
                exact aw_iret C rfl (Nat.le_refl _) (Nat.le_refl _) (ZP.of (by rw [n_closes, if_neg c36, if_neg c54]) (by rw [n_closesL, if_neg c36, if_neg c54]) hM hF) dL_closes_236
              refine an_icmp_ne (a := ((L.1 4 d) % 32) &&& (((5 + (n_closes_85_s0 L d)) + (n_closes_104_s0 L d)) + (n_closes_138_s0 L d))) (b := ((5 + (n_closes_85_s0 L d)) + (n_closes_104_s0 L d)) + (n_closes_138_s0 L d)) (tgt := 163) C dL_closes_156 (by have := hB 4 d; have := @Nat.and_le_left ((L.1 4 d) % 32) (((5 + (n_closes_85_s0 L d)) + (n_closes_104_s0 L d)) + (n_closes_138_s0 L d)); omega) (by omega) (by decide) rfl (fun c156 => ?_) (fun c156 => ?_)
              · refine aw_iload C dL_closes_163 rfl rfl ?_
                refine aw_iload C dL_closes_165 rfl rfl ?_
                have K175_6 : AW x (RQ x (ZP x.g al sg0 (n_closes L d) (n_closesL L d)) noX 0 0) 0 0 sg0 175 [(0, .int (nI (d))), (4, .ref (al 5)), (5, .ref (al 6)), (6, .ref (al 7)), (7, .ref (al 9)), (8, .ref (al 10)), (12, .int (b2i ((n_closes_72_s0 L d))))] [.int (nI ((n_closes_175_s0 L d))), .int (nI ((L.1 4 d) % 32))] := by
                  have q175s0 : (n_closes_175_s0 L d) ≤ 3 := by unfold n_closes_175_s0; (repeat' split) <;> (omega)
                  refine an_and C dL_closes_175 rfl ?_
                  refine aw_iload C dL_closes_176 rfl rfl ?_
                  have K186_7 : AW x (RQ x (ZP x.g al sg0 (n_closes L d) (n_closesL L d)) noX 0 0) 0 0 sg0 186 [(0, .int (nI (d))), (4, .ref (al 5)), (5, .ref (al 6)), (6, .ref (al 7)), (7, .ref (al 9)), (8, .ref (al 10))] [.int (nI ((n_closes_186_s0 L d))), .int (nI (((L.1 4 d) % 32) &&& (n_closes_175_s0 L d)))] := by
                    have q186s0 : (n_closes_186_s0 L d) ≤ 3 := by unfold n_closes_186_s0; (repeat' split) <;> (omega)
                    refine an_icmp_ne (a := ((L.1 4 d) % 32) &&& (n_closes_175_s0 L d)) (b := (n_closes_186_s0 L d)) (tgt := 193) C dL_closes_186 (by have := hB 4 d; have := @Nat.and_le_left ((L.1 4 d) % 32) (n_closes_175_s0 L d); omega) (by omega) (by decide) rfl (fun c186 => ?_) (fun c186 => ?_)
                    · refine aw_iconst (v := nI 3) C dL_closes_193 rfl rfl ?_
                      have k9 := K194_5
                      rw [show (n_closes_194_s0 L d) = 3 from by rw [n_closes_194_s0, if_neg c156, if_neg c186]] at k9
                      exact k9
                    · refine aw_iconst (v := nI 2) C dL_closes_189 rfl rfl ?_
                      refine aw_goto (tgt := 194) C dL_closes_190 (by decide) ?_
                      have k9 := K194_5
                      rw [show (n_closes_194_s0 L d) = 2 from by rw [n_closes_194_s0, if_neg c156, if_pos c186]] at k9
                      exact k9
                  refine an_bif_eq (z := (n_closes_72_s0 L d)) (tgt := 185) C dL_closes_178 (by decide) rfl (fun c178 => ?_) (fun c178 => ?_)
                  · refine aw_iconst (v := nI 1) C dL_closes_185 rfl rfl ?_
                    refine aw_pick (ls' := [(0, _), (4, _), (5, _), (6, _), (7, _), (8, _)]) [0, 1, 2, 3, 4, 5] rfl ?_
                    have k9 := K186_7
                    rw [show (n_closes_186_s0 L d) = 1 from by rw [n_closes_186_s0, if_neg c178]] at k9
                    exact k9
                  · refine aw_iconst (v := nI 3) C dL_closes_181 rfl rfl ?_
                    refine aw_goto (tgt := 186) C dL_closes_182 (by decide) ?_
                    refine aw_pick (ls' := [(0, _), (4, _), (5, _), (6, _), (7, _), (8, _)]) [0, 1, 2, 3, 4, 5] rfl ?_
                    have k9 := K186_7
                    rw [show (n_closes_186_s0 L d) = 3 from by rw [n_closes_186_s0, if_pos c178]] at k9
                    exact k9
                refine an_bif_eq (z := (n_closes_72_s0 L d)) (tgt := 174) C dL_closes_167 (by decide) rfl (fun c167 => ?_) (fun c167 => ?_)
                · refine aw_iconst (v := nI 1) C dL_closes_174 rfl rfl ?_
                  refine aw_pick (ls' := [(0, _), (4, _), (5, _), (6, _), (7, _), (8, _), (12, _)]) [0, 2, 3, 4, 5, 6, 7] rfl ?_
                  have k9 := K175_6
                  rw [show (n_closes_175_s0 L d) = 1 from by rw [n_closes_175_s0, if_neg c167]] at k9
                  exact k9
                · refine aw_iconst (v := nI 3) C dL_closes_170 rfl rfl ?_
                  refine aw_goto (tgt := 175) C dL_closes_171 (by decide) ?_
                  refine aw_pick (ls' := [(0, _), (4, _), (5, _), (6, _), (7, _), (8, _), (12, _)]) [0, 2, 3, 4, 5, 6, 7] rfl ?_
                  have k9 := K175_6
                  rw [show (n_closes_175_s0 L d) = 3 from by rw [n_closes_175_s0, if_pos c167]] at k9
                  exact k9
              · refine aw_iconst (v := nI 1) C dL_closes_159 rfl rfl ?_
                refine aw_goto (tgt := 194) C dL_closes_160 (by decide) ?_
                refine aw_pick (ls' := [(0, _), (4, _), (5, _), (6, _), (7, _), (8, _)]) [0, 2, 3, 4, 5, 6] rfl ?_
                have k9 := K194_5
                rw [show (n_closes_194_s0 L d) = 1 from by rw [n_closes_194_s0, if_pos c156]] at k9
                exact k9
            refine an_icmp_eq (a := (L.1 0 (8 + (((L.1 1 d) / 8) % 8)))) (b := 1) (tgt := 132) C dL_closes_113 (by have := hB 0 (8 + (((L.1 1 d) / 8) % 8)); have := hB 1 d; omega) (by decide) (by decide) rfl (fun c113 => ?_) (fun c113 => ?_)
            · refine aw_bipush (v := nI 16) C dL_closes_132 rfl rfl ?_
              refine aw_goto (tgt := 138) C dL_closes_134 (by decide) ?_
              refine aw_pick (ls' := [(0, _), (3, _), (4, _), (5, _), (6, _), (7, _), (8, _), (12, _)]) [0, 2, 3, 4, 5, 6, 7, 10] rfl ?_
              have k9 := K138_4
              rw [show (n_closes_138_s0 L d) = 16 from by rw [n_closes_138_s0, if_pos c113]] at k9
              exact k9
            · refine aw_iload C dL_closes_116 rfl rfl ?_
              refine an_bif_eq (z := (n_closes_72_s0 L d)) (tgt := 137) C dL_closes_118 (by decide) rfl (fun c118 => ?_) (fun c118 => ?_)
              · refine aw_iconst (v := nI 0) C dL_closes_137 rfl rfl ?_
                refine aw_pick (ls' := [(0, _), (3, _), (4, _), (5, _), (6, _), (7, _), (8, _), (12, _)]) [0, 2, 3, 4, 5, 6, 7, 10] rfl ?_
                have k9 := K138_4
                rw [show (n_closes_138_s0 L d) = 0 from by rw [n_closes_138_s0, if_neg c113, if_neg c118]] at k9
                exact k9
              · refine aw_aload_n C dL_closes_121 rfl rfl rfl ?_
                refine aw_bipush (v := nI 8) C dL_closes_122 rfl rfl ?_
                refine aw_iload C dL_closes_124 rfl rfl ?_
                refine an_add C dL_closes_126 rfl ?_
                refine an_iald (k := 0) (i := 8 + (((L.1 1 d) / 64) % 8)) (N := 40) (v := (L.1 0 (8 + (((L.1 1 d) / 64) % 8)))) C hM rfl rfl (by have := hB 1 d; omega) rfl dL_closes_127 rfl ?_
                refine aw_iconst (v := nI 1) C dL_closes_128 rfl rfl ?_
                refine an_icmp_ne (a := (L.1 0 (8 + (((L.1 1 d) / 64) % 8)))) (b := 1) (tgt := 137) C dL_closes_129 (by have := hB 0 (8 + (((L.1 1 d) / 64) % 8)); have := hB 1 d; omega) (by decide) (by decide) rfl (fun c129 => ?_) (fun c129 => ?_)
                · refine aw_iconst (v := nI 0) C dL_closes_137 rfl rfl ?_
                  refine aw_pick (ls' := [(0, _), (3, _), (4, _), (5, _), (6, _), (7, _), (8, _), (12, _)]) [0, 2, 3, 4, 5, 6, 7, 10] rfl ?_
                  have k9 := K138_4
                  rw [show (n_closes_138_s0 L d) = 0 from by rw [n_closes_138_s0, if_neg c113, if_pos c118, if_neg c129]] at k9
                  exact k9
                · refine aw_bipush (v := nI 16) C dL_closes_132 rfl rfl ?_
                  refine aw_goto (tgt := 138) C dL_closes_134 (by decide) ?_
                  refine aw_pick (ls' := [(0, _), (3, _), (4, _), (5, _), (6, _), (7, _), (8, _), (12, _)]) [0, 2, 3, 4, 5, 6, 7, 10] rfl ?_
                  have k9 := K138_4
                  rw [show (n_closes_138_s0 L d) = 16 from by rw [n_closes_138_s0, if_neg c113, if_pos c118, if_pos c129]] at k9
                  exact k9
          refine an_icmp_eq (a := (L.1 1 d) % 8) (b := 1) (tgt := 98) C dL_closes_89 (by have := hB 1 d; omega) (by decide) (by decide) rfl (fun c89 => ?_) (fun c89 => ?_)
          · refine aw_bipush (v := nI 8) C dL_closes_98 rfl rfl ?_
            refine aw_goto (tgt := 104) C dL_closes_100 (by decide) ?_
            refine aw_pick (ls' := [(0, _), (1, _), (3, _), (4, _), (5, _), (6, _), (7, _), (8, _), (9, _), (10, _), (12, _)]) [0, 1, 2, 3, 4, 5, 6, 7, 8, 9, 11] rfl ?_
            have k9 := K104_3
            rw [show (n_closes_104_s0 L d) = 8 from by rw [n_closes_104_s0, if_pos c89]] at k9
            exact k9
          · refine aw_iload C dL_closes_92 rfl rfl ?_
            refine aw_iconst (v := nI 4) C dL_closes_94 rfl rfl ?_
            refine an_icmp_ne (a := (L.1 1 d) % 8) (b := 4) (tgt := 103) C dL_closes_95 (by have := hB 1 d; omega) (by decide) (by decide) rfl (fun c95 => ?_) (fun c95 => ?_)
            · refine aw_iconst (v := nI 0) C dL_closes_103 rfl rfl ?_
              refine aw_pick (ls' := [(0, _), (1, _), (3, _), (4, _), (5, _), (6, _), (7, _), (8, _), (9, _), (10, _), (12, _)]) [0, 1, 2, 3, 4, 5, 6, 7, 8, 9, 11] rfl ?_
              have k9 := K104_3
              rw [show (n_closes_104_s0 L d) = 0 from by rw [n_closes_104_s0, if_neg c89, if_neg c95]] at k9
              exact k9
            · refine aw_bipush (v := nI 8) C dL_closes_98 rfl rfl ?_
              refine aw_goto (tgt := 104) C dL_closes_100 (by decide) ?_
              refine aw_pick (ls' := [(0, _), (1, _), (3, _), (4, _), (5, _), (6, _), (7, _), (8, _), (9, _), (10, _), (12, _)]) [0, 1, 2, 3, 4, 5, 6, 7, 8, 9, 11] rfl ?_
              have k9 := K104_3
              rw [show (n_closes_104_s0 L d) = 8 from by rw [n_closes_104_s0, if_neg c89, if_pos c95]] at k9
              exact k9
        refine an_bif_eq (z := (n_closes_72_s0 L d)) (tgt := 84) C dL_closes_77 (by decide) rfl (fun c77 => ?_) (fun c77 => ?_)
        · refine aw_iconst (v := nI 0) C dL_closes_84 rfl rfl ?_
          have k9 := K85_2
          rw [show (n_closes_85_s0 L d) = 0 from by rw [n_closes_85_s0, if_neg c77]] at k9
          exact k9
        · refine aw_iconst (v := nI 2) C dL_closes_80 rfl rfl ?_
          refine aw_goto (tgt := 85) C dL_closes_81 (by decide) ?_
          have k9 := K85_2
          rw [show (n_closes_85_s0 L d) = 2 from by rw [n_closes_85_s0, if_pos c77]] at k9
          exact k9
      refine an_icmp_ge (a := (L.1 1 d) % 8) (b := 3) (tgt := 71) C dL_closes_64 (by have := hB 1 d; omega) (by decide) (by decide) rfl (fun c64 => ?_) (fun c64 => ?_)
      · refine aw_iconst (v := nI 0) C dL_closes_71 rfl rfl ?_
        refine aw_pick (ls' := [(0, _), (1, _), (3, _), (4, _), (5, _), (6, _), (7, _), (8, _), (9, _), (10, _), (11, _)]) [0, 1, 3, 4, 5, 6, 7, 8, 9, 10, 11] rfl ?_
        have k9 := K72_1
        rw [show (n_closes_72_s0 L d) = false from by rw [n_closes_72_s0, if_neg c64]] at k9
        exact k9
      · refine aw_iconst (v := nI 1) C dL_closes_67 rfl rfl ?_
        refine aw_goto (tgt := 72) C dL_closes_68 (by decide) ?_
        refine aw_pick (ls' := [(0, _), (1, _), (3, _), (4, _), (5, _), (6, _), (7, _), (8, _), (9, _), (10, _), (11, _)]) [0, 1, 3, 4, 5, 6, 7, 8, 9, 10, 11] rfl ?_
        have k9 := K72_1
        rw [show (n_closes_72_s0 L d) = true from by rw [n_closes_72_s0, if_pos c64]] at k9
        exact k9
    · refine aw_sipush (v := -1003) C dL_closes_57 rfl rfl ?_
      exact aw_iret C rfl (Nat.le_refl _) (Nat.le_refl _) (ZP.of (by rw [n_closes, if_neg c36, if_pos c54]) (by rw [n_closesL, if_neg c36, if_pos c54]) hM hF) dL_closes_60
def n_signs0_27_s0 (L : ZU) (d one : Nat) (fi : Bool) : Nat := (if fi = true then ((L.1 1 d) / 8) % 8 else ((L.1 1 d) / 64) % 8)
def n_signs0_56_s0 (L : ZU) (d one : Nat) (fi : Bool) : Nat := (if fi = true then ((L.1 1 d) / 64) % 8 else ((L.1 1 d) / 8) % 8)
def n_signs0_74_s0 (L : ZU) (d one : Nat) (fi : Bool) : Bool := (if ((L.1 1 d) % 8) = 4 then true else false)
def n_signs0_98_s0 (L : ZU) (d one : Nat) (fi : Bool) : Nat := (if fi = true then 1 else 2)
def n_signs0_162_s0 (L : ZU) (d one : Nat) (fi : Bool) : Bool := (if (L.1 0 (16 + (n_signs0_27_s0 L d one fi))) = 0 then (if (L.1 0 (32 + (n_signs0_27_s0 L d one fi))) = (one + 1) then true else false) else false)
def n_signs0_329_s0 (L : ZU) (d one : Nat) (fi : Bool) : Nat := (if fi = true then 1 else 2)
def n_signs0_329_s0' (L : ZU) (d one : Nat) (fi : Bool) : Nat := (if fi = true then 1 else 2)
def n_signs0_162_s0' (L : ZU) (d one : Nat) (fi : Bool) : Bool := (if (L.1 0 (16 + (n_signs0_27_s0 L d one fi))) = 0 then (if (L.1 0 (32 + (n_signs0_27_s0 L d one fi))) = (one + 1) then true else false) else false)
def n_signs0 (L : ZU) (d one : Nat) (fi : Bool) : Int32 := (if 0 < (L.1 5 d) % 4 then (-1003) else (if 0 < (L.1 4 d) &&& (n_signs0_98_s0 L d one fi) then (-1003) else (if (n_able L one) = true then (if (n_signs0_74_s0 L d one fi) = true then (if fi = true then (if one = (n_signs0_27_s0 L d one fi) then (nI (((L.1 4 d) ||| 1) % 32)) else (-1003)) else (-1003)) else (if one = (n_signs0_27_s0 L d one fi) then (nI (((L.1 4 d) ||| (n_signs0_329_s0 L d one fi)) % 32)) else (if one = (n_signs0_56_s0 L d one fi) then (-1003) else (if (n_signs0_162_s0 L d one fi) = true then (nI (((L.1 4 d) ||| (n_signs0_329_s0' L d one fi)) % 32)) else (-1003))))) else (-1003))))
def n_signs0L (L : ZU) (d one : Nat) (fi : Bool) : ZU := (if 0 < (L.1 5 d) % 4 then L else (if 0 < (L.1 4 d) &&& (n_signs0_98_s0 L d one fi) then L else (if (n_able L one) = true then (if (n_signs0_74_s0 L d one fi) = true then (if fi = true then (if one = (n_signs0_27_s0 L d one fi) then (zI L 4 d ((L.1 4 d) ||| 1)) else L) else L) else (if one = (n_signs0_27_s0 L d one fi) then (zI L 4 d ((L.1 4 d) ||| (n_signs0_329_s0 L d one fi))) else (if one = (n_signs0_56_s0 L d one fi) then L else (if (n_signs0_162_s0 L d one fi) = true then (zI (zI L 3 d (L.1 3 d)) 4 d ((L.1 4 d) ||| (n_signs0_329_s0' L d one fi))) else L)))) else L)))
set_option maxRecDepth 100000 in
theorem N_signs0 {g : Gx} {l : Launch} (hl : l.flags = flags0) (hst : g.Stable) {sg0 : Sg} {al : Nat → Nat} {L : ZU} {d one : Nat} {fi : Bool} (hM : ZS g al L sg0) (hB : ZB L) (hd : d < 24) (ho : one < 6) (hc : ∀ i, i < 24 → L.1 3 i ≤ 24) : MM g l yL_signs cL_signs 17 (some .int) (rmZ 3) sg0 [.int (nI (d)), .int (nI (one)), .int (b2i (fi)), .int ((-1)), .ref (al 0), .ref (al 1), .ref (al 2), .ref (al 3), .ref (al 4), .ref (al 5), .ref (al 7), .ref (al 10)] (ZP g al sg0 (n_signs0 L d one fi) (n_signs0L L d one fi)) noX := by
  refine MM.of hl hst (by decide) (Nat.le_of_ble_eq_true rfl) (fun x hg hlx C hin hout hargs => ?_)
  subst hg; subst hlx
  have C : AWC x cL_signs 17 RL (rmZ 3) (some .int) := C
  have hF : ZFr al sg0 sg0 := ZFr.rf
  show AW x (RQ x (ZP x.g al sg0 (n_signs0 L d one fi) (n_signs0L L d one fi)) noX 0 0) 0 0 sg0 0 [(0, .int (nI (d))), (1, .int (nI (one))), (2, .int (b2i (fi))), (3, .int ((-1))), (4, .ref (al 0)), (5, .ref (al 1)), (6, .ref (al 2)), (7, .ref (al 3)), (8, .ref (al 4)), (9, .ref (al 5)), (10, .ref (al 7)), (11, .ref (al 10))] []
  refine aw_iload_n C dL_signs_0 rfl rfl rfl ?_
  have K27_1 : AW x (RQ x (ZP x.g al sg0 (n_signs0 L d one fi) (n_signs0L L d one fi)) noX 0 0) 0 0 sg0 27 [(0, .int (nI (d))), (1, .int (nI (one))), (2, .int (b2i (fi))), (3, .int ((-1))), (4, .ref (al 0)), (5, .ref (al 1)), (6, .ref (al 2)), (7, .ref (al 3)), (8, .ref (al 4)), (9, .ref (al 5)), (10, .ref (al 7)), (11, .ref (al 10))] [.int (nI ((n_signs0_27_s0 L d one fi)))] := by
    have q27s0 : (n_signs0_27_s0 L d one fi) < 8 := by unfold n_signs0_27_s0; (repeat' split) <;> (have := hB 1 d; omega)
    refine aw_istore (ls' := [(12, _), (0, _), (1, _), (2, _), (3, _), (4, _), (5, _), (6, _), (7, _), (8, _), (9, _), (10, _), (11, _)]) C dL_signs_27 (by decide) rfl rfl ?_
    refine aw_pick (ls' := [(0, _), (1, _), (2, _), (3, _), (4, _), (5, _), (6, _), (7, _), (8, _), (9, _), (10, _), (11, _), (12, _)]) [1, 2, 3, 4, 5, 6, 7, 8, 9, 10, 11, 12, 0] rfl ?_
    refine aw_iload_n C dL_signs_29 rfl rfl rfl ?_
    have K56_2 : AW x (RQ x (ZP x.g al sg0 (n_signs0 L d one fi) (n_signs0L L d one fi)) noX 0 0) 0 0 sg0 56 [(0, .int (nI (d))), (1, .int (nI (one))), (2, .int (b2i (fi))), (3, .int ((-1))), (4, .ref (al 0)), (5, .ref (al 1)), (6, .ref (al 2)), (7, .ref (al 3)), (8, .ref (al 4)), (9, .ref (al 5)), (10, .ref (al 7)), (11, .ref (al 10)), (12, .int (nI ((n_signs0_27_s0 L d one fi))))] [.int (nI ((n_signs0_56_s0 L d one fi)))] := by
      have q56s0 : (n_signs0_56_s0 L d one fi) < 8 := by unfold n_signs0_56_s0; (repeat' split) <;> (have := hB 1 d; omega)
      refine aw_istore (ls' := [(13, _), (0, _), (1, _), (2, _), (3, _), (4, _), (5, _), (6, _), (7, _), (8, _), (9, _), (10, _), (11, _), (12, _)]) C dL_signs_56 (by decide) rfl rfl ?_
      refine aw_pick (ls' := [(0, _), (1, _), (2, _), (3, _), (4, _), (5, _), (6, _), (7, _), (8, _), (9, _), (10, _), (11, _), (12, _), (13, _)]) [1, 2, 3, 4, 5, 6, 7, 8, 9, 10, 11, 12, 13, 0] rfl ?_
      refine aw_aload C dL_signs_58 rfl rfl ?_
      refine aw_iload_n C dL_signs_60 rfl rfl rfl ?_
      refine an_iald (k := 1) (i := d) (N := 24) (v := (L.1 1 d)) C hM rfl rfl (by omega) rfl dL_signs_61 rfl ?_
      refine aw_bipush (v := nI 8) C dL_signs_62 rfl rfl ?_
      refine an_rem C (by have := hB 1 d; omega) (by decide) (by decide) dL_signs_64 rfl ?_
      refine aw_iconst (v := nI 4) C dL_signs_65 rfl rfl ?_
      have K74_3 : AW x (RQ x (ZP x.g al sg0 (n_signs0 L d one fi) (n_signs0L L d one fi)) noX 0 0) 0 0 sg0 74 [(0, .int (nI (d))), (1, .int (nI (one))), (2, .int (b2i (fi))), (3, .int ((-1))), (4, .ref (al 0)), (5, .ref (al 1)), (6, .ref (al 2)), (7, .ref (al 3)), (8, .ref (al 4)), (9, .ref (al 5)), (10, .ref (al 7)), (11, .ref (al 10)), (12, .int (nI ((n_signs0_27_s0 L d one fi)))), (13, .int (nI ((n_signs0_56_s0 L d one fi))))] [.int (b2i ((n_signs0_74_s0 L d one fi)))] := by
        refine aw_istore (ls' := [(14, _), (0, _), (1, _), (2, _), (3, _), (4, _), (5, _), (6, _), (7, _), (8, _), (9, _), (10, _), (11, _), (12, _), (13, _)]) C dL_signs_74 (by decide) rfl rfl ?_
        refine aw_pick (ls' := [(0, _), (1, _), (2, _), (3, _), (4, _), (5, _), (6, _), (7, _), (8, _), (9, _), (10, _), (11, _), (12, _), (13, _), (14, _)]) [1, 2, 3, 4, 5, 6, 7, 8, 9, 10, 11, 12, 13, 14, 0] rfl ?_
        refine aw_aload C dL_signs_76 rfl rfl ?_
        refine aw_iload_n C dL_signs_78 rfl rfl rfl ?_
        refine an_iald (k := 5) (i := d) (N := 24) (v := (L.1 5 d)) C hM rfl rfl (by omega) rfl dL_signs_79 rfl ?_
        refine aw_iconst (v := nI 4) C dL_signs_80 rfl rfl ?_
        refine an_rem C (by have := hB 5 d; omega) (by decide) (by decide) dL_signs_81 rfl ?_
        refine an_if_gt (a := (L.1 5 d) % 4) (tgt := 128) C dL_signs_82 (by have := hB 5 d; omega) (by decide) rfl (fun c82 => ?_) (fun c82 => ?_)
        · refine aw_sipush (v := -1003) C dL_signs_128 rfl rfl ?_
          exact aw_iret C rfl (Nat.le_refl _) (Nat.le_refl _) (ZP.of (by rw [n_signs0, if_pos c82]) (by rw [n_signs0L, if_pos c82]) hM hF) dL_signs_131
        · refine aw_aload C dL_signs_85 rfl rfl ?_
          refine aw_iload_n C dL_signs_87 rfl rfl rfl ?_
          refine an_iald (k := 4) (i := d) (N := 24) (v := (L.1 4 d)) C hM rfl rfl (by omega) rfl dL_signs_88 rfl ?_
          refine aw_iload_n C dL_signs_89 rfl rfl rfl ?_
          have K98_4 : AW x (RQ x (ZP x.g al sg0 (n_signs0 L d one fi) (n_signs0L L d one fi)) noX 0 0) 0 0 sg0 98 [(0, .int (nI (d))), (1, .int (nI (one))), (2, .int (b2i (fi))), (3, .int ((-1))), (4, .ref (al 0)), (5, .ref (al 1)), (6, .ref (al 2)), (7, .ref (al 3)), (8, .ref (al 4)), (9, .ref (al 5)), (10, .ref (al 7)), (11, .ref (al 10)), (12, .int (nI ((n_signs0_27_s0 L d one fi)))), (13, .int (nI ((n_signs0_56_s0 L d one fi)))), (14, .int (b2i ((n_signs0_74_s0 L d one fi))))] [.int (nI ((n_signs0_98_s0 L d one fi))), .int (nI ((L.1 4 d)))] := by
            have q98s0 : (n_signs0_98_s0 L d one fi) ≤ 2 := by unfold n_signs0_98_s0; (repeat' split) <;> (omega)
            refine an_and C dL_signs_98 rfl ?_
            refine an_if_gt (a := (L.1 4 d) &&& (n_signs0_98_s0 L d one fi)) (tgt := 128) C dL_signs_99 (by have := hB 4 d; have := @Nat.and_le_left (L.1 4 d) (n_signs0_98_s0 L d one fi); omega) (by decide) rfl (fun c99 => ?_) (fun c99 => ?_)
            · refine aw_sipush (v := -1003) C dL_signs_128 rfl rfl ?_
              exact aw_iret C rfl (Nat.le_refl _) (Nat.le_refl _) (ZP.of (by rw [n_signs0, if_neg c82, if_pos c99]) (by rw [n_signs0L, if_neg c82, if_pos c99]) hM hF) dL_signs_131
            · refine aw_iload_n C dL_signs_102 rfl rfl rfl ?_
              refine aw_aload C dL_signs_103 rfl rfl ?_
              refine aw_aload C dL_signs_105 rfl rfl ?_
              refine cw_callSp C k_L_69 (N_able hl hst hM hB (x0 := one) (by omega)) ⟨by decide, by decide⟩ rfl rfl (Nat.le_of_ble_eq_true rfl) (Nat.le_of_ble_eq_true rfl) (Nat.le_of_ble_eq_true rfl) dL_signs_107 rfl ?_
              refine an_bif_eq (z := (n_able L one)) (tgt := 128) C dL_signs_110 (by decide) rfl (fun c110 => ?_) (fun c110 => ?_)
              · refine aw_sipush (v := -1003) C dL_signs_128 rfl rfl ?_
                exact aw_iret C rfl (Nat.le_refl _) (Nat.le_refl _) (ZP.of (by rw [n_signs0, if_neg c82, if_neg c99, if_neg c110]) (by rw [n_signs0L, if_neg c82, if_neg c99, if_neg c110]) hM hF) dL_signs_131
              · refine aw_iload C dL_signs_113 rfl rfl ?_
                refine an_bif_eq (z := (n_signs0_74_s0 L d one fi)) (tgt := 132) C dL_signs_115 (by decide) rfl (fun c115 => ?_) (fun c115 => ?_)
                · refine aw_aload C dL_signs_132 rfl rfl ?_
                  refine aw_bipush (v := nI 16) C dL_signs_134 rfl rfl ?_
                  refine aw_iload C dL_signs_136 rfl rfl ?_
                  refine an_add C dL_signs_138 rfl ?_
                  refine an_iald (k := 0) (i := 16 + (n_signs0_27_s0 L d one fi)) (N := 40) (v := (L.1 0 (16 + (n_signs0_27_s0 L d one fi)))) C hM rfl rfl (by omega) rfl dL_signs_139 rfl ?_
                  have K162_5 : AW x (RQ x (ZP x.g al sg0 (n_signs0 L d one fi) (n_signs0L L d one fi)) noX 0 0) 0 0 sg0 162 [(0, .int (nI (d))), (1, .int (nI (one))), (2, .int (b2i (fi))), (3, .int ((-1))), (4, .ref (al 0)), (5, .ref (al 1)), (6, .ref (al 2)), (7, .ref (al 3)), (8, .ref (al 4)), (9, .ref (al 5)), (10, .ref (al 7)), (11, .ref (al 10)), (12, .int (nI ((n_signs0_27_s0 L d one fi)))), (13, .int (nI ((n_signs0_56_s0 L d one fi))))] [.int (b2i ((n_signs0_162_s0 L d one fi)))] := by
                    refine aw_istore (ls' := [(15, _), (0, _), (1, _), (2, _), (3, _), (4, _), (5, _), (6, _), (7, _), (8, _), (9, _), (10, _), (11, _), (12, _), (13, _)]) C dL_signs_162 (by decide) rfl rfl ?_
                    refine aw_pick (ls' := [(0, _), (1, _), (2, _), (3, _), (4, _), (5, _), (6, _), (7, _), (8, _), (9, _), (10, _), (11, _), (12, _), (13, _), (15, _)]) [1, 2, 3, 4, 5, 6, 7, 8, 9, 10, 11, 12, 13, 14, 0] rfl ?_
                    refine aw_iload_n C dL_signs_164 rfl rfl rfl ?_
                    refine aw_iload C dL_signs_165 rfl rfl ?_
                    refine an_icmp_eq (a := one) (b := (n_signs0_27_s0 L d one fi)) (tgt := 315) C dL_signs_167 (by omega) (by omega) (by decide) rfl (fun c167 => ?_) (fun c167 => ?_)
                    · refine aw_aload C dL_signs_315 rfl rfl ?_
                      refine aw_iload_n C dL_signs_317 rfl rfl rfl ?_
                      refine aw_dup2 C dL_signs_318 rfl rfl rfl ?_
                      refine an_iald (k := 4) (i := d) (N := 24) (v := (L.1 4 d)) C hM rfl rfl (by omega) rfl dL_signs_319 rfl ?_
                      refine aw_iload_n C dL_signs_320 rfl rfl rfl ?_
                      have K329_6 : AW x (RQ x (ZP x.g al sg0 (n_signs0 L d one fi) (n_signs0L L d one fi)) noX 0 0) 0 0 sg0 329 [(0, .int (nI (d))), (8, .ref (al 4))] [.int (nI ((n_signs0_329_s0 L d one fi))), .int (nI ((L.1 4 d))), .int (nI (d)), .ref (al 4)] := by
                        have q329s0 : (n_signs0_329_s0 L d one fi) ≤ 2 := by unfold n_signs0_329_s0; (repeat' split) <;> (omega)
                        refine an_or C dL_signs_329 rfl ?_
                        refine an_iast (k := 4) (i := d) (N := 24) (v := (L.1 4 d) ||| (n_signs0_329_s0 L d one fi)) C hM hF rfl rfl (by omega) dL_signs_330 rfl (fun sg hM hF => ?_)
                        refine aw_aload C dL_signs_331 rfl rfl ?_
                        refine aw_iload_n C dL_signs_333 rfl rfl rfl ?_
                        refine an_iald (k := 4) (i := d) (N := 24) (v := ((L.1 4 d) ||| (n_signs0_329_s0 L d one fi))) C hM rfl rfl (by omega) zI_s dL_signs_334 rfl ?_
                        refine aw_bipush (v := nI 32) C dL_signs_335 rfl rfl ?_
                        refine an_rem C (by have := hB 4 d; have := @Nat.or_lt_two_pow (L.1 4 d) (n_signs0_329_s0 L d one fi) 30 (by have := hB 4 d; omega) (by omega); omega) (by decide) (by decide) dL_signs_337 rfl ?_
                        exact aw_iret C rfl (Nat.le_refl _) (Nat.le_refl _) (ZP.of (by rw [n_signs0, if_neg c82, if_neg c99, if_pos c110, if_neg c115, if_pos c167]) (by rw [n_signs0L, if_neg c82, if_neg c99, if_pos c110, if_neg c115, if_pos c167]) hM hF) dL_signs_338
                      refine an_bif_eq (z := fi) (tgt := 328) C dL_signs_321 (by decide) rfl (fun c321 => ?_) (fun c321 => ?_)
                      · refine aw_iconst (v := nI 2) C dL_signs_328 rfl rfl ?_
                        refine aw_pick (ls' := [(0, _), (8, _)]) [0, 8] rfl ?_
                        have k9 := K329_6
                        rw [show (n_signs0_329_s0 L d one fi) = 2 from by rw [n_signs0_329_s0, if_neg c321]] at k9
                        exact k9
                      · refine aw_iconst (v := nI 1) C dL_signs_324 rfl rfl ?_
                        refine aw_goto (tgt := 329) C dL_signs_325 (by decide) ?_
                        refine aw_pick (ls' := [(0, _), (8, _)]) [0, 8] rfl ?_
                        have k9 := K329_6
                        rw [show (n_signs0_329_s0 L d one fi) = 1 from by rw [n_signs0_329_s0, if_pos c321]] at k9
                        exact k9
                    · refine aw_iload_n C dL_signs_170 rfl rfl rfl ?_
                      refine aw_if_lt (tgt := 269) C dL_signs_171 (by decide) rfl (fun _ => ?_) (fun q => absurd (by decide) q)
                      refine aw_iconst (v := nI 0) C dL_signs_269 rfl rfl ?_
                      refine aw_istore (ls' := [(16, _), (0, _), (1, _), (2, _), (3, _), (4, _), (5, _), (6, _), (7, _), (8, _), (9, _), (10, _), (11, _), (12, _), (13, _), (15, _)]) C dL_signs_270 (by decide) rfl rfl ?_
                      refine aw_pick (ls' := [(0, _), (1, _), (2, _), (3, _), (4, _), (5, _), (6, _), (7, _), (8, _), (9, _), (10, _), (11, _), (12, _), (13, _), (15, _), (16, _)]) [1, 2, 3, 4, 5, 6, 7, 8, 9, 10, 11, 12, 13, 14, 15, 0] rfl ?_
                      refine aw_iload_n C dL_signs_272 rfl rfl rfl ?_
                      refine aw_iload C dL_signs_273 rfl rfl ?_
                      refine an_icmp_eq (a := one) (b := (n_signs0_56_s0 L d one fi)) (tgt := 288) C dL_signs_275 (by omega) (by omega) (by decide) rfl (fun c275 => ?_) (fun c275 => ?_)
                      · refine aw_sipush (v := -1003) C dL_signs_288 rfl rfl ?_
                        exact aw_iret C rfl (Nat.le_refl _) (Nat.le_refl _) (ZP.of (by rw [n_signs0, if_neg c82, if_neg c99, if_pos c110, if_neg c115, if_neg c167, if_pos c275]) (by rw [n_signs0L, if_neg c82, if_neg c99, if_pos c110, if_neg c115, if_neg c167, if_pos c275]) hM hF) dL_signs_291
                      · refine aw_iload C dL_signs_278 rfl rfl ?_
                        refine an_bif_ne (z := (n_signs0_162_s0 L d one fi)) (tgt := 292) C dL_signs_280 (by decide) rfl (fun c280 => ?_) (fun c280 => ?_)
                        · refine aw_aload C dL_signs_292 rfl rfl ?_
                          refine aw_iload_n C dL_signs_294 rfl rfl rfl ?_
                          refine aw_iload_n C dL_signs_295 rfl rfl rfl ?_
                          have K314_7 : AW x (RQ x (ZP x.g al sg0 (n_signs0 L d one fi) (n_signs0L L d one fi)) noX 0 0) 0 0 sg0 314 [(0, .int (nI (d))), (2, .int (b2i (fi))), (8, .ref (al 4))] [.int (nI ((L.1 3 d))), .int (nI (d)), .ref (al 3)] := by
                            refine an_iast (k := 3) (i := d) (N := 24) (v := (L.1 3 d)) C hM hF rfl rfl (by omega) dL_signs_314 rfl (fun sg hM hF => ?_)
                            refine aw_aload C dL_signs_315 rfl rfl ?_
                            refine aw_iload_n C dL_signs_317 rfl rfl rfl ?_
                            refine aw_dup2 C dL_signs_318 rfl rfl rfl ?_
                            refine an_iald (k := 4) (i := d) (N := 24) (v := (L.1 4 d)) C hM rfl rfl (by omega) (by rw [zI_k (by decide)]) dL_signs_319 rfl ?_
                            refine aw_iload_n C dL_signs_320 rfl rfl rfl ?_
                            have K329_8 : AW x (RQ x (ZP x.g al sg0 (n_signs0 L d one fi) (n_signs0L L d one fi)) noX 0 0) 0 0 sg 329 [(0, .int (nI (d))), (8, .ref (al 4))] [.int (nI ((n_signs0_329_s0' L d one fi))), .int (nI ((L.1 4 d))), .int (nI (d)), .ref (al 4)] := by
                              have q329s0 : (n_signs0_329_s0' L d one fi) ≤ 2 := by unfold n_signs0_329_s0'; (repeat' split) <;> (omega)
                              refine an_or C dL_signs_329 rfl ?_
                              refine an_iast (k := 4) (i := d) (N := 24) (v := (L.1 4 d) ||| (n_signs0_329_s0' L d one fi)) C hM hF rfl rfl (by omega) dL_signs_330 rfl (fun sg hM hF => ?_)
                              refine aw_aload C dL_signs_331 rfl rfl ?_
                              refine aw_iload_n C dL_signs_333 rfl rfl rfl ?_
                              refine an_iald (k := 4) (i := d) (N := 24) (v := ((L.1 4 d) ||| (n_signs0_329_s0' L d one fi))) C hM rfl rfl (by omega) zI_s dL_signs_334 rfl ?_
                              refine aw_bipush (v := nI 32) C dL_signs_335 rfl rfl ?_
                              refine an_rem C (by have := hB 4 d; have := @Nat.or_lt_two_pow (L.1 4 d) (n_signs0_329_s0' L d one fi) 30 (by have := hB 4 d; omega) (by omega); omega) (by decide) (by decide) dL_signs_337 rfl ?_
                              exact aw_iret C rfl (Nat.le_refl _) (Nat.le_refl _) (ZP.of (by rw [n_signs0, if_neg c82, if_neg c99, if_pos c110, if_neg c115, if_neg c167, if_neg c275, if_pos c280]) (by rw [n_signs0L, if_neg c82, if_neg c99, if_pos c110, if_neg c115, if_neg c167, if_neg c275, if_pos c280]) hM hF) dL_signs_338
                            refine an_bif_eq (z := fi) (tgt := 328) C dL_signs_321 (by decide) rfl (fun c321 => ?_) (fun c321 => ?_)
                            · refine aw_iconst (v := nI 2) C dL_signs_328 rfl rfl ?_
                              refine aw_pick (ls' := [(0, _), (8, _)]) [0, 2] rfl ?_
                              have k9 := K329_8
                              rw [show (n_signs0_329_s0' L d one fi) = 2 from by rw [n_signs0_329_s0', if_neg c321]] at k9
                              exact k9
                            · refine aw_iconst (v := nI 1) C dL_signs_324 rfl rfl ?_
                              refine aw_goto (tgt := 329) C dL_signs_325 (by decide) ?_
                              refine aw_pick (ls' := [(0, _), (8, _)]) [0, 2] rfl ?_
                              have k9 := K329_8
                              rw [show (n_signs0_329_s0' L d one fi) = 1 from by rw [n_signs0_329_s0', if_pos c321]] at k9
                              exact k9
                          refine an_bif_eq (z := fi) (tgt := 310) C dL_signs_296 (by decide) rfl (fun c296 => ?_) (fun c296 => ?_)
                          · refine aw_aload C dL_signs_310 rfl rfl ?_
                            refine aw_iload_n C dL_signs_312 rfl rfl rfl ?_
                            refine an_iald (k := 3) (i := d) (N := 24) (v := (L.1 3 d)) C hM rfl rfl (by omega) rfl dL_signs_313 rfl ?_
                            refine aw_pick (ls' := [(0, _), (2, _), (8, _)]) [0, 2, 8] rfl ?_
                            have k9 := K314_7
                            exact k9
                          · refine aw_iload C dL_signs_299 rfl rfl ?_
                            refine an_bif_ne (z := (n_signs0_162_s0 L d one fi)) (tgt := 310) C dL_signs_301 (by decide) rfl (fun _ => ?_) (fun q => absurd c280 q)
                            refine aw_aload C dL_signs_310 rfl rfl ?_
                            refine aw_iload_n C dL_signs_312 rfl rfl rfl ?_
                            refine an_iald (k := 3) (i := d) (N := 24) (v := (L.1 3 d)) C hM rfl rfl (by omega) rfl dL_signs_313 rfl ?_
                            refine aw_pick (ls' := [(0, _), (2, _), (8, _)]) [0, 2, 8] rfl ?_
                            have k9 := K314_7
                            exact k9
                        · refine aw_iload C dL_signs_283 rfl rfl ?_
                          refine an_if_ne (a := 0) (tgt := 292) C dL_signs_285 (by decide) (by decide) rfl (fun q => absurd (by decide) q) (fun _ => ?_)
                          refine aw_sipush (v := -1003) C dL_signs_288 rfl rfl ?_
                          exact aw_iret C rfl (Nat.le_refl _) (Nat.le_refl _) (ZP.of (by rw [n_signs0, if_neg c82, if_neg c99, if_pos c110, if_neg c115, if_neg c167, if_neg c275, if_neg c280]) (by rw [n_signs0L, if_neg c82, if_neg c99, if_pos c110, if_neg c115, if_neg c167, if_neg c275, if_neg c280]) hM hF) dL_signs_291
                  refine an_if_ne (a := (L.1 0 (16 + (n_signs0_27_s0 L d one fi)))) (tgt := 161) C dL_signs_140 (by have := hB 0 (16 + (n_signs0_27_s0 L d one fi)); omega) (by decide) rfl (fun c140 => ?_) (fun c140 => ?_)
                  · refine aw_iconst (v := nI 0) C dL_signs_161 rfl rfl ?_
                    refine aw_pick (ls' := [(0, _), (1, _), (2, _), (3, _), (4, _), (5, _), (6, _), (7, _), (8, _), (9, _), (10, _), (11, _), (12, _), (13, _)]) [0, 1, 2, 3, 4, 5, 6, 7, 8, 9, 10, 11, 12, 13] rfl ?_
                    have k9 := K162_5
                    rw [show (n_signs0_162_s0 L d one fi) = false from by rw [n_signs0_162_s0, if_neg c140]] at k9
                    exact k9
                  · refine aw_aload C dL_signs_143 rfl rfl ?_
                    refine aw_bipush (v := nI 32) C dL_signs_145 rfl rfl ?_
                    refine aw_iload C dL_signs_147 rfl rfl ?_
                    refine an_add C dL_signs_149 rfl ?_
                    refine an_iald (k := 0) (i := 32 + (n_signs0_27_s0 L d one fi)) (N := 40) (v := (L.1 0 (32 + (n_signs0_27_s0 L d one fi)))) C hM rfl rfl (by omega) rfl dL_signs_150 rfl ?_
                    refine aw_iload_n C dL_signs_151 rfl rfl rfl ?_
                    refine aw_iconst (v := nI 1) C dL_signs_152 rfl rfl ?_
                    refine an_add C dL_signs_153 rfl ?_
                    refine an_icmp_ne (a := (L.1 0 (32 + (n_signs0_27_s0 L d one fi)))) (b := one + 1) (tgt := 161) C dL_signs_154 (by have := hB 0 (32 + (n_signs0_27_s0 L d one fi)); omega) (by omega) (by decide) rfl (fun c154 => ?_) (fun c154 => ?_)
                    · refine aw_iconst (v := nI 0) C dL_signs_161 rfl rfl ?_
                      refine aw_pick (ls' := [(0, _), (1, _), (2, _), (3, _), (4, _), (5, _), (6, _), (7, _), (8, _), (9, _), (10, _), (11, _), (12, _), (13, _)]) [0, 1, 2, 3, 4, 5, 6, 7, 8, 9, 10, 11, 12, 13] rfl ?_
                      have k9 := K162_5
                      rw [show (n_signs0_162_s0 L d one fi) = false from by rw [n_signs0_162_s0, if_pos c140, if_neg c154]] at k9
                      exact k9
                    · refine aw_iconst (v := nI 1) C dL_signs_157 rfl rfl ?_
                      refine aw_goto (tgt := 162) C dL_signs_158 (by decide) ?_
                      refine aw_pick (ls' := [(0, _), (1, _), (2, _), (3, _), (4, _), (5, _), (6, _), (7, _), (8, _), (9, _), (10, _), (11, _), (12, _), (13, _)]) [0, 1, 2, 3, 4, 5, 6, 7, 8, 9, 10, 11, 12, 13] rfl ?_
                      have k9 := K162_5
                      rw [show (n_signs0_162_s0 L d one fi) = true from by rw [n_signs0_162_s0, if_pos c140, if_pos c154]] at k9
                      exact k9
                · refine aw_iload_n C dL_signs_118 rfl rfl rfl ?_
                  refine an_bif_eq (z := fi) (tgt := 128) C dL_signs_119 (by decide) rfl (fun c119 => ?_) (fun c119 => ?_)
                  · refine aw_sipush (v := -1003) C dL_signs_128 rfl rfl ?_
                    exact aw_iret C rfl (Nat.le_refl _) (Nat.le_refl _) (ZP.of (by rw [n_signs0, if_neg c82, if_neg c99, if_pos c110, if_pos c115, if_neg c119]) (by rw [n_signs0L, if_neg c82, if_neg c99, if_pos c110, if_pos c115, if_neg c119]) hM hF) dL_signs_131
                  · refine aw_iload_n C dL_signs_122 rfl rfl rfl ?_
                    refine aw_iload C dL_signs_123 rfl rfl ?_
                    refine an_icmp_eq (a := one) (b := (n_signs0_27_s0 L d one fi)) (tgt := 132) C dL_signs_125 (by omega) (by omega) (by decide) rfl (fun c125 => ?_) (fun c125 => ?_)
                    · refine aw_aload C dL_signs_132 rfl rfl ?_
                      refine aw_bipush (v := nI 16) C dL_signs_134 rfl rfl ?_
                      refine aw_iload C dL_signs_136 rfl rfl ?_
                      refine an_add C dL_signs_138 rfl ?_
                      refine an_iald (k := 0) (i := 16 + (n_signs0_27_s0 L d one fi)) (N := 40) (v := (L.1 0 (16 + (n_signs0_27_s0 L d one fi)))) C hM rfl rfl (by omega) rfl dL_signs_139 rfl ?_
                      have K162_9 : AW x (RQ x (ZP x.g al sg0 (n_signs0 L d one fi) (n_signs0L L d one fi)) noX 0 0) 0 0 sg0 162 [(0, .int (nI (d))), (1, .int (nI (one))), (2, .int (b2i (fi))), (3, .int ((-1))), (4, .ref (al 0)), (5, .ref (al 1)), (6, .ref (al 2)), (7, .ref (al 3)), (8, .ref (al 4)), (9, .ref (al 5)), (10, .ref (al 7)), (11, .ref (al 10)), (12, .int (nI ((n_signs0_27_s0 L d one fi)))), (13, .int (nI ((n_signs0_56_s0 L d one fi))))] [.int (b2i ((n_signs0_162_s0' L d one fi)))] := by
                        refine aw_istore (ls' := [(15, _), (0, _), (1, _), (2, _), (3, _), (4, _), (5, _), (6, _), (7, _), (8, _), (9, _), (10, _), (11, _), (12, _), (13, _)]) C dL_signs_162 (by decide) rfl rfl ?_
                        refine aw_pick (ls' := [(0, _), (1, _), (2, _), (3, _), (4, _), (5, _), (6, _), (7, _), (8, _), (9, _), (10, _), (11, _), (12, _), (13, _), (15, _)]) [1, 2, 3, 4, 5, 6, 7, 8, 9, 10, 11, 12, 13, 14, 0] rfl ?_
                        refine aw_iload_n C dL_signs_164 rfl rfl rfl ?_
                        refine aw_iload C dL_signs_165 rfl rfl ?_
                        refine an_icmp_eq (a := one) (b := (n_signs0_27_s0 L d one fi)) (tgt := 315) C dL_signs_167 (by omega) (by omega) (by decide) rfl (fun _ => ?_) (fun q => absurd c125 q)
                        refine aw_aload C dL_signs_315 rfl rfl ?_
                        refine aw_iload_n C dL_signs_317 rfl rfl rfl ?_
                        refine aw_dup2 C dL_signs_318 rfl rfl rfl ?_
                        refine an_iald (k := 4) (i := d) (N := 24) (v := (L.1 4 d)) C hM rfl rfl (by omega) rfl dL_signs_319 rfl ?_
                        refine aw_iload_n C dL_signs_320 rfl rfl rfl ?_
                        refine an_bif_eq (z := fi) (tgt := 328) C dL_signs_321 (by decide) rfl (fun q => absurd c119 q) (fun _ => ?_)
                        refine aw_iconst (v := nI 1) C dL_signs_324 rfl rfl ?_
                        refine aw_goto (tgt := 329) C dL_signs_325 (by decide) ?_
                        refine an_or C dL_signs_329 rfl ?_
                        refine an_iast (k := 4) (i := d) (N := 24) (v := (L.1 4 d) ||| 1) C hM hF rfl rfl (by omega) dL_signs_330 rfl (fun sg hM hF => ?_)
                        refine aw_aload C dL_signs_331 rfl rfl ?_
                        refine aw_iload_n C dL_signs_333 rfl rfl rfl ?_
                        refine an_iald (k := 4) (i := d) (N := 24) (v := ((L.1 4 d) ||| 1)) C hM rfl rfl (by omega) zI_s dL_signs_334 rfl ?_
                        refine aw_bipush (v := nI 32) C dL_signs_335 rfl rfl ?_
                        refine an_rem C (by have := hB 4 d; have := @Nat.or_lt_two_pow (L.1 4 d) 1 30 (by have := hB 4 d; omega) (by decide); omega) (by decide) (by decide) dL_signs_337 rfl ?_
                        exact aw_iret C rfl (Nat.le_refl _) (Nat.le_refl _) (ZP.of (by rw [n_signs0, if_neg c82, if_neg c99, if_pos c110, if_pos c115, if_pos c119, if_pos c125]) (by rw [n_signs0L, if_neg c82, if_neg c99, if_pos c110, if_pos c115, if_pos c119, if_pos c125]) hM hF) dL_signs_338
                      refine an_if_ne (a := (L.1 0 (16 + (n_signs0_27_s0 L d one fi)))) (tgt := 161) C dL_signs_140 (by have := hB 0 (16 + (n_signs0_27_s0 L d one fi)); omega) (by decide) rfl (fun c140 => ?_) (fun c140 => ?_)
                      · refine aw_iconst (v := nI 0) C dL_signs_161 rfl rfl ?_
                        refine aw_pick (ls' := [(0, _), (1, _), (2, _), (3, _), (4, _), (5, _), (6, _), (7, _), (8, _), (9, _), (10, _), (11, _), (12, _), (13, _)]) [0, 1, 2, 3, 4, 5, 6, 7, 8, 9, 10, 11, 12, 13] rfl ?_
                        have k9 := K162_9
                        rw [show (n_signs0_162_s0' L d one fi) = false from by rw [n_signs0_162_s0', if_neg c140]] at k9
                        exact k9
                      · refine aw_aload C dL_signs_143 rfl rfl ?_
                        refine aw_bipush (v := nI 32) C dL_signs_145 rfl rfl ?_
                        refine aw_iload C dL_signs_147 rfl rfl ?_
                        refine an_add C dL_signs_149 rfl ?_
                        refine an_iald (k := 0) (i := 32 + (n_signs0_27_s0 L d one fi)) (N := 40) (v := (L.1 0 (32 + (n_signs0_27_s0 L d one fi)))) C hM rfl rfl (by omega) rfl dL_signs_150 rfl ?_
                        refine aw_iload_n C dL_signs_151 rfl rfl rfl ?_
                        refine aw_iconst (v := nI 1) C dL_signs_152 rfl rfl ?_
                        refine an_add C dL_signs_153 rfl ?_
                        refine an_icmp_ne (a := (L.1 0 (32 + (n_signs0_27_s0 L d one fi)))) (b := one + 1) (tgt := 161) C dL_signs_154 (by have := hB 0 (32 + (n_signs0_27_s0 L d one fi)); omega) (by omega) (by decide) rfl (fun c154 => ?_) (fun c154 => ?_)
                        · refine aw_iconst (v := nI 0) C dL_signs_161 rfl rfl ?_
                          refine aw_pick (ls' := [(0, _), (1, _), (2, _), (3, _), (4, _), (5, _), (6, _), (7, _), (8, _), (9, _), (10, _), (11, _), (12, _), (13, _)]) [0, 1, 2, 3, 4, 5, 6, 7, 8, 9, 10, 11, 12, 13] rfl ?_
                          have k9 := K162_9
                          rw [show (n_signs0_162_s0' L d one fi) = false from by rw [n_signs0_162_s0', if_pos c140, if_neg c154]] at k9
                          exact k9
                        · refine aw_iconst (v := nI 1) C dL_signs_157 rfl rfl ?_
                          refine aw_goto (tgt := 162) C dL_signs_158 (by decide) ?_
                          refine aw_pick (ls' := [(0, _), (1, _), (2, _), (3, _), (4, _), (5, _), (6, _), (7, _), (8, _), (9, _), (10, _), (11, _), (12, _), (13, _)]) [0, 1, 2, 3, 4, 5, 6, 7, 8, 9, 10, 11, 12, 13] rfl ?_
                          have k9 := K162_9
                          rw [show (n_signs0_162_s0' L d one fi) = true from by rw [n_signs0_162_s0', if_pos c140, if_pos c154]] at k9
                          exact k9
                    · refine aw_sipush (v := -1003) C dL_signs_128 rfl rfl ?_
                      exact aw_iret C rfl (Nat.le_refl _) (Nat.le_refl _) (ZP.of (by rw [n_signs0, if_neg c82, if_neg c99, if_pos c110, if_pos c115, if_pos c119, if_neg c125]) (by rw [n_signs0L, if_neg c82, if_neg c99, if_pos c110, if_pos c115, if_pos c119, if_neg c125]) hM hF) dL_signs_131
          refine an_bif_eq (z := fi) (tgt := 97) C dL_signs_90 (by decide) rfl (fun c90 => ?_) (fun c90 => ?_)
          · refine aw_iconst (v := nI 2) C dL_signs_97 rfl rfl ?_
            have k9 := K98_4
            rw [show (n_signs0_98_s0 L d one fi) = 2 from by rw [n_signs0_98_s0, if_neg c90]] at k9
            exact k9
          · refine aw_iconst (v := nI 1) C dL_signs_93 rfl rfl ?_
            refine aw_goto (tgt := 98) C dL_signs_94 (by decide) ?_
            have k9 := K98_4
            rw [show (n_signs0_98_s0 L d one fi) = 1 from by rw [n_signs0_98_s0, if_pos c90]] at k9
            exact k9
      refine an_icmp_ne (a := (L.1 1 d) % 8) (b := 4) (tgt := 73) C dL_signs_66 (by have := hB 1 d; omega) (by decide) (by decide) rfl (fun c66 => ?_) (fun c66 => ?_)
      · refine aw_iconst (v := nI 0) C dL_signs_73 rfl rfl ?_
        have k9 := K74_3
        rw [show (n_signs0_74_s0 L d one fi) = false from by rw [n_signs0_74_s0, if_neg c66]] at k9
        exact k9
      · refine aw_iconst (v := nI 1) C dL_signs_69 rfl rfl ?_
        refine aw_goto (tgt := 74) C dL_signs_70 (by decide) ?_
        have k9 := K74_3
        rw [show (n_signs0_74_s0 L d one fi) = true from by rw [n_signs0_74_s0, if_pos c66]] at k9
        exact k9
    refine an_bif_eq (z := fi) (tgt := 46) C dL_signs_30 (by decide) rfl (fun c30 => ?_) (fun c30 => ?_)
    · refine aw_aload C dL_signs_46 rfl rfl ?_
      refine aw_iload_n C dL_signs_48 rfl rfl rfl ?_
      refine an_iald (k := 1) (i := d) (N := 24) (v := (L.1 1 d)) C hM rfl rfl (by omega) rfl dL_signs_49 rfl ?_
      refine aw_bipush (v := nI 8) C dL_signs_50 rfl rfl ?_
      refine an_div C (by have := hB 1 d; omega) (by decide) (by decide) dL_signs_52 rfl ?_
      refine aw_bipush (v := nI 8) C dL_signs_53 rfl rfl ?_
      refine an_rem C (by have := hB 1 d; omega) (by decide) (by decide) dL_signs_55 rfl ?_
      have k9 := K56_2
      rw [show (n_signs0_56_s0 L d one fi) = ((L.1 1 d) / 8) % 8 from by rw [n_signs0_56_s0, if_neg c30]] at k9
      exact k9
    · refine aw_aload C dL_signs_33 rfl rfl ?_
      refine aw_iload_n C dL_signs_35 rfl rfl rfl ?_
      refine an_iald (k := 1) (i := d) (N := 24) (v := (L.1 1 d)) C hM rfl rfl (by omega) rfl dL_signs_36 rfl ?_
      refine aw_bipush (v := nI 64) C dL_signs_37 rfl rfl ?_
      refine an_div C (by have := hB 1 d; omega) (by decide) (by decide) dL_signs_39 rfl ?_
      refine aw_bipush (v := nI 8) C dL_signs_40 rfl rfl ?_
      refine an_rem C (by have := hB 1 d; omega) (by decide) (by decide) dL_signs_42 rfl ?_
      refine aw_goto (tgt := 56) C dL_signs_43 (by decide) ?_
      have k9 := K56_2
      rw [show (n_signs0_56_s0 L d one fi) = ((L.1 1 d) / 64) % 8 from by rw [n_signs0_56_s0, if_pos c30]] at k9
      exact k9
  refine an_bif_eq (z := fi) (tgt := 17) C dL_signs_1 (by decide) rfl (fun c1 => ?_) (fun c1 => ?_)
  · refine aw_aload C dL_signs_17 rfl rfl ?_
    refine aw_iload_n C dL_signs_19 rfl rfl rfl ?_
    refine an_iald (k := 1) (i := d) (N := 24) (v := (L.1 1 d)) C hM rfl rfl (by omega) rfl dL_signs_20 rfl ?_
    refine aw_bipush (v := nI 64) C dL_signs_21 rfl rfl ?_
    refine an_div C (by have := hB 1 d; omega) (by decide) (by decide) dL_signs_23 rfl ?_
    refine aw_bipush (v := nI 8) C dL_signs_24 rfl rfl ?_
    refine an_rem C (by have := hB 1 d; omega) (by decide) (by decide) dL_signs_26 rfl ?_
    have k9 := K27_1
    rw [show (n_signs0_27_s0 L d one fi) = ((L.1 1 d) / 64) % 8 from by rw [n_signs0_27_s0, if_neg c1]] at k9
    exact k9
  · refine aw_aload C dL_signs_4 rfl rfl ?_
    refine aw_iload_n C dL_signs_6 rfl rfl rfl ?_
    refine an_iald (k := 1) (i := d) (N := 24) (v := (L.1 1 d)) C hM rfl rfl (by omega) rfl dL_signs_7 rfl ?_
    refine aw_bipush (v := nI 8) C dL_signs_8 rfl rfl ?_
    refine an_div C (by have := hB 1 d; omega) (by decide) (by decide) dL_signs_10 rfl ?_
    refine aw_bipush (v := nI 8) C dL_signs_11 rfl rfl ?_
    refine an_rem C (by have := hB 1 d; omega) (by decide) (by decide) dL_signs_13 rfl ?_
    refine aw_goto (tgt := 27) C dL_signs_14 (by decide) ?_
    have k9 := K27_1
    rw [show (n_signs0_27_s0 L d one fi) = ((L.1 1 d) / 8) % 8 from by rw [n_signs0_27_s0, if_pos c1]] at k9
    exact k9
def n_signs1_27_s0 (L : ZU) (d one : Nat) (fi : Bool) (k : Nat) : Nat := (if fi = true then ((L.1 1 d) / 8) % 8 else ((L.1 1 d) / 64) % 8)
def n_signs1_56_s0 (L : ZU) (d one : Nat) (fi : Bool) (k : Nat) : Nat := (if fi = true then ((L.1 1 d) / 64) % 8 else ((L.1 1 d) / 8) % 8)
def n_signs1_74_s0 (L : ZU) (d one : Nat) (fi : Bool) (k : Nat) : Bool := (if ((L.1 1 d) % 8) = 4 then true else false)
def n_signs1_98_s0 (L : ZU) (d one : Nat) (fi : Bool) (k : Nat) : Nat := (if fi = true then 1 else 2)
def n_signs1_162_s0 (L : ZU) (d one : Nat) (fi : Bool) (k : Nat) : Bool := (if (L.1 0 (16 + (n_signs1_27_s0 L d one fi k))) = 0 then (if (L.1 0 (32 + (n_signs1_27_s0 L d one fi k))) = (one + 1) then true else false) else false)
def n_signs1_329_s0 (L : ZU) (d one : Nat) (fi : Bool) (k : Nat) : Nat := (if fi = true then 1 else 2)
def n_signs1_270_s0 (L : ZU) (d one : Nat) (fi : Bool) (k : Nat) : Bool := (if (L.1 0 (16 + (n_signs1_27_s0 L d one fi k))) = 0 then (if (n_good L k) = true then (if (((L.1 1 k) / 8) % 8) = (n_signs1_27_s0 L d one fi k) then (if (((L.1 1 k) / 64) % 8) = one then (if (L.1 1 k) / 512 = 0 then true else (if ((L.1 1 k) / 512) = ((L.1 1 d) / 512) then true else false)) else false) else false) else false) else false)
def n_signs1_329_s0' (L : ZU) (d one : Nat) (fi : Bool) (k : Nat) : Nat := (if fi = true then 1 else 2)
def n_signs1_314_s0 (L : ZU) (d one : Nat) (fi : Bool) (k : Nat) : Nat := (if fi = true then k + 1 else (L.1 3 d))
def n_signs1_329_s0'' (L : ZU) (d one : Nat) (fi : Bool) (k : Nat) : Nat := (if fi = true then 1 else 2)
def n_signs1_162_s0' (L : ZU) (d one : Nat) (fi : Bool) (k : Nat) : Bool := (if (L.1 0 (16 + (n_signs1_27_s0 L d one fi k))) = 0 then (if (L.1 0 (32 + (n_signs1_27_s0 L d one fi k))) = (one + 1) then true else false) else false)
def n_signs1 (L : ZU) (d one : Nat) (fi : Bool) (k : Nat) : Int32 := (if 0 < (L.1 5 d) % 4 then (-1003) else (if 0 < (L.1 4 d) &&& (n_signs1_98_s0 L d one fi k) then (-1003) else (if (n_able L one) = true then (if (n_signs1_74_s0 L d one fi k) = true then (if fi = true then (if one = (n_signs1_27_s0 L d one fi k) then (nI (((L.1 4 d) ||| 1) % 32)) else (-1003)) else (-1003)) else (if one = (n_signs1_27_s0 L d one fi k) then (nI (((L.1 4 d) ||| (n_signs1_329_s0 L d one fi k)) % 32)) else (if one = (n_signs1_56_s0 L d one fi k) then (-1003) else (if (n_signs1_162_s0 L d one fi k) = true then (nI (((L.1 4 d) ||| (n_signs1_329_s0' L d one fi k)) % 32)) else (if (n_signs1_270_s0 L d one fi k) = true then (nI (((L.1 4 d) ||| (n_signs1_329_s0'' L d one fi k)) % 32)) else (-1003)))))) else (-1003))))
def n_signs1L (L : ZU) (d one : Nat) (fi : Bool) (k : Nat) : ZU := (if 0 < (L.1 5 d) % 4 then L else (if 0 < (L.1 4 d) &&& (n_signs1_98_s0 L d one fi k) then L else (if (n_able L one) = true then (if (n_signs1_74_s0 L d one fi k) = true then (if fi = true then (if one = (n_signs1_27_s0 L d one fi k) then (zI L 4 d ((L.1 4 d) ||| 1)) else L) else L) else (if one = (n_signs1_27_s0 L d one fi k) then (zI L 4 d ((L.1 4 d) ||| (n_signs1_329_s0 L d one fi k))) else (if one = (n_signs1_56_s0 L d one fi k) then L else (if (n_signs1_162_s0 L d one fi k) = true then (zI (zI L 3 d (L.1 3 d)) 4 d ((L.1 4 d) ||| (n_signs1_329_s0' L d one fi k))) else (if (n_signs1_270_s0 L d one fi k) = true then (zI (zI L 3 d (n_signs1_314_s0 L d one fi k)) 4 d ((L.1 4 d) ||| (n_signs1_329_s0'' L d one fi k))) else L))))) else L)))
set_option maxRecDepth 100000 in
theorem N_signs1 {g : Gx} {l : Launch} (hl : l.flags = flags0) (hst : g.Stable) {sg0 : Sg} {al : Nat → Nat} {L : ZU} {d one : Nat} {fi : Bool} {k : Nat} (hM : ZS g al L sg0) (hB : ZB L) (hd : d < 24) (ho : one < 6) (hc : ∀ i, i < 24 → L.1 3 i ≤ 24) (hk : k < 24) : MM g l yL_signs cL_signs 17 (some .int) (rmZ 3) sg0 [.int (nI (d)), .int (nI (one)), .int (b2i (fi)), .int (nI (k)), .ref (al 0), .ref (al 1), .ref (al 2), .ref (al 3), .ref (al 4), .ref (al 5), .ref (al 7), .ref (al 10)] (ZP g al sg0 (n_signs1 L d one fi k) (n_signs1L L d one fi k)) noX := by
  refine MM.of hl hst (by decide) (Nat.le_of_ble_eq_true rfl) (fun x hg hlx C hin hout hargs => ?_)
  subst hg; subst hlx
  have C : AWC x cL_signs 17 RL (rmZ 3) (some .int) := C
  have hF : ZFr al sg0 sg0 := ZFr.rf
  show AW x (RQ x (ZP x.g al sg0 (n_signs1 L d one fi k) (n_signs1L L d one fi k)) noX 0 0) 0 0 sg0 0 [(0, .int (nI (d))), (1, .int (nI (one))), (2, .int (b2i (fi))), (3, .int (nI (k))), (4, .ref (al 0)), (5, .ref (al 1)), (6, .ref (al 2)), (7, .ref (al 3)), (8, .ref (al 4)), (9, .ref (al 5)), (10, .ref (al 7)), (11, .ref (al 10))] []
  refine aw_iload_n C dL_signs_0 rfl rfl rfl ?_
  have K27_1 : AW x (RQ x (ZP x.g al sg0 (n_signs1 L d one fi k) (n_signs1L L d one fi k)) noX 0 0) 0 0 sg0 27 [(0, .int (nI (d))), (1, .int (nI (one))), (2, .int (b2i (fi))), (3, .int (nI (k))), (4, .ref (al 0)), (5, .ref (al 1)), (6, .ref (al 2)), (7, .ref (al 3)), (8, .ref (al 4)), (9, .ref (al 5)), (10, .ref (al 7)), (11, .ref (al 10))] [.int (nI ((n_signs1_27_s0 L d one fi k)))] := by
    have q27s0 : (n_signs1_27_s0 L d one fi k) < 8 := by unfold n_signs1_27_s0; (repeat' split) <;> (have := hB 1 d; omega)
    refine aw_istore (ls' := [(12, _), (0, _), (1, _), (2, _), (3, _), (4, _), (5, _), (6, _), (7, _), (8, _), (9, _), (10, _), (11, _)]) C dL_signs_27 (by decide) rfl rfl ?_
    refine aw_pick (ls' := [(0, _), (1, _), (2, _), (3, _), (4, _), (5, _), (6, _), (7, _), (8, _), (9, _), (10, _), (11, _), (12, _)]) [1, 2, 3, 4, 5, 6, 7, 8, 9, 10, 11, 12, 0] rfl ?_
    refine aw_iload_n C dL_signs_29 rfl rfl rfl ?_
    have K56_2 : AW x (RQ x (ZP x.g al sg0 (n_signs1 L d one fi k) (n_signs1L L d one fi k)) noX 0 0) 0 0 sg0 56 [(0, .int (nI (d))), (1, .int (nI (one))), (2, .int (b2i (fi))), (3, .int (nI (k))), (4, .ref (al 0)), (5, .ref (al 1)), (6, .ref (al 2)), (7, .ref (al 3)), (8, .ref (al 4)), (9, .ref (al 5)), (10, .ref (al 7)), (11, .ref (al 10)), (12, .int (nI ((n_signs1_27_s0 L d one fi k))))] [.int (nI ((n_signs1_56_s0 L d one fi k)))] := by
      have q56s0 : (n_signs1_56_s0 L d one fi k) < 8 := by unfold n_signs1_56_s0; (repeat' split) <;> (have := hB 1 d; omega)
      refine aw_istore (ls' := [(13, _), (0, _), (1, _), (2, _), (3, _), (4, _), (5, _), (6, _), (7, _), (8, _), (9, _), (10, _), (11, _), (12, _)]) C dL_signs_56 (by decide) rfl rfl ?_
      refine aw_pick (ls' := [(0, _), (1, _), (2, _), (3, _), (4, _), (5, _), (6, _), (7, _), (8, _), (9, _), (10, _), (11, _), (12, _), (13, _)]) [1, 2, 3, 4, 5, 6, 7, 8, 9, 10, 11, 12, 13, 0] rfl ?_
      refine aw_aload C dL_signs_58 rfl rfl ?_
      refine aw_iload_n C dL_signs_60 rfl rfl rfl ?_
      refine an_iald (k := 1) (i := d) (N := 24) (v := (L.1 1 d)) C hM rfl rfl (by omega) rfl dL_signs_61 rfl ?_
      refine aw_bipush (v := nI 8) C dL_signs_62 rfl rfl ?_
      refine an_rem C (by have := hB 1 d; omega) (by decide) (by decide) dL_signs_64 rfl ?_
      refine aw_iconst (v := nI 4) C dL_signs_65 rfl rfl ?_
      have K74_3 : AW x (RQ x (ZP x.g al sg0 (n_signs1 L d one fi k) (n_signs1L L d one fi k)) noX 0 0) 0 0 sg0 74 [(0, .int (nI (d))), (1, .int (nI (one))), (2, .int (b2i (fi))), (3, .int (nI (k))), (4, .ref (al 0)), (5, .ref (al 1)), (6, .ref (al 2)), (7, .ref (al 3)), (8, .ref (al 4)), (9, .ref (al 5)), (10, .ref (al 7)), (11, .ref (al 10)), (12, .int (nI ((n_signs1_27_s0 L d one fi k)))), (13, .int (nI ((n_signs1_56_s0 L d one fi k))))] [.int (b2i ((n_signs1_74_s0 L d one fi k)))] := by
        refine aw_istore (ls' := [(14, _), (0, _), (1, _), (2, _), (3, _), (4, _), (5, _), (6, _), (7, _), (8, _), (9, _), (10, _), (11, _), (12, _), (13, _)]) C dL_signs_74 (by decide) rfl rfl ?_
        refine aw_pick (ls' := [(0, _), (1, _), (2, _), (3, _), (4, _), (5, _), (6, _), (7, _), (8, _), (9, _), (10, _), (11, _), (12, _), (13, _), (14, _)]) [1, 2, 3, 4, 5, 6, 7, 8, 9, 10, 11, 12, 13, 14, 0] rfl ?_
        refine aw_aload C dL_signs_76 rfl rfl ?_
        refine aw_iload_n C dL_signs_78 rfl rfl rfl ?_
        refine an_iald (k := 5) (i := d) (N := 24) (v := (L.1 5 d)) C hM rfl rfl (by omega) rfl dL_signs_79 rfl ?_
        refine aw_iconst (v := nI 4) C dL_signs_80 rfl rfl ?_
        refine an_rem C (by have := hB 5 d; omega) (by decide) (by decide) dL_signs_81 rfl ?_
        refine an_if_gt (a := (L.1 5 d) % 4) (tgt := 128) C dL_signs_82 (by have := hB 5 d; omega) (by decide) rfl (fun c82 => ?_) (fun c82 => ?_)
        · refine aw_sipush (v := -1003) C dL_signs_128 rfl rfl ?_
          exact aw_iret C rfl (Nat.le_refl _) (Nat.le_refl _) (ZP.of (by rw [n_signs1, if_pos c82]) (by rw [n_signs1L, if_pos c82]) hM hF) dL_signs_131
        · refine aw_aload C dL_signs_85 rfl rfl ?_
          refine aw_iload_n C dL_signs_87 rfl rfl rfl ?_
          refine an_iald (k := 4) (i := d) (N := 24) (v := (L.1 4 d)) C hM rfl rfl (by omega) rfl dL_signs_88 rfl ?_
          refine aw_iload_n C dL_signs_89 rfl rfl rfl ?_
          have K98_4 : AW x (RQ x (ZP x.g al sg0 (n_signs1 L d one fi k) (n_signs1L L d one fi k)) noX 0 0) 0 0 sg0 98 [(0, .int (nI (d))), (1, .int (nI (one))), (2, .int (b2i (fi))), (3, .int (nI (k))), (4, .ref (al 0)), (5, .ref (al 1)), (6, .ref (al 2)), (7, .ref (al 3)), (8, .ref (al 4)), (9, .ref (al 5)), (10, .ref (al 7)), (11, .ref (al 10)), (12, .int (nI ((n_signs1_27_s0 L d one fi k)))), (13, .int (nI ((n_signs1_56_s0 L d one fi k)))), (14, .int (b2i ((n_signs1_74_s0 L d one fi k))))] [.int (nI ((n_signs1_98_s0 L d one fi k))), .int (nI ((L.1 4 d)))] := by
            have q98s0 : (n_signs1_98_s0 L d one fi k) ≤ 2 := by unfold n_signs1_98_s0; (repeat' split) <;> (omega)
            refine an_and C dL_signs_98 rfl ?_
            refine an_if_gt (a := (L.1 4 d) &&& (n_signs1_98_s0 L d one fi k)) (tgt := 128) C dL_signs_99 (by have := hB 4 d; have := @Nat.and_le_left (L.1 4 d) (n_signs1_98_s0 L d one fi k); omega) (by decide) rfl (fun c99 => ?_) (fun c99 => ?_)
            · refine aw_sipush (v := -1003) C dL_signs_128 rfl rfl ?_
              exact aw_iret C rfl (Nat.le_refl _) (Nat.le_refl _) (ZP.of (by rw [n_signs1, if_neg c82, if_pos c99]) (by rw [n_signs1L, if_neg c82, if_pos c99]) hM hF) dL_signs_131
            · refine aw_iload_n C dL_signs_102 rfl rfl rfl ?_
              refine aw_aload C dL_signs_103 rfl rfl ?_
              refine aw_aload C dL_signs_105 rfl rfl ?_
              refine cw_callSp C k_L_69 (N_able hl hst hM hB (x0 := one) (by omega)) ⟨by decide, by decide⟩ rfl rfl (Nat.le_of_ble_eq_true rfl) (Nat.le_of_ble_eq_true rfl) (Nat.le_of_ble_eq_true rfl) dL_signs_107 rfl ?_
              refine an_bif_eq (z := (n_able L one)) (tgt := 128) C dL_signs_110 (by decide) rfl (fun c110 => ?_) (fun c110 => ?_)
              · refine aw_sipush (v := -1003) C dL_signs_128 rfl rfl ?_
                exact aw_iret C rfl (Nat.le_refl _) (Nat.le_refl _) (ZP.of (by rw [n_signs1, if_neg c82, if_neg c99, if_neg c110]) (by rw [n_signs1L, if_neg c82, if_neg c99, if_neg c110]) hM hF) dL_signs_131
              · refine aw_iload C dL_signs_113 rfl rfl ?_
                refine an_bif_eq (z := (n_signs1_74_s0 L d one fi k)) (tgt := 132) C dL_signs_115 (by decide) rfl (fun c115 => ?_) (fun c115 => ?_)
                · refine aw_aload C dL_signs_132 rfl rfl ?_
                  refine aw_bipush (v := nI 16) C dL_signs_134 rfl rfl ?_
                  refine aw_iload C dL_signs_136 rfl rfl ?_
                  refine an_add C dL_signs_138 rfl ?_
                  refine an_iald (k := 0) (i := 16 + (n_signs1_27_s0 L d one fi k)) (N := 40) (v := (L.1 0 (16 + (n_signs1_27_s0 L d one fi k)))) C hM rfl rfl (by omega) rfl dL_signs_139 rfl ?_
                  have K162_5 : AW x (RQ x (ZP x.g al sg0 (n_signs1 L d one fi k) (n_signs1L L d one fi k)) noX 0 0) 0 0 sg0 162 [(0, .int (nI (d))), (1, .int (nI (one))), (2, .int (b2i (fi))), (3, .int (nI (k))), (4, .ref (al 0)), (5, .ref (al 1)), (6, .ref (al 2)), (7, .ref (al 3)), (8, .ref (al 4)), (9, .ref (al 5)), (10, .ref (al 7)), (11, .ref (al 10)), (12, .int (nI ((n_signs1_27_s0 L d one fi k)))), (13, .int (nI ((n_signs1_56_s0 L d one fi k))))] [.int (b2i ((n_signs1_162_s0 L d one fi k)))] := by
                    refine aw_istore (ls' := [(15, _), (0, _), (1, _), (2, _), (3, _), (4, _), (5, _), (6, _), (7, _), (8, _), (9, _), (10, _), (11, _), (12, _), (13, _)]) C dL_signs_162 (by decide) rfl rfl ?_
                    refine aw_pick (ls' := [(0, _), (1, _), (2, _), (3, _), (4, _), (5, _), (6, _), (7, _), (8, _), (9, _), (10, _), (11, _), (12, _), (13, _), (15, _)]) [1, 2, 3, 4, 5, 6, 7, 8, 9, 10, 11, 12, 13, 14, 0] rfl ?_
                    refine aw_iload_n C dL_signs_164 rfl rfl rfl ?_
                    refine aw_iload C dL_signs_165 rfl rfl ?_
                    refine an_icmp_eq (a := one) (b := (n_signs1_27_s0 L d one fi k)) (tgt := 315) C dL_signs_167 (by omega) (by omega) (by decide) rfl (fun c167 => ?_) (fun c167 => ?_)
                    · refine aw_aload C dL_signs_315 rfl rfl ?_
                      refine aw_iload_n C dL_signs_317 rfl rfl rfl ?_
                      refine aw_dup2 C dL_signs_318 rfl rfl rfl ?_
                      refine an_iald (k := 4) (i := d) (N := 24) (v := (L.1 4 d)) C hM rfl rfl (by omega) rfl dL_signs_319 rfl ?_
                      refine aw_iload_n C dL_signs_320 rfl rfl rfl ?_
                      have K329_6 : AW x (RQ x (ZP x.g al sg0 (n_signs1 L d one fi k) (n_signs1L L d one fi k)) noX 0 0) 0 0 sg0 329 [(0, .int (nI (d))), (8, .ref (al 4))] [.int (nI ((n_signs1_329_s0 L d one fi k))), .int (nI ((L.1 4 d))), .int (nI (d)), .ref (al 4)] := by
                        have q329s0 : (n_signs1_329_s0 L d one fi k) ≤ 2 := by unfold n_signs1_329_s0; (repeat' split) <;> (omega)
                        refine an_or C dL_signs_329 rfl ?_
                        refine an_iast (k := 4) (i := d) (N := 24) (v := (L.1 4 d) ||| (n_signs1_329_s0 L d one fi k)) C hM hF rfl rfl (by omega) dL_signs_330 rfl (fun sg hM hF => ?_)
                        refine aw_aload C dL_signs_331 rfl rfl ?_
                        refine aw_iload_n C dL_signs_333 rfl rfl rfl ?_
                        refine an_iald (k := 4) (i := d) (N := 24) (v := ((L.1 4 d) ||| (n_signs1_329_s0 L d one fi k))) C hM rfl rfl (by omega) zI_s dL_signs_334 rfl ?_
                        refine aw_bipush (v := nI 32) C dL_signs_335 rfl rfl ?_
                        refine an_rem C (by have := hB 4 d; have := @Nat.or_lt_two_pow (L.1 4 d) (n_signs1_329_s0 L d one fi k) 30 (by have := hB 4 d; omega) (by omega); omega) (by decide) (by decide) dL_signs_337 rfl ?_
                        exact aw_iret C rfl (Nat.le_refl _) (Nat.le_refl _) (ZP.of (by rw [n_signs1, if_neg c82, if_neg c99, if_pos c110, if_neg c115, if_pos c167]) (by rw [n_signs1L, if_neg c82, if_neg c99, if_pos c110, if_neg c115, if_pos c167]) hM hF) dL_signs_338
                      refine an_bif_eq (z := fi) (tgt := 328) C dL_signs_321 (by decide) rfl (fun c321 => ?_) (fun c321 => ?_)
                      · refine aw_iconst (v := nI 2) C dL_signs_328 rfl rfl ?_
                        refine aw_pick (ls' := [(0, _), (8, _)]) [0, 8] rfl ?_
                        have k9 := K329_6
                        rw [show (n_signs1_329_s0 L d one fi k) = 2 from by rw [n_signs1_329_s0, if_neg c321]] at k9
                        exact k9
                      · refine aw_iconst (v := nI 1) C dL_signs_324 rfl rfl ?_
                        refine aw_goto (tgt := 329) C dL_signs_325 (by decide) ?_
                        refine aw_pick (ls' := [(0, _), (8, _)]) [0, 8] rfl ?_
                        have k9 := K329_6
                        rw [show (n_signs1_329_s0 L d one fi k) = 1 from by rw [n_signs1_329_s0, if_pos c321]] at k9
                        exact k9
                    · refine aw_iload_n C dL_signs_170 rfl rfl rfl ?_
                      refine aw_if_lt (tgt := 269) C dL_signs_171 (by decide) rfl (fun q => absurd q (nI_pos (by omega))) (fun _ => ?_)
                      refine aw_aload C dL_signs_174 rfl rfl ?_
                      refine aw_bipush (v := nI 16) C dL_signs_176 rfl rfl ?_
                      refine aw_iload C dL_signs_178 rfl rfl ?_
                      refine an_add C dL_signs_180 rfl ?_
                      refine an_iald (k := 0) (i := 16 + (n_signs1_27_s0 L d one fi k)) (N := 40) (v := (L.1 0 (16 + (n_signs1_27_s0 L d one fi k)))) C hM rfl rfl (by omega) rfl dL_signs_181 rfl ?_
                      have K270_7 : AW x (RQ x (ZP x.g al sg0 (n_signs1 L d one fi k) (n_signs1L L d one fi k)) noX 0 0) 0 0 sg0 270 [(0, .int (nI (d))), (1, .int (nI (one))), (2, .int (b2i (fi))), (3, .int (nI (k))), (7, .ref (al 3)), (8, .ref (al 4)), (13, .int (nI ((n_signs1_56_s0 L d one fi k)))), (15, .int (b2i ((n_signs1_162_s0 L d one fi k))))] [.int (b2i ((n_signs1_270_s0 L d one fi k)))] := by
                        refine aw_istore (ls' := [(16, _), (0, _), (1, _), (2, _), (3, _), (7, _), (8, _), (13, _), (15, _)]) C dL_signs_270 (by decide) rfl rfl ?_
                        refine aw_pick (ls' := [(0, _), (1, _), (2, _), (3, _), (7, _), (8, _), (13, _), (15, _), (16, _)]) [1, 2, 3, 4, 5, 6, 7, 8, 0] rfl ?_
                        refine aw_iload_n C dL_signs_272 rfl rfl rfl ?_
                        refine aw_iload C dL_signs_273 rfl rfl ?_
                        refine an_icmp_eq (a := one) (b := (n_signs1_56_s0 L d one fi k)) (tgt := 288) C dL_signs_275 (by omega) (by omega) (by decide) rfl (fun c275 => ?_) (fun c275 => ?_)
                        · refine aw_sipush (v := -1003) C dL_signs_288 rfl rfl ?_
                          exact aw_iret C rfl (Nat.le_refl _) (Nat.le_refl _) (ZP.of (by rw [n_signs1, if_neg c82, if_neg c99, if_pos c110, if_neg c115, if_neg c167, if_pos c275]) (by rw [n_signs1L, if_neg c82, if_neg c99, if_pos c110, if_neg c115, if_neg c167, if_pos c275]) hM hF) dL_signs_291
                        · refine aw_iload C dL_signs_278 rfl rfl ?_
                          refine an_bif_ne (z := (n_signs1_162_s0 L d one fi k)) (tgt := 292) C dL_signs_280 (by decide) rfl (fun c280 => ?_) (fun c280 => ?_)
                          · refine aw_aload C dL_signs_292 rfl rfl ?_
                            refine aw_iload_n C dL_signs_294 rfl rfl rfl ?_
                            refine aw_iload_n C dL_signs_295 rfl rfl rfl ?_
                            have K314_8 : AW x (RQ x (ZP x.g al sg0 (n_signs1 L d one fi k) (n_signs1L L d one fi k)) noX 0 0) 0 0 sg0 314 [(0, .int (nI (d))), (2, .int (b2i (fi))), (8, .ref (al 4))] [.int (nI ((L.1 3 d))), .int (nI (d)), .ref (al 3)] := by
                              refine an_iast (k := 3) (i := d) (N := 24) (v := (L.1 3 d)) C hM hF rfl rfl (by omega) dL_signs_314 rfl (fun sg hM hF => ?_)
                              refine aw_aload C dL_signs_315 rfl rfl ?_
                              refine aw_iload_n C dL_signs_317 rfl rfl rfl ?_
                              refine aw_dup2 C dL_signs_318 rfl rfl rfl ?_
                              refine an_iald (k := 4) (i := d) (N := 24) (v := (L.1 4 d)) C hM rfl rfl (by omega) (by rw [zI_k (by decide)]) dL_signs_319 rfl ?_
                              refine aw_iload_n C dL_signs_320 rfl rfl rfl ?_
                              have K329_9 : AW x (RQ x (ZP x.g al sg0 (n_signs1 L d one fi k) (n_signs1L L d one fi k)) noX 0 0) 0 0 sg 329 [(0, .int (nI (d))), (8, .ref (al 4))] [.int (nI ((n_signs1_329_s0' L d one fi k))), .int (nI ((L.1 4 d))), .int (nI (d)), .ref (al 4)] := by
                                have q329s0 : (n_signs1_329_s0' L d one fi k) ≤ 2 := by unfold n_signs1_329_s0'; (repeat' split) <;> (omega)
                                refine an_or C dL_signs_329 rfl ?_
                                refine an_iast (k := 4) (i := d) (N := 24) (v := (L.1 4 d) ||| (n_signs1_329_s0' L d one fi k)) C hM hF rfl rfl (by omega) dL_signs_330 rfl (fun sg hM hF => ?_)
                                refine aw_aload C dL_signs_331 rfl rfl ?_
                                refine aw_iload_n C dL_signs_333 rfl rfl rfl ?_
                                refine an_iald (k := 4) (i := d) (N := 24) (v := ((L.1 4 d) ||| (n_signs1_329_s0' L d one fi k))) C hM rfl rfl (by omega) zI_s dL_signs_334 rfl ?_
                                refine aw_bipush (v := nI 32) C dL_signs_335 rfl rfl ?_
                                refine an_rem C (by have := hB 4 d; have := @Nat.or_lt_two_pow (L.1 4 d) (n_signs1_329_s0' L d one fi k) 30 (by have := hB 4 d; omega) (by omega); omega) (by decide) (by decide) dL_signs_337 rfl ?_
                                exact aw_iret C rfl (Nat.le_refl _) (Nat.le_refl _) (ZP.of (by rw [n_signs1, if_neg c82, if_neg c99, if_pos c110, if_neg c115, if_neg c167, if_neg c275, if_pos c280]) (by rw [n_signs1L, if_neg c82, if_neg c99, if_pos c110, if_neg c115, if_neg c167, if_neg c275, if_pos c280]) hM hF) dL_signs_338
                              refine an_bif_eq (z := fi) (tgt := 328) C dL_signs_321 (by decide) rfl (fun c321 => ?_) (fun c321 => ?_)
                              · refine aw_iconst (v := nI 2) C dL_signs_328 rfl rfl ?_
                                refine aw_pick (ls' := [(0, _), (8, _)]) [0, 2] rfl ?_
                                have k9 := K329_9
                                rw [show (n_signs1_329_s0' L d one fi k) = 2 from by rw [n_signs1_329_s0', if_neg c321]] at k9
                                exact k9
                              · refine aw_iconst (v := nI 1) C dL_signs_324 rfl rfl ?_
                                refine aw_goto (tgt := 329) C dL_signs_325 (by decide) ?_
                                refine aw_pick (ls' := [(0, _), (8, _)]) [0, 2] rfl ?_
                                have k9 := K329_9
                                rw [show (n_signs1_329_s0' L d one fi k) = 1 from by rw [n_signs1_329_s0', if_pos c321]] at k9
                                exact k9
                            refine an_bif_eq (z := fi) (tgt := 310) C dL_signs_296 (by decide) rfl (fun c296 => ?_) (fun c296 => ?_)
                            · refine aw_aload C dL_signs_310 rfl rfl ?_
                              refine aw_iload_n C dL_signs_312 rfl rfl rfl ?_
                              refine an_iald (k := 3) (i := d) (N := 24) (v := (L.1 3 d)) C hM rfl rfl (by omega) rfl dL_signs_313 rfl ?_
                              refine aw_pick (ls' := [(0, _), (2, _), (8, _)]) [0, 2, 5] rfl ?_
                              have k9 := K314_8
                              exact k9
                            · refine aw_iload C dL_signs_299 rfl rfl ?_
                              refine an_bif_ne (z := (n_signs1_162_s0 L d one fi k)) (tgt := 310) C dL_signs_301 (by decide) rfl (fun _ => ?_) (fun q => absurd c280 q)
                              refine aw_aload C dL_signs_310 rfl rfl ?_
                              refine aw_iload_n C dL_signs_312 rfl rfl rfl ?_
                              refine an_iald (k := 3) (i := d) (N := 24) (v := (L.1 3 d)) C hM rfl rfl (by omega) rfl dL_signs_313 rfl ?_
                              refine aw_pick (ls' := [(0, _), (2, _), (8, _)]) [0, 2, 5] rfl ?_
                              have k9 := K314_8
                              exact k9
                          · refine aw_iload C dL_signs_283 rfl rfl ?_
                            refine an_bif_ne (z := (n_signs1_270_s0 L d one fi k)) (tgt := 292) C dL_signs_285 (by decide) rfl (fun c285 => ?_) (fun c285 => ?_)
                            · refine aw_aload C dL_signs_292 rfl rfl ?_
                              refine aw_iload_n C dL_signs_294 rfl rfl rfl ?_
                              refine aw_iload_n C dL_signs_295 rfl rfl rfl ?_
                              have K314_10 : AW x (RQ x (ZP x.g al sg0 (n_signs1 L d one fi k) (n_signs1L L d one fi k)) noX 0 0) 0 0 sg0 314 [(0, .int (nI (d))), (2, .int (b2i (fi))), (8, .ref (al 4))] [.int (nI ((n_signs1_314_s0 L d one fi k))), .int (nI (d)), .ref (al 3)] := by
                                refine an_iast (k := 3) (i := d) (N := 24) (v := (n_signs1_314_s0 L d one fi k)) C hM hF rfl rfl (by omega) dL_signs_314 rfl (fun sg hM hF => ?_)
                                refine aw_aload C dL_signs_315 rfl rfl ?_
                                refine aw_iload_n C dL_signs_317 rfl rfl rfl ?_
                                refine aw_dup2 C dL_signs_318 rfl rfl rfl ?_
                                refine an_iald (k := 4) (i := d) (N := 24) (v := (L.1 4 d)) C hM rfl rfl (by omega) (by rw [zI_k (by decide)]) dL_signs_319 rfl ?_
                                refine aw_iload_n C dL_signs_320 rfl rfl rfl ?_
                                have K329_11 : AW x (RQ x (ZP x.g al sg0 (n_signs1 L d one fi k) (n_signs1L L d one fi k)) noX 0 0) 0 0 sg 329 [(0, .int (nI (d))), (8, .ref (al 4))] [.int (nI ((n_signs1_329_s0'' L d one fi k))), .int (nI ((L.1 4 d))), .int (nI (d)), .ref (al 4)] := by
                                  have q329s0 : (n_signs1_329_s0'' L d one fi k) ≤ 2 := by unfold n_signs1_329_s0''; (repeat' split) <;> (omega)
                                  refine an_or C dL_signs_329 rfl ?_
                                  refine an_iast (k := 4) (i := d) (N := 24) (v := (L.1 4 d) ||| (n_signs1_329_s0'' L d one fi k)) C hM hF rfl rfl (by omega) dL_signs_330 rfl (fun sg hM hF => ?_)
                                  refine aw_aload C dL_signs_331 rfl rfl ?_
                                  refine aw_iload_n C dL_signs_333 rfl rfl rfl ?_
                                  refine an_iald (k := 4) (i := d) (N := 24) (v := ((L.1 4 d) ||| (n_signs1_329_s0'' L d one fi k))) C hM rfl rfl (by omega) zI_s dL_signs_334 rfl ?_
                                  refine aw_bipush (v := nI 32) C dL_signs_335 rfl rfl ?_
                                  refine an_rem C (by have := hB 4 d; have := @Nat.or_lt_two_pow (L.1 4 d) (n_signs1_329_s0'' L d one fi k) 30 (by have := hB 4 d; omega) (by omega); omega) (by decide) (by decide) dL_signs_337 rfl ?_
                                  exact aw_iret C rfl (Nat.le_refl _) (Nat.le_refl _) (ZP.of (by rw [n_signs1, if_neg c82, if_neg c99, if_pos c110, if_neg c115, if_neg c167, if_neg c275, if_neg c280, if_pos c285]) (by rw [n_signs1L, if_neg c82, if_neg c99, if_pos c110, if_neg c115, if_neg c167, if_neg c275, if_neg c280, if_pos c285]) hM hF) dL_signs_338
                                refine an_bif_eq (z := fi) (tgt := 328) C dL_signs_321 (by decide) rfl (fun c321 => ?_) (fun c321 => ?_)
                                · refine aw_iconst (v := nI 2) C dL_signs_328 rfl rfl ?_
                                  refine aw_pick (ls' := [(0, _), (8, _)]) [0, 2] rfl ?_
                                  have k9 := K329_11
                                  rw [show (n_signs1_329_s0'' L d one fi k) = 2 from by rw [n_signs1_329_s0'', if_neg c321]] at k9
                                  exact k9
                                · refine aw_iconst (v := nI 1) C dL_signs_324 rfl rfl ?_
                                  refine aw_goto (tgt := 329) C dL_signs_325 (by decide) ?_
                                  refine aw_pick (ls' := [(0, _), (8, _)]) [0, 2] rfl ?_
                                  have k9 := K329_11
                                  rw [show (n_signs1_329_s0'' L d one fi k) = 1 from by rw [n_signs1_329_s0'', if_pos c321]] at k9
                                  exact k9
                              refine an_bif_eq (z := fi) (tgt := 310) C dL_signs_296 (by decide) rfl (fun c296 => ?_) (fun c296 => ?_)
                              · refine aw_aload C dL_signs_310 rfl rfl ?_
                                refine aw_iload_n C dL_signs_312 rfl rfl rfl ?_
                                refine an_iald (k := 3) (i := d) (N := 24) (v := (L.1 3 d)) C hM rfl rfl (by omega) rfl dL_signs_313 rfl ?_
                                refine aw_pick (ls' := [(0, _), (2, _), (8, _)]) [0, 2, 5] rfl ?_
                                have k9 := K314_10
                                rw [show (n_signs1_314_s0 L d one fi k) = (L.1 3 d) from by rw [n_signs1_314_s0, if_neg c296]] at k9
                                exact k9
                              · refine aw_iload C dL_signs_299 rfl rfl ?_
                                refine an_bif_ne (z := (n_signs1_162_s0 L d one fi k)) (tgt := 310) C dL_signs_301 (by decide) rfl (fun q => absurd q c280) (fun _ => ?_)
                                refine aw_iload_n C dL_signs_304 rfl rfl rfl ?_
                                refine aw_iconst (v := nI 1) C dL_signs_305 rfl rfl ?_
                                refine an_add C dL_signs_306 rfl ?_
                                refine aw_goto (tgt := 314) C dL_signs_307 (by decide) ?_
                                refine aw_pick (ls' := [(0, _), (2, _), (8, _)]) [0, 2, 5] rfl ?_
                                have k9 := K314_10
                                rw [show (n_signs1_314_s0 L d one fi k) = k + 1 from by rw [n_signs1_314_s0, if_pos c296]] at k9
                                exact k9
                            · refine aw_sipush (v := -1003) C dL_signs_288 rfl rfl ?_
                              exact aw_iret C rfl (Nat.le_refl _) (Nat.le_refl _) (ZP.of (by rw [n_signs1, if_neg c82, if_neg c99, if_pos c110, if_neg c115, if_neg c167, if_neg c275, if_neg c280, if_neg c285]) (by rw [n_signs1L, if_neg c82, if_neg c99, if_pos c110, if_neg c115, if_neg c167, if_neg c275, if_neg c280, if_neg c285]) hM hF) dL_signs_291
                      refine an_if_ne (a := (L.1 0 (16 + (n_signs1_27_s0 L d one fi k)))) (tgt := 269) C dL_signs_182 (by have := hB 0 (16 + (n_signs1_27_s0 L d one fi k)); omega) (by decide) rfl (fun c182 => ?_) (fun c182 => ?_)
                      · refine aw_iconst (v := nI 0) C dL_signs_269 rfl rfl ?_
                        refine aw_pick (ls' := [(0, _), (1, _), (2, _), (3, _), (7, _), (8, _), (13, _), (15, _)]) [0, 1, 2, 3, 7, 8, 13, 14] rfl ?_
                        have k9 := K270_7
                        rw [show (n_signs1_270_s0 L d one fi k) = false from by rw [n_signs1_270_s0, if_neg c182]] at k9
                        exact k9
                      · refine aw_iload_n C dL_signs_185 rfl rfl rfl ?_
                        refine aw_aload C dL_signs_186 rfl rfl ?_
                        refine aw_aload C dL_signs_188 rfl rfl ?_
                        refine aw_aload C dL_signs_190 rfl rfl ?_
                        refine aw_aload C dL_signs_192 rfl rfl ?_
                        refine aw_aload C dL_signs_194 rfl rfl ?_
                        refine aw_aload C dL_signs_196 rfl rfl ?_
                        refine aw_aload C dL_signs_198 rfl rfl ?_
                        refine cw_callSp C k_L_73 (N_good hl hst hM hB (d := k) (by omega) hc) ⟨by decide, by decide⟩ rfl rfl (Nat.le_of_ble_eq_true rfl) (Nat.le_of_ble_eq_true rfl) (Nat.le_of_ble_eq_true rfl) dL_signs_200 rfl ?_
                        refine an_bif_eq (z := (n_good L k)) (tgt := 269) C dL_signs_203 (by decide) rfl (fun c203 => ?_) (fun c203 => ?_)
                        · refine aw_iconst (v := nI 0) C dL_signs_269 rfl rfl ?_
                          refine aw_pick (ls' := [(0, _), (1, _), (2, _), (3, _), (7, _), (8, _), (13, _), (15, _)]) [0, 1, 2, 3, 7, 8, 13, 14] rfl ?_
                          have k9 := K270_7
                          rw [show (n_signs1_270_s0 L d one fi k) = false from by rw [n_signs1_270_s0, if_pos c182, if_neg c203]] at k9
                          exact k9
                        · refine aw_aload C dL_signs_206 rfl rfl ?_
                          refine aw_iload_n C dL_signs_208 rfl rfl rfl ?_
                          refine an_iald (k := 1) (i := k) (N := 24) (v := (L.1 1 k)) C hM rfl rfl (by omega) rfl dL_signs_209 rfl ?_
                          refine aw_bipush (v := nI 8) C dL_signs_210 rfl rfl ?_
                          refine an_div C (by have := hB 1 k; omega) (by decide) (by decide) dL_signs_212 rfl ?_
                          refine aw_bipush (v := nI 8) C dL_signs_213 rfl rfl ?_
                          refine an_rem C (by have := hB 1 k; omega) (by decide) (by decide) dL_signs_215 rfl ?_
                          refine aw_iload C dL_signs_216 rfl rfl ?_
                          refine an_icmp_ne (a := ((L.1 1 k) / 8) % 8) (b := (n_signs1_27_s0 L d one fi k)) (tgt := 269) C dL_signs_218 (by have := hB 1 k; omega) (by omega) (by decide) rfl (fun c218 => ?_) (fun c218 => ?_)
                          · refine aw_iconst (v := nI 0) C dL_signs_269 rfl rfl ?_
                            refine aw_pick (ls' := [(0, _), (1, _), (2, _), (3, _), (7, _), (8, _), (13, _), (15, _)]) [0, 1, 2, 3, 7, 8, 13, 14] rfl ?_
                            have k9 := K270_7
                            rw [show (n_signs1_270_s0 L d one fi k) = false from by rw [n_signs1_270_s0, if_pos c182, if_pos c203, if_neg c218]] at k9
                            exact k9
                          · refine aw_aload C dL_signs_221 rfl rfl ?_
                            refine aw_iload_n C dL_signs_223 rfl rfl rfl ?_
                            refine an_iald (k := 1) (i := k) (N := 24) (v := (L.1 1 k)) C hM rfl rfl (by omega) rfl dL_signs_224 rfl ?_
                            refine aw_bipush (v := nI 64) C dL_signs_225 rfl rfl ?_
                            refine an_div C (by have := hB 1 k; omega) (by decide) (by decide) dL_signs_227 rfl ?_
                            refine aw_bipush (v := nI 8) C dL_signs_228 rfl rfl ?_
                            refine an_rem C (by have := hB 1 k; omega) (by decide) (by decide) dL_signs_230 rfl ?_
                            refine aw_iload_n C dL_signs_231 rfl rfl rfl ?_
                            refine an_icmp_ne (a := ((L.1 1 k) / 64) % 8) (b := one) (tgt := 269) C dL_signs_232 (by have := hB 1 k; omega) (by omega) (by decide) rfl (fun c232 => ?_) (fun c232 => ?_)
                            · refine aw_iconst (v := nI 0) C dL_signs_269 rfl rfl ?_
                              refine aw_pick (ls' := [(0, _), (1, _), (2, _), (3, _), (7, _), (8, _), (13, _), (15, _)]) [0, 1, 2, 3, 7, 8, 13, 14] rfl ?_
                              have k9 := K270_7
                              rw [show (n_signs1_270_s0 L d one fi k) = false from by rw [n_signs1_270_s0, if_pos c182, if_pos c203, if_pos c218, if_neg c232]] at k9
                              exact k9
                            · refine aw_aload C dL_signs_235 rfl rfl ?_
                              refine aw_iload_n C dL_signs_237 rfl rfl rfl ?_
                              refine an_iald (k := 1) (i := k) (N := 24) (v := (L.1 1 k)) C hM rfl rfl (by omega) rfl dL_signs_238 rfl ?_
                              refine aw_sipush (v := nI 512) C dL_signs_239 rfl rfl ?_
                              refine an_div C (by have := hB 1 k; omega) (by decide) (by decide) dL_signs_242 rfl ?_
                              refine an_if_eq (a := (L.1 1 k) / 512) (tgt := 265) C dL_signs_243 (by have := hB 1 k; omega) (by decide) rfl (fun c243 => ?_) (fun c243 => ?_)
                              · refine aw_iconst (v := nI 1) C dL_signs_265 rfl rfl ?_
                                refine aw_goto (tgt := 270) C dL_signs_266 (by decide) ?_
                                refine aw_pick (ls' := [(0, _), (1, _), (2, _), (3, _), (7, _), (8, _), (13, _), (15, _)]) [0, 1, 2, 3, 7, 8, 13, 14] rfl ?_
                                have k9 := K270_7
                                rw [show (n_signs1_270_s0 L d one fi k) = true from by rw [n_signs1_270_s0, if_pos c182, if_pos c203, if_pos c218, if_pos c232, if_pos c243]] at k9
                                exact k9
                              · refine aw_aload C dL_signs_246 rfl rfl ?_
                                refine aw_iload_n C dL_signs_248 rfl rfl rfl ?_
                                refine an_iald (k := 1) (i := k) (N := 24) (v := (L.1 1 k)) C hM rfl rfl (by omega) rfl dL_signs_249 rfl ?_
                                refine aw_sipush (v := nI 512) C dL_signs_250 rfl rfl ?_
                                refine an_div C (by have := hB 1 k; omega) (by decide) (by decide) dL_signs_253 rfl ?_
                                refine aw_aload C dL_signs_254 rfl rfl ?_
                                refine aw_iload_n C dL_signs_256 rfl rfl rfl ?_
                                refine an_iald (k := 1) (i := d) (N := 24) (v := (L.1 1 d)) C hM rfl rfl (by omega) rfl dL_signs_257 rfl ?_
                                refine aw_sipush (v := nI 512) C dL_signs_258 rfl rfl ?_
                                refine an_div C (by have := hB 1 d; omega) (by decide) (by decide) dL_signs_261 rfl ?_
                                refine an_icmp_ne (a := (L.1 1 k) / 512) (b := (L.1 1 d) / 512) (tgt := 269) C dL_signs_262 (by have := hB 1 k; omega) (by have := hB 1 d; omega) (by decide) rfl (fun c262 => ?_) (fun c262 => ?_)
                                · refine aw_iconst (v := nI 0) C dL_signs_269 rfl rfl ?_
                                  refine aw_pick (ls' := [(0, _), (1, _), (2, _), (3, _), (7, _), (8, _), (13, _), (15, _)]) [0, 1, 2, 3, 7, 8, 13, 14] rfl ?_
                                  have k9 := K270_7
                                  rw [show (n_signs1_270_s0 L d one fi k) = false from by rw [n_signs1_270_s0, if_pos c182, if_pos c203, if_pos c218, if_pos c232, if_neg c243, if_neg c262]] at k9
                                  exact k9
                                · refine aw_iconst (v := nI 1) C dL_signs_265 rfl rfl ?_
                                  refine aw_goto (tgt := 270) C dL_signs_266 (by decide) ?_
                                  refine aw_pick (ls' := [(0, _), (1, _), (2, _), (3, _), (7, _), (8, _), (13, _), (15, _)]) [0, 1, 2, 3, 7, 8, 13, 14] rfl ?_
                                  have k9 := K270_7
                                  rw [show (n_signs1_270_s0 L d one fi k) = true from by rw [n_signs1_270_s0, if_pos c182, if_pos c203, if_pos c218, if_pos c232, if_neg c243, if_pos c262]] at k9
                                  exact k9
                  refine an_if_ne (a := (L.1 0 (16 + (n_signs1_27_s0 L d one fi k)))) (tgt := 161) C dL_signs_140 (by have := hB 0 (16 + (n_signs1_27_s0 L d one fi k)); omega) (by decide) rfl (fun c140 => ?_) (fun c140 => ?_)
                  · refine aw_iconst (v := nI 0) C dL_signs_161 rfl rfl ?_
                    refine aw_pick (ls' := [(0, _), (1, _), (2, _), (3, _), (4, _), (5, _), (6, _), (7, _), (8, _), (9, _), (10, _), (11, _), (12, _), (13, _)]) [0, 1, 2, 3, 4, 5, 6, 7, 8, 9, 10, 11, 12, 13] rfl ?_
                    have k9 := K162_5
                    rw [show (n_signs1_162_s0 L d one fi k) = false from by rw [n_signs1_162_s0, if_neg c140]] at k9
                    exact k9
                  · refine aw_aload C dL_signs_143 rfl rfl ?_
                    refine aw_bipush (v := nI 32) C dL_signs_145 rfl rfl ?_
                    refine aw_iload C dL_signs_147 rfl rfl ?_
                    refine an_add C dL_signs_149 rfl ?_
                    refine an_iald (k := 0) (i := 32 + (n_signs1_27_s0 L d one fi k)) (N := 40) (v := (L.1 0 (32 + (n_signs1_27_s0 L d one fi k)))) C hM rfl rfl (by omega) rfl dL_signs_150 rfl ?_
                    refine aw_iload_n C dL_signs_151 rfl rfl rfl ?_
                    refine aw_iconst (v := nI 1) C dL_signs_152 rfl rfl ?_
                    refine an_add C dL_signs_153 rfl ?_
                    refine an_icmp_ne (a := (L.1 0 (32 + (n_signs1_27_s0 L d one fi k)))) (b := one + 1) (tgt := 161) C dL_signs_154 (by have := hB 0 (32 + (n_signs1_27_s0 L d one fi k)); omega) (by omega) (by decide) rfl (fun c154 => ?_) (fun c154 => ?_)
                    · refine aw_iconst (v := nI 0) C dL_signs_161 rfl rfl ?_
                      refine aw_pick (ls' := [(0, _), (1, _), (2, _), (3, _), (4, _), (5, _), (6, _), (7, _), (8, _), (9, _), (10, _), (11, _), (12, _), (13, _)]) [0, 1, 2, 3, 4, 5, 6, 7, 8, 9, 10, 11, 12, 13] rfl ?_
                      have k9 := K162_5
                      rw [show (n_signs1_162_s0 L d one fi k) = false from by rw [n_signs1_162_s0, if_pos c140, if_neg c154]] at k9
                      exact k9
                    · refine aw_iconst (v := nI 1) C dL_signs_157 rfl rfl ?_
                      refine aw_goto (tgt := 162) C dL_signs_158 (by decide) ?_
                      refine aw_pick (ls' := [(0, _), (1, _), (2, _), (3, _), (4, _), (5, _), (6, _), (7, _), (8, _), (9, _), (10, _), (11, _), (12, _), (13, _)]) [0, 1, 2, 3, 4, 5, 6, 7, 8, 9, 10, 11, 12, 13] rfl ?_
                      have k9 := K162_5
                      rw [show (n_signs1_162_s0 L d one fi k) = true from by rw [n_signs1_162_s0, if_pos c140, if_pos c154]] at k9
                      exact k9
                · refine aw_iload_n C dL_signs_118 rfl rfl rfl ?_
                  refine an_bif_eq (z := fi) (tgt := 128) C dL_signs_119 (by decide) rfl (fun c119 => ?_) (fun c119 => ?_)
                  · refine aw_sipush (v := -1003) C dL_signs_128 rfl rfl ?_
                    exact aw_iret C rfl (Nat.le_refl _) (Nat.le_refl _) (ZP.of (by rw [n_signs1, if_neg c82, if_neg c99, if_pos c110, if_pos c115, if_neg c119]) (by rw [n_signs1L, if_neg c82, if_neg c99, if_pos c110, if_pos c115, if_neg c119]) hM hF) dL_signs_131
                  · refine aw_iload_n C dL_signs_122 rfl rfl rfl ?_
                    refine aw_iload C dL_signs_123 rfl rfl ?_
                    refine an_icmp_eq (a := one) (b := (n_signs1_27_s0 L d one fi k)) (tgt := 132) C dL_signs_125 (by omega) (by omega) (by decide) rfl (fun c125 => ?_) (fun c125 => ?_)
                    · refine aw_aload C dL_signs_132 rfl rfl ?_
                      refine aw_bipush (v := nI 16) C dL_signs_134 rfl rfl ?_
                      refine aw_iload C dL_signs_136 rfl rfl ?_
                      refine an_add C dL_signs_138 rfl ?_
                      refine an_iald (k := 0) (i := 16 + (n_signs1_27_s0 L d one fi k)) (N := 40) (v := (L.1 0 (16 + (n_signs1_27_s0 L d one fi k)))) C hM rfl rfl (by omega) rfl dL_signs_139 rfl ?_
                      have K162_12 : AW x (RQ x (ZP x.g al sg0 (n_signs1 L d one fi k) (n_signs1L L d one fi k)) noX 0 0) 0 0 sg0 162 [(0, .int (nI (d))), (1, .int (nI (one))), (2, .int (b2i (fi))), (3, .int (nI (k))), (4, .ref (al 0)), (5, .ref (al 1)), (6, .ref (al 2)), (7, .ref (al 3)), (8, .ref (al 4)), (9, .ref (al 5)), (10, .ref (al 7)), (11, .ref (al 10)), (12, .int (nI ((n_signs1_27_s0 L d one fi k)))), (13, .int (nI ((n_signs1_56_s0 L d one fi k))))] [.int (b2i ((n_signs1_162_s0' L d one fi k)))] := by
                        refine aw_istore (ls' := [(15, _), (0, _), (1, _), (2, _), (3, _), (4, _), (5, _), (6, _), (7, _), (8, _), (9, _), (10, _), (11, _), (12, _), (13, _)]) C dL_signs_162 (by decide) rfl rfl ?_
                        refine aw_pick (ls' := [(0, _), (1, _), (2, _), (3, _), (4, _), (5, _), (6, _), (7, _), (8, _), (9, _), (10, _), (11, _), (12, _), (13, _), (15, _)]) [1, 2, 3, 4, 5, 6, 7, 8, 9, 10, 11, 12, 13, 14, 0] rfl ?_
                        refine aw_iload_n C dL_signs_164 rfl rfl rfl ?_
                        refine aw_iload C dL_signs_165 rfl rfl ?_
                        refine an_icmp_eq (a := one) (b := (n_signs1_27_s0 L d one fi k)) (tgt := 315) C dL_signs_167 (by omega) (by omega) (by decide) rfl (fun _ => ?_) (fun q => absurd c125 q)
                        refine aw_aload C dL_signs_315 rfl rfl ?_
                        refine aw_iload_n C dL_signs_317 rfl rfl rfl ?_
                        refine aw_dup2 C dL_signs_318 rfl rfl rfl ?_
                        refine an_iald (k := 4) (i := d) (N := 24) (v := (L.1 4 d)) C hM rfl rfl (by omega) rfl dL_signs_319 rfl ?_
                        refine aw_iload_n C dL_signs_320 rfl rfl rfl ?_
                        refine an_bif_eq (z := fi) (tgt := 328) C dL_signs_321 (by decide) rfl (fun q => absurd c119 q) (fun _ => ?_)
                        refine aw_iconst (v := nI 1) C dL_signs_324 rfl rfl ?_
                        refine aw_goto (tgt := 329) C dL_signs_325 (by decide) ?_
                        refine an_or C dL_signs_329 rfl ?_
                        refine an_iast (k := 4) (i := d) (N := 24) (v := (L.1 4 d) ||| 1) C hM hF rfl rfl (by omega) dL_signs_330 rfl (fun sg hM hF => ?_)
                        refine aw_aload C dL_signs_331 rfl rfl ?_
                        refine aw_iload_n C dL_signs_333 rfl rfl rfl ?_
                        refine an_iald (k := 4) (i := d) (N := 24) (v := ((L.1 4 d) ||| 1)) C hM rfl rfl (by omega) zI_s dL_signs_334 rfl ?_
                        refine aw_bipush (v := nI 32) C dL_signs_335 rfl rfl ?_
                        refine an_rem C (by have := hB 4 d; have := @Nat.or_lt_two_pow (L.1 4 d) 1 30 (by have := hB 4 d; omega) (by decide); omega) (by decide) (by decide) dL_signs_337 rfl ?_
                        exact aw_iret C rfl (Nat.le_refl _) (Nat.le_refl _) (ZP.of (by rw [n_signs1, if_neg c82, if_neg c99, if_pos c110, if_pos c115, if_pos c119, if_pos c125]) (by rw [n_signs1L, if_neg c82, if_neg c99, if_pos c110, if_pos c115, if_pos c119, if_pos c125]) hM hF) dL_signs_338
                      refine an_if_ne (a := (L.1 0 (16 + (n_signs1_27_s0 L d one fi k)))) (tgt := 161) C dL_signs_140 (by have := hB 0 (16 + (n_signs1_27_s0 L d one fi k)); omega) (by decide) rfl (fun c140 => ?_) (fun c140 => ?_)
                      · refine aw_iconst (v := nI 0) C dL_signs_161 rfl rfl ?_
                        refine aw_pick (ls' := [(0, _), (1, _), (2, _), (3, _), (4, _), (5, _), (6, _), (7, _), (8, _), (9, _), (10, _), (11, _), (12, _), (13, _)]) [0, 1, 2, 3, 4, 5, 6, 7, 8, 9, 10, 11, 12, 13] rfl ?_
                        have k9 := K162_12
                        rw [show (n_signs1_162_s0' L d one fi k) = false from by rw [n_signs1_162_s0', if_neg c140]] at k9
                        exact k9
                      · refine aw_aload C dL_signs_143 rfl rfl ?_
                        refine aw_bipush (v := nI 32) C dL_signs_145 rfl rfl ?_
                        refine aw_iload C dL_signs_147 rfl rfl ?_
                        refine an_add C dL_signs_149 rfl ?_
                        refine an_iald (k := 0) (i := 32 + (n_signs1_27_s0 L d one fi k)) (N := 40) (v := (L.1 0 (32 + (n_signs1_27_s0 L d one fi k)))) C hM rfl rfl (by omega) rfl dL_signs_150 rfl ?_
                        refine aw_iload_n C dL_signs_151 rfl rfl rfl ?_
                        refine aw_iconst (v := nI 1) C dL_signs_152 rfl rfl ?_
                        refine an_add C dL_signs_153 rfl ?_
                        refine an_icmp_ne (a := (L.1 0 (32 + (n_signs1_27_s0 L d one fi k)))) (b := one + 1) (tgt := 161) C dL_signs_154 (by have := hB 0 (32 + (n_signs1_27_s0 L d one fi k)); omega) (by omega) (by decide) rfl (fun c154 => ?_) (fun c154 => ?_)
                        · refine aw_iconst (v := nI 0) C dL_signs_161 rfl rfl ?_
                          refine aw_pick (ls' := [(0, _), (1, _), (2, _), (3, _), (4, _), (5, _), (6, _), (7, _), (8, _), (9, _), (10, _), (11, _), (12, _), (13, _)]) [0, 1, 2, 3, 4, 5, 6, 7, 8, 9, 10, 11, 12, 13] rfl ?_
                          have k9 := K162_12
                          rw [show (n_signs1_162_s0' L d one fi k) = false from by rw [n_signs1_162_s0', if_pos c140, if_neg c154]] at k9
                          exact k9
                        · refine aw_iconst (v := nI 1) C dL_signs_157 rfl rfl ?_
                          refine aw_goto (tgt := 162) C dL_signs_158 (by decide) ?_
                          refine aw_pick (ls' := [(0, _), (1, _), (2, _), (3, _), (4, _), (5, _), (6, _), (7, _), (8, _), (9, _), (10, _), (11, _), (12, _), (13, _)]) [0, 1, 2, 3, 4, 5, 6, 7, 8, 9, 10, 11, 12, 13] rfl ?_
                          have k9 := K162_12
                          rw [show (n_signs1_162_s0' L d one fi k) = true from by rw [n_signs1_162_s0', if_pos c140, if_pos c154]] at k9
                          exact k9
                    · refine aw_sipush (v := -1003) C dL_signs_128 rfl rfl ?_
                      exact aw_iret C rfl (Nat.le_refl _) (Nat.le_refl _) (ZP.of (by rw [n_signs1, if_neg c82, if_neg c99, if_pos c110, if_pos c115, if_pos c119, if_neg c125]) (by rw [n_signs1L, if_neg c82, if_neg c99, if_pos c110, if_pos c115, if_pos c119, if_neg c125]) hM hF) dL_signs_131
          refine an_bif_eq (z := fi) (tgt := 97) C dL_signs_90 (by decide) rfl (fun c90 => ?_) (fun c90 => ?_)
          · refine aw_iconst (v := nI 2) C dL_signs_97 rfl rfl ?_
            have k9 := K98_4
            rw [show (n_signs1_98_s0 L d one fi k) = 2 from by rw [n_signs1_98_s0, if_neg c90]] at k9
            exact k9
          · refine aw_iconst (v := nI 1) C dL_signs_93 rfl rfl ?_
            refine aw_goto (tgt := 98) C dL_signs_94 (by decide) ?_
            have k9 := K98_4
            rw [show (n_signs1_98_s0 L d one fi k) = 1 from by rw [n_signs1_98_s0, if_pos c90]] at k9
            exact k9
      refine an_icmp_ne (a := (L.1 1 d) % 8) (b := 4) (tgt := 73) C dL_signs_66 (by have := hB 1 d; omega) (by decide) (by decide) rfl (fun c66 => ?_) (fun c66 => ?_)
      · refine aw_iconst (v := nI 0) C dL_signs_73 rfl rfl ?_
        have k9 := K74_3
        rw [show (n_signs1_74_s0 L d one fi k) = false from by rw [n_signs1_74_s0, if_neg c66]] at k9
        exact k9
      · refine aw_iconst (v := nI 1) C dL_signs_69 rfl rfl ?_
        refine aw_goto (tgt := 74) C dL_signs_70 (by decide) ?_
        have k9 := K74_3
        rw [show (n_signs1_74_s0 L d one fi k) = true from by rw [n_signs1_74_s0, if_pos c66]] at k9
        exact k9
    refine an_bif_eq (z := fi) (tgt := 46) C dL_signs_30 (by decide) rfl (fun c30 => ?_) (fun c30 => ?_)
    · refine aw_aload C dL_signs_46 rfl rfl ?_
      refine aw_iload_n C dL_signs_48 rfl rfl rfl ?_
      refine an_iald (k := 1) (i := d) (N := 24) (v := (L.1 1 d)) C hM rfl rfl (by omega) rfl dL_signs_49 rfl ?_
      refine aw_bipush (v := nI 8) C dL_signs_50 rfl rfl ?_
      refine an_div C (by have := hB 1 d; omega) (by decide) (by decide) dL_signs_52 rfl ?_
      refine aw_bipush (v := nI 8) C dL_signs_53 rfl rfl ?_
      refine an_rem C (by have := hB 1 d; omega) (by decide) (by decide) dL_signs_55 rfl ?_
      have k9 := K56_2
      rw [show (n_signs1_56_s0 L d one fi k) = ((L.1 1 d) / 8) % 8 from by rw [n_signs1_56_s0, if_neg c30]] at k9
      exact k9
    · refine aw_aload C dL_signs_33 rfl rfl ?_
      refine aw_iload_n C dL_signs_35 rfl rfl rfl ?_
      refine an_iald (k := 1) (i := d) (N := 24) (v := (L.1 1 d)) C hM rfl rfl (by omega) rfl dL_signs_36 rfl ?_
      refine aw_bipush (v := nI 64) C dL_signs_37 rfl rfl ?_
      refine an_div C (by have := hB 1 d; omega) (by decide) (by decide) dL_signs_39 rfl ?_
      refine aw_bipush (v := nI 8) C dL_signs_40 rfl rfl ?_
      refine an_rem C (by have := hB 1 d; omega) (by decide) (by decide) dL_signs_42 rfl ?_
      refine aw_goto (tgt := 56) C dL_signs_43 (by decide) ?_
      have k9 := K56_2
      rw [show (n_signs1_56_s0 L d one fi k) = ((L.1 1 d) / 64) % 8 from by rw [n_signs1_56_s0, if_pos c30]] at k9
      exact k9
  refine an_bif_eq (z := fi) (tgt := 17) C dL_signs_1 (by decide) rfl (fun c1 => ?_) (fun c1 => ?_)
  · refine aw_aload C dL_signs_17 rfl rfl ?_
    refine aw_iload_n C dL_signs_19 rfl rfl rfl ?_
    refine an_iald (k := 1) (i := d) (N := 24) (v := (L.1 1 d)) C hM rfl rfl (by omega) rfl dL_signs_20 rfl ?_
    refine aw_bipush (v := nI 64) C dL_signs_21 rfl rfl ?_
    refine an_div C (by have := hB 1 d; omega) (by decide) (by decide) dL_signs_23 rfl ?_
    refine aw_bipush (v := nI 8) C dL_signs_24 rfl rfl ?_
    refine an_rem C (by have := hB 1 d; omega) (by decide) (by decide) dL_signs_26 rfl ?_
    have k9 := K27_1
    rw [show (n_signs1_27_s0 L d one fi k) = ((L.1 1 d) / 64) % 8 from by rw [n_signs1_27_s0, if_neg c1]] at k9
    exact k9
  · refine aw_aload C dL_signs_4 rfl rfl ?_
    refine aw_iload_n C dL_signs_6 rfl rfl rfl ?_
    refine an_iald (k := 1) (i := d) (N := 24) (v := (L.1 1 d)) C hM rfl rfl (by omega) rfl dL_signs_7 rfl ?_
    refine aw_bipush (v := nI 8) C dL_signs_8 rfl rfl ?_
    refine an_div C (by have := hB 1 d; omega) (by decide) (by decide) dL_signs_10 rfl ?_
    refine aw_bipush (v := nI 8) C dL_signs_11 rfl rfl ?_
    refine an_rem C (by have := hB 1 d; omega) (by decide) (by decide) dL_signs_13 rfl ?_
    refine aw_goto (tgt := 27) C dL_signs_14 (by decide) ?_
    have k9 := K27_1
    rw [show (n_signs1_27_s0 L d one fi k) = ((L.1 1 d) / 8) % 8 from by rw [n_signs1_27_s0, if_pos c1]] at k9
    exact k9
