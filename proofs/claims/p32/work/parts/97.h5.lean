/-! the law's helpers: will, dies -/
section ANK
variable {x : Cx} {Q : State → Prop} {c n : Nat} {sg sg0 : Sg} {pc pc' p1 : Nat} {ls : List (Nat × Value)} {st : List Value} {cc : ByteArray} {nL : Nat} {own : String} {R : Room} {ret : Option FieldType} {al : Nat → Nat} {L : ZU} {k i N a b v q : Nat} {off : Int} {tgt : Nat} {W : Nat → Nat}
theorem an_kif_lt (C : AWC x cc nL own R ret) (hdg : decode cc pc = .ok (.ifCond .lt off, 3)) (ha : a < 2 ^ 31) (ht : (pc : Int) + off = (tgt : Int)) (hpc : pc + 3 = pc') (kt : a = 0 → AW x Q c n sg tgt ls st) (kf : ¬ a = 0 → AW x Q c n sg pc' ls st) : AW x Q c n sg pc ls (.int (nI a - 1) :: st) := by
  refine aw_if_lt C hdg ht hpc (fun z => kt (Classical.byContradiction fun y => ?_)) (fun z => kf (fun y => z (by rw [y]; decide)))
  rw [nI_sub1 y] at z
  exact absurd z (nI_pos (by omega))
theorem an_kif_ge (C : AWC x cc nL own R ret) (hdg : decode cc pc = .ok (.ifCond .ge off, 3)) (ha : a < 2 ^ 31) (ht : (pc : Int) + off = (tgt : Int)) (hpc : pc + 3 = pc') (kt : ¬ a = 0 → AW x Q c n sg tgt ls st) (kf : a = 0 → AW x Q c n sg pc' ls st) : AW x Q c n sg pc ls (.int (nI a - 1) :: st) := by
  refine aw_if_ge C hdg ht hpc (fun z => kt (fun y => absurd z (by rw [y]; decide))) (fun z => kf (Classical.byContradiction fun y => z ?_))
  rw [nI_sub1 y]
  exact nI_pos' (by omega)
theorem an_kald (C : AWC x cc nL own R ret) (hM : ZS x.g al L sg) (hk : zar k = true) (hN : zlen k = N) (h0 : ¬ a = 0) (hi : a - 1 < N) (hv : L.1 k (a - 1) = v) (hdg : decode cc pc = .ok (.iaload, 1)) (hpc : pc + 1 = pc') (kk : AW x Q c n sg pc' ls (.int (nI v) :: st)) : AW x Q c n sg pc ls (.int (nI a - 1) :: .ref (al k) :: st) := by
  rw [nI_sub1 h0]
  exact an_iald C hM hk hN hi hv hdg hpc kk
/-- a row of longs beside the law's own -/
theorem an_wld (C : AWC x cc nL own R ret) (hq : sg q = some (arJ x.g 14 (fun i => lN (W i)))) (hi : i < 14) (hdg : decode cc pc = .ok (.laload, 1)) (hpc : pc + 1 = pc') (kk : AW x Q c n sg pc' ls (.long (lN (W i)) :: st)) : AW x Q c n sg pc ls (.int (nI i) :: .ref q :: st) := by
  refine aw_lald C hq (vp_in_nI hi (by decide)) hdg hpc ?_
  rw [nI_clamp (by omega)]
  exact kk
theorem an_wst (C : AWC x cc nL own R ret) (hq : sg q = some (arJ x.g 14 (fun i => lN (W i)))) (hi : i < 14) (hdg : decode cc pc = .ok (.lastore, 1)) (hpc : pc + 1 = pc') (kk : AW x Q c n (sgu sg q (arJ x.g 14 (fun j => lN (if j = i then v else W j)))) pc' ls st) : AW x Q c n sg pc ls (.long (lN v) :: .int (nI i) :: .ref q :: st) := by
  refine aw_last C hq (vp_in_nI hi (by decide)) hdg hpc ?_
  rw [nI_clamp (by omega), show vp_updL (fun i => lN (W i)) i (lN v) = fun j => lN (if j = i then v else W j) from funext fun j => by
    show (if j = i then lN v else lN (W j)) = _
    split <;> rfl]
  exact kk
end ANK
theorem ZB.set {L : ZU} (h : ZB L) {k i v : Nat} (hv : v < 2 ^ 30) : ZB (zI L k i v) := fun a j => by
  rw [zI_a]
  split
  · exact hv
  · exact h a j
theorem ZB.setJ {L : ZU} (h : ZB L) {i v : Nat} : ZB (zJ L i v) := h
theorem ZS.out {g : Gx} {al : Nat → Nat} {L : ZU} {sg : Sg} (h : ZS g al L sg) {q : Nat} (hq : ∀ i, i < 13 → q ≠ al i) {e : va_E} : ZS g al L (sgu sg q e) := h.eq fun k hk => sgu_n (fun z => hq k hk z.symm)
theorem ZS.new {g : Gx} {al : Nat → Nat} {L : ZU} {sg : Sg} (h : ZS g al L sg) {q : Nat} (hq : sg q = none) : ∀ i, i < 13 → q ≠ al i := fun i hi z => by
  obtain ⟨e, h1, -⟩ := h.form hi
  rw [z, h1] at hq
  cases hq
theorem ZFr.new {al : Nat → Nat} {s1 s2 : Sg} (h : ZFr al s1 s2) {q : Nat} (hq : s1 q = none) {e : va_E} : ZFr al s1 (sgu s2 q e) := fun a b ha hn => by
  rw [sgu_n (fun z => by rw [z, hq] at ha; cases ha)]
  exact h a b ha hn
def n_will_58_s0 (L : ZU) (m : Nat) : Nat := (if ((L.1 5 m) % 4) = 1 then 100 + (L.1 6 m) else (if ((L.1 5 m) % 4) = 2 then (L.1 6 m) else 0))
/-- the will that counts among the first m deeds: its number and one more, 0 for none; and its weight -/
def n_willN (L : ZU) (x0 : Nat) : Nat → Nat × Nat
  | 0 => (0, 0)
  | m + 1 => if (L.1 1 m) % 8 = 4 ∧ ((L.1 1 m) / 8) % 8 = x0 ∧ (L.1 0 (16 + (((L.1 1 m) / 64) % 8))) = 0 ∧ (n_willN L x0 m).2 < (n_will_58_s0 L m) then (m + 1, n_will_58_s0 L m) else n_willN L x0 m
theorem n_willN_n {L : ZU} {x0 m : Nat} (h : ¬ ((L.1 1 m) % 8 = 4 ∧ ((L.1 1 m) / 8) % 8 = x0 ∧ (L.1 0 (16 + (((L.1 1 m) / 64) % 8))) = 0 ∧ (n_willN L x0 m).2 < (n_will_58_s0 L m))) : n_willN L x0 (m + 1) = n_willN L x0 m := by rw [n_willN, if_neg h]
theorem n_will_w {L : ZU} (hB : ZB L) {m : Nat} : n_will_58_s0 L m < 2 ^ 30 + 101 := by
  have := hB 6 m
  unfold n_will_58_s0
  (repeat' split) <;> omega
theorem n_willN_lt {L : ZU} (hB : ZB L) {x0 : Nat} (m : Nat) : (n_willN L x0 m).2 < 2 ^ 30 + 101 := by
  induction m with
  | zero => rw [n_willN]; decide
  | succ m ih =>
    rw [n_willN]
    split
    · exact n_will_w hB
    · exact ih
theorem n_willN_le {L : ZU} {x0 : Nat} (m : Nat) : (n_willN L x0 m).1 ≤ m := by
  induction m with
  | zero => exact Nat.le_refl _
  | succ m ih =>
    rw [n_willN]
    split
    · exact Nat.le_refl _
    · omega
set_option maxRecDepth 100000 in
theorem N_will {g : Gx} {l : Launch} (hl : l.flags = flags0) (hst : g.Stable) {sg0 : Sg} {al : Nat → Nat} {L : ZU} {x0 : Nat} (hM : ZS g al L sg0) (hB : ZB L) (hx : x0 < 8) (hn : L.1 10 1 ≤ 24) : MM g l yL_will cL_will 11 (some .int) (rmZ 1) sg0 [.int (nI (x0)), .ref (al 0), .ref (al 1), .ref (al 5), .ref (al 6), .ref (al 10)] (PP sg0 (.int (nI (n_willN L x0 (L.1 10 1)).1 - 1))) noX := by
  refine MM.of hl hst (by decide) (Nat.le_of_ble_eq_true rfl) (fun x hg hlx C hin hout hargs => ?_)
  subst hg; subst hlx
  have C : AWC x cL_will 11 RL (rmZ 1) (some .int) := C
  have hF : ZFr al sg0 sg0 := ZFr.rf
  show AW x (RQ x (PP sg0 (.int (nI (n_willN L x0 (L.1 10 1)).1 - 1))) noX 0 0) 0 0 sg0 0 [(0, .int (nI (x0))), (1, .ref (al 0)), (2, .ref (al 1)), (3, .ref (al 5)), (4, .ref (al 6)), (5, .ref (al 10))] []
  have loop : ∀ (r m : Nat) (z : Int32) (w : Nat), m + r = L.1 10 1 → z = nI (n_willN L x0 m).1 - 1 → w = (n_willN L x0 m).2 → AW x (RQ x (PP sg0 (.int (nI (n_willN L x0 (L.1 10 1)).1 - 1))) noX 0 0) 0 0 sg0 9 [(0, .int (nI (x0))), (1, .ref (al 0)), (2, .ref (al 1)), (3, .ref (al 5)), (4, .ref (al 6)), (5, .ref (al 10)), (6, .int (z)), (7, .int (nI (w))), (8, .int (nI (m)))] [] := by
    intro r
    induction r with
    | zero =>
      intro m z w hm hz hw
      obtain rfl : m = L.1 10 1 := by omega
      refine aw_iload C dL_will_9 rfl rfl ?_
      refine aw_aload C dL_will_11 rfl rfl ?_
      refine aw_iconst (v := nI 1) C dL_will_13 rfl rfl ?_
      refine an_iald (k := 10) (i := 1) (N := 5) (v := L.1 10 1) C hM rfl rfl (by decide) rfl dL_will_14 rfl ?_
      refine an_icmp_ge (a := L.1 10 1) (b := L.1 10 1) (tgt := 124) C dL_will_15 (by omega) (by omega) (by decide) rfl (fun c => ?_) (fun c => absurd c (Nat.lt_irrefl _))
      refine aw_iload C dL_will_124 rfl rfl ?_
      exact aw_iret C rfl (Nat.le_refl _) (Nat.le_refl _) (PP.of (by rw [hz])) dL_will_126
    | succ r ih =>
      intro m z w hm hz hw
      subst hz; subst hw
      have hw2 := n_willN_lt hB (x0 := x0) m
      refine aw_iload C dL_will_9 rfl rfl ?_
      refine aw_aload C dL_will_11 rfl rfl ?_
      refine aw_iconst (v := nI 1) C dL_will_13 rfl rfl ?_
      refine an_iald (k := 10) (i := 1) (N := 5) (v := L.1 10 1) C hM rfl rfl (by decide) rfl dL_will_14 rfl ?_
      refine an_icmp_ge (a := m) (b := L.1 10 1) (tgt := 124) C dL_will_15 (by omega) (by omega) (by decide) rfl (fun c => absurd (show m < L.1 10 1 by omega) c) (fun c => ?_)
      have nxt : ∀ (m1 : Nat) (z : Int32) (w : Nat), m1 = m + 1 → z = nI (n_willN L x0 (m + 1)).1 - 1 → w = (n_willN L x0 (m + 1)).2 → AW x (RQ x (PP sg0 (.int (nI (n_willN L x0 (L.1 10 1)).1 - 1))) noX 0 0) 0 0 sg0 118 [(0, .int (nI (x0))), (1, .ref (al 0)), (2, .ref (al 1)), (3, .ref (al 5)), (4, .ref (al 6)), (5, .ref (al 10)), (6, .int (z)), (7, .int (nI (w))), (8, .int (nI (m)))] [] := by
        intro m1 z w hm1 hz hw
        refine aw_iinc (v' := nI (m + 1)) (ls' := [(8, _), (0, _), (1, _), (2, _), (3, _), (4, _), (5, _), (6, _), (7, _)]) C dL_will_118 rfl (by decide) (nI_add m 1) rfl rfl ?_
        refine aw_goto (tgt := 9) C dL_will_121 (by decide) ?_
        refine aw_pick (ls' := [(0, _), (1, _), (2, _), (3, _), (4, _), (5, _), (6, _), (7, _), (8, _)]) [1, 2, 3, 4, 5, 6, 7, 8, 0] rfl ?_
        exact ih (m + 1) z w (by omega) hz hw
      refine aw_aload_n C dL_will_18 rfl rfl rfl ?_
      refine aw_iload C dL_will_19 rfl rfl ?_
      refine an_iald (k := 5) (i := m) (N := 24) (v := (L.1 5 m)) C hM rfl rfl (by omega) rfl dL_will_21 rfl ?_
      refine aw_iconst (v := nI 4) C dL_will_22 rfl rfl ?_
      refine an_rem C (by have := hB 5 m; omega) (by decide) (by decide) dL_will_23 rfl ?_
      refine aw_istore (ls' := [(9, _), (0, _), (1, _), (2, _), (3, _), (4, _), (5, _), (6, _), (7, _), (8, _)]) C dL_will_24 (by decide) rfl rfl ?_
      refine aw_pick (ls' := [(0, _), (1, _), (2, _), (3, _), (4, _), (5, _), (6, _), (7, _), (8, _), (9, _)]) [1, 2, 3, 4, 5, 6, 7, 8, 9, 0] rfl ?_
      refine aw_iload C dL_will_26 rfl rfl ?_
      refine aw_iconst (v := nI 1) C dL_will_28 rfl rfl ?_
      have K58_1 : AW x (RQ x (PP sg0 (.int (nI (n_willN L x0 (L.1 10 1)).1 - 1))) noX 0 0) 0 0 sg0 58 [(0, .int (nI (x0))), (1, .ref (al 0)), (2, .ref (al 1)), (3, .ref (al 5)), (4, .ref (al 6)), (5, .ref (al 10)), (6, .int ((nI (n_willN L x0 m).1 - 1))), (7, .int (nI ((n_willN L x0 m).2))), (8, .int (nI (m)))] [.int (nI ((n_will_58_s0 L m)))] := by
        have q58s0 : (n_will_58_s0 L m) < 2 ^ 30 + 101 := by unfold n_will_58_s0; (repeat' split) <;> (have := hB 5 m; have := hB 6 m; omega)
        refine aw_istore (ls' := [(10, _), (0, _), (1, _), (2, _), (3, _), (4, _), (5, _), (6, _), (7, _), (8, _)]) C dL_will_58 (by decide) rfl rfl ?_
        refine aw_pick (ls' := [(0, _), (1, _), (2, _), (3, _), (4, _), (5, _), (6, _), (7, _), (8, _), (10, _)]) [1, 2, 3, 4, 5, 6, 7, 8, 9, 0] rfl ?_
        refine aw_aload_n C dL_will_60 rfl rfl rfl ?_
        refine aw_iload C dL_will_61 rfl rfl ?_
        refine an_iald (k := 1) (i := m) (N := 24) (v := (L.1 1 m)) C hM rfl rfl (by omega) rfl dL_will_63 rfl ?_
        refine aw_bipush (v := nI 8) C dL_will_64 rfl rfl ?_
        refine an_rem C (by have := hB 1 m; omega) (by decide) (by decide) dL_will_66 rfl ?_
        refine aw_iconst (v := nI 4) C dL_will_67 rfl rfl ?_
        refine an_icmp_ne (a := (L.1 1 m) % 8) (b := 4) (tgt := 118) C dL_will_68 (by have := hB 1 m; omega) (by decide) (by decide) rfl (fun c68 => ?_) (fun c68 => ?_)
        · refine aw_pick (ls' := [(0, _), (1, _), (2, _), (3, _), (4, _), (5, _), (6, _), (7, _), (8, _)]) [0, 1, 2, 3, 4, 5, 6, 7, 8] rfl ?_
          exact nxt (m + 1) _ _ rfl (by rw [n_willN_n (fun q => c68 q.1)]) (by rw [n_willN_n (fun q => c68 q.1)])
        · refine aw_aload_n C dL_will_71 rfl rfl rfl ?_
          refine aw_iload C dL_will_72 rfl rfl ?_
          refine an_iald (k := 1) (i := m) (N := 24) (v := (L.1 1 m)) C hM rfl rfl (by omega) rfl dL_will_74 rfl ?_
          refine aw_bipush (v := nI 8) C dL_will_75 rfl rfl ?_
          refine an_div C (by have := hB 1 m; omega) (by decide) (by decide) dL_will_77 rfl ?_
          refine aw_bipush (v := nI 8) C dL_will_78 rfl rfl ?_
          refine an_rem C (by have := hB 1 m; omega) (by decide) (by decide) dL_will_80 rfl ?_
          refine aw_iload_n C dL_will_81 rfl rfl rfl ?_
          refine an_icmp_ne (a := ((L.1 1 m) / 8) % 8) (b := x0) (tgt := 118) C dL_will_82 (by have := hB 1 m; omega) (by omega) (by decide) rfl (fun c82 => ?_) (fun c82 => ?_)
          · refine aw_pick (ls' := [(0, _), (1, _), (2, _), (3, _), (4, _), (5, _), (6, _), (7, _), (8, _)]) [0, 1, 2, 3, 4, 5, 6, 7, 8] rfl ?_
            exact nxt (m + 1) _ _ rfl (by rw [n_willN_n (fun q => c82 q.2.1)]) (by rw [n_willN_n (fun q => c82 q.2.1)])
          · refine aw_aload_n C dL_will_85 rfl rfl rfl ?_
            refine aw_bipush (v := nI 16) C dL_will_86 rfl rfl ?_
            refine aw_aload_n C dL_will_88 rfl rfl rfl ?_
            refine aw_iload C dL_will_89 rfl rfl ?_
            refine an_iald (k := 1) (i := m) (N := 24) (v := (L.1 1 m)) C hM rfl rfl (by omega) rfl dL_will_91 rfl ?_
            refine aw_bipush (v := nI 64) C dL_will_92 rfl rfl ?_
            refine an_div C (by have := hB 1 m; omega) (by decide) (by decide) dL_will_94 rfl ?_
            refine aw_bipush (v := nI 8) C dL_will_95 rfl rfl ?_
            refine an_rem C (by have := hB 1 m; omega) (by decide) (by decide) dL_will_97 rfl ?_
            refine an_add C dL_will_98 rfl ?_
            refine an_iald (k := 0) (i := 16 + (((L.1 1 m) / 64) % 8)) (N := 40) (v := (L.1 0 (16 + (((L.1 1 m) / 64) % 8)))) C hM rfl rfl (by have := hB 1 m; omega) rfl dL_will_99 rfl ?_
            refine an_if_ne (a := (L.1 0 (16 + (((L.1 1 m) / 64) % 8)))) (tgt := 118) C dL_will_100 (by have := hB 0 (16 + (((L.1 1 m) / 64) % 8)); have := hB 1 m; omega) (by decide) rfl (fun c100 => ?_) (fun c100 => ?_)
            · refine aw_pick (ls' := [(0, _), (1, _), (2, _), (3, _), (4, _), (5, _), (6, _), (7, _), (8, _)]) [0, 1, 2, 3, 4, 5, 6, 7, 8] rfl ?_
              exact nxt (m + 1) _ _ rfl (by rw [n_willN_n (fun q => c100 q.2.2.1)]) (by rw [n_willN_n (fun q => c100 q.2.2.1)])
            · refine aw_iload C dL_will_103 rfl rfl ?_
              refine aw_iload C dL_will_105 rfl rfl ?_
              refine an_icmp_le (a := (n_will_58_s0 L m)) (b := (n_willN L x0 m).2) (tgt := 118) C dL_will_107 (by omega) (by omega) (by decide) rfl (fun c107 => ?_) (fun c107 => ?_)
              · refine aw_pick (ls' := [(0, _), (1, _), (2, _), (3, _), (4, _), (5, _), (6, _), (7, _), (8, _)]) [0, 1, 2, 3, 4, 5, 6, 7, 8] rfl ?_
                exact nxt (m + 1) _ _ rfl (by rw [n_willN_n (fun q => c107 q.2.2.2)]) (by rw [n_willN_n (fun q => c107 q.2.2.2)])
              · refine aw_iload C dL_will_110 rfl rfl ?_
                refine aw_istore (ls' := [(6, _), (0, _), (1, _), (2, _), (3, _), (4, _), (5, _), (7, _), (8, _), (10, _)]) C dL_will_112 (by decide) rfl rfl ?_
                refine aw_pick (ls' := [(0, _), (1, _), (2, _), (3, _), (4, _), (5, _), (6, _), (7, _), (8, _), (10, _)]) [1, 2, 3, 4, 5, 6, 0, 7, 8, 9] rfl ?_
                refine aw_iload C dL_will_114 rfl rfl ?_
                refine aw_istore (ls' := [(7, _), (0, _), (1, _), (2, _), (3, _), (4, _), (5, _), (6, _), (8, _), (10, _)]) C dL_will_116 (by decide) rfl rfl ?_
                refine aw_pick (ls' := [(0, _), (1, _), (2, _), (3, _), (4, _), (5, _), (6, _), (7, _), (8, _), (10, _)]) [1, 2, 3, 4, 5, 6, 7, 0, 8, 9] rfl ?_
                refine aw_pick (ls' := [(0, _), (1, _), (2, _), (3, _), (4, _), (5, _), (6, _), (7, _), (8, _)]) [0, 1, 2, 3, 4, 5, 6, 7, 8] rfl ?_
                exact nxt (m + 1) (nI m) (n_will_58_s0 L m) rfl (by rw [n_willN, if_pos ⟨c68, c82, c100, c107⟩]; exact (nI_pred m).symm) (by rw [n_willN, if_pos ⟨c68, c82, c100, c107⟩]) 
      refine an_icmp_ne (a := (L.1 5 m) % 4) (b := 1) (tgt := 43) C dL_will_29 (by have := hB 5 m; omega) (by decide) (by decide) rfl (fun c29 => ?_) (fun c29 => ?_)
      · refine aw_iload C dL_will_43 rfl rfl ?_
        refine aw_iconst (v := nI 2) C dL_will_45 rfl rfl ?_
        refine an_icmp_ne (a := (L.1 5 m) % 4) (b := 2) (tgt := 57) C dL_will_46 (by have := hB 5 m; omega) (by decide) (by decide) rfl (fun c46 => ?_) (fun c46 => ?_)
        · refine aw_iconst (v := nI 0) C dL_will_57 rfl rfl ?_
          refine aw_pick (ls' := [(0, _), (1, _), (2, _), (3, _), (4, _), (5, _), (6, _), (7, _), (8, _)]) [0, 1, 2, 3, 4, 5, 6, 7, 8] rfl ?_
          have k9 := K58_1
          rw [show (n_will_58_s0 L m) = 0 from by rw [n_will_58_s0, if_neg c29, if_neg c46]] at k9
          exact k9
        · refine aw_aload C dL_will_49 rfl rfl ?_
          refine aw_iload C dL_will_51 rfl rfl ?_
          refine an_iald (k := 6) (i := m) (N := 24) (v := (L.1 6 m)) C hM rfl rfl (by omega) rfl dL_will_53 rfl ?_
          refine aw_goto (tgt := 58) C dL_will_54 (by decide) ?_
          refine aw_pick (ls' := [(0, _), (1, _), (2, _), (3, _), (4, _), (5, _), (6, _), (7, _), (8, _)]) [0, 1, 2, 3, 4, 5, 6, 7, 8] rfl ?_
          have k9 := K58_1
          rw [show (n_will_58_s0 L m) = (L.1 6 m) from by rw [n_will_58_s0, if_neg c29, if_pos c46]] at k9
          exact k9
      · refine aw_bipush (v := nI 100) C dL_will_32 rfl rfl ?_
        refine aw_aload C dL_will_34 rfl rfl ?_
        refine aw_iload C dL_will_36 rfl rfl ?_
        refine an_iald (k := 6) (i := m) (N := 24) (v := (L.1 6 m)) C hM rfl rfl (by omega) rfl dL_will_38 rfl ?_
        refine an_add C dL_will_39 rfl ?_
        refine aw_goto (tgt := 58) C dL_will_40 (by decide) ?_
        refine aw_pick (ls' := [(0, _), (1, _), (2, _), (3, _), (4, _), (5, _), (6, _), (7, _), (8, _)]) [0, 1, 2, 3, 4, 5, 6, 7, 8] rfl ?_
        have k9 := K58_1
        rw [show (n_will_58_s0 L m) = 100 + (L.1 6 m) from by rw [n_will_58_s0, if_pos c29]] at k9
        exact k9
  refine aw_iconst (v := -1) C dL_will_0 rfl rfl ?_
  refine aw_istore (ls' := [(6, _), (0, _), (1, _), (2, _), (3, _), (4, _), (5, _)]) C dL_will_1 (by decide) rfl rfl ?_
  refine aw_iconst (v := nI 0) C dL_will_3 rfl rfl ?_
  refine aw_istore (ls' := [(7, _), (6, _), (0, _), (1, _), (2, _), (3, _), (4, _), (5, _)]) C dL_will_4 (by decide) rfl rfl ?_
  refine aw_iconst (v := nI 0) C dL_will_6 rfl rfl ?_
  refine aw_istore (ls' := [(8, _), (7, _), (6, _), (0, _), (1, _), (2, _), (3, _), (4, _), (5, _)]) C dL_will_7 (by decide) rfl rfl ?_
  refine aw_pick (ls' := [(0, _), (1, _), (2, _), (3, _), (4, _), (5, _), (6, _), (7, _), (8, _)]) [3, 4, 5, 6, 7, 8, 2, 1, 0] rfl ?_
  exact loop (L.1 10 1) 0 (-1) 0 (by omega) (by rw [n_willN]; decide) (by rw [n_willN])
