/-! rows over naturals -/
theorem mod2_and (a : Nat) : a &&& 1 = a % 2 := Nat.and_one_is_mod a
theorem and7_mod (a : Nat) : a &&& 7 = a % 8 := Nat.and_two_pow_sub_one_eq_mod a 3
theorem nI_31 {b : Nat} (hb : b < 32) : nI b &&& 31 = nI b := by
  rw [show (31 : Int32) = nI 31 from rfl, nI_and, show (31 : Nat) = 2 ^ 5 - 1 from rfl, Nat.and_two_pow_sub_one_eq_mod, Nat.mod_eq_of_lt hb]
theorem nI_smod : ∀ b, b < 32 → ((nI b).toBitVec.smod 32).toNat = b := by decide +kernel
theorem nI_shl {a b : Nat} (hb : b < 32) (h : a * 2 ^ b < 2 ^ 32) : nI a <<< (nI b &&& 31) = nI (a * 2 ^ b) := by
  rw [nI_31 hb]
  exact pk_shlN (nI b) b (nI_smod b hb) h
theorem nI_shr {a b : Nat} (hb : b < 32) (h : a < 2 ^ 31) : nI a >>> (nI b &&& 31) = nI (a / 2 ^ b) := by
  rw [nI_31 hb]
  exact pk_shrN h (nI b) b (nI_smod b hb)
theorem lN_z {a : Nat} (ha : a < 2 ^ 63) : ¬ lN a = 0 ↔ 0 < a := by
  rw [show (0 : Int64) = lN 0 from rfl, pk_lEQ ha (by decide)]
  omega
section ANR
variable {x : Cx} {Q : State → Prop} {c n : Nat} {sg sg0 : Sg} {pc pc' p1 : Nat} {ls : List (Nat × Value)} {st : List Value} {cc : ByteArray} {nL : Nat} {own : String} {R : Room} {ret : Option FieldType} {al : Nat → Nat} {L : ZU} {k i N a b v : Nat} {off : Int} {tgt : Nat}
theorem an_iald (C : AWC x cc nL own R ret) (hM : ZS x.g al L sg) (hk : zar k = true) (hN : zlen k = N) (hi : i < N) (hv : L.1 k i = v) (hdg : decode cc pc = .ok (.iaload, 1)) (hpc : pc + 1 = pc') (kk : AW x Q c n sg pc' ls (.int (nI v) :: st)) : AW x Q c n sg pc ls (.int (nI i) :: .ref (al k) :: st) := by
  subst hN; subst hv
  have hl := (zlen_4 k).2
  refine aw_iald C (hM.1 k hk) (vp_in_nI hi (by omega)) hdg hpc ?_
  rw [nI_clamp (by omega)]
  exact kk
theorem an_lald (C : AWC x cc nL own R ret) (hM : ZS x.g al L sg) (hi : i < 14) (hv : L.2 i = v) (hdg : decode cc pc = .ok (.laload, 1)) (hpc : pc + 1 = pc') (kk : AW x Q c n sg pc' ls (.long (lN v) :: st)) : AW x Q c n sg pc ls (.int (nI i) :: .ref (al 11) :: st) := by
  subst hv
  refine aw_lald C hM.2.1 (vp_in_nI hi (by decide)) hdg hpc ?_
  rw [nI_clamp (by omega)]
  exact kk
theorem an_iast (C : AWC x cc nL own R ret) (hM : ZS x.g al L sg) (hF : ZFr al sg0 sg) (hk : zar k = true) (hN : zlen k = N) (hi : i < N) (hdg : decode cc pc = .ok (.iastore, 1)) (hpc : pc + 1 = pc') (kk : ∀ sg', ZS x.g al (zI L k i v) sg' → ZFr al sg0 sg' → AW x Q c n sg' pc' ls st) : AW x Q c n sg pc ls (.int (nI v) :: .int (nI i) :: .ref (al k) :: st) := by
  subst hN
  have hl := (zlen_4 k).2
  refine aw_iast C (hM.1 k hk) (vp_in_nI hi (by omega)) hdg hpc ?_
  rw [nI_clamp (by omega)]
  exact kk _ (hM.setI hk) (hF.put (zar_lt hk))
theorem an_last (C : AWC x cc nL own R ret) (hM : ZS x.g al L sg) (hF : ZFr al sg0 sg) (hi : i < 14) (hdg : decode cc pc = .ok (.lastore, 1)) (hpc : pc + 1 = pc') (kk : ∀ sg', ZS x.g al (zJ L i v) sg' → ZFr al sg0 sg' → AW x Q c n sg' pc' ls st) : AW x Q c n sg pc ls (.long (lN v) :: .int (nI i) :: .ref (al 11) :: st) := by
  refine aw_last C hM.2.1 (vp_in_nI hi (by decide)) hdg hpc ?_
  rw [nI_clamp (by omega)]
  exact kk _ hM.setJ (hF.put (by decide))
theorem an_add (C : AWC x cc nL own R ret) (hdg : decode cc pc = .ok (.iadd, 1)) (hpc : pc + 1 = pc') (kk : AW x Q c n sg pc' ls (.int (nI (a + b)) :: st)) : AW x Q c n sg pc ls (.int (nI b) :: .int (nI a) :: st) := by
  refine aw_iadd C hdg hpc ?_
  rw [nI_add]
  exact kk
theorem an_mul (C : AWC x cc nL own R ret) (hdg : decode cc pc = .ok (.imul, 1)) (hpc : pc + 1 = pc') (kk : AW x Q c n sg pc' ls (.int (nI (a * b)) :: st)) : AW x Q c n sg pc ls (.int (nI b) :: .int (nI a) :: st) := by
  refine aw_imul C hdg hpc ?_
  rw [pk_mul]
  exact kk
theorem an_sub (C : AWC x cc nL own R ret) (h : b ≤ a) (hdg : decode cc pc = .ok (.isub, 1)) (hpc : pc + 1 = pc') (kk : AW x Q c n sg pc' ls (.int (nI (a - b)) :: st)) : AW x Q c n sg pc ls (.int (nI b) :: .int (nI a) :: st) := by
  refine aw_isub C hdg hpc ?_
  rw [pk_sub h]
  exact kk
theorem an_div (C : AWC x cc nL own R ret) (h0 : a < 2 ^ 31) (h1 : 0 < b) (h2 : b < 2 ^ 31) (hdg : decode cc pc = .ok (.idiv, 1)) (hpc : pc + 1 = pc') (kk : AW x Q c n sg pc' ls (.int (nI (a / b)) :: st)) : AW x Q c n sg pc ls (.int (nI b) :: .int (nI a) :: st) := by
  refine aw_idiv C hdg (fun z => by rw [show (0 : Int32) = nI 0 from rfl, nI_eq h2 (by decide)] at z; omega) hpc ?_
  rw [pk_div h0 h1 h2]
  exact kk
theorem an_rem (C : AWC x cc nL own R ret) (h0 : a < 2 ^ 31) (h1 : 0 < b) (h2 : b < 2 ^ 31) (hdg : decode cc pc = .ok (.irem, 1)) (hpc : pc + 1 = pc') (kk : AW x Q c n sg pc' ls (.int (nI (a % b)) :: st)) : AW x Q c n sg pc ls (.int (nI b) :: .int (nI a) :: st) := by
  refine aw_irem C hdg (fun z => by rw [show (0 : Int32) = nI 0 from rfl, nI_eq h2 (by decide)] at z; omega) hpc ?_
  rw [pk_rem h0 h1 h2]
  exact kk
theorem an_and (C : AWC x cc nL own R ret) (hdg : decode cc pc = .ok (.iand, 1)) (hpc : pc + 1 = pc') (kk : AW x Q c n sg pc' ls (.int (nI (a &&& b)) :: st)) : AW x Q c n sg pc ls (.int (nI b) :: .int (nI a) :: st) := by
  refine aw_iand C hdg hpc ?_
  rw [nI_and]
  exact kk
theorem an_or (C : AWC x cc nL own R ret) (hdg : decode cc pc = .ok (.ior, 1)) (hpc : pc + 1 = pc') (kk : AW x Q c n sg pc' ls (.int (nI (a ||| b)) :: st)) : AW x Q c n sg pc ls (.int (nI b) :: .int (nI a) :: st) := by
  refine aw_ior C hdg hpc ?_
  rw [nI_or]
  exact kk
theorem an_and1 (C : AWC x cc nL own R ret) (hdg : decode cc pc = .ok (.iand, 1)) (hpc : pc + 1 = pc') (kk : AW x Q c n sg pc' ls (.int (nI (a % 2)) :: st)) : AW x Q c n sg pc ls (.int (nI 1) :: .int (nI a) :: st) := by
  refine aw_iand C hdg hpc ?_
  rw [nI_and, mod2_and]
  exact kk
theorem an_and7 (C : AWC x cc nL own R ret) (hdg : decode cc pc = .ok (.iand, 1)) (hpc : pc + 1 = pc') (kk : AW x Q c n sg pc' ls (.int (nI (a % 8)) :: st)) : AW x Q c n sg pc ls (.int (nI 7) :: .int (nI a) :: st) := by
  refine aw_iand C hdg hpc ?_
  rw [nI_and, and7_mod]
  exact kk
theorem an_shl (C : AWC x cc nL own R ret) (h0 : b < 32) (h1 : a * 2 ^ b < 2 ^ 32) (hdg : decode cc pc = .ok (.ishl, 1)) (hpc : pc + 1 = pc') (kk : AW x Q c n sg pc' ls (.int (nI (a * 2 ^ b)) :: st)) : AW x Q c n sg pc ls (.int (nI b) :: .int (nI a) :: st) := by
  refine aw_ishl C hdg hpc ?_
  rw [nI_shl h0 h1]
  exact kk
theorem an_shr (C : AWC x cc nL own R ret) (h0 : b < 32) (h1 : a < 2 ^ 31) (hdg : decode cc pc = .ok (.ishr, 1)) (hpc : pc + 1 = pc') (kk : AW x Q c n sg pc' ls (.int (nI (a / 2 ^ b)) :: st)) : AW x Q c n sg pc ls (.int (nI b) :: .int (nI a) :: st) := by
  refine aw_ishr C hdg hpc ?_
  rw [nI_shr h0 h1]
  exact kk
theorem an_ladd (C : AWC x cc nL own R ret) (hdg : decode cc pc = .ok (.ladd, 1)) (hpc : pc + 1 = pc') (kk : AW x Q c n sg pc' ls (.long (lN (a + b)) :: st)) : AW x Q c n sg pc ls (.long (lN b) :: .long (lN a) :: st) := by
  refine aw_ladd C hdg hpc ?_
  rw [lN_add]
  exact kk
theorem an_lmul (C : AWC x cc nL own R ret) (hdg : decode cc pc = .ok (.lmul, 1)) (hpc : pc + 1 = pc') (kk : AW x Q c n sg pc' ls (.long (lN (a * b)) :: st)) : AW x Q c n sg pc ls (.long (lN b) :: .long (lN a) :: st) := by
  refine aw_lmul C hdg hpc ?_
  rw [lN_mul]
  exact kk
theorem an_lsub (C : AWC x cc nL own R ret) (h : b ≤ a) (hdg : decode cc pc = .ok (.lsub, 1)) (hpc : pc + 1 = pc') (kk : AW x Q c n sg pc' ls (.long (lN (a - b)) :: st)) : AW x Q c n sg pc ls (.long (lN b) :: .long (lN a) :: st) := by
  refine aw_lsub C hdg hpc ?_
  rw [lN_sub h]
  exact kk
theorem an_ldiv (C : AWC x cc nL own R ret) (h0 : a < 2 ^ 63) (h1 : 0 < b) (h2 : b < 2 ^ 63) (hdg : decode cc pc = .ok (.ldiv, 1)) (hpc : pc + 1 = pc') (kk : AW x Q c n sg pc' ls (.long (lN (a / b)) :: st)) : AW x Q c n sg pc ls (.long (lN b) :: .long (lN a) :: st) := by
  refine aw_ldiv C hdg (fun z => by rw [show (0 : Int64) = lN 0 from rfl, pk_lEQ h2 (by decide)] at z; omega) hpc ?_
  rw [pk_lDiv h0 h1 h2]
  exact kk
theorem an_lrem (C : AWC x cc nL own R ret) (h0 : a < 2 ^ 63) (h1 : 0 < b) (h2 : b < 2 ^ 63) (hdg : decode cc pc = .ok (.lrem, 1)) (hpc : pc + 1 = pc') (kk : AW x Q c n sg pc' ls (.long (lN (a % b)) :: st)) : AW x Q c n sg pc ls (.long (lN b) :: .long (lN a) :: st) := by
  refine aw_lrem C hdg (fun z => by rw [show (0 : Int64) = lN 0 from rfl, pk_lEQ h2 (by decide)] at z; omega) hpc ?_
  rw [pk_lRem h0 h1 h2]
  exact kk
theorem an_i2l (C : AWC x cc nL own R ret) (h0 : a < 2 ^ 31) (hdg : decode cc pc = .ok (.i2l, 1)) (hpc : pc + 1 = pc') (kk : AW x Q c n sg pc' ls (.long (lN a) :: st)) : AW x Q c n sg pc ls (.int (nI a) :: st) := by
  refine aw_i2l C hdg hpc ?_
  rw [nI_l h0]
  exact kk
theorem an_l2i (C : AWC x cc nL own R ret) (hdg : decode cc pc = .ok (.l2i, 1)) (hpc : pc + 1 = pc') (kk : AW x Q c n sg pc' ls (.int (nI a) :: st)) : AW x Q c n sg pc ls (.long (lN a) :: st) := by
  refine aw_l2i C hdg hpc ?_
  rw [lN_i]
  exact kk
theorem an_icmp_eq (C : AWC x cc nL own R ret) (hdg : decode cc pc = .ok (.if_icmp .eq off, 3)) (ha : a < 2 ^ 31) (hb : b < 2 ^ 31) (ht : (pc : Int) + off = (tgt : Int)) (hpc : pc + 3 = pc') (kt : a = b → AW x Q c n sg tgt ls st) (kf : ¬ a = b → AW x Q c n sg pc' ls st) : AW x Q c n sg pc ls (.int (nI b) :: .int (nI a) :: st) := by
  exact aw_icmp_eq C hdg ht hpc (fun q => kt ((nI_eq ha hb).mp q)) (fun q => kf (fun z => q ((nI_eq ha hb).mpr z)))
theorem an_icmp_ne (C : AWC x cc nL own R ret) (hdg : decode cc pc = .ok (.if_icmp .ne off, 3)) (ha : a < 2 ^ 31) (hb : b < 2 ^ 31) (ht : (pc : Int) + off = (tgt : Int)) (hpc : pc + 3 = pc') (kt : ¬ a = b → AW x Q c n sg tgt ls st) (kf : a = b → AW x Q c n sg pc' ls st) : AW x Q c n sg pc ls (.int (nI b) :: .int (nI a) :: st) := by
  exact aw_icmp_ne C hdg ht hpc (fun q => kt (fun z => q ((nI_eq ha hb).mpr z))) (fun q => kf ((nI_eq ha hb).mp q))
theorem an_icmp_lt (C : AWC x cc nL own R ret) (hdg : decode cc pc = .ok (.if_icmp .lt off, 3)) (ha : a < 2 ^ 31) (hb : b < 2 ^ 31) (ht : (pc : Int) + off = (tgt : Int)) (hpc : pc + 3 = pc') (kt : a < b → AW x Q c n sg tgt ls st) (kf : ¬ a < b → AW x Q c n sg pc' ls st) : AW x Q c n sg pc ls (.int (nI b) :: .int (nI a) :: st) := by
  exact aw_icmp_lt C hdg ht hpc (fun q => kt ((nI_ltI ha hb).mp q)) (fun q => kf (fun z => q ((nI_ltI ha hb).mpr z)))
theorem an_icmp_ge (C : AWC x cc nL own R ret) (hdg : decode cc pc = .ok (.if_icmp .ge off, 3)) (ha : a < 2 ^ 31) (hb : b < 2 ^ 31) (ht : (pc : Int) + off = (tgt : Int)) (hpc : pc + 3 = pc') (kt : ¬ a < b → AW x Q c n sg tgt ls st) (kf : a < b → AW x Q c n sg pc' ls st) : AW x Q c n sg pc ls (.int (nI b) :: .int (nI a) :: st) := by
  exact aw_icmp_ge C hdg ht hpc (fun q => kt (by have z := (nI_leI hb ha).mp q; omega)) (fun q => kf (Nat.lt_of_not_le (fun y => q ((nI_leI hb ha).mpr y))))
theorem an_icmp_gt (C : AWC x cc nL own R ret) (hdg : decode cc pc = .ok (.if_icmp .gt off, 3)) (ha : a < 2 ^ 31) (hb : b < 2 ^ 31) (ht : (pc : Int) + off = (tgt : Int)) (hpc : pc + 3 = pc') (kt : b < a → AW x Q c n sg tgt ls st) (kf : ¬ b < a → AW x Q c n sg pc' ls st) : AW x Q c n sg pc ls (.int (nI b) :: .int (nI a) :: st) := by
  exact aw_icmp_gt C hdg ht hpc (fun q => kt ((nI_ltI hb ha).mp q)) (fun q => kf (fun z => q ((nI_ltI hb ha).mpr z)))
theorem an_icmp_le (C : AWC x cc nL own R ret) (hdg : decode cc pc = .ok (.if_icmp .le off, 3)) (ha : a < 2 ^ 31) (hb : b < 2 ^ 31) (ht : (pc : Int) + off = (tgt : Int)) (hpc : pc + 3 = pc') (kt : ¬ b < a → AW x Q c n sg tgt ls st) (kf : b < a → AW x Q c n sg pc' ls st) : AW x Q c n sg pc ls (.int (nI b) :: .int (nI a) :: st) := by
  exact aw_icmp_le C hdg ht hpc (fun q => kt (by have z := (nI_leI ha hb).mp q; omega)) (fun q => kf (Nat.lt_of_not_le (fun y => q ((nI_leI ha hb).mpr y))))
theorem an_if_eq (C : AWC x cc nL own R ret) (hdg : decode cc pc = .ok (.ifCond .eq off, 3)) (ha : a < 2 ^ 31) (ht : (pc : Int) + off = (tgt : Int)) (hpc : pc + 3 = pc') (kt : a = 0 → AW x Q c n sg tgt ls st) (kf : ¬ a = 0 → AW x Q c n sg pc' ls st) : AW x Q c n sg pc ls (.int (nI a) :: st) := by
  exact aw_if_eq C hdg ht hpc (fun q => kt ((nI_eq ha (b := 0) (by decide)).mp q)) (fun q => kf (fun z => q ((nI_eq ha (b := 0) (by decide)).mpr z)))
theorem an_if_ne (C : AWC x cc nL own R ret) (hdg : decode cc pc = .ok (.ifCond .ne off, 3)) (ha : a < 2 ^ 31) (ht : (pc : Int) + off = (tgt : Int)) (hpc : pc + 3 = pc') (kt : ¬ a = 0 → AW x Q c n sg tgt ls st) (kf : a = 0 → AW x Q c n sg pc' ls st) : AW x Q c n sg pc ls (.int (nI a) :: st) := by
  exact aw_if_ne C hdg ht hpc (fun q => kt (fun z => q ((nI_eq ha (b := 0) (by decide)).mpr z))) (fun q => kf ((nI_eq ha (b := 0) (by decide)).mp q))
theorem an_if_gt (C : AWC x cc nL own R ret) (hdg : decode cc pc = .ok (.ifCond .gt off, 3)) (ha : a < 2 ^ 31) (ht : (pc : Int) + off = (tgt : Int)) (hpc : pc + 3 = pc') (kt : 0 < a → AW x Q c n sg tgt ls st) (kf : ¬ 0 < a → AW x Q c n sg pc' ls st) : AW x Q c n sg pc ls (.int (nI a) :: st) := by
  exact aw_if_gt C hdg ht hpc (fun q => kt ((nI_ltI (a := 0) (by decide) ha).mp q)) (fun q => kf (fun z => q ((nI_ltI (a := 0) (by decide) ha).mpr z)))
theorem an_if_le (C : AWC x cc nL own R ret) (hdg : decode cc pc = .ok (.ifCond .le off, 3)) (ha : a < 2 ^ 31) (ht : (pc : Int) + off = (tgt : Int)) (hpc : pc + 3 = pc') (kt : ¬ 0 < a → AW x Q c n sg tgt ls st) (kf : 0 < a → AW x Q c n sg pc' ls st) : AW x Q c n sg pc ls (.int (nI a) :: st) := by
  exact aw_if_le C hdg ht hpc (fun q => kt (by have z := (nI_leI ha (b := 0) (by decide)).mp q; omega)) (fun q => kf (Nat.lt_of_not_le (fun y => q ((nI_leI ha (b := 0) (by decide)).mpr y))))
theorem an_lc_eq (C : AWC x cc nL own R ret) (hd0 : decode cc p1 = .ok (.lcmp, 1)) (hp1 : p1 + 1 = pc) (hdg : decode cc pc = .ok (.ifCond .eq off, 3)) (ha : a < 2 ^ 63) (hb : b < 2 ^ 63) (ht : (pc : Int) + off = (tgt : Int)) (hpc : pc + 3 = pc') (kt : a = b → AW x Q c n sg tgt ls st) (kf : ¬ a = b → AW x Q c n sg pc' ls st) : AW x Q c n sg p1 ls (.long (lN b) :: .long (lN a) :: st) := by
  refine aw_lcmp C hd0 hp1 ?_
  exact aw_if_eq C hdg ht hpc (fun q => kt (((lg_cmp_eq _ _).trans (pk_lEQ ha hb)).mp q)) (fun q => kf (fun z => q (((lg_cmp_eq _ _).trans (pk_lEQ ha hb)).mpr z)))
theorem an_lc_ne (C : AWC x cc nL own R ret) (hd0 : decode cc p1 = .ok (.lcmp, 1)) (hp1 : p1 + 1 = pc) (hdg : decode cc pc = .ok (.ifCond .ne off, 3)) (ha : a < 2 ^ 63) (hb : b < 2 ^ 63) (ht : (pc : Int) + off = (tgt : Int)) (hpc : pc + 3 = pc') (kt : ¬ a = b → AW x Q c n sg tgt ls st) (kf : a = b → AW x Q c n sg pc' ls st) : AW x Q c n sg p1 ls (.long (lN b) :: .long (lN a) :: st) := by
  refine aw_lcmp C hd0 hp1 ?_
  exact aw_if_ne C hdg ht hpc (fun q => kt (fun z => q (((lg_cmp_eq _ _).trans (pk_lEQ ha hb)).mpr z))) (fun q => kf (((lg_cmp_eq _ _).trans (pk_lEQ ha hb)).mp q))
theorem an_lc_lt (C : AWC x cc nL own R ret) (hd0 : decode cc p1 = .ok (.lcmp, 1)) (hp1 : p1 + 1 = pc) (hdg : decode cc pc = .ok (.ifCond .lt off, 3)) (ha : a < 2 ^ 63) (hb : b < 2 ^ 63) (ht : (pc : Int) + off = (tgt : Int)) (hpc : pc + 3 = pc') (kt : a < b → AW x Q c n sg tgt ls st) (kf : ¬ a < b → AW x Q c n sg pc' ls st) : AW x Q c n sg p1 ls (.long (lN b) :: .long (lN a) :: st) := by
  refine aw_lcmp C hd0 hp1 ?_
  exact aw_if_lt C hdg ht hpc (fun q => kt (((lg_cmp_lt _ _).trans (pk_lLT ha hb)).mp q)) (fun q => kf (fun z => q (((lg_cmp_lt _ _).trans (pk_lLT ha hb)).mpr z)))
theorem an_lc_ge (C : AWC x cc nL own R ret) (hd0 : decode cc p1 = .ok (.lcmp, 1)) (hp1 : p1 + 1 = pc) (hdg : decode cc pc = .ok (.ifCond .ge off, 3)) (ha : a < 2 ^ 63) (hb : b < 2 ^ 63) (ht : (pc : Int) + off = (tgt : Int)) (hpc : pc + 3 = pc') (kt : ¬ a < b → AW x Q c n sg tgt ls st) (kf : a < b → AW x Q c n sg pc' ls st) : AW x Q c n sg p1 ls (.long (lN b) :: .long (lN a) :: st) := by
  refine aw_lcmp C hd0 hp1 ?_
  exact aw_if_ge C hdg ht hpc (fun q => kt (by have z := ((lg_cmp_ge _ _).trans (pk_lLE hb ha)).mp q; omega)) (fun q => kf (Nat.lt_of_not_le (fun y => q (((lg_cmp_ge _ _).trans (pk_lLE hb ha)).mpr y))))
theorem an_lc_gt (C : AWC x cc nL own R ret) (hd0 : decode cc p1 = .ok (.lcmp, 1)) (hp1 : p1 + 1 = pc) (hdg : decode cc pc = .ok (.ifCond .gt off, 3)) (ha : a < 2 ^ 63) (hb : b < 2 ^ 63) (ht : (pc : Int) + off = (tgt : Int)) (hpc : pc + 3 = pc') (kt : b < a → AW x Q c n sg tgt ls st) (kf : ¬ b < a → AW x Q c n sg pc' ls st) : AW x Q c n sg p1 ls (.long (lN b) :: .long (lN a) :: st) := by
  refine aw_lcmp C hd0 hp1 ?_
  exact aw_if_gt C hdg ht hpc (fun q => kt (((lg_cmp_gt _ _).trans (pk_lLT hb ha)).mp q)) (fun q => kf (fun z => q (((lg_cmp_gt _ _).trans (pk_lLT hb ha)).mpr z)))
theorem an_lc_le (C : AWC x cc nL own R ret) (hd0 : decode cc p1 = .ok (.lcmp, 1)) (hp1 : p1 + 1 = pc) (hdg : decode cc pc = .ok (.ifCond .le off, 3)) (ha : a < 2 ^ 63) (hb : b < 2 ^ 63) (ht : (pc : Int) + off = (tgt : Int)) (hpc : pc + 3 = pc') (kt : ¬ b < a → AW x Q c n sg tgt ls st) (kf : b < a → AW x Q c n sg pc' ls st) : AW x Q c n sg p1 ls (.long (lN b) :: .long (lN a) :: st) := by
  refine aw_lcmp C hd0 hp1 ?_
  exact aw_if_le C hdg ht hpc (fun q => kt (by have z := ((lg_cmp_le _ _).trans (pk_lLE ha hb)).mp q; omega)) (fun q => kf (Nat.lt_of_not_le (fun y => q (((lg_cmp_le _ _).trans (pk_lLE ha hb)).mpr y))))
theorem an_bif_eq {z : Bool} (C : AWC x cc nL own R ret) (hdg : decode cc pc = .ok (.ifCond .eq off, 3)) (ht : (pc : Int) + off = (tgt : Int)) (hpc : pc + 3 = pc') (kt : ¬ z = true → AW x Q c n sg tgt ls st) (kf : z = true → AW x Q c n sg pc' ls st) : AW x Q c n sg pc ls (.int (b2i z) :: st) :=
  aw_if_eq C hdg ht hpc (fun q => kt (fun y => by rw [y] at q; exact absurd q (by decide))) (fun q => kf (tr_of q))
theorem an_bif_ne {z : Bool} (C : AWC x cc nL own R ret) (hdg : decode cc pc = .ok (.ifCond .ne off, 3)) (ht : (pc : Int) + off = (tgt : Int)) (hpc : pc + 3 = pc') (kt : z = true → AW x Q c n sg tgt ls st) (kf : ¬ z = true → AW x Q c n sg pc' ls st) : AW x Q c n sg pc ls (.int (b2i z) :: st) :=
  aw_if_ne C hdg ht hpc (fun q => kt (tr_of q)) (fun q => kf (fun y => by rw [y] at q; exact absurd q (by decide)))
theorem aw_eqq {ls' : List (Nat × Value)} {st' : List Value} (h1 : ls = ls') (h2 : st = st') (kk : AW x Q c n sg pc ls' st') : AW x Q c n sg pc ls st := by
  subst h1; subst h2
  exact kk
end ANR
theorem b2i_n1 : nI 1 = b2i true := rfl
theorem b2i_n0 : nI 0 = b2i false := rfl
