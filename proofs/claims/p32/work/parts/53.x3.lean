/-! the shares of a thing -/
set_option maxRecDepth 100000 in
theorem C_common {g : Gx} {l : Launch} {ez : Nat} (G : GOK g l ez) {sg : Sg} {a b : Nat} (ha : a < 2 ^ 63) (hb : b < 2 ^ 63) (hb0 : 0 < b) : MM g l yX6_commonDivisor cX6_commonDivisor 11 (some .long) (rmC 1 0 0) sg [.long (lN a), .long (lN b)] (PP sg (.long (lN (Nat.gcd a b)))) (noX) := by
  refine MM.of G.1 G.2.1 (by decide) (Nat.le_of_ble_eq_true rfl) (fun x hg hlx C hin hout hargs => ?_)
  subst hg; subst hlx
  have C : AWC x cX6_commonDivisor 11 RX6 (rmC 1 0 0) (some .long) := C
  show AW x (RQ x _ _ _ _) 0 0 sg 0 [(0, .long (lN a)), (2, .long (lN b))] []
  have ex : ∀ (y i : Nat), y < 2 ^ 63 → Nat.gcd y 0 = Nat.gcd a b → AW x (RQ x (PP sg (.long (lN (Nat.gcd a b)))) noX (rmC 1 0 0).cells (rmC 1 0 0).slots) 0 0 sg 45 [(0, .long (lN a)), (2, .long (lN b)), (4, .long (lN y)), (6, .long (lN 0)), (8, .int (nI i))] [] := by
    intro y i hy hg
    rw [Nat.gcd_zero_right] at hg
    have hp : 0 < Nat.gcd a b := Nat.gcd_pos_of_pos_right a hb0
    refine aw_lload C dX6_commonDivisor_45 rfl rfl ?_
    refine aw_lconst (v := 1) C dX6_commonDivisor_47 rfl rfl ?_
    refine aw_lcmp C dX6_commonDivisor_48 rfl ?_
    refine aw_if_ge (tgt := 56) C dX6_commonDivisor_49 (by decide) rfl (fun c49 => ?_) (fun c49 => ?_)
    · refine aw_lload C dX6_commonDivisor_56 rfl rfl ?_
      exact aw_lret C (Nat.le_of_ble_eq_true rfl) (Nat.le_of_ble_eq_true rfl) (PP.of (by rw [hg])) dX6_commonDivisor_58
    · exact absurd (lgc_ge.mpr (by rw [show (1 : Int64) = lN 1 from rfl, pk_lLT hy (by decide)]; omega)) c49
  have turn : ∀ (y z i : Nat), y < 2 ^ 63 → z < 2 ^ 63 → 0 < z → i < 200 → AW x (RQ x (PP sg (.long (lN (Nat.gcd a b)))) noX (rmC 1 0 0).cells (rmC 1 0 0).slots) 0 0 sg 9 [(0, .long (lN a)), (2, .long (lN b)), (4, .long (lN z)), (6, .long (lN (y % z))), (8, .int (nI (i + 1)))] [] → AW x (RQ x (PP sg (.long (lN (Nat.gcd a b)))) noX (rmC 1 0 0).cells (rmC 1 0 0).slots) 0 0 sg 9 [(0, .long (lN a)), (2, .long (lN b)), (4, .long (lN y)), (6, .long (lN z)), (8, .int (nI i))] [] := by
    intro y z i hy hz hz0 hi kk
    refine aw_iload C dX6_commonDivisor_9 rfl rfl ?_
    refine aw_sipush (v := 200) C dX6_commonDivisor_11 rfl rfl ?_
    refine aw_icmp_ge (tgt := 45) C dX6_commonDivisor_14 (by decide) rfl (fun c14 => ?_) (fun c14 => ?_)
    · exact absurd c14 (fun h => absurd ((nI_leI (a := 200) (b := i) (by decide) (by omega)).mp h) (by omega))
    · refine aw_lload C dX6_commonDivisor_17 rfl rfl ?_
      refine aw_lconst (v := 0) C dX6_commonDivisor_19 rfl rfl ?_
      refine aw_lcmp C dX6_commonDivisor_20 rfl ?_
      refine aw_if_eq (tgt := 45) C dX6_commonDivisor_21 (by decide) rfl (fun c21 => ?_) (fun c21 => ?_)
      · exact absurd (lgc_eq.mp c21) (fun e => by rw [show (0 : Int64) = lN 0 from rfl, pk_lEQ hz (by decide)] at e; omega)
      · refine aw_lload C dX6_commonDivisor_24 rfl rfl ?_
        refine aw_lload C dX6_commonDivisor_26 rfl rfl ?_
        refine aw_lrem C dX6_commonDivisor_28 (fun e => by rw [show (0 : Int64) = lN 0 from rfl, pk_lEQ hz (by decide)] at e; omega) rfl ?_
        rw [pk_lRem hy hz0 hz]
        refine aw_lstore (ls' := [(9, _), (0, _), (2, _), (4, _), (6, _), (8, _)]) C dX6_commonDivisor_29 (by decide) rfl rfl ?_
        refine aw_lload C dX6_commonDivisor_31 rfl rfl ?_
        refine aw_lstore (ls' := [(4, _), (9, _), (0, _), (2, _), (6, _), (8, _)]) C dX6_commonDivisor_33 (by decide) rfl rfl ?_
        refine aw_lload C dX6_commonDivisor_35 rfl rfl ?_
        refine aw_lstore (ls' := [(6, _), (4, _), (9, _), (0, _), (2, _), (8, _)]) C dX6_commonDivisor_37 (by decide) rfl rfl ?_
        refine aw_iinc (v' := nI (i + 1)) (ls' := [(8, _), (6, _), (4, _), (9, _), (0, _), (2, _)]) C dX6_commonDivisor_39 rfl (by decide) (nI_1 i) rfl rfl ?_
        refine aw_goto (tgt := 9) C dX6_commonDivisor_42 (by decide) ?_
        refine aw_pick (ls' := [(0, _), (2, _), (4, _), (6, _), (8, _)]) [4, 5, 2, 1, 0] rfl ?_
        exact kk
  have fin : ∀ (y i : Nat), y < 2 ^ 63 → i < 200 → Nat.gcd y 0 = Nat.gcd a b → AW x (RQ x (PP sg (.long (lN (Nat.gcd a b)))) noX (rmC 1 0 0).cells (rmC 1 0 0).slots) 0 0 sg 9 [(0, .long (lN a)), (2, .long (lN b)), (4, .long (lN y)), (6, .long (lN 0)), (8, .int (nI i))] [] := by
    intro y i hy hi hg
    refine aw_iload C dX6_commonDivisor_9 rfl rfl ?_
    refine aw_sipush (v := 200) C dX6_commonDivisor_11 rfl rfl ?_
    refine aw_icmp_ge (tgt := 45) C dX6_commonDivisor_14 (by decide) rfl (fun c14 => ?_) (fun c14 => ?_)
    · exact ex y i hy hg
    · refine aw_lload C dX6_commonDivisor_17 rfl rfl ?_
      refine aw_lconst (v := 0) C dX6_commonDivisor_19 rfl rfl ?_
      refine aw_lcmp C dX6_commonDivisor_20 rfl ?_
      refine aw_if_eq (tgt := 45) C dX6_commonDivisor_21 (by decide) rfl (fun c21 => ?_) (fun c21 => ?_)
      · exact ex y i hy hg
      · exact absurd (lgc_eq.mpr rfl) c21
  have loop : ∀ (k y z i : Nat), y * z < 2 ^ k → z ≤ y → y < 2 ^ 63 → i + k < 199 → Nat.gcd y z = Nat.gcd a b → AW x (RQ x (PP sg (.long (lN (Nat.gcd a b)))) noX (rmC 1 0 0).cells (rmC 1 0 0).slots) 0 0 sg 9 [(0, .long (lN a)), (2, .long (lN b)), (4, .long (lN y)), (6, .long (lN z)), (8, .int (nI i))] [] := by
    intro k
    induction k with
    | zero =>
      intro y z i h hzy hy hi hg
      have hz : z = 0 := by
        rcases Nat.eq_zero_or_pos z with h0 | h0
        · exact h0
        · have := Nat.mul_pos (show 0 < y by omega) h0
          omega
      subst hz
      exact fin y i hy (by omega) hg
    | succ k ih =>
      intro y z i h hzy hy hi hg
      rcases Nat.eq_zero_or_pos z with h0 | h0
      · subst h0
        exact fin y i hy (by omega) hg
      · have h1 := eu_half h0 hzy
        have h2 := Nat.mod_lt y h0
        rw [Nat.pow_succ] at h
        exact turn y z i hy (by omega) h0 (by omega) (ih z (y % z) (i + 1) (by omega) (by omega) (by omega) (by omega) (by rw [← hg, Nat.gcd_comm y z]; exact (Nat.gcd_rec z y).symm ▸ Nat.gcd_comm _ _))
  refine aw_lload_n C dX6_commonDivisor_0 rfl rfl rfl ?_
  refine aw_lstore (ls' := [(4, _), (0, _), (2, _)]) C dX6_commonDivisor_1 (by decide) rfl rfl ?_
  refine aw_lload_n C dX6_commonDivisor_3 rfl rfl rfl ?_
  refine aw_lstore (ls' := [(6, _), (4, _), (0, _), (2, _)]) C dX6_commonDivisor_4 (by decide) rfl rfl ?_
  refine aw_iconst (v := 0) C dX6_commonDivisor_6 rfl rfl ?_
  refine aw_istore (ls' := [(8, _), (6, _), (4, _), (0, _), (2, _)]) C dX6_commonDivisor_7 (by decide) rfl rfl ?_
  refine aw_pick (ls' := [(0, _), (2, _), (4, _), (6, _), (8, _)]) [3, 4, 2, 1, 0] rfl ?_
  have h2 := Nat.mod_lt a hb0
  have h3 : b * (a % b) < 2 ^ 126 := by
    have q1 : b * (a % b) ≤ b * 2 ^ 63 := Nat.mul_le_mul_left b (by omega)
    have q2 : b * 2 ^ 63 < 2 ^ 63 * 2 ^ 63 := Nat.mul_lt_mul_of_pos_right hb (by decide)
    have q3 : (2 : Nat) ^ 63 * 2 ^ 63 = 2 ^ 126 := by decide
    omega
  exact turn a b 0 ha hb hb0 (by decide) (loop 126 b (a % b) 1 h3 (by omega) hb (by decide) (by rw [Nat.gcd_comm a b]; exact (Nat.gcd_rec b a).symm ▸ Nat.gcd_comm _ _))
def isHo (v : Int32) : Bool := !decide (v < 0) && !decide (13 ≤ v)
theorem isHo_t {k : Nat} (h : k < 13) : isHo (nI k) = true := by
  simp only [isHo, Bool.and_eq_true, Bool.not_eq_true', decide_eq_false_iff_not]
  exact ⟨nI_pos (by omega), fun z => by rw [show (13 : Int32) = nI 13 from rfl, nI_leI (by decide) (by omega)] at z; omega⟩
set_option maxRecDepth 100000 in
theorem C_isHolder {g : Gx} {l : Launch} {ez : Nat} (G : GOK g l ez) {sg : Sg} {v : Int32} : MM g l yX6_isHolder cX6_isHolder 1 (some .boolean) (rmC 1 0 0) sg [.int v] (PP sg (.int (b2i (isHo v)))) (noX) := by
  refine MM.of G.1 G.2.1 (by decide) (Nat.le_of_ble_eq_true rfl) (fun x hg hlx C hin hout hargs => ?_)
  subst hg; subst hlx
  have C : AWC x cX6_isHolder 1 RX6 (rmC 1 0 0) (some .boolean) := C
  show AW x (RQ x _ _ _ _) 0 0 sg 0 [(0, .int v)] []
  refine aw_iload_n C dX6_isHolder_0 rfl rfl rfl ?_
  refine aw_if_lt (tgt := 14) C dX6_isHolder_1 (by decide) rfl (fun c1 => ?_) (fun c1 => ?_)
  · refine aw_iconst (v := 0) C dX6_isHolder_14 rfl rfl ?_
    exact aw_iret C (by decide) (Nat.le_of_ble_eq_true rfl) (Nat.le_of_ble_eq_true rfl) (PP.of (by simp [isHo, b2i, c1])) dX6_isHolder_15
  · refine aw_iload_n C dX6_isHolder_4 rfl rfl rfl ?_
    refine aw_bipush (v := 13) C dX6_isHolder_5 rfl rfl ?_
    refine aw_icmp_ge (tgt := 14) C dX6_isHolder_7 (by decide) rfl (fun c7 => ?_) (fun c7 => ?_)
    · refine aw_iconst (v := 0) C dX6_isHolder_14 rfl rfl ?_
      exact aw_iret C (by decide) (Nat.le_of_ble_eq_true rfl) (Nat.le_of_ble_eq_true rfl) (PP.of (by simp [isHo, b2i, c1, c7])) dX6_isHolder_15
    · refine aw_iconst (v := 1) C dX6_isHolder_10 rfl rfl ?_
      refine aw_goto (tgt := 15) C dX6_isHolder_11 (by decide) ?_
      exact aw_iret C (by decide) (Nat.le_of_ble_eq_true rfl) (Nat.le_of_ble_eq_true rfl) (PP.of (by simp [isHo, b2i, c1, c7])) dX6_isHolder_15
set_option maxRecDepth 100000 in
theorem C_isEmptyOf {g : Gx} {l : Launch} {ez : Nat} (G : GOK g l ez) {sg : Sg} {so a b : Nat} {f : Nat → Rat} (hH : SH g sg so a b f) {k : Nat} (hk : k < 13) (hn : (f k).num.toNat < 2 ^ 63) : MM g l yX6_isEmptyOf cX6_isEmptyOf 2 (some .boolean) (rmC 2 0 0) sg [.ref so, .int (nI k)] (PP sg (.int (b2i (decide ((f k).num.toNat = 0))))) (noX) := by
  refine MM.of G.1 G.2.1 (by decide) (Nat.le_of_ble_eq_true rfl) (fun x hg hlx C hin hout hargs => ?_)
  subst hg; subst hlx
  have C : AWC x cX6_isEmptyOf 2 RX6 (rmC 2 0 0) (some .boolean) := C
  show AW x (RQ x _ _ _ _) 0 0 sg 0 [(0, .ref so), (1, .int (nI k))] []
  have he : lN (f k).num.toNat = 0 → (f k).num.toNat = 0 := fun e => by rw [show (0 : Int64) = lN 0 from rfl, pk_lEQ hn (by decide)] at e; exact e
  have he2 : (f k).num.toNat = 0 → lN (f k).num.toNat = 0 := fun e => by rw [e]; rfl
  refine aw_iload_n C dX6_isEmptyOf_0 rfl rfl rfl ?_
  refine cw_callSp C k_X6_18 (C_isHolder G) ⟨by decide, by decide⟩ rfl rfl (Nat.le_of_ble_eq_true rfl) (Nat.le_of_ble_eq_true rfl) (Nat.le_of_ble_eq_true rfl) dX6_isEmptyOf_1 rfl ?_
  rw [isHo_t hk]
  refine aw_if_eq (tgt := 18) C dX6_isEmptyOf_4 (by decide) rfl (fun z => absurd z (by decide)) (fun _ => ?_)
  refine aw_aload_n C dX6_isEmptyOf_7 rfl rfl rfl ?_
  refine aw_getf C f_X6_9 hH.1 rfl dX6_isEmptyOf_8 rfl ?_
  refine aw_iload_n C dX6_isEmptyOf_11 rfl rfl rfl ?_
  refine aw_lald C hH.2.1 (vp_in_nI hk (by decide)) dX6_isEmptyOf_12 rfl ?_
  rw [nI_clamp (by omega), clip_in hk]
  refine aw_lconst (v := 0) C dX6_isEmptyOf_13 rfl rfl ?_
  refine aw_lcmp C dX6_isEmptyOf_14 rfl ?_
  refine aw_if_ne (tgt := 22) C dX6_isEmptyOf_15 (by decide) rfl (fun c15 => ?_) (fun c15 => ?_)
  · refine aw_iconst (v := 0) C dX6_isEmptyOf_22 rfl rfl ?_
    exact aw_iret C (by decide) (Nat.le_of_ble_eq_true rfl) (Nat.le_of_ble_eq_true rfl) (PP.of (by rw [decide_eq_false (fun z => c15 (lgc_eq.mpr (he2 z)))]; rfl)) dX6_isEmptyOf_23
  · refine aw_iconst (v := 1) C dX6_isEmptyOf_18 rfl rfl ?_
    refine aw_goto (tgt := 23) C dX6_isEmptyOf_19 (by decide) ?_
    exact aw_iret C (by decide) (Nat.le_of_ble_eq_true rfl) (Nat.le_of_ble_eq_true rfl) (PP.of (by rw [decide_eq_true (he (lgc_eq.mp c15))]; rfl)) dX6_isEmptyOf_23
set_option maxRecDepth 100000 in
theorem C_has {g : Gx} {l : Launch} {ez : Nat} (G : GOK g l ez) {sg : Sg} {so a b : Nat} {f : Nat → Rat} (hH : SH g sg so a b f) {k x0 y0 : Nat} (hk : k < 13) (hx : x0 < 2 ^ 31) (hy : y0 < 2 ^ 31) (h1 : (f k).num.toNat * y0 < 2 ^ 63) (h2 : x0 * (f k).den < 2 ^ 63) : MM g l yX6_has cX6_has 4 (some .boolean) (rmC 2 0 0) sg [.ref so, .int (nI k), .int (nI x0), .int (nI y0)] (PP sg (.int (b2i (decide (x0 * (f k).den ≤ (f k).num.toNat * y0))))) (noX) := by
  refine MM.of G.1 G.2.1 (by decide) (Nat.le_of_ble_eq_true rfl) (fun x hg hlx C hin hout hargs => ?_)
  subst hg; subst hlx
  have C : AWC x cX6_has 4 RX6 (rmC 2 0 0) (some .boolean) := C
  show AW x (RQ x _ _ _ _) 0 0 sg 0 [(0, .ref so), (1, .int (nI k)), (2, .int (nI x0)), (3, .int (nI y0))] []
  have e1 : lN (f k).num.toNat * (nI y0).toInt64 = lN ((f k).num.toNat * y0) := by rw [nI_l hy, lN_mul]
  have e2 : (nI x0).toInt64 * lN (f k).den = lN (x0 * (f k).den) := by rw [nI_l hx, lN_mul]
  refine aw_iload_n C dX6_has_0 rfl rfl rfl ?_
  refine cw_callSp C k_X6_18 (C_isHolder G) ⟨by decide, by decide⟩ rfl rfl (Nat.le_of_ble_eq_true rfl) (Nat.le_of_ble_eq_true rfl) (Nat.le_of_ble_eq_true rfl) dX6_has_1 rfl ?_
  rw [isHo_t hk]
  refine aw_if_eq (tgt := 33) C dX6_has_4 (by decide) rfl (fun z => absurd z (by decide)) (fun _ => ?_)
  refine aw_aload_n C dX6_has_7 rfl rfl rfl ?_
  refine aw_getf C f_X6_9 hH.1 rfl dX6_has_8 rfl ?_
  refine aw_iload_n C dX6_has_11 rfl rfl rfl ?_
  refine aw_lald C hH.2.1 (vp_in_nI hk (by decide)) dX6_has_12 rfl ?_
  rw [nI_clamp (by omega), clip_in hk]
  refine aw_iload_n C dX6_has_13 rfl rfl rfl ?_
  refine aw_i2l C dX6_has_14 rfl ?_
  refine aw_lmul C dX6_has_15 rfl ?_
  refine aw_iload_n C dX6_has_16 rfl rfl rfl ?_
  refine aw_i2l C dX6_has_17 rfl ?_
  refine aw_aload_n C dX6_has_18 rfl rfl rfl ?_
  refine aw_getf C f_X6_15 hH.1 rfl dX6_has_19 rfl ?_
  refine aw_iload_n C dX6_has_22 rfl rfl rfl ?_
  refine aw_lald C hH.2.2.1 (vp_in_nI hk (by decide)) dX6_has_23 rfl ?_
  rw [nI_clamp (by omega), clip_in hk]
  refine aw_lmul C dX6_has_24 rfl ?_
  refine aw_lcmp C dX6_has_25 rfl ?_
  refine aw_if_lt (tgt := 33) C dX6_has_26 (by decide) rfl (fun c26 => ?_) (fun c26 => ?_)
  · refine aw_iconst (v := 0) C dX6_has_33 rfl rfl ?_
    exact aw_iret C (by decide) (Nat.le_of_ble_eq_true rfl) (Nat.le_of_ble_eq_true rfl) (PP.of (by rw [decide_eq_false (fun z => by rw [e1, e2] at c26; exact absurd ((lg_cmp_lt _ _).mp c26) (by rw [pk_lLT h1 h2]; omega))]; rfl)) dX6_has_34
  · have q26 := Int32.not_lt.mp c26
    refine aw_iconst (v := 1) C dX6_has_29 rfl rfl ?_
    refine aw_goto (tgt := 34) C dX6_has_30 (by decide) ?_
    exact aw_iret C (by decide) (Nat.le_of_ble_eq_true rfl) (Nat.le_of_ble_eq_true rfl) (PP.of (by rw [decide_eq_true (by rw [e1, e2, lgc_ge, pk_lLT h1 h2] at q26; omega)]; rfl)) dX6_has_34
set_option maxRecDepth 100000 in
theorem C_termOf {g : Gx} {l : Launch} {ez : Nat} (G : GOK g l ez) {sg : Sg} {so a b : Nat} {f : Nat → Rat} (hH : SH g sg so a b f) {k : Nat} {bl : Bool} (hk : k < 13) : MM g l yX6_termOf cX6_termOf 3 (some .int) (rmC 2 0 0) sg [.ref so, .int (nI k), .int (b2i bl)] (PP sg (.int (nI (if bl = true then (f k).den else (f k).num.toNat)))) (noX) := by
  refine MM.of G.1 G.2.1 (by decide) (Nat.le_of_ble_eq_true rfl) (fun x hg hlx C hin hout hargs => ?_)
  subst hg; subst hlx
  have C : AWC x cX6_termOf 3 RX6 (rmC 2 0 0) (some .int) := C
  show AW x (RQ x _ _ _ _) 0 0 sg 0 [(0, .ref so), (1, .int (nI k)), (2, .int (b2i bl))] []
  refine aw_iload_n C dX6_termOf_0 rfl rfl rfl ?_
  refine cw_callSp C k_X6_18 (C_isHolder G) ⟨by decide, by decide⟩ rfl rfl (Nat.le_of_ble_eq_true rfl) (Nat.le_of_ble_eq_true rfl) (Nat.le_of_ble_eq_true rfl) dX6_termOf_1 rfl ?_
  rw [isHo_t hk]
  refine aw_if_ne (tgt := 17) C dX6_termOf_4 (by decide) rfl (fun _ => ?_) (fun z => absurd z (by decide))
  refine aw_iload_n C dX6_termOf_17 rfl rfl rfl ?_
  refine aw_if_eq (tgt := 30) C dX6_termOf_18 (by decide) rfl (fun c18 => ?_) (fun c18 => ?_)
  · have c18 := fa_of c18
    refine aw_aload_n C dX6_termOf_30 rfl rfl rfl ?_
    refine aw_getf C f_X6_9 hH.1 rfl dX6_termOf_31 rfl ?_
    refine aw_iload_n C dX6_termOf_34 rfl rfl rfl ?_
    refine aw_lald C hH.2.1 (vp_in_nI hk (by decide)) dX6_termOf_35 rfl ?_
    rw [nI_clamp (by omega), clip_in hk]
    refine aw_l2i C dX6_termOf_36 rfl ?_
    exact aw_iret C rfl (Nat.le_of_ble_eq_true rfl) (Nat.le_of_ble_eq_true rfl) (PP.of (by subst c18; rw [lN_i]; rfl)) dX6_termOf_37
  · have c18 := tr_of c18
    refine aw_aload_n C dX6_termOf_21 rfl rfl rfl ?_
    refine aw_getf C f_X6_15 hH.1 rfl dX6_termOf_22 rfl ?_
    refine aw_iload_n C dX6_termOf_25 rfl rfl rfl ?_
    refine aw_lald C hH.2.2.1 (vp_in_nI hk (by decide)) dX6_termOf_26 rfl ?_
    rw [nI_clamp (by omega), clip_in hk]
    refine aw_goto (tgt := 36) C dX6_termOf_27 (by decide) ?_
    refine aw_l2i C dX6_termOf_36 rfl ?_
    exact aw_iret C rfl (Nat.le_of_ble_eq_true rfl) (Nat.le_of_ble_eq_true rfl) (PP.of (by subst c18; rw [lN_i]; rfl)) dX6_termOf_37
