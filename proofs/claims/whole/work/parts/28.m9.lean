set_option maxRecDepth 100000 in
theorem M_search {g : Gx} {l : Launch} (hl : l.flags = flags0) (hst : g.Stable) {ad : Nat → Nat} {th : Int32} {u : MU} {sg : Sg} (hM : MS g ad th u sg) (hW : WN u) {v a b : Int32} : MM g l yX9_search cX9_search 6 (some .int) (rmM 3) sg [.ref (ad 0), .int v, .int a, .int b] (PO g ad sg (opSearch u v a b)) noX := by
  refine MM.of hl hst (by decide) (Nat.le_of_ble_eq_true rfl) (fun x hg hlx C hin hout hargs => ?_)
  subst hg; subst hlx
  have C : AWC x cX9_search 6 RX9 (rmM 3) (some .int) := C
  have hF : MF ad sg sg := MF.rf
  show AW x (RQ x _ _ _ _) 0 0 sg 0 [(0, .ref (ad 0)), (1, .int v), (2, .int a), (3, .int b)] []
  obtain ⟨sg0, hsg0⟩ : ∃ s, s = sg := ⟨_, rfl⟩
  have hF : MF ad sg0 sg := by rw [hsg0]; exact hF
  show AW x (RQ x (PO x.g ad sg (opSearch u v a b)) noX (rmM 3).cells (rmM 3).slots) 0 0 sg 0 [(0, .ref (ad 0)), (1, .int v), (2, .int a), (3, .int b)] []
  rw [show PO x.g ad sg = PO x.g ad sg0 by rw [hsg0]]
  have loop : ∀ (p f : Nat), p < 8 → f < 2 ^ 31 → v = nI p → a = nI f → isTh u (nI p) = true → ¬ (nI f < 0 ∨ ¬ nI f ≤ b) → ∀ (r e n : Nat) (z : Int32) (sg : Sg), MS x.g ad 0 u sg → MF ad sg0 sg → e < 2 ^ 31 → u.2.2.1 35 < e + r → z = nI n → n + srch u (nI p) b r e = srch u (nI p) b 101 f → AW x (RQ x (PO x.g ad sg0 (opSearch u v a b)) noX (rmM 3).cells (rmM 3).slots) 0 0 sg 36 [(0, .ref (ad 0)), (1, .int (nI p)), (2, .int (nI f)), (3, .int b), (4, .int z), (5, .int (nI e))] [] := by
    intro p f hp hf ev ea ip hno r
    subst ev; subst ea
    have hpc := clampI (n := p) (by omega)
    have hfc := clampI (n := f) hf
    have h35 : u.2.2.1 35 ≤ 100 := hW.2.2.2.2
    induction r with
    | zero =>
      intro e n z sg hM hF he hr hz hT
      refine aw_aload_n C dX9_search_36 rfl rfl rfl ?_
      refine aw_getf C f_X9_117 hM.1 rfl dX9_search_37 rfl ?_
      refine aw_if_ne (tgt := 85) C dX9_search_40 (by decide) rfl (fun h => by first | exact absurd h (by decide) | exact absurd (by decide) h) (fun _ => ?_)
      refine aw_iload C dX9_search_43 rfl rfl ?_
      refine aw_aload_n C dX9_search_45 rfl rfl rfl ?_
      refine aw_getf C f_X9_201 hM.1 rfl dX9_search_46 rfl ?_
      refine aw_icmp_ge (tgt := 85) C dX9_search_49 (by decide) rfl (fun c49 => ?_) (fun c49 => ?_)
      · refine aw_iload C dX9_search_85 rfl rfl ?_
        exact aw_iret C rfl (Nat.le_refl _) (Nat.le_refl _) (PO.of (by rw [opSearch, if_neg (by simp [ip]), if_neg hno, hz, hfc, show n = srch u (nI p) b 101 f from (by rw [srch] at hT; omega)]) hM hF) dX9_search_87
      · exact absurd (by rw [nI_leI (by omega) he]; omega) c49
    | succ r ih =>
      intro e n z sg hM hF he hr hz hT
      refine aw_aload_n C dX9_search_36 rfl rfl rfl ?_
      refine aw_getf C f_X9_117 hM.1 rfl dX9_search_37 rfl ?_
      refine aw_if_ne (tgt := 85) C dX9_search_40 (by decide) rfl (fun h => by first | exact absurd h (by decide) | exact absurd (by decide) h) (fun _ => ?_)
      refine aw_iload C dX9_search_43 rfl rfl ?_
      refine aw_aload_n C dX9_search_45 rfl rfl rfl ?_
      refine aw_getf C f_X9_201 hM.1 rfl dX9_search_46 rfl ?_
      refine aw_icmp_ge (tgt := 85) C dX9_search_49 (by decide) rfl (fun c49 => ?_) (fun c49 => ?_)
      · refine aw_iload C dX9_search_85 rfl rfl ?_
        exact aw_iret C rfl (Nat.le_refl _) (Nat.le_refl _) (PO.of (by rw [opSearch, if_neg (by simp [ip]), if_neg hno, hz, hfc, show n = srch u (nI p) b 101 f from (by rw [srch, if_neg (by rintro ⟨q1, q2⟩; rw [nI_leI (by omega) he] at c49; omega)] at hT; omega)]) hM hF) dX9_search_87
      · have he1 : e < u.2.2.1 35 := by rw [nI_leI (by omega) he] at c49; omega
        refine aw_iload C dX9_search_52 rfl rfl ?_
        refine aw_iload_n C dX9_search_54 rfl rfl rfl ?_
        refine aw_icmp_gt (tgt := 85) C dX9_search_55 (by decide) rfl (fun c55 => ?_) (fun c55 => ?_)
        · refine aw_iload C dX9_search_85 rfl rfl ?_
          exact aw_iret C rfl (Nat.le_refl _) (Nat.le_refl _) (PO.of (by rw [opSearch, if_neg (by simp [ip]), if_neg hno, hz, hfc, show n = srch u (nI p) b 101 f from (by rw [srch, if_neg (by rintro ⟨q1, q2⟩; exact q2 c55)] at hT; omega)]) hM hF) dX9_search_87
        · refine aw_iload C dX9_search_58 rfl rfl ?_
          refine aw_aload_n C dX9_search_60 rfl rfl rfl ?_
          refine aw_getf C f_X9_105 hM.1 rfl dX9_search_61 rfl ?_
          refine aw_iload C dX9_search_64 rfl rfl ?_
          refine mw_iald (k := 38) (N := 100) C hM rfl rfl rfl (by omega) dX9_search_66 rfl ?_
          refine aw_iload_n C dX9_search_67 rfl rfl rfl ?_
          refine aw_icmp_ne (tgt := 75) C dX9_search_68 (by decide) rfl (fun c68 => ?_) (fun c68 => ?_)
          · refine aw_iconst (v := 0) C dX9_search_75 rfl rfl ?_
            refine aw_iadd C dX9_search_76 rfl ?_
            refine aw_istore (ls' := [(4, _), (0, _), (1, _), (2, _), (3, _), (5, _)]) C dX9_search_77 (by decide) rfl rfl ?_
            refine aw_iinc (v' := nI (e + 1)) (ls' := [(5, _), (4, _), (0, _), (1, _), (2, _), (3, _)]) C dX9_search_79 rfl (by decide) (nI_1 e) rfl rfl ?_
            refine aw_goto (tgt := 36) C dX9_search_82 (by decide) ?_
            refine aw_pick (ls' := [(0, _), (1, _), (2, _), (3, _), (4, _), (5, _)]) [2, 3, 4, 5, 1, 0] rfl ?_
            exact ih (e + 1) n _ sg hM hF (by omega) (by omega) (by rw [hz]; exact (nI_add n 0)) (by rw [srch, if_pos ⟨he1, c55⟩, if_neg c68] at hT; omega)
          · refine aw_iconst (v := 1) C dX9_search_71 rfl rfl ?_
            refine aw_goto (tgt := 76) C dX9_search_72 (by decide) ?_
            refine aw_iadd C dX9_search_76 rfl ?_
            refine aw_istore (ls' := [(4, _), (0, _), (1, _), (2, _), (3, _), (5, _)]) C dX9_search_77 (by decide) rfl rfl ?_
            refine aw_iinc (v' := nI (e + 1)) (ls' := [(5, _), (4, _), (0, _), (1, _), (2, _), (3, _)]) C dX9_search_79 rfl (by decide) (nI_1 e) rfl rfl ?_
            refine aw_goto (tgt := 36) C dX9_search_82 (by decide) ?_
            refine aw_pick (ls' := [(0, _), (1, _), (2, _), (3, _), (4, _), (5, _)]) [2, 3, 4, 5, 1, 0] rfl ?_
            exact ih (e + 1) (n + 1) _ sg hM hF (by omega) (by omega) (by rw [hz, nI_1]) (by rw [srch, if_pos ⟨he1, c55⟩, if_pos c68] at hT; omega)
  refine aw_aload_n C dX9_search_0 rfl rfl rfl ?_
  refine aw_aload_n C dX9_search_1 rfl rfl rfl ?_
  refine aw_iload_n C dX9_search_2 rfl rfl rfl ?_
  refine mw_callVp C k_X9_149 hM (M_isThing hl hst hM) ⟨by decide, by decide⟩ rfl rfl rfl (Nat.le_of_ble_eq_true rfl) dX9_search_3 rfl ?_
  refine aw_if_ne (tgt := 13) C dX9_search_6 (by decide) rfl (fun c6 => ?_) (fun c6 => ?_)
  · have c6 := tr_of c6
    refine aw_iload_n C dX9_search_13 rfl rfl rfl ?_
    refine aw_if_lt (tgt := 22) C dX9_search_14 (by decide) rfl (fun c14 => ?_) (fun c14 => ?_)
    · refine aw_iconst (v := 2) C dX9_search_22 rfl rfl ?_
      refine aw_goto (tgt := 27) C dX9_search_23 (by decide) ?_
      refine mw_put (th' := _) (u' := _) C hM hF f_X9_117 rfl rfl rfl rfl rfl rfl dX9_search_27 rfl (fun sg hM hF => ?_)
      refine aw_iconst (v := 0) C dX9_search_30 rfl rfl ?_
      refine aw_istore (ls' := [(4, _), (0, _), (1, _), (2, _), (3, _)]) C dX9_search_31 (by decide) rfl rfl ?_
      refine aw_iload_n C dX9_search_33 rfl rfl rfl ?_
      refine aw_istore (ls' := [(5, _), (4, _), (0, _), (1, _), (2, _), (3, _)]) C dX9_search_34 (by decide) rfl rfl ?_
      refine aw_aload_n C dX9_search_36 rfl rfl rfl ?_
      refine aw_getf C f_X9_117 hM.1 rfl dX9_search_37 rfl ?_
      refine aw_if_ne (tgt := 85) C dX9_search_40 (by decide) rfl (fun _ => ?_) (fun h => by first | exact absurd h (by decide) | exact absurd (by decide) h)
      refine aw_iload C dX9_search_85 rfl rfl ?_
      exact aw_iret C rfl (Nat.le_refl _) (Nat.le_refl _) (PO.of (by simp [opSearch, c6, c14]) hM hF) dX9_search_87
    · refine aw_iload_n C dX9_search_17 rfl rfl rfl ?_
      refine aw_iload_n C dX9_search_18 rfl rfl rfl ?_
      refine aw_icmp_ge (tgt := 26) C dX9_search_19 (by decide) rfl (fun c19 => ?_) (fun c19 => ?_)
      · refine aw_iconst (v := 0) C dX9_search_26 rfl rfl ?_
        refine mw_put (th' := _) (u' := _) C hM hF f_X9_117 rfl rfl rfl rfl rfl rfl dX9_search_27 rfl (fun sg hM hF => ?_)
        refine aw_iconst (v := 0) C dX9_search_30 rfl rfl ?_
        refine aw_istore (ls' := [(4, _), (0, _), (1, _), (2, _), (3, _)]) C dX9_search_31 (by decide) rfl rfl ?_
        refine aw_iload_n C dX9_search_33 rfl rfl rfl ?_
        refine aw_istore (ls' := [(5, _), (4, _), (0, _), (1, _), (2, _), (3, _)]) C dX9_search_34 (by decide) rfl rfl ?_
        refine aw_pick (ls' := [(0, _), (1, _), (2, _), (3, _), (4, _), (5, _)]) [2, 3, 4, 5, 1, 0] rfl ?_
        obtain ⟨p, hp, rfl⟩ := isTh_of hW c6
        obtain ⟨f, hf, rfl⟩ := nI_of c14
        exact loop p f (by have := hW.2.2.2.1; omega) hf rfl rfl c6 (by simp [c14, c19]) 101 f 0 _ _ hM hF hf (by have := hW.2.2.2.2; omega) rfl (by omega)
      · refine aw_iconst (v := 2) C dX9_search_22 rfl rfl ?_
        refine aw_goto (tgt := 27) C dX9_search_23 (by decide) ?_
        refine mw_put (th' := _) (u' := _) C hM hF f_X9_117 rfl rfl rfl rfl rfl rfl dX9_search_27 rfl (fun sg hM hF => ?_)
        refine aw_iconst (v := 0) C dX9_search_30 rfl rfl ?_
        refine aw_istore (ls' := [(4, _), (0, _), (1, _), (2, _), (3, _)]) C dX9_search_31 (by decide) rfl rfl ?_
        refine aw_iload_n C dX9_search_33 rfl rfl rfl ?_
        refine aw_istore (ls' := [(5, _), (4, _), (0, _), (1, _), (2, _), (3, _)]) C dX9_search_34 (by decide) rfl rfl ?_
        refine aw_aload_n C dX9_search_36 rfl rfl rfl ?_
        refine aw_getf C f_X9_117 hM.1 rfl dX9_search_37 rfl ?_
        refine aw_if_ne (tgt := 85) C dX9_search_40 (by decide) rfl (fun _ => ?_) (fun h => by first | exact absurd h (by decide) | exact absurd (by decide) h)
        refine aw_iload C dX9_search_85 rfl rfl ?_
        exact aw_iret C rfl (Nat.le_refl _) (Nat.le_refl _) (PO.of (by simp [opSearch, c6, c14, c19]) hM hF) dX9_search_87
  · have c6 := fa_of c6
    refine aw_iconst (v := 1) C dX9_search_9 rfl rfl ?_
    refine aw_goto (tgt := 27) C dX9_search_10 (by decide) ?_
    refine mw_put (th' := _) (u' := _) C hM hF f_X9_117 rfl rfl rfl rfl rfl rfl dX9_search_27 rfl (fun sg hM hF => ?_)
    refine aw_iconst (v := 0) C dX9_search_30 rfl rfl ?_
    refine aw_istore (ls' := [(4, _), (0, _), (1, _), (2, _), (3, _)]) C dX9_search_31 (by decide) rfl rfl ?_
    refine aw_iload_n C dX9_search_33 rfl rfl rfl ?_
    refine aw_istore (ls' := [(5, _), (4, _), (0, _), (1, _), (2, _), (3, _)]) C dX9_search_34 (by decide) rfl rfl ?_
    refine aw_aload_n C dX9_search_36 rfl rfl rfl ?_
    refine aw_getf C f_X9_117 hM.1 rfl dX9_search_37 rfl ?_
    refine aw_if_ne (tgt := 85) C dX9_search_40 (by decide) rfl (fun _ => ?_) (fun h => by first | exact absurd h (by decide) | exact absurd (by decide) h)
    refine aw_iload C dX9_search_85 rfl rfl ?_
    exact aw_iret C rfl (Nat.le_refl _) (Nat.le_refl _) (PO.of (by simp [opSearch, c6]) hM hF) dX9_search_87
set_option maxRecDepth 100000 in
theorem M_pledge {g : Gx} {l : Launch} (hl : l.flags = flags0) (hst : g.Stable) {ad : Nat → Nat} {th : Int32} {u : MU} {sg : Sg} (hM : MS g ad th u sg) (hW : WN u) {v w : Int32} : MM g l yX9_pledge cX9_pledge 5 (some .int) (rmM 3) sg [.ref (ad 0), .int v, .int w] (PO g ad sg (opPledge u v w)) noX := by
  refine MM.of hl hst (by decide) (Nat.le_of_ble_eq_true rfl) (fun x hg hlx C hin hout hargs => ?_)
  subst hg; subst hlx
  have C : AWC x cX9_pledge 5 RX9 (rmM 3) (some .int) := C
  have hF : MF ad sg sg := MF.rf
  show AW x (RQ x _ _ _ _) 0 0 sg 0 [(0, .ref (ad 0)), (1, .int v), (2, .int w)] []
  obtain ⟨sg0, hsg0⟩ : ∃ s, s = sg := ⟨_, rfl⟩
  have hF : MF ad sg0 sg := by rw [hsg0]; exact hF
  show AW x (RQ x (PO x.g ad sg (opPledge u v w)) noX (rmM 3).cells (rmM 3).slots) 0 0 sg 0 [(0, .ref (ad 0)), (1, .int v), (2, .int w)] []
  rw [show PO x.g ad sg = PO x.g ad sg0 by rw [hsg0]]
  have loop : ∀ (p f : Nat), p < 8 → f < 2 ^ 31 → v = nI p → w = nI f → ¬ (isTh u (nI p) = false ∨ nI f < 0) → ∀ (r e k : Nat) (sg : Sg), MS x.g ad 0 u sg → MF ad sg0 sg → e ≤ 100 → k < 2 ^ 31 → u.2.2.1 35 < e + r → plg u (nI p) r e k = plg u (nI p) 101 0 f → AW x (RQ x (PO x.g ad sg0 (opPledge u v w)) noX (rmM 3).cells (rmM 3).slots) 0 0 sg 35 [(0, .ref (ad 0)), (1, .int (nI p)), (2, .int (nI f)), (3, .int (nI k)), (4, .int (nI e))] [] := by
    intro p f hp hf ev ea hno r
    subst ev; subst ea
    have hpc := clampI (n := p) (by omega)
    have hfc := clampI (n := f) hf
    have h35 : u.2.2.1 35 ≤ 100 := hW.2.2.2.2
    induction r with
    | zero =>
      intro e k sg hM hF he hk hr hT
      refine aw_iload C dX9_pledge_35 rfl rfl ?_
      refine aw_aload_n C dX9_pledge_37 rfl rfl rfl ?_
      refine aw_getf C f_X9_201 hM.1 rfl dX9_pledge_38 rfl ?_
      refine aw_icmp_ge (tgt := 87) C dX9_pledge_41 (by decide) rfl (fun c41 => ?_) (fun c41 => ?_)
      · refine aw_iconst (v := -1) C dX9_pledge_87 rfl rfl ?_
        exact aw_iret C rfl (Nat.le_refl _) (Nat.le_refl _) (PO.of (by rw [opPledge, if_neg hno, hfc]; rw [plg] at hT; rw [← hT]) hM hF) dX9_pledge_88
      · exact absurd (by rw [nI_leI (by omega) (by omega)]; omega) c41
    | succ r ih =>
      intro e k sg hM hF he hk hr hT
      refine aw_iload C dX9_pledge_35 rfl rfl ?_
      refine aw_aload_n C dX9_pledge_37 rfl rfl rfl ?_
      refine aw_getf C f_X9_201 hM.1 rfl dX9_pledge_38 rfl ?_
      refine aw_icmp_ge (tgt := 87) C dX9_pledge_41 (by decide) rfl (fun c41 => ?_) (fun c41 => ?_)
      · refine aw_iconst (v := -1) C dX9_pledge_87 rfl rfl ?_
        exact aw_iret C rfl (Nat.le_refl _) (Nat.le_refl _) (PO.of (by rw [opPledge, if_neg hno, hfc]; rw [plg, if_neg (by rw [nI_leI (by omega) (by omega)] at c41; omega)] at hT; rw [← hT]) hM hF) dX9_pledge_88
      · have he1 : e < u.2.2.1 35 := by rw [nI_leI (by omega) (by omega)] at c41; omega
        refine aw_aload_n C dX9_pledge_44 rfl rfl rfl ?_
        refine aw_getf C f_X9_99 hM.1 rfl dX9_pledge_45 rfl ?_
        refine aw_iload C dX9_pledge_48 rfl rfl ?_
        refine mw_iald (k := 36) (N := 100) C hM rfl rfl rfl (by omega) dX9_pledge_50 rfl ?_
        refine aw_iconst (v := 2) C dX9_pledge_51 rfl rfl ?_
        refine aw_icmp_ne (tgt := 81) C dX9_pledge_52 (by decide) rfl (fun c52 => ?_) (fun c52 => ?_)
        · refine aw_iinc (v' := nI (e + 1)) (ls' := [(4, _), (0, _), (1, _), (2, _), (3, _)]) C dX9_pledge_81 rfl (by decide) (nI_1 e) rfl rfl ?_
          refine aw_goto (tgt := 35) C dX9_pledge_84 (by decide) ?_
          refine aw_pick (ls' := [(0, _), (1, _), (2, _), (3, _), (4, _)]) [1, 2, 3, 4, 0] rfl ?_
          exact ih (e + 1) k sg hM hF (by omega) hk (by omega) (by rw [plg, if_pos he1, if_neg (fun q => c52 q.1)] at hT; exact hT)
        · refine aw_aload_n C dX9_pledge_55 rfl rfl rfl ?_
          refine aw_getf C f_X9_105 hM.1 rfl dX9_pledge_56 rfl ?_
          refine aw_iload C dX9_pledge_59 rfl rfl ?_
          refine mw_iald (k := 38) (N := 100) C hM rfl rfl rfl (by omega) dX9_pledge_61 rfl ?_
          refine aw_iload_n C dX9_pledge_62 rfl rfl rfl ?_
          refine aw_icmp_ne (tgt := 81) C dX9_pledge_63 (by decide) rfl (fun c63 => ?_) (fun c63 => ?_)
          · refine aw_iinc (v' := nI (e + 1)) (ls' := [(4, _), (0, _), (1, _), (2, _), (3, _)]) C dX9_pledge_81 rfl (by decide) (nI_1 e) rfl rfl ?_
            refine aw_goto (tgt := 35) C dX9_pledge_84 (by decide) ?_
            refine aw_pick (ls' := [(0, _), (1, _), (2, _), (3, _), (4, _)]) [1, 2, 3, 4, 0] rfl ?_
            exact ih (e + 1) k sg hM hF (by omega) hk (by omega) (by rw [plg, if_pos he1, if_neg (fun q => c63 q.2)] at hT; exact hT)
          · refine aw_iload_n C dX9_pledge_66 rfl rfl rfl ?_
            refine aw_if_ne (tgt := 78) C dX9_pledge_67 (by decide) rfl (fun c67 => ?_) (fun c67 => ?_)
            · have hk0 : ¬ k = 0 := fun q => c67 (by rw [q]; rfl)
              refine aw_iinc (v' := nI (k - 1)) (ls' := [(3, _), (0, _), (1, _), (2, _), (4, _)]) C dX9_pledge_78 rfl (by decide) (by have h9 := pk_m1 (k - 1); rw [show k - 1 + 1 = k by omega] at h9; exact h9) rfl rfl ?_
              refine aw_iinc (v' := nI (e + 1)) (ls' := [(4, _), (3, _), (0, _), (1, _), (2, _)]) C dX9_pledge_81 rfl (by decide) (nI_1 e) rfl rfl ?_
              refine aw_goto (tgt := 35) C dX9_pledge_84 (by decide) ?_
              refine aw_pick (ls' := [(0, _), (1, _), (2, _), (3, _), (4, _)]) [2, 3, 4, 1, 0] rfl ?_
              exact ih (e + 1) (k - 1) sg hM hF (by omega) (by omega) (by omega) (by rw [plg, if_pos he1, if_pos ⟨c52, c63⟩, if_neg hk0] at hT; exact hT)
            · have hk0 : k = 0 := by rw [show (0 : Int32) = nI 0 from rfl, nI_eq hk (by decide)] at c67; exact c67
              refine aw_aload_n C dX9_pledge_70 rfl rfl rfl ?_
              refine aw_getf C f_X9_102 hM.1 rfl dX9_pledge_71 rfl ?_
              refine aw_iload C dX9_pledge_74 rfl rfl ?_
              refine mw_iald (k := 37) (N := 100) C hM rfl rfl rfl (by omega) dX9_pledge_76 rfl ?_
              exact aw_iret C rfl (Nat.le_refl _) (Nat.le_refl _) (PO.of (by rw [opPledge, if_neg hno, hfc]; rw [plg, if_pos he1, if_pos ⟨c52, c63⟩, if_pos hk0] at hT; rw [← hT]) hM hF) dX9_pledge_77
  refine aw_aload_n C dX9_pledge_0 rfl rfl rfl ?_
  refine aw_aload_n C dX9_pledge_1 rfl rfl rfl ?_
  refine aw_iload_n C dX9_pledge_2 rfl rfl rfl ?_
  refine mw_callVp C k_X9_149 hM (M_isThing hl hst hM) ⟨by decide, by decide⟩ rfl rfl rfl (Nat.le_of_ble_eq_true rfl) dX9_pledge_3 rfl ?_
  refine aw_if_eq (tgt := 13) C dX9_pledge_6 (by decide) rfl (fun c6 => ?_) (fun c6 => ?_)
  · have c6 := fa_of c6
    refine aw_iconst (v := 1) C dX9_pledge_13 rfl rfl ?_
    refine aw_goto (tgt := 18) C dX9_pledge_14 (by decide) ?_
    refine mw_put (th' := _) (u' := _) C hM hF f_X9_117 rfl rfl rfl rfl rfl rfl dX9_pledge_18 rfl (fun sg hM hF => ?_)
    refine aw_aload_n C dX9_pledge_21 rfl rfl rfl ?_
    refine aw_getf C f_X9_117 hM.1 rfl dX9_pledge_22 rfl ?_
    refine aw_if_le (tgt := 30) C dX9_pledge_25 (by decide) rfl (fun h => by first | exact absurd h (by decide) | exact absurd (by decide) h) (fun _ => ?_)
    refine aw_iconst (v := 0) C dX9_pledge_28 rfl rfl ?_
    exact aw_iret C rfl (Nat.le_refl _) (Nat.le_refl _) (PO.of (by simp [opPledge, c6]) hM hF) dX9_pledge_29
  · have c6 := tr_of c6
    refine aw_iload_n C dX9_pledge_9 rfl rfl rfl ?_
    refine aw_if_ge (tgt := 17) C dX9_pledge_10 (by decide) rfl (fun c10 => ?_) (fun c10 => ?_)
    · refine aw_iconst (v := 0) C dX9_pledge_17 rfl rfl ?_
      refine mw_put (th' := _) (u' := _) C hM hF f_X9_117 rfl rfl rfl rfl rfl rfl dX9_pledge_18 rfl (fun sg hM hF => ?_)
      refine aw_aload_n C dX9_pledge_21 rfl rfl rfl ?_
      refine aw_getf C f_X9_117 hM.1 rfl dX9_pledge_22 rfl ?_
      refine aw_if_le (tgt := 30) C dX9_pledge_25 (by decide) rfl (fun _ => ?_) (fun h => by first | exact absurd h (by decide) | exact absurd (by decide) h)
      refine aw_iload_n C dX9_pledge_30 rfl rfl rfl ?_
      refine aw_istore_n (ls' := [(3, _), (0, _), (1, _), (2, _)]) C dX9_pledge_31 rfl (by decide) rfl rfl ?_
      refine aw_iconst (v := 0) C dX9_pledge_32 rfl rfl ?_
      refine aw_istore (ls' := [(4, _), (3, _), (0, _), (1, _), (2, _)]) C dX9_pledge_33 (by decide) rfl rfl ?_
      refine aw_pick (ls' := [(0, _), (1, _), (2, _), (3, _), (4, _)]) [2, 3, 4, 1, 0] rfl ?_
      obtain ⟨p, hp, rfl⟩ := isTh_of hW c6
      obtain ⟨f, hf, rfl⟩ := nI_of (x := w) (by rw [Int32.lt_iff_toInt_lt]; rw [Int32.le_iff_toInt_le] at c10; omega)
      exact loop p f (by have := hW.2.2.2.1; omega) hf rfl rfl (by rw [c6]; rintro (q | q); cases q; exact nI_pos hf q) 101 0 f _ hM hF (by omega) hf (by have := hW.2.2.2.2; omega) rfl
    · refine aw_iconst (v := 1) C dX9_pledge_13 rfl rfl ?_
      refine aw_goto (tgt := 18) C dX9_pledge_14 (by decide) ?_
      refine mw_put (th' := _) (u' := _) C hM hF f_X9_117 rfl rfl rfl rfl rfl rfl dX9_pledge_18 rfl (fun sg hM hF => ?_)
      refine aw_aload_n C dX9_pledge_21 rfl rfl rfl ?_
      refine aw_getf C f_X9_117 hM.1 rfl dX9_pledge_22 rfl ?_
      refine aw_if_le (tgt := 30) C dX9_pledge_25 (by decide) rfl (fun h => by first | exact absurd h (by decide) | exact absurd (by decide) h) (fun _ => ?_)
      refine aw_iconst (v := 0) C dX9_pledge_28 rfl rfl ?_
      exact aw_iret C rfl (Nat.le_refl _) (Nat.le_refl _) (PO.of (by simp [opPledge, c6, Int32.not_le.mp c10]) hM hF) dX9_pledge_29
set_option maxRecDepth 100000 in
theorem M_lose {g : Gx} {l : Launch} (hl : l.flags = flags0) (hst : g.Stable) {ad : Nat → Nat} {th : Int32} {u : MU} {sg : Sg} (hM : MS g ad th u sg) (hW : WN u) {N : Nat} (hG : WG N u) {v : Int32} : MM g l yX9_lose cX9_lose 3 (some .int) (rmM 3) sg [.ref (ad 0), .int v] (PO g ad sg (opLose u v)) noX := by
  refine MM.of hl hst (by decide) (Nat.le_of_ble_eq_true rfl) (fun x hg hlx C hin hout hargs => ?_)
  subst hg; subst hlx
  have C : AWC x cX9_lose 3 RX9 (rmM 3) (some .int) := C
  have hF : MF ad sg sg := MF.rf
  show AW x (RQ x _ _ _ _) 0 0 sg 0 [(0, .ref (ad 0)), (1, .int v)] []
  obtain ⟨sg0, hsg0⟩ : ∃ s, s = sg := ⟨_, rfl⟩
  have hF : MF ad sg0 sg := by rw [hsg0]; exact hF
  show AW x (RQ x (PO x.g ad sg (opLose u v)) noX (rmM 3).cells (rmM 3).slots) 0 0 sg 0 [(0, .ref (ad 0)), (1, .int v)] []
  rw [show PO x.g ad sg = PO x.g ad sg0 by rw [hsg0]]
  have loop : ∀ (p m : Nat), p < 60 → m < 4 → v = nI p → isDd u (nI p) = true → u.1 29 p = nI (m + 1) → ∀ (r k : Nat) (sg : Sg), k + r = m → MS x.g ad 0 (loseN (uI u 29 p (u.1 29 p - 1)) p k) sg → MF ad sg0 sg → AW x (RQ x (PO x.g ad sg0 (opLose u v)) noX (rmM 3).cells (rmM 3).slots) 0 0 sg 51 [(0, .ref (ad 0)), (1, .int (nI p)), (2, .int (nI k))] [] := by
    intro p m hp hm ev ip em r
    subst ev
    have hpc := clampI (n := p) (by omega)
    have e29 : ∀ k, (loseN (uI u 29 p (u.1 29 p - 1)) p k).1 29 p = nI m := fun k => by rw [loseN_29, uI_I]; simp [em, nI_pred]
    have hno : ¬ u.1 29 p = 0 := by rw [em]; exact nI_ne0 (by omega) (by omega)
    induction r with
    | zero =>
      intro k sg hk hM hF
      refine aw_iload_n C dX9_lose_51 rfl rfl rfl ?_
      refine aw_aload_n C dX9_lose_52 rfl rfl rfl ?_
      refine aw_getf C f_X9_86 hM.1 rfl dX9_lose_53 rfl ?_
      refine aw_iload_n C dX9_lose_56 rfl rfl rfl ?_
      refine mw_iald (k := 29) (N := 60) C hM rfl rfl rfl (by omega) dX9_lose_57 rfl ?_
      refine aw_icmp_ge (tgt := 89) C dX9_lose_58 (by decide) rfl (fun c58 => ?_) (fun c58 => ?_)
      · refine aw_aload_n C dX9_lose_89 rfl rfl rfl ?_
        refine aw_iload_n C dX9_lose_90 rfl rfl rfl ?_
        refine mw_callVp C k_X9_192 hM (M_least hl hst hM hp) ⟨by decide, by decide⟩ rfl rfl rfl (Nat.le_of_ble_eq_true rfl) dX9_lose_91 rfl ?_
        exact aw_iret C rfl (Nat.le_refl _) (Nat.le_refl _) (PO.of (by rw [opLose, if_neg (by simp [ip]), hpc, if_neg hno, em, clampI (by omega), show m + 1 - 1 = k by omega]) hM hF) dX9_lose_94
      · exact absurd (by rw [e29, nI_leI (by omega) (by omega)]; omega) c58
    | succ r ih =>
      intro k sg hk hM hF
      refine aw_iload_n C dX9_lose_51 rfl rfl rfl ?_
      refine aw_aload_n C dX9_lose_52 rfl rfl rfl ?_
      refine aw_getf C f_X9_86 hM.1 rfl dX9_lose_53 rfl ?_
      refine aw_iload_n C dX9_lose_56 rfl rfl rfl ?_
      refine mw_iald (k := 29) (N := 60) C hM rfl rfl rfl (by omega) dX9_lose_57 rfl ?_
      refine aw_icmp_ge (tgt := 89) C dX9_lose_58 (by decide) rfl (fun c58 => ?_) (fun c58 => ?_)
      · exact absurd c58 (by rw [e29, nI_leI (by omega) (by omega)]; omega)
      · refine aw_aload_n C dX9_lose_61 rfl rfl rfl ?_
        refine aw_getf C f_X9_83 hM.1 rfl dX9_lose_62 rfl ?_
        refine aw_iconst (v := 4) C dX9_lose_65 rfl rfl ?_
        refine aw_iload_n C dX9_lose_66 rfl rfl rfl ?_
        refine aw_imul C dX9_lose_67 rfl ?_
        refine aw_iload_n C dX9_lose_68 rfl rfl rfl ?_
        refine aw_iadd C dX9_lose_69 rfl ?_
        refine aw_aload_n C dX9_lose_70 rfl rfl rfl ?_
        refine aw_getf C f_X9_83 hM.1 rfl dX9_lose_71 rfl ?_
        refine aw_iconst (v := 4) C dX9_lose_74 rfl rfl ?_
        refine aw_iload_n C dX9_lose_75 rfl rfl rfl ?_
        refine aw_imul C dX9_lose_76 rfl ?_
        refine aw_iload_n C dX9_lose_77 rfl rfl rfl ?_
        refine aw_iadd C dX9_lose_78 rfl ?_
        refine aw_iconst (v := 1) C dX9_lose_79 rfl rfl ?_
        refine aw_iadd C dX9_lose_80 rfl ?_
        refine mw_iald (k := 28) (N := 240) C hM rfl rfl (i := 4 * p + (k + 1)) (by rw [show (4 : Int32) = nI 4 from rfl, pk_mul, nI_add, nI_1, Nat.add_assoc]) (by omega) dX9_lose_81 rfl ?_
        refine mw_iast (k := 28) (N := 240) C hM hF rfl rfl (i := 4 * p + k) (by rw [show (4 : Int32) = nI 4 from rfl, pk_mul, nI_add]) (by omega) dX9_lose_82 rfl (fun sg hM hF => ?_)
        refine aw_iinc (v' := nI (k + 1)) (ls' := [(2, _), (0, _), (1, _)]) C dX9_lose_83 rfl (by decide) (nI_1 k) rfl rfl ?_
        refine aw_goto (tgt := 51) C dX9_lose_86 (by decide) ?_
        refine aw_pick (ls' := [(0, _), (1, _), (2, _)]) [1, 2, 0] rfl ?_
        exact ih (k + 1) _ (by omega) hM hF
  refine aw_aload_n C dX9_lose_0 rfl rfl rfl ?_
  refine aw_aload_n C dX9_lose_1 rfl rfl rfl ?_
  refine aw_iload_n C dX9_lose_2 rfl rfl rfl ?_
  refine mw_callVp C k_X9_165 hM (M_isDeed hl hst hM) ⟨by decide, by decide⟩ rfl rfl rfl (Nat.le_of_ble_eq_true rfl) dX9_lose_3 rfl ?_
  refine aw_if_ne (tgt := 13) C dX9_lose_6 (by decide) rfl (fun c6 => ?_) (fun c6 => ?_)
  · have c6 := tr_of c6
    obtain ⟨p, hp, rfl⟩ := isDd_of hW c6
    have hp60 : p < 60 := by have := hW.2.1; omega
    have hpc := clampI (n := p) (by omega)
    obtain ⟨m, hm, em, -⟩ := hG p hp60
    refine aw_aload_n C dX9_lose_13 rfl rfl rfl ?_
    refine aw_getf C f_X9_86 hM.1 rfl dX9_lose_14 rfl ?_
    refine aw_iload_n C dX9_lose_17 rfl rfl rfl ?_
    refine mw_iald (k := 29) (N := 60) C hM rfl rfl rfl (by omega) dX9_lose_18 rfl ?_
    refine aw_if_ne (tgt := 26) C dX9_lose_19 (by decide) rfl (fun c19 => ?_) (fun c19 => ?_)
    · refine aw_iconst (v := 0) C dX9_lose_26 rfl rfl ?_
      refine mw_put (th' := _) (u' := _) C hM hF f_X9_117 rfl rfl rfl rfl rfl rfl dX9_lose_27 rfl (fun sg hM hF => ?_)
      refine aw_aload_n C dX9_lose_30 rfl rfl rfl ?_
      refine aw_getf C f_X9_117 hM.1 rfl dX9_lose_31 rfl ?_
      refine aw_if_le (tgt := 39) C dX9_lose_34 (by decide) rfl (fun _ => ?_) (fun h => by first | exact absurd h (by decide) | exact absurd (by decide) h)
      have hm0 : 0 < m := by rcases Nat.eq_zero_or_pos m with z | z; exact absurd (by rw [em, z]; rfl) c19; exact z
      refine aw_aload_n C dX9_lose_39 rfl rfl rfl ?_
      refine aw_getf C f_X9_86 hM.1 rfl dX9_lose_40 rfl ?_
      refine aw_iload_n C dX9_lose_43 rfl rfl rfl ?_
      refine aw_dup2 C dX9_lose_44 rfl rfl rfl ?_
      refine mw_iald (k := 29) (N := 60) C hM rfl rfl rfl (by omega) dX9_lose_45 rfl ?_
      refine aw_iconst (v := 1) C dX9_lose_46 rfl rfl ?_
      refine aw_isub C dX9_lose_47 rfl ?_
      refine mw_iast (k := 29) (N := 60) C hM hF rfl rfl rfl (by omega) dX9_lose_48 rfl (fun sg hM hF => ?_)
      refine aw_iconst (v := 0) C dX9_lose_49 rfl rfl ?_
      refine aw_istore_n (ls' := [(2, _), (0, _), (1, _)]) C dX9_lose_50 rfl (by decide) rfl rfl ?_
      refine aw_pick (ls' := [(0, _), (1, _), (2, _)]) [1, 2, 0] rfl ?_
      exact loop p (m - 1) hp60 (by omega) rfl c6 (by rw [em, show m - 1 + 1 = m by omega]) (m - 1) 0 _ (by omega) hM hF
    · refine aw_iconst (v := 2) C dX9_lose_22 rfl rfl ?_
      refine aw_goto (tgt := 27) C dX9_lose_23 (by decide) ?_
      refine mw_put (th' := _) (u' := _) C hM hF f_X9_117 rfl rfl rfl rfl rfl rfl dX9_lose_27 rfl (fun sg hM hF => ?_)
      refine aw_aload_n C dX9_lose_30 rfl rfl rfl ?_
      refine aw_getf C f_X9_117 hM.1 rfl dX9_lose_31 rfl ?_
      refine aw_if_le (tgt := 39) C dX9_lose_34 (by decide) rfl (fun h => by first | exact absurd h (by decide) | exact absurd (by decide) h) (fun _ => ?_)
      refine aw_iconst (v := 0) C dX9_lose_37 rfl rfl ?_
      exact aw_iret C rfl (Nat.le_refl _) (Nat.le_refl _) (PO.of (by simp [opLose, c6, c19, hpc]) hM hF) dX9_lose_38
  · have c6 := fa_of c6
    refine aw_iconst (v := 1) C dX9_lose_9 rfl rfl ?_
    refine aw_goto (tgt := 27) C dX9_lose_10 (by decide) ?_
    refine mw_put (th' := _) (u' := _) C hM hF f_X9_117 rfl rfl rfl rfl rfl rfl dX9_lose_27 rfl (fun sg hM hF => ?_)
    refine aw_aload_n C dX9_lose_30 rfl rfl rfl ?_
    refine aw_getf C f_X9_117 hM.1 rfl dX9_lose_31 rfl ?_
    refine aw_if_le (tgt := 39) C dX9_lose_34 (by decide) rfl (fun h => by first | exact absurd h (by decide) | exact absurd (by decide) h) (fun _ => ?_)
    refine aw_iconst (v := 0) C dX9_lose_37 rfl rfl ?_
    exact aw_iret C rfl (Nat.le_refl _) (Nat.le_refl _) (PO.of (by simp [opLose, c6]) hM hF) dX9_lose_38
