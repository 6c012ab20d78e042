/-! the law: its loop -/
theorem and31 (v : Int32) : ∃ m, m < 32 ∧ v &&& 31 = nI m := by
  obtain ⟨n, rfl⟩ : ∃ n, v = nI n := ⟨v.toBitVec.toNat, Int32.toBitVec_inj.mp (by simp [nI])⟩
  exact ⟨n &&& 31, Nat.lt_of_le_of_lt Nat.and_le_right (by decide), nI_and n 31⟩
theorem len_7 {L a : Nat} (hL : L < 2 ^ 30) (ha : a < 2 ^ 30) : nI L - nI 7 < nI a ↔ L < a + 7 := by
  rw [Int32.lt_iff_toInt_lt, pk_sub_toInt hL (by decide), nI_toInt (by omega)]
  omega
set_option maxRecDepth 100000 in
theorem law_loop {x : Cx} {Q : State → Prop} {ez : Nat} (GL : GLk x.g x.l ez) (C : AWC x cL_law 7 RL room_1 (some .boolean)) {b L : Nat} {xs : Nat → Int32} (hX : SCR x b L xs) (hL : L ≤ 3584) {q1 q2 ao : Nat} (hend : ∀ sg ls, AW x Q 601024 7293034 sg 2221 ls [.int 1]) : ∀ (r j : Nat) (sg : Sg), L < 7 * (j + r) → j ≤ 512 → LW x.g ez j q1 q2 ao sg → AW x Q (50 + 60 * j) (2352 + 12000 * j) sg 23 [(0, .ref b), (1, .ref q1), (2, .ref q2), (3, .ref ao), (4, .int (nI (7 * j)))] [] := by
  intro r
  induction r with
  | zero =>
    intro j sg hr hj hW
    refine aw_iload C dL_law_23 rfl rfl ?_
    refine aw_aload_n C dL_law_25 rfl rfl rfl ?_
    refine aw_slen C hX dL_law_26 rfl ?_
    refine aw_bipush (v := nI 7) C dL_law_27 rfl rfl ?_
    refine aw_isub C dL_law_29 rfl ?_
    refine aw_icmp_gt (tgt := 2220) C dL_law_30 (by decide) rfl (fun _ => ?_) (fun c => absurd ((len_7 (by omega) (by omega)).mpr (by omega)) c)
    refine aw_iconst (v := 1) C dL_law_2220 rfl rfl ?_
    exact aw_widen (by omega) (by omega) (hend _ _)
  | succ r ih =>
    intro j sg hr hj hW
    refine aw_iload C dL_law_23 rfl rfl ?_
    refine aw_aload_n C dL_law_25 rfl rfl rfl ?_
    refine aw_slen C hX dL_law_26 rfl ?_
    refine aw_bipush (v := nI 7) C dL_law_27 rfl rfl ?_
    refine aw_isub C dL_law_29 rfl ?_
    refine aw_icmp_gt (tgt := 2220) C dL_law_30 (by decide) rfl (fun _ => ?_) (fun c => ?_)
    · refine aw_iconst (v := 1) C dL_law_2220 rfl rfl ?_
      exact aw_widen (by omega) (by omega) (hend _ _)
    have hb : 7 * j + 7 ≤ L := Nat.le_of_not_lt fun z => c ((len_7 (by omega) (by omega)).mpr z)
    have next : ∀ sg', LW x.g ez (j + 1) q1 q2 ao sg' → AW x Q (50 + 60 * j + 60) (2352 + 12000 * j + 12000) sg' 2214 [(0, .ref b), (1, .ref q1), (2, .ref q2), (3, .ref ao), (4, .int (nI (7 * j)))] [] := fun sg' h => by
      refine aw_iinc (v' := nI (7 * (j + 1))) (ls' := [(4, _), (0, _), (1, _), (2, _), (3, _)]) C dL_law_2214 rfl (by decide) (nI_add (7 * j) 7) rfl rfl ?_
      refine aw_goto (tgt := 23) C dL_law_2217 (by decide) ?_
      refine aw_pick (ls' := [(0, _), (1, _), (2, _), (3, _), (4, _)]) [1, 2, 3, 4, 0] rfl ?_
      have h1 := ih (j + 1) sg' (by omega) (by omega) h
      rw [show 50 + 60 * (j + 1) = 50 + 60 * j + 60 by omega, show 2352 + 12000 * (j + 1) = 2352 + 12000 * j + 12000 by omega] at h1
      exact h1
    refine aw_aload_n C dL_law_33 rfl rfl rfl ?_
    refine aw_iload C dL_law_34 rfl rfl ?_
    refine aw_sld C hX (by omega) (by omega) dL_law_36 rfl ?_
    refine aw_bipush (v := 31) C dL_law_37 rfl rfl ?_
    refine aw_iand C dL_law_39 rfl ?_
    obtain ⟨m, hm, e⟩ := and31 (xs (7 * j))
    rw [e]
    have hN : j < 2 ^ 29 := by omega
    have hk : 50 + 60 * j + 60 ≤ 601024 := by omega
    have hn : 2352 + 12000 * j + 12000 ≤ 7293034 := by omega
    match m, hm with
    | 0, _ =>
      refine aw_tableIn (tgt := 172) C dL_law_40 (by decide) (by decide) rfl (by decide) ?_
      exact W_person GL C hX hb hL hk hn hN hW next
    | 1, _ =>
      refine aw_tableIn (tgt := 256) C dL_law_40 (by decide) (by decide) rfl (by decide) ?_
      exact W_child GL C hX hb hL hk hn hN hW next
    | 2, _ =>
      refine aw_tableIn (tgt := 324) C dL_law_40 (by decide) (by decide) rfl (by decide) ?_
      exact W_guard GL C hX hb hL hk hn hN hW next
    | 3, _ =>
      refine aw_tableIn (tgt := 392) C dL_law_40 (by decide) (by decide) rfl (by decide) ?_
      exact W_thing GL C hX hb hL hk hn hN hW next
    | 4, _ =>
      refine aw_tableIn (tgt := 460) C dL_law_40 (by decide) (by decide) rfl (by decide) ?_
      exact W_isAble GL C hX hb hL hk hn hN hW next
    | 5, _ =>
      refine aw_tableIn (tgt := 523) C dL_law_40 (by decide) (by decide) rfl (by decide) ?_
      exact W_draft GL C hX hb hL hk hn hN hW next
    | 6, _ =>
      refine aw_tableIn (tgt := 641) C dL_law_40 (by decide) (by decide) rfl (by decide) ?_
      exact W_power GL C hX hb hL hk hn hN hW next
    | 7, _ =>
      refine aw_tableIn (tgt := 761) C dL_law_40 (by decide) (by decide) rfl (by decide) ?_
      exact W_will GL C hX hb hL hk hn hN hW next
    | 8, _ =>
      refine aw_tableIn (tgt := 853) C dL_law_40 (by decide) (by decide) rfl (by decide) ?_
      exact W_sign GL C hX hb hL hk hn hN hW next
    | 9, _ =>
      refine aw_tableIn (tgt := 961) C dL_law_40 (by decide) (by decide) rfl (by decide) ?_
      exact W_add GL C hX hb hL hk hn hN hW next
    | 10, _ =>
      refine aw_tableIn (tgt := 1029) C dL_law_40 (by decide) (by decide) rfl (by decide) ?_
      exact W_witness GL C hX hb hL hk hn hN hW next
    | 11, _ =>
      refine aw_tableIn (tgt := 1097) C dL_law_40 (by decide) (by decide) rfl (by decide) ?_
      exact W_close GL C hX hb hL hk hn hN hW next
    | 12, _ =>
      refine aw_tableIn (tgt := 1153) C dL_law_40 (by decide) (by decide) rfl (by decide) ?_
      exact W_deed GL C hX hb hL hk hn hN hW next
    | 13, _ =>
      refine aw_tableIn (tgt := 1221) C dL_law_40 (by decide) (by decide) rfl (by decide) ?_
      exact W_label GL C hX hb hL hk hn hN hW next
    | 14, _ =>
      refine aw_tableIn (tgt := 1289) C dL_law_40 (by decide) (by decide) rfl (by decide) ?_
      exact W_revoke GL C hX hb hL hk hn hN hW next
    | 15, _ =>
      refine aw_tableIn (tgt := 1380) C dL_law_40 (by decide) (by decide) rfl (by decide) ?_
      exact W_isGood GL C hX hb hL hk hn hN hW next
    | 16, _ =>
      refine aw_tableIn (tgt := 1443) C dL_law_40 (by decide) (by decide) rfl (by decide) ?_
      exact W_copy GL C hX hb hL hk hn hN hW next
    | 17, _ =>
      refine aw_tableIn (tgt := 1499) C dL_law_40 (by decide) (by decide) rfl (by decide) ?_
      exact W_lose GL C hX hb hL hk hn hN hW next
    | 18, _ =>
      refine aw_tableIn (tgt := 1555) C dL_law_40 (by decide) (by decide) rfl (by decide) ?_
      exact W_proof GL C hX hb hL hk hn hN hW next
    | 19, _ =>
      refine aw_tableIn (tgt := 1611) C dL_law_40 (by decide) (by decide) rfl (by decide) ?_
      exact W_enter GL C hX hb hL hk hn hN hW next
    | 20, _ =>
      refine aw_tableIn (tgt := 1667) C dL_law_40 (by decide) (by decide) rfl (by decide) ?_
      exact W_die GL C hX hb hL hk hn hN hW next
    | 21, _ =>
      refine aw_tableIn (tgt := 1723) C dL_law_40 (by decide) (by decide) rfl (by decide) ?_
      exact W_entry GL C hX hb hL hk hn hN hW next
    | 22, _ =>
      refine aw_tableIn (tgt := 1791) C dL_law_40 (by decide) (by decide) rfl (by decide) ?_
      exact W_entries GL C hX hb hL hk hn hN hW next
    | 23, _ =>
      refine aw_tableIn (tgt := 1804) C dL_law_40 (by decide) (by decide) rfl (by decide) ?_
      exact W_search GL C hX hb hL hk hn hN hW next
    | 24, _ =>
      refine aw_tableIn (tgt := 1884) C dL_law_40 (by decide) (by decide) rfl (by decide) ?_
      exact W_pledge GL C hX hb hL hk hn hN hW next
    | 25, _ =>
      refine aw_tableIn (tgt := 1952) C dL_law_40 (by decide) (by decide) rfl (by decide) ?_
      exact W_share GL C hX hb hL hk hn hN hW next
    | 26, _ =>
      refine aw_tableIn (tgt := 2048) C dL_law_40 (by decide) (by decide) rfl (by decide) ?_
      exact W_shareAnew GL C hX hb hL hk hn hN hW next
    | 27, _ =>
      refine aw_tableIn (tgt := 2144) C dL_law_40 (by decide) (by decide) rfl (by decide) ?_
      exact W_duties GL C hX hb hL hk hn hN hW next
    | 28, _ =>
      refine aw_tableIn (tgt := 2158) C dL_law_40 (by decide) (by decide) rfl (by decide) ?_
      exact W_pass GL C hX hb hL hk hn hN hW next
    | 29, _ =>
      refine aw_tableOut (tgt := 2214) C dL_law_40 (Or.inr (by decide)) (by decide) ?_
      exact aw_widen (Nat.le_add_right _ _) (Nat.le_add_right _ _) (next _ hW.next)
    | 30, _ =>
      refine aw_tableOut (tgt := 2214) C dL_law_40 (Or.inr (by decide)) (by decide) ?_
      exact aw_widen (Nat.le_add_right _ _) (Nat.le_add_right _ _) (next _ hW.next)
    | 31, _ =>
      refine aw_tableOut (tgt := 2214) C dL_law_40 (Or.inr (by decide)) (by decide) ?_
      exact aw_widen (Nat.le_add_right _ _) (Nat.le_add_right _ _) (next _ hW.next)
    | m + 32, h => exact absurd h (by omega)
