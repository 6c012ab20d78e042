/-! acts: sign, and the whole of it -/
set_option maxRecDepth 100000 in
theorem A_sign_true0 {x : Cx} {ez : Nat} (G : GOK x.g x.l ez) (C : AWC x cL_acts 21 RL rmA (some .boolean)) {ad : Nat → Nat → Nat} {u : MU} {Y : GS} {L : ZU} {al : Nat → Nat} {sg0 : Sg} {m : Nat} (hS : CS x.g ez ad u Y sg0) (hM : ZS x.g al L sg0) (hZ : CZ m u) (hR : ZR L u) (hK : ZKu u) (hT0 : L.1 10 0 ≤ 400 * m) (hT4 : L.1 10 4 ≤ 6000 * m) (hm : m ≤ 130) {d one act : Nat} (hd : d < L.1 10 1) (ho : one < 6)   : AW x (RQ x (ZA x.g ez al (ad 0 0) (m + 1)) noX 60 12000) 0 0 sg0 160 [(0, .ref ((ad 0 0))), (3, .ref (al 0)), (4, .ref (al 1)), (5, .ref (al 2)), (6, .ref (al 3)), (7, .ref (al 4)), (8, .ref (al 5)), (10, .ref (al 7)), (13, .ref (al 10)), (16, .int (nI (d))), (17, .int (nI (one))), (18, .int (b2i (true))), (19, .int ((-1)))] [] := by
  have hl := G.1
  have hst := G.2.1
  have hB := hR.B
  have hM0 := hM
  have hF : ZFr al sg0 sg0 := ZFr.rf
  have hd24 : d < 24 := Nat.lt_of_lt_of_le hd hR.nd.2
  have hI := hZ.1
  have hN29 : m < 2 ^ 29 := by omega
  have hc := hR.hc
  refine aw_aload_n C dL_acts_160 rfl rfl rfl ?_
  refine aw_iconst (v := nI 3) C dL_acts_161 rfl rfl ?_
  refine aw_iload C dL_acts_162 rfl rfl ?_
  refine aw_iload C dL_acts_164 rfl rfl ?_
  refine aw_iload C dL_acts_166 rfl rfl ?_
  refine an_bif_eq (z := true) (tgt := 175) C dL_acts_168 (by decide) rfl (fun z => absurd rfl z) (fun _ => ?_)
  refine aw_iconst (v := nI 1) C dL_acts_171 rfl rfl ?_
  refine aw_goto (tgt := 176) C dL_acts_172 (by decide) ?_
  refine aw_iload C dL_acts_176 rfl rfl ?_
  refine aw_iconst (v := nI 0) C dL_acts_178 rfl rfl ?_
  refine aw_iconst (v := nI 0) C dL_acts_179 rfl rfl ?_
  have hsg := r_sign0 hZ hR hd ho (fi := true)
  have Hs := fun hcd => H_sign G hS hI (a := nI d) (b := nI one) (c := nI 1) (d := (-1)) (e := nI 0) (f := nI 0) hcd
  simp only [dec11] at Hs
  refine aw_callSW C kL_calls (Hs hsg.1) ⟨by decide, by decide⟩ rfl rfl (Nat.le_of_ble_eq_true rfl) (Nat.le_of_ble_eq_true rfl) (Nat.le_of_ble_eq_true rfl) dL_acts_180 rfl (fun _ _ q => ax_no q) (fun v1 sg hq => ?_)
  obtain ⟨rfl, hC⟩ := hq
  have hM := hM.keepC hS hC.fr
  obtain ⟨ad', Y', hS1, e0, -, -, -⟩ := hC
  refine aw_iload C dL_acts_183 rfl rfl ?_
  refine aw_iload C dL_acts_185 rfl rfl ?_
  refine aw_iload C dL_acts_187 rfl rfl ?_
  refine aw_iload C dL_acts_189 rfl rfl ?_
  refine aw_aload_n C dL_acts_191 rfl rfl rfl ?_
  refine aw_aload C dL_acts_192 rfl rfl ?_
  refine aw_aload C dL_acts_194 rfl rfl ?_
  refine aw_aload C dL_acts_196 rfl rfl ?_
  refine aw_aload C dL_acts_198 rfl rfl ?_
  refine aw_aload C dL_acts_200 rfl rfl ?_
  refine aw_aload C dL_acts_202 rfl rfl ?_
  refine aw_aload C dL_acts_204 rfl rfl ?_
  refine aw_callS C k_L_105 (N_signs0 hl hst hM hB (d := d) (one := one) (fi := true) hd24 ho hc) ⟨by decide, by decide⟩ rfl rfl (Nat.le_of_ble_eq_true rfl) (Nat.le_of_ble_eq_true rfl) (Nat.le_of_ble_eq_true rfl) dL_acts_206 rfl (fun _ _ q => ax_no q) (fun v2 sg2 hq2 => ?_)
  obtain ⟨rfl, hM2, hF2⟩ := hq2
  have hS2 := hS1.keepZ hM hF2
  have hM := hM2
  refine aw_icmp_ne (tgt := 216) C dL_acts_209 (by decide) rfl (fun q => absurd hsg.2.1 q) (fun _ => ?_)
  refine aw_iconst (v := nI 1) C dL_acts_212 rfl rfl ?_
  refine aw_goto (tgt := 217) C dL_acts_213 (by decide) ?_
  exact aw_iret C rfl (Nat.le_of_ble_eq_true rfl) (Nat.le_of_ble_eq_true rfl) ⟨rfl, ad', _, Y', _, hS2, e0, hM, hZ.sign.next, hsg.2.2.1, hK.sign, (by rw [hsg.2.2.2]; omega), (by rw [hsg.2.2.2]; omega)⟩ dL_acts_217
set_option maxRecDepth 100000 in
theorem A_sign_true1 {x : Cx} {ez : Nat} (G : GOK x.g x.l ez) (C : AWC x cL_acts 21 RL rmA (some .boolean)) {ad : Nat → Nat → Nat} {u : MU} {Y : GS} {L : ZU} {al : Nat → Nat} {sg0 : Sg} {m : Nat} (hS : CS x.g ez ad u Y sg0) (hM : ZS x.g al L sg0) (hZ : CZ m u) (hR : ZR L u) (hK : ZKu u) (hT0 : L.1 10 0 ≤ 400 * m) (hT4 : L.1 10 4 ≤ 6000 * m) (hm : m ≤ 130) {d one act : Nat} (hd : d < L.1 10 1) (ho : one < 6) {k : Nat} (hk : k < L.1 10 1) : AW x (RQ x (ZA x.g ez al (ad 0 0) (m + 1)) noX 60 12000) 0 0 sg0 160 [(0, .ref ((ad 0 0))), (3, .ref (al 0)), (4, .ref (al 1)), (5, .ref (al 2)), (6, .ref (al 3)), (7, .ref (al 4)), (8, .ref (al 5)), (10, .ref (al 7)), (13, .ref (al 10)), (16, .int (nI (d))), (17, .int (nI (one))), (18, .int (b2i (true))), (19, .int (nI (k)))] [] := by
  have hl := G.1
  have hst := G.2.1
  have hB := hR.B
  have hM0 := hM
  have hF : ZFr al sg0 sg0 := ZFr.rf
  have hd24 : d < 24 := Nat.lt_of_lt_of_le hd hR.nd.2
  have hI := hZ.1
  have hN29 : m < 2 ^ 29 := by omega
  have hc := hR.hc
  refine aw_aload_n C dL_acts_160 rfl rfl rfl ?_
  refine aw_iconst (v := nI 3) C dL_acts_161 rfl rfl ?_
  refine aw_iload C dL_acts_162 rfl rfl ?_
  refine aw_iload C dL_acts_164 rfl rfl ?_
  refine aw_iload C dL_acts_166 rfl rfl ?_
  refine an_bif_eq (z := true) (tgt := 175) C dL_acts_168 (by decide) rfl (fun z => absurd rfl z) (fun _ => ?_)
  refine aw_iconst (v := nI 1) C dL_acts_171 rfl rfl ?_
  refine aw_goto (tgt := 176) C dL_acts_172 (by decide) ?_
  refine aw_iload C dL_acts_176 rfl rfl ?_
  refine aw_iconst (v := nI 0) C dL_acts_178 rfl rfl ?_
  refine aw_iconst (v := nI 0) C dL_acts_179 rfl rfl ?_
  have hsg := r_sign1 hZ hR hd ho hk (fi := true)
  have Hs := fun hcd => H_sign G hS hI (a := nI d) (b := nI one) (c := nI 1) (d := (nI k)) (e := nI 0) (f := nI 0) hcd
  simp only [dec11] at Hs
  refine aw_callSW C kL_calls (Hs hsg.1) ⟨by decide, by decide⟩ rfl rfl (Nat.le_of_ble_eq_true rfl) (Nat.le_of_ble_eq_true rfl) (Nat.le_of_ble_eq_true rfl) dL_acts_180 rfl (fun _ _ q => ax_no q) (fun v1 sg hq => ?_)
  obtain ⟨rfl, hC⟩ := hq
  have hM := hM.keepC hS hC.fr
  obtain ⟨ad', Y', hS1, e0, -, -, -⟩ := hC
  refine aw_iload C dL_acts_183 rfl rfl ?_
  refine aw_iload C dL_acts_185 rfl rfl ?_
  refine aw_iload C dL_acts_187 rfl rfl ?_
  refine aw_iload C dL_acts_189 rfl rfl ?_
  refine aw_aload_n C dL_acts_191 rfl rfl rfl ?_
  refine aw_aload C dL_acts_192 rfl rfl ?_
  refine aw_aload C dL_acts_194 rfl rfl ?_
  refine aw_aload C dL_acts_196 rfl rfl ?_
  refine aw_aload C dL_acts_198 rfl rfl ?_
  refine aw_aload C dL_acts_200 rfl rfl ?_
  refine aw_aload C dL_acts_202 rfl rfl ?_
  refine aw_aload C dL_acts_204 rfl rfl ?_
  refine aw_callS C k_L_105 (N_signs1 hl hst hM hB (d := d) (one := one) (fi := true) (k := k) hd24 ho hc (Nat.lt_of_lt_of_le hk hR.nd.2)) ⟨by decide, by decide⟩ rfl rfl (Nat.le_of_ble_eq_true rfl) (Nat.le_of_ble_eq_true rfl) (Nat.le_of_ble_eq_true rfl) dL_acts_206 rfl (fun _ _ q => ax_no q) (fun v2 sg2 hq2 => ?_)
  obtain ⟨rfl, hM2, hF2⟩ := hq2
  have hS2 := hS1.keepZ hM hF2
  have hM := hM2
  refine aw_icmp_ne (tgt := 216) C dL_acts_209 (by decide) rfl (fun q => absurd hsg.2.1 q) (fun _ => ?_)
  refine aw_iconst (v := nI 1) C dL_acts_212 rfl rfl ?_
  refine aw_goto (tgt := 217) C dL_acts_213 (by decide) ?_
  exact aw_iret C rfl (Nat.le_of_ble_eq_true rfl) (Nat.le_of_ble_eq_true rfl) ⟨rfl, ad', _, Y', _, hS2, e0, hM, hZ.sign.next, hsg.2.2.1, hK.sign, (by rw [hsg.2.2.2]; omega), (by rw [hsg.2.2.2]; omega)⟩ dL_acts_217
set_option maxRecDepth 100000 in
theorem A_sign_false0 {x : Cx} {ez : Nat} (G : GOK x.g x.l ez) (C : AWC x cL_acts 21 RL rmA (some .boolean)) {ad : Nat → Nat → Nat} {u : MU} {Y : GS} {L : ZU} {al : Nat → Nat} {sg0 : Sg} {m : Nat} (hS : CS x.g ez ad u Y sg0) (hM : ZS x.g al L sg0) (hZ : CZ m u) (hR : ZR L u) (hK : ZKu u) (hT0 : L.1 10 0 ≤ 400 * m) (hT4 : L.1 10 4 ≤ 6000 * m) (hm : m ≤ 130) {d one act : Nat} (hd : d < L.1 10 1) (ho : one < 6)   : AW x (RQ x (ZA x.g ez al (ad 0 0) (m + 1)) noX 60 12000) 0 0 sg0 160 [(0, .ref ((ad 0 0))), (3, .ref (al 0)), (4, .ref (al 1)), (5, .ref (al 2)), (6, .ref (al 3)), (7, .ref (al 4)), (8, .ref (al 5)), (10, .ref (al 7)), (13, .ref (al 10)), (16, .int (nI (d))), (17, .int (nI (one))), (18, .int (b2i (false))), (19, .int ((-1)))] [] := by
  have hl := G.1
  have hst := G.2.1
  have hB := hR.B
  have hM0 := hM
  have hF : ZFr al sg0 sg0 := ZFr.rf
  have hd24 : d < 24 := Nat.lt_of_lt_of_le hd hR.nd.2
  have hI := hZ.1
  have hN29 : m < 2 ^ 29 := by omega
  have hc := hR.hc
  refine aw_aload_n C dL_acts_160 rfl rfl rfl ?_
  refine aw_iconst (v := nI 3) C dL_acts_161 rfl rfl ?_
  refine aw_iload C dL_acts_162 rfl rfl ?_
  refine aw_iload C dL_acts_164 rfl rfl ?_
  refine aw_iload C dL_acts_166 rfl rfl ?_
  refine an_bif_eq (z := false) (tgt := 175) C dL_acts_168 (by decide) rfl (fun _ => ?_) (fun z => absurd z (by decide))
  refine aw_iconst (v := nI 0) C dL_acts_175 rfl rfl ?_
  refine aw_iload C dL_acts_176 rfl rfl ?_
  refine aw_iconst (v := nI 0) C dL_acts_178 rfl rfl ?_
  refine aw_iconst (v := nI 0) C dL_acts_179 rfl rfl ?_
  have hsg := r_sign0 hZ hR hd ho (fi := false)
  have Hs := fun hcd => H_sign G hS hI (a := nI d) (b := nI one) (c := nI 0) (d := (-1)) (e := nI 0) (f := nI 0) hcd
  simp only [dec01] at Hs
  refine aw_callSW C kL_calls (Hs hsg.1) ⟨by decide, by decide⟩ rfl rfl (Nat.le_of_ble_eq_true rfl) (Nat.le_of_ble_eq_true rfl) (Nat.le_of_ble_eq_true rfl) dL_acts_180 rfl (fun _ _ q => ax_no q) (fun v1 sg hq => ?_)
  obtain ⟨rfl, hC⟩ := hq
  have hM := hM.keepC hS hC.fr
  obtain ⟨ad', Y', hS1, e0, -, -, -⟩ := hC
  refine aw_iload C dL_acts_183 rfl rfl ?_
  refine aw_iload C dL_acts_185 rfl rfl ?_
  refine aw_iload C dL_acts_187 rfl rfl ?_
  refine aw_iload C dL_acts_189 rfl rfl ?_
  refine aw_aload_n C dL_acts_191 rfl rfl rfl ?_
  refine aw_aload C dL_acts_192 rfl rfl ?_
  refine aw_aload C dL_acts_194 rfl rfl ?_
  refine aw_aload C dL_acts_196 rfl rfl ?_
  refine aw_aload C dL_acts_198 rfl rfl ?_
  refine aw_aload C dL_acts_200 rfl rfl ?_
  refine aw_aload C dL_acts_202 rfl rfl ?_
  refine aw_aload C dL_acts_204 rfl rfl ?_
  refine aw_callS C k_L_105 (N_signs0 hl hst hM hB (d := d) (one := one) (fi := false) hd24 ho hc) ⟨by decide, by decide⟩ rfl rfl (Nat.le_of_ble_eq_true rfl) (Nat.le_of_ble_eq_true rfl) (Nat.le_of_ble_eq_true rfl) dL_acts_206 rfl (fun _ _ q => ax_no q) (fun v2 sg2 hq2 => ?_)
  obtain ⟨rfl, hM2, hF2⟩ := hq2
  have hS2 := hS1.keepZ hM hF2
  have hM := hM2
  refine aw_icmp_ne (tgt := 216) C dL_acts_209 (by decide) rfl (fun q => absurd hsg.2.1 q) (fun _ => ?_)
  refine aw_iconst (v := nI 1) C dL_acts_212 rfl rfl ?_
  refine aw_goto (tgt := 217) C dL_acts_213 (by decide) ?_
  exact aw_iret C rfl (Nat.le_of_ble_eq_true rfl) (Nat.le_of_ble_eq_true rfl) ⟨rfl, ad', _, Y', _, hS2, e0, hM, hZ.sign.next, hsg.2.2.1, hK.sign, (by rw [hsg.2.2.2]; omega), (by rw [hsg.2.2.2]; omega)⟩ dL_acts_217
set_option maxRecDepth 100000 in
theorem A_sign_false1 {x : Cx} {ez : Nat} (G : GOK x.g x.l ez) (C : AWC x cL_acts 21 RL rmA (some .boolean)) {ad : Nat → Nat → Nat} {u : MU} {Y : GS} {L : ZU} {al : Nat → Nat} {sg0 : Sg} {m : Nat} (hS : CS x.g ez ad u Y sg0) (hM : ZS x.g al L sg0) (hZ : CZ m u) (hR : ZR L u) (hK : ZKu u) (hT0 : L.1 10 0 ≤ 400 * m) (hT4 : L.1 10 4 ≤ 6000 * m) (hm : m ≤ 130) {d one act : Nat} (hd : d < L.1 10 1) (ho : one < 6) {k : Nat} (hk : k < L.1 10 1) : AW x (RQ x (ZA x.g ez al (ad 0 0) (m + 1)) noX 60 12000) 0 0 sg0 160 [(0, .ref ((ad 0 0))), (3, .ref (al 0)), (4, .ref (al 1)), (5, .ref (al 2)), (6, .ref (al 3)), (7, .ref (al 4)), (8, .ref (al 5)), (10, .ref (al 7)), (13, .ref (al 10)), (16, .int (nI (d))), (17, .int (nI (one))), (18, .int (b2i (false))), (19, .int (nI (k)))] [] := by
  have hl := G.1
  have hst := G.2.1
  have hB := hR.B
  have hM0 := hM
  have hF : ZFr al sg0 sg0 := ZFr.rf
  have hd24 : d < 24 := Nat.lt_of_lt_of_le hd hR.nd.2
  have hI := hZ.1
  have hN29 : m < 2 ^ 29 := by omega
  have hc := hR.hc
  refine aw_aload_n C dL_acts_160 rfl rfl rfl ?_
  refine aw_iconst (v := nI 3) C dL_acts_161 rfl rfl ?_
  refine aw_iload C dL_acts_162 rfl rfl ?_
  refine aw_iload C dL_acts_164 rfl rfl ?_
  refine aw_iload C dL_acts_166 rfl rfl ?_
  refine an_bif_eq (z := false) (tgt := 175) C dL_acts_168 (by decide) rfl (fun _ => ?_) (fun z => absurd z (by decide))
  refine aw_iconst (v := nI 0) C dL_acts_175 rfl rfl ?_
  refine aw_iload C dL_acts_176 rfl rfl ?_
  refine aw_iconst (v := nI 0) C dL_acts_178 rfl rfl ?_
  refine aw_iconst (v := nI 0) C dL_acts_179 rfl rfl ?_
  have hsg := r_sign1 hZ hR hd ho hk (fi := false)
  have Hs := fun hcd => H_sign G hS hI (a := nI d) (b := nI one) (c := nI 0) (d := (nI k)) (e := nI 0) (f := nI 0) hcd
  simp only [dec01] at Hs
  refine aw_callSW C kL_calls (Hs hsg.1) ⟨by decide, by decide⟩ rfl rfl (Nat.le_of_ble_eq_true rfl) (Nat.le_of_ble_eq_true rfl) (Nat.le_of_ble_eq_true rfl) dL_acts_180 rfl (fun _ _ q => ax_no q) (fun v1 sg hq => ?_)
  obtain ⟨rfl, hC⟩ := hq
  have hM := hM.keepC hS hC.fr
  obtain ⟨ad', Y', hS1, e0, -, -, -⟩ := hC
  refine aw_iload C dL_acts_183 rfl rfl ?_
  refine aw_iload C dL_acts_185 rfl rfl ?_
  refine aw_iload C dL_acts_187 rfl rfl ?_
  refine aw_iload C dL_acts_189 rfl rfl ?_
  refine aw_aload_n C dL_acts_191 rfl rfl rfl ?_
  refine aw_aload C dL_acts_192 rfl rfl ?_
  refine aw_aload C dL_acts_194 rfl rfl ?_
  refine aw_aload C dL_acts_196 rfl rfl ?_
  refine aw_aload C dL_acts_198 rfl rfl ?_
  refine aw_aload C dL_acts_200 rfl rfl ?_
  refine aw_aload C dL_acts_202 rfl rfl ?_
  refine aw_aload C dL_acts_204 rfl rfl ?_
  refine aw_callS C k_L_105 (N_signs1 hl hst hM hB (d := d) (one := one) (fi := false) (k := k) hd24 ho hc (Nat.lt_of_lt_of_le hk hR.nd.2)) ⟨by decide, by decide⟩ rfl rfl (Nat.le_of_ble_eq_true rfl) (Nat.le_of_ble_eq_true rfl) (Nat.le_of_ble_eq_true rfl) dL_acts_206 rfl (fun _ _ q => ax_no q) (fun v2 sg2 hq2 => ?_)
  obtain ⟨rfl, hM2, hF2⟩ := hq2
  have hS2 := hS1.keepZ hM hF2
  have hM := hM2
  refine aw_icmp_ne (tgt := 216) C dL_acts_209 (by decide) rfl (fun q => absurd hsg.2.1 q) (fun _ => ?_)
  refine aw_iconst (v := nI 1) C dL_acts_212 rfl rfl ?_
  refine aw_goto (tgt := 217) C dL_acts_213 (by decide) ?_
  exact aw_iret C rfl (Nat.le_of_ble_eq_true rfl) (Nat.le_of_ble_eq_true rfl) ⟨rfl, ad', _, Y', _, hS2, e0, hM, hZ.sign.next, hsg.2.2.1, hK.sign, (by rw [hsg.2.2.2]; omega), (by rw [hsg.2.2.2]; omega)⟩ dL_acts_217
set_option maxRecDepth 100000 in
theorem A_sign_loop {x : Cx} {ez : Nat} (G : GOK x.g x.l ez) (C : AWC x cL_acts 21 RL rmA (some .boolean)) {ad : Nat → Nat → Nat} {u : MU} {Y : GS} {L : ZU} {al : Nat → Nat} {sg0 : Sg} {m : Nat} (hS : CS x.g ez ad u Y sg0) (hM : ZS x.g al L sg0) (hZ : CZ m u) (hR : ZR L u) (hK : ZKu u) (hT0 : L.1 10 0 ≤ 400 * m) (hT4 : L.1 10 4 ≤ 6000 * m) (hm : m ≤ 130) {d one act : Nat} (hd : d < L.1 10 1) (ho : one < 6) {zz : Int32} {fi : Bool}  : AW x (RQ x (ZA x.g ez al (ad 0 0) (m + 1)) noX 60 12000) 0 0 sg0 97 [(0, .ref ((ad 0 0))), (2, .int (zz)), (3, .ref (al 0)), (4, .ref (al 1)), (5, .ref (al 2)), (6, .ref (al 3)), (7, .ref (al 4)), (8, .ref (al 5)), (10, .ref (al 7)), (13, .ref (al 10)), (16, .int (nI (d))), (17, .int (nI (one))), (18, .int (b2i (fi))), (19, .int ((-1))), (20, .int (nI (0)))] [] := by
  have hl := G.1
  have hst := G.2.1
  have hB := hR.B
  have hM0 := hM
  have hF : ZFr al sg0 sg0 := ZFr.rf
  have hd24 : d < 24 := Nat.lt_of_lt_of_le hd hR.nd.2
  have hI := hZ.1
  have hN29 : m < 2 ^ 29 := by omega
  have hc := hR.hc
  have hn24 := hR.nd.2
  have fin : ∀ (kc : Nat), kc ≤ L.1 10 1 → AW x (RQ x (ZA x.g ez al (ad 0 0) (m + 1)) noX 60 12000) 0 0 sg0 160 [(0, .ref ((ad 0 0))), (3, .ref (al 0)), (4, .ref (al 1)), (5, .ref (al 2)), (6, .ref (al 3)), (7, .ref (al 4)), (8, .ref (al 5)), (10, .ref (al 7)), (13, .ref (al 10)), (16, .int (nI (d))), (17, .int (nI (one))), (18, .int (b2i (fi))), (19, .int (nI (kc) - 1))] [] := by
    intro kc hkc
    by_cases z : kc = 0
    · subst z
      cases fi
      · exact A_sign_false0 (act := 0) G C hS hM hZ hR hK hT0 hT4 hm hd ho
      · exact A_sign_true0 (act := 0) G C hS hM hZ hR hK hT0 hT4 hm hd ho
    · obtain ⟨k, rfl⟩ : ∃ k, kc = k + 1 := ⟨kc - 1, by omega⟩
      rw [nI_pred]
      cases fi
      · exact A_sign_false1 (act := 0) G C hS hM hZ hR hK hT0 hT4 hm hd ho (by omega)
      · exact A_sign_true1 (act := 0) G C hS hM hZ hR hK hT0 hT4 hm hd ho (by omega)
  have loop : ∀ (r mm kc : Nat), mm + r = L.1 10 1 → kc ≤ L.1 10 1 → AW x (RQ x (ZA x.g ez al (ad 0 0) (m + 1)) noX 60 12000) 0 0 sg0 97 [(0, .ref ((ad 0 0))), (2, .int (zz)), (3, .ref (al 0)), (4, .ref (al 1)), (5, .ref (al 2)), (6, .ref (al 3)), (7, .ref (al 4)), (8, .ref (al 5)), (10, .ref (al 7)), (13, .ref (al 10)), (16, .int (nI (d))), (17, .int (nI (one))), (18, .int (b2i (fi))), (19, .int (nI (kc) - 1)), (20, .int (nI (mm)))] [] := by
    intro r
    induction r with
    | zero =>
      intro mm kc hmm hkc
      obtain rfl : mm = L.1 10 1 := by omega
      refine aw_iload C dL_acts_97 rfl rfl ?_
      refine aw_aload C dL_acts_99 rfl rfl ?_
      refine aw_iconst (v := nI 1) C dL_acts_101 rfl rfl ?_
      refine an_iald (k := 10) (i := 1) (N := 5) (v := L.1 10 1) C hM rfl rfl (by decide) rfl dL_acts_102 rfl ?_
      refine an_icmp_ge (a := L.1 10 1) (b := L.1 10 1) (tgt := 160) C dL_acts_103 (by omega) (by omega) (by decide) rfl (fun c => ?_) (fun c => absurd c (Nat.lt_irrefl _))
      refine aw_pick (ls' := [(0, _), (3, _), (4, _), (5, _), (6, _), (7, _), (8, _), (10, _), (13, _), (16, _), (17, _), (18, _), (19, _)]) [0, 2, 3, 4, 5, 6, 7, 8, 9, 10, 11, 12, 13] rfl ?_
      exact fin kc hkc
    | succ r ih =>
      intro mm kc hmm hkc
      refine aw_iload C dL_acts_97 rfl rfl ?_
      refine aw_aload C dL_acts_99 rfl rfl ?_
      refine aw_iconst (v := nI 1) C dL_acts_101 rfl rfl ?_
      refine an_iald (k := 10) (i := 1) (N := 5) (v := L.1 10 1) C hM rfl rfl (by decide) rfl dL_acts_102 rfl ?_
      refine an_icmp_ge (a := mm) (b := L.1 10 1) (tgt := 160) C dL_acts_103 (by omega) (by omega) (by decide) rfl (fun c => absurd (show mm < L.1 10 1 by omega) c) (fun hmm2 => ?_)
      refine aw_iload_n C dL_acts_106 rfl rfl rfl ?_
      refine aw_bipush (v := nI 10) C dL_acts_107 rfl rfl ?_
      refine aw_ishr C dL_acts_109 rfl ?_
      refine aw_iconst (v := nI 4) C dL_acts_110 rfl rfl ?_
      refine cw_callSp C k_L_98 (N_low hl hst (v := (zz >>> (nI 10 &&& 31))) (N := 4) (by decide) (by decide)) ⟨by decide, by decide⟩ rfl rfl (Nat.le_of_ble_eq_true rfl) (Nat.le_of_ble_eq_true rfl) (Nat.le_of_ble_eq_true rfl) dL_acts_111 rfl ?_
      obtain ⟨q10, eq10⟩ : ∃ q, q = n_low (zz >>> (nI 10 &&& 31)) 4 := ⟨_, rfl⟩
      rw [← eq10]
      have hq10 : q10 < 4 := by rw [eq10]; exact n_low_lt (by decide)
      refine an_if_le (a := q10) (tgt := 160) C dL_acts_114 (by omega) (by decide) rfl (fun c114 => ?_) (fun c114 => ?_)
      · refine aw_pick (ls' := [(0, _), (3, _), (4, _), (5, _), (6, _), (7, _), (8, _), (10, _), (13, _), (16, _), (17, _), (18, _), (19, _)]) [0, 2, 3, 4, 5, 6, 7, 8, 9, 10, 11, 12, 13] rfl ?_
        exact fin kc hkc
      · refine aw_aload C dL_acts_117 rfl rfl ?_
        refine aw_iload C dL_acts_119 rfl rfl ?_
        refine an_iald (k := 1) (i := mm) (N := 24) (v := (L.1 1 mm)) C hM rfl rfl (by omega) rfl dL_acts_121 rfl ?_
        refine aw_bipush (v := nI 8) C dL_acts_122 rfl rfl ?_
        refine an_rem C (by have := hB 1 mm; omega) (by decide) (by decide) dL_acts_124 rfl ?_
        refine aw_iconst (v := nI 3) C dL_acts_125 rfl rfl ?_
        refine an_icmp_ne (a := (L.1 1 mm) % 8) (b := 3) (tgt := 150) C dL_acts_126 (by have := hB 1 mm; omega) (by decide) (by decide) rfl (fun c126 => ?_) (fun c126 => ?_)
        · refine aw_iload C dL_acts_150 rfl rfl ?_
          refine aw_istore (ls' := [(19, _), (0, _), (2, _), (3, _), (4, _), (5, _), (6, _), (7, _), (8, _), (10, _), (13, _), (16, _), (17, _), (18, _), (20, _)]) C dL_acts_152 (by decide) rfl rfl ?_
          refine aw_pick (ls' := [(0, _), (2, _), (3, _), (4, _), (5, _), (6, _), (7, _), (8, _), (10, _), (13, _), (16, _), (17, _), (18, _), (19, _), (20, _)]) [1, 2, 3, 4, 5, 6, 7, 8, 9, 10, 11, 12, 13, 0, 14] rfl ?_
          refine aw_iinc (v' := nI (mm + 1)) (ls' := [(20, _), (0, _), (2, _), (3, _), (4, _), (5, _), (6, _), (7, _), (8, _), (10, _), (13, _), (16, _), (17, _), (18, _), (19, _)]) C dL_acts_154 rfl (by decide) (nI_add (mm) 1) rfl rfl ?_
          refine aw_pick (ls' := [(0, _), (2, _), (3, _), (4, _), (5, _), (6, _), (7, _), (8, _), (10, _), (13, _), (16, _), (17, _), (18, _), (19, _), (20, _)]) [1, 2, 3, 4, 5, 6, 7, 8, 9, 10, 11, 12, 13, 14, 0] rfl ?_
          refine aw_goto (tgt := 97) C dL_acts_157 (by decide) ?_
          exact ih (mm + 1) kc (by omega) hkc
        · refine aw_aload C dL_acts_129 rfl rfl ?_
          refine aw_iload C dL_acts_131 rfl rfl ?_
          refine an_iald (k := 1) (i := mm) (N := 24) (v := (L.1 1 mm)) C hM rfl rfl (by omega) rfl dL_acts_133 rfl ?_
          refine aw_bipush (v := nI 64) C dL_acts_134 rfl rfl ?_
          refine an_div C (by have := hB 1 mm; omega) (by decide) (by decide) dL_acts_136 rfl ?_
          refine aw_bipush (v := nI 8) C dL_acts_137 rfl rfl ?_
          refine an_rem C (by have := hB 1 mm; omega) (by decide) (by decide) dL_acts_139 rfl ?_
          refine aw_iload C dL_acts_140 rfl rfl ?_
          refine an_icmp_ne (a := ((L.1 1 mm) / 64) % 8) (b := one) (tgt := 150) C dL_acts_142 (by have := hB 1 mm; omega) (by omega) (by decide) rfl (fun c142 => ?_) (fun c142 => ?_)
          · refine aw_iload C dL_acts_150 rfl rfl ?_
            refine aw_istore (ls' := [(19, _), (0, _), (2, _), (3, _), (4, _), (5, _), (6, _), (7, _), (8, _), (10, _), (13, _), (16, _), (17, _), (18, _), (20, _)]) C dL_acts_152 (by decide) rfl rfl ?_
            refine aw_pick (ls' := [(0, _), (2, _), (3, _), (4, _), (5, _), (6, _), (7, _), (8, _), (10, _), (13, _), (16, _), (17, _), (18, _), (19, _), (20, _)]) [1, 2, 3, 4, 5, 6, 7, 8, 9, 10, 11, 12, 13, 0, 14] rfl ?_
            refine aw_iinc (v' := nI (mm + 1)) (ls' := [(20, _), (0, _), (2, _), (3, _), (4, _), (5, _), (6, _), (7, _), (8, _), (10, _), (13, _), (16, _), (17, _), (18, _), (19, _)]) C dL_acts_154 rfl (by decide) (nI_add (mm) 1) rfl rfl ?_
            refine aw_pick (ls' := [(0, _), (2, _), (3, _), (4, _), (5, _), (6, _), (7, _), (8, _), (10, _), (13, _), (16, _), (17, _), (18, _), (19, _), (20, _)]) [1, 2, 3, 4, 5, 6, 7, 8, 9, 10, 11, 12, 13, 14, 0] rfl ?_
            refine aw_goto (tgt := 97) C dL_acts_157 (by decide) ?_
            exact ih (mm + 1) kc (by omega) hkc
          · refine aw_iload C dL_acts_145 rfl rfl ?_
            refine aw_goto (tgt := 152) C dL_acts_147 (by decide) ?_
            refine aw_istore (ls' := [(19, _), (0, _), (2, _), (3, _), (4, _), (5, _), (6, _), (7, _), (8, _), (10, _), (13, _), (16, _), (17, _), (18, _), (20, _)]) C dL_acts_152 (by decide) rfl rfl ?_
            refine aw_pick (ls' := [(0, _), (2, _), (3, _), (4, _), (5, _), (6, _), (7, _), (8, _), (10, _), (13, _), (16, _), (17, _), (18, _), (19, _), (20, _)]) [1, 2, 3, 4, 5, 6, 7, 8, 9, 10, 11, 12, 13, 0, 14] rfl ?_
            refine aw_iinc (v' := nI (mm + 1)) (ls' := [(20, _), (0, _), (2, _), (3, _), (4, _), (5, _), (6, _), (7, _), (8, _), (10, _), (13, _), (16, _), (17, _), (18, _), (19, _)]) C dL_acts_154 rfl (by decide) (nI_add (mm) 1) rfl rfl ?_
            refine aw_pick (ls' := [(0, _), (2, _), (3, _), (4, _), (5, _), (6, _), (7, _), (8, _), (10, _), (13, _), (16, _), (17, _), (18, _), (19, _), (20, _)]) [1, 2, 3, 4, 5, 6, 7, 8, 9, 10, 11, 12, 13, 14, 0] rfl ?_
            refine aw_goto (tgt := 97) C dL_acts_157 (by decide) ?_
            have q := ih (mm + 1) (mm + 1) (by omega) (by omega)
            rw [nI_pred] at q
            exact q
  exact loop (L.1 10 1) 0 0 (by omega) (Nat.zero_le _)
set_option maxRecDepth 100000 in
theorem N_acts {g : Gx} {l : Launch} {ez : Nat} (G : GOK g l ez) {ad : Nat → Nat → Nat} {u : MU} {Y : GS} {L : ZU} {al : Nat → Nat} {sg0 : Sg} {m : Nat} (hS : CS g ez ad u Y sg0) (hM : ZS g al L sg0) (hZ : CZ m u) (hR : ZR L u) (hK : ZKu u) (hT0 : L.1 10 0 ≤ 400 * m) (hT4 : L.1 10 4 ≤ 6000 * m) (hm : m ≤ 130) {act : Nat} {zz : Int32} (hact : act < 19) (hn0 : 0 < L.1 10 1) : MM g l yL_acts cL_acts 21 (some .boolean) rmA sg0 [.ref ((ad 0 0)), .int (nI (act)), .int (zz), .ref (al 0), .ref (al 1), .ref (al 2), .ref (al 3), .ref (al 4), .ref (al 5), .ref (al 6), .ref (al 7), .ref (al 8), .ref (al 9), .ref (al 10), .ref (al 11), .ref (al 12)] (ZA g ez al (ad 0 0) (m + 1)) noX := by
  refine MM.of G.1 G.2.1 (by decide) (Nat.le_of_ble_eq_true rfl) (fun x hg hlx C hin hout hargs => ?_)
  subst hg; subst hlx
  have C : AWC x cL_acts 21 RL rmA (some .boolean) := C
  have hl := G.1
  have hst := G.2.1
  have hn24 := hR.nd.2
  have hB := hR.B
  show AW x (RQ x (ZA x.g ez al (ad 0 0) (m + 1)) noX 60 12000) 0 0 sg0 0 [(0, .ref ((ad 0 0))), (1, .int (nI (act))), (2, .int (zz)), (3, .ref (al 0)), (4, .ref (al 1)), (5, .ref (al 2)), (6, .ref (al 3)), (7, .ref (al 4)), (8, .ref (al 5)), (9, .ref (al 6)), (10, .ref (al 7)), (11, .ref (al 8)), (12, .ref (al 9)), (13, .ref (al 10)), (14, .ref (al 11)), (15, .ref (al 12))] []
  refine aw_iload_n C dL_acts_0 rfl rfl rfl ?_
  refine aw_aload C dL_acts_1 rfl rfl ?_
  refine aw_iconst (v := nI 1) C dL_acts_3 rfl rfl ?_
  refine an_iald (k := 10) (i := 1) (N := 5) (v := (L.1 10 1)) C hM rfl rfl (by decide) rfl dL_acts_4 rfl ?_
  refine cw_callSp C k_L_98 (N_low hl hst (v := zz) (N := (L.1 10 1)) hn0 (by omega)) ⟨by decide, by decide⟩ rfl rfl (Nat.le_of_ble_eq_true rfl) (Nat.le_of_ble_eq_true rfl) (Nat.le_of_ble_eq_true rfl) dL_acts_5 rfl ?_
  obtain ⟨d, ed⟩ : ∃ q, q = n_low zz (L.1 10 1) := ⟨_, rfl⟩
  rw [← ed]
  have hd : d < (L.1 10 1) := by rw [ed]; exact n_low_lt hn0
  refine aw_istore (ls' := [(16, _), (0, _), (1, _), (2, _), (3, _), (4, _), (5, _), (6, _), (7, _), (8, _), (9, _), (10, _), (11, _), (12, _), (13, _), (14, _), (15, _)]) C dL_acts_8 (by decide) rfl rfl ?_
  refine aw_pick (ls' := [(0, _), (1, _), (2, _), (3, _), (4, _), (5, _), (6, _), (7, _), (8, _), (9, _), (10, _), (11, _), (12, _), (13, _), (14, _), (15, _), (16, _)]) [1, 2, 3, 4, 5, 6, 7, 8, 9, 10, 11, 12, 13, 14, 15, 16, 0] rfl ?_
  refine aw_iload_n C dL_acts_10 rfl rfl rfl ?_
  refine aw_iconst (v := nI 5) C dL_acts_11 rfl rfl ?_
  refine aw_ishr C dL_acts_12 rfl ?_
  refine aw_bipush (v := nI 6) C dL_acts_13 rfl rfl ?_
  refine cw_callSp C k_L_98 (N_low hl hst (v := (zz >>> (nI 5 &&& 31))) (N := 6) (by decide) (by decide)) ⟨by decide, by decide⟩ rfl rfl (Nat.le_of_ble_eq_true rfl) (Nat.le_of_ble_eq_true rfl) (Nat.le_of_ble_eq_true rfl) dL_acts_15 rfl ?_
  obtain ⟨one, eone⟩ : ∃ q, q = n_low (zz >>> (nI 5 &&& 31)) 6 := ⟨_, rfl⟩
  rw [← eone]
  have ho : one < 6 := by rw [eone]; exact n_low_lt (by decide)
  refine aw_istore (ls' := [(17, _), (0, _), (1, _), (2, _), (3, _), (4, _), (5, _), (6, _), (7, _), (8, _), (9, _), (10, _), (11, _), (12, _), (13, _), (14, _), (15, _), (16, _)]) C dL_acts_18 (by decide) rfl rfl ?_
  refine aw_pick (ls' := [(0, _), (1, _), (2, _), (3, _), (4, _), (5, _), (6, _), (7, _), (8, _), (9, _), (10, _), (11, _), (12, _), (13, _), (14, _), (15, _), (16, _), (17, _)]) [1, 2, 3, 4, 5, 6, 7, 8, 9, 10, 11, 12, 13, 14, 15, 16, 17, 0] rfl ?_
  refine aw_iload_n C dL_acts_20 rfl rfl rfl ?_
  refine aw_iconst (v := nI 5) C dL_acts_21 rfl rfl ?_
  refine an_icmp_ge (a := act) (b := 5) (tgt := 218) C dL_acts_22 (by omega) (by decide) (by decide) rfl (fun c22 => ?_) (fun c22 => ?_)
  · refine aw_iload_n C dL_acts_218 rfl rfl rfl ?_
    refine aw_bipush (v := nI 8) C dL_acts_219 rfl rfl ?_
    refine an_icmp_ge (a := act) (b := 8) (tgt := 326) C dL_acts_221 (by omega) (by decide) (by decide) rfl (fun c221 => ?_) (fun c221 => ?_)
    · refine aw_iload_n C dL_acts_326 rfl rfl rfl ?_
      refine aw_bipush (v := nI 11) C dL_acts_327 rfl rfl ?_
      refine an_icmp_ge (a := act) (b := 11) (tgt := 530) C dL_acts_329 (by omega) (by decide) (by decide) rfl (fun c329 => ?_) (fun c329 => ?_)
      · refine aw_iload_n C dL_acts_530 rfl rfl rfl ?_
        refine aw_bipush (v := nI 15) C dL_acts_531 rfl rfl ?_
        refine an_icmp_ge (a := act) (b := 15) (tgt := 578) C dL_acts_533 (by omega) (by decide) (by decide) rfl (fun c533 => ?_) (fun c533 => ?_)
        · refine aw_iload_n C dL_acts_578 rfl rfl rfl ?_
          refine aw_bipush (v := nI 15) C dL_acts_579 rfl rfl ?_
          refine an_icmp_ne (a := act) (b := 15) (tgt := 751) C dL_acts_581 (by omega) (by decide) (by decide) rfl (fun c581 => ?_) (fun c581 => ?_)
          · refine aw_iload_n C dL_acts_751 rfl rfl rfl ?_
            refine aw_bipush (v := nI 16) C dL_acts_752 rfl rfl ?_
            refine an_icmp_ne (a := act) (b := 16) (tgt := 860) C dL_acts_754 (by omega) (by decide) (by decide) rfl (fun c754 => ?_) (fun c754 => ?_)
            · refine aw_iload_n C dL_acts_860 rfl rfl rfl ?_
              refine aw_bipush (v := nI 17) C dL_acts_861 rfl rfl ?_
              refine an_icmp_ne (a := act) (b := 17) (tgt := 940) C dL_acts_863 (by omega) (by decide) (by decide) rfl (fun c863 => ?_) (fun c863 => ?_)
              · refine aw_pick (ls' := [(0, _), (1, _), (3, _), (4, _), (5, _), (6, _), (7, _), (8, _), (9, _), (10, _), (11, _), (12, _), (13, _), (14, _), (15, _), (16, _), (17, _)]) [0, 1, 3, 4, 5, 6, 7, 8, 9, 10, 11, 12, 13, 14, 15, 16, 17] rfl ?_
                exact A_enter G C hS hM hZ hR hK hT0 hT4 hm hd ho
              · refine aw_pick (ls' := [(0, _), (1, _), (3, _), (4, _), (5, _), (6, _), (7, _), (8, _), (9, _), (10, _), (11, _), (12, _), (13, _), (14, _), (15, _), (16, _), (17, _)]) [0, 1, 3, 4, 5, 6, 7, 8, 9, 10, 11, 12, 13, 14, 15, 16, 17] rfl ?_
                exact A_lose G C hS hM hZ hR hK hT0 hT4 hm hd ho
            · refine aw_pick (ls' := [(0, _), (1, _), (3, _), (4, _), (5, _), (6, _), (7, _), (8, _), (9, _), (10, _), (11, _), (12, _), (13, _), (14, _), (15, _), (16, _), (17, _)]) [0, 1, 3, 4, 5, 6, 7, 8, 9, 10, 11, 12, 13, 14, 15, 16, 17] rfl ?_
              exact A_copy G C hS hM hZ hR hK hT0 hT4 hm hd ho
          · refine aw_iload_n C dL_acts_584 rfl rfl rfl ?_
            refine aw_bipush (v := nI 8) C dL_acts_585 rfl rfl ?_
            refine aw_ishr C dL_acts_587 rfl ?_
            refine aw_iconst (v := nI 2) C dL_acts_588 rfl rfl ?_
            refine cw_callSp C k_L_98 (N_low hl hst (v := (zz >>> (nI 8 &&& 31))) (N := 2) (by decide) (by decide)) ⟨by decide, by decide⟩ rfl rfl (Nat.le_of_ble_eq_true rfl) (Nat.le_of_ble_eq_true rfl) (Nat.le_of_ble_eq_true rfl) dL_acts_589 rfl ?_
            obtain ⟨q8, eq8⟩ : ∃ q, q = n_low (zz >>> (nI 8 &&& 31)) 2 := ⟨_, rfl⟩
            rw [← eq8]
            have hq8 : q8 < 2 := by rw [eq8]; exact n_low_lt (by decide)
            refine an_if_ne (a := q8) (tgt := 599) C dL_acts_592 (by omega) (by decide) rfl (fun c592 => ?_) (fun c592 => ?_)
            · refine aw_iconst (v := nI 0) C dL_acts_599 rfl rfl ?_
              refine aw_istore (ls' := [(18, _), (0, _), (1, _), (2, _), (3, _), (4, _), (5, _), (6, _), (7, _), (8, _), (9, _), (10, _), (11, _), (12, _), (13, _), (14, _), (15, _), (16, _), (17, _)]) C dL_acts_600 (by decide) rfl rfl ?_
              refine aw_pick (ls' := [(0, _), (1, _), (2, _), (3, _), (4, _), (5, _), (6, _), (7, _), (8, _), (9, _), (10, _), (11, _), (12, _), (13, _), (14, _), (15, _), (16, _), (17, _), (18, _)]) [1, 2, 3, 4, 5, 6, 7, 8, 9, 10, 11, 12, 13, 14, 15, 16, 17, 18, 0] rfl ?_
              refine aw_pick (ls' := [(0, _), (1, _), (3, _), (4, _), (5, _), (6, _), (7, _), (8, _), (9, _), (10, _), (11, _), (12, _), (13, _), (14, _), (15, _), (16, _), (17, _), (18, _)]) [0, 1, 3, 4, 5, 6, 7, 8, 9, 10, 11, 12, 13, 14, 15, 16, 17, 18] rfl ?_
              exact A_revoke_false G C hS hM hZ hR hK hT0 hT4 hm hd ho
            · refine aw_iconst (v := nI 1) C dL_acts_595 rfl rfl ?_
              refine aw_goto (tgt := 600) C dL_acts_596 (by decide) ?_
              refine aw_istore (ls' := [(18, _), (0, _), (1, _), (2, _), (3, _), (4, _), (5, _), (6, _), (7, _), (8, _), (9, _), (10, _), (11, _), (12, _), (13, _), (14, _), (15, _), (16, _), (17, _)]) C dL_acts_600 (by decide) rfl rfl ?_
              refine aw_pick (ls' := [(0, _), (1, _), (2, _), (3, _), (4, _), (5, _), (6, _), (7, _), (8, _), (9, _), (10, _), (11, _), (12, _), (13, _), (14, _), (15, _), (16, _), (17, _), (18, _)]) [1, 2, 3, 4, 5, 6, 7, 8, 9, 10, 11, 12, 13, 14, 15, 16, 17, 18, 0] rfl ?_
              refine aw_pick (ls' := [(0, _), (1, _), (3, _), (4, _), (5, _), (6, _), (7, _), (8, _), (9, _), (10, _), (11, _), (12, _), (13, _), (14, _), (15, _), (16, _), (17, _), (18, _)]) [0, 1, 3, 4, 5, 6, 7, 8, 9, 10, 11, 12, 13, 14, 15, 16, 17, 18] rfl ?_
              exact A_revoke_true G C hS hM hZ hR hK hT0 hT4 hm hd ho
        · refine aw_pick (ls' := [(0, _), (1, _), (3, _), (4, _), (5, _), (6, _), (7, _), (8, _), (9, _), (10, _), (11, _), (12, _), (13, _), (14, _), (15, _), (16, _), (17, _)]) [0, 1, 3, 4, 5, 6, 7, 8, 9, 10, 11, 12, 13, 14, 15, 16, 17] rfl ?_
          exact A_close G C hS hM hZ hR hK hT0 hT4 hm hd ho
      · refine aw_pick (ls' := [(0, _), (1, _), (3, _), (4, _), (5, _), (6, _), (7, _), (8, _), (9, _), (10, _), (11, _), (12, _), (13, _), (14, _), (15, _), (16, _), (17, _)]) [0, 1, 3, 4, 5, 6, 7, 8, 9, 10, 11, 12, 13, 14, 15, 16, 17] rfl ?_
        exact A_witness G C hS hM hZ hR hK hT0 hT4 hm hd ho
    · refine aw_iload_n C dL_acts_224 rfl rfl rfl ?_
      refine aw_bipush (v := nI 7) C dL_acts_225 rfl rfl ?_
      refine an_icmp_ge (a := act) (b := 7) (tgt := 234) C dL_acts_227 (by omega) (by decide) (by decide) rfl (fun c227 => ?_) (fun c227 => ?_)
      · refine aw_bipush (v := nI 16) C dL_acts_234 rfl rfl ?_
        refine aw_istore (ls' := [(18, _), (0, _), (1, _), (2, _), (3, _), (4, _), (5, _), (6, _), (7, _), (8, _), (9, _), (10, _), (11, _), (12, _), (13, _), (14, _), (15, _), (16, _), (17, _)]) C dL_acts_236 (by decide) rfl rfl ?_
        refine aw_pick (ls' := [(0, _), (1, _), (2, _), (3, _), (4, _), (5, _), (6, _), (7, _), (8, _), (9, _), (10, _), (11, _), (12, _), (13, _), (14, _), (15, _), (16, _), (17, _), (18, _)]) [1, 2, 3, 4, 5, 6, 7, 8, 9, 10, 11, 12, 13, 14, 15, 16, 17, 18, 0] rfl ?_
        refine aw_pick (ls' := [(0, _), (1, _), (3, _), (4, _), (5, _), (6, _), (7, _), (8, _), (9, _), (10, _), (11, _), (12, _), (13, _), (14, _), (15, _), (16, _), (17, _), (18, _)]) [0, 1, 3, 4, 5, 6, 7, 8, 9, 10, 11, 12, 13, 14, 15, 16, 17, 18] rfl ?_
        exact A_add G C hS hM hZ hR hK hT0 hT4 hm hd ho (by decide)
      · refine aw_iconst (v := nI 4) C dL_acts_230 rfl rfl ?_
        refine aw_goto (tgt := 236) C dL_acts_231 (by decide) ?_
        refine aw_istore (ls' := [(18, _), (0, _), (1, _), (2, _), (3, _), (4, _), (5, _), (6, _), (7, _), (8, _), (9, _), (10, _), (11, _), (12, _), (13, _), (14, _), (15, _), (16, _), (17, _)]) C dL_acts_236 (by decide) rfl rfl ?_
        refine aw_pick (ls' := [(0, _), (1, _), (2, _), (3, _), (4, _), (5, _), (6, _), (7, _), (8, _), (9, _), (10, _), (11, _), (12, _), (13, _), (14, _), (15, _), (16, _), (17, _), (18, _)]) [1, 2, 3, 4, 5, 6, 7, 8, 9, 10, 11, 12, 13, 14, 15, 16, 17, 18, 0] rfl ?_
        refine aw_pick (ls' := [(0, _), (1, _), (3, _), (4, _), (5, _), (6, _), (7, _), (8, _), (9, _), (10, _), (11, _), (12, _), (13, _), (14, _), (15, _), (16, _), (17, _), (18, _)]) [0, 1, 3, 4, 5, 6, 7, 8, 9, 10, 11, 12, 13, 14, 15, 16, 17, 18] rfl ?_
        exact A_add G C hS hM hZ hR hK hT0 hT4 hm hd ho (by decide)
  · refine aw_iload_n C dL_acts_25 rfl rfl rfl ?_
    refine aw_bipush (v := nI 8) C dL_acts_26 rfl rfl ?_
    refine aw_ishr C dL_acts_28 rfl ?_
    refine aw_iconst (v := nI 2) C dL_acts_29 rfl rfl ?_
    refine cw_callSp C k_L_98 (N_low hl hst (v := (zz >>> (nI 8 &&& 31))) (N := 2) (by decide) (by decide)) ⟨by decide, by decide⟩ rfl rfl (Nat.le_of_ble_eq_true rfl) (Nat.le_of_ble_eq_true rfl) (Nat.le_of_ble_eq_true rfl) dL_acts_30 rfl ?_
    obtain ⟨q8, eq8⟩ : ∃ q, q = n_low (zz >>> (nI 8 &&& 31)) 2 := ⟨_, rfl⟩
    rw [← eq8]
    have hq8 : q8 < 2 := by rw [eq8]; exact n_low_lt (by decide)
    refine an_if_ne (a := q8) (tgt := 40) C dL_acts_33 (by omega) (by decide) rfl (fun c33 => ?_) (fun c33 => ?_)
    · refine aw_iconst (v := nI 0) C dL_acts_40 rfl rfl ?_
      refine aw_istore (ls' := [(18, _), (0, _), (1, _), (2, _), (3, _), (4, _), (5, _), (6, _), (7, _), (8, _), (9, _), (10, _), (11, _), (12, _), (13, _), (14, _), (15, _), (16, _), (17, _)]) C dL_acts_41 (by decide) rfl rfl ?_
      refine aw_pick (ls' := [(0, _), (1, _), (2, _), (3, _), (4, _), (5, _), (6, _), (7, _), (8, _), (9, _), (10, _), (11, _), (12, _), (13, _), (14, _), (15, _), (16, _), (17, _), (18, _)]) [1, 2, 3, 4, 5, 6, 7, 8, 9, 10, 11, 12, 13, 14, 15, 16, 17, 18, 0] rfl ?_
      refine aw_iload_n C dL_acts_43 rfl rfl rfl ?_
      refine aw_bipush (v := nI 9) C dL_acts_44 rfl rfl ?_
      refine aw_ishr C dL_acts_46 rfl ?_
      refine aw_iconst (v := nI 3) C dL_acts_47 rfl rfl ?_
      refine cw_callSp C k_L_98 (N_low hl hst (v := (zz >>> (nI 9 &&& 31))) (N := 3) (by decide) (by decide)) ⟨by decide, by decide⟩ rfl rfl (Nat.le_of_ble_eq_true rfl) (Nat.le_of_ble_eq_true rfl) (Nat.le_of_ble_eq_true rfl) dL_acts_48 rfl ?_
      obtain ⟨q9, eq9⟩ : ∃ q, q = n_low (zz >>> (nI 9 &&& 31)) 3 := ⟨_, rfl⟩
      rw [← eq9]
      have hq9 : q9 < 3 := by rw [eq9]; exact n_low_lt (by decide)
      refine an_if_le (a := q9) (tgt := 87) C dL_acts_51 (by omega) (by decide) rfl (fun c51 => ?_) (fun c51 => ?_)
      · refine aw_iload C dL_acts_87 rfl rfl ?_
        refine aw_istore (ls' := [(17, _), (0, _), (1, _), (2, _), (3, _), (4, _), (5, _), (6, _), (7, _), (8, _), (9, _), (10, _), (11, _), (12, _), (13, _), (14, _), (15, _), (16, _), (18, _)]) C dL_acts_89 (by decide) rfl rfl ?_
        refine aw_pick (ls' := [(0, _), (1, _), (2, _), (3, _), (4, _), (5, _), (6, _), (7, _), (8, _), (9, _), (10, _), (11, _), (12, _), (13, _), (14, _), (15, _), (16, _), (17, _), (18, _)]) [1, 2, 3, 4, 5, 6, 7, 8, 9, 10, 11, 12, 13, 14, 15, 16, 17, 0, 18] rfl ?_
        refine aw_iconst (v := -1) C dL_acts_91 rfl rfl ?_
        refine aw_istore (ls' := [(19, _), (0, _), (1, _), (2, _), (3, _), (4, _), (5, _), (6, _), (7, _), (8, _), (9, _), (10, _), (11, _), (12, _), (13, _), (14, _), (15, _), (16, _), (17, _), (18, _)]) C dL_acts_92 (by decide) rfl rfl ?_
        refine aw_pick (ls' := [(0, _), (1, _), (2, _), (3, _), (4, _), (5, _), (6, _), (7, _), (8, _), (9, _), (10, _), (11, _), (12, _), (13, _), (14, _), (15, _), (16, _), (17, _), (18, _), (19, _)]) [1, 2, 3, 4, 5, 6, 7, 8, 9, 10, 11, 12, 13, 14, 15, 16, 17, 18, 19, 0] rfl ?_
        refine aw_iconst (v := nI 0) C dL_acts_94 rfl rfl ?_
        refine aw_istore (ls' := [(20, _), (0, _), (1, _), (2, _), (3, _), (4, _), (5, _), (6, _), (7, _), (8, _), (9, _), (10, _), (11, _), (12, _), (13, _), (14, _), (15, _), (16, _), (17, _), (18, _), (19, _)]) C dL_acts_95 (by decide) rfl rfl ?_
        refine aw_pick (ls' := [(0, _), (1, _), (2, _), (3, _), (4, _), (5, _), (6, _), (7, _), (8, _), (9, _), (10, _), (11, _), (12, _), (13, _), (14, _), (15, _), (16, _), (17, _), (18, _), (19, _), (20, _)]) [1, 2, 3, 4, 5, 6, 7, 8, 9, 10, 11, 12, 13, 14, 15, 16, 17, 18, 19, 20, 0] rfl ?_
        refine aw_pick (ls' := [(0, _), (2, _), (3, _), (4, _), (5, _), (6, _), (7, _), (8, _), (10, _), (13, _), (16, _), (17, _), (18, _), (19, _), (20, _)]) [0, 2, 3, 4, 5, 6, 7, 8, 10, 13, 16, 17, 18, 19, 20] rfl ?_
        exact A_sign_loop (fi := false) (zz := zz) (act := act) G C hS hM hZ hR hK hT0 hT4 hm hd ho
      · refine aw_iload C dL_acts_54 rfl rfl ?_
        refine an_if_eq (a := 0) (tgt := 73) C dL_acts_56 (by decide) (by decide) rfl (fun _ => ?_) (fun q => absurd (by decide) q)
        refine aw_aload C dL_acts_73 rfl rfl ?_
        refine aw_iload C dL_acts_75 rfl rfl ?_
        refine an_iald (k := 1) (i := d) (N := 24) (v := (L.1 1 d)) C hM rfl rfl (by omega) rfl dL_acts_77 rfl ?_
        refine aw_bipush (v := nI 64) C dL_acts_78 rfl rfl ?_
        refine an_div C (by have := hB 1 d; omega) (by decide) (by decide) dL_acts_80 rfl ?_
        refine aw_bipush (v := nI 8) C dL_acts_81 rfl rfl ?_
        refine an_rem C (by have := hB 1 d; omega) (by decide) (by decide) dL_acts_83 rfl ?_
        refine aw_goto (tgt := 89) C dL_acts_84 (by decide) ?_
        refine aw_istore (ls' := [(17, _), (0, _), (1, _), (2, _), (3, _), (4, _), (5, _), (6, _), (7, _), (8, _), (9, _), (10, _), (11, _), (12, _), (13, _), (14, _), (15, _), (16, _), (18, _)]) C dL_acts_89 (by decide) rfl rfl ?_
        refine aw_pick (ls' := [(0, _), (1, _), (2, _), (3, _), (4, _), (5, _), (6, _), (7, _), (8, _), (9, _), (10, _), (11, _), (12, _), (13, _), (14, _), (15, _), (16, _), (17, _), (18, _)]) [1, 2, 3, 4, 5, 6, 7, 8, 9, 10, 11, 12, 13, 14, 15, 16, 17, 0, 18] rfl ?_
        refine aw_iconst (v := -1) C dL_acts_91 rfl rfl ?_
        refine aw_istore (ls' := [(19, _), (0, _), (1, _), (2, _), (3, _), (4, _), (5, _), (6, _), (7, _), (8, _), (9, _), (10, _), (11, _), (12, _), (13, _), (14, _), (15, _), (16, _), (17, _), (18, _)]) C dL_acts_92 (by decide) rfl rfl ?_
        refine aw_pick (ls' := [(0, _), (1, _), (2, _), (3, _), (4, _), (5, _), (6, _), (7, _), (8, _), (9, _), (10, _), (11, _), (12, _), (13, _), (14, _), (15, _), (16, _), (17, _), (18, _), (19, _)]) [1, 2, 3, 4, 5, 6, 7, 8, 9, 10, 11, 12, 13, 14, 15, 16, 17, 18, 19, 0] rfl ?_
        refine aw_iconst (v := nI 0) C dL_acts_94 rfl rfl ?_
        refine aw_istore (ls' := [(20, _), (0, _), (1, _), (2, _), (3, _), (4, _), (5, _), (6, _), (7, _), (8, _), (9, _), (10, _), (11, _), (12, _), (13, _), (14, _), (15, _), (16, _), (17, _), (18, _), (19, _)]) C dL_acts_95 (by decide) rfl rfl ?_
        refine aw_pick (ls' := [(0, _), (1, _), (2, _), (3, _), (4, _), (5, _), (6, _), (7, _), (8, _), (9, _), (10, _), (11, _), (12, _), (13, _), (14, _), (15, _), (16, _), (17, _), (18, _), (19, _), (20, _)]) [1, 2, 3, 4, 5, 6, 7, 8, 9, 10, 11, 12, 13, 14, 15, 16, 17, 18, 19, 20, 0] rfl ?_
        refine aw_pick (ls' := [(0, _), (2, _), (3, _), (4, _), (5, _), (6, _), (7, _), (8, _), (10, _), (13, _), (16, _), (17, _), (18, _), (19, _), (20, _)]) [0, 2, 3, 4, 5, 6, 7, 8, 10, 13, 16, 17, 18, 19, 20] rfl ?_
        exact A_sign_loop (fi := false) (zz := zz) (act := act) G C hS hM hZ hR hK hT0 hT4 hm hd (hR.d hd).tk.1
    · refine aw_iconst (v := nI 1) C dL_acts_36 rfl rfl ?_
      refine aw_goto (tgt := 41) C dL_acts_37 (by decide) ?_
      refine aw_istore (ls' := [(18, _), (0, _), (1, _), (2, _), (3, _), (4, _), (5, _), (6, _), (7, _), (8, _), (9, _), (10, _), (11, _), (12, _), (13, _), (14, _), (15, _), (16, _), (17, _)]) C dL_acts_41 (by decide) rfl rfl ?_
      refine aw_pick (ls' := [(0, _), (1, _), (2, _), (3, _), (4, _), (5, _), (6, _), (7, _), (8, _), (9, _), (10, _), (11, _), (12, _), (13, _), (14, _), (15, _), (16, _), (17, _), (18, _)]) [1, 2, 3, 4, 5, 6, 7, 8, 9, 10, 11, 12, 13, 14, 15, 16, 17, 18, 0] rfl ?_
      refine aw_iload_n C dL_acts_43 rfl rfl rfl ?_
      refine aw_bipush (v := nI 9) C dL_acts_44 rfl rfl ?_
      refine aw_ishr C dL_acts_46 rfl ?_
      refine aw_iconst (v := nI 3) C dL_acts_47 rfl rfl ?_
      refine cw_callSp C k_L_98 (N_low hl hst (v := (zz >>> (nI 9 &&& 31))) (N := 3) (by decide) (by decide)) ⟨by decide, by decide⟩ rfl rfl (Nat.le_of_ble_eq_true rfl) (Nat.le_of_ble_eq_true rfl) (Nat.le_of_ble_eq_true rfl) dL_acts_48 rfl ?_
      obtain ⟨q9, eq9⟩ : ∃ q, q = n_low (zz >>> (nI 9 &&& 31)) 3 := ⟨_, rfl⟩
      rw [← eq9]
      have hq9 : q9 < 3 := by rw [eq9]; exact n_low_lt (by decide)
      refine an_if_le (a := q9) (tgt := 87) C dL_acts_51 (by omega) (by decide) rfl (fun c51 => ?_) (fun c51 => ?_)
      · refine aw_iload C dL_acts_87 rfl rfl ?_
        refine aw_istore (ls' := [(17, _), (0, _), (1, _), (2, _), (3, _), (4, _), (5, _), (6, _), (7, _), (8, _), (9, _), (10, _), (11, _), (12, _), (13, _), (14, _), (15, _), (16, _), (18, _)]) C dL_acts_89 (by decide) rfl rfl ?_
        refine aw_pick (ls' := [(0, _), (1, _), (2, _), (3, _), (4, _), (5, _), (6, _), (7, _), (8, _), (9, _), (10, _), (11, _), (12, _), (13, _), (14, _), (15, _), (16, _), (17, _), (18, _)]) [1, 2, 3, 4, 5, 6, 7, 8, 9, 10, 11, 12, 13, 14, 15, 16, 17, 0, 18] rfl ?_
        refine aw_iconst (v := -1) C dL_acts_91 rfl rfl ?_
        refine aw_istore (ls' := [(19, _), (0, _), (1, _), (2, _), (3, _), (4, _), (5, _), (6, _), (7, _), (8, _), (9, _), (10, _), (11, _), (12, _), (13, _), (14, _), (15, _), (16, _), (17, _), (18, _)]) C dL_acts_92 (by decide) rfl rfl ?_
        refine aw_pick (ls' := [(0, _), (1, _), (2, _), (3, _), (4, _), (5, _), (6, _), (7, _), (8, _), (9, _), (10, _), (11, _), (12, _), (13, _), (14, _), (15, _), (16, _), (17, _), (18, _), (19, _)]) [1, 2, 3, 4, 5, 6, 7, 8, 9, 10, 11, 12, 13, 14, 15, 16, 17, 18, 19, 0] rfl ?_
        refine aw_iconst (v := nI 0) C dL_acts_94 rfl rfl ?_
        refine aw_istore (ls' := [(20, _), (0, _), (1, _), (2, _), (3, _), (4, _), (5, _), (6, _), (7, _), (8, _), (9, _), (10, _), (11, _), (12, _), (13, _), (14, _), (15, _), (16, _), (17, _), (18, _), (19, _)]) C dL_acts_95 (by decide) rfl rfl ?_
        refine aw_pick (ls' := [(0, _), (1, _), (2, _), (3, _), (4, _), (5, _), (6, _), (7, _), (8, _), (9, _), (10, _), (11, _), (12, _), (13, _), (14, _), (15, _), (16, _), (17, _), (18, _), (19, _), (20, _)]) [1, 2, 3, 4, 5, 6, 7, 8, 9, 10, 11, 12, 13, 14, 15, 16, 17, 18, 19, 20, 0] rfl ?_
        refine aw_pick (ls' := [(0, _), (2, _), (3, _), (4, _), (5, _), (6, _), (7, _), (8, _), (10, _), (13, _), (16, _), (17, _), (18, _), (19, _), (20, _)]) [0, 2, 3, 4, 5, 6, 7, 8, 10, 13, 16, 17, 18, 19, 20] rfl ?_
        exact A_sign_loop (fi := true) (zz := zz) (act := act) G C hS hM hZ hR hK hT0 hT4 hm hd ho
      · refine aw_iload C dL_acts_54 rfl rfl ?_
        refine an_if_eq (a := 1) (tgt := 73) C dL_acts_56 (by decide) (by decide) rfl (fun q => absurd q (by decide)) (fun _ => ?_)
        refine aw_aload C dL_acts_59 rfl rfl ?_
        refine aw_iload C dL_acts_61 rfl rfl ?_
        refine an_iald (k := 1) (i := d) (N := 24) (v := (L.1 1 d)) C hM rfl rfl (by omega) rfl dL_acts_63 rfl ?_
        refine aw_bipush (v := nI 8) C dL_acts_64 rfl rfl ?_
        refine an_div C (by have := hB 1 d; omega) (by decide) (by decide) dL_acts_66 rfl ?_
        refine aw_bipush (v := nI 8) C dL_acts_67 rfl rfl ?_
        refine an_rem C (by have := hB 1 d; omega) (by decide) (by decide) dL_acts_69 rfl ?_
        refine aw_goto (tgt := 89) C dL_acts_70 (by decide) ?_
        refine aw_istore (ls' := [(17, _), (0, _), (1, _), (2, _), (3, _), (4, _), (5, _), (6, _), (7, _), (8, _), (9, _), (10, _), (11, _), (12, _), (13, _), (14, _), (15, _), (16, _), (18, _)]) C dL_acts_89 (by decide) rfl rfl ?_
        refine aw_pick (ls' := [(0, _), (1, _), (2, _), (3, _), (4, _), (5, _), (6, _), (7, _), (8, _), (9, _), (10, _), (11, _), (12, _), (13, _), (14, _), (15, _), (16, _), (17, _), (18, _)]) [1, 2, 3, 4, 5, 6, 7, 8, 9, 10, 11, 12, 13, 14, 15, 16, 17, 0, 18] rfl ?_
        refine aw_iconst (v := -1) C dL_acts_91 rfl rfl ?_
        refine aw_istore (ls' := [(19, _), (0, _), (1, _), (2, _), (3, _), (4, _), (5, _), (6, _), (7, _), (8, _), (9, _), (10, _), (11, _), (12, _), (13, _), (14, _), (15, _), (16, _), (17, _), (18, _)]) C dL_acts_92 (by decide) rfl rfl ?_
        refine aw_pick (ls' := [(0, _), (1, _), (2, _), (3, _), (4, _), (5, _), (6, _), (7, _), (8, _), (9, _), (10, _), (11, _), (12, _), (13, _), (14, _), (15, _), (16, _), (17, _), (18, _), (19, _)]) [1, 2, 3, 4, 5, 6, 7, 8, 9, 10, 11, 12, 13, 14, 15, 16, 17, 18, 19, 0] rfl ?_
        refine aw_iconst (v := nI 0) C dL_acts_94 rfl rfl ?_
        refine aw_istore (ls' := [(20, _), (0, _), (1, _), (2, _), (3, _), (4, _), (5, _), (6, _), (7, _), (8, _), (9, _), (10, _), (11, _), (12, _), (13, _), (14, _), (15, _), (16, _), (17, _), (18, _), (19, _)]) C dL_acts_95 (by decide) rfl rfl ?_
        refine aw_pick (ls' := [(0, _), (1, _), (2, _), (3, _), (4, _), (5, _), (6, _), (7, _), (8, _), (9, _), (10, _), (11, _), (12, _), (13, _), (14, _), (15, _), (16, _), (17, _), (18, _), (19, _), (20, _)]) [1, 2, 3, 4, 5, 6, 7, 8, 9, 10, 11, 12, 13, 14, 15, 16, 17, 18, 19, 20, 0] rfl ?_
        refine aw_pick (ls' := [(0, _), (2, _), (3, _), (4, _), (5, _), (6, _), (7, _), (8, _), (10, _), (13, _), (16, _), (17, _), (18, _), (19, _), (20, _)]) [0, 2, 3, 4, 5, 6, 7, 8, 10, 13, 16, 17, 18, 19, 20] rfl ?_
        exact A_sign_loop (fi := true) (zz := zz) (act := act) G C hS hM hZ hR hK hT0 hT4 hm hd (hR.d hd).gv.1
