/-! ===== the other calls: both sides ===== -/
theorem shD_tab : ∀ n : Nat, n < 26 → vf_n64 (FP.f2d (FP.fdiv (FP.i2f (iZ (n : Int))) 1103626240)) := by unfold vf_n64; decide +kernel
theorem shD_n {z : Int} (h0 : 0 ≤ z) (h1 : z ≤ 25) : vf_n64 (FP.f2d (shF z)) := by
  have h := shD_tab z.toNat (by omega)
  rw [Int.toNat_of_nonneg h0] at h
  exact h
theorem meC_tab : ∀ n : Nat, n < 101 → Op.cmpValue (FP.dcmp (FP.ddiv (FP.i2d (iZ (n : Int))) 4627730092099895296) (FP.ddiv (FP.i2d (iZ (n : Int))) 4627730092099895296)) .l = 0 := by decide +kernel
theorem meX {z : Int} (h : 0 ≤ z ∧ z ≤ 100) : Op.cmpValue (FP.dcmp (meD z) (meD z)) .l = 0 := by
  have h9 := meC_tab z.toNat (by omega)
  rw [Int.toNat_of_nonneg h.1] at h9
  exact h9
theorem shC_tab : ∀ n : Nat, n < 26 → Op.cmpValue (FP.dcmp (FP.f2d (FP.fdiv (FP.i2f (iZ (n : Int))) 1103626240)) (FP.f2d (FP.fdiv (FP.i2f (iZ (n : Int))) 1103626240))) .l = 0 := by decide +kernel
theorem shC_n {z : Int} (h0 : 0 ≤ z) (h1 : z ≤ 25) : Op.cmpValue (FP.dcmp (FP.f2d (shF z)) (FP.f2d (shF z))) .l = 0 := by
  have h := shC_tab z.toNat (by omega)
  rw [Int.toNat_of_nonneg h0] at h
  exact h
theorem bcS_n {op : Int → Int} (h : ∀ j, 0 ≤ op j ∧ op j ≤ 15) : ∀ n : Nat, 0 ≤ smN (fun c => bcZ (op c)) n ∧ smN (fun c => bcZ (op c)) n ≤ 4 * n
  | 0 => ⟨Int.le_refl 0, by show (0 : Int) ≤ 4 * 0; decide⟩
  | n + 1 => by
    have ih := bcS_n h n
    have h2 := bcZ_b (h n).1 (h n).2
    unfold smN
    omega
theorem bcS_b {op lk kp wc : Int → Int} {pn nw : Int} (h : BI op lk kp wc pn nw) : 0 ≤ smK (fun c => bcZ (op c)) 25 ∧ smK (fun c => bcZ (op c)) 25 ≤ 100 := bcS_n h.1 25
set_option maxRecDepth 100000 in
set_option maxHeartbeats 4000000 in
theorem s_regionCount (l : Launch) (E : xE) (ST : xST) (hSF : SF ST) (hSX : SX ST) (htr : l.stackTraces = false) {n : Int} {σ : xW} (hn : 0 ≤ n ∧ n ≤ 600) (hI : INV n E σ)  : ∃ P : Int → xW → Prop, CI l E ST yX6_regionCount wsX6_regionCount rm_X6_regionCount [.ref (xad E 0)] σ P ∧ ∀ (k : Int) (u : xW), P k u → (∃ fs : List Value, u 85 = oB 5 fs) ∧ ∃ Q : Int → xW → Prop, CI l E ST yX7_regionCount wsX7_regionCount rm_X7_regionCount [.ref (xad E 85)] u Q ∧ ∀ (b : Int) (t : xW), Q b t → b = k ∧ INV (n + 1) E t := by
  obtain ⟨th, hth, hv, se, sf, ll, nx, ct, B, S, HB, tx, ln, lq, sv, re, ea, fa, ty, li, v, vs, hF, lf, hC, hM, hO, hK⟩ := hI
  obtain ⟨op, lk, kp, wc, pn, nw, sh, wk⟩ := B
  obtain ⟨c0, c1, c2, ⟨X7, c3⟩, ⟨X13, c4⟩, c5, c6, ⟨le, rl, fs, qu, gr, c7⟩, ⟨cs, cm, va, c8, c9⟩, c10⟩ := id hC
  have c2 : bd E σ 1 op lk kp wc pn nw sh wk := c2
  obtain ⟨⟨hB, hCp, ⟨hsh0, hsh1⟩, hwk0, hwk1⟩, ⟨hsv, hS9⟩, ⟨hnx, hct, hre, hhr, hHi⟩, ⟨hea, hfa, hse, hsf⟩, ⟨hty, hln, htx⟩, hli, hll, hlqf, hlq, hlf⟩ := id hK
  have hB : BI op lk kp wc pn nw := hB
  have hCp : Cp v op lk kp wc pn nw sh wk := hCp
  have hsh0 : 0 ≤ sh := hsh0
  have hsh1 : sh ≤ 1000 * n := hsh1
  have hwk0 : 0 ≤ wk := hwk0
  have hwk1 : wk ≤ 1000 * n := hwk1
  have hhb := hsl_rg hnx.1 hnx.2
  have hnw : 0 ≤ nw ∧ nw ≤ 3 := hB.2.2.2.2.2
  have hse9 : rg se := ⟨by omega, by omega⟩
  have hsf9 : rg sf := ⟨by omega, by omega⟩
  have hea9 : rg ea := ⟨by omega, by omega⟩
  have hfa9 : rg fa := ⟨by omega, by omega⟩
  refine ⟨_, (c_X6_regionCount l E ST hSF σ _ _ _ _ _ _ _ _ _ _ _ _ _ _ _ _ _ c0 c2 c7 hB), ?_⟩
  intro k u hp
  obtain ⟨hkR, ⟨le1, rl1, fs1, qu1, gr1, q0, q2, q5⟩, fr0⟩ := hp
  have hC2 : CLS E u hv se sf ll nx ct (op, lk, kp, wc, pn, nw, sh, wk) S HB tx ln lq := CLS.sq hC ⟨_, _, _, _, _, q5⟩ (fun j hj h => fr0 j h)
  have hM2 := hM.fr (u := u) (fun j h0 h1 => fr0 j (by omega))
  have hO2 : OUT E u := hO.fr (fun j h => fr0 j (by omega))
  obtain ⟨⟨sz, sp, wr, to, m0⟩, m1, ⟨w2, m2⟩, ⟨w3, m3⟩, m4, m5, ⟨w6, m6⟩, ⟨F9, m7, m7r⟩, m8, m9, nu, m10, m11⟩ := hM2
  refine ⟨⟨_, m0⟩, _, (c_X7_regionCount l E ST hSF u _ _ _ _ _ _ _ _ _ _ _ _ _ _ _ _ _ _ _ _ _ m0 m1 m7 hCp hB m7r), ?_⟩
  intro b t hq
  obtain ⟨qb, ⟨F1, a0, a1, a7, a7r⟩, fr⟩ := hq
  have hM3 : MDL E t sv re ea fa ty li 0 v vs hF tx lf := ⟨⟨_, _, _, _, a0⟩, a1, ⟨_, (fr 87 (by omega) (by omega)).trans m2⟩, ⟨_, (fr 88 (by omega) (by omega)).trans m3⟩, (fr 89 (by omega) (by omega)).trans m4, (fr 90 (by omega) (by omega)).trans m5, ⟨_, (fr 91 (by omega) (by omega)).trans m6⟩, ⟨_, a7, a7r⟩, (fr 93 (by omega) (by omega)).trans m8, (fr 94 (by omega) (by omega)).trans m9, _, (fr 95 (by omega) (by omega)).trans m10, m11⟩
  exact ⟨qb.trans hkR.symm, ⟨0, by decide, hv, se, sf, ll, nx, ct, _, S, HB, tx, ln, lq, sv, re, ea, fa, ty, li, v, vs, hF, lf, hC2.fr (fun j h => fr j (by omega) (by omega)), hM3, hO2.fr (fun j h => fr j (by omega) (by omega)), hK.up⟩⟩
set_option maxRecDepth 100000 in
set_option maxHeartbeats 4000000 in
theorem s_regionCountByMerging (l : Launch) (E : xE) (ST : xST) (hSF : SF ST) (hSX : SX ST) (htr : l.stackTraces = false) {n : Int} {σ : xW} (hn : 0 ≤ n ∧ n ≤ 600) (hI : INV n E σ)  : ∃ P : Int → xW → Prop, CI l E ST yX6_regionCountByMerging wsX6_regionCountByMerging rm_X6_regionCountByMerging [.ref (xad E 0)] σ P ∧ ∀ (k : Int) (u : xW), P k u → (∃ fs : List Value, u 85 = oB 5 fs) ∧ ∃ Q : Int → xW → Prop, CI l E ST yX7_regionCountByMerging wsX7_regionCountByMerging rm_X7_regionCountByMerging [.ref (xad E 85)] u Q ∧ ∀ (b : Int) (t : xW), Q b t → b = k ∧ INV (n + 1) E t := by
  obtain ⟨th, hth, hv, se, sf, ll, nx, ct, B, S, HB, tx, ln, lq, sv, re, ea, fa, ty, li, v, vs, hF, lf, hC, hM, hO, hK⟩ := hI
  obtain ⟨op, lk, kp, wc, pn, nw, sh, wk⟩ := B
  obtain ⟨c0, c1, c2, ⟨X7, c3⟩, ⟨X13, c4⟩, c5, c6, ⟨le, rl, fs, qu, gr, c7⟩, ⟨cs, cm, va, c8, c9⟩, c10⟩ := id hC
  have c2 : bd E σ 1 op lk kp wc pn nw sh wk := c2
  obtain ⟨⟨hB, hCp, ⟨hsh0, hsh1⟩, hwk0, hwk1⟩, ⟨hsv, hS9⟩, ⟨hnx, hct, hre, hhr, hHi⟩, ⟨hea, hfa, hse, hsf⟩, ⟨hty, hln, htx⟩, hli, hll, hlqf, hlq, hlf⟩ := id hK
  have hB : BI op lk kp wc pn nw := hB
  have hCp : Cp v op lk kp wc pn nw sh wk := hCp
  have hsh0 : 0 ≤ sh := hsh0
  have hsh1 : sh ≤ 1000 * n := hsh1
  have hwk0 : 0 ≤ wk := hwk0
  have hwk1 : wk ≤ 1000 * n := hwk1
  have hhb := hsl_rg hnx.1 hnx.2
  have hnw : 0 ≤ nw ∧ nw ≤ 3 := hB.2.2.2.2.2
  have hse9 : rg se := ⟨by omega, by omega⟩
  have hsf9 : rg sf := ⟨by omega, by omega⟩
  have hea9 : rg ea := ⟨by omega, by omega⟩
  have hfa9 : rg fa := ⟨by omega, by omega⟩
  refine ⟨_, (c_X6_regionCountByMerging l E ST hSF σ _ _ _ _ _ _ _ _ _ _ _ _ _ _ _ _ _ c0 c2 c7 hB), ?_⟩
  intro k u hp
  obtain ⟨hkR, ⟨le1, rl1, fs1, qu1, gr1, q0, q2, q5⟩, fr0⟩ := hp
  have hC2 : CLS E u hv se sf ll nx ct (op, lk, kp, wc, pn, nw, sh, wk) S HB tx ln lq := CLS.sq hC ⟨_, _, _, _, _, q5⟩ (fun j hj h => fr0 j h)
  have hM2 := hM.fr (u := u) (fun j h0 h1 => fr0 j (by omega))
  have hO2 : OUT E u := hO.fr (fun j h => fr0 j (by omega))
  obtain ⟨⟨sz, sp, wr, to, m0⟩, m1, ⟨w2, m2⟩, ⟨w3, m3⟩, m4, m5, ⟨w6, m6⟩, ⟨F9, m7, m7r⟩, m8, m9, nu, m10, m11⟩ := hM2
  refine ⟨⟨_, m0⟩, _, (c_X7_regionCountByMerging l E ST hSF u _ _ _ _ _ _ _ _ _ _ _ _ _ _ _ _ _ _ _ _ _ m0 m1 m7 hCp hB m7r), ?_⟩
  intro b t hq
  obtain ⟨qb, ⟨F1, a0, a1, a7, a7r⟩, fr⟩ := hq
  have hM3 : MDL E t sv re ea fa ty li 0 v vs hF tx lf := ⟨⟨_, _, _, _, a0⟩, a1, ⟨_, (fr 87 (by omega) (by omega)).trans m2⟩, ⟨_, (fr 88 (by omega) (by omega)).trans m3⟩, (fr 89 (by omega) (by omega)).trans m4, (fr 90 (by omega) (by omega)).trans m5, ⟨_, (fr 91 (by omega) (by omega)).trans m6⟩, ⟨_, a7, a7r⟩, (fr 93 (by omega) (by omega)).trans m8, (fr 94 (by omega) (by omega)).trans m9, _, (fr 95 (by omega) (by omega)).trans m10, m11⟩
  exact ⟨qb.trans hkR.symm, ⟨0, by decide, hv, se, sf, ll, nx, ct, _, S, HB, tx, ln, lq, sv, re, ea, fa, ty, li, v, vs, hF, lf, hC2.fr (fun j h => fr j (by omega) (by omega)), hM3, hO2.fr (fun j h => fr j (by omega) (by omega)), hK.up⟩⟩
set_option maxRecDepth 100000 in
set_option maxHeartbeats 4000000 in
theorem s_walkerCount (l : Launch) (E : xE) (ST : xST) (hSF : SF ST) (hSX : SX ST) (htr : l.stackTraces = false) {n : Int} {σ : xW} (hn : 0 ≤ n ∧ n ≤ 600) (hI : INV n E σ)  : ∃ P : Int → xW → Prop, CI l E ST yX6_walkerCount wsX6_walkerCount rm_X6_walkerCount [.ref (xad E 0)] σ P ∧ ∀ (k : Int) (u : xW), P k u → (∃ fs : List Value, u 85 = oB 5 fs) ∧ ∃ Q : Int → xW → Prop, CI l E ST yX7_walkerCount wsX7_walkerCount rm_X7_walkerCount [.ref (xad E 85)] u Q ∧ ∀ (b : Int) (t : xW), Q b t → b = k ∧ INV (n + 1) E t := by
  obtain ⟨th, hth, hv, se, sf, ll, nx, ct, B, S, HB, tx, ln, lq, sv, re, ea, fa, ty, li, v, vs, hF, lf, hC, hM, hO, hK⟩ := hI
  obtain ⟨op, lk, kp, wc, pn, nw, sh, wk⟩ := B
  obtain ⟨c0, c1, c2, ⟨X7, c3⟩, ⟨X13, c4⟩, c5, c6, ⟨le, rl, fs, qu, gr, c7⟩, ⟨cs, cm, va, c8, c9⟩, c10⟩ := id hC
  have c2 : bd E σ 1 op lk kp wc pn nw sh wk := c2
  obtain ⟨⟨hB, hCp, ⟨hsh0, hsh1⟩, hwk0, hwk1⟩, ⟨hsv, hS9⟩, ⟨hnx, hct, hre, hhr, hHi⟩, ⟨hea, hfa, hse, hsf⟩, ⟨hty, hln, htx⟩, hli, hll, hlqf, hlq, hlf⟩ := id hK
  have hB : BI op lk kp wc pn nw := hB
  have hCp : Cp v op lk kp wc pn nw sh wk := hCp
  have hsh0 : 0 ≤ sh := hsh0
  have hsh1 : sh ≤ 1000 * n := hsh1
  have hwk0 : 0 ≤ wk := hwk0
  have hwk1 : wk ≤ 1000 * n := hwk1
  have hhb := hsl_rg hnx.1 hnx.2
  have hnw : 0 ≤ nw ∧ nw ≤ 3 := hB.2.2.2.2.2
  have hse9 : rg se := ⟨by omega, by omega⟩
  have hsf9 : rg sf := ⟨by omega, by omega⟩
  have hea9 : rg ea := ⟨by omega, by omega⟩
  have hfa9 : rg fa := ⟨by omega, by omega⟩
  refine ⟨_, (c_X6_walkerCount l E ST hSF σ _ _ _ _ _ _ _ _ _ _ _ _ c0 c2), ?_⟩
  intro k u hp
  obtain ⟨hkR, hu⟩ := hp
  have hC2 : CLS E u hv se sf ll nx ct (op, lk, kp, wc, pn, nw, sh, wk) S HB tx ln lq := by rw [hu]; exact hC
  have hM2 := hM.fr (u := u) (fun j h0 h1 => by rw [hu])
  have hO2 : OUT E u := by rw [hu]; exact hO
  obtain ⟨⟨sz, sp, wr, to, m0⟩, m1, ⟨w2, m2⟩, ⟨w3, m3⟩, m4, m5, ⟨w6, m6⟩, ⟨F9, m7, m7r⟩, m8, m9, nu, m10, m11⟩ := hM2
  refine ⟨⟨_, m0⟩, _, (c_X7_walkerCount l E ST hSF u _ _ _ _ _ _ _ _ _ _ _ _ _ _ _ _ _ _ _ _ m0 m1 hCp hB), ?_⟩
  intro b t hq
  obtain ⟨qb, ⟨a0, a1⟩, fr⟩ := hq
  have hM3 : MDL E t sv re ea fa ty li 0 v vs hF tx lf := ⟨⟨_, _, _, _, a0⟩, a1, ⟨_, (fr 87 (by omega)).trans m2⟩, ⟨_, (fr 88 (by omega)).trans m3⟩, (fr 89 (by omega)).trans m4, (fr 90 (by omega)).trans m5, ⟨_, (fr 91 (by omega)).trans m6⟩, ⟨_, (fr 92 (by omega)).trans m7, m7r⟩, (fr 93 (by omega)).trans m8, (fr 94 (by omega)).trans m9, _, (fr 95 (by omega)).trans m10, m11⟩
  exact ⟨qb.trans hkR.symm, ⟨0, by decide, hv, se, sf, ll, nx, ct, _, S, HB, tx, ln, lq, sv, re, ea, fa, ty, li, v, vs, hF, lf, hC2.fr (fun j h => fr j (by omega)), hM3, hO2.fr (fun j h => fr j (by omega)), hK.up⟩⟩
set_option maxRecDepth 100000 in
set_option maxHeartbeats 4000000 in
theorem s_shiftCount (l : Launch) (E : xE) (ST : xST) (hSF : SF ST) (hSX : SX ST) (htr : l.stackTraces = false) {n : Int} {σ : xW} (hn : 0 ≤ n ∧ n ≤ 600) (hI : INV n E σ)  : ∃ P : Int → xW → Prop, CI l E ST yX6_shiftCount wsX6_shiftCount rm_X6_shiftCount [.ref (xad E 0)] σ P ∧ ∀ (k : Int) (u : xW), P k u → (∃ fs : List Value, u 85 = oB 5 fs) ∧ ∃ Q : Int → xW → Prop, CI l E ST yX7_shiftCount wsX7_shiftCount rm_X7_shiftCount [.ref (xad E 85)] u Q ∧ ∀ (b : Int) (t : xW), Q b t → b = k ∧ INV (n + 1) E t := by
  obtain ⟨th, hth, hv, se, sf, ll, nx, ct, B, S, HB, tx, ln, lq, sv, re, ea, fa, ty, li, v, vs, hF, lf, hC, hM, hO, hK⟩ := hI
  obtain ⟨op, lk, kp, wc, pn, nw, sh, wk⟩ := B
  obtain ⟨c0, c1, c2, ⟨X7, c3⟩, ⟨X13, c4⟩, c5, c6, ⟨le, rl, fs, qu, gr, c7⟩, ⟨cs, cm, va, c8, c9⟩, c10⟩ := id hC
  have c2 : bd E σ 1 op lk kp wc pn nw sh wk := c2
  obtain ⟨⟨hB, hCp, ⟨hsh0, hsh1⟩, hwk0, hwk1⟩, ⟨hsv, hS9⟩, ⟨hnx, hct, hre, hhr, hHi⟩, ⟨hea, hfa, hse, hsf⟩, ⟨hty, hln, htx⟩, hli, hll, hlqf, hlq, hlf⟩ := id hK
  have hB : BI op lk kp wc pn nw := hB
  have hCp : Cp v op lk kp wc pn nw sh wk := hCp
  have hsh0 : 0 ≤ sh := hsh0
  have hsh1 : sh ≤ 1000 * n := hsh1
  have hwk0 : 0 ≤ wk := hwk0
  have hwk1 : wk ≤ 1000 * n := hwk1
  have hhb := hsl_rg hnx.1 hnx.2
  have hnw : 0 ≤ nw ∧ nw ≤ 3 := hB.2.2.2.2.2
  have hse9 : rg se := ⟨by omega, by omega⟩
  have hsf9 : rg sf := ⟨by omega, by omega⟩
  have hea9 : rg ea := ⟨by omega, by omega⟩
  have hfa9 : rg fa := ⟨by omega, by omega⟩
  refine ⟨_, (c_X6_shiftCount l E ST hSF σ _ _ _ _ _ _ _ _ _ _ _ _ c0 c2), ?_⟩
  intro k u hp
  obtain ⟨hkR, hu⟩ := hp
  have hC2 : CLS E u hv se sf ll nx ct (op, lk, kp, wc, pn, nw, sh, wk) S HB tx ln lq := by rw [hu]; exact hC
  have hM2 := hM.fr (u := u) (fun j h0 h1 => by rw [hu])
  have hO2 : OUT E u := by rw [hu]; exact hO
  obtain ⟨⟨sz, sp, wr, to, m0⟩, m1, ⟨w2, m2⟩, ⟨w3, m3⟩, m4, m5, ⟨w6, m6⟩, ⟨F9, m7, m7r⟩, m8, m9, nu, m10, m11⟩ := hM2
  refine ⟨⟨_, m0⟩, _, (c_X7_shiftCount l E ST hSF u _ _ _ _ _ _ _ _ _ _ _ _ _ _ _ _ _ _ _ _ m0 m1 hCp hB), ?_⟩
  intro b t hq
  obtain ⟨qb, ⟨a0, a1⟩, fr⟩ := hq
  have hM3 : MDL E t sv re ea fa ty li 0 v vs hF tx lf := ⟨⟨_, _, _, _, a0⟩, a1, ⟨_, (fr 87 (by omega)).trans m2⟩, ⟨_, (fr 88 (by omega)).trans m3⟩, (fr 89 (by omega)).trans m4, (fr 90 (by omega)).trans m5, ⟨_, (fr 91 (by omega)).trans m6⟩, ⟨_, (fr 92 (by omega)).trans m7, m7r⟩, (fr 93 (by omega)).trans m8, (fr 94 (by omega)).trans m9, _, (fr 95 (by omega)).trans m10, m11⟩
  exact ⟨qb.trans hkR.symm, ⟨0, by decide, hv, se, sf, ll, nx, ct, _, S, HB, tx, ln, lq, sv, re, ea, fa, ty, li, v, vs, hF, lf, hC2.fr (fun j h => fr j (by omega)), hM3, hO2.fr (fun j h => fr j (by omega)), hK.up⟩⟩
set_option maxRecDepth 100000 in
set_option maxHeartbeats 4000000 in
theorem s_walkedTotal (l : Launch) (E : xE) (ST : xST) (hSF : SF ST) (hSX : SX ST) (htr : l.stackTraces = false) {n : Int} {σ : xW} (hn : 0 ≤ n ∧ n ≤ 600) (hI : INV n E σ)  : ∃ P : Int64 → xW → Prop, CL l E ST yX6_walkedTotal wsX6_walkedTotal rm_X6_walkedTotal [.ref (xad E 0)] σ P ∧ ∀ (k : Int64) (u : xW), P k u → (∃ fs : List Value, u 85 = oB 5 fs) ∧ ∃ Q : Int64 → xW → Prop, CL l E ST yX7_walkedTotal wsX7_walkedTotal rm_X7_walkedTotal [.ref (xad E 85)] u Q ∧ ∀ (b : Int64) (t : xW), Q b t → b = k ∧ INV (n + 1) E t := by
  obtain ⟨th, hth, hv, se, sf, ll, nx, ct, B, S, HB, tx, ln, lq, sv, re, ea, fa, ty, li, v, vs, hF, lf, hC, hM, hO, hK⟩ := hI
  obtain ⟨op, lk, kp, wc, pn, nw, sh, wk⟩ := B
  obtain ⟨c0, c1, c2, ⟨X7, c3⟩, ⟨X13, c4⟩, c5, c6, ⟨le, rl, fs, qu, gr, c7⟩, ⟨cs, cm, va, c8, c9⟩, c10⟩ := id hC
  have c2 : bd E σ 1 op lk kp wc pn nw sh wk := c2
  obtain ⟨⟨hB, hCp, ⟨hsh0, hsh1⟩, hwk0, hwk1⟩, ⟨hsv, hS9⟩, ⟨hnx, hct, hre, hhr, hHi⟩, ⟨hea, hfa, hse, hsf⟩, ⟨hty, hln, htx⟩, hli, hll, hlqf, hlq, hlf⟩ := id hK
  have hB : BI op lk kp wc pn nw := hB
  have hCp : Cp v op lk kp wc pn nw sh wk := hCp
  have hsh0 : 0 ≤ sh := hsh0
  have hsh1 : sh ≤ 1000 * n := hsh1
  have hwk0 : 0 ≤ wk := hwk0
  have hwk1 : wk ≤ 1000 * n := hwk1
  have hhb := hsl_rg hnx.1 hnx.2
  have hnw : 0 ≤ nw ∧ nw ≤ 3 := hB.2.2.2.2.2
  have hse9 : rg se := ⟨by omega, by omega⟩
  have hsf9 : rg sf := ⟨by omega, by omega⟩
  have hea9 : rg ea := ⟨by omega, by omega⟩
  have hfa9 : rg fa := ⟨by omega, by omega⟩
  refine ⟨_, (c_X6_walkedTotal l E ST hSF σ _ _ _ _ _ _ _ _ _ _ _ _ c0 c2), ?_⟩
  intro k u hp
  obtain ⟨hkR, hu⟩ := hp
  have hC2 : CLS E u hv se sf ll nx ct (op, lk, kp, wc, pn, nw, sh, wk) S HB tx ln lq := by rw [hu]; exact hC
  have hM2 := hM.fr (u := u) (fun j h0 h1 => by rw [hu])
  have hO2 : OUT E u := by rw [hu]; exact hO
  obtain ⟨⟨sz, sp, wr, to, m0⟩, m1, ⟨w2, m2⟩, ⟨w3, m3⟩, m4, m5, ⟨w6, m6⟩, ⟨F9, m7, m7r⟩, m8, m9, nu, m10, m11⟩ := hM2
  refine ⟨⟨_, m0⟩, _, (c_X7_walkedTotal l E ST hSF u _ _ _ _ _ _ _ _ _ _ _ _ _ _ _ _ _ _ _ _ m0 m1 hCp hB), ?_⟩
  intro b t hq
  obtain ⟨qb, ⟨a0, a1⟩, fr⟩ := hq
  have hM3 : MDL E t sv re ea fa ty li 0 v vs hF tx lf := ⟨⟨_, _, _, _, a0⟩, a1, ⟨_, (fr 87 (by omega)).trans m2⟩, ⟨_, (fr 88 (by omega)).trans m3⟩, (fr 89 (by omega)).trans m4, (fr 90 (by omega)).trans m5, ⟨_, (fr 91 (by omega)).trans m6⟩, ⟨_, (fr 92 (by omega)).trans m7, m7r⟩, (fr 93 (by omega)).trans m8, (fr 94 (by omega)).trans m9, _, (fr 95 (by omega)).trans m10, m11⟩
  exact ⟨qb.trans hkR.symm, ⟨0, by decide, hv, se, sf, ll, nx, ct, _, S, HB, tx, ln, lq, sv, re, ea, fa, ty, li, v, vs, hF, lf, hC2.fr (fun j h => fr j (by omega)), hM3, hO2.fr (fun j h => fr j (by omega)), hK.up⟩⟩
set_option maxRecDepth 100000 in
set_option maxHeartbeats 4000000 in
theorem s_meanOpenings (l : Launch) (E : xE) (ST : xST) (hSF : SF ST) (hSX : SX ST) (htr : l.stackTraces = false) {n : Int} {σ : xW} (hn : 0 ≤ n ∧ n ≤ 600) (hI : INV n E σ)  : ∃ P : UInt64 → xW → Prop, CD l E ST yX6_meanOpenings wsX6_meanOpenings rm_X6_meanOpenings [.ref (xad E 0)] σ P ∧ ∀ (k : UInt64) (u : xW), P k u → (∃ fs : List Value, u 85 = oB 5 fs) ∧ ∃ Q : UInt64 → xW → Prop, CD l E ST yX7_meanOpenings wsX7_meanOpenings rm_X7_meanOpenings [.ref (xad E 85)] u Q ∧ ∀ (b : UInt64) (t : xW), Q b t → b = k ∧ INV (n + 1) E t ∧ Op.cmpValue (FP.dcmp k k) .l = 0 := by
  obtain ⟨th, hth, hv, se, sf, ll, nx, ct, B, S, HB, tx, ln, lq, sv, re, ea, fa, ty, li, v, vs, hF, lf, hC, hM, hO, hK⟩ := hI
  obtain ⟨op, lk, kp, wc, pn, nw, sh, wk⟩ := B
  obtain ⟨c0, c1, c2, ⟨X7, c3⟩, ⟨X13, c4⟩, c5, c6, ⟨le, rl, fs, qu, gr, c7⟩, ⟨cs, cm, va, c8, c9⟩, c10⟩ := id hC
  have c2 : bd E σ 1 op lk kp wc pn nw sh wk := c2
  obtain ⟨⟨hB, hCp, ⟨hsh0, hsh1⟩, hwk0, hwk1⟩, ⟨hsv, hS9⟩, ⟨hnx, hct, hre, hhr, hHi⟩, ⟨hea, hfa, hse, hsf⟩, ⟨hty, hln, htx⟩, hli, hll, hlqf, hlq, hlf⟩ := id hK
  have hB : BI op lk kp wc pn nw := hB
  have hCp : Cp v op lk kp wc pn nw sh wk := hCp
  have hsh0 : 0 ≤ sh := hsh0
  have hsh1 : sh ≤ 1000 * n := hsh1
  have hwk0 : 0 ≤ wk := hwk0
  have hwk1 : wk ≤ 1000 * n := hwk1
  have hhb := hsl_rg hnx.1 hnx.2
  have hnw : 0 ≤ nw ∧ nw ≤ 3 := hB.2.2.2.2.2
  have hse9 : rg se := ⟨by omega, by omega⟩
  have hsf9 : rg sf := ⟨by omega, by omega⟩
  have hea9 : rg ea := ⟨by omega, by omega⟩
  have hfa9 : rg fa := ⟨by omega, by omega⟩
  refine ⟨_, (c_X6_meanOpenings l E ST hSF σ _ _ _ _ _ _ _ _ _ _ _ _ c0 c2 hB), ?_⟩
  intro k u hp
  obtain ⟨hkR, hu⟩ := hp
  have hC2 : CLS E u hv se sf ll nx ct (op, lk, kp, wc, pn, nw, sh, wk) S HB tx ln lq := by rw [hu]; exact hC
  have hM2 := hM.fr (u := u) (fun j h0 h1 => by rw [hu])
  have hO2 : OUT E u := by rw [hu]; exact hO
  obtain ⟨⟨sz, sp, wr, to, m0⟩, m1, ⟨w2, m2⟩, ⟨w3, m3⟩, m4, m5, ⟨w6, m6⟩, ⟨F9, m7, m7r⟩, m8, m9, nu, m10, m11⟩ := hM2
  refine ⟨⟨_, m0⟩, _, (c_X7_meanOpenings l E ST hSF u _ _ _ _ _ _ _ _ _ _ _ _ _ _ _ _ _ _ _ _ m0 m1 hCp hB), ?_⟩
  intro b t hq
  obtain ⟨qb, ⟨a0, a1⟩, fr⟩ := hq
  have hM3 : MDL E t sv re ea fa ty li 0 v vs hF tx lf := ⟨⟨_, _, _, _, a0⟩, a1, ⟨_, (fr 87 (by omega)).trans m2⟩, ⟨_, (fr 88 (by omega)).trans m3⟩, (fr 89 (by omega)).trans m4, (fr 90 (by omega)).trans m5, ⟨_, (fr 91 (by omega)).trans m6⟩, ⟨_, (fr 92 (by omega)).trans m7, m7r⟩, (fr 93 (by omega)).trans m8, (fr 94 (by omega)).trans m9, _, (fr 95 (by omega)).trans m10, m11⟩
  exact ⟨qb.trans hkR.symm, ⟨0, by decide, hv, se, sf, ll, nx, ct, _, S, HB, tx, ln, lq, sv, re, ea, fa, ty, li, v, vs, hF, lf, hC2.fr (fun j h => fr j (by omega)), hM3, hO2.fr (fun j h => fr j (by omega)), hK.up⟩, by rw [hkR]; exact meX (bcS_b hB)⟩
set_option maxRecDepth 100000 in
set_option maxHeartbeats 4000000 in
theorem s_isConsistent (l : Launch) (E : xE) (ST : xST) (hSF : SF ST) (hSX : SX ST) (htr : l.stackTraces = false) {n : Int} {σ : xW} (hn : 0 ≤ n ∧ n ≤ 600) (hI : INV n E σ)  : ∃ P : Int → xW → Prop, CI l E ST yX6_isConsistent wsX6_isConsistent rm_X6_isConsistent [.ref (xad E 0)] σ P ∧ ∀ (k : Int) (u : xW), P k u → (∃ fs : List Value, u 85 = oB 5 fs) ∧ ∃ Q : Int → xW → Prop, CI l E ST yX7_isConsistent wsX7_isConsistent rm_X7_isConsistent [.ref (xad E 85)] u Q ∧ ∀ (b : Int) (t : xW), Q b t → b = k ∧ INV (n + 1) E t := by
  obtain ⟨th, hth, hv, se, sf, ll, nx, ct, B, S, HB, tx, ln, lq, sv, re, ea, fa, ty, li, v, vs, hF, lf, hC, hM, hO, hK⟩ := hI
  obtain ⟨op, lk, kp, wc, pn, nw, sh, wk⟩ := B
  obtain ⟨c0, c1, c2, ⟨X7, c3⟩, ⟨X13, c4⟩, c5, c6, ⟨le, rl, fs, qu, gr, c7⟩, ⟨cs, cm, va, c8, c9⟩, c10⟩ := id hC
  have c2 : bd E σ 1 op lk kp wc pn nw sh wk := c2
  obtain ⟨⟨hB, hCp, ⟨hsh0, hsh1⟩, hwk0, hwk1⟩, ⟨hsv, hS9⟩, ⟨hnx, hct, hre, hhr, hHi⟩, ⟨hea, hfa, hse, hsf⟩, ⟨hty, hln, htx⟩, hli, hll, hlqf, hlq, hlf⟩ := id hK
  have hB : BI op lk kp wc pn nw := hB
  have hCp : Cp v op lk kp wc pn nw sh wk := hCp
  have hsh0 : 0 ≤ sh := hsh0
  have hsh1 : sh ≤ 1000 * n := hsh1
  have hwk0 : 0 ≤ wk := hwk0
  have hwk1 : wk ≤ 1000 * n := hwk1
  have hhb := hsl_rg hnx.1 hnx.2
  have hnw : 0 ≤ nw ∧ nw ≤ 3 := hB.2.2.2.2.2
  have hse9 : rg se := ⟨by omega, by omega⟩
  have hsf9 : rg sf := ⟨by omega, by omega⟩
  have hea9 : rg ea := ⟨by omega, by omega⟩
  have hfa9 : rg fa := ⟨by omega, by omega⟩
  refine ⟨_, (c_X6_isConsistent l E ST hSF σ _ _ _ _ _ _ _ _ _ _ _ _ _ _ _ _ _ c0 c2 c7 hB), ?_⟩
  intro k u hp
  obtain ⟨hkR, ⟨le1, rl1, fs1, qu1, gr1, q0, q2, q5⟩, fr0⟩ := hp
  have hC2 : CLS E u hv se sf ll nx ct (op, lk, kp, wc, pn, nw, sh, wk) S HB tx ln lq := CLS.sq hC ⟨_, _, _, _, _, q5⟩ (fun j hj h => fr0 j h)
  have hM2 := hM.fr (u := u) (fun j h0 h1 => fr0 j (by omega))
  have hO2 : OUT E u := hO.fr (fun j h => fr0 j (by omega))
  obtain ⟨⟨sz, sp, wr, to, m0⟩, m1, ⟨w2, m2⟩, ⟨w3, m3⟩, m4, m5, ⟨w6, m6⟩, ⟨F9, m7, m7r⟩, m8, m9, nu, m10, m11⟩ := hM2
  refine ⟨⟨_, m0⟩, _, (c_X7_isConsistent l E ST hSF u _ _ _ _ _ _ _ _ _ _ _ _ _ _ _ _ _ _ _ _ m0 m1 hCp hB), ?_⟩
  intro b t hq
  obtain ⟨qb, ⟨a0, a1⟩, fr⟩ := hq
  have hM3 : MDL E t sv re ea fa ty li 0 v vs hF tx lf := ⟨⟨_, _, _, _, a0⟩, a1, ⟨_, (fr 87 (by omega)).trans m2⟩, ⟨_, (fr 88 (by omega)).trans m3⟩, (fr 89 (by omega)).trans m4, (fr 90 (by omega)).trans m5, ⟨_, (fr 91 (by omega)).trans m6⟩, ⟨_, (fr 92 (by omega)).trans m7, m7r⟩, (fr 93 (by omega)).trans m8, (fr 94 (by omega)).trans m9, _, (fr 95 (by omega)).trans m10, m11⟩
  exact ⟨qb.trans hkR.symm, ⟨0, by decide, hv, se, sf, ll, nx, ct, _, S, HB, tx, ln, lq, sv, re, ea, fa, ty, li, v, vs, hF, lf, hC2.fr (fun j h => fr j (by omega)), hM3, hO2.fr (fun j h => fr j (by omega)), hK.up⟩⟩
set_option maxRecDepth 100000 in
set_option maxHeartbeats 4000000 in
theorem s_reachableShare (l : Launch) (E : xE) (ST : xST) (hSF : SF ST) (hSX : SX ST) (htr : l.stackTraces = false) {n : Int} {σ : xW} (hn : 0 ≤ n ∧ n ≤ 600) (hI : INV n E σ) (p0 : Int) (r0 : rg p0) : ∃ P : Int → xW → Prop, CI l E ST yL_reachableShare wsL_reachableShare rm_L_reachableShare [.ref (xad E 0), .int (iZ p0), .ref (xad E 97)] σ P ∧ ∀ (k : Int) (u : xW), P k u → (∃ fs : List Value, u 85 = oB 5 fs) ∧ ∃ Q : UInt32 → xW → Prop, CF l E ST yX7_reachableShare wsX7_reachableShare rm_X7_reachableShare [.ref (xad E 85), .int (iZ p0)] u Q ∧ ∀ (b : UInt32) (t : xW), Q b t → FINF n E t k b := by
  obtain ⟨th, hth, hv, se, sf, ll, nx, ct, B, S, HB, tx, ln, lq, sv, re, ea, fa, ty, li, v, vs, hF, lf, hC, hM, hO, hK⟩ := hI
  obtain ⟨op, lk, kp, wc, pn, nw, sh, wk⟩ := B
  obtain ⟨c0, c1, c2, ⟨X7, c3⟩, ⟨X13, c4⟩, c5, c6, ⟨le, rl, fs, qu, gr, c7⟩, ⟨cs, cm, va, c8, c9⟩, c10⟩ := id hC
  have c2 : bd E σ 1 op lk kp wc pn nw sh wk := c2
  obtain ⟨⟨hB, hCp, ⟨hsh0, hsh1⟩, hwk0, hwk1⟩, ⟨hsv, hS9⟩, ⟨hnx, hct, hre, hhr, hHi⟩, ⟨hea, hfa, hse, hsf⟩, ⟨hty, hln, htx⟩, hli, hll, hlqf, hlq, hlf⟩ := id hK
  have hB : BI op lk kp wc pn nw := hB
  have hCp : Cp v op lk kp wc pn nw sh wk := hCp
  have hsh0 : 0 ≤ sh := hsh0
  have hsh1 : sh ≤ 1000 * n := hsh1
  have hwk0 : 0 ≤ wk := hwk0
  have hwk1 : wk ≤ 1000 * n := hwk1
  have hhb := hsl_rg hnx.1 hnx.2
  have hnw : 0 ≤ nw ∧ nw ≤ 3 := hB.2.2.2.2.2
  have hse9 : rg se := ⟨by omega, by omega⟩
  have hsf9 : rg sf := ⟨by omega, by omega⟩
  have hea9 : rg ea := ⟨by omega, by omega⟩
  have hfa9 : rg fa := ⟨by omega, by omega⟩
  have hcb := cnbK_b (P := fun c => decide (dz (Gw op lk kp p0) (wc p0) c < 25)) (n := 25) (by decide)
  have hn64 : vf_n64 (FP.f2d (shF (cnbK (fun c => decide (dz (Gw op lk kp p0) (wc p0) c < 25)) 25))) := shD_n hcb.1 hcb.2
  refine ⟨_, c_L_reachableShare l E ST hSF hSX σ p0 (c_X6_reachableShare l E ST hSF htr σ p0 _ _ _ _ _ _ _ _ _ _ _ _ _ _ _ _ _ c0 c2 c7 hB r0) c0 (fun z u h => ⟨_, (h.2.2 97 (by omega)).trans hO.2.choose_spec⟩) (fun z u h => by rw [h.1]; exact hn64) (fun nm u h => h.1.1), ?_⟩
  intro k u hp
  have hm : k = k1 (0 ≤ p0 ∧ p0 < nw) ∧ (k = 0 → u 97 = oD E (FP.f2d (shF (cnbK (fun c => decide (dz (Gw op lk kp p0) (wc p0) c < 25)) 25)))) ∧ CLS E u hv se sf ll nx ct (op, lk, kp, wc, pn, nw, sh, wk) S HB tx ln lq ∧ OUT E u ∧ ∀ j : Nat, 85 ≤ j → j ≠ 97 → u j = σ j := by
    rcases hp with ⟨rfl, z, u0, ⟨hzz, ⟨le1, rl1, fs1, qu1, gr1, q0, q2, q5, f1⟩, fr⟩, e97, f97⟩ | ⟨rfl, hx⟩
    · exact ⟨(k1_0 f1).symm, fun _ => by rw [← hzz]; exact e97, (CLS.sq hC ⟨_, _, _, _, _, q5⟩ (fun j hj h => fr j h)).fr (fun j hj => f97 j (by omega)), hO.putD e97 ((f97 96 (by omega)).trans (fr 96 (by omega))), fun j h0 h1 => (f97 j h1).trans (fr j (by omega))⟩
    · obtain ⟨hq, ⟨le1, rl1, fs1, qu1, gr1, q0, q2, q5⟩, fr⟩ := hx
      obtain ⟨e_, q⟩ := hq
      exact ⟨(k1_1 q).symm, fun h => absurd h (by decide), CLS.sq hC ⟨_, _, _, _, _, q5⟩ (fun j hj h => fr j h), hO.fr (fun j h => fr j (by omega)), fun j h0 h1 => fr j (by omega)⟩
  obtain ⟨hk, h97, hC2, hO2, fr85⟩ := hm
  subst hk
  have hM2 := hM.fr (u := u) (fun j h0 h1 => fr85 j h0 (by omega))
  obtain ⟨⟨sz, sp, wr, to, m0⟩, m1, ⟨w2, m2⟩, ⟨w3, m3⟩, m4, m5, ⟨w6, m6⟩, ⟨F9, m7, m7r⟩, m8, m9, nu, m10, m11⟩ := hM2
  refine ⟨⟨_, m0⟩, _, (c_X7_reachableShare l E ST hSF u p0 _ _ _ _ _ _ _ _ _ _ _ _ _ _ _ _ _ _ _ _ _ m0 m1 m7 hCp hB r0 m7r), ?_⟩
  intro b t hq
  obtain ⟨qb, ⟨F1, a0, a1, a7, a7r⟩, fr⟩ := hq
  have hkb := k1_b (0 ≤ p0 ∧ p0 < nw)
  have hqb : k1 (0 ≤ p0 ∧ p0 < nw) = 0 → b = shF (cnbK (fun c => decide (dz (Gw op lk kp p0) (wc p0) c < 25)) 25) := fun h0 => by rw [qb, if_pos (k1_is.mp h0)]
  exact ⟨⟨hv, se, sf, ll, nx, ct, _, S, HB, tx, ln, lq, sv, re, ea, fa, ty, li, v, vs, hF, lf, hC2.fr (fun j h => fr j (by omega) (by omega)), ⟨⟨_, _, _, _, a0⟩, a1, ⟨_, (fr 87 (by omega) (by omega)).trans m2⟩, ⟨_, (fr 88 (by omega) (by omega)).trans m3⟩, (fr 89 (by omega) (by omega)).trans m4, (fr 90 (by omega) (by omega)).trans m5, ⟨_, (fr 91 (by omega) (by omega)).trans m6⟩, ⟨_, a7, a7r⟩, (fr 93 (by omega) (by omega)).trans m8, (fr 94 (by omega) (by omega)).trans m9, _, (fr 95 (by omega) (by omega)).trans m10, m11⟩, hO2.fr (fun j h => fr j (by omega) (by omega)), hK.up⟩, ⟨by omega, by omega⟩, fun h0 => ⟨by rw [hqb h0]; exact (fr 97 (by omega) (by omega)).trans (h97 h0), by rw [hqb h0]; exact hn64, by rw [hqb h0]; exact shC_n hcb.1 hcb.2⟩⟩
set_option maxRecDepth 100000 in
set_option maxHeartbeats 4000000 in
theorem s_save (l : Launch) (E : xE) (ST : xST) (hSF : SF ST) (hSX : SX ST) (htr : l.stackTraces = false) {n : Int} {σ : xW} (hn : 0 ≤ n ∧ n ≤ 600) (hI : INV n E σ)  : ∃ P : xW → Prop, CV l E ST yX6_save wsX6_save rm_X6_save [.ref (xad E 0)] σ P ∧ ∀ (u : xW), P u → (∃ fs : List Value, u 85 = oB 5 fs) ∧ ∃ Q : xW → Prop, CV l E ST yX7_save wsX7_save rm_X7_save [.ref (xad E 85)] u Q ∧ ∀ (t : xW), Q t → INV (n + 1) E t := by
  obtain ⟨th, hth, hv, se, sf, ll, nx, ct, B, S, HB, tx, ln, lq, sv, re, ea, fa, ty, li, v, vs, hF, lf, hC, hM, hO, hK⟩ := hI
  obtain ⟨op, lk, kp, wc, pn, nw, sh, wk⟩ := B
  obtain ⟨c0, c1, c2, ⟨X7, c3⟩, ⟨X13, c4⟩, c5, c6, ⟨le, rl, fs, qu, gr, c7⟩, ⟨cs, cm, va, c8, c9⟩, c10⟩ := id hC
  have c2 : bd E σ 1 op lk kp wc pn nw sh wk := c2
  obtain ⟨⟨hB, hCp, ⟨hsh0, hsh1⟩, hwk0, hwk1⟩, ⟨hsv, hS9⟩, ⟨hnx, hct, hre, hhr, hHi⟩, ⟨hea, hfa, hse, hsf⟩, ⟨hty, hln, htx⟩, hli, hll, hlqf, hlq, hlf⟩ := id hK
  have hB : BI op lk kp wc pn nw := hB
  have hCp : Cp v op lk kp wc pn nw sh wk := hCp
  have hsh0 : 0 ≤ sh := hsh0
  have hsh1 : sh ≤ 1000 * n := hsh1
  have hwk0 : 0 ≤ wk := hwk0
  have hwk1 : wk ≤ 1000 * n := hwk1
  have hhb := hsl_rg hnx.1 hnx.2
  have hnw : 0 ≤ nw ∧ nw ≤ 3 := hB.2.2.2.2.2
  have hse9 : rg se := ⟨by omega, by omega⟩
  have hsf9 : rg sf := ⟨by omega, by omega⟩
  have hea9 : rg ea := ⟨by omega, by omega⟩
  have hfa9 : rg fa := ⟨by omega, by omega⟩
  refine ⟨_, (c_X6_save l E ST hSF σ _ _ _ _ _ _ _ _ _ _ _ _ _ _ _ _ _ _ _ _ c0 c2 c5), ?_⟩
  intro u hp
  obtain ⟨⟨q0, q2, q19⟩, fr0⟩ := hp
  have hC2 : CLS E u true se sf ll nx ct (op, lk, kp, wc, pn, nw, sh, wk) (op, lk, kp, wc, pn, nw, sh, wk) HB tx ln lq := ⟨q0, hi_fr c1 (fun j a b => fr0 j (by omega) (by omega)), q2, ⟨X7, bdT_fr c3 (fun j a b => fr0 j (by omega) (by omega))⟩, ⟨X13, bdT_fr c4 (fun j a b => fr0 j (by omega) (by omega))⟩, q19, hist_fr c6 (fun j a b => fr0 j (by omega) (by omega)), srX_fr hC.2.2.2.2.2.2.2.1 (fun j a b => fr0 j (by omega) (by omega)), pgX_fr hC.2.2.2.2.2.2.2.2.1 (fun j a b => fr0 j (by omega) (by omega)), (fr0 84 (by omega) (by omega)).trans c10⟩
  have hM2 := hM.fr (u := u) (fun j h0 h1 => fr0 j (by omega) (by omega))
  have hO2 : OUT E u := hO.fr (fun j h => fr0 j (by omega) (by omega))
  obtain ⟨⟨sz, sp, wr, to, m0⟩, m1, ⟨w2, m2⟩, ⟨w3, m3⟩, m4, m5, ⟨w6, m6⟩, ⟨F9, m7, m7r⟩, m8, m9, nu, m10, m11⟩ := hM2
  refine ⟨⟨_, m0⟩, _, (c_X7_save l E ST hSF u _ _ _ _ _ _ _ _ _ _ _ _ _ m0 m1 m4), ?_⟩
  intro t hq
  obtain ⟨⟨a0, a1, a4⟩, fr⟩ := hq
  have hM3 : MDL E t true re ea fa ty li 0 v v hF tx lf := ⟨⟨_, _, _, _, a0⟩, a1, ⟨_, (fr 87 (by omega) (by omega)).trans m2⟩, ⟨_, (fr 88 (by omega) (by omega)).trans m3⟩, a4, (fr 90 (by omega) (by omega)).trans m5, ⟨_, (fr 91 (by omega) (by omega)).trans m6⟩, ⟨_, (fr 92 (by omega) (by omega)).trans m7, m7r⟩, (fr 93 (by omega) (by omega)).trans m8, (fr 94 (by omega) (by omega)).trans m9, _, (fr 95 (by omega) (by omega)).trans m10, m11⟩
  have hKu := hK.up
  exact ⟨0, by decide, true, se, sf, ll, nx, ct, _, _, HB, tx, ln, lq, true, re, ea, fa, ty, li, v, v, hF, lf, hC2.fr (fun j h => fr j (by omega) (by omega)), hM3, hO2.fr (fun j h => fr j (by omega) (by omega)), hKu.1, ⟨rfl, fun _ => hKu.1⟩, hKu.2.2⟩
set_option maxRecDepth 100000 in
set_option maxHeartbeats 4000000 in
theorem s_restore (l : Launch) (E : xE) (ST : xST) (hSF : SF ST) (hSX : SX ST) (htr : l.stackTraces = false) {n : Int} {σ : xW} (hn : 0 ≤ n ∧ n ≤ 600) (hI : INV n E σ)  : ∃ P : Int → xW → Prop, CI l E ST yL_restore wsL_restore rm_L_restore [.ref (xad E 0)] σ P ∧ ∀ (k : Int) (u : xW), P k u → (∃ fs : List Value, u 85 = oB 5 fs) ∧ ∃ Q : xW → Prop, CV l E ST yX7_restore wsX7_restore rm_X7_restore [.ref (xad E 85)] u Q ∧ ∀ (t : xW), Q t → INVT (n + 1) E t k ∧ rg k := by
  obtain ⟨th, hth, hv, se, sf, ll, nx, ct, B, S, HB, tx, ln, lq, sv, re, ea, fa, ty, li, v, vs, hF, lf, hC, hM, hO, hK⟩ := hI
  obtain ⟨op, lk, kp, wc, pn, nw, sh, wk⟩ := B
  obtain ⟨c0, c1, c2, ⟨X7, c3⟩, ⟨X13, c4⟩, c5, c6, ⟨le, rl, fs, qu, gr, c7⟩, ⟨cs, cm, va, c8, c9⟩, c10⟩ := id hC
  have c2 : bd E σ 1 op lk kp wc pn nw sh wk := c2
  obtain ⟨⟨hB, hCp, ⟨hsh0, hsh1⟩, hwk0, hwk1⟩, ⟨hsv, hS9⟩, ⟨hnx, hct, hre, hhr, hHi⟩, ⟨hea, hfa, hse, hsf⟩, ⟨hty, hln, htx⟩, hli, hll, hlqf, hlq, hlf⟩ := id hK
  have hB : BI op lk kp wc pn nw := hB
  have hCp : Cp v op lk kp wc pn nw sh wk := hCp
  have hsh0 : 0 ≤ sh := hsh0
  have hsh1 : sh ≤ 1000 * n := hsh1
  have hwk0 : 0 ≤ wk := hwk0
  have hwk1 : wk ≤ 1000 * n := hwk1
  have hhb := hsl_rg hnx.1 hnx.2
  have hnw : 0 ≤ nw ∧ nw ≤ 3 := hB.2.2.2.2.2
  have hse9 : rg se := ⟨by omega, by omega⟩
  have hsf9 : rg sf := ⟨by omega, by omega⟩
  have hea9 : rg ea := ⟨by omega, by omega⟩
  have hfa9 : rg fa := ⟨by omega, by omega⟩
  refine ⟨_, c_L_restore l E ST hSF hSX σ (c_X6_restore l E ST hSF htr σ _ _ _ _ _ _ _ _ _ _ _ _ _ _ _ _ _ _ _ _ _ _ c0 c1 c2 c5) c0 (fun nm u h => h.1.1), ?_⟩
  intro k u hp
  have hm : ((hv = true ∧ k = 0 ∧ CLS E u hv se sf ll nx 0 S S HB tx ln lq) ∨ (hv = false ∧ k = 1 ∧ CLS E u hv se sf ll nx ct (op, lk, kp, wc, pn, nw, sh, wk) S HB tx ln lq)) ∧ ∀ j : Nat, 85 ≤ j → u j = σ j := by
    rcases hp with ⟨rfl, ⟨q0, q1, q2, q19, e⟩, fr0⟩ | ⟨rfl, ⟨e_, q⟩, hu⟩
    · exact ⟨Or.inl ⟨e, rfl, q0, q1, q2, ⟨X7, bdT_fr c3 (fun j a b => fr0 j (by omega) (by omega))⟩, ⟨X13, bdT_fr c4 (fun j a b => fr0 j (by omega) (by omega))⟩, q19, hist_fr c6 (fun j a b => fr0 j (by omega) (by omega)), srX_fr hC.2.2.2.2.2.2.2.1 (fun j a b => fr0 j (by omega) (by omega)), pgX_fr hC.2.2.2.2.2.2.2.2.1 (fun j a b => fr0 j (by omega) (by omega)), (fr0 84 (by omega) (by omega)).trans c10⟩, fun j h => fr0 j (by omega) (by omega)⟩
    · exact ⟨Or.inr ⟨q, rfl, by rw [hu]; exact hC⟩, fun j h => by rw [hu]⟩
  obtain ⟨hm, fr0⟩ := hm
  have hM2 := hM.fr (u := u) (fun j h0 h1 => fr0 j h0)
  have hO2 : OUT E u := hO.fr (fun j h => fr0 j (by omega))
  obtain ⟨⟨sz, sp, wr, to, m0⟩, m1, ⟨w2, m2⟩, ⟨w3, m3⟩, m4, m5, ⟨w6, m6⟩, ⟨F9, m7, m7r⟩, m8, m9, nu, m10, m11⟩ := hM2
  refine ⟨⟨_, m0⟩, _, (c_X7_restore l E ST hSF u _ _ _ _ _ _ _ _ _ _ _ _ _ m0 m1 m4), ?_⟩
  intro t hq
  obtain ⟨⟨a0, a1, a4⟩, fr⟩ := hq
  have hM3 : MDL E t sv (if sv = true then 0 else re) ea fa ty li (if sv = true then 0 else 1) (if sv = true then vs else v) vs hF tx lf := ⟨⟨_, _, _, _, a0⟩, a1, ⟨_, (fr 87 (by omega)).trans m2⟩, ⟨_, (fr 88 (by omega)).trans m3⟩, a4, (fr 90 (by omega)).trans m5, ⟨_, (fr 91 (by omega)).trans m6⟩, ⟨_, (fr 92 (by omega)).trans m7, m7r⟩, (fr 93 (by omega)).trans m8, (fr 94 (by omega)).trans m9, _, (fr 95 (by omega)).trans m10, m11⟩
  have hKu := hK.up
  rcases hm with ⟨e, rfl, hC2⟩ | ⟨e, rfl, hC2⟩
  · rw [if_pos (hsv.trans e), if_pos (hsv.trans e), if_pos (hsv.trans e)] at hM3
    exact ⟨⟨hv, se, sf, ll, nx, 0, S, S, HB, tx, ln, lq, sv, 0, ea, fa, ty, li, vs, vs, hF, lf, hC2.fr (fun j h => fr j (by omega)), hM3, hO2.fr (fun j h => fr j (by omega)), hKu.2.1.2 e, hKu.2.1, ⟨hnx, by omega, rfl, hhr, fun i i0 i1 => by omega⟩, hKu.2.2.2⟩, by decide⟩
  · have e2 : ¬ sv = true := by rw [hsv, e]; decide
    rw [if_neg e2, if_neg e2, if_neg e2] at hM3
    exact ⟨⟨hv, se, sf, ll, nx, ct, _, S, HB, tx, ln, lq, sv, re, ea, fa, ty, li, v, vs, hF, lf, hC2.fr (fun j h => fr j (by omega)), hM3, hO2.fr (fun j h => fr j (by omega)), hKu⟩, by decide⟩
set_option maxRecDepth 100000 in
set_option maxHeartbeats 4000000 in
theorem s_undo (l : Launch) (E : xE) (ST : xST) (hSF : SF ST) (hSX : SX ST) (htr : l.stackTraces = false) {n : Int} {σ : xW} (hn : 0 ≤ n ∧ n ≤ 600) (hI : INV n E σ)  : ∃ P : Int → xW → Prop, CI l E ST yL_undo wsL_undo rm_L_undo [.ref (xad E 0), .ref (xad E 96)] σ P ∧ ∀ (k : Int) (u : xW), P k u → (∃ fs : List Value, u 85 = oB 5 fs) ∧ ∃ Q : Int → xW → Prop, CI l E ST yX7_undo wsX7_undo rm_X7_undo [.ref (xad E 85)] u Q ∧ ∀ (b : Int) (t : xW), Q b t → FIN n E t k b := by
  obtain ⟨th, hth, hv, se, sf, ll, nx, ct, B, S, HB, tx, ln, lq, sv, re, ea, fa, ty, li, v, vs, hF, lf, hC, hM, hO, hK⟩ := hI
  obtain ⟨op, lk, kp, wc, pn, nw, sh, wk⟩ := B
  obtain ⟨c0, c1, c2, ⟨X7, c3⟩, ⟨X13, c4⟩, c5, c6, ⟨le, rl, fs, qu, gr, c7⟩, ⟨cs, cm, va, c8, c9⟩, c10⟩ := id hC
  have c2 : bd E σ 1 op lk kp wc pn nw sh wk := c2
  obtain ⟨⟨hB, hCp, ⟨hsh0, hsh1⟩, hwk0, hwk1⟩, ⟨hsv, hS9⟩, ⟨hnx, hct, hre, hhr, hHi⟩, ⟨hea, hfa, hse, hsf⟩, ⟨hty, hln, htx⟩, hli, hll, hlqf, hlq, hlf⟩ := id hK
  have hB : BI op lk kp wc pn nw := hB
  have hCp : Cp v op lk kp wc pn nw sh wk := hCp
  have hsh0 : 0 ≤ sh := hsh0
  have hsh1 : sh ≤ 1000 * n := hsh1
  have hwk0 : 0 ≤ wk := hwk0
  have hwk1 : wk ≤ 1000 * n := hwk1
  have hhb := hsl_rg hnx.1 hnx.2
  have hnw : 0 ≤ nw ∧ nw ≤ 3 := hB.2.2.2.2.2
  have hse9 : rg se := ⟨by omega, by omega⟩
  have hsf9 : rg sf := ⟨by omega, by omega⟩
  have hea9 : rg ea := ⟨by omega, by omega⟩
  have hfa9 : rg fa := ⟨by omega, by omega⟩
  refine ⟨_, c_L_undo l E ST hSF hSX σ (c_X6_undo l E ST hSF htr σ _ _ _ _ _ _ _ _ _ _ _ _ _ _ _ _ _ _ _ _ _ _ c0 c1 (c6 (((nx + 8) - 1) % 8) (by omega) (by omega)) c2 (by first | assumption | omega | exact ⟨by omega, by omega⟩) (by first | assumption | omega | exact ⟨by omega, by omega⟩)) c0 (fun z u h => ⟨_, (h.2.2 96 (by omega) (by omega)).trans hO.1.choose_spec⟩) (fun nm u h => h.1.1), ?_⟩
  intro k u hp
  have hm : ((¬ ct = 0 ∧ k = 0 ∧ CLS E u hv se sf ll (((nx + 8) - 1) % 8) (ct - 1) (HB (((nx + 8) - 1) % 8)) S HB tx ln lq ∧ u 96 = oJ E (iZ (ct - 1)).toInt64) ∨ (ct = 0 ∧ k = 1 ∧ CLS E u hv se sf ll nx ct (op, lk, kp, wc, pn, nw, sh, wk) S HB tx ln lq ∧ u 96 = σ 96)) ∧ ∀ j : Nat, 85 ≤ j → j ≠ 96 → u j = σ j := by
    rcases hp with ⟨rfl, z, u0, ⟨hzz, ⟨q0, q1, q8, q2, e⟩, fr0⟩, e96, f96⟩ | ⟨rfl, ⟨e_, q⟩, hu⟩
    · have hC3 : CLS E u0 hv se sf ll (((nx + 8) - 1) % 8) (ct - 1) (HB (((nx + 8) - 1) % 8)) S HB tx ln lq := ⟨q0, q1, q2, ⟨X7, bdT_fr c3 (fun j a b => fr0 j (by omega) (by omega))⟩, ⟨X13, bdT_fr c4 (fun j a b => fr0 j (by omega) (by omega))⟩, bdT_fr c5 (fun j a b => fr0 j (by omega) (by omega)), hist_fr c6 (fun j a b => fr0 j (by omega) (by omega)), srX_fr hC.2.2.2.2.2.2.2.1 (fun j a b => fr0 j (by omega) (by omega)), pgX_fr hC.2.2.2.2.2.2.2.2.1 (fun j a b => fr0 j (by omega) (by omega)), (fr0 84 (by omega) (by omega)).trans c10⟩
      exact ⟨Or.inl ⟨e, rfl, hC3.fr (fun j h => f96 j (by omega)), by rw [← hzz]; exact e96⟩, fun j h h1 => (f96 j h1).trans (fr0 j (by omega) (by omega))⟩
    · exact ⟨Or.inr ⟨q, rfl, by rw [hu]; exact hC, by rw [hu]⟩, fun j h _ => by rw [hu]⟩
  obtain ⟨hm, fr0⟩ := hm
  have hM2 := hM.fr (u := u) (fun j h0 h1 => fr0 j h0 (by omega))
  obtain ⟨⟨sz, sp, wr, to, m0⟩, m1, ⟨w2, m2⟩, ⟨w3, m3⟩, m4, m5, ⟨w6, m6⟩, ⟨F9, m7, m7r⟩, m8, m9, nu, m10, m11⟩ := hM2
  refine ⟨⟨_, m0⟩, _, (c_X7_undo l E ST hSF u _ _ _ _ _ _ _ _ _ _ _ _ _ m0 m1 m5 (by first | assumption | omega | exact ⟨by omega, by omega⟩)), ?_⟩
  intro b t hq
  obtain ⟨qb, ⟨a0, a1, a5⟩, fr⟩ := hq
  have hM3 : MDL E t sv (if 0 < re then re - 1 else re) ea fa ty li (if 0 < re then 0 else 1) (if 0 < re then (fun j => hF ((re - 1) * 87 + j)) else v) vs hF tx lf := ⟨⟨_, _, _, _, a0⟩, a1, ⟨_, (fr 87 (by omega)).trans m2⟩, ⟨_, (fr 88 (by omega)).trans m3⟩, (fr 89 (by omega)).trans m4, a5, ⟨_, (fr 91 (by omega)).trans m6⟩, ⟨_, (fr 92 (by omega)).trans m7, m7r⟩, (fr 93 (by omega)).trans m8, (fr 94 (by omega)).trans m9, _, (fr 95 (by omega)).trans m10, m11⟩
  have hKu := hK.up
  rcases hm with ⟨e, rfl, hC2, e96⟩ | ⟨e, rfl, hC2, e96⟩
  · have h0 : 0 < re := by omega
    rw [if_pos h0, if_pos h0, if_pos h0] at hM3
    rw [if_pos h0] at qb
    have hO2 : OUT E u := hO.put e96 (fr0 97 (by omega) (by omega))
    have hX := hKu.2.2.1.2.2.2.2 (ct - 1) (by omega) (by omega)
    rw [show (nx + 8 - ct + (ct - 1)) % 8 = (((nx + 8) - 1) % 8) by omega, ← hre] at hX
    exact ⟨⟨hv, se, sf, ll, (((nx + 8) - 1) % 8), ct - 1, HB (((nx + 8) - 1) % 8), S, HB, tx, ln, lq, sv, re - 1, ea, fa, ty, li, _, vs, hF, lf, hC2.fr (fun j h => fr j (by omega)), hM3, hO2.fr (fun j h => fr j (by omega)), hX, hKu.2.1, ⟨by omega, by omega, by omega, hhr, fun i i0 i1 => by
      have h9 := hKu.2.2.1.2.2.2.2 i i0 (by omega)
      rw [show (nx + 8 - ct + i) % 8 = ((((nx + 8) - 1) % 8) + 8 - (ct - 1) + i) % 8 by omega] at h9
      exact h9⟩, hKu.2.2.2⟩, by decide, fun _ => by rw [qb, hre]; exact (fr 96 (by omega)).trans e96⟩
  · have h0 : ¬ 0 < re := by omega
    rw [if_neg h0, if_neg h0, if_neg h0] at hM3
    have hO2 : OUT E u := hO.fr (fun j h => by by_cases q : j = 96; (rw [q]; exact e96); exact fr0 j (by omega) q)
    exact ⟨⟨hv, se, sf, ll, nx, ct, _, S, HB, tx, ln, lq, sv, re, ea, fa, ty, li, v, vs, hF, lf, hC2.fr (fun j h => fr j (by omega)), hM3, hO2.fr (fun j h => fr j (by omega)), hKu⟩, by decide, fun h => absurd h (by decide)⟩
set_option maxRecDepth 100000 in
set_option maxHeartbeats 4000000 in
theorem s_append (l : Launch) (E : xE) (ST : xST) (hSF : SF ST) (hSX : SX ST) (htr : l.stackTraces = false) {n : Int} {σ : xW} (hn : 0 ≤ n ∧ n ≤ 600) (hI : INV n E σ) (p0 : Int) (r0 : 0 ≤ p0 ∧ p0 ≤ 65535) : ∃ P : Int → xW → Prop, CI l E ST yL_append wsL_append rm_L_append [.ref (xad E 0), .int (iZ p0), .ref (xad E 96)] σ P ∧ ∀ (k : Int) (u : xW), P k u → (∃ fs : List Value, u 85 = oB 5 fs) ∧ ∃ Q : Int → xW → Prop, CI l E ST yX7_append wsX7_append rm_X7_append [.ref (xad E 85), .int (iZ p0)] u Q ∧ ∀ (b : Int) (t : xW), Q b t → FIN n E t k b := by
  obtain ⟨th, hth, hv, se, sf, ll, nx, ct, B, S, HB, tx, ln, lq, sv, re, ea, fa, ty, li, v, vs, hF, lf, hC, hM, hO, hK⟩ := hI
  obtain ⟨op, lk, kp, wc, pn, nw, sh, wk⟩ := B
  obtain ⟨c0, c1, c2, ⟨X7, c3⟩, ⟨X13, c4⟩, c5, c6, ⟨le, rl, fs, qu, gr, c7⟩, ⟨cs, cm, va, c8, c9⟩, c10⟩ := id hC
  have c2 : bd E σ 1 op lk kp wc pn nw sh wk := c2
  obtain ⟨⟨hB, hCp, ⟨hsh0, hsh1⟩, hwk0, hwk1⟩, ⟨hsv, hS9⟩, ⟨hnx, hct, hre, hhr, hHi⟩, ⟨hea, hfa, hse, hsf⟩, ⟨hty, hln, htx⟩, hli, hll, hlqf, hlq, hlf⟩ := id hK
  have hB : BI op lk kp wc pn nw := hB
  have hCp : Cp v op lk kp wc pn nw sh wk := hCp
  have hsh0 : 0 ≤ sh := hsh0
  have hsh1 : sh ≤ 1000 * n := hsh1
  have hwk0 : 0 ≤ wk := hwk0
  have hwk1 : wk ≤ 1000 * n := hwk1
  have hhb := hsl_rg hnx.1 hnx.2
  have hnw : 0 ≤ nw ∧ nw ≤ 3 := hB.2.2.2.2.2
  have hse9 : rg se := ⟨by omega, by omega⟩
  have hsf9 : rg sf := ⟨by omega, by omega⟩
  have hea9 : rg ea := ⟨by omega, by omega⟩
  have hfa9 : rg fa := ⟨by omega, by omega⟩
  refine ⟨_, c_L_append l E ST hSF hSX σ p0 (c_X6_append l E ST hSF htr σ p0 _ _ _ _ _ _ _ _ _ c0 c8 (by first | assumption | omega | exact ⟨by omega, by omega⟩) (by first | assumption | omega | exact ⟨by omega, by omega⟩)) c0 (fun z u h => ⟨_, (h.2.2 96 (by omega)).trans hO.1.choose_spec⟩) (fun nm u h => h.1.1), ?_⟩
  intro k u hp
  have hm : k = k1 (ty < 60) ∧ (k = 0 → u 96 = oJ E (iZ (ln + 1)).toInt64) ∧ CLS E u hv se sf ll nx ct (op, lk, kp, wc, pn, nw, sh, wk) S HB (if ty < 60 then ui tx ty p0 else tx) (if ty < 60 then ty + 1 else ty) lq ∧ OUT E u ∧ ∀ j : Nat, 85 ≤ j → j ≠ 96 → u j = σ j := by
    rcases hp with ⟨rfl, z, u0, ⟨hzz, ⟨q0, q8, e⟩, fr0⟩, e96, f96⟩ | ⟨rfl, ⟨e_, q⟩, ⟨q0, q8⟩, fr0⟩
    · have e2 : ty < 60 := by omega
      rw [if_pos e2, if_pos e2, hty]
      have hC3 : CLS E u0 hv se sf ll nx ct (op, lk, kp, wc, pn, nw, sh, wk) S HB (ui tx ln p0) (ln + 1) lq := ⟨q0, hi_fr c1 (fun j a b => fr0 j (by omega)), bdT_fr (B := (op, lk, kp, wc, pn, nw, sh, wk)) c2 (fun j a b => fr0 j (by omega)), ⟨X7, bdT_fr c3 (fun j a b => fr0 j (by omega))⟩, ⟨X13, bdT_fr c4 (fun j a b => fr0 j (by omega))⟩, bdT_fr c5 (fun j a b => fr0 j (by omega)), hist_fr c6 (fun j a b => fr0 j (by omega)), srX_fr hC.2.2.2.2.2.2.2.1 (fun j a b => fr0 j (by omega)), ⟨_, _, _, q8, c9⟩, (fr0 84 (by omega)).trans c10⟩
      exact ⟨(k1_0 (by omega)).symm, fun _ => by rw [← hzz]; exact e96, hC3.fr (fun j h => f96 j (by omega)), hO.put e96 ((f96 97 (by omega)).trans (fr0 97 (by omega))), fun j h h1 => (f96 j h1).trans (fr0 j (by omega))⟩
    · have e2 : ¬ ty < 60 := by omega
      rw [if_neg e2, if_neg e2, hty]
      have hC3 : CLS E u hv se sf ll nx ct (op, lk, kp, wc, pn, nw, sh, wk) S HB tx ln lq := ⟨q0, hi_fr c1 (fun j a b => fr0 j (by omega)), bdT_fr (B := (op, lk, kp, wc, pn, nw, sh, wk)) c2 (fun j a b => fr0 j (by omega)), ⟨X7, bdT_fr c3 (fun j a b => fr0 j (by omega))⟩, ⟨X13, bdT_fr c4 (fun j a b => fr0 j (by omega))⟩, bdT_fr c5 (fun j a b => fr0 j (by omega)), hist_fr c6 (fun j a b => fr0 j (by omega)), srX_fr hC.2.2.2.2.2.2.2.1 (fun j a b => fr0 j (by omega)), ⟨_, _, _, q8, c9⟩, (fr0 84 (by omega)).trans c10⟩
      exact ⟨(k1_1 (by omega)).symm, fun h => absurd h (by decide), hC3, hO.fr (fun j h => fr0 j (by omega)), fun j h h1 => fr0 j (by omega)⟩
  obtain ⟨hk, h96, hC2, hO2, fr85⟩ := hm
  subst hk
  have hM2 := hM.fr (u := u) (fun j h0 h1 => fr85 j h0 (by omega))
  obtain ⟨⟨sz, sp, wr, to, m0⟩, m1, ⟨w2, m2⟩, ⟨w3, m3⟩, m4, m5, ⟨w6, m6⟩, ⟨F9, m7, m7r⟩, m8, m9, nu, m10, m11⟩ := hM2
  refine ⟨⟨_, m0⟩, _, (c_X7_append l E ST hSF u p0 _ _ _ _ _ _ _ _ _ _ _ _ m0 m8 (by first | assumption | omega | exact ⟨by omega, by omega⟩)), ?_⟩
  intro b t hq
  obtain ⟨qb, ⟨a0, a8⟩, fr⟩ := hq
  have hKu := hK.up
  have hkb := k1_b (ty < 60)
  have htx2 : ∀ j : Int, 0 ≤ (if ty < 60 then ui tx ty p0 else tx) j ∧ (if ty < 60 then ui tx ty p0 else tx) j ≤ 65535 := fun j => by
    have h9 := htx j
    split
    · unfold ui
      split
      · exact r0
      · exact h9
    · exact h9
  have hty2 : 0 ≤ (if ty < 60 then ty + 1 else ty) ∧ (if ty < 60 then ty + 1 else ty) ≤ 60 := by
    split <;> omega
  exact ⟨⟨hv, se, sf, ll, nx, ct, _, S, HB, _, _, lq, sv, re, ea, fa, _, li, v, vs, hF, lf, hC2.fr (fun j h => fr j (by omega) (by omega)), ⟨⟨_, _, _, _, a0⟩, (fr 86 (by omega) (by omega)).trans m1, ⟨_, (fr 87 (by omega) (by omega)).trans m2⟩, ⟨_, (fr 88 (by omega) (by omega)).trans m3⟩, (fr 89 (by omega) (by omega)).trans m4, (fr 90 (by omega) (by omega)).trans m5, ⟨_, (fr 91 (by omega) (by omega)).trans m6⟩, ⟨_, (fr 92 (by omega) (by omega)).trans m7, m7r⟩, a8, (fr 94 (by omega) (by omega)).trans m9, _, (fr 95 (by omega) (by omega)).trans m10, m11⟩, hO2.fr (fun j h => fr j (by omega) (by omega)), hKu.1, hKu.2.1, hKu.2.2.1, hKu.2.2.2.1, ⟨rfl, hty2, htx2⟩, hKu.2.2.2.2.2⟩, ⟨by omega, by omega⟩, fun h0 => by rw [qb (k1_is.mp h0), hty]; exact (fr 96 (by omega) (by omega)).trans (h96 h0)⟩
set_option maxRecDepth 100000 in
set_option maxHeartbeats 4000000 in
theorem s_writeRow (l : Launch) (E : xE) (ST : xST) (hSF : SF ST) (hSX : SX ST) (htr : l.stackTraces = false) {n : Int} {σ : xW} (hn : 0 ≤ n ∧ n ≤ 600) (hI : INV n E σ) (p0 : Int) (r0 : rg p0) : ∃ P : Int → xW → Prop, CI l E ST yL_writeRow wsL_writeRow rm_L_writeRow [.ref (xad E 0), .int (iZ p0), .ref (xad E 96)] σ P ∧ ∀ (k : Int) (u : xW), P k u → (∃ fs : List Value, u 85 = oB 5 fs) ∧ ∃ Q : Int → xW → Prop, CI l E ST yX7_writeRow wsX7_writeRow rm_X7_writeRow [.ref (xad E 85), .int (iZ p0)] u Q ∧ ∀ (b : Int) (t : xW), Q b t → FIN n E t k b := by
  obtain ⟨th, hth, hv, se, sf, ll, nx, ct, B, S, HB, tx, ln, lq, sv, re, ea, fa, ty, li, v, vs, hF, lf, hC, hM, hO, hK⟩ := hI
  obtain ⟨op, lk, kp, wc, pn, nw, sh, wk⟩ := B
  obtain ⟨c0, c1, c2, ⟨X7, c3⟩, ⟨X13, c4⟩, c5, c6, ⟨le, rl, fs, qu, gr, c7⟩, ⟨cs, cm, va, c8, c9⟩, c10⟩ := id hC
  have c2 : bd E σ 1 op lk kp wc pn nw sh wk := c2
  obtain ⟨⟨hB, hCp, ⟨hsh0, hsh1⟩, hwk0, hwk1⟩, ⟨hsv, hS9⟩, ⟨hnx, hct, hre, hhr, hHi⟩, ⟨hea, hfa, hse, hsf⟩, ⟨hty, hln, htx⟩, hli, hll, hlqf, hlq, hlf⟩ := id hK
  have hB : BI op lk kp wc pn nw := hB
  have hCp : Cp v op lk kp wc pn nw sh wk := hCp
  have hsh0 : 0 ≤ sh := hsh0
  have hsh1 : sh ≤ 1000 * n := hsh1
  have hwk0 : 0 ≤ wk := hwk0
  have hwk1 : wk ≤ 1000 * n := hwk1
  have hhb := hsl_rg hnx.1 hnx.2
  have hnw : 0 ≤ nw ∧ nw ≤ 3 := hB.2.2.2.2.2
  have hse9 : rg se := ⟨by omega, by omega⟩
  have hsf9 : rg sf := ⟨by omega, by omega⟩
  have hea9 : rg ea := ⟨by omega, by omega⟩
  have hfa9 : rg fa := ⟨by omega, by omega⟩
  refine ⟨_, c_L_writeRow l E ST hSF hSX σ p0 (c_X6_writeRow l E ST hSF htr σ p0 _ _ _ _ _ _ _ _ _ _ _ _ _ c0 c2 c10 hB r0) c0 (fun z u h => ⟨_, (h.2.2 96 (by omega) (by omega)).trans hO.1.choose_spec⟩) (fun nm u h => h.1.1), ?_⟩
  intro k u hp
  have hm : ((0 ≤ p0 ∧ p0 < 5) ∧ k = 0 ∧ CLS E u hv se sf (List.foldl ptF (lq, 0) (rwL op lk kp wc pn nw p0 5)).2 nx ct (op, lk, kp, wc, pn, nw, sh, wk) S HB tx ln (List.foldl ptF (lq, 0) (rwL op lk kp wc pn nw p0 5)).1 ∧ u 96 = oJ E (iZ (List.foldl ptF (lq, 0) (rwL op lk kp wc pn nw p0 5)).2).toInt64 ∨ ¬ (0 ≤ p0 ∧ p0 < 5) ∧ k = 1 ∧ CLS E u hv se sf ll nx ct (op, lk, kp, wc, pn, nw, sh, wk) S HB tx ln lq ∧ u 96 = σ 96) ∧ ∀ j : Nat, 85 ≤ j → j ≠ 96 → u j = σ j := by
    rcases hp with ⟨rfl, z, u0, ⟨hzz, ⟨q0, q2, q10, e⟩, fr0⟩, e96, f96⟩ | ⟨rfl, ⟨e_, q⟩, ⟨q0, q2, q10⟩, fr0⟩
    · rw [wr_pt (rwL op lk kp wc pn nw p0 5) (lq, 0) (by have := rwL_35 (op := op) (lk := lk) (kp := kp) (wc := wc) (pn := pn) (nw := nw) (r := p0) (by omega); show (0 : Int) + _ ≤ 35; omega)] at hzz q0 q10
      have hC3 : CLS E u0 hv se sf (List.foldl ptF (lq, 0) (rwL op lk kp wc pn nw p0 5)).2 nx ct (op, lk, kp, wc, pn, nw, sh, wk) S HB tx ln (List.foldl ptF (lq, 0) (rwL op lk kp wc pn nw p0 5)).1 := ⟨q0, hi_fr c1 (fun j a b => fr0 j (by omega) (by omega)), q2, ⟨X7, bdT_fr c3 (fun j a b => fr0 j (by omega) (by omega))⟩, ⟨X13, bdT_fr c4 (fun j a b => fr0 j (by omega) (by omega))⟩, bdT_fr c5 (fun j a b => fr0 j (by omega) (by omega)), hist_fr c6 (fun j a b => fr0 j (by omega) (by omega)), srX_fr hC.2.2.2.2.2.2.2.1 (fun j a b => fr0 j (by omega) (by omega)), pgX_fr hC.2.2.2.2.2.2.2.2.1 (fun j a b => fr0 j (by omega) (by omega)), q10⟩
      exact ⟨Or.inl ⟨e, rfl, hC3.fr (fun j h => f96 j (by omega)), by rw [← hzz]; exact e96⟩, fun j h h1 => (f96 j h1).trans (fr0 j (by omega) (by omega))⟩
    · exact ⟨Or.inr ⟨q, rfl, ⟨q0, hi_fr c1 (fun j a b => fr0 j (by omega) (by omega)), q2, ⟨X7, bdT_fr c3 (fun j a b => fr0 j (by omega) (by omega))⟩, ⟨X13, bdT_fr c4 (fun j a b => fr0 j (by omega) (by omega))⟩, bdT_fr c5 (fun j a b => fr0 j (by omega) (by omega)), hist_fr c6 (fun j a b => fr0 j (by omega) (by omega)), srX_fr hC.2.2.2.2.2.2.2.1 (fun j a b => fr0 j (by omega) (by omega)), pgX_fr hC.2.2.2.2.2.2.2.2.1 (fun j a b => fr0 j (by omega) (by omega)), q10⟩, fr0 96 (by omega) (by omega)⟩, fun j h h1 => fr0 j (by omega) (by omega)⟩
  obtain ⟨hm, fr0⟩ := hm
  have hM2 := hM.fr (u := u) (fun j h0 h1 => fr0 j h0 (by omega))
  obtain ⟨⟨sz, sp, wr, to, m0⟩, m1, ⟨w2, m2⟩, ⟨w3, m3⟩, m4, m5, ⟨w6, m6⟩, ⟨F9, m7, m7r⟩, m8, m9, nu, m10, m11⟩ := hM2
  refine ⟨⟨_, m0⟩, _, (c_X7_writeRow l E ST hSF u p0 _ _ _ _ _ _ _ _ _ _ _ _ _ _ _ _ _ _ _ _ _ m0 m1 m9 hCp hB r0), ?_⟩
  intro b t hq
  obtain ⟨qb, ⟨a0, a1, a9⟩, fr⟩ := hq
  have hM3 : MDL E t sv re ea fa ty (if (0 ≤ p0 ∧ p0 < 5) then (List.foldl ptF (lf, 0) (rwL op lk kp wc pn nw p0 5)).2 else li) (k1 (0 ≤ p0 ∧ p0 < 5)) v vs hF tx (if (0 ≤ p0 ∧ p0 < 5) then (List.foldl ptF (lf, 0) (rwL op lk kp wc pn nw p0 5)).1 else lf) := ⟨⟨_, _, _, _, a0⟩, a1, ⟨_, (fr 87 (by omega) (by omega)).trans m2⟩, ⟨_, (fr 88 (by omega) (by omega)).trans m3⟩, (fr 89 (by omega) (by omega)).trans m4, (fr 90 (by omega) (by omega)).trans m5, ⟨_, (fr 91 (by omega) (by omega)).trans m6⟩, ⟨_, (fr 92 (by omega) (by omega)).trans m7, m7r⟩, (fr 93 (by omega) (by omega)).trans m8, a9, _, (fr 95 (by omega) (by omega)).trans m10, m11⟩
  have hKu := hK.up
  rcases hm with ⟨e, rfl, hC2, e96⟩ | ⟨e, rfl, hC2, e96⟩
  · rw [if_pos e, if_pos e, k1_0 e] at hM3
    have hO2 : OUT E u := hO.put e96 (fr0 97 (by omega) (by omega))
    have h35 := rwL_35 (op := op) (lk := lk) (kp := kp) (wc := wc) (pn := pn) (nw := nw) (r := p0) (by omega)
    have hl1 : (List.foldl ptF (lq, 0) (rwL op lk kp wc pn nw p0 5)).2 = ((rwL op lk kp wc pn nw p0 5).length : Int) := by rw [pt_len]; show (0 : Int) + _ = _; omega
    have hl2 : (List.foldl ptF (lf, 0) (rwL op lk kp wc pn nw p0 5)).2 = ((rwL op lk kp wc pn nw p0 5).length : Int) := by rw [pt_len]; show (0 : Int) + _ = _; omega
    have hch : ∀ c ∈ (rwL op lk kp wc pn nw p0 5), chR c := rwN_ch hB.1 hB.2.1 _
    exact ⟨⟨hv, se, sf, _, nx, ct, _, S, HB, tx, ln, _, sv, re, ea, fa, ty, _, v, vs, hF, _, hC2.fr (fun j h => fr j (by omega) (by omega)), hM3, hO2.fr (fun j h => fr j (by omega) (by omega)), hKu.1, hKu.2.1, hKu.2.2.1, hKu.2.2.2.1, hKu.2.2.2.2.1, hl2.trans hl1.symm, ⟨by omega, by omega⟩, fun j j0 j1 => pt_same (rwL op lk kp wc pn nw p0 5) lq lf 0 (fun i i0 i1 => by omega) j j0 (by omega), pt_ch (rwL op lk kp wc pn nw p0 5) (lq, 0) hlq hch, pt_ch (rwL op lk kp wc pn nw p0 5) (lf, 0) hlf hch⟩, by decide, fun _ => by rw [qb e, hl2, ← hl1]; exact (fr 96 (by omega) (by omega)).trans e96⟩
  · rw [if_neg e, if_neg e, k1_1 e] at hM3
    have hO2 : OUT E u := hO.fr (fun j h => by by_cases q : j = 96; (rw [q]; exact e96); exact fr0 j (by omega) q)
    exact ⟨⟨hv, se, sf, ll, nx, ct, _, S, HB, tx, ln, lq, sv, re, ea, fa, ty, li, v, vs, hF, lf, hC2.fr (fun j h => fr j (by omega) (by omega)), hM3, hO2.fr (fun j h => fr j (by omega) (by omega)), hKu⟩, by decide, fun h => absurd h (by decide)⟩
set_option maxRecDepth 100000 in
set_option maxHeartbeats 4000000 in
theorem s_run (l : Launch) (E : xE) (ST : xST) (hSF : SF ST) (Z : zE) (hSQ : SQ Z ST) (hSX : SX ST) (htr : l.stackTraces = false) {n : Int} {σ : xW} (hn : 0 ≤ n ∧ n ≤ 600) (hI : INV n E σ)  : ∃ P : Int → xW → Prop, CI l E ST yL_run wsL_run rm_L_run [.ref (xad E 0), .ref (xad E 96)] σ P ∧ ∀ (k : Int) (u : xW), P k u → (∃ fs : List Value, u 85 = oB 5 fs) ∧ ∃ Q : Int → xW → Prop, CI l E ST yX7_run wsX7_run rm_X7_run [.ref (xad E 85)] u Q ∧ ∀ (b : Int) (t : xW), Q b t → FIN n E t k b := by
  obtain ⟨th, hth, hv, se, sf, ll, nx, ct, B, S, HB, tx, ln, lq, sv, re, ea, fa, ty, li, v, vs, hF, lf, hC, hM, hO, hK⟩ := hI
  obtain ⟨op, lk, kp, wc, pn, nw, sh, wk⟩ := B
  obtain ⟨c0, c1, c2, ⟨X7, c3⟩, ⟨X13, c4⟩, c5, c6, ⟨le, rl, fs, qu, gr, c7⟩, ⟨cs, cm, va, c8, c9⟩, c10⟩ := id hC
  have c2 : bd E σ 1 op lk kp wc pn nw sh wk := c2
  obtain ⟨⟨hB, hCp, ⟨hsh0, hsh1⟩, hwk0, hwk1⟩, ⟨hsv, hS9⟩, ⟨hnx, hct, hre, hhr, hHi⟩, ⟨hea, hfa, hse, hsf⟩, ⟨hty, hln, htx⟩, hli, hll, hlqf, hlq, hlf⟩ := id hK
  have hB : BI op lk kp wc pn nw := hB
  have hCp : Cp v op lk kp wc pn nw sh wk := hCp
  have hsh0 : 0 ≤ sh := hsh0
  have hsh1 : sh ≤ 1000 * n := hsh1
  have hwk0 : 0 ≤ wk := hwk0
  have hwk1 : wk ≤ 1000 * n := hwk1
  have hhb := hsl_rg hnx.1 hnx.2
  have hnw : 0 ≤ nw ∧ nw ≤ 3 := hB.2.2.2.2.2
  have hse9 : rg se := ⟨by omega, by omega⟩
  have hsf9 : rg sf := ⟨by omega, by omega⟩
  have hea9 : rg ea := ⟨by omega, by omega⟩
  have hfa9 : rg fa := ⟨by omega, by omega⟩
  refine ⟨_, c_L_run l E ST hSF hSX σ (c_X6_run l E ST hSF Z hSQ htr σ _ _ _ _ _ _ _ _ _ _ _ _ _ _ _ _ _ _ _ _ _ _ _ _ _ _ _ _ _ _ _ _ _ _ _ _ _ _ _ _ c0 c1 (c6 nx hnx.1 hnx.2) c2 c3 c7 c8 (by first | assumption | omega | exact ⟨by omega, by omega⟩) (by first | assumption | omega | exact ⟨by omega, by omega⟩) hB (by first | assumption | omega | exact ⟨by omega, by omega⟩) htx c9) c0 (fun z u h => ⟨_, (h.2.2 96 (by omega) (by omega) (by omega) (by omega) (by omega)).trans hO.1.choose_spec⟩) (fun nm u h => by rcases h.1 with ⟨e, q⟩ | ⟨e, q⟩ <;> first | exact Or.inl e | exact Or.inr e), ?_⟩
  intro k u hp
  have hm : (∃ (c9 se1 sf1 : Int), ((k = 0 ∧ feP tx ln (-1) c9 ∧ ffP tx ln (op, lk, kp, wc, pn, nw, sh, wk) c9 (-1) ∧ se1 = se ∧ sf1 = sf ∧ u 96 = oJ E (iZ c9).toInt64 ∧ CLS E u hv se sf ll ((nx + 1) % 8) (ctN ct) (exB tx ln (op, lk, kp, wc, pn, nw, sh, wk) c9) S (hbS HB nx (op, lk, kp, wc, pn, nw, sh, wk)) tx 0 lq) ∨ (k = 1 ∧ feP tx ln se1 c9 ∧ (¬ se1 = -1 ∧ -1 ≤ se1 ∧ se1 ≤ 60) ∧ sf1 = sf ∧ u 96 = σ 96 ∧ CLS E u hv se1 sf1 ll nx ct (op, lk, kp, wc, pn, nw, sh, wk) S HB tx 0 lq) ∨ (k = 2 ∧ feP tx ln (-1) c9 ∧ ffP tx ln (op, lk, kp, wc, pn, nw, sh, wk) c9 sf1 ∧ (0 ≤ sf1 ∧ sf1 < c9) ∧ se1 = se ∧ u 96 = σ 96 ∧ CLS E u hv se1 sf1 ll nx ct (op, lk, kp, wc, pn, nw, sh, wk) S HB tx 0 lq))) ∧ ∀ j : Nat, 85 ≤ j → j ≠ 96 → u j = σ j := by
    rcases hp with ⟨rfl, z, u0, ⟨hzz, ⟨op1, lk1, kp1, wc1, pn1, nw1, sh1, wk1, le1, rl1, fs1, qu1, gr1, va1, cs1, cm1, q0, q1, q2, q3, q4, q5, q6, g1, g2, e, g4⟩, fr0⟩, e96, f96⟩ | ⟨rfl, hx⟩ | ⟨rfl, hx⟩
    · have q3b : bdT E u0 1 (exB tx ln (op, lk, kp, wc, pn, nw, sh, wk) z) := by rw [← e]; exact q3
      have hC3 := CLS.done hC hnx q0 q1 q2 q3b q4 ⟨_, _, _, _, _, q5⟩ ⟨_, _, _, q6, g4⟩ (fun j a b c d f => fr0 j a b c d f)
      exact ⟨⟨z, se, sf, Or.inl ⟨rfl, g1, g2, rfl, rfl, e96, hC3.fr (fun j h => f96 j (by omega))⟩⟩, fun j h h1 => (f96 j h1).trans (fr0 j (by omega) (by omega) (by omega) (by omega) (by omega))⟩
    · obtain ⟨hq, ⟨xop, xlk, xkp, xwc, xpn, xnw, xsh, xwk, le1, rl1, fs1, qu1, gr1, va1, cs1, se1, sf1, c9_, cm1, q0, q1, q2, q3, q4, q5, q6, g1, g4⟩, fr0⟩ := hx
      have q4b : bdT E u 7 (xop, xlk, xkp, xwc, xpn, xnw, xsh, xwk) := q4
      have hC3 := CLS.fail (B := (op, lk, kp, wc, pn, nw, sh, wk)) hC q0 q3 ⟨_, q4b⟩ ⟨_, _, _, _, _, q5⟩ ⟨_, _, _, q6, g4⟩ (fun j a b c d => fr0 j a b c d)
      rcases g1 with ⟨e_, g1, g2, g3⟩ | ⟨e_, g1, g2, g3, g5⟩
      · exact ⟨⟨c9_, se1, sf1, Or.inr (Or.inl ⟨rfl, g1, g2, g3, fr0 96 (by omega) (by omega) (by omega) (by omega), hC3⟩)⟩, fun j h h1 => fr0 j (by omega) (by omega) (by omega) (by omega)⟩
      · exact absurd e_ (by decide +kernel)
    · obtain ⟨hq, ⟨xop, xlk, xkp, xwc, xpn, xnw, xsh, xwk, le1, rl1, fs1, qu1, gr1, va1, cs1, se1, sf1, c9_, cm1, q0, q1, q2, q3, q4, q5, q6, g1, g4⟩, fr0⟩ := hx
      have q4b : bdT E u 7 (xop, xlk, xkp, xwc, xpn, xnw, xsh, xwk) := q4
      have hC3 := CLS.fail (B := (op, lk, kp, wc, pn, nw, sh, wk)) hC q0 q3 ⟨_, q4b⟩ ⟨_, _, _, _, _, q5⟩ ⟨_, _, _, q6, g4⟩ (fun j a b c d => fr0 j a b c d)
      rcases g1 with ⟨e_, g1, g2, g3⟩ | ⟨e_, g1, g2, g3, g5⟩
      · exact absurd e_ (by decide +kernel)
      · exact ⟨⟨c9_, se1, sf1, Or.inr (Or.inr ⟨rfl, g2, g3, g5, g1, fr0 96 (by omega) (by omega) (by omega) (by omega), hC3⟩)⟩, fun j h h1 => fr0 j (by omega) (by omega) (by omega) (by omega)⟩
  obtain ⟨⟨c9, se1, sf1, hm⟩, fr0⟩ := hm
  have hM2 := hM.fr (u := u) (fun j h0 h1 => fr0 j h0 (by omega))
  obtain ⟨⟨sz, sp, wr, to, m0⟩, m1, ⟨w2, m2⟩, ⟨w3, m3⟩, m4, m5, ⟨w6, m6⟩, ⟨F9, m7, m7r⟩, m8, m9, nu, m10, m11⟩ := hM2
  refine ⟨⟨_, m0⟩, _, (c_X7_run l E ST hSF Z hSQ u _ _ _ _ _ _ _ _ _ _ _ _ _ _ _ _ _ _ _ _ _ _ _ _ _ _ m0 m1 m2 m5 m6 m7 m8 m10 hCp hB (by first | assumption | omega | exact ⟨by omega, by omega⟩) (by first | assumption | omega | exact ⟨by omega, by omega⟩) htx m11 (by first | assumption | omega | exact ⟨by omega, by omega⟩) (by first | assumption | omega | exact ⟨by omega, by omega⟩) m7r), ?_⟩
  intro b t hq
  obtain ⟨-, ⟨v1, w1, h1, mq, Fq, nu1, re1, ea1, fa1, th1, sp1, wr1, to1, c8_, a0, a1, a2, a5, a6, a7, a10, ro, a11, a7r⟩, fr⟩ := hq
  have hM3 : MDL E t sv re1 ea1 fa1 0 li th1 v1 vs h1 tx lf := ⟨⟨_, _, _, _, a0⟩, a1, ⟨_, a2⟩, ⟨_, (fr 88 (by omega) (by omega) (by omega)).trans m3⟩, (fr 89 (by omega) (by omega) (by omega)).trans m4, a5, ⟨_, a6⟩, ⟨_, a7, a7r⟩, (fr 93 (by omega) (by omega) (by omega)).trans m8, (fr 94 (by omega) (by omega) (by omega)).trans m9, _, a10, a11⟩
  have hKu := hK.up
  have h60 : (0 : Int) = 0 ∧ (0 ≤ (0 : Int) ∧ (0 : Int) ≤ 60) ∧ ∀ j : Int, 0 ≤ tx j ∧ tx j ≤ 65535 := ⟨rfl, by decide, htx⟩
  rw [hty] at ro
  rcases hm with ⟨rfl, g1, g2, rfl, rfl, e96, hC2⟩ | ⟨rfl, g1, g2, rfl, e96, hC2⟩ | ⟨rfl, g1, g2, g3, rfl, e96, hC2⟩
  · rcases ro with ⟨y1, y2, -⟩ | ⟨y1, y2, y3, -⟩ | ⟨y1, y2, rfl, y4, rfl, rfl, rfl, rfl, y5⟩
    · exact absurd (feP_uniq g1 y1).1.symm y2
    · have e9 := (feP_uniq g1 y1).2 rfl
      rw [← e9] at y2
      have := ffP_uniq g2 y2
      omega
    · have e9 := (feP_uniq g1 y1).2 rfl
      rw [← e9] at y5 y4
      have hc9 := feP_c hln g1
      have hx9 := exB_ok (t := tx) (n := ln) (k := c9) (B := (op, lk, kp, wc, pn, nw, sh, wk)) hB (by omega)
      have hO2 : OUT E u := hO.put e96 (fr0 97 (by omega) (by omega))
      have hK3 := CPL.doneB hK hx9.1 ⟨hx9.2.1.1, by omega⟩ ⟨hx9.2.2.1, by omega⟩ y5
      exact ⟨⟨hv, se1, sf1, ll, _, _, _, S, _, tx, 0, lq, sv, _, ea1, fa1, 0, li, v1, vs, _, lf, hC2.fr (fun j h => fr j (by omega) (by omega) (by omega)), hM3, hO2.fr (fun j h => fr j (by omega) (by omega) (by omega)), hK3.1, hK3.2.1, hK3.2.2.1, hK3.2.2.2.1, h60, hK3.2.2.2.2.2⟩, by decide, fun _ => by rw [y4]; exact (fr 96 (by omega) (by omega) (by omega)).trans e96⟩
  · have hO2 : OUT E u := hO.fr (fun j h => by by_cases q : j = 96; (rw [q]; exact e96); exact fr0 j (by omega) q)
    rcases ro with ⟨y1, y2, rfl, rfl, rfl, rfl, rfl⟩ | ⟨y1, -⟩ | ⟨y1, -⟩
    · have e9 := (feP_uniq g1 y1).1
      exact ⟨⟨hv, se1, sf1, ll, nx, ct, _, S, HB, tx, 0, lq, sv, _, ea1, fa1, 0, li, _, vs, _, lf, hC2.fr (fun j h => fr j (by omega) (by omega) (by omega)), hM3, hO2.fr (fun j h => fr j (by omega) (by omega) (by omega)), hKu.1, hKu.2.1, hKu.2.2.1, ⟨e9.symm, hfa, ⟨g2.2.1, g2.2.2⟩, hsf⟩, h60, hKu.2.2.2.2.2⟩, by decide, fun h => absurd h (by decide)⟩
    · exact absurd (feP_uniq g1 y1).1 g2.1
    · exact absurd (feP_uniq g1 y1).1 g2.1
  · have hO2 : OUT E u := hO.fr (fun j h => by by_cases q : j = 96; (rw [q]; exact e96); exact fr0 j (by omega) q)
    rcases ro with ⟨y1, y2, -⟩ | ⟨y1, y2, y3, rfl, rfl, rfl, rfl, rfl⟩ | ⟨y1, y2, -⟩
    · exact absurd (feP_uniq g1 y1).1.symm y2
    · have e9 := (feP_uniq g1 y1).2 rfl
      rw [← e9] at y2
      have e8 := ffP_uniq g2 y2
      have hc9 := feP_c hln g1
      exact ⟨⟨hv, se1, sf1, ll, nx, ct, _, S, HB, tx, 0, lq, sv, _, ea1, fa1, 0, li, _, vs, _, lf, hC2.fr (fun j h => fr j (by omega) (by omega) (by omega)), hM3, hO2.fr (fun j h => fr j (by omega) (by omega) (by omega)), hKu.1, hKu.2.1, hKu.2.2.1, ⟨hea, e8.symm, hse, ⟨by omega, by omega⟩⟩, h60, hKu.2.2.2.2.2⟩, by decide, fun h => absurd h (by decide)⟩
    · have e9 := (feP_uniq g1 y1).2 rfl
      rw [← e9] at y2
      have := ffP_uniq g2 y2
      omega
