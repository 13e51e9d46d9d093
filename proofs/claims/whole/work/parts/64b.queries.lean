/-! ===== the queries: both sides ===== -/
set_option maxRecDepth 100000 in
set_option maxHeartbeats 4000000 in
theorem s_openings (l : Launch) (E : xE) (ST : xST) (hSF : SF ST) (hSX : SX ST) (htr : l.stackTraces = false) {n : Int} {σ : xW} (hn : 0 ≤ n ∧ n ≤ 600) (hI : INV n E σ) (p0 : Int) (p1 : Int) (r0 : rg p0) (r1 : rg p1) : ∃ P : Int → xW → Prop, CI l E ST yL_openings wsL_openings rm_L_openings [.ref (xad E 0), .int (iZ p0), .int (iZ p1), .ref (xad E 96)] σ P ∧ ∀ (k : Int) (u : xW), P k u → (∃ fs : List Value, u 85 = oB 5 fs) ∧ ∃ Q : Int → xW → Prop, CI l E ST yX7_openings wsX7_openings rm_X7_openings [.ref (xad E 85), .int (iZ p0), .int (iZ p1)] u Q ∧ ∀ (b : Int) (t : xW), Q b t → FIN n E t k b := by
  obtain ⟨th, hth, hv, se, sf, ll, nx, ct, B, S, HB, tx, ln, lq, sv, re, ea, fa, ty, li, v, vs, hF, lf, hC, hM, hO, hK⟩ := hI
  obtain ⟨op, lk, kp, wc, pn, nw, sh, wk⟩ := B
  obtain ⟨c0, c1, c2, ⟨X7, c3⟩, ⟨X13, c4⟩, c5, c6, ⟨le, rl, fs, qu, gr, c7⟩, ⟨cs, cm, va, c8, c9⟩, c10⟩ := id hC
  have c2 : bd E σ 1 op lk kp wc pn nw sh wk := c2
  obtain ⟨⟨hB, hCp, ⟨hsh0, hsh1⟩, hwk0, hwk1⟩, ⟨hsv, hS9⟩, ⟨hnx, hct, hre, hhr, hHi⟩, ⟨hea, hfa, hse, hsf⟩, ⟨hty, hln, htx⟩, hli, hll, hlqf, hlq, hlf⟩ := id hK
  have hB : BI op lk kp wc pn nw := hB
  have hCp : Cp v op lk kp wc pn nw sh wk := hCp
  have hsh0 : 0 ≤ sh := hsh0
  have hsh1 : sh ≤ 1000 * n := hsh1
  have hwk0 : 0 ≤ wk := hwk0
  have hwk1 : wk ≤ 1000 * n := hwk1
  have hhb := hsl_rg hnx.1 hnx.2
  have hnw : 0 ≤ nw ∧ nw ≤ 3 := hB.2.2.2.2.2
  have hse9 : rg se := ⟨by omega, by omega⟩
  have hsf9 : rg sf := ⟨by omega, by omega⟩
  have hea9 : rg ea := ⟨by omega, by omega⟩
  have hfa9 : rg fa := ⟨by omega, by omega⟩
  refine ⟨_, c_L_openings l E ST hSF hSX σ p0 p1 (c_X6_openings l E ST hSF htr σ p0 p1 _ _ _ _ _ _ _ _ _ _ _ _ c0 c2 hB r0 r1) c0 (fun z u h => by obtain ⟨hzz, f1, hu⟩ := h; rw [hu]; exact hO.1) (fun nm u h => h.1.1), ?_⟩
  intro k u hp
  have hm : k = k1 (okC p0 p1) ∧ (k = 0 → u 96 = oJ E (iZ (op (p0 * 5 + p1))).toInt64) ∧ CLS E u hv se sf ll nx ct (op, lk, kp, wc, pn, nw, sh, wk) S HB tx ln lq ∧ OUT E u ∧ ∀ j : Nat, 85 ≤ j → j ≠ 96 → u j = σ j := by
    rcases hp with ⟨rfl, z, u0, ⟨hzz, f1, hu⟩, e96, f96⟩ | ⟨rfl, hx⟩
    · exact ⟨(k1_0 f1).symm, fun _ => by rw [← hzz]; exact e96, hC.fr (fun j hj => (f96 j (by omega)).trans (by rw [hu])), hO.put e96 ((f96 97 (by omega)).trans (by rw [hu])), (fun j h0 h1 => (f96 j h1).trans (by rw [hu]))⟩
    · obtain ⟨hq, hu⟩ := hx
      obtain ⟨e_, q⟩ := hq
      exact ⟨(k1_1 q).symm, fun h => absurd h (by decide), by rw [hu]; exact hC, by rw [hu]; exact hO, (fun j _ _ => by rw [hu])⟩
  obtain ⟨hk, h96, hC2, hO2, fr85⟩ := hm
  subst hk
  have hM2 := hM.fr (u := u) (fun j h0 h1 => fr85 j h0 (by omega))
  obtain ⟨⟨sz, sp, wr, to, m0⟩, m1, ⟨w2, m2⟩, ⟨w3, m3⟩, m4, m5, ⟨w6, m6⟩, ⟨F9, m7, m7r⟩, m8, m9, nu, m10, m11⟩ := hM2
  refine ⟨⟨_, m0⟩, _, (c_X7_openings l E ST hSF u p0 p1 _ _ _ _ _ _ _ _ _ _ _ _ _ _ _ _ _ _ _ _ m0 m1 hCp hB r0 r1), ?_⟩
  intro b t hq
  obtain ⟨qb, ⟨a0, a1⟩, fr⟩ := hq
  have hkb := k1_b (okC p0 p1)
  have hqb : k1 (okC p0 p1) = 0 → b = op (p0 * 5 + p1) := fun h0 => qb (k1_is.mp h0)
  exact qry_fin hK hC2 hO2 ⟨⟨_, _, _, _, a0⟩, a1, ⟨_, (fr 87 (by omega)).trans m2⟩, ⟨_, (fr 88 (by omega)).trans m3⟩, (fr 89 (by omega)).trans m4, (fr 90 (by omega)).trans m5, ⟨_, (fr 91 (by omega)).trans m6⟩, ⟨_, (fr 92 (by omega)).trans m7, m7r⟩, (fr 93 (by omega)).trans m8, (fr 94 (by omega)).trans m9, _, (fr 95 (by omega)).trans m10, m11⟩ (fun j h => fr j (by omega)) ⟨hkb.1, by omega⟩ (fun h0 => by rw [hqb h0]; exact h96 h0)
set_option maxRecDepth 100000 in
set_option maxHeartbeats 4000000 in
theorem s_isPinned (l : Launch) (E : xE) (ST : xST) (hSF : SF ST) (hSX : SX ST) (htr : l.stackTraces = false) {n : Int} {σ : xW} (hn : 0 ≤ n ∧ n ≤ 600) (hI : INV n E σ) (p0 : Int) (p1 : Int) (r0 : rg p0) (r1 : rg p1) : ∃ P : Int → xW → Prop, CI l E ST yL_isPinned wsL_isPinned rm_L_isPinned [.ref (xad E 0), .int (iZ p0), .int (iZ p1), .ref (xad E 96)] σ P ∧ ∀ (k : Int) (u : xW), P k u → (∃ fs : List Value, u 85 = oB 5 fs) ∧ ∃ Q : Int → xW → Prop, CI l E ST yX7_isPinned wsX7_isPinned rm_X7_isPinned [.ref (xad E 85), .int (iZ p0), .int (iZ p1)] u Q ∧ ∀ (b : Int) (t : xW), Q b t → FINB n E t k b := by
  obtain ⟨th, hth, hv, se, sf, ll, nx, ct, B, S, HB, tx, ln, lq, sv, re, ea, fa, ty, li, v, vs, hF, lf, hC, hM, hO, hK⟩ := hI
  obtain ⟨op, lk, kp, wc, pn, nw, sh, wk⟩ := B
  obtain ⟨c0, c1, c2, ⟨X7, c3⟩, ⟨X13, c4⟩, c5, c6, ⟨le, rl, fs, qu, gr, c7⟩, ⟨cs, cm, va, c8, c9⟩, c10⟩ := id hC
  have c2 : bd E σ 1 op lk kp wc pn nw sh wk := c2
  obtain ⟨⟨hB, hCp, ⟨hsh0, hsh1⟩, hwk0, hwk1⟩, ⟨hsv, hS9⟩, ⟨hnx, hct, hre, hhr, hHi⟩, ⟨hea, hfa, hse, hsf⟩, ⟨hty, hln, htx⟩, hli, hll, hlqf, hlq, hlf⟩ := id hK
  have hB : BI op lk kp wc pn nw := hB
  have hCp : Cp v op lk kp wc pn nw sh wk := hCp
  have hsh0 : 0 ≤ sh := hsh0
  have hsh1 : sh ≤ 1000 * n := hsh1
  have hwk0 : 0 ≤ wk := hwk0
  have hwk1 : wk ≤ 1000 * n := hwk1
  have hhb := hsl_rg hnx.1 hnx.2
  have hnw : 0 ≤ nw ∧ nw ≤ 3 := hB.2.2.2.2.2
  have hse9 : rg se := ⟨by omega, by omega⟩
  have hsf9 : rg sf := ⟨by omega, by omega⟩
  have hea9 : rg ea := ⟨by omega, by omega⟩
  have hfa9 : rg fa := ⟨by omega, by omega⟩
  refine ⟨_, c_L_isPinned l E ST hSF hSX σ p0 p1 (c_X6_isPinned l E ST hSF htr σ p0 p1 _ _ _ _ _ _ _ _ _ _ _ _ c0 c2 hB r0 r1) c0 (fun z u h => by obtain ⟨hzz, f1, hu⟩ := h; rw [hu]; exact hO.1) (fun z u h => ⟨_, h.1⟩) (fun nm u h => h.1.1), ?_⟩
  intro k u hp
  have hm : k = k1 (okC p0 p1) ∧ (k = 0 → u 96 = oJ E (iZ (b2 (decide (iandZ (ishrZ pn (p0 * 5 + p1)) 1 = 1)))).toInt64) ∧ CLS E u hv se sf ll nx ct (op, lk, kp, wc, pn, nw, sh, wk) S HB tx ln lq ∧ OUT E u ∧ ∀ j : Nat, 85 ≤ j → j ≠ 96 → u j = σ j := by
    rcases hp with ⟨rfl, z, u0, ⟨hzz, f1, hu⟩, e96, f96⟩ | ⟨rfl, hx⟩
    · exact ⟨(k1_0 f1).symm, fun _ => by rw [← hzz]; exact e96, hC.fr (fun j hj => (f96 j (by omega)).trans (by rw [hu])), hO.put e96 ((f96 97 (by omega)).trans (by rw [hu])), (fun j h0 h1 => (f96 j h1).trans (by rw [hu]))⟩
    · obtain ⟨hq, hu⟩ := hx
      obtain ⟨e_, q⟩ := hq
      exact ⟨(k1_1 q).symm, fun h => absurd h (by decide), by rw [hu]; exact hC, by rw [hu]; exact hO, (fun j _ _ => by rw [hu])⟩
  obtain ⟨hk, h96, hC2, hO2, fr85⟩ := hm
  subst hk
  have hM2 := hM.fr (u := u) (fun j h0 h1 => fr85 j h0 (by omega))
  obtain ⟨⟨sz, sp, wr, to, m0⟩, m1, ⟨w2, m2⟩, ⟨w3, m3⟩, m4, m5, ⟨w6, m6⟩, ⟨F9, m7, m7r⟩, m8, m9, nu, m10, m11⟩ := hM2
  refine ⟨⟨_, m0⟩, _, (c_X7_isPinned l E ST hSF u p0 p1 _ _ _ _ _ _ _ _ _ _ _ _ _ _ _ _ _ _ _ _ m0 m1 hCp hB r0 r1), ?_⟩
  intro b t hq
  obtain ⟨qb, ⟨a0, a1⟩, fr⟩ := hq
  have hkb := k1_b (okC p0 p1)
  have hqb : k1 (okC p0 p1) = 0 → b = b2 (decide (iandZ (ishrZ pn (p0 * 5 + p1)) 1 = 1)) := fun h0 => by rw [qb]; exact congrArg b2 (decide_eq_decide.mpr ⟨fun q => q.2, fun q => ⟨k1_is.mp h0, q⟩⟩)
  exact ⟨qry_fin hK hC2 hO2 ⟨⟨_, _, _, _, a0⟩, a1, ⟨_, (fr 87 (by omega)).trans m2⟩, ⟨_, (fr 88 (by omega)).trans m3⟩, (fr 89 (by omega)).trans m4, (fr 90 (by omega)).trans m5, ⟨_, (fr 91 (by omega)).trans m6⟩, ⟨_, (fr 92 (by omega)).trans m7, m7r⟩, (fr 93 (by omega)).trans m8, (fr 94 (by omega)).trans m9, _, (fr 95 (by omega)).trans m10, m11⟩ (fun j h => fr j (by omega)) ⟨hkb.1, by omega⟩ (fun h0 => by rw [hqb h0]; exact h96 h0), (fun h0 => by rw [hqb h0]; exact b2_01 _)⟩
set_option maxRecDepth 100000 in
set_option maxHeartbeats 4000000 in
theorem s_canShiftRow (l : Launch) (E : xE) (ST : xST) (hSF : SF ST) (hSX : SX ST) (htr : l.stackTraces = false) {n : Int} {σ : xW} (hn : 0 ≤ n ∧ n ≤ 600) (hI : INV n E σ) (p0 : Int) (r0 : rg p0) : ∃ P : Int → xW → Prop, CI l E ST yL_canShiftRow wsL_canShiftRow rm_L_canShiftRow [.ref (xad E 0), .int (iZ p0), .ref (xad E 96)] σ P ∧ ∀ (k : Int) (u : xW), P k u → (∃ fs : List Value, u 85 = oB 5 fs) ∧ ∃ Q : Int → xW → Prop, CI l E ST yX7_canShiftRow wsX7_canShiftRow rm_X7_canShiftRow [.ref (xad E 85), .int (iZ p0)] u Q ∧ ∀ (b : Int) (t : xW), Q b t → FINB n E t k b := by
  obtain ⟨th, hth, hv, se, sf, ll, nx, ct, B, S, HB, tx, ln, lq, sv, re, ea, fa, ty, li, v, vs, hF, lf, hC, hM, hO, hK⟩ := hI
  obtain ⟨op, lk, kp, wc, pn, nw, sh, wk⟩ := B
  obtain ⟨c0, c1, c2, ⟨X7, c3⟩, ⟨X13, c4⟩, c5, c6, ⟨le, rl, fs, qu, gr, c7⟩, ⟨cs, cm, va, c8, c9⟩, c10⟩ := id hC
  have c2 : bd E σ 1 op lk kp wc pn nw sh wk := c2
  obtain ⟨⟨hB, hCp, ⟨hsh0, hsh1⟩, hwk0, hwk1⟩, ⟨hsv, hS9⟩, ⟨hnx, hct, hre, hhr, hHi⟩, ⟨hea, hfa, hse, hsf⟩, ⟨hty, hln, htx⟩, hli, hll, hlqf, hlq, hlf⟩ := id hK
  have hB : BI op lk kp wc pn nw := hB
  have hCp : Cp v op lk kp wc pn nw sh wk := hCp
  have hsh0 : 0 ≤ sh := hsh0
  have hsh1 : sh ≤ 1000 * n := hsh1
  have hwk0 : 0 ≤ wk := hwk0
  have hwk1 : wk ≤ 1000 * n := hwk1
  have hhb := hsl_rg hnx.1 hnx.2
  have hnw : 0 ≤ nw ∧ nw ≤ 3 := hB.2.2.2.2.2
  have hse9 : rg se := ⟨by omega, by omega⟩
  have hsf9 : rg sf := ⟨by omega, by omega⟩
  have hea9 : rg ea := ⟨by omega, by omega⟩
  have hfa9 : rg fa := ⟨by omega, by omega⟩
  refine ⟨_, c_L_canShiftRow l E ST hSF hSX σ p0 (c_X6_canShiftRow l E ST hSF htr σ p0 _ _ _ _ _ _ _ _ _ _ _ _ c0 c2 hB r0) c0 (fun z u h => by obtain ⟨hzz, f1, hu⟩ := h; rw [hu]; exact hO.1) (fun z u h => ⟨_, h.1⟩) (fun nm u h => h.1.1), ?_⟩
  intro k u hp
  have hm : k = k1 (0 ≤ p0 ∧ p0 < 5) ∧ (k = 0 → u 96 = oJ E (iZ (b2 (lfB pn (p0 * 5) 1))).toInt64) ∧ CLS E u hv se sf ll nx ct (op, lk, kp, wc, pn, nw, sh, wk) S HB tx ln lq ∧ OUT E u ∧ ∀ j : Nat, 85 ≤ j → j ≠ 96 → u j = σ j := by
    rcases hp with ⟨rfl, z, u0, ⟨hzz, f1, hu⟩, e96, f96⟩ | ⟨rfl, hx⟩
    · exact ⟨(k1_0 f1).symm, fun _ => by rw [← hzz]; exact e96, hC.fr (fun j hj => (f96 j (by omega)).trans (by rw [hu])), hO.put e96 ((f96 97 (by omega)).trans (by rw [hu])), (fun j h0 h1 => (f96 j h1).trans (by rw [hu]))⟩
    · obtain ⟨hq, hu⟩ := hx
      obtain ⟨e_, q⟩ := hq
      exact ⟨(k1_1 q).symm, fun h => absurd h (by decide), by rw [hu]; exact hC, by rw [hu]; exact hO, (fun j _ _ => by rw [hu])⟩
  obtain ⟨hk, h96, hC2, hO2, fr85⟩ := hm
  subst hk
  have hM2 := hM.fr (u := u) (fun j h0 h1 => fr85 j h0 (by omega))
  obtain ⟨⟨sz, sp, wr, to, m0⟩, m1, ⟨w2, m2⟩, ⟨w3, m3⟩, m4, m5, ⟨w6, m6⟩, ⟨F9, m7, m7r⟩, m8, m9, nu, m10, m11⟩ := hM2
  refine ⟨⟨_, m0⟩, _, (c_X7_canShiftRow l E ST hSF u p0 _ _ _ _ _ _ _ _ _ _ _ _ _ _ _ _ _ _ _ _ m0 m1 hCp hB r0), ?_⟩
  intro b t hq
  obtain ⟨qb, ⟨a0, a1⟩, fr⟩ := hq
  have hkb := k1_b (0 ≤ p0 ∧ p0 < 5)
  have hqb : k1 (0 ≤ p0 ∧ p0 < 5) = 0 → b = b2 (lfB pn (p0 * 5) 1) := fun h0 => by rw [qb, dB_t (k1_is.mp h0)]; rfl
  exact ⟨qry_fin hK hC2 hO2 ⟨⟨_, _, _, _, a0⟩, a1, ⟨_, (fr 87 (by omega)).trans m2⟩, ⟨_, (fr 88 (by omega)).trans m3⟩, (fr 89 (by omega)).trans m4, (fr 90 (by omega)).trans m5, ⟨_, (fr 91 (by omega)).trans m6⟩, ⟨_, (fr 92 (by omega)).trans m7, m7r⟩, (fr 93 (by omega)).trans m8, (fr 94 (by omega)).trans m9, _, (fr 95 (by omega)).trans m10, m11⟩ (fun j h => fr j (by omega)) ⟨hkb.1, by omega⟩ (fun h0 => by rw [hqb h0]; exact h96 h0), (fun h0 => by rw [hqb h0]; exact b2_01 _)⟩
set_option maxRecDepth 100000 in
set_option maxHeartbeats 4000000 in
theorem s_canShiftColumn (l : Launch) (E : xE) (ST : xST) (hSF : SF ST) (hSX : SX ST) (htr : l.stackTraces = false) {n : Int} {σ : xW} (hn : 0 ≤ n ∧ n ≤ 600) (hI : INV n E σ) (p0 : Int) (r0 : rg p0) : ∃ P : Int → xW → Prop, CI l E ST yL_canShiftColumn wsL_canShiftColumn rm_L_canShiftColumn [.ref (xad E 0), .int (iZ p0), .ref (xad E 96)] σ P ∧ ∀ (k : Int) (u : xW), P k u → (∃ fs : List Value, u 85 = oB 5 fs) ∧ ∃ Q : Int → xW → Prop, CI l E ST yX7_canShiftColumn wsX7_canShiftColumn rm_X7_canShiftColumn [.ref (xad E 85), .int (iZ p0)] u Q ∧ ∀ (b : Int) (t : xW), Q b t → FINB n E t k b := by
  obtain ⟨th, hth, hv, se, sf, ll, nx, ct, B, S, HB, tx, ln, lq, sv, re, ea, fa, ty, li, v, vs, hF, lf, hC, hM, hO, hK⟩ := hI
  obtain ⟨op, lk, kp, wc, pn, nw, sh, wk⟩ := B
  obtain ⟨c0, c1, c2, ⟨X7, c3⟩, ⟨X13, c4⟩, c5, c6, ⟨le, rl, fs, qu, gr, c7⟩, ⟨cs, cm, va, c8, c9⟩, c10⟩ := id hC
  have c2 : bd E σ 1 op lk kp wc pn nw sh wk := c2
  obtain ⟨⟨hB, hCp, ⟨hsh0, hsh1⟩, hwk0, hwk1⟩, ⟨hsv, hS9⟩, ⟨hnx, hct, hre, hhr, hHi⟩, ⟨hea, hfa, hse, hsf⟩, ⟨hty, hln, htx⟩, hli, hll, hlqf, hlq, hlf⟩ := id hK
  have hB : BI op lk kp wc pn nw := hB
  have hCp : Cp v op lk kp wc pn nw sh wk := hCp
  have hsh0 : 0 ≤ sh := hsh0
  have hsh1 : sh ≤ 1000 * n := hsh1
  have hwk0 : 0 ≤ wk := hwk0
  have hwk1 : wk ≤ 1000 * n := hwk1
  have hhb := hsl_rg hnx.1 hnx.2
  have hnw : 0 ≤ nw ∧ nw ≤ 3 := hB.2.2.2.2.2
  have hse9 : rg se := ⟨by omega, by omega⟩
  have hsf9 : rg sf := ⟨by omega, by omega⟩
  have hea9 : rg ea := ⟨by omega, by omega⟩
  have hfa9 : rg fa := ⟨by omega, by omega⟩
  refine ⟨_, c_L_canShiftColumn l E ST hSF hSX σ p0 (c_X6_canShiftColumn l E ST hSF htr σ p0 _ _ _ _ _ _ _ _ _ _ _ _ c0 c2 hB r0) c0 (fun z u h => by obtain ⟨hzz, f1, hu⟩ := h; rw [hu]; exact hO.1) (fun z u h => ⟨_, h.1⟩) (fun nm u h => h.1.1), ?_⟩
  intro k u hp
  have hm : k = k1 (0 ≤ p0 ∧ p0 < 5) ∧ (k = 0 → u 96 = oJ E (iZ (b2 (lfB pn p0 5))).toInt64) ∧ CLS E u hv se sf ll nx ct (op, lk, kp, wc, pn, nw, sh, wk) S HB tx ln lq ∧ OUT E u ∧ ∀ j : Nat, 85 ≤ j → j ≠ 96 → u j = σ j := by
    rcases hp with ⟨rfl, z, u0, ⟨hzz, f1, hu⟩, e96, f96⟩ | ⟨rfl, hx⟩
    · exact ⟨(k1_0 f1).symm, fun _ => by rw [← hzz]; exact e96, hC.fr (fun j hj => (f96 j (by omega)).trans (by rw [hu])), hO.put e96 ((f96 97 (by omega)).trans (by rw [hu])), (fun j h0 h1 => (f96 j h1).trans (by rw [hu]))⟩
    · obtain ⟨hq, hu⟩ := hx
      obtain ⟨e_, q⟩ := hq
      exact ⟨(k1_1 q).symm, fun h => absurd h (by decide), by rw [hu]; exact hC, by rw [hu]; exact hO, (fun j _ _ => by rw [hu])⟩
  obtain ⟨hk, h96, hC2, hO2, fr85⟩ := hm
  subst hk
  have hM2 := hM.fr (u := u) (fun j h0 h1 => fr85 j h0 (by omega))
  obtain ⟨⟨sz, sp, wr, to, m0⟩, m1, ⟨w2, m2⟩, ⟨w3, m3⟩, m4, m5, ⟨w6, m6⟩, ⟨F9, m7, m7r⟩, m8, m9, nu, m10, m11⟩ := hM2
  refine ⟨⟨_, m0⟩, _, (c_X7_canShiftColumn l E ST hSF u p0 _ _ _ _ _ _ _ _ _ _ _ _ _ _ _ _ _ _ _ _ m0 m1 hCp hB r0), ?_⟩
  intro b t hq
  obtain ⟨qb, ⟨a0, a1⟩, fr⟩ := hq
  have hkb := k1_b (0 ≤ p0 ∧ p0 < 5)
  have hqb : k1 (0 ≤ p0 ∧ p0 < 5) = 0 → b = b2 (lfB pn p0 5) := fun h0 => by rw [qb, dB_t (k1_is.mp h0)]; rfl
  exact ⟨qry_fin hK hC2 hO2 ⟨⟨_, _, _, _, a0⟩, a1, ⟨_, (fr 87 (by omega)).trans m2⟩, ⟨_, (fr 88 (by omega)).trans m3⟩, (fr 89 (by omega)).trans m4, (fr 90 (by omega)).trans m5, ⟨_, (fr 91 (by omega)).trans m6⟩, ⟨_, (fr 92 (by omega)).trans m7, m7r⟩, (fr 93 (by omega)).trans m8, (fr 94 (by omega)).trans m9, _, (fr 95 (by omega)).trans m10, m11⟩ (fun j h => fr j (by omega)) ⟨hkb.1, by omega⟩ (fun h0 => by rw [hqb h0]; exact h96 h0), (fun h0 => by rw [hqb h0]; exact b2_01 _)⟩
set_option maxRecDepth 100000 in
set_option maxHeartbeats 4000000 in
theorem s_hasLock (l : Launch) (E : xE) (ST : xST) (hSF : SF ST) (hSX : SX ST) (htr : l.stackTraces = false) {n : Int} {σ : xW} (hn : 0 ≤ n ∧ n ≤ 600) (hI : INV n E σ) (p0 : Int) (p1 : Int) (r0 : rg p0) (r1 : rg p1) : ∃ P : Int → xW → Prop, CI l E ST yL_hasLock wsL_hasLock rm_L_hasLock [.ref (xad E 0), .int (iZ p0), .int (iZ p1), .ref (xad E 96)] σ P ∧ ∀ (k : Int) (u : xW), P k u → (∃ fs : List Value, u 85 = oB 5 fs) ∧ ∃ Q : Int → xW → Prop, CI l E ST yX7_hasLock wsX7_hasLock rm_X7_hasLock [.ref (xad E 85), .int (iZ p0), .int (iZ p1)] u Q ∧ ∀ (b : Int) (t : xW), Q b t → FINB n E t k b := by
  obtain ⟨th, hth, hv, se, sf, ll, nx, ct, B, S, HB, tx, ln, lq, sv, re, ea, fa, ty, li, v, vs, hF, lf, hC, hM, hO, hK⟩ := hI
  obtain ⟨op, lk, kp, wc, pn, nw, sh, wk⟩ := B
  obtain ⟨c0, c1, c2, ⟨X7, c3⟩, ⟨X13, c4⟩, c5, c6, ⟨le, rl, fs, qu, gr, c7⟩, ⟨cs, cm, va, c8, c9⟩, c10⟩ := id hC
  have c2 : bd E σ 1 op lk kp wc pn nw sh wk := c2
  obtain ⟨⟨hB, hCp, ⟨hsh0, hsh1⟩, hwk0, hwk1⟩, ⟨hsv, hS9⟩, ⟨hnx, hct, hre, hhr, hHi⟩, ⟨hea, hfa, hse, hsf⟩, ⟨hty, hln, htx⟩, hli, hll, hlqf, hlq, hlf⟩ := id hK
  have hB : BI op lk kp wc pn nw := hB
  have hCp : Cp v op lk kp wc pn nw sh wk := hCp
  have hsh0 : 0 ≤ sh := hsh0
  have hsh1 : sh ≤ 1000 * n := hsh1
  have hwk0 : 0 ≤ wk := hwk0
  have hwk1 : wk ≤ 1000 * n := hwk1
  have hhb := hsl_rg hnx.1 hnx.2
  have hnw : 0 ≤ nw ∧ nw ≤ 3 := hB.2.2.2.2.2
  have hse9 : rg se := ⟨by omega, by omega⟩
  have hsf9 : rg sf := ⟨by omega, by omega⟩
  have hea9 : rg ea := ⟨by omega, by omega⟩
  have hfa9 : rg fa := ⟨by omega, by omega⟩
  refine ⟨_, c_L_hasLock l E ST hSF hSX σ p0 p1 (c_X6_hasLock l E ST hSF htr σ p0 p1 _ _ _ _ _ _ _ _ _ _ _ _ c0 c2 hB r0 r1) c0 (fun z u h => by obtain ⟨hzz, f1, hu⟩ := h; rw [hu]; exact hO.1) (fun z u h => ⟨_, h.1⟩) (fun nm u h => h.1.1), ?_⟩
  intro k u hp
  have hm : k = k1 (okC p0 p1) ∧ (k = 0 → u 96 = oJ E (iZ (b2 (decide (¬ lk (p0 * 5 + p1) = -1)))).toInt64) ∧ CLS E u hv se sf ll nx ct (op, lk, kp, wc, pn, nw, sh, wk) S HB tx ln lq ∧ OUT E u ∧ ∀ j : Nat, 85 ≤ j → j ≠ 96 → u j = σ j := by
    rcases hp with ⟨rfl, z, u0, ⟨hzz, f1, hu⟩, e96, f96⟩ | ⟨rfl, hx⟩
    · exact ⟨(k1_0 f1).symm, fun _ => by rw [← hzz]; exact e96, hC.fr (fun j hj => (f96 j (by omega)).trans (by rw [hu])), hO.put e96 ((f96 97 (by omega)).trans (by rw [hu])), (fun j h0 h1 => (f96 j h1).trans (by rw [hu]))⟩
    · obtain ⟨hq, hu⟩ := hx
      obtain ⟨e_, q⟩ := hq
      exact ⟨(k1_1 q).symm, fun h => absurd h (by decide), by rw [hu]; exact hC, by rw [hu]; exact hO, (fun j _ _ => by rw [hu])⟩
  obtain ⟨hk, h96, hC2, hO2, fr85⟩ := hm
  subst hk
  have hM2 := hM.fr (u := u) (fun j h0 h1 => fr85 j h0 (by omega))
  obtain ⟨⟨sz, sp, wr, to, m0⟩, m1, ⟨w2, m2⟩, ⟨w3, m3⟩, m4, m5, ⟨w6, m6⟩, ⟨F9, m7, m7r⟩, m8, m9, nu, m10, m11⟩ := hM2
  refine ⟨⟨_, m0⟩, _, (c_X7_hasLock l E ST hSF u p0 p1 _ _ _ _ _ _ _ _ _ _ _ _ _ _ _ _ _ _ _ _ m0 m1 hCp hB r0 r1), ?_⟩
  intro b t hq
  obtain ⟨qb, ⟨a0, a1⟩, fr⟩ := hq
  have hkb := k1_b (okC p0 p1)
  have hqb : k1 (okC p0 p1) = 0 → b = b2 (decide (¬ lk (p0 * 5 + p1) = -1)) := fun h0 => by rw [qb]; exact congrArg b2 (decide_eq_decide.mpr ⟨fun q => q.2, fun q => ⟨k1_is.mp h0, q⟩⟩)
  exact ⟨qry_fin hK hC2 hO2 ⟨⟨_, _, _, _, a0⟩, a1, ⟨_, (fr 87 (by omega)).trans m2⟩, ⟨_, (fr 88 (by omega)).trans m3⟩, (fr 89 (by omega)).trans m4, (fr 90 (by omega)).trans m5, ⟨_, (fr 91 (by omega)).trans m6⟩, ⟨_, (fr 92 (by omega)).trans m7, m7r⟩, (fr 93 (by omega)).trans m8, (fr 94 (by omega)).trans m9, _, (fr 95 (by omega)).trans m10, m11⟩ (fun j h => fr j (by omega)) ⟨hkb.1, by omega⟩ (fun h0 => by rw [hqb h0]; exact h96 h0), (fun h0 => by rw [hqb h0]; exact b2_01 _)⟩
set_option maxRecDepth 100000 in
set_option maxHeartbeats 4000000 in
theorem s_lockAt (l : Launch) (E : xE) (ST : xST) (hSF : SF ST) (hSX : SX ST) (htr : l.stackTraces = false) {n : Int} {σ : xW} (hn : 0 ≤ n ∧ n ≤ 600) (hI : INV n E σ) (p0 : Int) (p1 : Int) (r0 : rg p0) (r1 : rg p1) : ∃ P : Int → xW → Prop, CI l E ST yL_lockAt wsL_lockAt rm_L_lockAt [.ref (xad E 0), .int (iZ p0), .int (iZ p1), .ref (xad E 96)] σ P ∧ ∀ (k : Int) (u : xW), P k u → (∃ fs : List Value, u 85 = oB 5 fs) ∧ ∃ Q : Int → xW → Prop, CI l E ST yX7_lockAt wsX7_lockAt rm_X7_lockAt [.ref (xad E 85), .int (iZ p0), .int (iZ p1)] u Q ∧ ∀ (b : Int) (t : xW), Q b t → FIN n E t k b := by
  obtain ⟨th, hth, hv, se, sf, ll, nx, ct, B, S, HB, tx, ln, lq, sv, re, ea, fa, ty, li, v, vs, hF, lf, hC, hM, hO, hK⟩ := hI
  obtain ⟨op, lk, kp, wc, pn, nw, sh, wk⟩ := B
  obtain ⟨c0, c1, c2, ⟨X7, c3⟩, ⟨X13, c4⟩, c5, c6, ⟨le, rl, fs, qu, gr, c7⟩, ⟨cs, cm, va, c8, c9⟩, c10⟩ := id hC
  have c2 : bd E σ 1 op lk kp wc pn nw sh wk := c2
  obtain ⟨⟨hB, hCp, ⟨hsh0, hsh1⟩, hwk0, hwk1⟩, ⟨hsv, hS9⟩, ⟨hnx, hct, hre, hhr, hHi⟩, ⟨hea, hfa, hse, hsf⟩, ⟨hty, hln, htx⟩, hli, hll, hlqf, hlq, hlf⟩ := id hK
  have hB : BI op lk kp wc pn nw := hB
  have hCp : Cp v op lk kp wc pn nw sh wk := hCp
  have hsh0 : 0 ≤ sh := hsh0
  have hsh1 : sh ≤ 1000 * n := hsh1
  have hwk0 : 0 ≤ wk := hwk0
  have hwk1 : wk ≤ 1000 * n := hwk1
  have hhb := hsl_rg hnx.1 hnx.2
  have hnw : 0 ≤ nw ∧ nw ≤ 3 := hB.2.2.2.2.2
  have hse9 : rg se := ⟨by omega, by omega⟩
  have hsf9 : rg sf := ⟨by omega, by omega⟩
  have hea9 : rg ea := ⟨by omega, by omega⟩
  have hfa9 : rg fa := ⟨by omega, by omega⟩
  refine ⟨_, c_L_lockAt l E ST hSF hSX σ p0 p1 (c_X6_lockAt l E ST hSF htr σ p0 p1 _ _ _ _ _ _ _ _ _ _ _ _ c0 c2 hB r0 r1) c0 (fun z u h => by obtain ⟨hzz, f1, f2, hu⟩ := h; rw [hu]; exact hO.1) (fun nm u h => by rcases h.1 with ⟨e_, q⟩ | ⟨e_, q⟩ <;> first | exact Or.inl e_ | exact Or.inr (e_)), ?_⟩
  intro k u hp
  have hm : k = k2 (okC p0 p1) (¬ lk (p0 * 5 + p1) = -1) ∧ (k = 0 → u 96 = oJ E (iZ (97 + lk (p0 * 5 + p1))).toInt64) ∧ CLS E u hv se sf ll nx ct (op, lk, kp, wc, pn, nw, sh, wk) S HB tx ln lq ∧ OUT E u ∧ ∀ j : Nat, 85 ≤ j → j ≠ 96 → u j = σ j := by
    rcases hp with ⟨rfl, z, u0, ⟨hzz, f1, f2, hu⟩, e96, f96⟩ | ⟨rfl, hx⟩ | ⟨rfl, hx⟩
    · exact ⟨(k2_0 f1 f2).symm, fun _ => by rw [← hzz]; exact e96, hC.fr (fun j hj => (f96 j (by omega)).trans (by rw [hu])), hO.put e96 ((f96 97 (by omega)).trans (by rw [hu])), (fun j h0 h1 => (f96 j h1).trans (by rw [hu]))⟩
    · obtain ⟨hq, hu⟩ := hx
      rcases hq with ⟨e_, q⟩ | ⟨e_, q⟩
      · exact ⟨(k2_1 q).symm, fun h => absurd h (by decide), by rw [hu]; exact hC, by rw [hu]; exact hO, (fun j _ _ => by rw [hu])⟩
      · exact absurd e_ (by decide +kernel)
    · obtain ⟨hq, hu⟩ := hx
      rcases hq with ⟨e_, q⟩ | ⟨e_, q⟩
      · exact absurd e_ (by decide +kernel)
      · exact ⟨(k2_2 q.1 (fun z => z q.2)).symm, fun h => absurd h (by decide), by rw [hu]; exact hC, by rw [hu]; exact hO, (fun j _ _ => by rw [hu])⟩
  obtain ⟨hk, h96, hC2, hO2, fr85⟩ := hm
  subst hk
  have hM2 := hM.fr (u := u) (fun j h0 h1 => fr85 j h0 (by omega))
  obtain ⟨⟨sz, sp, wr, to, m0⟩, m1, ⟨w2, m2⟩, ⟨w3, m3⟩, m4, m5, ⟨w6, m6⟩, ⟨F9, m7, m7r⟩, m8, m9, nu, m10, m11⟩ := hM2
  refine ⟨⟨_, m0⟩, _, (c_X7_lockAt l E ST hSF u p0 p1 _ _ _ _ _ _ _ _ _ _ _ _ _ _ _ _ _ _ _ _ m0 m1 hCp hB r0 r1), ?_⟩
  intro b t hq
  obtain ⟨qb, ⟨a0, a1⟩, fr⟩ := hq
  have hkb := k2_b (okC p0 p1) (¬ lk (p0 * 5 + p1) = -1)
  have hqb : k2 (okC p0 p1) (¬ lk (p0 * 5 + p1) = -1) = 0 → b = 97 + lk (p0 * 5 + p1) := fun h0 => qb h0
  exact qry_fin hK hC2 hO2 ⟨⟨_, _, _, _, a0⟩, a1, ⟨_, (fr 87 (by omega)).trans m2⟩, ⟨_, (fr 88 (by omega)).trans m3⟩, (fr 89 (by omega)).trans m4, (fr 90 (by omega)).trans m5, ⟨_, (fr 91 (by omega)).trans m6⟩, ⟨_, (fr 92 (by omega)).trans m7, m7r⟩, (fr 93 (by omega)).trans m8, (fr 94 (by omega)).trans m9, _, (fr 95 (by omega)).trans m10, m11⟩ (fun j h => fr j (by omega)) ⟨hkb.1, by omega⟩ (fun h0 => by rw [hqb h0]; exact h96 h0)
set_option maxRecDepth 100000 in
set_option maxHeartbeats 4000000 in
theorem s_keysAt (l : Launch) (E : xE) (ST : xST) (hSF : SF ST) (hSX : SX ST) (htr : l.stackTraces = false) {n : Int} {σ : xW} (hn : 0 ≤ n ∧ n ≤ 600) (hI : INV n E σ) (p0 : Int) (p1 : Int) (r0 : rg p0) (r1 : rg p1) : ∃ P : Int → xW → Prop, CI l E ST yL_keysAt wsL_keysAt rm_L_keysAt [.ref (xad E 0), .int (iZ p0), .int (iZ p1), .ref (xad E 96)] σ P ∧ ∀ (k : Int) (u : xW), P k u → (∃ fs : List Value, u 85 = oB 5 fs) ∧ ∃ Q : Int → xW → Prop, CI l E ST yX7_keysAt wsX7_keysAt rm_X7_keysAt [.ref (xad E 85), .int (iZ p0), .int (iZ p1)] u Q ∧ ∀ (b : Int) (t : xW), Q b t → FIN n E t k b := by
  obtain ⟨th, hth, hv, se, sf, ll, nx, ct, B, S, HB, tx, ln, lq, sv, re, ea, fa, ty, li, v, vs, hF, lf, hC, hM, hO, hK⟩ := hI
  obtain ⟨op, lk, kp, wc, pn, nw, sh, wk⟩ := B
  obtain ⟨c0, c1, c2, ⟨X7, c3⟩, ⟨X13, c4⟩, c5, c6, ⟨le, rl, fs, qu, gr, c7⟩, ⟨cs, cm, va, c8, c9⟩, c10⟩ := id hC
  have c2 : bd E σ 1 op lk kp wc pn nw sh wk := c2
  obtain ⟨⟨hB, hCp, ⟨hsh0, hsh1⟩, hwk0, hwk1⟩, ⟨hsv, hS9⟩, ⟨hnx, hct, hre, hhr, hHi⟩, ⟨hea, hfa, hse, hsf⟩, ⟨hty, hln, htx⟩, hli, hll, hlqf, hlq, hlf⟩ := id hK
  have hB : BI op lk kp wc pn nw := hB
  have hCp : Cp v op lk kp wc pn nw sh wk := hCp
  have hsh0 : 0 ≤ sh := hsh0
  have hsh1 : sh ≤ 1000 * n := hsh1
  have hwk0 : 0 ≤ wk := hwk0
  have hwk1 : wk ≤ 1000 * n := hwk1
  have hhb := hsl_rg hnx.1 hnx.2
  have hnw : 0 ≤ nw ∧ nw ≤ 3 := hB.2.2.2.2.2
  have hse9 : rg se := ⟨by omega, by omega⟩
  have hsf9 : rg sf := ⟨by omega, by omega⟩
  have hea9 : rg ea := ⟨by omega, by omega⟩
  have hfa9 : rg fa := ⟨by omega, by omega⟩
  refine ⟨_, c_L_keysAt l E ST hSF hSX σ p0 p1 (c_X6_keysAt l E ST hSF htr σ p0 p1 _ _ _ _ _ _ _ _ _ _ _ _ c0 c2 hB r0 r1) c0 (fun z u h => by obtain ⟨hzz, f1, hu⟩ := h; rw [hu]; exact hO.1) (fun nm u h => h.1.1), ?_⟩
  intro k u hp
  have hm : k = k1 (okC p0 p1) ∧ (k = 0 → u 96 = oJ E (iZ (cntK kp (p0 * 5 + p1) 6)).toInt64) ∧ CLS E u hv se sf ll nx ct (op, lk, kp, wc, pn, nw, sh, wk) S HB tx ln lq ∧ OUT E u ∧ ∀ j : Nat, 85 ≤ j → j ≠ 96 → u j = σ j := by
    rcases hp with ⟨rfl, z, u0, ⟨hzz, f1, hu⟩, e96, f96⟩ | ⟨rfl, hx⟩
    · exact ⟨(k1_0 f1).symm, fun _ => by rw [← hzz]; exact e96, hC.fr (fun j hj => (f96 j (by omega)).trans (by rw [hu])), hO.put e96 ((f96 97 (by omega)).trans (by rw [hu])), (fun j h0 h1 => (f96 j h1).trans (by rw [hu]))⟩
    · obtain ⟨hq, hu⟩ := hx
      obtain ⟨e_, q⟩ := hq
      exact ⟨(k1_1 q).symm, fun h => absurd h (by decide), by rw [hu]; exact hC, by rw [hu]; exact hO, (fun j _ _ => by rw [hu])⟩
  obtain ⟨hk, h96, hC2, hO2, fr85⟩ := hm
  subst hk
  have hM2 := hM.fr (u := u) (fun j h0 h1 => fr85 j h0 (by omega))
  obtain ⟨⟨sz, sp, wr, to, m0⟩, m1, ⟨w2, m2⟩, ⟨w3, m3⟩, m4, m5, ⟨w6, m6⟩, ⟨F9, m7, m7r⟩, m8, m9, nu, m10, m11⟩ := hM2
  refine ⟨⟨_, m0⟩, _, (c_X7_keysAt l E ST hSF u p0 p1 _ _ _ _ _ _ _ _ _ _ _ _ _ _ _ _ _ _ _ _ m0 m1 hCp hB r0 r1), ?_⟩
  intro b t hq
  obtain ⟨qb, ⟨a0, a1⟩, fr⟩ := hq
  have hkb := k1_b (okC p0 p1)
  have hqb : k1 (okC p0 p1) = 0 → b = cntK kp (p0 * 5 + p1) 6 := fun h0 => qb (k1_is.mp h0)
  exact qry_fin hK hC2 hO2 ⟨⟨_, _, _, _, a0⟩, a1, ⟨_, (fr 87 (by omega)).trans m2⟩, ⟨_, (fr 88 (by omega)).trans m3⟩, (fr 89 (by omega)).trans m4, (fr 90 (by omega)).trans m5, ⟨_, (fr 91 (by omega)).trans m6⟩, ⟨_, (fr 92 (by omega)).trans m7, m7r⟩, (fr 93 (by omega)).trans m8, (fr 94 (by omega)).trans m9, _, (fr 95 (by omega)).trans m10, m11⟩ (fun j h => fr j (by omega)) ⟨hkb.1, by omega⟩ (fun h0 => by rw [hqb h0]; exact h96 h0)
set_option maxRecDepth 100000 in
set_option maxHeartbeats 4000000 in
theorem s_isConnected (l : Launch) (E : xE) (ST : xST) (hSF : SF ST) (hSX : SX ST) (htr : l.stackTraces = false) {n : Int} {σ : xW} (hn : 0 ≤ n ∧ n ≤ 600) (hI : INV n E σ) (p0 : Int) (p1 : Int) (p2 : Int) (r0 : rg p0) (r1 : rg p1) (r2 : rg p2) : ∃ P : Int → xW → Prop, CI l E ST yL_isConnected wsL_isConnected rm_L_isConnected [.ref (xad E 0), .int (iZ p0), .int (iZ p1), .int (iZ p2), .ref (xad E 96)] σ P ∧ ∀ (k : Int) (u : xW), P k u → (∃ fs : List Value, u 85 = oB 5 fs) ∧ ∃ Q : Int → xW → Prop, CI l E ST yX7_isConnected wsX7_isConnected rm_X7_isConnected [.ref (xad E 85), .int (iZ p0), .int (iZ p1), .int (iZ p2)] u Q ∧ ∀ (b : Int) (t : xW), Q b t → FINB n E t k b := by
  obtain ⟨th, hth, hv, se, sf, ll, nx, ct, B, S, HB, tx, ln, lq, sv, re, ea, fa, ty, li, v, vs, hF, lf, hC, hM, hO, hK⟩ := hI
  obtain ⟨op, lk, kp, wc, pn, nw, sh, wk⟩ := B
  obtain ⟨c0, c1, c2, ⟨X7, c3⟩, ⟨X13, c4⟩, c5, c6, ⟨le, rl, fs, qu, gr, c7⟩, ⟨cs, cm, va, c8, c9⟩, c10⟩ := id hC
  have c2 : bd E σ 1 op lk kp wc pn nw sh wk := c2
  obtain ⟨⟨hB, hCp, ⟨hsh0, hsh1⟩, hwk0, hwk1⟩, ⟨hsv, hS9⟩, ⟨hnx, hct, hre, hhr, hHi⟩, ⟨hea, hfa, hse, hsf⟩, ⟨hty, hln, htx⟩, hli, hll, hlqf, hlq, hlf⟩ := id hK
  have hB : BI op lk kp wc pn nw := hB
  have hCp : Cp v op lk kp wc pn nw sh wk := hCp
  have hsh0 : 0 ≤ sh := hsh0
  have hsh1 : sh ≤ 1000 * n := hsh1
  have hwk0 : 0 ≤ wk := hwk0
  have hwk1 : wk ≤ 1000 * n := hwk1
  have hhb := hsl_rg hnx.1 hnx.2
  have hnw : 0 ≤ nw ∧ nw ≤ 3 := hB.2.2.2.2.2
  have hse9 : rg se := ⟨by omega, by omega⟩
  have hsf9 : rg sf := ⟨by omega, by omega⟩
  have hea9 : rg ea := ⟨by omega, by omega⟩
  have hfa9 : rg fa := ⟨by omega, by omega⟩
  refine ⟨_, c_L_isConnected l E ST hSF hSX σ p0 p1 p2 (c_X6_isConnected l E ST hSF htr σ p0 p1 p2 _ _ _ _ _ _ _ _ _ _ _ _ c0 c2 hB r0 r1 r2) c0 (fun z u h => by obtain ⟨hzz, f1, f2, hu⟩ := h; rw [hu]; exact hO.1) (fun z u h => ⟨_, h.1⟩) (fun nm u h => by rcases h.1 with ⟨e_, q⟩ | ⟨e_, q⟩ <;> first | exact Or.inl e_ | exact Or.inr (e_)), ?_⟩
  intro k u hp
  have hm : k = k2 (okC p0 p1) (0 ≤ p2 ∧ p2 < 4) ∧ (k = 0 → u 96 = oJ E (iZ (b2 (decide (¬ cnZ op (p0 * 5 + p1) p2 = -1)))).toInt64) ∧ CLS E u hv se sf ll nx ct (op, lk, kp, wc, pn, nw, sh, wk) S HB tx ln lq ∧ OUT E u ∧ ∀ j : Nat, 85 ≤ j → j ≠ 96 → u j = σ j := by
    rcases hp with ⟨rfl, z, u0, ⟨hzz, f1, f2, hu⟩, e96, f96⟩ | ⟨rfl, hx⟩ | ⟨rfl, hx⟩
    · exact ⟨(k2_0 f1 f2).symm, fun _ => by rw [← hzz]; exact e96, hC.fr (fun j hj => (f96 j (by omega)).trans (by rw [hu])), hO.put e96 ((f96 97 (by omega)).trans (by rw [hu])), (fun j h0 h1 => (f96 j h1).trans (by rw [hu]))⟩
    · obtain ⟨hq, hu⟩ := hx
      rcases hq with ⟨e_, q⟩ | ⟨e_, q⟩
      · exact ⟨(k2_1 q).symm, fun h => absurd h (by decide), by rw [hu]; exact hC, by rw [hu]; exact hO, (fun j _ _ => by rw [hu])⟩
      · exact absurd e_ (by decide +kernel)
    · obtain ⟨hq, hu⟩ := hx
      rcases hq with ⟨e_, q⟩ | ⟨e_, q⟩
      · exact absurd e_ (by decide +kernel)
      · exact ⟨(k2_2 q.1 q.2).symm, fun h => absurd h (by decide), by rw [hu]; exact hC, by rw [hu]; exact hO, (fun j _ _ => by rw [hu])⟩
  obtain ⟨hk, h96, hC2, hO2, fr85⟩ := hm
  subst hk
  have hM2 := hM.fr (u := u) (fun j h0 h1 => fr85 j h0 (by omega))
  obtain ⟨⟨sz, sp, wr, to, m0⟩, m1, ⟨w2, m2⟩, ⟨w3, m3⟩, m4, m5, ⟨w6, m6⟩, ⟨F9, m7, m7r⟩, m8, m9, nu, m10, m11⟩ := hM2
  refine ⟨⟨_, m0⟩, _, (c_X7_isConnected l E ST hSF u p0 p1 p2 _ _ _ _ _ _ _ _ _ _ _ _ _ _ _ _ _ _ _ _ m0 m1 hCp hB r0 r1 r2), ?_⟩
  intro b t hq
  obtain ⟨-, ⟨jb, a0, a1, hz9, hjb⟩, fr⟩ := hq
  have hkb := k2_b (okC p0 p1) (0 ≤ p2 ∧ p2 < 4)
  have hqb : k2 (okC p0 p1) (0 ≤ p2 ∧ p2 < 4) = 0 → b = b2 (decide (¬ cnZ op (p0 * 5 + p1) p2 = -1)) := fun h0 => by rw [hz9, hjb h0]
  exact ⟨qry_fin hK hC2 hO2 ⟨⟨_, _, _, _, a0⟩, a1, ⟨_, (fr 87 (by omega)).trans m2⟩, ⟨_, (fr 88 (by omega)).trans m3⟩, (fr 89 (by omega)).trans m4, (fr 90 (by omega)).trans m5, ⟨_, (fr 91 (by omega)).trans m6⟩, ⟨_, (fr 92 (by omega)).trans m7, m7r⟩, (fr 93 (by omega)).trans m8, (fr 94 (by omega)).trans m9, _, (fr 95 (by omega)).trans m10, m11⟩ (fun j h => fr j (by omega)) ⟨hkb.1, by omega⟩ (fun h0 => by rw [hqb h0]; exact h96 h0), (fun h0 => by rw [hqb h0]; exact b2_01 _)⟩
set_option maxRecDepth 100000 in
set_option maxHeartbeats 4000000 in
theorem s_keyRow (l : Launch) (E : xE) (ST : xST) (hSF : SF ST) (hSX : SX ST) (htr : l.stackTraces = false) {n : Int} {σ : xW} (hn : 0 ≤ n ∧ n ≤ 600) (hI : INV n E σ) (p0 : Int) (r0 : rg p0) : ∃ P : Int → xW → Prop, CI l E ST yL_keyRow wsL_keyRow rm_L_keyRow [.ref (xad E 0), .int (iZ p0), .ref (xad E 96)] σ P ∧ ∀ (k : Int) (u : xW), P k u → (∃ fs : List Value, u 85 = oB 5 fs) ∧ ∃ Q : Int → xW → Prop, CI l E ST yX7_keyRow wsX7_keyRow rm_X7_keyRow [.ref (xad E 85), .int (iZ p0)] u Q ∧ ∀ (b : Int) (t : xW), Q b t → FIN n E t k b := by
  obtain ⟨th, hth, hv, se, sf, ll, nx, ct, B, S, HB, tx, ln, lq, sv, re, ea, fa, ty, li, v, vs, hF, lf, hC, hM, hO, hK⟩ := hI
  obtain ⟨op, lk, kp, wc, pn, nw, sh, wk⟩ := B
  obtain ⟨c0, c1, c2, ⟨X7, c3⟩, ⟨X13, c4⟩, c5, c6, ⟨le, rl, fs, qu, gr, c7⟩, ⟨cs, cm, va, c8, c9⟩, c10⟩ := id hC
  have c2 : bd E σ 1 op lk kp wc pn nw sh wk := c2
  obtain ⟨⟨hB, hCp, ⟨hsh0, hsh1⟩, hwk0, hwk1⟩, ⟨hsv, hS9⟩, ⟨hnx, hct, hre, hhr, hHi⟩, ⟨hea, hfa, hse, hsf⟩, ⟨hty, hln, htx⟩, hli, hll, hlqf, hlq, hlf⟩ := id hK
  have hB : BI op lk kp wc pn nw := hB
  have hCp : Cp v op lk kp wc pn nw sh wk := hCp
  have hsh0 : 0 ≤ sh := hsh0
  have hsh1 : sh ≤ 1000 * n := hsh1
  have hwk0 : 0 ≤ wk := hwk0
  have hwk1 : wk ≤ 1000 * n := hwk1
  have hhb := hsl_rg hnx.1 hnx.2
  have hnw : 0 ≤ nw ∧ nw ≤ 3 := hB.2.2.2.2.2
  have hse9 : rg se := ⟨by omega, by omega⟩
  have hsf9 : rg sf := ⟨by omega, by omega⟩
  have hea9 : rg ea := ⟨by omega, by omega⟩
  have hfa9 : rg fa := ⟨by omega, by omega⟩
  refine ⟨_, c_L_keyRow l E ST hSF hSX σ p0 (c_X6_keyRow l E ST hSF htr σ p0 _ _ _ _ _ _ _ _ _ _ _ _ c0 c2 hB r0) c0 (fun z u h => by obtain ⟨hzz, f1, f2, hu⟩ := h; rw [hu]; exact hO.1) (fun nm u h => by rcases h.1 with ⟨e_, q⟩ | ⟨e_, q⟩ <;> first | exact Or.inl e_ | exact Or.inr (e_)), ?_⟩
  intro k u hp
  have hm : k = k2 (97 ≤ p0 ∧ p0 < 103) (0 ≤ kp (p0 - 97) ∧ kp (p0 - 97) < 25) ∧ (k = 0 → u 96 = oJ E (iZ (kp (p0 - 97) / 5)).toInt64) ∧ CLS E u hv se sf ll nx ct (op, lk, kp, wc, pn, nw, sh, wk) S HB tx ln lq ∧ OUT E u ∧ ∀ j : Nat, 85 ≤ j → j ≠ 96 → u j = σ j := by
    rcases hp with ⟨rfl, z, u0, ⟨hzz, f1, f2, hu⟩, e96, f96⟩ | ⟨rfl, hx⟩ | ⟨rfl, hx⟩
    · exact ⟨(k2_0 f1 f2).symm, fun _ => by rw [← hzz]; exact e96, hC.fr (fun j hj => (f96 j (by omega)).trans (by rw [hu])), hO.put e96 ((f96 97 (by omega)).trans (by rw [hu])), (fun j h0 h1 => (f96 j h1).trans (by rw [hu]))⟩
    · obtain ⟨hq, hu⟩ := hx
      rcases hq with ⟨e_, q⟩ | ⟨e_, q⟩
      · exact ⟨(k2_1 q).symm, fun h => absurd h (by decide), by rw [hu]; exact hC, by rw [hu]; exact hO, (fun j _ _ => by rw [hu])⟩
      · exact absurd e_ (by decide +kernel)
    · obtain ⟨hq, hu⟩ := hx
      rcases hq with ⟨e_, q⟩ | ⟨e_, q⟩
      · exact absurd e_ (by decide +kernel)
      · exact ⟨(k2_2 q.1 q.2).symm, fun h => absurd h (by decide), by rw [hu]; exact hC, by rw [hu]; exact hO, (fun j _ _ => by rw [hu])⟩
  obtain ⟨hk, h96, hC2, hO2, fr85⟩ := hm
  subst hk
  have hM2 := hM.fr (u := u) (fun j h0 h1 => fr85 j h0 (by omega))
  obtain ⟨⟨sz, sp, wr, to, m0⟩, m1, ⟨w2, m2⟩, ⟨w3, m3⟩, m4, m5, ⟨w6, m6⟩, ⟨F9, m7, m7r⟩, m8, m9, nu, m10, m11⟩ := hM2
  refine ⟨⟨_, m0⟩, _, (c_X7_keyRow l E ST hSF u p0 _ _ _ _ _ _ _ _ _ _ _ _ _ _ _ _ _ _ _ _ m0 m1 hCp hB r0), ?_⟩
  intro b t hq
  obtain ⟨qb, ⟨a0, a1⟩, fr⟩ := hq
  have hkb := k2_b (97 ≤ p0 ∧ p0 < 103) (0 ≤ kp (p0 - 97) ∧ kp (p0 - 97) < 25)
  have hqb : k2 (97 ≤ p0 ∧ p0 < 103) (0 ≤ kp (p0 - 97) ∧ kp (p0 - 97) < 25) = 0 → b = kp (p0 - 97) / 5 := fun h0 => qb h0
  exact qry_fin hK hC2 hO2 ⟨⟨_, _, _, _, a0⟩, a1, ⟨_, (fr 87 (by omega)).trans m2⟩, ⟨_, (fr 88 (by omega)).trans m3⟩, (fr 89 (by omega)).trans m4, (fr 90 (by omega)).trans m5, ⟨_, (fr 91 (by omega)).trans m6⟩, ⟨_, (fr 92 (by omega)).trans m7, m7r⟩, (fr 93 (by omega)).trans m8, (fr 94 (by omega)).trans m9, _, (fr 95 (by omega)).trans m10, m11⟩ (fun j h => fr j (by omega)) ⟨hkb.1, by omega⟩ (fun h0 => by rw [hqb h0]; exact h96 h0)
set_option maxRecDepth 100000 in
set_option maxHeartbeats 4000000 in
theorem s_keyColumn (l : Launch) (E : xE) (ST : xST) (hSF : SF ST) (hSX : SX ST) (htr : l.stackTraces = false) {n : Int} {σ : xW} (hn : 0 ≤ n ∧ n ≤ 600) (hI : INV n E σ) (p0 : Int) (r0 : rg p0) : ∃ P : Int → xW → Prop, CI l E ST yL_keyColumn wsL_keyColumn rm_L_keyColumn [.ref (xad E 0), .int (iZ p0), .ref (xad E 96)] σ P ∧ ∀ (k : Int) (u : xW), P k u → (∃ fs : List Value, u 85 = oB 5 fs) ∧ ∃ Q : Int → xW → Prop, CI l E ST yX7_keyColumn wsX7_keyColumn rm_X7_keyColumn [.ref (xad E 85), .int (iZ p0)] u Q ∧ ∀ (b : Int) (t : xW), Q b t → FIN n E t k b := by
  obtain ⟨th, hth, hv, se, sf, ll, nx, ct, B, S, HB, tx, ln, lq, sv, re, ea, fa, ty, li, v, vs, hF, lf, hC, hM, hO, hK⟩ := hI
  obtain ⟨op, lk, kp, wc, pn, nw, sh, wk⟩ := B
  obtain ⟨c0, c1, c2, ⟨X7, c3⟩, ⟨X13, c4⟩, c5, c6, ⟨le, rl, fs, qu, gr, c7⟩, ⟨cs, cm, va, c8, c9⟩, c10⟩ := id hC
  have c2 : bd E σ 1 op lk kp wc pn nw sh wk := c2
  obtain ⟨⟨hB, hCp, ⟨hsh0, hsh1⟩, hwk0, hwk1⟩, ⟨hsv, hS9⟩, ⟨hnx, hct, hre, hhr, hHi⟩, ⟨hea, hfa, hse, hsf⟩, ⟨hty, hln, htx⟩, hli, hll, hlqf, hlq, hlf⟩ := id hK
  have hB : BI op lk kp wc pn nw := hB
  have hCp : Cp v op lk kp wc pn nw sh wk := hCp
  have hsh0 : 0 ≤ sh := hsh0
  have hsh1 : sh ≤ 1000 * n := hsh1
  have hwk0 : 0 ≤ wk := hwk0
  have hwk1 : wk ≤ 1000 * n := hwk1
  have hhb := hsl_rg hnx.1 hnx.2
  have hnw : 0 ≤ nw ∧ nw ≤ 3 := hB.2.2.2.2.2
  have hse9 : rg se := ⟨by omega, by omega⟩
  have hsf9 : rg sf := ⟨by omega, by omega⟩
  have hea9 : rg ea := ⟨by omega, by omega⟩
  have hfa9 : rg fa := ⟨by omega, by omega⟩
  refine ⟨_, c_L_keyColumn l E ST hSF hSX σ p0 (c_X6_keyColumn l E ST hSF htr σ p0 _ _ _ _ _ _ _ _ _ _ _ _ c0 c2 hB r0) c0 (fun z u h => by obtain ⟨hzz, f1, f2, hu⟩ := h; rw [hu]; exact hO.1) (fun nm u h => by rcases h.1 with ⟨e_, q⟩ | ⟨e_, q⟩ <;> first | exact Or.inl e_ | exact Or.inr (e_)), ?_⟩
  intro k u hp
  have hm : k = k2 (97 ≤ p0 ∧ p0 < 103) (0 ≤ kp (p0 - 97) ∧ kp (p0 - 97) < 25) ∧ (k = 0 → u 96 = oJ E (iZ (kp (p0 - 97) % 5)).toInt64) ∧ CLS E u hv se sf ll nx ct (op, lk, kp, wc, pn, nw, sh, wk) S HB tx ln lq ∧ OUT E u ∧ ∀ j : Nat, 85 ≤ j → j ≠ 96 → u j = σ j := by
    rcases hp with ⟨rfl, z, u0, ⟨hzz, f1, f2, hu⟩, e96, f96⟩ | ⟨rfl, hx⟩ | ⟨rfl, hx⟩
    · exact ⟨(k2_0 f1 f2).symm, fun _ => by rw [← hzz]; exact e96, hC.fr (fun j hj => (f96 j (by omega)).trans (by rw [hu])), hO.put e96 ((f96 97 (by omega)).trans (by rw [hu])), (fun j h0 h1 => (f96 j h1).trans (by rw [hu]))⟩
    · obtain ⟨hq, hu⟩ := hx
      rcases hq with ⟨e_, q⟩ | ⟨e_, q⟩
      · exact ⟨(k2_1 q).symm, fun h => absurd h (by decide), by rw [hu]; exact hC, by rw [hu]; exact hO, (fun j _ _ => by rw [hu])⟩
      · exact absurd e_ (by decide +kernel)
    · obtain ⟨hq, hu⟩ := hx
      rcases hq with ⟨e_, q⟩ | ⟨e_, q⟩
      · exact absurd e_ (by decide +kernel)
      · exact ⟨(k2_2 q.1 q.2).symm, fun h => absurd h (by decide), by rw [hu]; exact hC, by rw [hu]; exact hO, (fun j _ _ => by rw [hu])⟩
  obtain ⟨hk, h96, hC2, hO2, fr85⟩ := hm
  subst hk
  have hM2 := hM.fr (u := u) (fun j h0 h1 => fr85 j h0 (by omega))
  obtain ⟨⟨sz, sp, wr, to, m0⟩, m1, ⟨w2, m2⟩, ⟨w3, m3⟩, m4, m5, ⟨w6, m6⟩, ⟨F9, m7, m7r⟩, m8, m9, nu, m10, m11⟩ := hM2
  refine ⟨⟨_, m0⟩, _, (c_X7_keyColumn l E ST hSF u p0 _ _ _ _ _ _ _ _ _ _ _ _ _ _ _ _ _ _ _ _ m0 m1 hCp hB r0), ?_⟩
  intro b t hq
  obtain ⟨qb, ⟨a0, a1⟩, fr⟩ := hq
  have hkb := k2_b (97 ≤ p0 ∧ p0 < 103) (0 ≤ kp (p0 - 97) ∧ kp (p0 - 97) < 25)
  have hqb : k2 (97 ≤ p0 ∧ p0 < 103) (0 ≤ kp (p0 - 97) ∧ kp (p0 - 97) < 25) = 0 → b = kp (p0 - 97) % 5 := fun h0 => qb h0
  exact qry_fin hK hC2 hO2 ⟨⟨_, _, _, _, a0⟩, a1, ⟨_, (fr 87 (by omega)).trans m2⟩, ⟨_, (fr 88 (by omega)).trans m3⟩, (fr 89 (by omega)).trans m4, (fr 90 (by omega)).trans m5, ⟨_, (fr 91 (by omega)).trans m6⟩, ⟨_, (fr 92 (by omega)).trans m7, m7r⟩, (fr 93 (by omega)).trans m8, (fr 94 (by omega)).trans m9, _, (fr 95 (by omega)).trans m10, m11⟩ (fun j h => fr j (by omega)) ⟨hkb.1, by omega⟩ (fun h0 => by rw [hqb h0]; exact h96 h0)
set_option maxRecDepth 100000 in
set_option maxHeartbeats 4000000 in
theorem s_carrierOf (l : Launch) (E : xE) (ST : xST) (hSF : SF ST) (hSX : SX ST) (htr : l.stackTraces = false) {n : Int} {σ : xW} (hn : 0 ≤ n ∧ n ≤ 600) (hI : INV n E σ) (p0 : Int) (r0 : rg p0) : ∃ P : Int → xW → Prop, CI l E ST yL_carrierOf wsL_carrierOf rm_L_carrierOf [.ref (xad E 0), .int (iZ p0), .ref (xad E 96)] σ P ∧ ∀ (k : Int) (u : xW), P k u → (∃ fs : List Value, u 85 = oB 5 fs) ∧ ∃ Q : Int → xW → Prop, CI l E ST yX7_carrierOf wsX7_carrierOf rm_X7_carrierOf [.ref (xad E 85), .int (iZ p0)] u Q ∧ ∀ (b : Int) (t : xW), Q b t → FIN n E t k b := by
  obtain ⟨th, hth, hv, se, sf, ll, nx, ct, B, S, HB, tx, ln, lq, sv, re, ea, fa, ty, li, v, vs, hF, lf, hC, hM, hO, hK⟩ := hI
  obtain ⟨op, lk, kp, wc, pn, nw, sh, wk⟩ := B
  obtain ⟨c0, c1, c2, ⟨X7, c3⟩, ⟨X13, c4⟩, c5, c6, ⟨le, rl, fs, qu, gr, c7⟩, ⟨cs, cm, va, c8, c9⟩, c10⟩ := id hC
  have c2 : bd E σ 1 op lk kp wc pn nw sh wk := c2
  obtain ⟨⟨hB, hCp, ⟨hsh0, hsh1⟩, hwk0, hwk1⟩, ⟨hsv, hS9⟩, ⟨hnx, hct, hre, hhr, hHi⟩, ⟨hea, hfa, hse, hsf⟩, ⟨hty, hln, htx⟩, hli, hll, hlqf, hlq, hlf⟩ := id hK
  have hB : BI op lk kp wc pn nw := hB
  have hCp : Cp v op lk kp wc pn nw sh wk := hCp
  have hsh0 : 0 ≤ sh := hsh0
  have hsh1 : sh ≤ 1000 * n := hsh1
  have hwk0 : 0 ≤ wk := hwk0
  have hwk1 : wk ≤ 1000 * n := hwk1
  have hhb := hsl_rg hnx.1 hnx.2
  have hnw : 0 ≤ nw ∧ nw ≤ 3 := hB.2.2.2.2.2
  have hse9 : rg se := ⟨by omega, by omega⟩
  have hsf9 : rg sf := ⟨by omega, by omega⟩
  have hea9 : rg ea := ⟨by omega, by omega⟩
  have hfa9 : rg fa := ⟨by omega, by omega⟩
  refine ⟨_, c_L_carrierOf l E ST hSF hSX σ p0 (c_X6_carrierOf l E ST hSF htr σ p0 _ _ _ _ _ _ _ _ _ _ _ _ c0 c2 hB r0) c0 (fun z u h => by obtain ⟨hzz, f1, f2, hu⟩ := h; rw [hu]; exact hO.1) (fun nm u h => by rcases h.1 with ⟨e_, q⟩ | ⟨e_, q⟩ <;> first | exact Or.inl e_ | exact Or.inr (e_)), ?_⟩
  intro k u hp
  have hm : k = k2 (97 ≤ p0 ∧ p0 < 103) (¬ kp (p0 - 97) < 25) ∧ (k = 0 → u 96 = oJ E (iZ (kp (p0 - 97) - 25)).toInt64) ∧ CLS E u hv se sf ll nx ct (op, lk, kp, wc, pn, nw, sh, wk) S HB tx ln lq ∧ OUT E u ∧ ∀ j : Nat, 85 ≤ j → j ≠ 96 → u j = σ j := by
    rcases hp with ⟨rfl, z, u0, ⟨hzz, f1, f2, hu⟩, e96, f96⟩ | ⟨rfl, hx⟩ | ⟨rfl, hx⟩
    · exact ⟨(k2_0 f1 (by omega)).symm, fun _ => by rw [← hzz]; exact e96, hC.fr (fun j hj => (f96 j (by omega)).trans (by rw [hu])), hO.put e96 ((f96 97 (by omega)).trans (by rw [hu])), (fun j h0 h1 => (f96 j h1).trans (by rw [hu]))⟩
    · obtain ⟨hq, hu⟩ := hx
      rcases hq with ⟨e_, q⟩ | ⟨e_, q⟩
      · exact ⟨(k2_1 q).symm, fun h => absurd h (by decide), by rw [hu]; exact hC, by rw [hu]; exact hO, (fun j _ _ => by rw [hu])⟩
      · exact absurd e_ (by decide +kernel)
    · obtain ⟨hq, hu⟩ := hx
      rcases hq with ⟨e_, q⟩ | ⟨e_, q⟩
      · exact absurd e_ (by decide +kernel)
      · exact ⟨(k2_2 q.1 (fun z => z q.2)).symm, fun h => absurd h (by decide), by rw [hu]; exact hC, by rw [hu]; exact hO, (fun j _ _ => by rw [hu])⟩
  obtain ⟨hk, h96, hC2, hO2, fr85⟩ := hm
  subst hk
  have hM2 := hM.fr (u := u) (fun j h0 h1 => fr85 j h0 (by omega))
  obtain ⟨⟨sz, sp, wr, to, m0⟩, m1, ⟨w2, m2⟩, ⟨w3, m3⟩, m4, m5, ⟨w6, m6⟩, ⟨F9, m7, m7r⟩, m8, m9, nu, m10, m11⟩ := hM2
  refine ⟨⟨_, m0⟩, _, (c_X7_carrierOf l E ST hSF u p0 _ _ _ _ _ _ _ _ _ _ _ _ _ _ _ _ _ _ _ _ m0 m1 hCp hB r0), ?_⟩
  intro b t hq
  obtain ⟨qb, ⟨a0, a1⟩, fr⟩ := hq
  have hkb := k2_b (97 ≤ p0 ∧ p0 < 103) (¬ kp (p0 - 97) < 25)
  have hqb : k2 (97 ≤ p0 ∧ p0 < 103) (¬ kp (p0 - 97) < 25) = 0 → b = kp (p0 - 97) - 25 := fun h0 => qb h0
  exact qry_fin hK hC2 hO2 ⟨⟨_, _, _, _, a0⟩, a1, ⟨_, (fr 87 (by omega)).trans m2⟩, ⟨_, (fr 88 (by omega)).trans m3⟩, (fr 89 (by omega)).trans m4, (fr 90 (by omega)).trans m5, ⟨_, (fr 91 (by omega)).trans m6⟩, ⟨_, (fr 92 (by omega)).trans m7, m7r⟩, (fr 93 (by omega)).trans m8, (fr 94 (by omega)).trans m9, _, (fr 95 (by omega)).trans m10, m11⟩ (fun j h => fr j (by omega)) ⟨hkb.1, by omega⟩ (fun h0 => by rw [hqb h0]; exact h96 h0)
set_option maxRecDepth 100000 in
set_option maxHeartbeats 4000000 in
theorem s_walkerRow (l : Launch) (E : xE) (ST : xST) (hSF : SF ST) (hSX : SX ST) (htr : l.stackTraces = false) {n : Int} {σ : xW} (hn : 0 ≤ n ∧ n ≤ 600) (hI : INV n E σ) (p0 : Int) (r0 : rg p0) : ∃ P : Int → xW → Prop, CI l E ST yL_walkerRow wsL_walkerRow rm_L_walkerRow [.ref (xad E 0), .int (iZ p0), .ref (xad E 96)] σ P ∧ ∀ (k : Int) (u : xW), P k u → (∃ fs : List Value, u 85 = oB 5 fs) ∧ ∃ Q : Int → xW → Prop, CI l E ST yX7_walkerRow wsX7_walkerRow rm_X7_walkerRow [.ref (xad E 85), .int (iZ p0)] u Q ∧ ∀ (b : Int) (t : xW), Q b t → FIN n E t k b := by
  obtain ⟨th, hth, hv, se, sf, ll, nx, ct, B, S, HB, tx, ln, lq, sv, re, ea, fa, ty, li, v, vs, hF, lf, hC, hM, hO, hK⟩ := hI
  obtain ⟨op, lk, kp, wc, pn, nw, sh, wk⟩ := B
  obtain ⟨c0, c1, c2, ⟨X7, c3⟩, ⟨X13, c4⟩, c5, c6, ⟨le, rl, fs, qu, gr, c7⟩, ⟨cs, cm, va, c8, c9⟩, c10⟩ := id hC
  have c2 : bd E σ 1 op lk kp wc pn nw sh wk := c2
  obtain ⟨⟨hB, hCp, ⟨hsh0, hsh1⟩, hwk0, hwk1⟩, ⟨hsv, hS9⟩, ⟨hnx, hct, hre, hhr, hHi⟩, ⟨hea, hfa, hse, hsf⟩, ⟨hty, hln, htx⟩, hli, hll, hlqf, hlq, hlf⟩ := id hK
  have hB : BI op lk kp wc pn nw := hB
  have hCp : Cp v op lk kp wc pn nw sh wk := hCp
  have hsh0 : 0 ≤ sh := hsh0
  have hsh1 : sh ≤ 1000 * n := hsh1
  have hwk0 : 0 ≤ wk := hwk0
  have hwk1 : wk ≤ 1000 * n := hwk1
  have hhb := hsl_rg hnx.1 hnx.2
  have hnw : 0 ≤ nw ∧ nw ≤ 3 := hB.2.2.2.2.2
  have hse9 : rg se := ⟨by omega, by omega⟩
  have hsf9 : rg sf := ⟨by omega, by omega⟩
  have hea9 : rg ea := ⟨by omega, by omega⟩
  have hfa9 : rg fa := ⟨by omega, by omega⟩
  refine ⟨_, c_L_walkerRow l E ST hSF hSX σ p0 (c_X6_walkerRow l E ST hSF htr σ p0 _ _ _ _ _ _ _ _ _ _ _ _ c0 c2 hB r0) c0 (fun z u h => by obtain ⟨hzz, f1, hu⟩ := h; rw [hu]; exact hO.1) (fun nm u h => h.1.1), ?_⟩
  intro k u hp
  have hm : k = k1 (0 ≤ p0 ∧ p0 < nw) ∧ (k = 0 → u 96 = oJ E (iZ (wc p0 / 5)).toInt64) ∧ CLS E u hv se sf ll nx ct (op, lk, kp, wc, pn, nw, sh, wk) S HB tx ln lq ∧ OUT E u ∧ ∀ j : Nat, 85 ≤ j → j ≠ 96 → u j = σ j := by
    rcases hp with ⟨rfl, z, u0, ⟨hzz, f1, hu⟩, e96, f96⟩ | ⟨rfl, hx⟩
    · exact ⟨(k1_0 f1).symm, fun _ => by rw [← hzz]; exact e96, hC.fr (fun j hj => (f96 j (by omega)).trans (by rw [hu])), hO.put e96 ((f96 97 (by omega)).trans (by rw [hu])), (fun j h0 h1 => (f96 j h1).trans (by rw [hu]))⟩
    · obtain ⟨hq, hu⟩ := hx
      obtain ⟨e_, q⟩ := hq
      exact ⟨(k1_1 q).symm, fun h => absurd h (by decide), by rw [hu]; exact hC, by rw [hu]; exact hO, (fun j _ _ => by rw [hu])⟩
  obtain ⟨hk, h96, hC2, hO2, fr85⟩ := hm
  subst hk
  have hM2 := hM.fr (u := u) (fun j h0 h1 => fr85 j h0 (by omega))
  obtain ⟨⟨sz, sp, wr, to, m0⟩, m1, ⟨w2, m2⟩, ⟨w3, m3⟩, m4, m5, ⟨w6, m6⟩, ⟨F9, m7, m7r⟩, m8, m9, nu, m10, m11⟩ := hM2
  refine ⟨⟨_, m0⟩, _, (c_X7_walkerRow l E ST hSF u p0 _ _ _ _ _ _ _ _ _ _ _ _ _ _ _ _ _ _ _ _ m0 m1 hCp hB r0), ?_⟩
  intro b t hq
  obtain ⟨qb, ⟨a0, a1⟩, fr⟩ := hq
  have hkb := k1_b (0 ≤ p0 ∧ p0 < nw)
  have hqb : k1 (0 ≤ p0 ∧ p0 < nw) = 0 → b = wc p0 / 5 := fun h0 => qb (k1_is.mp h0)
  exact qry_fin hK hC2 hO2 ⟨⟨_, _, _, _, a0⟩, a1, ⟨_, (fr 87 (by omega)).trans m2⟩, ⟨_, (fr 88 (by omega)).trans m3⟩, (fr 89 (by omega)).trans m4, (fr 90 (by omega)).trans m5, ⟨_, (fr 91 (by omega)).trans m6⟩, ⟨_, (fr 92 (by omega)).trans m7, m7r⟩, (fr 93 (by omega)).trans m8, (fr 94 (by omega)).trans m9, _, (fr 95 (by omega)).trans m10, m11⟩ (fun j h => fr j (by omega)) ⟨hkb.1, by omega⟩ (fun h0 => by rw [hqb h0]; exact h96 h0)
set_option maxRecDepth 100000 in
set_option maxHeartbeats 4000000 in
theorem s_walkerColumn (l : Launch) (E : xE) (ST : xST) (hSF : SF ST) (hSX : SX ST) (htr : l.stackTraces = false) {n : Int} {σ : xW} (hn : 0 ≤ n ∧ n ≤ 600) (hI : INV n E σ) (p0 : Int) (r0 : rg p0) : ∃ P : Int → xW → Prop, CI l E ST yL_walkerColumn wsL_walkerColumn rm_L_walkerColumn [.ref (xad E 0), .int (iZ p0), .ref (xad E 96)] σ P ∧ ∀ (k : Int) (u : xW), P k u → (∃ fs : List Value, u 85 = oB 5 fs) ∧ ∃ Q : Int → xW → Prop, CI l E ST yX7_walkerColumn wsX7_walkerColumn rm_X7_walkerColumn [.ref (xad E 85), .int (iZ p0)] u Q ∧ ∀ (b : Int) (t : xW), Q b t → FIN n E t k b := by
  obtain ⟨th, hth, hv, se, sf, ll, nx, ct, B, S, HB, tx, ln, lq, sv, re, ea, fa, ty, li, v, vs, hF, lf, hC, hM, hO, hK⟩ := hI
  obtain ⟨op, lk, kp, wc, pn, nw, sh, wk⟩ := B
  obtain ⟨c0, c1, c2, ⟨X7, c3⟩, ⟨X13, c4⟩, c5, c6, ⟨le, rl, fs, qu, gr, c7⟩, ⟨cs, cm, va, c8, c9⟩, c10⟩ := id hC
  have c2 : bd E σ 1 op lk kp wc pn nw sh wk := c2
  obtain ⟨⟨hB, hCp, ⟨hsh0, hsh1⟩, hwk0, hwk1⟩, ⟨hsv, hS9⟩, ⟨hnx, hct, hre, hhr, hHi⟩, ⟨hea, hfa, hse, hsf⟩, ⟨hty, hln, htx⟩, hli, hll, hlqf, hlq, hlf⟩ := id hK
  have hB : BI op lk kp wc pn nw := hB
  have hCp : Cp v op lk kp wc pn nw sh wk := hCp
  have hsh0 : 0 ≤ sh := hsh0
  have hsh1 : sh ≤ 1000 * n := hsh1
  have hwk0 : 0 ≤ wk := hwk0
  have hwk1 : wk ≤ 1000 * n := hwk1
  have hhb := hsl_rg hnx.1 hnx.2
  have hnw : 0 ≤ nw ∧ nw ≤ 3 := hB.2.2.2.2.2
  have hse9 : rg se := ⟨by omega, by omega⟩
  have hsf9 : rg sf := ⟨by omega, by omega⟩
  have hea9 : rg ea := ⟨by omega, by omega⟩
  have hfa9 : rg fa := ⟨by omega, by omega⟩
  refine ⟨_, c_L_walkerColumn l E ST hSF hSX σ p0 (c_X6_walkerColumn l E ST hSF htr σ p0 _ _ _ _ _ _ _ _ _ _ _ _ c0 c2 hB r0) c0 (fun z u h => by obtain ⟨hzz, f1, hu⟩ := h; rw [hu]; exact hO.1) (fun nm u h => h.1.1), ?_⟩
  intro k u hp
  have hm : k = k1 (0 ≤ p0 ∧ p0 < nw) ∧ (k = 0 → u 96 = oJ E (iZ (wc p0 % 5)).toInt64) ∧ CLS E u hv se sf ll nx ct (op, lk, kp, wc, pn, nw, sh, wk) S HB tx ln lq ∧ OUT E u ∧ ∀ j : Nat, 85 ≤ j → j ≠ 96 → u j = σ j := by
    rcases hp with ⟨rfl, z, u0, ⟨hzz, f1, hu⟩, e96, f96⟩ | ⟨rfl, hx⟩
    · exact ⟨(k1_0 f1).symm, fun _ => by rw [← hzz]; exact e96, hC.fr (fun j hj => (f96 j (by omega)).trans (by rw [hu])), hO.put e96 ((f96 97 (by omega)).trans (by rw [hu])), (fun j h0 h1 => (f96 j h1).trans (by rw [hu]))⟩
    · obtain ⟨hq, hu⟩ := hx
      obtain ⟨e_, q⟩ := hq
      exact ⟨(k1_1 q).symm, fun h => absurd h (by decide), by rw [hu]; exact hC, by rw [hu]; exact hO, (fun j _ _ => by rw [hu])⟩
  obtain ⟨hk, h96, hC2, hO2, fr85⟩ := hm
  subst hk
  have hM2 := hM.fr (u := u) (fun j h0 h1 => fr85 j h0 (by omega))
  obtain ⟨⟨sz, sp, wr, to, m0⟩, m1, ⟨w2, m2⟩, ⟨w3, m3⟩, m4, m5, ⟨w6, m6⟩, ⟨F9, m7, m7r⟩, m8, m9, nu, m10, m11⟩ := hM2
  refine ⟨⟨_, m0⟩, _, (c_X7_walkerColumn l E ST hSF u p0 _ _ _ _ _ _ _ _ _ _ _ _ _ _ _ _ _ _ _ _ m0 m1 hCp hB r0), ?_⟩
  intro b t hq
  obtain ⟨qb, ⟨a0, a1⟩, fr⟩ := hq
  have hkb := k1_b (0 ≤ p0 ∧ p0 < nw)
  have hqb : k1 (0 ≤ p0 ∧ p0 < nw) = 0 → b = wc p0 % 5 := fun h0 => qb (k1_is.mp h0)
  exact qry_fin hK hC2 hO2 ⟨⟨_, _, _, _, a0⟩, a1, ⟨_, (fr 87 (by omega)).trans m2⟩, ⟨_, (fr 88 (by omega)).trans m3⟩, (fr 89 (by omega)).trans m4, (fr 90 (by omega)).trans m5, ⟨_, (fr 91 (by omega)).trans m6⟩, ⟨_, (fr 92 (by omega)).trans m7, m7r⟩, (fr 93 (by omega)).trans m8, (fr 94 (by omega)).trans m9, _, (fr 95 (by omega)).trans m10, m11⟩ (fun j h => fr j (by omega)) ⟨hkb.1, by omega⟩ (fun h0 => by rw [hqb h0]; exact h96 h0)
set_option maxRecDepth 100000 in
set_option maxHeartbeats 4000000 in
theorem s_keysOf (l : Launch) (E : xE) (ST : xST) (hSF : SF ST) (hSX : SX ST) (htr : l.stackTraces = false) {n : Int} {σ : xW} (hn : 0 ≤ n ∧ n ≤ 600) (hI : INV n E σ) (p0 : Int) (r0 : rg p0) : ∃ P : Int → xW → Prop, CI l E ST yL_keysOf wsL_keysOf rm_L_keysOf [.ref (xad E 0), .int (iZ p0), .ref (xad E 96)] σ P ∧ ∀ (k : Int) (u : xW), P k u → (∃ fs : List Value, u 85 = oB 5 fs) ∧ ∃ Q : Int → xW → Prop, CI l E ST yX7_keysOf wsX7_keysOf rm_X7_keysOf [.ref (xad E 85), .int (iZ p0)] u Q ∧ ∀ (b : Int) (t : xW), Q b t → FIN n E t k b := by
  obtain ⟨th, hth, hv, se, sf, ll, nx, ct, B, S, HB, tx, ln, lq, sv, re, ea, fa, ty, li, v, vs, hF, lf, hC, hM, hO, hK⟩ := hI
  obtain ⟨op, lk, kp, wc, pn, nw, sh, wk⟩ := B
  obtain ⟨c0, c1, c2, ⟨X7, c3⟩, ⟨X13, c4⟩, c5, c6, ⟨le, rl, fs, qu, gr, c7⟩, ⟨cs, cm, va, c8, c9⟩, c10⟩ := id hC
  have c2 : bd E σ 1 op lk kp wc pn nw sh wk := c2
  obtain ⟨⟨hB, hCp, ⟨hsh0, hsh1⟩, hwk0, hwk1⟩, ⟨hsv, hS9⟩, ⟨hnx, hct, hre, hhr, hHi⟩, ⟨hea, hfa, hse, hsf⟩, ⟨hty, hln, htx⟩, hli, hll, hlqf, hlq, hlf⟩ := id hK
  have hB : BI op lk kp wc pn nw := hB
  have hCp : Cp v op lk kp wc pn nw sh wk := hCp
  have hsh0 : 0 ≤ sh := hsh0
  have hsh1 : sh ≤ 1000 * n := hsh1
  have hwk0 : 0 ≤ wk := hwk0
  have hwk1 : wk ≤ 1000 * n := hwk1
  have hhb := hsl_rg hnx.1 hnx.2
  have hnw : 0 ≤ nw ∧ nw ≤ 3 := hB.2.2.2.2.2
  have hse9 : rg se := ⟨by omega, by omega⟩
  have hsf9 : rg sf := ⟨by omega, by omega⟩
  have hea9 : rg ea := ⟨by omega, by omega⟩
  have hfa9 : rg fa := ⟨by omega, by omega⟩
  refine ⟨_, c_L_keysOf l E ST hSF hSX σ p0 (c_X6_keysOf l E ST hSF htr σ p0 _ _ _ _ _ _ _ _ _ _ _ _ c0 c2 hB r0) c0 (fun z u h => by obtain ⟨hzz, f1, hu⟩ := h; rw [hu]; exact hO.1) (fun nm u h => h.1.1), ?_⟩
  intro k u hp
  have hm : k = k1 (0 ≤ p0 ∧ p0 < nw) ∧ (k = 0 → u 96 = oJ E (iZ (cntK kp (25 + p0) 6)).toInt64) ∧ CLS E u hv se sf ll nx ct (op, lk, kp, wc, pn, nw, sh, wk) S HB tx ln lq ∧ OUT E u ∧ ∀ j : Nat, 85 ≤ j → j ≠ 96 → u j = σ j := by
    rcases hp with ⟨rfl, z, u0, ⟨hzz, f1, hu⟩, e96, f96⟩ | ⟨rfl, hx⟩
    · exact ⟨(k1_0 f1).symm, fun _ => by rw [← hzz]; exact e96, hC.fr (fun j hj => (f96 j (by omega)).trans (by rw [hu])), hO.put e96 ((f96 97 (by omega)).trans (by rw [hu])), (fun j h0 h1 => (f96 j h1).trans (by rw [hu]))⟩
    · obtain ⟨hq, hu⟩ := hx
      obtain ⟨e_, q⟩ := hq
      exact ⟨(k1_1 q).symm, fun h => absurd h (by decide), by rw [hu]; exact hC, by rw [hu]; exact hO, (fun j _ _ => by rw [hu])⟩
  obtain ⟨hk, h96, hC2, hO2, fr85⟩ := hm
  subst hk
  have hM2 := hM.fr (u := u) (fun j h0 h1 => fr85 j h0 (by omega))
  obtain ⟨⟨sz, sp, wr, to, m0⟩, m1, ⟨w2, m2⟩, ⟨w3, m3⟩, m4, m5, ⟨w6, m6⟩, ⟨F9, m7, m7r⟩, m8, m9, nu, m10, m11⟩ := hM2
  refine ⟨⟨_, m0⟩, _, (c_X7_keysOf l E ST hSF u p0 _ _ _ _ _ _ _ _ _ _ _ _ _ _ _ _ _ _ _ _ m0 m1 hCp hB r0), ?_⟩
  intro b t hq
  obtain ⟨qb, ⟨a0, a1⟩, fr⟩ := hq
  have hkb := k1_b (0 ≤ p0 ∧ p0 < nw)
  have hqb : k1 (0 ≤ p0 ∧ p0 < nw) = 0 → b = cntK kp (25 + p0) 6 := fun h0 => qb (k1_is.mp h0)
  exact qry_fin hK hC2 hO2 ⟨⟨_, _, _, _, a0⟩, a1, ⟨_, (fr 87 (by omega)).trans m2⟩, ⟨_, (fr 88 (by omega)).trans m3⟩, (fr 89 (by omega)).trans m4, (fr 90 (by omega)).trans m5, ⟨_, (fr 91 (by omega)).trans m6⟩, ⟨_, (fr 92 (by omega)).trans m7, m7r⟩, (fr 93 (by omega)).trans m8, (fr 94 (by omega)).trans m9, _, (fr 95 (by omega)).trans m10, m11⟩ (fun j h => fr j (by omega)) ⟨hkb.1, by omega⟩ (fun h0 => by rw [hqb h0]; exact h96 h0)
set_option maxRecDepth 100000 in
set_option maxHeartbeats 4000000 in
theorem s_pathLength (l : Launch) (E : xE) (ST : xST) (hSF : SF ST) (hSX : SX ST) (htr : l.stackTraces = false) {n : Int} {σ : xW} (hn : 0 ≤ n ∧ n ≤ 600) (hI : INV n E σ) (p0 : Int) (p1 : Int) (p2 : Int) (r0 : rg p0) (r1 : rg p1) (r2 : rg p2) : ∃ P : Int → xW → Prop, CI l E ST yL_pathLength wsL_pathLength rm_L_pathLength [.ref (xad E 0), .int (iZ p0), .int (iZ p1), .int (iZ p2), .ref (xad E 96)] σ P ∧ ∀ (k : Int) (u : xW), P k u → (∃ fs : List Value, u 85 = oB 5 fs) ∧ ∃ Q : Int → xW → Prop, CI l E ST yX7_pathLength wsX7_pathLength rm_X7_pathLength [.ref (xad E 85), .int (iZ p0), .int (iZ p1), .int (iZ p2)] u Q ∧ ∀ (b : Int) (t : xW), Q b t → FIN n E t k b := by
  obtain ⟨th, hth, hv, se, sf, ll, nx, ct, B, S, HB, tx, ln, lq, sv, re, ea, fa, ty, li, v, vs, hF, lf, hC, hM, hO, hK⟩ := hI
  obtain ⟨op, lk, kp, wc, pn, nw, sh, wk⟩ := B
  obtain ⟨c0, c1, c2, ⟨X7, c3⟩, ⟨X13, c4⟩, c5, c6, ⟨le, rl, fs, qu, gr, c7⟩, ⟨cs, cm, va, c8, c9⟩, c10⟩ := id hC
  have c2 : bd E σ 1 op lk kp wc pn nw sh wk := c2
  obtain ⟨⟨hB, hCp, ⟨hsh0, hsh1⟩, hwk0, hwk1⟩, ⟨hsv, hS9⟩, ⟨hnx, hct, hre, hhr, hHi⟩, ⟨hea, hfa, hse, hsf⟩, ⟨hty, hln, htx⟩, hli, hll, hlqf, hlq, hlf⟩ := id hK
  have hB : BI op lk kp wc pn nw := hB
  have hCp : Cp v op lk kp wc pn nw sh wk := hCp
  have hsh0 : 0 ≤ sh := hsh0
  have hsh1 : sh ≤ 1000 * n := hsh1
  have hwk0 : 0 ≤ wk := hwk0
  have hwk1 : wk ≤ 1000 * n := hwk1
  have hhb := hsl_rg hnx.1 hnx.2
  have hnw : 0 ≤ nw ∧ nw ≤ 3 := hB.2.2.2.2.2
  have hse9 : rg se := ⟨by omega, by omega⟩
  have hsf9 : rg sf := ⟨by omega, by omega⟩
  have hea9 : rg ea := ⟨by omega, by omega⟩
  have hfa9 : rg fa := ⟨by omega, by omega⟩
  refine ⟨_, c_L_pathLength l E ST hSF hSX σ p0 p1 p2 (c_X6_pathLength l E ST hSF htr σ p0 p1 p2 _ _ _ _ _ _ _ _ _ _ _ _ _ _ _ _ _ c0 c2 c7 hB r1 r2 r0) c0 (fun z u h => ⟨_, (h.2.2 96 (by omega)).trans hO.1.choose_spec⟩) (fun nm u h => by rcases h.1 with ⟨e_, q⟩ | ⟨e_, q⟩ <;> first | exact Or.inl e_ | exact Or.inr (e_)), ?_⟩
  intro k u hp
  have hm : k = k2 ((0 ≤ p0 ∧ p0 < nw) ∧ okC p1 p2) (dz (Gw op lk kp p0) (wc p0) (p1 * 5 + p2) < 25) ∧ (k = 0 → u 96 = oJ E (iZ (dz (Gw op lk kp p0) (wc p0) (p1 * 5 + p2))).toInt64) ∧ CLS E u hv se sf ll nx ct (op, lk, kp, wc, pn, nw, sh, wk) S HB tx ln lq ∧ OUT E u ∧ ∀ j : Nat, 85 ≤ j → j ≠ 96 → u j = σ j := by
    rcases hp with ⟨rfl, z, u0, ⟨hzz, ⟨le1, rl1, fs1, qu1, gr1, q0, q2, q5, f1, f2, f3⟩, fr⟩, e96, f96⟩ | ⟨rfl, hx⟩ | ⟨rfl, hx⟩
    · exact ⟨(k2_0 ⟨f1, f2⟩ f3).symm, fun _ => by rw [← hzz]; exact e96, (CLS.sq hC ⟨_, _, _, _, _, q5⟩ (fun j hj h => fr j h)).fr (fun j hj => f96 j (by omega)), hO.put e96 ((f96 97 (by omega)).trans (fr 97 (by omega))), (fun j h0 h1 => (f96 j h1).trans (fr j (by omega)))⟩
    · obtain ⟨hq, ⟨le1, rl1, fs1, qu1, gr1, q0, q2, q5⟩, fr⟩ := hx
      rcases hq with ⟨e_, q⟩ | ⟨e_, q⟩
      · exact ⟨(k2_1 q).symm, fun h => absurd h (by decide), CLS.sq hC ⟨_, _, _, _, _, q5⟩ (fun j hj h => fr j h), hO.fr (fun j h => fr j (by omega)), (fun j h0 h1 => fr j (by omega))⟩
      · exact absurd e_ (by decide +kernel)
    · obtain ⟨hq, ⟨le1, rl1, fs1, qu1, gr1, q0, q2, q5⟩, fr⟩ := hx
      rcases hq with ⟨e_, q⟩ | ⟨e_, q⟩
      · exact absurd e_ (by decide +kernel)
      · exact ⟨(k2_2 q.1 (by have := q.2; omega)).symm, fun h => absurd h (by decide), CLS.sq hC ⟨_, _, _, _, _, q5⟩ (fun j hj h => fr j h), hO.fr (fun j h => fr j (by omega)), (fun j h0 h1 => fr j (by omega))⟩
  obtain ⟨hk, h96, hC2, hO2, fr85⟩ := hm
  subst hk
  have hM2 := hM.fr (u := u) (fun j h0 h1 => fr85 j h0 (by omega))
  obtain ⟨⟨sz, sp, wr, to, m0⟩, m1, ⟨w2, m2⟩, ⟨w3, m3⟩, m4, m5, ⟨w6, m6⟩, ⟨F9, m7, m7r⟩, m8, m9, nu, m10, m11⟩ := hM2
  refine ⟨⟨_, m0⟩, _, (c_X7_pathLength l E ST hSF u p0 p1 p2 _ _ _ _ _ _ _ _ _ _ _ _ _ _ _ _ _ _ _ _ _ m0 m1 m7 hCp hB r1 r2 r0 m7r), ?_⟩
  intro b t hq
  obtain ⟨qb, ⟨F1, a0, a1, a7, a7r⟩, fr⟩ := hq
  have hkb := k2_b ((0 ≤ p0 ∧ p0 < nw) ∧ okC p1 p2) (dz (Gw op lk kp p0) (wc p0) (p1 * 5 + p2) < 25)
  have hqb : k2 ((0 ≤ p0 ∧ p0 < nw) ∧ okC p1 p2) (dz (Gw op lk kp p0) (wc p0) (p1 * 5 + p2) < 25) = 0 → b = dz (Gw op lk kp p0) (wc p0) (p1 * 5 + p2) := fun h0 => qb h0
  exact qry_fin hK hC2 hO2 ⟨⟨_, _, _, _, a0⟩, a1, ⟨_, (fr 87 (by omega) (by omega)).trans m2⟩, ⟨_, (fr 88 (by omega) (by omega)).trans m3⟩, (fr 89 (by omega) (by omega)).trans m4, (fr 90 (by omega) (by omega)).trans m5, ⟨_, (fr 91 (by omega) (by omega)).trans m6⟩, ⟨_, a7, a7r⟩, (fr 93 (by omega) (by omega)).trans m8, (fr 94 (by omega) (by omega)).trans m9, _, (fr 95 (by omega) (by omega)).trans m10, m11⟩ (fun j h => fr j (by omega) (by omega)) ⟨hkb.1, by omega⟩ (fun h0 => by rw [hqb h0]; exact h96 h0)
set_option maxRecDepth 100000 in
set_option maxHeartbeats 4000000 in
theorem s_pathLengthByRounds (l : Launch) (E : xE) (ST : xST) (hSF : SF ST) (hSX : SX ST) (htr : l.stackTraces = false) {n : Int} {σ : xW} (hn : 0 ≤ n ∧ n ≤ 600) (hI : INV n E σ) (p0 : Int) (p1 : Int) (p2 : Int) (r0 : rg p0) (r1 : rg p1) (r2 : rg p2) : ∃ P : Int → xW → Prop, CI l E ST yL_pathLengthByRounds wsL_pathLengthByRounds rm_L_pathLengthByRounds [.ref (xad E 0), .int (iZ p0), .int (iZ p1), .int (iZ p2), .ref (xad E 96)] σ P ∧ ∀ (k : Int) (u : xW), P k u → (∃ fs : List Value, u 85 = oB 5 fs) ∧ ∃ Q : Int → xW → Prop, CI l E ST yX7_pathLengthByRounds wsX7_pathLengthByRounds rm_X7_pathLengthByRounds [.ref (xad E 85), .int (iZ p0), .int (iZ p1), .int (iZ p2)] u Q ∧ ∀ (b : Int) (t : xW), Q b t → FIN n E t k b := by
  obtain ⟨th, hth, hv, se, sf, ll, nx, ct, B, S, HB, tx, ln, lq, sv, re, ea, fa, ty, li, v, vs, hF, lf, hC, hM, hO, hK⟩ := hI
  obtain ⟨op, lk, kp, wc, pn, nw, sh, wk⟩ := B
  obtain ⟨c0, c1, c2, ⟨X7, c3⟩, ⟨X13, c4⟩, c5, c6, ⟨le, rl, fs, qu, gr, c7⟩, ⟨cs, cm, va, c8, c9⟩, c10⟩ := id hC
  have c2 : bd E σ 1 op lk kp wc pn nw sh wk := c2
  obtain ⟨⟨hB, hCp, ⟨hsh0, hsh1⟩, hwk0, hwk1⟩, ⟨hsv, hS9⟩, ⟨hnx, hct, hre, hhr, hHi⟩, ⟨hea, hfa, hse, hsf⟩, ⟨hty, hln, htx⟩, hli, hll, hlqf, hlq, hlf⟩ := id hK
  have hB : BI op lk kp wc pn nw := hB
  have hCp : Cp v op lk kp wc pn nw sh wk := hCp
  have hsh0 : 0 ≤ sh := hsh0
  have hsh1 : sh ≤ 1000 * n := hsh1
  have hwk0 : 0 ≤ wk := hwk0
  have hwk1 : wk ≤ 1000 * n := hwk1
  have hhb := hsl_rg hnx.1 hnx.2
  have hnw : 0 ≤ nw ∧ nw ≤ 3 := hB.2.2.2.2.2
  have hse9 : rg se := ⟨by omega, by omega⟩
  have hsf9 : rg sf := ⟨by omega, by omega⟩
  have hea9 : rg ea := ⟨by omega, by omega⟩
  have hfa9 : rg fa := ⟨by omega, by omega⟩
  refine ⟨_, c_L_pathLengthByRounds l E ST hSF hSX σ p0 p1 p2 (c_X6_pathLengthByRounds l E ST hSF htr σ p0 p1 p2 _ _ _ _ _ _ _ _ _ _ _ _ _ _ _ _ _ c0 c2 c7 hB r1 r2 r0) c0 (fun z u h => ⟨_, (h.2.2 96 (by omega)).trans hO.1.choose_spec⟩) (fun nm u h => by rcases h.1 with ⟨e_, q⟩ | ⟨e_, q⟩ <;> first | exact Or.inl e_ | exact Or.inr (e_)), ?_⟩
  intro k u hp
  have hm : k = k2 ((0 ≤ p0 ∧ p0 < nw) ∧ okC p1 p2) (dz (Gw op lk kp p0) (wc p0) (p1 * 5 + p2) < 25) ∧ (k = 0 → u 96 = oJ E (iZ (dz (Gw op lk kp p0) (wc p0) (p1 * 5 + p2))).toInt64) ∧ CLS E u hv se sf ll nx ct (op, lk, kp, wc, pn, nw, sh, wk) S HB tx ln lq ∧ OUT E u ∧ ∀ j : Nat, 85 ≤ j → j ≠ 96 → u j = σ j := by
    rcases hp with ⟨rfl, z, u0, ⟨hzz, ⟨le1, rl1, fs1, qu1, gr1, q0, q2, q5, f1, f2, f3⟩, fr⟩, e96, f96⟩ | ⟨rfl, hx⟩ | ⟨rfl, hx⟩
    · exact ⟨(k2_0 ⟨f1, f2⟩ f3).symm, fun _ => by rw [← hzz]; exact e96, (CLS.sq hC ⟨_, _, _, _, _, q5⟩ (fun j hj h => fr j h)).fr (fun j hj => f96 j (by omega)), hO.put e96 ((f96 97 (by omega)).trans (fr 97 (by omega))), (fun j h0 h1 => (f96 j h1).trans (fr j (by omega)))⟩
    · obtain ⟨hq, ⟨le1, rl1, fs1, qu1, gr1, q0, q2, q5⟩, fr⟩ := hx
      rcases hq with ⟨e_, q⟩ | ⟨e_, q⟩
      · exact ⟨(k2_1 q).symm, fun h => absurd h (by decide), CLS.sq hC ⟨_, _, _, _, _, q5⟩ (fun j hj h => fr j h), hO.fr (fun j h => fr j (by omega)), (fun j h0 h1 => fr j (by omega))⟩
      · exact absurd e_ (by decide +kernel)
    · obtain ⟨hq, ⟨le1, rl1, fs1, qu1, gr1, q0, q2, q5⟩, fr⟩ := hx
      rcases hq with ⟨e_, q⟩ | ⟨e_, q⟩
      · exact absurd e_ (by decide +kernel)
      · exact ⟨(k2_2 q.1 (by have := q.2; omega)).symm, fun h => absurd h (by decide), CLS.sq hC ⟨_, _, _, _, _, q5⟩ (fun j hj h => fr j h), hO.fr (fun j h => fr j (by omega)), (fun j h0 h1 => fr j (by omega))⟩
  obtain ⟨hk, h96, hC2, hO2, fr85⟩ := hm
  subst hk
  have hM2 := hM.fr (u := u) (fun j h0 h1 => fr85 j h0 (by omega))
  obtain ⟨⟨sz, sp, wr, to, m0⟩, m1, ⟨w2, m2⟩, ⟨w3, m3⟩, m4, m5, ⟨w6, m6⟩, ⟨F9, m7, m7r⟩, m8, m9, nu, m10, m11⟩ := hM2
  refine ⟨⟨_, m0⟩, _, (c_X7_pathLengthByRounds l E ST hSF u p0 p1 p2 _ _ _ _ _ _ _ _ _ _ _ _ _ _ _ _ _ _ _ _ _ m0 m1 m7 hCp hB r1 r2 r0 m7r), ?_⟩
  intro b t hq
  obtain ⟨qb, ⟨F1, a0, a1, a7, a7r⟩, fr⟩ := hq
  have hkb := k2_b ((0 ≤ p0 ∧ p0 < nw) ∧ okC p1 p2) (dz (Gw op lk kp p0) (wc p0) (p1 * 5 + p2) < 25)
  have hqb : k2 ((0 ≤ p0 ∧ p0 < nw) ∧ okC p1 p2) (dz (Gw op lk kp p0) (wc p0) (p1 * 5 + p2) < 25) = 0 → b = dz (Gw op lk kp p0) (wc p0) (p1 * 5 + p2) := fun h0 => qb h0
  exact qry_fin hK hC2 hO2 ⟨⟨_, _, _, _, a0⟩, a1, ⟨_, (fr 87 (by omega) (by omega)).trans m2⟩, ⟨_, (fr 88 (by omega) (by omega)).trans m3⟩, (fr 89 (by omega) (by omega)).trans m4, (fr 90 (by omega) (by omega)).trans m5, ⟨_, (fr 91 (by omega) (by omega)).trans m6⟩, ⟨_, a7, a7r⟩, (fr 93 (by omega) (by omega)).trans m8, (fr 94 (by omega) (by omega)).trans m9, _, (fr 95 (by omega) (by omega)).trans m10, m11⟩ (fun j h => fr j (by omega) (by omega)) ⟨hkb.1, by omega⟩ (fun h0 => by rw [hqb h0]; exact h96 h0)
set_option maxRecDepth 100000 in
set_option maxHeartbeats 4000000 in
theorem s_firstStep (l : Launch) (E : xE) (ST : xST) (hSF : SF ST) (hSX : SX ST) (htr : l.stackTraces = false) {n : Int} {σ : xW} (hn : 0 ≤ n ∧ n ≤ 600) (hI : INV n E σ) (p0 : Int) (p1 : Int) (p2 : Int) (r0 : rg p0) (r1 : rg p1) (r2 : rg p2) : ∃ P : Int → xW → Prop, CI l E ST yL_firstStep wsL_firstStep rm_L_firstStep [.ref (xad E 0), .int (iZ p0), .int (iZ p1), .int (iZ p2), .ref (xad E 96)] σ P ∧ ∀ (k : Int) (u : xW), P k u → (∃ fs : List Value, u 85 = oB 5 fs) ∧ ∃ Q : Int → xW → Prop, CI l E ST yX7_firstStep wsX7_firstStep rm_X7_firstStep [.ref (xad E 85), .int (iZ p0), .int (iZ p1), .int (iZ p2)] u Q ∧ ∀ (b : Int) (t : xW), Q b t → FIN n E t k b := by
  obtain ⟨th, hth, hv, se, sf, ll, nx, ct, B, S, HB, tx, ln, lq, sv, re, ea, fa, ty, li, v, vs, hF, lf, hC, hM, hO, hK⟩ := hI
  obtain ⟨op, lk, kp, wc, pn, nw, sh, wk⟩ := B
  obtain ⟨c0, c1, c2, ⟨X7, c3⟩, ⟨X13, c4⟩, c5, c6, ⟨le, rl, fs, qu, gr, c7⟩, ⟨cs, cm, va, c8, c9⟩, c10⟩ := id hC
  have c2 : bd E σ 1 op lk kp wc pn nw sh wk := c2
  obtain ⟨⟨hB, hCp, ⟨hsh0, hsh1⟩, hwk0, hwk1⟩, ⟨hsv, hS9⟩, ⟨hnx, hct, hre, hhr, hHi⟩, ⟨hea, hfa, hse, hsf⟩, ⟨hty, hln, htx⟩, hli, hll, hlqf, hlq, hlf⟩ := id hK
  have hB : BI op lk kp wc pn nw := hB
  have hCp : Cp v op lk kp wc pn nw sh wk := hCp
  have hsh0 : 0 ≤ sh := hsh0
  have hsh1 : sh ≤ 1000 * n := hsh1
  have hwk0 : 0 ≤ wk := hwk0
  have hwk1 : wk ≤ 1000 * n := hwk1
  have hhb := hsl_rg hnx.1 hnx.2
  have hnw : 0 ≤ nw ∧ nw ≤ 3 := hB.2.2.2.2.2
  have hse9 : rg se := ⟨by omega, by omega⟩
  have hsf9 : rg sf := ⟨by omega, by omega⟩
  have hea9 : rg ea := ⟨by omega, by omega⟩
  have hfa9 : rg fa := ⟨by omega, by omega⟩
  refine ⟨_, c_L_firstStep l E ST hSF hSX σ p0 p1 p2 (c_X6_firstStep l E ST hSF htr σ p0 p1 p2 _ _ _ _ _ _ _ _ _ _ _ _ _ _ _ _ _ c0 c2 c7 hB r1 r2 r0) c0 (fun z u h => ⟨_, (h.2.2 96 (by omega)).trans hO.1.choose_spec⟩) (fun nm u h => by rcases h.1 with ⟨e_, q⟩ | ⟨e_, q⟩ <;> first | exact Or.inl e_ | exact Or.inr (e_)), ?_⟩
  intro k u hp
  have hm : k = k2 ((0 ≤ p0 ∧ p0 < nw) ∧ okC p1 p2) (dz (Gw op lk kp p0) (wc p0) (p1 * 5 + p2) < 25 ∧ ¬ dz (Gw op lk kp p0) (wc p0) (p1 * 5 + p2) = 0) ∧ (k = 0 → u 96 = oJ E (iZ (fz (Gw op lk kp p0) (wc p0) (p1 * 5 + p2))).toInt64) ∧ CLS E u hv se sf ll nx ct (op, lk, kp, wc, pn, nw, sh, wk) S HB tx ln lq ∧ OUT E u ∧ ∀ j : Nat, 85 ≤ j → j ≠ 96 → u j = σ j := by
    rcases hp with ⟨rfl, z, u0, ⟨hzz, ⟨le1, rl1, fs1, qu1, gr1, q0, q2, q5, f1, f2, f3, f4⟩, fr⟩, e96, f96⟩ | ⟨rfl, hx⟩ | ⟨rfl, hx⟩
    · exact ⟨(k2_0 ⟨f1, f2⟩ ⟨f3, f4⟩).symm, fun _ => by rw [← hzz]; exact e96, (CLS.sq hC ⟨_, _, _, _, _, q5⟩ (fun j hj h => fr j h)).fr (fun j hj => f96 j (by omega)), hO.put e96 ((f96 97 (by omega)).trans (fr 97 (by omega))), (fun j h0 h1 => (f96 j h1).trans (fr j (by omega)))⟩
    · obtain ⟨hq, ⟨le1, rl1, fs1, qu1, gr1, q0, q2, q5⟩, fr⟩ := hx
      rcases hq with ⟨e_, q⟩ | ⟨e_, q⟩
      · exact ⟨(k2_1 q).symm, fun h => absurd h (by decide), CLS.sq hC ⟨_, _, _, _, _, q5⟩ (fun j hj h => fr j h), hO.fr (fun j h => fr j (by omega)), (fun j h0 h1 => fr j (by omega))⟩
      · exact absurd e_ (by decide +kernel)
    · obtain ⟨hq, ⟨le1, rl1, fs1, qu1, gr1, q0, q2, q5⟩, fr⟩ := hx
      rcases hq with ⟨e_, q⟩ | ⟨e_, q⟩
      · exact absurd e_ (by decide +kernel)
      · exact ⟨(k2_2 q.1 (by have := q.2; omega)).symm, fun h => absurd h (by decide), CLS.sq hC ⟨_, _, _, _, _, q5⟩ (fun j hj h => fr j h), hO.fr (fun j h => fr j (by omega)), (fun j h0 h1 => fr j (by omega))⟩
  obtain ⟨hk, h96, hC2, hO2, fr85⟩ := hm
  subst hk
  have hM2 := hM.fr (u := u) (fun j h0 h1 => fr85 j h0 (by omega))
  obtain ⟨⟨sz, sp, wr, to, m0⟩, m1, ⟨w2, m2⟩, ⟨w3, m3⟩, m4, m5, ⟨w6, m6⟩, ⟨F9, m7, m7r⟩, m8, m9, nu, m10, m11⟩ := hM2
  refine ⟨⟨_, m0⟩, _, (c_X7_firstStep l E ST hSF u p0 p1 p2 _ _ _ _ _ _ _ _ _ _ _ _ _ _ _ _ _ _ _ _ _ m0 m1 m7 hCp hB r1 r2 r0 m7r), ?_⟩
  intro b t hq
  obtain ⟨qb, ⟨F1, a0, a1, a7, a7r⟩, fr⟩ := hq
  have hkb := k2_b ((0 ≤ p0 ∧ p0 < nw) ∧ okC p1 p2) (dz (Gw op lk kp p0) (wc p0) (p1 * 5 + p2) < 25 ∧ ¬ dz (Gw op lk kp p0) (wc p0) (p1 * 5 + p2) = 0)
  have hqb : k2 ((0 ≤ p0 ∧ p0 < nw) ∧ okC p1 p2) (dz (Gw op lk kp p0) (wc p0) (p1 * 5 + p2) < 25 ∧ ¬ dz (Gw op lk kp p0) (wc p0) (p1 * 5 + p2) = 0) = 0 → b = fz (Gw op lk kp p0) (wc p0) (p1 * 5 + p2) := fun h0 => qb h0
  exact qry_fin hK hC2 hO2 ⟨⟨_, _, _, _, a0⟩, a1, ⟨_, (fr 87 (by omega) (by omega)).trans m2⟩, ⟨_, (fr 88 (by omega) (by omega)).trans m3⟩, (fr 89 (by omega) (by omega)).trans m4, (fr 90 (by omega) (by omega)).trans m5, ⟨_, (fr 91 (by omega) (by omega)).trans m6⟩, ⟨_, a7, a7r⟩, (fr 93 (by omega) (by omega)).trans m8, (fr 94 (by omega) (by omega)).trans m9, _, (fr 95 (by omega) (by omega)).trans m10, m11⟩ (fun j h => fr j (by omega) (by omega)) ⟨hkb.1, by omega⟩ (fun h0 => by rw [hqb h0]; exact h96 h0)
set_option maxRecDepth 100000 in
set_option maxHeartbeats 4000000 in
theorem s_reachableCells (l : Launch) (E : xE) (ST : xST) (hSF : SF ST) (hSX : SX ST) (htr : l.stackTraces = false) {n : Int} {σ : xW} (hn : 0 ≤ n ∧ n ≤ 600) (hI : INV n E σ) (p0 : Int) (r0 : rg p0) : ∃ P : Int → xW → Prop, CI l E ST yL_reachableCells wsL_reachableCells rm_L_reachableCells [.ref (xad E 0), .int (iZ p0), .ref (xad E 96)] σ P ∧ ∀ (k : Int) (u : xW), P k u → (∃ fs : List Value, u 85 = oB 5 fs) ∧ ∃ Q : Int → xW → Prop, CI l E ST yX7_reachableCells wsX7_reachableCells rm_X7_reachableCells [.ref (xad E 85), .int (iZ p0)] u Q ∧ ∀ (b : Int) (t : xW), Q b t → FIN n E t k b := by
  obtain ⟨th, hth, hv, se, sf, ll, nx, ct, B, S, HB, tx, ln, lq, sv, re, ea, fa, ty, li, v, vs, hF, lf, hC, hM, hO, hK⟩ := hI
  obtain ⟨op, lk, kp, wc, pn, nw, sh, wk⟩ := B
  obtain ⟨c0, c1, c2, ⟨X7, c3⟩, ⟨X13, c4⟩, c5, c6, ⟨le, rl, fs, qu, gr, c7⟩, ⟨cs, cm, va, c8, c9⟩, c10⟩ := id hC
  have c2 : bd E σ 1 op lk kp wc pn nw sh wk := c2
  obtain ⟨⟨hB, hCp, ⟨hsh0, hsh1⟩, hwk0, hwk1⟩, ⟨hsv, hS9⟩, ⟨hnx, hct, hre, hhr, hHi⟩, ⟨hea, hfa, hse, hsf⟩, ⟨hty, hln, htx⟩, hli, hll, hlqf, hlq, hlf⟩ := id hK
  have hB : BI op lk kp wc pn nw := hB
  have hCp : Cp v op lk kp wc pn nw sh wk := hCp
  have hsh0 : 0 ≤ sh := hsh0
  have hsh1 : sh ≤ 1000 * n := hsh1
  have hwk0 : 0 ≤ wk := hwk0
  have hwk1 : wk ≤ 1000 * n := hwk1
  have hhb := hsl_rg hnx.1 hnx.2
  have hnw : 0 ≤ nw ∧ nw ≤ 3 := hB.2.2.2.2.2
  have hse9 : rg se := ⟨by omega, by omega⟩
  have hsf9 : rg sf := ⟨by omega, by omega⟩
  have hea9 : rg ea := ⟨by omega, by omega⟩
  have hfa9 : rg fa := ⟨by omega, by omega⟩
  refine ⟨_, c_L_reachableCells l E ST hSF hSX σ p0 (c_X6_reachableCells l E ST hSF htr σ p0 _ _ _ _ _ _ _ _ _ _ _ _ _ _ _ _ _ c0 c2 c7 hB r0) c0 (fun z u h => ⟨_, (h.2.2 96 (by omega)).trans hO.1.choose_spec⟩) (fun nm u h => h.1.1), ?_⟩
  intro k u hp
  have hm : k = k1 (0 ≤ p0 ∧ p0 < nw) ∧ (k = 0 → u 96 = oJ E (iZ (cnbK (fun c => decide (dz (Gw op lk kp p0) (wc p0) c < 25)) 25)).toInt64) ∧ CLS E u hv se sf ll nx ct (op, lk, kp, wc, pn, nw, sh, wk) S HB tx ln lq ∧ OUT E u ∧ ∀ j : Nat, 85 ≤ j → j ≠ 96 → u j = σ j := by
    rcases hp with ⟨rfl, z, u0, ⟨hzz, ⟨le1, rl1, fs1, qu1, gr1, q0, q2, q5, f1⟩, fr⟩, e96, f96⟩ | ⟨rfl, hx⟩
    · exact ⟨(k1_0 f1).symm, fun _ => by rw [← hzz]; exact e96, (CLS.sq hC ⟨_, _, _, _, _, q5⟩ (fun j hj h => fr j h)).fr (fun j hj => f96 j (by omega)), hO.put e96 ((f96 97 (by omega)).trans (fr 97 (by omega))), (fun j h0 h1 => (f96 j h1).trans (fr j (by omega)))⟩
    · obtain ⟨hq, ⟨le1, rl1, fs1, qu1, gr1, q0, q2, q5⟩, fr⟩ := hx
      obtain ⟨e_, q⟩ := hq
      exact ⟨(k1_1 q).symm, fun h => absurd h (by decide), CLS.sq hC ⟨_, _, _, _, _, q5⟩ (fun j hj h => fr j h), hO.fr (fun j h => fr j (by omega)), (fun j h0 h1 => fr j (by omega))⟩
  obtain ⟨hk, h96, hC2, hO2, fr85⟩ := hm
  subst hk
  have hM2 := hM.fr (u := u) (fun j h0 h1 => fr85 j h0 (by omega))
  obtain ⟨⟨sz, sp, wr, to, m0⟩, m1, ⟨w2, m2⟩, ⟨w3, m3⟩, m4, m5, ⟨w6, m6⟩, ⟨F9, m7, m7r⟩, m8, m9, nu, m10, m11⟩ := hM2
  refine ⟨⟨_, m0⟩, _, (c_X7_reachableCells l E ST hSF u p0 _ _ _ _ _ _ _ _ _ _ _ _ _ _ _ _ _ _ _ _ _ m0 m1 m7 hCp hB r0 m7r), ?_⟩
  intro b t hq
  obtain ⟨qb, ⟨F1, a0, a1, a7, a7r⟩, fr⟩ := hq
  have hkb := k1_b (0 ≤ p0 ∧ p0 < nw)
  have hqb : k1 (0 ≤ p0 ∧ p0 < nw) = 0 → b = cnbK (fun c => decide (dz (Gw op lk kp p0) (wc p0) c < 25)) 25 := fun h0 => qb (k1_is.mp h0)
  exact qry_fin hK hC2 hO2 ⟨⟨_, _, _, _, a0⟩, a1, ⟨_, (fr 87 (by omega) (by omega)).trans m2⟩, ⟨_, (fr 88 (by omega) (by omega)).trans m3⟩, (fr 89 (by omega) (by omega)).trans m4, (fr 90 (by omega) (by omega)).trans m5, ⟨_, (fr 91 (by omega) (by omega)).trans m6⟩, ⟨_, a7, a7r⟩, (fr 93 (by omega) (by omega)).trans m8, (fr 94 (by omega) (by omega)).trans m9, _, (fr 95 (by omega) (by omega)).trans m10, m11⟩ (fun j h => fr j (by omega) (by omega)) ⟨hkb.1, by omega⟩ (fun h0 => by rw [hqb h0]; exact h96 h0)
set_option maxRecDepth 100000 in
set_option maxHeartbeats 4000000 in
theorem s_nearestKey (l : Launch) (E : xE) (ST : xST) (hSF : SF ST) (hSX : SX ST) (htr : l.stackTraces = false) {n : Int} {σ : xW} (hn : 0 ≤ n ∧ n ≤ 600) (hI : INV n E σ) (p0 : Int) (r0 : rg p0) : ∃ P : Int → xW → Prop, CI l E ST yL_nearestKey wsL_nearestKey rm_L_nearestKey [.ref (xad E 0), .int (iZ p0), .ref (xad E 96)] σ P ∧ ∀ (k : Int) (u : xW), P k u → (∃ fs : List Value, u 85 = oB 5 fs) ∧ ∃ Q : Int → xW → Prop, CI l E ST yX7_nearestKey wsX7_nearestKey rm_X7_nearestKey [.ref (xad E 85), .int (iZ p0)] u Q ∧ ∀ (b : Int) (t : xW), Q b t → FIN n E t k b := by
  obtain ⟨th, hth, hv, se, sf, ll, nx, ct, B, S, HB, tx, ln, lq, sv, re, ea, fa, ty, li, v, vs, hF, lf, hC, hM, hO, hK⟩ := hI
  obtain ⟨op, lk, kp, wc, pn, nw, sh, wk⟩ := B
  obtain ⟨c0, c1, c2, ⟨X7, c3⟩, ⟨X13, c4⟩, c5, c6, ⟨le, rl, fs, qu, gr, c7⟩, ⟨cs, cm, va, c8, c9⟩, c10⟩ := id hC
  have c2 : bd E σ 1 op lk kp wc pn nw sh wk := c2
  obtain ⟨⟨hB, hCp, ⟨hsh0, hsh1⟩, hwk0, hwk1⟩, ⟨hsv, hS9⟩, ⟨hnx, hct, hre, hhr, hHi⟩, ⟨hea, hfa, hse, hsf⟩, ⟨hty, hln, htx⟩, hli, hll, hlqf, hlq, hlf⟩ := id hK
  have hB : BI op lk kp wc pn nw := hB
  have hCp : Cp v op lk kp wc pn nw sh wk := hCp
  have hsh0 : 0 ≤ sh := hsh0
  have hsh1 : sh ≤ 1000 * n := hsh1
  have hwk0 : 0 ≤ wk := hwk0
  have hwk1 : wk ≤ 1000 * n := hwk1
  have hhb := hsl_rg hnx.1 hnx.2
  have hnw : 0 ≤ nw ∧ nw ≤ 3 := hB.2.2.2.2.2
  have hse9 : rg se := ⟨by omega, by omega⟩
  have hsf9 : rg sf := ⟨by omega, by omega⟩
  have hea9 : rg ea := ⟨by omega, by omega⟩
  have hfa9 : rg fa := ⟨by omega, by omega⟩
  refine ⟨_, c_L_nearestKey l E ST hSF hSX σ p0 (c_X6_nearestKey l E ST hSF htr σ p0 _ _ _ _ _ _ _ _ _ _ _ _ _ _ _ _ _ c0 c2 c7 hB r0) c0 (fun z u h => ⟨_, (h.2.2 96 (by omega)).trans hO.1.choose_spec⟩) (fun nm u h => by rcases h.1 with ⟨e_, q⟩ | ⟨e_, q⟩ <;> first | exact Or.inl e_ | exact Or.inr (e_)), ?_⟩
  intro k u hp
  have hm : k = k2 (0 ≤ p0 ∧ p0 < nw) (¬ (nkK kp (dz (Gw op lk kp p0) (wc p0)) 6).1 = -1) ∧ (k = 0 → u 96 = oJ E (iZ (97 + (nkK kp (dz (Gw op lk kp p0) (wc p0)) 6).1)).toInt64) ∧ CLS E u hv se sf ll nx ct (op, lk, kp, wc, pn, nw, sh, wk) S HB tx ln lq ∧ OUT E u ∧ ∀ j : Nat, 85 ≤ j → j ≠ 96 → u j = σ j := by
    rcases hp with ⟨rfl, z, u0, ⟨hzz, ⟨le1, rl1, fs1, qu1, gr1, q0, q2, q5, f1, f2⟩, fr⟩, e96, f96⟩ | ⟨rfl, hx⟩ | ⟨rfl, hx⟩
    · exact ⟨(k2_0 f1 f2).symm, fun _ => by rw [← hzz]; exact e96, (CLS.sq hC ⟨_, _, _, _, _, q5⟩ (fun j hj h => fr j h)).fr (fun j hj => f96 j (by omega)), hO.put e96 ((f96 97 (by omega)).trans (fr 97 (by omega))), (fun j h0 h1 => (f96 j h1).trans (fr j (by omega)))⟩
    · obtain ⟨hq, ⟨le1, rl1, fs1, qu1, gr1, q0, q2, q5⟩, fr⟩ := hx
      rcases hq with ⟨e_, q⟩ | ⟨e_, q⟩
      · exact ⟨(k2_1 q).symm, fun h => absurd h (by decide), CLS.sq hC ⟨_, _, _, _, _, q5⟩ (fun j hj h => fr j h), hO.fr (fun j h => fr j (by omega)), (fun j h0 h1 => fr j (by omega))⟩
      · exact absurd e_ (by decide +kernel)
    · obtain ⟨hq, ⟨le1, rl1, fs1, qu1, gr1, q0, q2, q5⟩, fr⟩ := hx
      rcases hq with ⟨e_, q⟩ | ⟨e_, q⟩
      · exact absurd e_ (by decide +kernel)
      · exact ⟨(k2_2 q.1 (fun z => z q.2)).symm, fun h => absurd h (by decide), CLS.sq hC ⟨_, _, _, _, _, q5⟩ (fun j hj h => fr j h), hO.fr (fun j h => fr j (by omega)), (fun j h0 h1 => fr j (by omega))⟩
  obtain ⟨hk, h96, hC2, hO2, fr85⟩ := hm
  subst hk
  have hM2 := hM.fr (u := u) (fun j h0 h1 => fr85 j h0 (by omega))
  obtain ⟨⟨sz, sp, wr, to, m0⟩, m1, ⟨w2, m2⟩, ⟨w3, m3⟩, m4, m5, ⟨w6, m6⟩, ⟨F9, m7, m7r⟩, m8, m9, nu, m10, m11⟩ := hM2
  refine ⟨⟨_, m0⟩, _, (c_X7_nearestKey l E ST hSF u p0 _ _ _ _ _ _ _ _ _ _ _ _ _ _ _ _ _ _ _ _ _ m0 m1 m7 hCp hB r0 m7r), ?_⟩
  intro b t hq
  obtain ⟨qb, ⟨F1, a0, a1, a7, a7r⟩, fr⟩ := hq
  have hkb := k2_b (0 ≤ p0 ∧ p0 < nw) (¬ (nkK kp (dz (Gw op lk kp p0) (wc p0)) 6).1 = -1)
  have hqb : k2 (0 ≤ p0 ∧ p0 < nw) (¬ (nkK kp (dz (Gw op lk kp p0) (wc p0)) 6).1 = -1) = 0 → b = 97 + (nkK kp (dz (Gw op lk kp p0) (wc p0)) 6).1 := fun h0 => qb h0
  exact qry_fin hK hC2 hO2 ⟨⟨_, _, _, _, a0⟩, a1, ⟨_, (fr 87 (by omega) (by omega)).trans m2⟩, ⟨_, (fr 88 (by omega) (by omega)).trans m3⟩, (fr 89 (by omega) (by omega)).trans m4, (fr 90 (by omega) (by omega)).trans m5, ⟨_, (fr 91 (by omega) (by omega)).trans m6⟩, ⟨_, a7, a7r⟩, (fr 93 (by omega) (by omega)).trans m8, (fr 94 (by omega) (by omega)).trans m9, _, (fr 95 (by omega) (by omega)).trans m10, m11⟩ (fun j h => fr j (by omega) (by omega)) ⟨hkb.1, by omega⟩ (fun h0 => by rw [hqb h0]; exact h96 h0)
set_option maxRecDepth 100000 in
set_option maxHeartbeats 4000000 in
theorem s_helpfulShifts (l : Launch) (E : xE) (ST : xST) (hSF : SF ST) (hSX : SX ST) (htr : l.stackTraces = false) {n : Int} {σ : xW} (hn : 0 ≤ n ∧ n ≤ 600) (hI : INV n E σ) (p0 : Int) (p1 : Int) (p2 : Int) (r0 : rg p0) (r1 : rg p1) (r2 : rg p2) : ∃ P : Int → xW → Prop, CI l E ST yL_helpfulShifts wsL_helpfulShifts rm_L_helpfulShifts [.ref (xad E 0), .int (iZ p0), .int (iZ p1), .int (iZ p2), .ref (xad E 96)] σ P ∧ ∀ (k : Int) (u : xW), P k u → (∃ fs : List Value, u 85 = oB 5 fs) ∧ ∃ Q : Int → xW → Prop, CI l E ST yX7_helpfulShifts wsX7_helpfulShifts rm_X7_helpfulShifts [.ref (xad E 85), .int (iZ p0), .int (iZ p1), .int (iZ p2)] u Q ∧ ∀ (b : Int) (t : xW), Q b t → FIN n E t k b := by
  obtain ⟨th, hth, hv, se, sf, ll, nx, ct, B, S, HB, tx, ln, lq, sv, re, ea, fa, ty, li, v, vs, hF, lf, hC, hM, hO, hK⟩ := hI
  obtain ⟨op, lk, kp, wc, pn, nw, sh, wk⟩ := B
  obtain ⟨c0, c1, c2, ⟨X7, c3⟩, ⟨X13, c4⟩, c5, c6, ⟨le, rl, fs, qu, gr, c7⟩, ⟨cs, cm, va, c8, c9⟩, c10⟩ := id hC
  have c2 : bd E σ 1 op lk kp wc pn nw sh wk := c2
  obtain ⟨⟨hB, hCp, ⟨hsh0, hsh1⟩, hwk0, hwk1⟩, ⟨hsv, hS9⟩, ⟨hnx, hct, hre, hhr, hHi⟩, ⟨hea, hfa, hse, hsf⟩, ⟨hty, hln, htx⟩, hli, hll, hlqf, hlq, hlf⟩ := id hK
  have hB : BI op lk kp wc pn nw := hB
  have hCp : Cp v op lk kp wc pn nw sh wk := hCp
  have hsh0 : 0 ≤ sh := hsh0
  have hsh1 : sh ≤ 1000 * n := hsh1
  have hwk0 : 0 ≤ wk := hwk0
  have hwk1 : wk ≤ 1000 * n := hwk1
  have hhb := hsl_rg hnx.1 hnx.2
  have hnw : 0 ≤ nw ∧ nw ≤ 3 := hB.2.2.2.2.2
  have hse9 : rg se := ⟨by omega, by omega⟩
  have hsf9 : rg sf := ⟨by omega, by omega⟩
  have hea9 : rg ea := ⟨by omega, by omega⟩
  have hfa9 : rg fa := ⟨by omega, by omega⟩
  refine ⟨_, c_L_helpfulShifts l E ST hSF hSX σ p0 p1 p2 (c_X6_helpfulShifts l E ST hSF htr σ p0 p1 p2 _ _ _ _ _ _ _ _ _ _ _ _ _ _ _ _ _ _ _ _ _ _ _ _ _ c0 c2 c4 c7 hB r0 r1 r2) c0 (fun z u h => ⟨_, (h.2.2 96 (by omega) (by omega)).trans hO.1.choose_spec⟩) (fun nm u h => h.1.1), ?_⟩
  intro k u hp
  have hm : k = k1 ((0 ≤ p0 ∧ p0 < nw) ∧ okC p1 p2) ∧ (k = 0 → u 96 = oJ E (iZ (smK (fun i => hpF op lk kp wc pn nw p0 (p1 * 5 + p2) (i * 5) 1 + hpF op lk kp wc pn nw p0 (p1 * 5 + p2) i 5) 5)).toInt64) ∧ CLS E u hv se sf ll nx ct (op, lk, kp, wc, pn, nw, sh, wk) S HB tx ln lq ∧ OUT E u ∧ ∀ j : Nat, 85 ≤ j → j ≠ 96 → u j = σ j := by
    rcases hp with ⟨rfl, z, u0, ⟨hzz, ⟨top1, tlk1, tkp1, twc1, tpn1, tnw1, tsh1, twk1, le1, rl1, fs1, qu1, gr1, q4, q5, f1, f2⟩, fr⟩, e96, f96⟩ | ⟨rfl, hx⟩
    · exact ⟨(k1_0 ⟨f1, f2⟩).symm, fun _ => by rw [← hzz]; exact e96, (CLS.qry hC ⟨(top1, tlk1, tkp1, twc1, tpn1, tnw1, tsh1, twk1), q4⟩ ⟨_, _, _, _, _, q5⟩ (fun j hj a b => fr j a b)).fr (fun j hj => f96 j (by omega)), hO.put e96 ((f96 97 (by omega)).trans (fr 97 (by omega) (by omega))), (fun j h0 h1 => (f96 j h1).trans (fr j (by omega) (by omega)))⟩
    · obtain ⟨hq, ⟨top1, tlk1, tkp1, twc1, tpn1, tnw1, tsh1, twk1, le1, rl1, fs1, qu1, gr1, q4, q5⟩, fr⟩ := hx
      obtain ⟨e_, q⟩ := hq
      exact ⟨(k1_1 q).symm, fun h => absurd h (by decide), CLS.qry hC ⟨(top1, tlk1, tkp1, twc1, tpn1, tnw1, tsh1, twk1), q4⟩ ⟨_, _, _, _, _, q5⟩ (fun j hj a b => fr j a b), hO.fr (fun j h => fr j (by omega) (by omega)), (fun j h0 h1 => fr j (by omega) (by omega))⟩
  obtain ⟨hk, h96, hC2, hO2, fr85⟩ := hm
  subst hk
  have hM2 := hM.fr (u := u) (fun j h0 h1 => fr85 j h0 (by omega))
  obtain ⟨⟨sz, sp, wr, to, m0⟩, m1, ⟨w2, m2⟩, ⟨w3, m3⟩, m4, m5, ⟨w6, m6⟩, ⟨F9, m7, m7r⟩, m8, m9, nu, m10, m11⟩ := hM2
  refine ⟨⟨_, m0⟩, _, (c_X7_helpfulShifts l E ST hSF u p0 p1 p2 _ _ _ _ _ _ _ _ _ _ _ _ _ _ _ _ _ _ _ _ _ _ _ m0 m1 m3 m6 m7 hCp hB r1 r2 r0 m7r), ?_⟩
  intro b t hq
  obtain ⟨qb, ⟨t1, m1_, F1, a0, a1, a3, a6, a7, a7r⟩, fr⟩ := hq
  have hkb := k1_b ((0 ≤ p0 ∧ p0 < nw) ∧ okC p1 p2)
  have hqb : k1 ((0 ≤ p0 ∧ p0 < nw) ∧ okC p1 p2) = 0 → b = smK (fun i => hpF op lk kp wc pn nw p0 (p1 * 5 + p2) (i * 5) 1 + hpF op lk kp wc pn nw p0 (p1 * 5 + p2) i 5) 5 := fun h0 => qb (k1_is.mp h0)
  exact qry_fin hK hC2 hO2 ⟨⟨_, _, _, _, a0⟩, a1, ⟨_, (fr 87 (by omega) (by omega) (by omega)).trans m2⟩, ⟨_, a3⟩, (fr 89 (by omega) (by omega) (by omega)).trans m4, (fr 90 (by omega) (by omega) (by omega)).trans m5, ⟨_, a6⟩, ⟨_, a7, a7r⟩, (fr 93 (by omega) (by omega) (by omega)).trans m8, (fr 94 (by omega) (by omega) (by omega)).trans m9, _, (fr 95 (by omega) (by omega) (by omega)).trans m10, m11⟩ (fun j h => fr j (by omega) (by omega) (by omega)) ⟨hkb.1, by omega⟩ (fun h0 => by rw [hqb h0]; exact h96 h0)
set_option maxRecDepth 100000 in
set_option maxHeartbeats 4000000 in
theorem s_outputAt (l : Launch) (E : xE) (ST : xST) (hSF : SF ST) (hSX : SX ST) (htr : l.stackTraces = false) {n : Int} {σ : xW} (hn : 0 ≤ n ∧ n ≤ 600) (hI : INV n E σ) (p0 : Int) (r0 : rg p0) : ∃ P : Int → xW → Prop, CI l E ST yL_outputAt wsL_outputAt rm_L_outputAt [.ref (xad E 0), .int (iZ p0), .ref (xad E 96)] σ P ∧ ∀ (k : Int) (u : xW), P k u → (∃ fs : List Value, u 85 = oB 5 fs) ∧ ∃ Q : Int → xW → Prop, CI l E ST yX7_outputAt wsX7_outputAt rm_X7_outputAt [.ref (xad E 85), .int (iZ p0)] u Q ∧ ∀ (b : Int) (t : xW), Q b t → FIN n E t k b := by
  obtain ⟨th, hth, hv, se, sf, ll, nx, ct, B, S, HB, tx, ln, lq, sv, re, ea, fa, ty, li, v, vs, hF, lf, hC, hM, hO, hK⟩ := hI
  obtain ⟨op, lk, kp, wc, pn, nw, sh, wk⟩ := B
  obtain ⟨c0, c1, c2, ⟨X7, c3⟩, ⟨X13, c4⟩, c5, c6, ⟨le, rl, fs, qu, gr, c7⟩, ⟨cs, cm, va, c8, c9⟩, c10⟩ := id hC
  have c2 : bd E σ 1 op lk kp wc pn nw sh wk := c2
  obtain ⟨⟨hB, hCp, ⟨hsh0, hsh1⟩, hwk0, hwk1⟩, ⟨hsv, hS9⟩, ⟨hnx, hct, hre, hhr, hHi⟩, ⟨hea, hfa, hse, hsf⟩, ⟨hty, hln, htx⟩, hli, hll, hlqf, hlq, hlf⟩ := id hK
  have hB : BI op lk kp wc pn nw := hB
  have hCp : Cp v op lk kp wc pn nw sh wk := hCp
  have hsh0 : 0 ≤ sh := hsh0
  have hsh1 : sh ≤ 1000 * n := hsh1
  have hwk0 : 0 ≤ wk := hwk0
  have hwk1 : wk ≤ 1000 * n := hwk1
  have hhb := hsl_rg hnx.1 hnx.2
  have hnw : 0 ≤ nw ∧ nw ≤ 3 := hB.2.2.2.2.2
  have hse9 : rg se := ⟨by omega, by omega⟩
  have hsf9 : rg sf := ⟨by omega, by omega⟩
  have hea9 : rg ea := ⟨by omega, by omega⟩
  have hfa9 : rg fa := ⟨by omega, by omega⟩
  refine ⟨_, c_L_outputAt l E ST hSF hSX σ p0 (c_X6_outputAt l E ST hSF htr σ p0 _ _ _ _ _ c0 c10 r0 (by first | assumption | omega | exact ⟨by omega, by omega⟩) hlq) c0 (fun z u h => by obtain ⟨hzz, f1, hu⟩ := h; rw [hu]; exact hO.1) (fun nm u h => h.1.1), ?_⟩
  intro k u hp
  have hm : k = k1 (0 ≤ p0 ∧ p0 < li) ∧ (k = 0 → u 96 = oJ E (iZ (lq p0)).toInt64) ∧ CLS E u hv se sf ll nx ct (op, lk, kp, wc, pn, nw, sh, wk) S HB tx ln lq ∧ OUT E u ∧ ∀ j : Nat, 85 ≤ j → j ≠ 96 → u j = σ j := by
    rcases hp with ⟨rfl, z, u0, ⟨hzz, f1, hu⟩, e96, f96⟩ | ⟨rfl, hx⟩
    · exact ⟨(k1_0 (by omega)).symm, fun _ => by rw [← hzz]; exact e96, hC.fr (fun j hj => (f96 j (by omega)).trans (by rw [hu])), hO.put e96 ((f96 97 (by omega)).trans (by rw [hu])), (fun j h0 h1 => (f96 j h1).trans (by rw [hu]))⟩
    · obtain ⟨hq, hu⟩ := hx
      obtain ⟨e_, q⟩ := hq
      exact ⟨(k1_1 (by omega)).symm, fun h => absurd h (by decide), by rw [hu]; exact hC, by rw [hu]; exact hO, (fun j _ _ => by rw [hu])⟩
  obtain ⟨hk, h96, hC2, hO2, fr85⟩ := hm
  subst hk
  have hM2 := hM.fr (u := u) (fun j h0 h1 => fr85 j h0 (by omega))
  obtain ⟨⟨sz, sp, wr, to, m0⟩, m1, ⟨w2, m2⟩, ⟨w3, m3⟩, m4, m5, ⟨w6, m6⟩, ⟨F9, m7, m7r⟩, m8, m9, nu, m10, m11⟩ := hM2
  refine ⟨⟨_, m0⟩, _, (c_X7_outputAt l E ST hSF u p0 _ _ _ _ _ _ _ _ _ _ _ _ m0 m9 r0 (by first | assumption | omega | exact ⟨by omega, by omega⟩) hlf), ?_⟩
  intro b t hq
  obtain ⟨qb, ⟨a0, a9⟩, fr⟩ := hq
  have hkb := k1_b (0 ≤ p0 ∧ p0 < li)
  have hqb : k1 (0 ≤ p0 ∧ p0 < li) = 0 → b = lq p0 := fun h0 => (qb (k1_is.mp h0)).trans (hlqf p0 (by have := k1_is.mp h0; omega) (by have := k1_is.mp h0; omega)).symm
  exact qry_fin hK hC2 hO2 ⟨⟨_, _, _, _, a0⟩, (fr 86 (by omega)).trans m1, ⟨_, (fr 87 (by omega)).trans m2⟩, ⟨_, (fr 88 (by omega)).trans m3⟩, (fr 89 (by omega)).trans m4, (fr 90 (by omega)).trans m5, ⟨_, (fr 91 (by omega)).trans m6⟩, ⟨_, (fr 92 (by omega)).trans m7, m7r⟩, (fr 93 (by omega)).trans m8, a9, _, (fr 95 (by omega)).trans m10, m11⟩ (fun j h => fr j (by omega)) ⟨hkb.1, by omega⟩ (fun h0 => by rw [hqb h0]; exact h96 h0)
set_option maxRecDepth 100000 in
set_option maxHeartbeats 4000000 in
theorem s_errorPosition (l : Launch) (E : xE) (ST : xST) (hSF : SF ST) (hSX : SX ST) (htr : l.stackTraces = false) {n : Int} {σ : xW} (hn : 0 ≤ n ∧ n ≤ 600) (hI : INV n E σ)   : ∃ P : Int → xW → Prop, CI l E ST yL_errorPosition wsL_errorPosition rm_L_errorPosition [.ref (xad E 0), .ref (xad E 96)] σ P ∧ ∀ (k : Int) (u : xW), P k u → (∃ fs : List Value, u 85 = oB 5 fs) ∧ ∃ Q : Int → xW → Prop, CI l E ST yX7_errorPosition wsX7_errorPosition rm_X7_errorPosition [.ref (xad E 85)] u Q ∧ ∀ (b : Int) (t : xW), Q b t → FIN n E t k b := by
  obtain ⟨th, hth, hv, se, sf, ll, nx, ct, B, S, HB, tx, ln, lq, sv, re, ea, fa, ty, li, v, vs, hF, lf, hC, hM, hO, hK⟩ := hI
  obtain ⟨op, lk, kp, wc, pn, nw, sh, wk⟩ := B
  obtain ⟨c0, c1, c2, ⟨X7, c3⟩, ⟨X13, c4⟩, c5, c6, ⟨le, rl, fs, qu, gr, c7⟩, ⟨cs, cm, va, c8, c9⟩, c10⟩ := id hC
  have c2 : bd E σ 1 op lk kp wc pn nw sh wk := c2
  obtain ⟨⟨hB, hCp, ⟨hsh0, hsh1⟩, hwk0, hwk1⟩, ⟨hsv, hS9⟩, ⟨hnx, hct, hre, hhr, hHi⟩, ⟨hea, hfa, hse, hsf⟩, ⟨hty, hln, htx⟩, hli, hll, hlqf, hlq, hlf⟩ := id hK
  have hB : BI op lk kp wc pn nw := hB
  have hCp : Cp v op lk kp wc pn nw sh wk := hCp
  have hsh0 : 0 ≤ sh := hsh0
  have hsh1 : sh ≤ 1000 * n := hsh1
  have hwk0 : 0 ≤ wk := hwk0
  have hwk1 : wk ≤ 1000 * n := hwk1
  have hhb := hsl_rg hnx.1 hnx.2
  have hnw : 0 ≤ nw ∧ nw ≤ 3 := hB.2.2.2.2.2
  have hse9 : rg se := ⟨by omega, by omega⟩
  have hsf9 : rg sf := ⟨by omega, by omega⟩
  have hea9 : rg ea := ⟨by omega, by omega⟩
  have hfa9 : rg fa := ⟨by omega, by omega⟩
  refine ⟨_, c_L_errorPosition l E ST hSF hSX σ  (c_X6_errorPosition l E ST hSF htr σ _ _ _ _ c0 (by first | assumption | omega | exact ⟨by omega, by omega⟩)) c0 (fun z u h => by obtain ⟨hzz, f1, hu⟩ := h; rw [hu]; exact hO.1) (fun nm u h => h.1.1), ?_⟩
  intro k u hp
  have hm : k = k1 (¬ ea = -1) ∧ (k = 0 → u 96 = oJ E (iZ (se)).toInt64) ∧ CLS E u hv se sf ll nx ct (op, lk, kp, wc, pn, nw, sh, wk) S HB tx ln lq ∧ OUT E u ∧ ∀ j : Nat, 85 ≤ j → j ≠ 96 → u j = σ j := by
    rcases hp with ⟨rfl, z, u0, ⟨hzz, f1, hu⟩, e96, f96⟩ | ⟨rfl, hx⟩
    · exact ⟨(k1_0 (by omega)).symm, fun _ => by rw [← hzz]; exact e96, hC.fr (fun j hj => (f96 j (by omega)).trans (by rw [hu])), hO.put e96 ((f96 97 (by omega)).trans (by rw [hu])), (fun j h0 h1 => (f96 j h1).trans (by rw [hu]))⟩
    · obtain ⟨hq, hu⟩ := hx
      obtain ⟨e_, q⟩ := hq
      exact ⟨(k1_1 (by omega)).symm, fun h => absurd h (by decide), by rw [hu]; exact hC, by rw [hu]; exact hO, (fun j _ _ => by rw [hu])⟩
  obtain ⟨hk, h96, hC2, hO2, fr85⟩ := hm
  subst hk
  have hM2 := hM.fr (u := u) (fun j h0 h1 => fr85 j h0 (by omega))
  obtain ⟨⟨sz, sp, wr, to, m0⟩, m1, ⟨w2, m2⟩, ⟨w3, m3⟩, m4, m5, ⟨w6, m6⟩, ⟨F9, m7, m7r⟩, m8, m9, nu, m10, m11⟩ := hM2
  refine ⟨⟨_, m0⟩, _, (c_X7_errorPosition l E ST hSF u _ _ _ _ _ _ _ _ _ _ _ m0 (by first | assumption | omega | exact ⟨by omega, by omega⟩)), ?_⟩
  intro b t hq
  obtain ⟨qb, a0, fr⟩ := hq
  have hkb := k1_b (¬ ea = -1)
  have hqb : k1 (¬ ea = -1) = 0 → b = se := fun h0 => (qb (k1_is.mp h0)).trans hea
  exact qry_fin hK hC2 hO2 ⟨⟨_, _, _, _, a0⟩, (fr 86 (by omega)).trans m1, ⟨_, (fr 87 (by omega)).trans m2⟩, ⟨_, (fr 88 (by omega)).trans m3⟩, (fr 89 (by omega)).trans m4, (fr 90 (by omega)).trans m5, ⟨_, (fr 91 (by omega)).trans m6⟩, ⟨_, (fr 92 (by omega)).trans m7, m7r⟩, (fr 93 (by omega)).trans m8, (fr 94 (by omega)).trans m9, _, (fr 95 (by omega)).trans m10, m11⟩ (fun j h => fr j (by omega)) ⟨hkb.1, by omega⟩ (fun h0 => by rw [hqb h0]; exact h96 h0)
set_option maxRecDepth 100000 in
set_option maxHeartbeats 4000000 in
theorem s_failedCommand (l : Launch) (E : xE) (ST : xST) (hSF : SF ST) (hSX : SX ST) (htr : l.stackTraces = false) {n : Int} {σ : xW} (hn : 0 ≤ n ∧ n ≤ 600) (hI : INV n E σ)   : ∃ P : Int → xW → Prop, CI l E ST yL_failedCommand wsL_failedCommand rm_L_failedCommand [.ref (xad E 0), .ref (xad E 96)] σ P ∧ ∀ (k : Int) (u : xW), P k u → (∃ fs : List Value, u 85 = oB 5 fs) ∧ ∃ Q : Int → xW → Prop, CI l E ST yX7_failedCommand wsX7_failedCommand rm_X7_failedCommand [.ref (xad E 85)] u Q ∧ ∀ (b : Int) (t : xW), Q b t → FIN n E t k b := by
  obtain ⟨th, hth, hv, se, sf, ll, nx, ct, B, S, HB, tx, ln, lq, sv, re, ea, fa, ty, li, v, vs, hF, lf, hC, hM, hO, hK⟩ := hI
  obtain ⟨op, lk, kp, wc, pn, nw, sh, wk⟩ := B
  obtain ⟨c0, c1, c2, ⟨X7, c3⟩, ⟨X13, c4⟩, c5, c6, ⟨le, rl, fs, qu, gr, c7⟩, ⟨cs, cm, va, c8, c9⟩, c10⟩ := id hC
  have c2 : bd E σ 1 op lk kp wc pn nw sh wk := c2
  obtain ⟨⟨hB, hCp, ⟨hsh0, hsh1⟩, hwk0, hwk1⟩, ⟨hsv, hS9⟩, ⟨hnx, hct, hre, hhr, hHi⟩, ⟨hea, hfa, hse, hsf⟩, ⟨hty, hln, htx⟩, hli, hll, hlqf, hlq, hlf⟩ := id hK
  have hB : BI op lk kp wc pn nw := hB
  have hCp : Cp v op lk kp wc pn nw sh wk := hCp
  have hsh0 : 0 ≤ sh := hsh0
  have hsh1 : sh ≤ 1000 * n := hsh1
  have hwk0 : 0 ≤ wk := hwk0
  have hwk1 : wk ≤ 1000 * n := hwk1
  have hhb := hsl_rg hnx.1 hnx.2
  have hnw : 0 ≤ nw ∧ nw ≤ 3 := hB.2.2.2.2.2
  have hse9 : rg se := ⟨by omega, by omega⟩
  have hsf9 : rg sf := ⟨by omega, by omega⟩
  have hea9 : rg ea := ⟨by omega, by omega⟩
  have hfa9 : rg fa := ⟨by omega, by omega⟩
  refine ⟨_, c_L_failedCommand l E ST hSF hSX σ  (c_X6_failedCommand l E ST hSF htr σ _ _ _ _ c0 (by first | assumption | omega | exact ⟨by omega, by omega⟩)) c0 (fun z u h => by obtain ⟨hzz, f1, hu⟩ := h; rw [hu]; exact hO.1) (fun nm u h => h.1.1), ?_⟩
  intro k u hp
  have hm : k = k1 (¬ fa = -1) ∧ (k = 0 → u 96 = oJ E (iZ (sf)).toInt64) ∧ CLS E u hv se sf ll nx ct (op, lk, kp, wc, pn, nw, sh, wk) S HB tx ln lq ∧ OUT E u ∧ ∀ j : Nat, 85 ≤ j → j ≠ 96 → u j = σ j := by
    rcases hp with ⟨rfl, z, u0, ⟨hzz, f1, hu⟩, e96, f96⟩ | ⟨rfl, hx⟩
    · exact ⟨(k1_0 (by omega)).symm, fun _ => by rw [← hzz]; exact e96, hC.fr (fun j hj => (f96 j (by omega)).trans (by rw [hu])), hO.put e96 ((f96 97 (by omega)).trans (by rw [hu])), (fun j h0 h1 => (f96 j h1).trans (by rw [hu]))⟩
    · obtain ⟨hq, hu⟩ := hx
      obtain ⟨e_, q⟩ := hq
      exact ⟨(k1_1 (by omega)).symm, fun h => absurd h (by decide), by rw [hu]; exact hC, by rw [hu]; exact hO, (fun j _ _ => by rw [hu])⟩
  obtain ⟨hk, h96, hC2, hO2, fr85⟩ := hm
  subst hk
  have hM2 := hM.fr (u := u) (fun j h0 h1 => fr85 j h0 (by omega))
  obtain ⟨⟨sz, sp, wr, to, m0⟩, m1, ⟨w2, m2⟩, ⟨w3, m3⟩, m4, m5, ⟨w6, m6⟩, ⟨F9, m7, m7r⟩, m8, m9, nu, m10, m11⟩ := hM2
  refine ⟨⟨_, m0⟩, _, (c_X7_failedCommand l E ST hSF u _ _ _ _ _ _ _ _ _ _ _ m0 (by first | assumption | omega | exact ⟨by omega, by omega⟩)), ?_⟩
  intro b t hq
  obtain ⟨qb, a0, fr⟩ := hq
  have hkb := k1_b (¬ fa = -1)
  have hqb : k1 (¬ fa = -1) = 0 → b = sf := fun h0 => (qb (k1_is.mp h0)).trans hfa
  exact qry_fin hK hC2 hO2 ⟨⟨_, _, _, _, a0⟩, (fr 86 (by omega)).trans m1, ⟨_, (fr 87 (by omega)).trans m2⟩, ⟨_, (fr 88 (by omega)).trans m3⟩, (fr 89 (by omega)).trans m4, (fr 90 (by omega)).trans m5, ⟨_, (fr 91 (by omega)).trans m6⟩, ⟨_, (fr 92 (by omega)).trans m7, m7r⟩, (fr 93 (by omega)).trans m8, (fr 94 (by omega)).trans m9, _, (fr 95 (by omega)).trans m10, m11⟩ (fun j h => fr j (by omega)) ⟨hkb.1, by omega⟩ (fun h0 => by rw [hqb h0]; exact h96 h0)
