/-! ===== the calls that change: both sides ===== -/
set_option maxRecDepth 100000 in
set_option maxHeartbeats 4000000 in
theorem s_setTile (l : Launch) (E : xE) (ST : xST) (hSF : SF ST) (hSX : SX ST) (htr : l.stackTraces = false) {n : Int} {σ : xW} (hn : 0 ≤ n ∧ n ≤ 600) (hI : INV n E σ) (p0 : Int) (p1 : Int) (p2 : Int) (r0 : rg p0) (r1 : rg p1) (r2 : rg p2) : ∃ P : Int → xW → Prop, CI l E ST yL_setTile wsL_setTile rm_L_setTile [.ref (xad E 0), .int (iZ p0), .int (iZ p1), .int (iZ p2), .ref (xad E 96)] σ P ∧ ∀ (k : Int) (u : xW), P k u → (∃ fs : List Value, u 85 = oB 5 fs) ∧ ∃ Q : Int → xW → Prop, CI l E ST yX7_setTile wsX7_setTile rm_X7_setTile [.ref (xad E 85), .int (iZ p0), .int (iZ p1), .int (iZ p2)] u Q ∧ ∀ (b : Int) (t : xW), Q b t → FIN n E t k b := by
  obtain ⟨th, hth, hv, se, sf, ll, nx, ct, B, S, HB, tx, ln, lq, sv, re, ea, fa, ty, li, v, vs, hF, lf, hC, hM, hO, hK⟩ := hI
  obtain ⟨op, lk, kp, wc, pn, nw, sh, wk⟩ := B
  obtain ⟨c0, c1, c2, ⟨X7, c3⟩, ⟨X13, c4⟩, c5, c6, ⟨le, rl, fs, qu, gr, c7⟩, ⟨cs, cm, va, c8, c9⟩, c10⟩ := id hC
  have c2 : bd E σ 1 op lk kp wc pn nw sh wk := c2
  obtain ⟨⟨hB, hCp, ⟨hsh0, hsh1⟩, hwk0, hwk1⟩, ⟨hsv, hS9⟩, ⟨hnx, hct, hre, hhr, hHi⟩, ⟨hea, hfa, hse, hsf⟩, ⟨hty, hln, htx⟩, hli, hll, hlqf, hlq, hlf⟩ := id hK
  have hB : BI op lk kp wc pn nw := hB
  have hCp : Cp v op lk kp wc pn nw sh wk := hCp
  have hsh0 : 0 ≤ sh := hsh0
  have hsh1 : sh ≤ 1000 * n := hsh1
  have hwk0 : 0 ≤ wk := hwk0
  have hwk1 : wk ≤ 1000 * n := hwk1
  have hhb := hsl_rg hnx.1 hnx.2
  have hnw : 0 ≤ nw ∧ nw ≤ 3 := hB.2.2.2.2.2
  have hse9 : rg se := ⟨by omega, by omega⟩
  have hsf9 : rg sf := ⟨by omega, by omega⟩
  have hea9 : rg ea := ⟨by omega, by omega⟩
  have hfa9 : rg fa := ⟨by omega, by omega⟩
  have hfok : FOK (op, lk, kp, wc, pn, nw, sh, wk) (setF op lk kp wc pn nw sh wk p0 p1 p2) := FOK_set hB
  have htz : tA (setF op lk kp wc pn nw sh wk p0 p1 p2).1 = 0 ↔ 0 ≤ (setF op lk kp wc pn nw sh wk p0 p1 p2).1 := tz_set hB
  have hrz := hfok.2.2.1
  have hr8 := r_set (sh := sh) (wk := wk) (r := p0) (c := p1) (o := p2) hB
  have hrg : rg (setF op lk kp wc pn nw sh wk p0 p1 p2).1 := ⟨by omega, by omega⟩
  refine ⟨_, c_L_setTile l E ST hSF hSX σ p0 p1 p2 (c_X6_setTile l E ST hSF htr σ p0 p1 p2 _ _ _ _ _ _ _ _ _ _ _ _ _ _ _ _ _ _ _ _ _ _ _ _ _ _ _ _ _ _ c0 c1 (c6 nx hnx.1 hnx.2) c2 c3 (by first | assumption | omega | exact ⟨by omega, by omega⟩) (by first | assumption | omega | exact ⟨by omega, by omega⟩) hB r0 r1 r2 (by first | assumption | omega | exact ⟨by omega, by omega⟩)) c0 (fun z u h => ⟨_, (h.2.2 96 (by omega) (by omega) (by omega)).trans hO.1.choose_spec⟩) (fun nm u h => by rcases h.1 with ⟨e, q⟩ | ⟨e, q⟩ | ⟨e, q⟩ | ⟨e, q⟩ | ⟨e, q⟩ <;> first | exact Or.inl e | exact Or.inr (e) | (exfalso; omega)), ?_⟩
  intro k u hp
  have hm : MIDC E σ u k tA (setF op lk kp wc pn nw sh wk p0 p1 p2) ((setF op lk kp wc pn nw sh wk p0 p1 p2).1) hv se sf ll nx ct (op, lk, kp, wc, pn, nw, sh, wk) S HB tx ln lq := by
    rcases hp with ⟨rfl, z, u0, ⟨hzz, ⟨op1, lk1, kp1, wc1, pn1, nw1, sh1, wk1, q0, q1, q2, q3, q4, e, hz⟩, fr⟩, e96, f96⟩ | ⟨rfl, hx⟩ | ⟨rfl, hx⟩
    · exact mid_ok hC hnx hfok q0 q1 q2 q3 q4 (srX_fr hC.2.2.2.2.2.2.2.1 (fun j a b => fr j (by omega) (by omega) (by omega))) e hz (fun j a b c _ => fr j a b c) hzz e96 f96
    · obtain ⟨hq, ⟨op1, lk1, kp1, wc1, pn1, nw1, sh1, wk1, q0, q1, q2, q3, q4, e⟩, fr⟩ := hx
      rcases hq with ⟨e_, q⟩ | ⟨e_, q⟩ | ⟨e_, q⟩ | ⟨e_, q⟩ | ⟨e_, q⟩
      · exact mid_no hC hfok (by omega) q0 q3 q4 (srX_fr hC.2.2.2.2.2.2.2.1 (fun j a b => fr j (by omega))) e (fun j a _ => fr j a) (by rw [q]; decide)
      · exact absurd e_ (by decide +kernel)
      · exact absurd e_ (by decide +kernel)
      · exact absurd e_ (by decide +kernel)
      · exact absurd e_ (by decide +kernel)
    · obtain ⟨hq, ⟨op1, lk1, kp1, wc1, pn1, nw1, sh1, wk1, q0, q1, q2, q3, q4, e⟩, fr⟩ := hx
      rcases hq with ⟨e_, q⟩ | ⟨e_, q⟩ | ⟨e_, q⟩ | ⟨e_, q⟩ | ⟨e_, q⟩
      · exact absurd e_ (by decide +kernel)
      · exact mid_no hC hfok (by omega) q0 q3 q4 (srX_fr hC.2.2.2.2.2.2.2.1 (fun j a b => fr j (by omega))) e (fun j a _ => fr j a) (by rw [q]; decide)
      · exact absurd e_ (by decide +kernel)
      · exact absurd e_ (by decide +kernel)
      · exact absurd e_ (by decide +kernel)
  have hM2 := hm.mdl hM
  obtain ⟨⟨sz, sp, wr, to, m0⟩, m1, ⟨w2, m2⟩, ⟨w3, m3⟩, m4, m5, ⟨w6, m6⟩, ⟨F9, m7, m7r⟩, m8, m9, nu, m10, m11⟩ := hM2
  refine ⟨⟨_, m0⟩, _, (c_X7_setTile l E ST hSF u p0 p1 p2 _ _ _ _ _ _ _ _ _ _ _ _ _ _ _ _ _ _ _ _ _ _ m0 m1 m2 m5 hCp hB (by first | assumption | omega | exact ⟨by omega, by omega⟩) r0 r1 r2), ?_⟩
  intro b t hq
  obtain ⟨qb, ⟨v1, a0, a1, a2, a5, hv1⟩, fr⟩ := hq
  exact chg_fin hK hfok htz (by first | exact (tX_b _).1 | exact (tX_b _).2.1 | exact (tX_b _).2.2.1 | exact (tX_b _).2.2.2.1 | exact (tX_b _).2.2.2.2) hm hO qb ⟨⟨_, _, _, _, a0⟩, a1, ⟨_, a2⟩, ⟨_, (fr 88 (by omega) (by omega)).trans m3⟩, (fr 89 (by omega) (by omega)).trans m4, a5, ⟨_, (fr 91 (by omega) (by omega)).trans m6⟩, ⟨_, (fr 92 (by omega) (by omega)).trans m7, m7r⟩, (fr 93 (by omega) (by omega)).trans m8, (fr 94 (by omega) (by omega)).trans m9, _, (fr 95 (by omega) (by omega)).trans m10, m11⟩ hv1 (fun j h => fr j (by omega) (by omega))
set_option maxRecDepth 100000 in
set_option maxHeartbeats 4000000 in
theorem s_turnTile (l : Launch) (E : xE) (ST : xST) (hSF : SF ST) (hSX : SX ST) (htr : l.stackTraces = false) {n : Int} {σ : xW} (hn : 0 ≤ n ∧ n ≤ 600) (hI : INV n E σ) (p0 : Int) (p1 : Int) (p2 : Int) (r0 : rg p0) (r1 : rg p1) (r2 : rg p2) : ∃ P : Int → xW → Prop, CI l E ST yL_turnTile wsL_turnTile rm_L_turnTile [.ref (xad E 0), .int (iZ p0), .int (iZ p1), .int (iZ p2), .ref (xad E 96)] σ P ∧ ∀ (k : Int) (u : xW), P k u → (∃ fs : List Value, u 85 = oB 5 fs) ∧ ∃ Q : Int → xW → Prop, CI l E ST yX7_turnTile wsX7_turnTile rm_X7_turnTile [.ref (xad E 85), .int (iZ p0), .int (iZ p1), .int (iZ p2)] u Q ∧ ∀ (b : Int) (t : xW), Q b t → FIN n E t k b := by
  obtain ⟨th, hth, hv, se, sf, ll, nx, ct, B, S, HB, tx, ln, lq, sv, re, ea, fa, ty, li, v, vs, hF, lf, hC, hM, hO, hK⟩ := hI
  obtain ⟨op, lk, kp, wc, pn, nw, sh, wk⟩ := B
  obtain ⟨c0, c1, c2, ⟨X7, c3⟩, ⟨X13, c4⟩, c5, c6, ⟨le, rl, fs, qu, gr, c7⟩, ⟨cs, cm, va, c8, c9⟩, c10⟩ := id hC
  have c2 : bd E σ 1 op lk kp wc pn nw sh wk := c2
  obtain ⟨⟨hB, hCp, ⟨hsh0, hsh1⟩, hwk0, hwk1⟩, ⟨hsv, hS9⟩, ⟨hnx, hct, hre, hhr, hHi⟩, ⟨hea, hfa, hse, hsf⟩, ⟨hty, hln, htx⟩, hli, hll, hlqf, hlq, hlf⟩ := id hK
  have hB : BI op lk kp wc pn nw := hB
  have hCp : Cp v op lk kp wc pn nw sh wk := hCp
  have hsh0 : 0 ≤ sh := hsh0
  have hsh1 : sh ≤ 1000 * n := hsh1
  have hwk0 : 0 ≤ wk := hwk0
  have hwk1 : wk ≤ 1000 * n := hwk1
  have hhb := hsl_rg hnx.1 hnx.2
  have hnw : 0 ≤ nw ∧ nw ≤ 3 := hB.2.2.2.2.2
  have hse9 : rg se := ⟨by omega, by omega⟩
  have hsf9 : rg sf := ⟨by omega, by omega⟩
  have hea9 : rg ea := ⟨by omega, by omega⟩
  have hfa9 : rg fa := ⟨by omega, by omega⟩
  have hfok : FOK (op, lk, kp, wc, pn, nw, sh, wk) (turnF op lk kp wc pn nw sh wk p0 p1 p2) := FOK_turn hB
  have htz : tA (turnF op lk kp wc pn nw sh wk p0 p1 p2).1 = 0 ↔ 0 ≤ (turnF op lk kp wc pn nw sh wk p0 p1 p2).1 := tz_turn hB
  have hrz := hfok.2.2.1
  have hr8 := rA htz hrz.1
  have hrg : rg (turnF op lk kp wc pn nw sh wk p0 p1 p2).1 := ⟨by omega, by omega⟩
  refine ⟨_, c_L_turnTile l E ST hSF hSX σ p0 p1 p2 (c_X6_turnTile l E ST hSF htr σ p0 p1 p2 _ _ _ _ _ _ _ _ _ _ _ _ _ _ _ _ _ _ _ _ _ _ _ _ _ _ _ _ _ _ c0 c1 (c6 nx hnx.1 hnx.2) c2 c3 (by first | assumption | omega | exact ⟨by omega, by omega⟩) (by first | assumption | omega | exact ⟨by omega, by omega⟩) hB r0 r1 r2 (by first | assumption | omega | exact ⟨by omega, by omega⟩)) c0 (fun z u h => ⟨_, (h.2.2 96 (by omega) (by omega) (by omega)).trans hO.1.choose_spec⟩) (fun nm u h => by rcases h.1 with ⟨e, q⟩ | ⟨e, q⟩ | ⟨e, q⟩ | ⟨e, q⟩ | ⟨e, q⟩ <;> first | exact Or.inl e | exact Or.inr (Or.inl e) | exact Or.inr (Or.inr (e)) | (exfalso; omega)), ?_⟩
  intro k u hp
  have hm : MIDC E σ u k tA (turnF op lk kp wc pn nw sh wk p0 p1 p2) ((turnF op lk kp wc pn nw sh wk p0 p1 p2).1) hv se sf ll nx ct (op, lk, kp, wc, pn, nw, sh, wk) S HB tx ln lq := by
    rcases hp with ⟨rfl, z, u0, ⟨hzz, ⟨op1, lk1, kp1, wc1, pn1, nw1, sh1, wk1, q0, q1, q2, q3, q4, e, hz⟩, fr⟩, e96, f96⟩ | ⟨rfl, hx⟩ | ⟨rfl, hx⟩ | ⟨rfl, hx⟩
    · exact mid_ok hC hnx hfok q0 q1 q2 q3 q4 (srX_fr hC.2.2.2.2.2.2.2.1 (fun j a b => fr j (by omega) (by omega) (by omega))) e hz (fun j a b c _ => fr j a b c) hzz e96 f96
    · obtain ⟨hq, ⟨op1, lk1, kp1, wc1, pn1, nw1, sh1, wk1, q0, q1, q2, q3, q4, e⟩, fr⟩ := hx
      rcases hq with ⟨e_, q⟩ | ⟨e_, q⟩ | ⟨e_, q⟩ | ⟨e_, q⟩ | ⟨e_, q⟩
      · exact mid_no hC hfok (by omega) q0 q3 q4 (srX_fr hC.2.2.2.2.2.2.2.1 (fun j a b => fr j (by omega))) e (fun j a _ => fr j a) (by rw [q]; decide)
      · exact absurd e_ (by decide +kernel)
      · exact absurd e_ (by decide +kernel)
      · exact absurd e_ (by decide +kernel)
      · exact absurd e_ (by decide +kernel)
    · obtain ⟨hq, ⟨op1, lk1, kp1, wc1, pn1, nw1, sh1, wk1, q0, q1, q2, q3, q4, e⟩, fr⟩ := hx
      rcases hq with ⟨e_, q⟩ | ⟨e_, q⟩ | ⟨e_, q⟩ | ⟨e_, q⟩ | ⟨e_, q⟩
      · exact absurd e_ (by decide +kernel)
      · exact mid_no hC hfok (by omega) q0 q3 q4 (srX_fr hC.2.2.2.2.2.2.2.1 (fun j a b => fr j (by omega))) e (fun j a _ => fr j a) (by rw [q]; decide)
      · exact absurd e_ (by decide +kernel)
      · exact absurd e_ (by decide +kernel)
      · exact absurd e_ (by decide +kernel)
    · obtain ⟨hq, ⟨op1, lk1, kp1, wc1, pn1, nw1, sh1, wk1, q0, q1, q2, q3, q4, e⟩, fr⟩ := hx
      rcases hq with ⟨e_, q⟩ | ⟨e_, q⟩ | ⟨e_, q⟩ | ⟨e_, q⟩ | ⟨e_, q⟩
      · exact absurd e_ (by decide +kernel)
      · exact absurd e_ (by decide +kernel)
      · exact mid_no hC hfok (by omega) q0 q3 q4 (srX_fr hC.2.2.2.2.2.2.2.1 (fun j a b => fr j (by omega))) e (fun j a _ => fr j a) (by rw [q]; decide)
      · exact absurd e_ (by decide +kernel)
      · exact absurd e_ (by decide +kernel)
  have hM2 := hm.mdl hM
  obtain ⟨⟨sz, sp, wr, to, m0⟩, m1, ⟨w2, m2⟩, ⟨w3, m3⟩, m4, m5, ⟨w6, m6⟩, ⟨F9, m7, m7r⟩, m8, m9, nu, m10, m11⟩ := hM2
  refine ⟨⟨_, m0⟩, _, (c_X7_turnTile l E ST hSF u p0 p1 p2 _ _ _ _ _ _ _ _ _ _ _ _ _ _ _ _ _ _ _ _ _ _ m0 m1 m2 m5 hCp hB (by first | assumption | omega | exact ⟨by omega, by omega⟩) r0 r1 r2), ?_⟩
  intro b t hq
  obtain ⟨qb, ⟨v1, a0, a1, a2, a5, hv1⟩, fr⟩ := hq
  exact chg_fin hK hfok htz (by first | exact (tX_b _).1 | exact (tX_b _).2.1 | exact (tX_b _).2.2.1 | exact (tX_b _).2.2.2.1 | exact (tX_b _).2.2.2.2) hm hO qb ⟨⟨_, _, _, _, a0⟩, a1, ⟨_, a2⟩, ⟨_, (fr 88 (by omega) (by omega)).trans m3⟩, (fr 89 (by omega) (by omega)).trans m4, a5, ⟨_, (fr 91 (by omega) (by omega)).trans m6⟩, ⟨_, (fr 92 (by omega) (by omega)).trans m7, m7r⟩, (fr 93 (by omega) (by omega)).trans m8, (fr 94 (by omega) (by omega)).trans m9, _, (fr 95 (by omega) (by omega)).trans m10, m11⟩ hv1 (fun j h => fr j (by omega) (by omega))
set_option maxRecDepth 100000 in
set_option maxHeartbeats 4000000 in
theorem s_pin (l : Launch) (E : xE) (ST : xST) (hSF : SF ST) (hSX : SX ST) (htr : l.stackTraces = false) {n : Int} {σ : xW} (hn : 0 ≤ n ∧ n ≤ 600) (hI : INV n E σ) (p0 : Int) (p1 : Int) (r0 : rg p0) (r1 : rg p1) : ∃ P : Int → xW → Prop, CI l E ST yL_pin wsL_pin rm_L_pin [.ref (xad E 0), .int (iZ p0), .int (iZ p1), .ref (xad E 96)] σ P ∧ ∀ (k : Int) (u : xW), P k u → (∃ fs : List Value, u 85 = oB 5 fs) ∧ ∃ Q : Int → xW → Prop, CI l E ST yX7_pin wsX7_pin rm_X7_pin [.ref (xad E 85), .int (iZ p0), .int (iZ p1)] u Q ∧ ∀ (b : Int) (t : xW), Q b t → FIN n E t k b := by
  obtain ⟨th, hth, hv, se, sf, ll, nx, ct, B, S, HB, tx, ln, lq, sv, re, ea, fa, ty, li, v, vs, hF, lf, hC, hM, hO, hK⟩ := hI
  obtain ⟨op, lk, kp, wc, pn, nw, sh, wk⟩ := B
  obtain ⟨c0, c1, c2, ⟨X7, c3⟩, ⟨X13, c4⟩, c5, c6, ⟨le, rl, fs, qu, gr, c7⟩, ⟨cs, cm, va, c8, c9⟩, c10⟩ := id hC
  have c2 : bd E σ 1 op lk kp wc pn nw sh wk := c2
  obtain ⟨⟨hB, hCp, ⟨hsh0, hsh1⟩, hwk0, hwk1⟩, ⟨hsv, hS9⟩, ⟨hnx, hct, hre, hhr, hHi⟩, ⟨hea, hfa, hse, hsf⟩, ⟨hty, hln, htx⟩, hli, hll, hlqf, hlq, hlf⟩ := id hK
  have hB : BI op lk kp wc pn nw := hB
  have hCp : Cp v op lk kp wc pn nw sh wk := hCp
  have hsh0 : 0 ≤ sh := hsh0
  have hsh1 : sh ≤ 1000 * n := hsh1
  have hwk0 : 0 ≤ wk := hwk0
  have hwk1 : wk ≤ 1000 * n := hwk1
  have hhb := hsl_rg hnx.1 hnx.2
  have hnw : 0 ≤ nw ∧ nw ≤ 3 := hB.2.2.2.2.2
  have hse9 : rg se := ⟨by omega, by omega⟩
  have hsf9 : rg sf := ⟨by omega, by omega⟩
  have hea9 : rg ea := ⟨by omega, by omega⟩
  have hfa9 : rg fa := ⟨by omega, by omega⟩
  have hfok : FOK (op, lk, kp, wc, pn, nw, sh, wk) (fixF op lk kp wc pn nw sh wk p0 p1) := FOK_fix hB
  have htz : tP (fixF op lk kp wc pn nw sh wk p0 p1).1 = 0 ↔ 0 ≤ (fixF op lk kp wc pn nw sh wk p0 p1).1 := by have h := tz_pin (sh := sh) (wk := wk) (pi := 1) (r := p0) (c := p1) hB; rw [show pinF op lk kp wc pn nw sh wk 1 p0 p1 = fixF op lk kp wc pn nw sh wk p0 p1 from if_pos rfl] at h; exact h
  have hrz := hfok.2.2.1
  have hr8 := rP htz hrz.1
  have hrg : rg (fixF op lk kp wc pn nw sh wk p0 p1).1 := ⟨by omega, by omega⟩
  refine ⟨_, c_L_pin l E ST hSF hSX σ p0 p1 (c_X6_pin l E ST hSF htr σ p0 p1 _ _ _ _ _ _ _ _ _ _ _ _ _ _ _ _ _ _ _ _ _ _ _ _ _ _ _ _ _ _ c0 c1 (c6 nx hnx.1 hnx.2) c2 c3 (by first | assumption | omega | exact ⟨by omega, by omega⟩) (by first | assumption | omega | exact ⟨by omega, by omega⟩) hB r0 r1 (by first | assumption | omega | exact ⟨by omega, by omega⟩)) c0 (fun z u h => ⟨_, (h.2.2 96 (by omega) (by omega) (by omega)).trans hO.1.choose_spec⟩) (fun nm u h => by rcases h.1 with ⟨e, q⟩ | ⟨e, q⟩ | ⟨e, q⟩ | ⟨e, q⟩ | ⟨e, q⟩ <;> first | exact Or.inl e | exact Or.inr (e) | (exfalso; omega)), ?_⟩
  intro k u hp
  have hm : MIDC E σ u k tP (fixF op lk kp wc pn nw sh wk p0 p1) ((fixF op lk kp wc pn nw sh wk p0 p1).1) hv se sf ll nx ct (op, lk, kp, wc, pn, nw, sh, wk) S HB tx ln lq := by
    rcases hp with ⟨rfl, z, u0, ⟨hzz, ⟨op1, lk1, kp1, wc1, pn1, nw1, sh1, wk1, q0, q1, q2, q3, q4, e, hz⟩, fr⟩, e96, f96⟩ | ⟨rfl, hx⟩ | ⟨rfl, hx⟩
    · exact mid_ok hC hnx hfok q0 q1 q2 q3 q4 (srX_fr hC.2.2.2.2.2.2.2.1 (fun j a b => fr j (by omega) (by omega) (by omega))) e hz (fun j a b c _ => fr j a b c) hzz e96 f96
    · obtain ⟨hq, ⟨op1, lk1, kp1, wc1, pn1, nw1, sh1, wk1, q0, q1, q2, q3, q4, e⟩, fr⟩ := hx
      rcases hq with ⟨e_, q⟩ | ⟨e_, q⟩ | ⟨e_, q⟩ | ⟨e_, q⟩ | ⟨e_, q⟩
      · exact mid_no hC hfok (by omega) q0 q3 q4 (srX_fr hC.2.2.2.2.2.2.2.1 (fun j a b => fr j (by omega))) e (fun j a _ => fr j a) (by rw [q]; decide)
      · exact absurd e_ (by decide +kernel)
      · exact absurd e_ (by decide +kernel)
      · exact absurd e_ (by decide +kernel)
      · exact absurd e_ (by decide +kernel)
    · obtain ⟨hq, ⟨op1, lk1, kp1, wc1, pn1, nw1, sh1, wk1, q0, q1, q2, q3, q4, e⟩, fr⟩ := hx
      rcases hq with ⟨e_, q⟩ | ⟨e_, q⟩ | ⟨e_, q⟩ | ⟨e_, q⟩ | ⟨e_, q⟩
      · exact absurd e_ (by decide +kernel)
      · exact absurd e_ (by decide +kernel)
      · exact mid_no hC hfok (by omega) q0 q3 q4 (srX_fr hC.2.2.2.2.2.2.2.1 (fun j a b => fr j (by omega))) e (fun j a _ => fr j a) (by rw [q]; decide)
      · exact absurd e_ (by decide +kernel)
      · exact absurd e_ (by decide +kernel)
  have hM2 := hm.mdl hM
  obtain ⟨⟨sz, sp, wr, to, m0⟩, m1, ⟨w2, m2⟩, ⟨w3, m3⟩, m4, m5, ⟨w6, m6⟩, ⟨F9, m7, m7r⟩, m8, m9, nu, m10, m11⟩ := hM2
  refine ⟨⟨_, m0⟩, _, (c_X7_pin l E ST hSF u p0 p1 _ _ _ _ _ _ _ _ _ _ _ _ _ _ _ _ _ _ _ _ _ _ m0 m1 m2 m5 hCp hB (by first | assumption | omega | exact ⟨by omega, by omega⟩) r0 r1), ?_⟩
  intro b t hq
  rw [show (pinF op lk kp wc pn nw sh wk 1 p0 p1) = (fixF op lk kp wc pn nw sh wk p0 p1) from if_pos rfl] at hq
  obtain ⟨qb, ⟨v1, a0, a1, a2, a5, hv1⟩, fr⟩ := hq
  exact chg_fin hK hfok htz (by first | exact (tX_b _).1 | exact (tX_b _).2.1 | exact (tX_b _).2.2.1 | exact (tX_b _).2.2.2.1 | exact (tX_b _).2.2.2.2) hm hO qb ⟨⟨_, _, _, _, a0⟩, a1, ⟨_, a2⟩, ⟨_, (fr 88 (by omega) (by omega)).trans m3⟩, (fr 89 (by omega) (by omega)).trans m4, a5, ⟨_, (fr 91 (by omega) (by omega)).trans m6⟩, ⟨_, (fr 92 (by omega) (by omega)).trans m7, m7r⟩, (fr 93 (by omega) (by omega)).trans m8, (fr 94 (by omega) (by omega)).trans m9, _, (fr 95 (by omega) (by omega)).trans m10, m11⟩ hv1 (fun j h => fr j (by omega) (by omega))
set_option maxRecDepth 100000 in
set_option maxHeartbeats 4000000 in
theorem s_unpin (l : Launch) (E : xE) (ST : xST) (hSF : SF ST) (hSX : SX ST) (htr : l.stackTraces = false) {n : Int} {σ : xW} (hn : 0 ≤ n ∧ n ≤ 600) (hI : INV n E σ) (p0 : Int) (p1 : Int) (r0 : rg p0) (r1 : rg p1) : ∃ P : Int → xW → Prop, CI l E ST yL_unpin wsL_unpin rm_L_unpin [.ref (xad E 0), .int (iZ p0), .int (iZ p1), .ref (xad E 96)] σ P ∧ ∀ (k : Int) (u : xW), P k u → (∃ fs : List Value, u 85 = oB 5 fs) ∧ ∃ Q : Int → xW → Prop, CI l E ST yX7_unpin wsX7_unpin rm_X7_unpin [.ref (xad E 85), .int (iZ p0), .int (iZ p1)] u Q ∧ ∀ (b : Int) (t : xW), Q b t → FIN n E t k b := by
  obtain ⟨th, hth, hv, se, sf, ll, nx, ct, B, S, HB, tx, ln, lq, sv, re, ea, fa, ty, li, v, vs, hF, lf, hC, hM, hO, hK⟩ := hI
  obtain ⟨op, lk, kp, wc, pn, nw, sh, wk⟩ := B
  obtain ⟨c0, c1, c2, ⟨X7, c3⟩, ⟨X13, c4⟩, c5, c6, ⟨le, rl, fs, qu, gr, c7⟩, ⟨cs, cm, va, c8, c9⟩, c10⟩ := id hC
  have c2 : bd E σ 1 op lk kp wc pn nw sh wk := c2
  obtain ⟨⟨hB, hCp, ⟨hsh0, hsh1⟩, hwk0, hwk1⟩, ⟨hsv, hS9⟩, ⟨hnx, hct, hre, hhr, hHi⟩, ⟨hea, hfa, hse, hsf⟩, ⟨hty, hln, htx⟩, hli, hll, hlqf, hlq, hlf⟩ := id hK
  have hB : BI op lk kp wc pn nw := hB
  have hCp : Cp v op lk kp wc pn nw sh wk := hCp
  have hsh0 : 0 ≤ sh := hsh0
  have hsh1 : sh ≤ 1000 * n := hsh1
  have hwk0 : 0 ≤ wk := hwk0
  have hwk1 : wk ≤ 1000 * n := hwk1
  have hhb := hsl_rg hnx.1 hnx.2
  have hnw : 0 ≤ nw ∧ nw ≤ 3 := hB.2.2.2.2.2
  have hse9 : rg se := ⟨by omega, by omega⟩
  have hsf9 : rg sf := ⟨by omega, by omega⟩
  have hea9 : rg ea := ⟨by omega, by omega⟩
  have hfa9 : rg fa := ⟨by omega, by omega⟩
  have hfok : FOK (op, lk, kp, wc, pn, nw, sh, wk) (freeF op lk kp wc pn nw sh wk p0 p1) := FOK_free hB
  have htz : tP (freeF op lk kp wc pn nw sh wk p0 p1).1 = 0 ↔ 0 ≤ (freeF op lk kp wc pn nw sh wk p0 p1).1 := by have h := tz_pin (sh := sh) (wk := wk) (pi := 0) (r := p0) (c := p1) hB; rw [show pinF op lk kp wc pn nw sh wk 0 p0 p1 = freeF op lk kp wc pn nw sh wk p0 p1 from if_neg (by decide)] at h; exact h
  have hrz := hfok.2.2.1
  have hr8 := rP htz hrz.1
  have hrg : rg (freeF op lk kp wc pn nw sh wk p0 p1).1 := ⟨by omega, by omega⟩
  refine ⟨_, c_L_unpin l E ST hSF hSX σ p0 p1 (c_X6_unpin l E ST hSF htr σ p0 p1 _ _ _ _ _ _ _ _ _ _ _ _ _ _ _ _ _ _ _ _ _ _ _ _ _ _ _ _ _ _ c0 c1 (c6 nx hnx.1 hnx.2) c2 c3 (by first | assumption | omega | exact ⟨by omega, by omega⟩) (by first | assumption | omega | exact ⟨by omega, by omega⟩) hB r0 r1 (by first | assumption | omega | exact ⟨by omega, by omega⟩)) c0 (fun z u h => ⟨_, (h.2.2 96 (by omega) (by omega) (by omega)).trans hO.1.choose_spec⟩) (fun nm u h => by rcases h.1 with ⟨e, q⟩ | ⟨e, q⟩ | ⟨e, q⟩ | ⟨e, q⟩ | ⟨e, q⟩ <;> first | exact Or.inl e | exact Or.inr (e) | (exfalso; omega)), ?_⟩
  intro k u hp
  have hm : MIDC E σ u k tP (freeF op lk kp wc pn nw sh wk p0 p1) ((freeF op lk kp wc pn nw sh wk p0 p1).1) hv se sf ll nx ct (op, lk, kp, wc, pn, nw, sh, wk) S HB tx ln lq := by
    rcases hp with ⟨rfl, z, u0, ⟨hzz, ⟨op1, lk1, kp1, wc1, pn1, nw1, sh1, wk1, q0, q1, q2, q3, q4, e, hz⟩, fr⟩, e96, f96⟩ | ⟨rfl, hx⟩ | ⟨rfl, hx⟩
    · exact mid_ok hC hnx hfok q0 q1 q2 q3 q4 (srX_fr hC.2.2.2.2.2.2.2.1 (fun j a b => fr j (by omega) (by omega) (by omega))) e hz (fun j a b c _ => fr j a b c) hzz e96 f96
    · obtain ⟨hq, ⟨op1, lk1, kp1, wc1, pn1, nw1, sh1, wk1, q0, q1, q2, q3, q4, e⟩, fr⟩ := hx
      rcases hq with ⟨e_, q⟩ | ⟨e_, q⟩ | ⟨e_, q⟩ | ⟨e_, q⟩ | ⟨e_, q⟩
      · exact mid_no hC hfok (by omega) q0 q3 q4 (srX_fr hC.2.2.2.2.2.2.2.1 (fun j a b => fr j (by omega))) e (fun j a _ => fr j a) (by rw [q]; decide)
      · exact absurd e_ (by decide +kernel)
      · exact absurd e_ (by decide +kernel)
      · exact absurd e_ (by decide +kernel)
      · exact absurd e_ (by decide +kernel)
    · obtain ⟨hq, ⟨op1, lk1, kp1, wc1, pn1, nw1, sh1, wk1, q0, q1, q2, q3, q4, e⟩, fr⟩ := hx
      rcases hq with ⟨e_, q⟩ | ⟨e_, q⟩ | ⟨e_, q⟩ | ⟨e_, q⟩ | ⟨e_, q⟩
      · exact absurd e_ (by decide +kernel)
      · exact absurd e_ (by decide +kernel)
      · exact mid_no hC hfok (by omega) q0 q3 q4 (srX_fr hC.2.2.2.2.2.2.2.1 (fun j a b => fr j (by omega))) e (fun j a _ => fr j a) (by rw [q]; decide)
      · exact absurd e_ (by decide +kernel)
      · exact absurd e_ (by decide +kernel)
  have hM2 := hm.mdl hM
  obtain ⟨⟨sz, sp, wr, to, m0⟩, m1, ⟨w2, m2⟩, ⟨w3, m3⟩, m4, m5, ⟨w6, m6⟩, ⟨F9, m7, m7r⟩, m8, m9, nu, m10, m11⟩ := hM2
  refine ⟨⟨_, m0⟩, _, (c_X7_unpin l E ST hSF u p0 p1 _ _ _ _ _ _ _ _ _ _ _ _ _ _ _ _ _ _ _ _ _ _ m0 m1 m2 m5 hCp hB (by first | assumption | omega | exact ⟨by omega, by omega⟩) r0 r1), ?_⟩
  intro b t hq
  rw [show (pinF op lk kp wc pn nw sh wk 0 p0 p1) = (freeF op lk kp wc pn nw sh wk p0 p1) from if_neg (by decide)] at hq
  obtain ⟨qb, ⟨v1, a0, a1, a2, a5, hv1⟩, fr⟩ := hq
  exact chg_fin hK hfok htz (by first | exact (tX_b _).1 | exact (tX_b _).2.1 | exact (tX_b _).2.2.1 | exact (tX_b _).2.2.2.1 | exact (tX_b _).2.2.2.2) hm hO qb ⟨⟨_, _, _, _, a0⟩, a1, ⟨_, a2⟩, ⟨_, (fr 88 (by omega) (by omega)).trans m3⟩, (fr 89 (by omega) (by omega)).trans m4, a5, ⟨_, (fr 91 (by omega) (by omega)).trans m6⟩, ⟨_, (fr 92 (by omega) (by omega)).trans m7, m7r⟩, (fr 93 (by omega) (by omega)).trans m8, (fr 94 (by omega) (by omega)).trans m9, _, (fr 95 (by omega) (by omega)).trans m10, m11⟩ hv1 (fun j h => fr j (by omega) (by omega))
set_option maxRecDepth 100000 in
set_option maxHeartbeats 4000000 in
theorem s_shiftRow (l : Launch) (E : xE) (ST : xST) (hSF : SF ST) (hSX : SX ST) (htr : l.stackTraces = false) {n : Int} {σ : xW} (hn : 0 ≤ n ∧ n ≤ 600) (hI : INV n E σ) (p0 : Int) (p1 : Int) (r0 : rg p0) (r1 : rg p1) : ∃ P : Int → xW → Prop, CI l E ST yL_shiftRow wsL_shiftRow rm_L_shiftRow [.ref (xad E 0), .int (iZ p0), .int (iZ p1), .ref (xad E 96)] σ P ∧ ∀ (k : Int) (u : xW), P k u → (∃ fs : List Value, u 85 = oB 5 fs) ∧ ∃ Q : Int → xW → Prop, CI l E ST yX7_shiftRow wsX7_shiftRow rm_X7_shiftRow [.ref (xad E 85), .int (iZ p0), .int (iZ p1)] u Q ∧ ∀ (b : Int) (t : xW), Q b t → FIN n E t k b := by
  obtain ⟨th, hth, hv, se, sf, ll, nx, ct, B, S, HB, tx, ln, lq, sv, re, ea, fa, ty, li, v, vs, hF, lf, hC, hM, hO, hK⟩ := hI
  obtain ⟨op, lk, kp, wc, pn, nw, sh, wk⟩ := B
  obtain ⟨c0, c1, c2, ⟨X7, c3⟩, ⟨X13, c4⟩, c5, c6, ⟨le, rl, fs, qu, gr, c7⟩, ⟨cs, cm, va, c8, c9⟩, c10⟩ := id hC
  have c2 : bd E σ 1 op lk kp wc pn nw sh wk := c2
  obtain ⟨⟨hB, hCp, ⟨hsh0, hsh1⟩, hwk0, hwk1⟩, ⟨hsv, hS9⟩, ⟨hnx, hct, hre, hhr, hHi⟩, ⟨hea, hfa, hse, hsf⟩, ⟨hty, hln, htx⟩, hli, hll, hlqf, hlq, hlf⟩ := id hK
  have hB : BI op lk kp wc pn nw := hB
  have hCp : Cp v op lk kp wc pn nw sh wk := hCp
  have hsh0 : 0 ≤ sh := hsh0
  have hsh1 : sh ≤ 1000 * n := hsh1
  have hwk0 : 0 ≤ wk := hwk0
  have hwk1 : wk ≤ 1000 * n := hwk1
  have hhb := hsl_rg hnx.1 hnx.2
  have hnw : 0 ≤ nw ∧ nw ≤ 3 := hB.2.2.2.2.2
  have hse9 : rg se := ⟨by omega, by omega⟩
  have hsf9 : rg sf := ⟨by omega, by omega⟩
  have hea9 : rg ea := ⟨by omega, by omega⟩
  have hfa9 : rg fa := ⟨by omega, by omega⟩
  have hfok : FOK (op, lk, kp, wc, pn, nw, sh, wk) (rowF op lk kp wc pn nw sh wk p0 p1) := FOK_row hB
  have htz : tA (rowF op lk kp wc pn nw sh wk p0 p1).1 = 0 ↔ 0 ≤ (rowF op lk kp wc pn nw sh wk p0 p1).1 := tz_ln (b := true) hB
  have hrz := hfok.2.2.1
  have hr8 := rA htz hrz.1
  have hrg : rg (rowF op lk kp wc pn nw sh wk p0 p1).1 := ⟨by omega, by omega⟩
  refine ⟨_, c_L_shiftRow l E ST hSF hSX σ p0 p1 (c_X6_shiftRow l E ST hSF htr σ p0 p1 _ _ _ _ _ _ _ _ _ _ _ _ _ _ _ _ _ _ _ _ _ _ _ _ _ _ _ _ _ _ c0 c1 (c6 nx hnx.1 hnx.2) c2 c3 (by first | assumption | omega | exact ⟨by omega, by omega⟩) (by first | assumption | omega | exact ⟨by omega, by omega⟩) hB r0 r1 (by first | assumption | omega | exact ⟨by omega, by omega⟩)) c0 (fun z u h => ⟨_, (h.2.2 96 (by omega) (by omega) (by omega)).trans hO.1.choose_spec⟩) (fun nm u h => by rcases h.1 with ⟨e, q⟩ | ⟨e, q⟩ | ⟨e, q⟩ | ⟨e, q⟩ | ⟨e, q⟩ <;> first | exact Or.inl e | exact Or.inr (Or.inl e) | exact Or.inr (Or.inr (e)) | (exfalso; omega)), ?_⟩
  intro k u hp
  have hm : MIDC E σ u k tA (rowF op lk kp wc pn nw sh wk p0 p1) ((rowF op lk kp wc pn nw sh wk p0 p1).1) hv se sf ll nx ct (op, lk, kp, wc, pn, nw, sh, wk) S HB tx ln lq := by
    rcases hp with ⟨rfl, z, u0, ⟨hzz, ⟨op1, lk1, kp1, wc1, pn1, nw1, sh1, wk1, q0, q1, q2, q3, q4, e, hz⟩, fr⟩, e96, f96⟩ | ⟨rfl, hx⟩ | ⟨rfl, hx⟩ | ⟨rfl, hx⟩
    · exact mid_ok hC hnx hfok q0 q1 q2 q3 q4 (srX_fr hC.2.2.2.2.2.2.2.1 (fun j a b => fr j (by omega) (by omega) (by omega))) e hz (fun j a b c _ => fr j a b c) hzz e96 f96
    · obtain ⟨hq, ⟨op1, lk1, kp1, wc1, pn1, nw1, sh1, wk1, q0, q1, q2, q3, q4, e⟩, fr⟩ := hx
      rcases hq with ⟨e_, q⟩ | ⟨e_, q⟩ | ⟨e_, q⟩ | ⟨e_, q⟩ | ⟨e_, q⟩
      · exact mid_no hC hfok (by omega) q0 q3 q4 (srX_fr hC.2.2.2.2.2.2.2.1 (fun j a b => fr j (by omega))) e (fun j a _ => fr j a) (by rw [q]; decide)
      · exact absurd e_ (by decide +kernel)
      · exact absurd e_ (by decide +kernel)
      · exact absurd e_ (by decide +kernel)
      · exact absurd e_ (by decide +kernel)
    · obtain ⟨hq, ⟨op1, lk1, kp1, wc1, pn1, nw1, sh1, wk1, q0, q1, q2, q3, q4, e⟩, fr⟩ := hx
      rcases hq with ⟨e_, q⟩ | ⟨e_, q⟩ | ⟨e_, q⟩ | ⟨e_, q⟩ | ⟨e_, q⟩
      · exact absurd e_ (by decide +kernel)
      · exact mid_no hC hfok (by omega) q0 q3 q4 (srX_fr hC.2.2.2.2.2.2.2.1 (fun j a b => fr j (by omega))) e (fun j a _ => fr j a) (by rw [q]; decide)
      · exact absurd e_ (by decide +kernel)
      · exact absurd e_ (by decide +kernel)
      · exact absurd e_ (by decide +kernel)
    · obtain ⟨hq, ⟨op1, lk1, kp1, wc1, pn1, nw1, sh1, wk1, q0, q1, q2, q3, q4, e⟩, fr⟩ := hx
      rcases hq with ⟨e_, q⟩ | ⟨e_, q⟩ | ⟨e_, q⟩ | ⟨e_, q⟩ | ⟨e_, q⟩
      · exact absurd e_ (by decide +kernel)
      · exact absurd e_ (by decide +kernel)
      · exact mid_no hC hfok (by omega) q0 q3 q4 (srX_fr hC.2.2.2.2.2.2.2.1 (fun j a b => fr j (by omega))) e (fun j a _ => fr j a) (by rw [q]; decide)
      · exact absurd e_ (by decide +kernel)
      · exact absurd e_ (by decide +kernel)
  have hM2 := hm.mdl hM
  obtain ⟨⟨sz, sp, wr, to, m0⟩, m1, ⟨w2, m2⟩, ⟨w3, m3⟩, m4, m5, ⟨w6, m6⟩, ⟨F9, m7, m7r⟩, m8, m9, nu, m10, m11⟩ := hM2
  refine ⟨⟨_, m0⟩, _, (c_X7_shiftRow l E ST hSF u p0 p1 _ _ _ _ _ _ _ _ _ _ _ _ _ _ _ _ _ _ _ _ _ _ _ m0 m1 m2 m5 m6 hCp hB (by first | assumption | omega | exact ⟨by omega, by omega⟩) r0 r1 (by first | assumption | omega | exact ⟨by omega, by omega⟩)), ?_⟩
  intro b t hq
  rw [show (lnF op lk kp wc pn nw sh wk true p0 p1) = (rowF op lk kp wc pn nw sh wk p0 p1) from rfl] at hq
  obtain ⟨qb, ⟨v1, mq, a0, a1, a2, a5, a6, hv1⟩, fr⟩ := hq
  exact chg_fin hK hfok htz (by first | exact (tX_b _).1 | exact (tX_b _).2.1 | exact (tX_b _).2.2.1 | exact (tX_b _).2.2.2.1 | exact (tX_b _).2.2.2.2) hm hO qb ⟨⟨_, _, _, _, a0⟩, a1, ⟨_, a2⟩, ⟨_, (fr 88 (by omega) (by omega)).trans m3⟩, (fr 89 (by omega) (by omega)).trans m4, a5, ⟨_, a6⟩, ⟨_, (fr 92 (by omega) (by omega)).trans m7, m7r⟩, (fr 93 (by omega) (by omega)).trans m8, (fr 94 (by omega) (by omega)).trans m9, _, (fr 95 (by omega) (by omega)).trans m10, m11⟩ hv1 (fun j h => fr j (by omega) (by omega))
set_option maxRecDepth 100000 in
set_option maxHeartbeats 4000000 in
theorem s_shiftColumn (l : Launch) (E : xE) (ST : xST) (hSF : SF ST) (hSX : SX ST) (htr : l.stackTraces = false) {n : Int} {σ : xW} (hn : 0 ≤ n ∧ n ≤ 600) (hI : INV n E σ) (p0 : Int) (p1 : Int) (r0 : rg p0) (r1 : rg p1) : ∃ P : Int → xW → Prop, CI l E ST yL_shiftColumn wsL_shiftColumn rm_L_shiftColumn [.ref (xad E 0), .int (iZ p0), .int (iZ p1), .ref (xad E 96)] σ P ∧ ∀ (k : Int) (u : xW), P k u → (∃ fs : List Value, u 85 = oB 5 fs) ∧ ∃ Q : Int → xW → Prop, CI l E ST yX7_shiftColumn wsX7_shiftColumn rm_X7_shiftColumn [.ref (xad E 85), .int (iZ p0), .int (iZ p1)] u Q ∧ ∀ (b : Int) (t : xW), Q b t → FIN n E t k b := by
  obtain ⟨th, hth, hv, se, sf, ll, nx, ct, B, S, HB, tx, ln, lq, sv, re, ea, fa, ty, li, v, vs, hF, lf, hC, hM, hO, hK⟩ := hI
  obtain ⟨op, lk, kp, wc, pn, nw, sh, wk⟩ := B
  obtain ⟨c0, c1, c2, ⟨X7, c3⟩, ⟨X13, c4⟩, c5, c6, ⟨le, rl, fs, qu, gr, c7⟩, ⟨cs, cm, va, c8, c9⟩, c10⟩ := id hC
  have c2 : bd E σ 1 op lk kp wc pn nw sh wk := c2
  obtain ⟨⟨hB, hCp, ⟨hsh0, hsh1⟩, hwk0, hwk1⟩, ⟨hsv, hS9⟩, ⟨hnx, hct, hre, hhr, hHi⟩, ⟨hea, hfa, hse, hsf⟩, ⟨hty, hln, htx⟩, hli, hll, hlqf, hlq, hlf⟩ := id hK
  have hB : BI op lk kp wc pn nw := hB
  have hCp : Cp v op lk kp wc pn nw sh wk := hCp
  have hsh0 : 0 ≤ sh := hsh0
  have hsh1 : sh ≤ 1000 * n := hsh1
  have hwk0 : 0 ≤ wk := hwk0
  have hwk1 : wk ≤ 1000 * n := hwk1
  have hhb := hsl_rg hnx.1 hnx.2
  have hnw : 0 ≤ nw ∧ nw ≤ 3 := hB.2.2.2.2.2
  have hse9 : rg se := ⟨by omega, by omega⟩
  have hsf9 : rg sf := ⟨by omega, by omega⟩
  have hea9 : rg ea := ⟨by omega, by omega⟩
  have hfa9 : rg fa := ⟨by omega, by omega⟩
  have hfok : FOK (op, lk, kp, wc, pn, nw, sh, wk) (colF op lk kp wc pn nw sh wk p0 p1) := FOK_col hB
  have htz : tA (colF op lk kp wc pn nw sh wk p0 p1).1 = 0 ↔ 0 ≤ (colF op lk kp wc pn nw sh wk p0 p1).1 := tz_ln (b := false) hB
  have hrz := hfok.2.2.1
  have hr8 := rA htz hrz.1
  have hrg : rg (colF op lk kp wc pn nw sh wk p0 p1).1 := ⟨by omega, by omega⟩
  refine ⟨_, c_L_shiftColumn l E ST hSF hSX σ p0 p1 (c_X6_shiftColumn l E ST hSF htr σ p0 p1 _ _ _ _ _ _ _ _ _ _ _ _ _ _ _ _ _ _ _ _ _ _ _ _ _ _ _ _ _ _ c0 c1 (c6 nx hnx.1 hnx.2) c2 c3 (by first | assumption | omega | exact ⟨by omega, by omega⟩) (by first | assumption | omega | exact ⟨by omega, by omega⟩) hB r0 r1 (by first | assumption | omega | exact ⟨by omega, by omega⟩)) c0 (fun z u h => ⟨_, (h.2.2 96 (by omega) (by omega) (by omega)).trans hO.1.choose_spec⟩) (fun nm u h => by rcases h.1 with ⟨e, q⟩ | ⟨e, q⟩ | ⟨e, q⟩ | ⟨e, q⟩ | ⟨e, q⟩ <;> first | exact Or.inl e | exact Or.inr (Or.inl e) | exact Or.inr (Or.inr (e)) | (exfalso; omega)), ?_⟩
  intro k u hp
  have hm : MIDC E σ u k tA (colF op lk kp wc pn nw sh wk p0 p1) ((colF op lk kp wc pn nw sh wk p0 p1).1) hv se sf ll nx ct (op, lk, kp, wc, pn, nw, sh, wk) S HB tx ln lq := by
    rcases hp with ⟨rfl, z, u0, ⟨hzz, ⟨op1, lk1, kp1, wc1, pn1, nw1, sh1, wk1, q0, q1, q2, q3, q4, e, hz⟩, fr⟩, e96, f96⟩ | ⟨rfl, hx⟩ | ⟨rfl, hx⟩ | ⟨rfl, hx⟩
    · exact mid_ok hC hnx hfok q0 q1 q2 q3 q4 (srX_fr hC.2.2.2.2.2.2.2.1 (fun j a b => fr j (by omega) (by omega) (by omega))) e hz (fun j a b c _ => fr j a b c) hzz e96 f96
    · obtain ⟨hq, ⟨op1, lk1, kp1, wc1, pn1, nw1, sh1, wk1, q0, q1, q2, q3, q4, e⟩, fr⟩ := hx
      rcases hq with ⟨e_, q⟩ | ⟨e_, q⟩ | ⟨e_, q⟩ | ⟨e_, q⟩ | ⟨e_, q⟩
      · exact mid_no hC hfok (by omega) q0 q3 q4 (srX_fr hC.2.2.2.2.2.2.2.1 (fun j a b => fr j (by omega))) e (fun j a _ => fr j a) (by rw [q]; decide)
      · exact absurd e_ (by decide +kernel)
      · exact absurd e_ (by decide +kernel)
      · exact absurd e_ (by decide +kernel)
      · exact absurd e_ (by decide +kernel)
    · obtain ⟨hq, ⟨op1, lk1, kp1, wc1, pn1, nw1, sh1, wk1, q0, q1, q2, q3, q4, e⟩, fr⟩ := hx
      rcases hq with ⟨e_, q⟩ | ⟨e_, q⟩ | ⟨e_, q⟩ | ⟨e_, q⟩ | ⟨e_, q⟩
      · exact absurd e_ (by decide +kernel)
      · exact mid_no hC hfok (by omega) q0 q3 q4 (srX_fr hC.2.2.2.2.2.2.2.1 (fun j a b => fr j (by omega))) e (fun j a _ => fr j a) (by rw [q]; decide)
      · exact absurd e_ (by decide +kernel)
      · exact absurd e_ (by decide +kernel)
      · exact absurd e_ (by decide +kernel)
    · obtain ⟨hq, ⟨op1, lk1, kp1, wc1, pn1, nw1, sh1, wk1, q0, q1, q2, q3, q4, e⟩, fr⟩ := hx
      rcases hq with ⟨e_, q⟩ | ⟨e_, q⟩ | ⟨e_, q⟩ | ⟨e_, q⟩ | ⟨e_, q⟩
      · exact absurd e_ (by decide +kernel)
      · exact absurd e_ (by decide +kernel)
      · exact mid_no hC hfok (by omega) q0 q3 q4 (srX_fr hC.2.2.2.2.2.2.2.1 (fun j a b => fr j (by omega))) e (fun j a _ => fr j a) (by rw [q]; decide)
      · exact absurd e_ (by decide +kernel)
      · exact absurd e_ (by decide +kernel)
  have hM2 := hm.mdl hM
  obtain ⟨⟨sz, sp, wr, to, m0⟩, m1, ⟨w2, m2⟩, ⟨w3, m3⟩, m4, m5, ⟨w6, m6⟩, ⟨F9, m7, m7r⟩, m8, m9, nu, m10, m11⟩ := hM2
  refine ⟨⟨_, m0⟩, _, (c_X7_shiftColumn l E ST hSF u p0 p1 _ _ _ _ _ _ _ _ _ _ _ _ _ _ _ _ _ _ _ _ _ _ _ m0 m1 m2 m5 m6 hCp hB (by first | assumption | omega | exact ⟨by omega, by omega⟩) r0 r1 (by first | assumption | omega | exact ⟨by omega, by omega⟩)), ?_⟩
  intro b t hq
  rw [show (lnF op lk kp wc pn nw sh wk false p0 p1) = (colF op lk kp wc pn nw sh wk p0 p1) from rfl] at hq
  obtain ⟨qb, ⟨v1, mq, a0, a1, a2, a5, a6, hv1⟩, fr⟩ := hq
  exact chg_fin hK hfok htz (by first | exact (tX_b _).1 | exact (tX_b _).2.1 | exact (tX_b _).2.2.1 | exact (tX_b _).2.2.2.1 | exact (tX_b _).2.2.2.2) hm hO qb ⟨⟨_, _, _, _, a0⟩, a1, ⟨_, a2⟩, ⟨_, (fr 88 (by omega) (by omega)).trans m3⟩, (fr 89 (by omega) (by omega)).trans m4, a5, ⟨_, a6⟩, ⟨_, (fr 92 (by omega) (by omega)).trans m7, m7r⟩, (fr 93 (by omega) (by omega)).trans m8, (fr 94 (by omega) (by omega)).trans m9, _, (fr 95 (by omega) (by omega)).trans m10, m11⟩ hv1 (fun j h => fr j (by omega) (by omega))
set_option maxRecDepth 100000 in
set_option maxHeartbeats 4000000 in
theorem s_placeKey (l : Launch) (E : xE) (ST : xST) (hSF : SF ST) (hSX : SX ST) (htr : l.stackTraces = false) {n : Int} {σ : xW} (hn : 0 ≤ n ∧ n ≤ 600) (hI : INV n E σ) (p0 : Int) (p1 : Int) (p2 : Int) (r0 : rg p0) (r1 : rg p1) (r2 : rg p2) : ∃ P : Int → xW → Prop, CI l E ST yL_placeKey wsL_placeKey rm_L_placeKey [.ref (xad E 0), .int (iZ p0), .int (iZ p1), .int (iZ p2), .ref (xad E 96)] σ P ∧ ∀ (k : Int) (u : xW), P k u → (∃ fs : List Value, u 85 = oB 5 fs) ∧ ∃ Q : Int → xW → Prop, CI l E ST yX7_placeKey wsX7_placeKey rm_X7_placeKey [.ref (xad E 85), .int (iZ p0), .int (iZ p1), .int (iZ p2)] u Q ∧ ∀ (b : Int) (t : xW), Q b t → FIN n E t k b := by
  obtain ⟨th, hth, hv, se, sf, ll, nx, ct, B, S, HB, tx, ln, lq, sv, re, ea, fa, ty, li, v, vs, hF, lf, hC, hM, hO, hK⟩ := hI
  obtain ⟨op, lk, kp, wc, pn, nw, sh, wk⟩ := B
  obtain ⟨c0, c1, c2, ⟨X7, c3⟩, ⟨X13, c4⟩, c5, c6, ⟨le, rl, fs, qu, gr, c7⟩, ⟨cs, cm, va, c8, c9⟩, c10⟩ := id hC
  have c2 : bd E σ 1 op lk kp wc pn nw sh wk := c2
  obtain ⟨⟨hB, hCp, ⟨hsh0, hsh1⟩, hwk0, hwk1⟩, ⟨hsv, hS9⟩, ⟨hnx, hct, hre, hhr, hHi⟩, ⟨hea, hfa, hse, hsf⟩, ⟨hty, hln, htx⟩, hli, hll, hlqf, hlq, hlf⟩ := id hK
  have hB : BI op lk kp wc pn nw := hB
  have hCp : Cp v op lk kp wc pn nw sh wk := hCp
  have hsh0 : 0 ≤ sh := hsh0
  have hsh1 : sh ≤ 1000 * n := hsh1
  have hwk0 : 0 ≤ wk := hwk0
  have hwk1 : wk ≤ 1000 * n := hwk1
  have hhb := hsl_rg hnx.1 hnx.2
  have hnw : 0 ≤ nw ∧ nw ≤ 3 := hB.2.2.2.2.2
  have hse9 : rg se := ⟨by omega, by omega⟩
  have hsf9 : rg sf := ⟨by omega, by omega⟩
  have hea9 : rg ea := ⟨by omega, by omega⟩
  have hfa9 : rg fa := ⟨by omega, by omega⟩
  have hfok : FOK (op, lk, kp, wc, pn, nw, sh, wk) (layF op lk kp wc pn nw sh wk p0 p1 p2) := FOK_lay hB
  have htz : tL (layF op lk kp wc pn nw sh wk p0 p1 p2).1 = 0 ↔ 0 ≤ (layF op lk kp wc pn nw sh wk p0 p1 p2).1 := tz_lay
  have hrz := hfok.2.2.1
  have hr8 := rL htz hrz.1
  have hrg : rg (layF op lk kp wc pn nw sh wk p0 p1 p2).1 := ⟨by omega, by omega⟩
  refine ⟨_, c_L_placeKey l E ST hSF hSX σ p0 p1 p2 (c_X6_placeKey l E ST hSF htr σ p0 p1 p2 _ _ _ _ _ _ _ _ _ _ _ _ _ _ _ _ _ _ _ _ _ _ _ _ _ _ _ _ _ _ c0 c1 (c6 nx hnx.1 hnx.2) c2 c3 (by first | assumption | omega | exact ⟨by omega, by omega⟩) (by first | assumption | omega | exact ⟨by omega, by omega⟩) hB r1 r2 r0 (by first | assumption | omega | exact ⟨by omega, by omega⟩)) c0 (fun z u h => ⟨_, (h.2.2 96 (by omega) (by omega) (by omega)).trans hO.1.choose_spec⟩) (fun nm u h => by rcases h.1 with ⟨e, q⟩ | ⟨e, q⟩ | ⟨e, q⟩ | ⟨e, q⟩ | ⟨e, q⟩ <;> first | exact Or.inl e | exact Or.inr (Or.inl e) | exact Or.inr (Or.inr (e)) | (exfalso; omega)), ?_⟩
  intro k u hp
  have hm : MIDC E σ u k tL (layF op lk kp wc pn nw sh wk p0 p1 p2) ((layF op lk kp wc pn nw sh wk p0 p1 p2).1) hv se sf ll nx ct (op, lk, kp, wc, pn, nw, sh, wk) S HB tx ln lq := by
    rcases hp with ⟨rfl, z, u0, ⟨hzz, ⟨op1, lk1, kp1, wc1, pn1, nw1, sh1, wk1, q0, q1, q2, q3, q4, e, hz⟩, fr⟩, e96, f96⟩ | ⟨rfl, hx⟩ | ⟨rfl, hx⟩ | ⟨rfl, hx⟩
    · exact mid_ok hC hnx hfok q0 q1 q2 q3 q4 (srX_fr hC.2.2.2.2.2.2.2.1 (fun j a b => fr j (by omega) (by omega) (by omega))) e hz (fun j a b c _ => fr j a b c) hzz e96 f96
    · obtain ⟨hq, ⟨op1, lk1, kp1, wc1, pn1, nw1, sh1, wk1, q0, q1, q2, q3, q4, e⟩, fr⟩ := hx
      rcases hq with ⟨e_, q⟩ | ⟨e_, q⟩ | ⟨e_, q⟩ | ⟨e_, q⟩ | ⟨e_, q⟩
      · exact absurd e_ (by decide +kernel)
      · exact mid_no hC hfok (by omega) q0 q3 q4 (srX_fr hC.2.2.2.2.2.2.2.1 (fun j a b => fr j (by omega))) e (fun j a _ => fr j a) (by rw [q]; decide)
      · exact absurd e_ (by decide +kernel)
      · exact absurd e_ (by decide +kernel)
      · exact absurd e_ (by decide +kernel)
    · obtain ⟨hq, ⟨op1, lk1, kp1, wc1, pn1, nw1, sh1, wk1, q0, q1, q2, q3, q4, e⟩, fr⟩ := hx
      rcases hq with ⟨e_, q⟩ | ⟨e_, q⟩ | ⟨e_, q⟩ | ⟨e_, q⟩ | ⟨e_, q⟩
      · exact mid_no hC hfok (by omega) q0 q3 q4 (srX_fr hC.2.2.2.2.2.2.2.1 (fun j a b => fr j (by omega))) e (fun j a _ => fr j a) (by rw [q]; decide)
      · exact absurd e_ (by decide +kernel)
      · exact absurd e_ (by decide +kernel)
      · exact absurd e_ (by decide +kernel)
      · exact absurd e_ (by decide +kernel)
    · obtain ⟨hq, ⟨op1, lk1, kp1, wc1, pn1, nw1, sh1, wk1, q0, q1, q2, q3, q4, e⟩, fr⟩ := hx
      rcases hq with ⟨e_, q⟩ | ⟨e_, q⟩ | ⟨e_, q⟩ | ⟨e_, q⟩ | ⟨e_, q⟩
      · exact absurd e_ (by decide +kernel)
      · exact absurd e_ (by decide +kernel)
      · exact mid_no hC hfok (by omega) q0 q3 q4 (srX_fr hC.2.2.2.2.2.2.2.1 (fun j a b => fr j (by omega))) e (fun j a _ => fr j a) (by rw [q]; decide)
      · exact absurd e_ (by decide +kernel)
      · exact absurd e_ (by decide +kernel)
  have hM2 := hm.mdl hM
  obtain ⟨⟨sz, sp, wr, to, m0⟩, m1, ⟨w2, m2⟩, ⟨w3, m3⟩, m4, m5, ⟨w6, m6⟩, ⟨F9, m7, m7r⟩, m8, m9, nu, m10, m11⟩ := hM2
  refine ⟨⟨_, m0⟩, _, (c_X7_placeKey l E ST hSF u p0 p1 p2 _ _ _ _ _ _ _ _ _ _ _ _ _ _ _ _ _ _ _ _ _ _ m0 m1 m2 m5 hCp hB (by first | assumption | omega | exact ⟨by omega, by omega⟩) r1 r2 r0), ?_⟩
  intro b t hq
  obtain ⟨qb, ⟨v1, a0, a1, a2, a5, hv1⟩, fr⟩ := hq
  exact chg_fin hK hfok htz (by first | exact (tX_b _).1 | exact (tX_b _).2.1 | exact (tX_b _).2.2.1 | exact (tX_b _).2.2.2.1 | exact (tX_b _).2.2.2.2) hm hO qb ⟨⟨_, _, _, _, a0⟩, a1, ⟨_, a2⟩, ⟨_, (fr 88 (by omega) (by omega)).trans m3⟩, (fr 89 (by omega) (by omega)).trans m4, a5, ⟨_, (fr 91 (by omega) (by omega)).trans m6⟩, ⟨_, (fr 92 (by omega) (by omega)).trans m7, m7r⟩, (fr 93 (by omega) (by omega)).trans m8, (fr 94 (by omega) (by omega)).trans m9, _, (fr 95 (by omega) (by omega)).trans m10, m11⟩ hv1 (fun j h => fr j (by omega) (by omega))
set_option maxRecDepth 100000 in
set_option maxHeartbeats 4000000 in
theorem s_addLock (l : Launch) (E : xE) (ST : xST) (hSF : SF ST) (hSX : SX ST) (htr : l.stackTraces = false) {n : Int} {σ : xW} (hn : 0 ≤ n ∧ n ≤ 600) (hI : INV n E σ) (p0 : Int) (p1 : Int) (p2 : Int) (r0 : rg p0) (r1 : rg p1) (r2 : rg p2) : ∃ P : Int → xW → Prop, CI l E ST yL_addLock wsL_addLock rm_L_addLock [.ref (xad E 0), .int (iZ p0), .int (iZ p1), .int (iZ p2), .ref (xad E 96)] σ P ∧ ∀ (k : Int) (u : xW), P k u → (∃ fs : List Value, u 85 = oB 5 fs) ∧ ∃ Q : Int → xW → Prop, CI l E ST yX7_addLock wsX7_addLock rm_X7_addLock [.ref (xad E 85), .int (iZ p0), .int (iZ p1), .int (iZ p2)] u Q ∧ ∀ (b : Int) (t : xW), Q b t → FIN n E t k b := by
  obtain ⟨th, hth, hv, se, sf, ll, nx, ct, B, S, HB, tx, ln, lq, sv, re, ea, fa, ty, li, v, vs, hF, lf, hC, hM, hO, hK⟩ := hI
  obtain ⟨op, lk, kp, wc, pn, nw, sh, wk⟩ := B
  obtain ⟨c0, c1, c2, ⟨X7, c3⟩, ⟨X13, c4⟩, c5, c6, ⟨le, rl, fs, qu, gr, c7⟩, ⟨cs, cm, va, c8, c9⟩, c10⟩ := id hC
  have c2 : bd E σ 1 op lk kp wc pn nw sh wk := c2
  obtain ⟨⟨hB, hCp, ⟨hsh0, hsh1⟩, hwk0, hwk1⟩, ⟨hsv, hS9⟩, ⟨hnx, hct, hre, hhr, hHi⟩, ⟨hea, hfa, hse, hsf⟩, ⟨hty, hln, htx⟩, hli, hll, hlqf, hlq, hlf⟩ := id hK
  have hB : BI op lk kp wc pn nw := hB
  have hCp : Cp v op lk kp wc pn nw sh wk := hCp
  have hsh0 : 0 ≤ sh := hsh0
  have hsh1 : sh ≤ 1000 * n := hsh1
  have hwk0 : 0 ≤ wk := hwk0
  have hwk1 : wk ≤ 1000 * n := hwk1
  have hhb := hsl_rg hnx.1 hnx.2
  have hnw : 0 ≤ nw ∧ nw ≤ 3 := hB.2.2.2.2.2
  have hse9 : rg se := ⟨by omega, by omega⟩
  have hsf9 : rg sf := ⟨by omega, by omega⟩
  have hea9 : rg ea := ⟨by omega, by omega⟩
  have hfa9 : rg fa := ⟨by omega, by omega⟩
  have hfok : FOK (op, lk, kp, wc, pn, nw, sh, wk) (hangF op lk kp wc pn nw sh wk p0 p1 p2) := FOK_hang hB
  have htz : tA (hangF op lk kp wc pn nw sh wk p0 p1 p2).1 = 0 ↔ 0 ≤ (hangF op lk kp wc pn nw sh wk p0 p1 p2).1 := tz_hang
  have hrz := hfok.2.2.1
  have hr8 := rA htz hrz.1
  have hrg : rg (hangF op lk kp wc pn nw sh wk p0 p1 p2).1 := ⟨by omega, by omega⟩
  refine ⟨_, c_L_addLock l E ST hSF hSX σ p0 p1 p2 (c_X6_addLock l E ST hSF htr σ p0 p1 p2 _ _ _ _ _ _ _ _ _ _ _ _ _ _ _ _ _ _ _ _ _ _ _ _ _ _ _ _ _ _ c0 c1 (c6 nx hnx.1 hnx.2) c2 c3 (by first | assumption | omega | exact ⟨by omega, by omega⟩) (by first | assumption | omega | exact ⟨by omega, by omega⟩) hB r0 r1 r2 (by first | assumption | omega | exact ⟨by omega, by omega⟩)) c0 (fun z u h => ⟨_, (h.2.2 96 (by omega) (by omega) (by omega)).trans hO.1.choose_spec⟩) (fun nm u h => by rcases h.1 with ⟨e, q⟩ | ⟨e, q⟩ | ⟨e, q⟩ | ⟨e, q⟩ | ⟨e, q⟩ <;> first | exact Or.inl e | exact Or.inr (Or.inl e) | exact Or.inr (Or.inr (e)) | (exfalso; omega)), ?_⟩
  intro k u hp
  have hm : MIDC E σ u k tA (hangF op lk kp wc pn nw sh wk p0 p1 p2) ((hangF op lk kp wc pn nw sh wk p0 p1 p2).1) hv se sf ll nx ct (op, lk, kp, wc, pn, nw, sh, wk) S HB tx ln lq := by
    rcases hp with ⟨rfl, z, u0, ⟨hzz, ⟨op1, lk1, kp1, wc1, pn1, nw1, sh1, wk1, q0, q1, q2, q3, q4, e, hz⟩, fr⟩, e96, f96⟩ | ⟨rfl, hx⟩ | ⟨rfl, hx⟩ | ⟨rfl, hx⟩
    · exact mid_ok hC hnx hfok q0 q1 q2 q3 q4 (srX_fr hC.2.2.2.2.2.2.2.1 (fun j a b => fr j (by omega) (by omega) (by omega))) e hz (fun j a b c _ => fr j a b c) hzz e96 f96
    · obtain ⟨hq, ⟨op1, lk1, kp1, wc1, pn1, nw1, sh1, wk1, q0, q1, q2, q3, q4, e⟩, fr⟩ := hx
      rcases hq with ⟨e_, q⟩ | ⟨e_, q⟩ | ⟨e_, q⟩ | ⟨e_, q⟩ | ⟨e_, q⟩
      · exact mid_no hC hfok (by omega) q0 q3 q4 (srX_fr hC.2.2.2.2.2.2.2.1 (fun j a b => fr j (by omega))) e (fun j a _ => fr j a) (by rw [q]; decide)
      · exact absurd e_ (by decide +kernel)
      · exact absurd e_ (by decide +kernel)
      · exact absurd e_ (by decide +kernel)
      · exact absurd e_ (by decide +kernel)
    · obtain ⟨hq, ⟨op1, lk1, kp1, wc1, pn1, nw1, sh1, wk1, q0, q1, q2, q3, q4, e⟩, fr⟩ := hx
      rcases hq with ⟨e_, q⟩ | ⟨e_, q⟩ | ⟨e_, q⟩ | ⟨e_, q⟩ | ⟨e_, q⟩
      · exact absurd e_ (by decide +kernel)
      · exact mid_no hC hfok (by omega) q0 q3 q4 (srX_fr hC.2.2.2.2.2.2.2.1 (fun j a b => fr j (by omega))) e (fun j a _ => fr j a) (by rw [q]; decide)
      · exact absurd e_ (by decide +kernel)
      · exact absurd e_ (by decide +kernel)
      · exact absurd e_ (by decide +kernel)
    · obtain ⟨hq, ⟨op1, lk1, kp1, wc1, pn1, nw1, sh1, wk1, q0, q1, q2, q3, q4, e⟩, fr⟩ := hx
      rcases hq with ⟨e_, q⟩ | ⟨e_, q⟩ | ⟨e_, q⟩ | ⟨e_, q⟩ | ⟨e_, q⟩
      · exact absurd e_ (by decide +kernel)
      · exact absurd e_ (by decide +kernel)
      · exact mid_no hC hfok (by omega) q0 q3 q4 (srX_fr hC.2.2.2.2.2.2.2.1 (fun j a b => fr j (by omega))) e (fun j a _ => fr j a) (by rw [q]; decide)
      · exact absurd e_ (by decide +kernel)
      · exact absurd e_ (by decide +kernel)
  have hM2 := hm.mdl hM
  obtain ⟨⟨sz, sp, wr, to, m0⟩, m1, ⟨w2, m2⟩, ⟨w3, m3⟩, m4, m5, ⟨w6, m6⟩, ⟨F9, m7, m7r⟩, m8, m9, nu, m10, m11⟩ := hM2
  refine ⟨⟨_, m0⟩, _, (c_X7_addLock l E ST hSF u p0 p1 p2 _ _ _ _ _ _ _ _ _ _ _ _ _ _ _ _ _ _ _ _ _ _ m0 m1 m2 m5 hCp hB (by first | assumption | omega | exact ⟨by omega, by omega⟩) r0 r1 r2), ?_⟩
  intro b t hq
  obtain ⟨qb, ⟨v1, a0, a1, a2, a5, hv1⟩, fr⟩ := hq
  exact chg_fin hK hfok htz (by first | exact (tX_b _).1 | exact (tX_b _).2.1 | exact (tX_b _).2.2.1 | exact (tX_b _).2.2.2.1 | exact (tX_b _).2.2.2.2) hm hO qb ⟨⟨_, _, _, _, a0⟩, a1, ⟨_, a2⟩, ⟨_, (fr 88 (by omega) (by omega)).trans m3⟩, (fr 89 (by omega) (by omega)).trans m4, a5, ⟨_, (fr 91 (by omega) (by omega)).trans m6⟩, ⟨_, (fr 92 (by omega) (by omega)).trans m7, m7r⟩, (fr 93 (by omega) (by omega)).trans m8, (fr 94 (by omega) (by omega)).trans m9, _, (fr 95 (by omega) (by omega)).trans m10, m11⟩ hv1 (fun j h => fr j (by omega) (by omega))
set_option maxRecDepth 100000 in
set_option maxHeartbeats 4000000 in
theorem s_removeLock (l : Launch) (E : xE) (ST : xST) (hSF : SF ST) (hSX : SX ST) (htr : l.stackTraces = false) {n : Int} {σ : xW} (hn : 0 ≤ n ∧ n ≤ 600) (hI : INV n E σ) (p0 : Int) (p1 : Int) (r0 : rg p0) (r1 : rg p1) : ∃ P : Int → xW → Prop, CI l E ST yL_removeLock wsL_removeLock rm_L_removeLock [.ref (xad E 0), .int (iZ p0), .int (iZ p1), .ref (xad E 96)] σ P ∧ ∀ (k : Int) (u : xW), P k u → (∃ fs : List Value, u 85 = oB 5 fs) ∧ ∃ Q : Int → xW → Prop, CI l E ST yX7_removeLock wsX7_removeLock rm_X7_removeLock [.ref (xad E 85), .int (iZ p0), .int (iZ p1)] u Q ∧ ∀ (b : Int) (t : xW), Q b t → FIN n E t k b := by
  obtain ⟨th, hth, hv, se, sf, ll, nx, ct, B, S, HB, tx, ln, lq, sv, re, ea, fa, ty, li, v, vs, hF, lf, hC, hM, hO, hK⟩ := hI
  obtain ⟨op, lk, kp, wc, pn, nw, sh, wk⟩ := B
  obtain ⟨c0, c1, c2, ⟨X7, c3⟩, ⟨X13, c4⟩, c5, c6, ⟨le, rl, fs, qu, gr, c7⟩, ⟨cs, cm, va, c8, c9⟩, c10⟩ := id hC
  have c2 : bd E σ 1 op lk kp wc pn nw sh wk := c2
  obtain ⟨⟨hB, hCp, ⟨hsh0, hsh1⟩, hwk0, hwk1⟩, ⟨hsv, hS9⟩, ⟨hnx, hct, hre, hhr, hHi⟩, ⟨hea, hfa, hse, hsf⟩, ⟨hty, hln, htx⟩, hli, hll, hlqf, hlq, hlf⟩ := id hK
  have hB : BI op lk kp wc pn nw := hB
  have hCp : Cp v op lk kp wc pn nw sh wk := hCp
  have hsh0 : 0 ≤ sh := hsh0
  have hsh1 : sh ≤ 1000 * n := hsh1
  have hwk0 : 0 ≤ wk := hwk0
  have hwk1 : wk ≤ 1000 * n := hwk1
  have hhb := hsl_rg hnx.1 hnx.2
  have hnw : 0 ≤ nw ∧ nw ≤ 3 := hB.2.2.2.2.2
  have hse9 : rg se := ⟨by omega, by omega⟩
  have hsf9 : rg sf := ⟨by omega, by omega⟩
  have hea9 : rg ea := ⟨by omega, by omega⟩
  have hfa9 : rg fa := ⟨by omega, by omega⟩
  have hfok : FOK (op, lk, kp, wc, pn, nw, sh, wk) (takeF op lk kp wc pn nw sh wk p0 p1) := FOK_take hB
  have htz : tT (takeF op lk kp wc pn nw sh wk p0 p1).1 = 0 ↔ 0 ≤ (takeF op lk kp wc pn nw sh wk p0 p1).1 := tz_take hB
  have hrz := hfok.2.2.1
  have hr8 := rT htz hrz.1
  have hrg : rg (takeF op lk kp wc pn nw sh wk p0 p1).1 := ⟨by omega, by omega⟩
  refine ⟨_, c_L_removeLock l E ST hSF hSX σ p0 p1 (c_X6_removeLock l E ST hSF htr σ p0 p1 _ _ _ _ _ _ _ _ _ _ _ _ _ _ _ _ _ _ _ _ _ _ _ _ _ _ _ _ _ _ c0 c1 (c6 nx hnx.1 hnx.2) c2 c3 (by first | assumption | omega | exact ⟨by omega, by omega⟩) (by first | assumption | omega | exact ⟨by omega, by omega⟩) hB r0 r1 (by first | assumption | omega | exact ⟨by omega, by omega⟩)) c0 (fun z u h => ⟨_, (h.2.2 96 (by omega) (by omega) (by omega)).trans hO.1.choose_spec⟩) (fun nm u h => by rcases h.1 with ⟨e, q⟩ | ⟨e, q⟩ | ⟨e, q⟩ | ⟨e, q⟩ | ⟨e, q⟩ <;> first | exact Or.inl e | exact Or.inr (e) | (exfalso; omega)), ?_⟩
  intro k u hp
  have hm : MIDC E σ u k tT (takeF op lk kp wc pn nw sh wk p0 p1) (i2cZ (takeF op lk kp wc pn nw sh wk p0 p1).1) hv se sf ll nx ct (op, lk, kp, wc, pn, nw, sh, wk) S HB tx ln lq := by
    rcases hp with ⟨rfl, z, u0, ⟨hzz, ⟨op1, lk1, kp1, wc1, pn1, nw1, sh1, wk1, q0, q1, q2, q3, q4, e, hz⟩, fr⟩, e96, f96⟩ | ⟨rfl, hx⟩ | ⟨rfl, hx⟩
    · exact mid_ok hC hnx hfok q0 q1 q2 q3 q4 (srX_fr hC.2.2.2.2.2.2.2.1 (fun j a b => fr j (by omega) (by omega) (by omega))) e hz (fun j a b c _ => fr j a b c) hzz e96 f96
    · obtain ⟨hq, ⟨op1, lk1, kp1, wc1, pn1, nw1, sh1, wk1, q0, q1, q2, q3, q4, e⟩, fr⟩ := hx
      rcases hq with ⟨e_, q⟩ | ⟨e_, q⟩ | ⟨e_, q⟩ | ⟨e_, q⟩ | ⟨e_, q⟩
      · exact mid_no hC hfok (by omega) q0 q3 q4 (srX_fr hC.2.2.2.2.2.2.2.1 (fun j a b => fr j (by omega))) e (fun j a _ => fr j a) (by rw [q]; decide)
      · exact absurd e_ (by decide +kernel)
      · exact absurd e_ (by decide +kernel)
      · exact absurd e_ (by decide +kernel)
      · exact absurd e_ (by decide +kernel)
    · obtain ⟨hq, ⟨op1, lk1, kp1, wc1, pn1, nw1, sh1, wk1, q0, q1, q2, q3, q4, e⟩, fr⟩ := hx
      rcases hq with ⟨e_, q⟩ | ⟨e_, q⟩ | ⟨e_, q⟩ | ⟨e_, q⟩ | ⟨e_, q⟩
      · exact absurd e_ (by decide +kernel)
      · exact absurd e_ (by decide +kernel)
      · exact absurd e_ (by decide +kernel)
      · exact absurd e_ (by decide +kernel)
      · exact mid_no hC hfok (by omega) q0 q3 q4 (srX_fr hC.2.2.2.2.2.2.2.1 (fun j a b => fr j (by omega))) e (fun j a _ => fr j a) (by rw [q]; decide)
  have hM2 := hm.mdl hM
  obtain ⟨⟨sz, sp, wr, to, m0⟩, m1, ⟨w2, m2⟩, ⟨w3, m3⟩, m4, m5, ⟨w6, m6⟩, ⟨F9, m7, m7r⟩, m8, m9, nu, m10, m11⟩ := hM2
  refine ⟨⟨_, m0⟩, _, (c_X7_removeLock l E ST hSF u p0 p1 _ _ _ _ _ _ _ _ _ _ _ _ _ _ _ _ _ _ _ _ _ _ m0 m1 m2 m5 hCp hB (by first | assumption | omega | exact ⟨by omega, by omega⟩) r0 r1), ?_⟩
  intro b t hq
  obtain ⟨qb, ⟨v1, a0, a1, a2, a5, hv1⟩, fr⟩ := hq
  exact chg_fin hK hfok htz (by first | exact (tX_b _).1 | exact (tX_b _).2.1 | exact (tX_b _).2.2.1 | exact (tX_b _).2.2.2.1 | exact (tX_b _).2.2.2.2) hm hO qb ⟨⟨_, _, _, _, a0⟩, a1, ⟨_, a2⟩, ⟨_, (fr 88 (by omega) (by omega)).trans m3⟩, (fr 89 (by omega) (by omega)).trans m4, a5, ⟨_, (fr 91 (by omega) (by omega)).trans m6⟩, ⟨_, (fr 92 (by omega) (by omega)).trans m7, m7r⟩, (fr 93 (by omega) (by omega)).trans m8, (fr 94 (by omega) (by omega)).trans m9, _, (fr 95 (by omega) (by omega)).trans m10, m11⟩ hv1 (fun j h => fr j (by omega) (by omega))
set_option maxRecDepth 100000 in
set_option maxHeartbeats 4000000 in
theorem s_addWalker (l : Launch) (E : xE) (ST : xST) (hSF : SF ST) (hSX : SX ST) (htr : l.stackTraces = false) {n : Int} {σ : xW} (hn : 0 ≤ n ∧ n ≤ 600) (hI : INV n E σ) (p0 : Int) (p1 : Int) (r0 : rg p0) (r1 : rg p1) : ∃ P : Int → xW → Prop, CI l E ST yL_addWalker wsL_addWalker rm_L_addWalker [.ref (xad E 0), .int (iZ p0), .int (iZ p1), .ref (xad E 96)] σ P ∧ ∀ (k : Int) (u : xW), P k u → (∃ fs : List Value, u 85 = oB 5 fs) ∧ ∃ Q : Int → xW → Prop, CI l E ST yX7_addWalker wsX7_addWalker rm_X7_addWalker [.ref (xad E 85), .int (iZ p0), .int (iZ p1)] u Q ∧ ∀ (b : Int) (t : xW), Q b t → FIN n E t k b := by
  obtain ⟨th, hth, hv, se, sf, ll, nx, ct, B, S, HB, tx, ln, lq, sv, re, ea, fa, ty, li, v, vs, hF, lf, hC, hM, hO, hK⟩ := hI
  obtain ⟨op, lk, kp, wc, pn, nw, sh, wk⟩ := B
  obtain ⟨c0, c1, c2, ⟨X7, c3⟩, ⟨X13, c4⟩, c5, c6, ⟨le, rl, fs, qu, gr, c7⟩, ⟨cs, cm, va, c8, c9⟩, c10⟩ := id hC
  have c2 : bd E σ 1 op lk kp wc pn nw sh wk := c2
  obtain ⟨⟨hB, hCp, ⟨hsh0, hsh1⟩, hwk0, hwk1⟩, ⟨hsv, hS9⟩, ⟨hnx, hct, hre, hhr, hHi⟩, ⟨hea, hfa, hse, hsf⟩, ⟨hty, hln, htx⟩, hli, hll, hlqf, hlq, hlf⟩ := id hK
  have hB : BI op lk kp wc pn nw := hB
  have hCp : Cp v op lk kp wc pn nw sh wk := hCp
  have hsh0 : 0 ≤ sh := hsh0
  have hsh1 : sh ≤ 1000 * n := hsh1
  have hwk0 : 0 ≤ wk := hwk0
  have hwk1 : wk ≤ 1000 * n := hwk1
  have hhb := hsl_rg hnx.1 hnx.2
  have hnw : 0 ≤ nw ∧ nw ≤ 3 := hB.2.2.2.2.2
  have hse9 : rg se := ⟨by omega, by omega⟩
  have hsf9 : rg sf := ⟨by omega, by omega⟩
  have hea9 : rg ea := ⟨by omega, by omega⟩
  have hfa9 : rg fa := ⟨by omega, by omega⟩
  have hfok : FOK (op, lk, kp, wc, pn, nw, sh, wk) (enterF op lk kp wc pn nw sh wk p0 p1) := FOK_enter hB
  have htz : tE (enterF op lk kp wc pn nw sh wk p0 p1).1 = 0 ↔ 0 ≤ (enterF op lk kp wc pn nw sh wk p0 p1).1 := tz_enter hB
  have hrz := hfok.2.2.1
  have hr8 := rE htz hrz.1
  have hrg : rg (enterF op lk kp wc pn nw sh wk p0 p1).1 := ⟨by omega, by omega⟩
  refine ⟨_, c_L_addWalker l E ST hSF hSX σ p0 p1 (c_X6_addWalker l E ST hSF htr σ p0 p1 _ _ _ _ _ _ _ _ _ _ _ _ _ _ _ _ _ _ _ _ _ _ _ _ _ _ _ _ _ _ c0 c1 (c6 nx hnx.1 hnx.2) c2 c3 (by first | assumption | omega | exact ⟨by omega, by omega⟩) (by first | assumption | omega | exact ⟨by omega, by omega⟩) hB r0 r1 (by first | assumption | omega | exact ⟨by omega, by omega⟩)) c0 (fun z u h => ⟨_, (h.2.2 96 (by omega) (by omega) (by omega)).trans hO.1.choose_spec⟩) (fun nm u h => by rcases h.1 with ⟨e, q⟩ | ⟨e, q⟩ | ⟨e, q⟩ | ⟨e, q⟩ | ⟨e, q⟩ <;> first | exact Or.inl e | exact Or.inr (Or.inl e) | exact Or.inr (Or.inr (e)) | (exfalso; omega)), ?_⟩
  intro k u hp
  have hm : MIDC E σ u k tE (enterF op lk kp wc pn nw sh wk p0 p1) ((enterF op lk kp wc pn nw sh wk p0 p1).1) hv se sf ll nx ct (op, lk, kp, wc, pn, nw, sh, wk) S HB tx ln lq := by
    rcases hp with ⟨rfl, z, u0, ⟨hzz, ⟨op1, lk1, kp1, wc1, pn1, nw1, sh1, wk1, q0, q1, q2, q3, q4, e, hz⟩, fr⟩, e96, f96⟩ | ⟨rfl, hx⟩ | ⟨rfl, hx⟩ | ⟨rfl, hx⟩
    · exact mid_ok hC hnx hfok q0 q1 q2 q3 q4 (srX_fr hC.2.2.2.2.2.2.2.1 (fun j a b => fr j (by omega) (by omega) (by omega))) e hz (fun j a b c _ => fr j a b c) hzz e96 f96
    · obtain ⟨hq, ⟨op1, lk1, kp1, wc1, pn1, nw1, sh1, wk1, q0, q1, q2, q3, q4, e⟩, fr⟩ := hx
      rcases hq with ⟨e_, q⟩ | ⟨e_, q⟩ | ⟨e_, q⟩ | ⟨e_, q⟩ | ⟨e_, q⟩
      · exact mid_no hC hfok (by omega) q0 q3 q4 (srX_fr hC.2.2.2.2.2.2.2.1 (fun j a b => fr j (by omega))) e (fun j a _ => fr j a) (by rw [q]; decide)
      · exact absurd e_ (by decide +kernel)
      · exact absurd e_ (by decide +kernel)
      · exact absurd e_ (by decide +kernel)
      · exact absurd e_ (by decide +kernel)
    · obtain ⟨hq, ⟨op1, lk1, kp1, wc1, pn1, nw1, sh1, wk1, q0, q1, q2, q3, q4, e⟩, fr⟩ := hx
      rcases hq with ⟨e_, q⟩ | ⟨e_, q⟩ | ⟨e_, q⟩ | ⟨e_, q⟩ | ⟨e_, q⟩
      · exact absurd e_ (by decide +kernel)
      · exact absurd e_ (by decide +kernel)
      · exact mid_no hC hfok (by omega) q0 q3 q4 (srX_fr hC.2.2.2.2.2.2.2.1 (fun j a b => fr j (by omega))) e (fun j a _ => fr j a) (by rw [q]; decide)
      · exact absurd e_ (by decide +kernel)
      · exact absurd e_ (by decide +kernel)
    · obtain ⟨hq, ⟨op1, lk1, kp1, wc1, pn1, nw1, sh1, wk1, q0, q1, q2, q3, q4, e⟩, fr⟩ := hx
      rcases hq with ⟨e_, q⟩ | ⟨e_, q⟩ | ⟨e_, q⟩ | ⟨e_, q⟩ | ⟨e_, q⟩
      · exact absurd e_ (by decide +kernel)
      · exact absurd e_ (by decide +kernel)
      · exact absurd e_ (by decide +kernel)
      · exact mid_no hC hfok (by omega) q0 q3 q4 (srX_fr hC.2.2.2.2.2.2.2.1 (fun j a b => fr j (by omega))) e (fun j a _ => fr j a) (by rw [q]; decide)
      · exact absurd e_ (by decide +kernel)
  have hM2 := hm.mdl hM
  obtain ⟨⟨sz, sp, wr, to, m0⟩, m1, ⟨w2, m2⟩, ⟨w3, m3⟩, m4, m5, ⟨w6, m6⟩, ⟨F9, m7, m7r⟩, m8, m9, nu, m10, m11⟩ := hM2
  refine ⟨⟨_, m0⟩, _, (c_X7_addWalker l E ST hSF u p0 p1 _ _ _ _ _ _ _ _ _ _ _ _ _ _ _ _ _ _ _ _ _ _ m0 m1 m2 m5 hCp hB (by first | assumption | omega | exact ⟨by omega, by omega⟩) r0 r1), ?_⟩
  intro b t hq
  obtain ⟨qb, ⟨v1, a0, a1, a2, a5, hv1⟩, fr⟩ := hq
  exact chg_fin hK hfok htz (by first | exact (tX_b _).1 | exact (tX_b _).2.1 | exact (tX_b _).2.2.1 | exact (tX_b _).2.2.2.1 | exact (tX_b _).2.2.2.2) hm hO qb ⟨⟨_, _, _, _, a0⟩, a1, ⟨_, a2⟩, ⟨_, (fr 88 (by omega) (by omega)).trans m3⟩, (fr 89 (by omega) (by omega)).trans m4, a5, ⟨_, (fr 91 (by omega) (by omega)).trans m6⟩, ⟨_, (fr 92 (by omega) (by omega)).trans m7, m7r⟩, (fr 93 (by omega) (by omega)).trans m8, (fr 94 (by omega) (by omega)).trans m9, _, (fr 95 (by omega) (by omega)).trans m10, m11⟩ hv1 (fun j h => fr j (by omega) (by omega))
set_option maxRecDepth 100000 in
set_option maxHeartbeats 4000000 in
theorem s_walk (l : Launch) (E : xE) (ST : xST) (hSF : SF ST) (hSX : SX ST) (htr : l.stackTraces = false) {n : Int} {σ : xW} (hn : 0 ≤ n ∧ n ≤ 600) (hI : INV n E σ) (p0 : Int) (p1 : Int) (p2 : Int) (r0 : rg p0) (r1 : rg p1) (r2 : rg p2) : ∃ P : Int → xW → Prop, CI l E ST yL_walk wsL_walk rm_L_walk [.ref (xad E 0), .int (iZ p0), .int (iZ p1), .int (iZ p2), .ref (xad E 96)] σ P ∧ ∀ (k : Int) (u : xW), P k u → (∃ fs : List Value, u 85 = oB 5 fs) ∧ ∃ Q : Int → xW → Prop, CI l E ST yX7_walk wsX7_walk rm_X7_walk [.ref (xad E 85), .int (iZ p0), .int (iZ p1), .int (iZ p2)] u Q ∧ ∀ (b : Int) (t : xW), Q b t → FIN n E t k b := by
  obtain ⟨th, hth, hv, se, sf, ll, nx, ct, B, S, HB, tx, ln, lq, sv, re, ea, fa, ty, li, v, vs, hF, lf, hC, hM, hO, hK⟩ := hI
  obtain ⟨op, lk, kp, wc, pn, nw, sh, wk⟩ := B
  obtain ⟨c0, c1, c2, ⟨X7, c3⟩, ⟨X13, c4⟩, c5, c6, ⟨le, rl, fs, qu, gr, c7⟩, ⟨cs, cm, va, c8, c9⟩, c10⟩ := id hC
  have c2 : bd E σ 1 op lk kp wc pn nw sh wk := c2
  obtain ⟨⟨hB, hCp, ⟨hsh0, hsh1⟩, hwk0, hwk1⟩, ⟨hsv, hS9⟩, ⟨hnx, hct, hre, hhr, hHi⟩, ⟨hea, hfa, hse, hsf⟩, ⟨hty, hln, htx⟩, hli, hll, hlqf, hlq, hlf⟩ := id hK
  have hB : BI op lk kp wc pn nw := hB
  have hCp : Cp v op lk kp wc pn nw sh wk := hCp
  have hsh0 : 0 ≤ sh := hsh0
  have hsh1 : sh ≤ 1000 * n := hsh1
  have hwk0 : 0 ≤ wk := hwk0
  have hwk1 : wk ≤ 1000 * n := hwk1
  have hhb := hsl_rg hnx.1 hnx.2
  have hnw : 0 ≤ nw ∧ nw ≤ 3 := hB.2.2.2.2.2
  have hse9 : rg se := ⟨by omega, by omega⟩
  have hsf9 : rg sf := ⟨by omega, by omega⟩
  have hea9 : rg ea := ⟨by omega, by omega⟩
  have hfa9 : rg fa := ⟨by omega, by omega⟩
  have hfok : FOK (op, lk, kp, wc, pn, nw, sh, wk) (walkF op lk kp wc pn nw sh wk p0 p1 p2) := FOK_walk hB
  have htz : tA (walkF op lk kp wc pn nw sh wk p0 p1 p2).1 = 0 ↔ 0 ≤ (walkF op lk kp wc pn nw sh wk p0 p1 p2).1 := tz_walk hB
  have hrz := hfok.2.2.1
  have hr8 := rA htz hrz.1
  have hrg : rg (walkF op lk kp wc pn nw sh wk p0 p1 p2).1 := ⟨by omega, by omega⟩
  refine ⟨_, c_L_walk l E ST hSF hSX σ p0 p1 p2 (c_X6_walk l E ST hSF htr σ p0 p1 p2 _ _ _ _ _ _ _ _ _ _ _ _ _ _ _ _ _ _ _ _ _ _ _ _ _ _ _ _ _ _ _ _ _ _ _ c0 c1 (c6 nx hnx.1 hnx.2) c2 c3 c7 (by first | assumption | omega | exact ⟨by omega, by omega⟩) (by first | assumption | omega | exact ⟨by omega, by omega⟩) hB r1 r2 r0 (by first | assumption | omega | exact ⟨by omega, by omega⟩)) c0 (fun z u h => ⟨_, (h.2.2 96 (by omega) (by omega) (by omega) (by omega)).trans hO.1.choose_spec⟩) (fun nm u h => by rcases h.1 with ⟨e, q⟩ | ⟨e, q⟩ | ⟨e, q⟩ | ⟨e, q⟩ | ⟨e, q⟩ <;> first | exact Or.inl e | exact Or.inr (Or.inl e) | exact Or.inr (Or.inr (e)) | (exfalso; omega)), ?_⟩
  intro k u hp
  have hm : MIDC E σ u k tA (walkF op lk kp wc pn nw sh wk p0 p1 p2) ((walkF op lk kp wc pn nw sh wk p0 p1 p2).1) hv se sf ll nx ct (op, lk, kp, wc, pn, nw, sh, wk) S HB tx ln lq := by
    rcases hp with ⟨rfl, z, u0, ⟨hzz, ⟨op1, lk1, kp1, wc1, pn1, nw1, sh1, wk1, le1, rl1, fs1, qu1, gr1, q0, q1, q2, q3, q4, q5, e, hz⟩, fr⟩, e96, f96⟩ | ⟨rfl, hx⟩ | ⟨rfl, hx⟩ | ⟨rfl, hx⟩
    · exact mid_ok hC hnx hfok q0 q1 q2 q3 q4 ⟨_, _, _, _, _, q5⟩ e hz fr hzz e96 f96
    · obtain ⟨hq, ⟨op1, lk1, kp1, wc1, pn1, nw1, sh1, wk1, le1, rl1, fs1, qu1, gr1, q0, q1, q2, q3, q4, q5, e⟩, fr⟩ := hx
      rcases hq with ⟨e_, q⟩ | ⟨e_, q⟩ | ⟨e_, q⟩ | ⟨e_, q⟩ | ⟨e_, q⟩
      · exact mid_no hC hfok (by omega) q0 q3 q4 ⟨_, _, _, _, _, q5⟩ e fr (by rw [q]; decide)
      · exact absurd e_ (by decide +kernel)
      · exact absurd e_ (by decide +kernel)
      · exact absurd e_ (by decide +kernel)
      · exact absurd e_ (by decide +kernel)
    · obtain ⟨hq, ⟨op1, lk1, kp1, wc1, pn1, nw1, sh1, wk1, le1, rl1, fs1, qu1, gr1, q0, q1, q2, q3, q4, q5, e⟩, fr⟩ := hx
      rcases hq with ⟨e_, q⟩ | ⟨e_, q⟩ | ⟨e_, q⟩ | ⟨e_, q⟩ | ⟨e_, q⟩
      · exact absurd e_ (by decide +kernel)
      · exact mid_no hC hfok (by omega) q0 q3 q4 ⟨_, _, _, _, _, q5⟩ e fr (by rw [q]; decide)
      · exact absurd e_ (by decide +kernel)
      · exact absurd e_ (by decide +kernel)
      · exact absurd e_ (by decide +kernel)
    · obtain ⟨hq, ⟨op1, lk1, kp1, wc1, pn1, nw1, sh1, wk1, le1, rl1, fs1, qu1, gr1, q0, q1, q2, q3, q4, q5, e⟩, fr⟩ := hx
      rcases hq with ⟨e_, q⟩ | ⟨e_, q⟩ | ⟨e_, q⟩ | ⟨e_, q⟩ | ⟨e_, q⟩
      · exact absurd e_ (by decide +kernel)
      · exact absurd e_ (by decide +kernel)
      · exact mid_no hC hfok (by omega) q0 q3 q4 ⟨_, _, _, _, _, q5⟩ e fr (by rw [q]; decide)
      · exact absurd e_ (by decide +kernel)
      · exact absurd e_ (by decide +kernel)
  have hM2 := hm.mdl hM
  obtain ⟨⟨sz, sp, wr, to, m0⟩, m1, ⟨w2, m2⟩, ⟨w3, m3⟩, m4, m5, ⟨w6, m6⟩, ⟨F9, m7, m7r⟩, m8, m9, nu, m10, m11⟩ := hM2
  refine ⟨⟨_, m0⟩, _, (c_X7_walk l E ST hSF u p0 p1 p2 _ _ _ _ _ _ _ _ _ _ _ _ _ _ _ _ _ _ _ _ _ _ _ m0 m1 m2 m5 m7 hCp hB (by first | assumption | omega | exact ⟨by omega, by omega⟩) r1 r2 r0 m7r (by first | assumption | omega | exact ⟨by omega, by omega⟩)), ?_⟩
  intro b t hq
  obtain ⟨qb, ⟨v1, Fq, a0, a1, a2, a5, a7, hv1, a7r⟩, fr⟩ := hq
  exact chg_fin hK hfok htz (by first | exact (tX_b _).1 | exact (tX_b _).2.1 | exact (tX_b _).2.2.1 | exact (tX_b _).2.2.2.1 | exact (tX_b _).2.2.2.2) hm hO qb ⟨⟨_, _, _, _, a0⟩, a1, ⟨_, a2⟩, ⟨_, (fr 88 (by omega) (by omega) (by omega)).trans m3⟩, (fr 89 (by omega) (by omega) (by omega)).trans m4, a5, ⟨_, (fr 91 (by omega) (by omega) (by omega)).trans m6⟩, ⟨_, a7, a7r⟩, (fr 93 (by omega) (by omega) (by omega)).trans m8, (fr 94 (by omega) (by omega) (by omega)).trans m9, _, (fr 95 (by omega) (by omega) (by omega)).trans m10, m11⟩ hv1 (fun j h => fr j (by omega) (by omega) (by omega))
