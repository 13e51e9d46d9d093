def rm_X6_carryOut : Room := { frames := 5, cells := 0, slots := 0, locals := 118 }
set_option maxRecDepth 100000 in
set_option maxHeartbeats 4000000 in
theorem c_X6_carryOut (l : Launch) (E : xE) (ST : xST) (hSF : SF ST) (Z : zE) (hSQ : SQ Z ST) (σ : xW) (kd : Int) (hv : Bool) (se : Int) (sf : Int) (ll : Int) (op : Int → Int) (lk : Int → Int) (kp : Int → Int) (wc : Int → Int) (pn : Int) (nw : Int) (sh : Int) (wk : Int) (le : Int → Int) (rl : Int → Int) (fs : Int → Int) (qu : Int → Int) (gr : Int → Int) (va : Int → Int) (hr0 : mn E σ hv se sf ll) (hr1 : bd E σ 1 op lk kp wc pn nw sh wk) (hr2 : sr E σ le rl fs qu gr) (hr3 : ar1 E σ 83 3 va) (hB : BI op lk kp wc pn nw) (hk : 0 ≤ kd ∧ kd < 11) (hva : ∀ j : Int, -1 ≤ va j ∧ va j ≤ 102) : CI l E ST yX6_carryOut wsX6_carryOut rm_X6_carryOut [.ref (xad E 0), .ref (zC Z kd), .ref (xad E 83)] σ (fun (z : Int) (u : xW) => z = (exF op lk kp wc pn nw sh wk kd (va 0) (va 1) (va 2)).1 ∧ (∃ (op1 lk1 kp1 wc1 : Int → Int) (pn1 nw1 sh1 wk1 : Int) (le1 rl1 fs1 qu1 gr1 : Int → Int), bd E u 1 op1 lk1 kp1 wc1 pn1 nw1 sh1 wk1 ∧ sr E u le1 rl1 fs1 qu1 gr1 ∧ ((op1, lk1, kp1, wc1, pn1, nw1, sh1, wk1) = (exF op lk kp wc pn nw sh wk kd (va 0) (va 1) (va 2)).2)) ∧ ∀ j : Nat, (j < 1 ∨ 1 + 6 ≤ j) → (j < 75 ∨ 75 + 6 ≤ j) → u j = σ j) := by
  have f0 : σ 0 = oB 4 [.ref (xad E 1), .ref (xad E 7), .ref (xad E 13), .ref (xad E 19), .int (iZ (b2 hv)), .ref (xad E 73), .ref (xad E 75), .ref (xad E 81), .int (iZ se), .int (iZ sf), .ref (xad E 84), .int (iZ ll)] := hr0
  obtain ⟨f1, f2, f3, f4, f5, ro1, f6⟩ := hr1
  obtain ⟨f75, f76, f77, f78, f79, f80⟩ := hr2
  have f83 : σ 83 = aI E 3 va := hr3
  refine CI_of (by decide) rfl (Nat.le_of_ble_eq_true rfl) ?_
  intro p e s m args below meth c Q ls G hH hl hQ
  obtain ⟨hx, hb, hml, hown, hts, hK, hST, hlocks, hr, hno⟩ := G
  have hOK := hSF.1
  have hown : s.vm.findClass RX6 = some m.cls := hown
  have hl : lv_has ls 6 [(0, .ref (xad E 0)), (1, .ref (zC Z kd)), (2, .ref (xad E 83))] := hl
  have hinX6 : ∀ w ∈ u_ws RX6 TX6 12, w ∈ wsX6_carryOut := fun w h => (List.mem_cons_of_mem _ (List.mem_append_left _ (List.mem_append_left _ (List.mem_append_right _ h))))
  have hv0 := hva 0
  have hv1 := hva 1
  have hv2 := hva 2
  have hmb := mul_b hv1 hv2
  have hi1 := i2cZ_rg (va 0)
  have hi2 := i2cZ_rg (va 2)
  refine lv_aload_n hx hb dX6_carryOut_0 rfl (lv_at hl 2 rfl) ?_
  refine x_iconst hx hb dX6_carryOut_1 ?_
  refine x_iald hx hb hK hH 83 (by decide) f83 (by omega) (by omega) (by omega) dX6_carryOut_2 ?_
  refine lv_istore_n (lv' := [(3, .int (iZ (va 0))), (0, .ref (xad E 0)), (1, .ref (zC Z kd)), (2, .ref (xad E 83))]) hx hb dX6_carryOut_3 rfl hl (by decide) rfl (fun ls hl => ?_)
  refine lv_aload_n hx hb dX6_carryOut_4 rfl (lv_at hl 3 rfl) ?_
  refine x_iconst hx hb dX6_carryOut_5 ?_
  refine x_iald hx hb hK hH 83 (by decide) f83 (by omega) (by omega) (by omega) dX6_carryOut_6 ?_
  refine lv_istore (lv' := [(4, .int (iZ (va 1))), (3, .int (iZ (va 0))), (0, .ref (xad E 0)), (1, .ref (zC Z kd)), (2, .ref (xad E 83))]) hx hb dX6_carryOut_7 hl (by decide) rfl (fun ls hl => ?_)
  refine lv_aload_n hx hb dX6_carryOut_9 rfl (lv_at hl 4 rfl) ?_
  refine x_iconst hx hb dX6_carryOut_10 ?_
  refine x_iald hx hb hK hH 83 (by decide) f83 (by omega) (by omega) (by omega) dX6_carryOut_11 ?_
  refine lv_istore (lv' := [(5, .int (iZ (va 2))), (4, .int (iZ (va 1))), (3, .int (iZ (va 0))), (0, .ref (xad E 0)), (1, .ref (zC Z kd)), (2, .ref (xad E 83))]) hx hb dX6_carryOut_12 hl (by decide) rfl (fun ls hl => ?_)
  refine x_gsm hx hb hSQ hST hH hown hts (List.mem_of_getElem? (i := 1) rfl) dX6_carryOut_14 ?_
  refine lv_aload_n hx hb dX6_carryOut_17 rfl (lv_at hl 4 rfl) ?_
  refine x_cUID (As := []) (rest := [.ref (zM Z)]) hx hb hml hts hown hK hST hOK hH (x_recC hSQ hST hH (i := kd) (by omega) (by omega)) (c_Jx29ce0_ordinal_8abf5 l E ST hSF Z hSQ σ kd  (by omega) (by omega)) (va_cwU 0 hts gX6_carryOut_Jx29ce0_ordinal_8abf5_u351X2 rfl rfl rfl rfl (by decide +kernel) ⟨Nat.le_of_ble_eq_true rfl, Nat.le_of_ble_eq_true rfl⟩) rfl hl.1 rfl (Nat.le_of_ble_eq_true rfl) dX6_carryOut_18 ⟨Nat.le_of_ble_eq_true rfl, Nat.le_of_ble_eq_true rfl⟩ (fun z u h => h) (fun H locs hH => ?_)
  refine x_smald hx hb hSQ hST hH (i := kd) (by omega) (by omega) dX6_carryOut_21 ?_
  have hsm9 := smZ_c (i := kd)
  rcases (show ((smZ kd) = 1) ∨ ((smZ kd) = 2) ∨ ((smZ kd) = 3) ∨ ((smZ kd) = 4) ∨ ((smZ kd) = 5) ∨ ((smZ kd) = 6) ∨ ((smZ kd) = 7) ∨ ((smZ kd) = 8) ∨ ((smZ kd) = 9) ∨ ((smZ kd) = 10) ∨ ((smZ kd) < 1 ∨ 10 < (smZ kd)) by omega) with c22 | c22 | c22 | c22 | c22 | c22 | c22 | c22 | c22 | c22 | c22
  · refine x_tableIn (tgt := 76) hx hb 1 c22 (by omega) dX6_carryOut_22 (by decide) (by decide) rfl (by decide) ?_
    refine lv_aload_n hx hb dX6_carryOut_76 rfl (lv_at hl 3 rfl) ?_
    refine x_get hx hb hts hown hK hH 0 (by decide) f0 hinX6 rfl 0 (by decide) (List.mem_of_getElem? (i := 2) rfl) rfl dX6_carryOut_77 ?_
    refine lv_iload_n hx hb dX6_carryOut_80 rfl (lv_at hl 2 rfl) ?_
    refine lv_iload hx hb dX6_carryOut_81 (lv_at hl 1 rfl) ?_
    refine lv_iload hx hb dX6_carryOut_83 (lv_at hl 0 rfl) ?_
    refine x_cVIE (As := [.int (iZ (va 0)), .int (iZ (va 1)), .int (iZ (va 2))]) (rest := []) hx hb hml hts hown hK hST hOK hH 1 (c_X1_replaceOpenings l E ST hSF σ 1 (va 0) (va 1) (va 2) op lk kp wc pn nw sh wk ⟨f1, f2, f3, f4, f5, _, f6⟩ (by omega) (by omega) (by omega) (by omega) (by omega)) (cwV 3 hts gX6_carryOut_X1_replaceOpenings rfl rfl rfl (by decide +kernel) ⟨Nat.le_of_ble_eq_true rfl, Nat.le_of_ble_eq_true rfl⟩) (by decide) f1 rfl rfl hl.1 rfl (Nat.le_of_ble_eq_true rfl) dX6_carryOut_85 ⟨Nat.le_of_ble_eq_true rfl, Nat.le_of_ble_eq_true rfl⟩ (fun z u h => h) (fun σ5 H locs hp6 hH => ?_)
    obtain ⟨⟨op1_8, lk1_9, kp1_10, wc1_11, pn1_12, nw1_13, sh1_14, wk1_15, ⟨f1, f2, f3, f4, f5, ro16, f6⟩, hf17⟩, fr7⟩ := hp6
    have f0 : σ5 0 = oB 4 [.ref (xad E 1), .ref (xad E 7), .ref (xad E 13), .ref (xad E 19), .int (iZ (b2 hv)), .ref (xad E 73), .ref (xad E 75), .ref (xad E 81), .int (iZ se), .int (iZ sf), .ref (xad E 84), .int (iZ ll)] := (fr7 0 (by omega)).trans f0
    have f75 : σ5 75 = oB 3 [.ref (xad E 76), .ref (xad E 77), .ref (xad E 78), .ref (xad E 79), .ref (xad E 80)] := (fr7 75 (by omega)).trans f75
    have f76 : σ5 76 = aI E 25 le := (fr7 76 (by omega)).trans f76
    have f77 : σ5 77 = aI E 25 rl := (fr7 77 (by omega)).trans f77
    have f78 : σ5 78 = aI E 25 fs := (fr7 78 (by omega)).trans f78
    have f79 : σ5 79 = aI E 25 qu := (fr7 79 (by omega)).trans f79
    have f80 : σ5 80 = aI E 25 gr := (fr7 80 (by omega)).trans f80
    have f83 : σ5 83 = aI E 3 va := (fr7 83 (by omega)).trans f83
    subst hQ
    exact x_iret hx hb hr hlocks hH (Nat.le_of_ble_eq_true rfl) (Nat.le_of_ble_eq_true rfl) ⟨(show ((setF op lk kp wc pn nw sh wk (va 0) (va 1) (va 2)).1) = ((exF op lk kp wc pn nw sh wk kd (va 0) (va 1) (va 2)).1) from (by first | rw [ex_0 (show kd = 0 by omega)] | rw [ex_1 (show kd = 1 by omega)] | rw [ex_2 (show kd = 2 by omega)] | rw [ex_3 (show kd = 3 by omega)] | rw [ex_4 (show kd = 4 by omega)] | rw [ex_5 (show kd = 5 by omega)] | rw [ex_8 (show kd = 8 by omega)] | rw [ex_9 (show kd = 9 by omega)] | rw [ex_10 (show kd = 10 by omega)] | rw [ex_6 (show kd = 6 by omega), lay_i2c (hva 0)] | rw [ex_7 (show kd = 7 by omega), hang_i2c (hva 2)])), ⟨op1_8, lk1_9, kp1_10, wc1_11, pn1_12, nw1_13, sh1_14, wk1_15, le, rl, fs, qu, gr, ⟨f1, f2, f3, f4, f5, _, f6⟩, ⟨f75, f76, f77, f78, f79, f80⟩, (by first | (rw [ex_0 (show kd = 0 by omega)]; assumption) | (rw [ex_1 (show kd = 1 by omega)]; assumption) | (rw [ex_2 (show kd = 2 by omega)]; assumption) | (rw [ex_3 (show kd = 3 by omega)]; assumption) | (rw [ex_4 (show kd = 4 by omega)]; assumption) | (rw [ex_5 (show kd = 5 by omega)]; assumption) | (rw [ex_8 (show kd = 8 by omega)]; assumption) | (rw [ex_9 (show kd = 9 by omega)]; assumption) | (rw [ex_10 (show kd = 10 by omega)]; assumption) | (rw [ex_6 (show kd = 6 by omega), ← lay_i2c (hva 0)]; assumption) | (rw [ex_7 (show kd = 7 by omega), ← hang_i2c (hva 2)]; assumption))⟩, fun j hj0 hj1 => (fr7 j (by omega))⟩ dX6_carryOut_88
  · refine x_tableIn (tgt := 89) hx hb 2 c22 (by omega) dX6_carryOut_22 (by decide) (by decide) rfl (by decide) ?_
    refine lv_aload_n hx hb dX6_carryOut_89 rfl (lv_at hl 3 rfl) ?_
    refine x_get hx hb hts hown hK hH 0 (by decide) f0 hinX6 rfl 0 (by decide) (List.mem_of_getElem? (i := 2) rfl) rfl dX6_carryOut_90 ?_
    refine lv_iload_n hx hb dX6_carryOut_93 rfl (lv_at hl 2 rfl) ?_
    refine lv_iload hx hb dX6_carryOut_94 (lv_at hl 1 rfl) ?_
    refine lv_iload hx hb dX6_carryOut_96 (lv_at hl 0 rfl) ?_
    refine x_cVIE (As := [.int (iZ (va 0)), .int (iZ (va 1)), .int (iZ (va 2))]) (rest := []) hx hb hml hts hown hK hST hOK hH 1 (c_X1_turnOpenings l E ST hSF σ 1 (va 0) (va 1) (va 2) op lk kp wc pn nw sh wk ⟨f1, f2, f3, f4, f5, _, f6⟩ (by omega) (by omega) (by omega) (by omega) (by omega)) (cwV 3 hts gX6_carryOut_X1_turnOpenings rfl rfl rfl (by decide +kernel) ⟨Nat.le_of_ble_eq_true rfl, Nat.le_of_ble_eq_true rfl⟩) (by decide) f1 rfl rfl hl.1 rfl (Nat.le_of_ble_eq_true rfl) dX6_carryOut_98 ⟨Nat.le_of_ble_eq_true rfl, Nat.le_of_ble_eq_true rfl⟩ (fun z u h => h) (fun σ20 H locs hp21 hH => ?_)
    obtain ⟨⟨op1_23, lk1_24, kp1_25, wc1_26, pn1_27, nw1_28, sh1_29, wk1_30, ⟨f1, f2, f3, f4, f5, ro31, f6⟩, hf32⟩, fr22⟩ := hp21
    have f0 : σ20 0 = oB 4 [.ref (xad E 1), .ref (xad E 7), .ref (xad E 13), .ref (xad E 19), .int (iZ (b2 hv)), .ref (xad E 73), .ref (xad E 75), .ref (xad E 81), .int (iZ se), .int (iZ sf), .ref (xad E 84), .int (iZ ll)] := (fr22 0 (by omega)).trans f0
    have f75 : σ20 75 = oB 3 [.ref (xad E 76), .ref (xad E 77), .ref (xad E 78), .ref (xad E 79), .ref (xad E 80)] := (fr22 75 (by omega)).trans f75
    have f76 : σ20 76 = aI E 25 le := (fr22 76 (by omega)).trans f76
    have f77 : σ20 77 = aI E 25 rl := (fr22 77 (by omega)).trans f77
    have f78 : σ20 78 = aI E 25 fs := (fr22 78 (by omega)).trans f78
    have f79 : σ20 79 = aI E 25 qu := (fr22 79 (by omega)).trans f79
    have f80 : σ20 80 = aI E 25 gr := (fr22 80 (by omega)).trans f80
    have f83 : σ20 83 = aI E 3 va := (fr22 83 (by omega)).trans f83
    subst hQ
    exact x_iret hx hb hr hlocks hH (Nat.le_of_ble_eq_true rfl) (Nat.le_of_ble_eq_true rfl) ⟨(show ((turnF op lk kp wc pn nw sh wk (va 0) (va 1) (va 2)).1) = ((exF op lk kp wc pn nw sh wk kd (va 0) (va 1) (va 2)).1) from (by first | rw [ex_0 (show kd = 0 by omega)] | rw [ex_1 (show kd = 1 by omega)] | rw [ex_2 (show kd = 2 by omega)] | rw [ex_3 (show kd = 3 by omega)] | rw [ex_4 (show kd = 4 by omega)] | rw [ex_5 (show kd = 5 by omega)] | rw [ex_8 (show kd = 8 by omega)] | rw [ex_9 (show kd = 9 by omega)] | rw [ex_10 (show kd = 10 by omega)] | rw [ex_6 (show kd = 6 by omega), lay_i2c (hva 0)] | rw [ex_7 (show kd = 7 by omega), hang_i2c (hva 2)])), ⟨op1_23, lk1_24, kp1_25, wc1_26, pn1_27, nw1_28, sh1_29, wk1_30, le, rl, fs, qu, gr, ⟨f1, f2, f3, f4, f5, _, f6⟩, ⟨f75, f76, f77, f78, f79, f80⟩, (by first | (rw [ex_0 (show kd = 0 by omega)]; assumption) | (rw [ex_1 (show kd = 1 by omega)]; assumption) | (rw [ex_2 (show kd = 2 by omega)]; assumption) | (rw [ex_3 (show kd = 3 by omega)]; assumption) | (rw [ex_4 (show kd = 4 by omega)]; assumption) | (rw [ex_5 (show kd = 5 by omega)]; assumption) | (rw [ex_8 (show kd = 8 by omega)]; assumption) | (rw [ex_9 (show kd = 9 by omega)]; assumption) | (rw [ex_10 (show kd = 10 by omega)]; assumption) | (rw [ex_6 (show kd = 6 by omega), ← lay_i2c (hva 0)]; assumption) | (rw [ex_7 (show kd = 7 by omega), ← hang_i2c (hva 2)]; assumption))⟩, fun j hj0 hj1 => (fr22 j (by omega))⟩ dX6_carryOut_101
  · refine x_tableIn (tgt := 102) hx hb 3 c22 (by omega) dX6_carryOut_22 (by decide) (by decide) rfl (by decide) ?_
    refine lv_aload_n hx hb dX6_carryOut_102 rfl (lv_at hl 3 rfl) ?_
    refine x_get hx hb hts hown hK hH 0 (by decide) f0 hinX6 rfl 0 (by decide) (List.mem_of_getElem? (i := 2) rfl) rfl dX6_carryOut_103 ?_
    refine lv_iload_n hx hb dX6_carryOut_106 rfl (lv_at hl 2 rfl) ?_
    refine lv_iload hx hb dX6_carryOut_107 (lv_at hl 1 rfl) ?_
    refine x_cVIE (As := [.int (iZ (va 0)), .int (iZ (va 1))]) (rest := []) hx hb hml hts hown hK hST hOK hH 1 (c_X1_fixTile l E ST hSF σ 1 (va 0) (va 1) op lk kp wc pn nw sh wk ⟨f1, f2, f3, f4, f5, _, f6⟩ (by omega) (by omega) (by omega) (by omega)) (cwV 2 hts gX6_carryOut_X1_fixTile rfl rfl rfl (by decide +kernel) ⟨Nat.le_of_ble_eq_true rfl, Nat.le_of_ble_eq_true rfl⟩) (by decide) f1 rfl rfl hl.1 rfl (Nat.le_of_ble_eq_true rfl) dX6_carryOut_109 ⟨Nat.le_of_ble_eq_true rfl, Nat.le_of_ble_eq_true rfl⟩ (fun z u h => h) (fun σ35 H locs hp36 hH => ?_)
    obtain ⟨⟨op1_38, lk1_39, kp1_40, wc1_41, pn1_42, nw1_43, sh1_44, wk1_45, ⟨f1, f2, f3, f4, f5, ro46, f6⟩, hf47⟩, fr37⟩ := hp36
    have f0 : σ35 0 = oB 4 [.ref (xad E 1), .ref (xad E 7), .ref (xad E 13), .ref (xad E 19), .int (iZ (b2 hv)), .ref (xad E 73), .ref (xad E 75), .ref (xad E 81), .int (iZ se), .int (iZ sf), .ref (xad E 84), .int (iZ ll)] := (fr37 0 (by omega)).trans f0
    have f75 : σ35 75 = oB 3 [.ref (xad E 76), .ref (xad E 77), .ref (xad E 78), .ref (xad E 79), .ref (xad E 80)] := (fr37 75 (by omega)).trans f75
    have f76 : σ35 76 = aI E 25 le := (fr37 76 (by omega)).trans f76
    have f77 : σ35 77 = aI E 25 rl := (fr37 77 (by omega)).trans f77
    have f78 : σ35 78 = aI E 25 fs := (fr37 78 (by omega)).trans f78
    have f79 : σ35 79 = aI E 25 qu := (fr37 79 (by omega)).trans f79
    have f80 : σ35 80 = aI E 25 gr := (fr37 80 (by omega)).trans f80
    have f83 : σ35 83 = aI E 3 va := (fr37 83 (by omega)).trans f83
    subst hQ
    exact x_iret hx hb hr hlocks hH (Nat.le_of_ble_eq_true rfl) (Nat.le_of_ble_eq_true rfl) ⟨(show ((fixF op lk kp wc pn nw sh wk (va 0) (va 1)).1) = ((exF op lk kp wc pn nw sh wk kd (va 0) (va 1) (va 2)).1) from (by first | rw [ex_0 (show kd = 0 by omega)] | rw [ex_1 (show kd = 1 by omega)] | rw [ex_2 (show kd = 2 by omega)] | rw [ex_3 (show kd = 3 by omega)] | rw [ex_4 (show kd = 4 by omega)] | rw [ex_5 (show kd = 5 by omega)] | rw [ex_8 (show kd = 8 by omega)] | rw [ex_9 (show kd = 9 by omega)] | rw [ex_10 (show kd = 10 by omega)] | rw [ex_6 (show kd = 6 by omega), lay_i2c (hva 0)] | rw [ex_7 (show kd = 7 by omega), hang_i2c (hva 2)])), ⟨op1_38, lk1_39, kp1_40, wc1_41, pn1_42, nw1_43, sh1_44, wk1_45, le, rl, fs, qu, gr, ⟨f1, f2, f3, f4, f5, _, f6⟩, ⟨f75, f76, f77, f78, f79, f80⟩, (by first | (rw [ex_0 (show kd = 0 by omega)]; assumption) | (rw [ex_1 (show kd = 1 by omega)]; assumption) | (rw [ex_2 (show kd = 2 by omega)]; assumption) | (rw [ex_3 (show kd = 3 by omega)]; assumption) | (rw [ex_4 (show kd = 4 by omega)]; assumption) | (rw [ex_5 (show kd = 5 by omega)]; assumption) | (rw [ex_8 (show kd = 8 by omega)]; assumption) | (rw [ex_9 (show kd = 9 by omega)]; assumption) | (rw [ex_10 (show kd = 10 by omega)]; assumption) | (rw [ex_6 (show kd = 6 by omega), ← lay_i2c (hva 0)]; assumption) | (rw [ex_7 (show kd = 7 by omega), ← hang_i2c (hva 2)]; assumption))⟩, fun j hj0 hj1 => (fr37 j (by omega))⟩ dX6_carryOut_112
  · refine x_tableIn (tgt := 113) hx hb 4 c22 (by omega) dX6_carryOut_22 (by decide) (by decide) rfl (by decide) ?_
    refine lv_aload_n hx hb dX6_carryOut_113 rfl (lv_at hl 3 rfl) ?_
    refine x_get hx hb hts hown hK hH 0 (by decide) f0 hinX6 rfl 0 (by decide) (List.mem_of_getElem? (i := 2) rfl) rfl dX6_carryOut_114 ?_
    refine lv_iload_n hx hb dX6_carryOut_117 rfl (lv_at hl 2 rfl) ?_
    refine lv_iload hx hb dX6_carryOut_118 (lv_at hl 1 rfl) ?_
    refine x_cVIE (As := [.int (iZ (va 0)), .int (iZ (va 1))]) (rest := []) hx hb hml hts hown hK hST hOK hH 1 (c_X1_freeTile l E ST hSF σ 1 (va 0) (va 1) op lk kp wc pn nw sh wk ⟨f1, f2, f3, f4, f5, _, f6⟩ (by omega) (by omega) (by omega) (by omega)) (cwV 2 hts gX6_carryOut_X1_freeTile rfl rfl rfl (by decide +kernel) ⟨Nat.le_of_ble_eq_true rfl, Nat.le_of_ble_eq_true rfl⟩) (by decide) f1 rfl rfl hl.1 rfl (Nat.le_of_ble_eq_true rfl) dX6_carryOut_120 ⟨Nat.le_of_ble_eq_true rfl, Nat.le_of_ble_eq_true rfl⟩ (fun z u h => h) (fun σ50 H locs hp51 hH => ?_)
    obtain ⟨⟨op1_53, lk1_54, kp1_55, wc1_56, pn1_57, nw1_58, sh1_59, wk1_60, ⟨f1, f2, f3, f4, f5, ro61, f6⟩, hf62⟩, fr52⟩ := hp51
    have f0 : σ50 0 = oB 4 [.ref (xad E 1), .ref (xad E 7), .ref (xad E 13), .ref (xad E 19), .int (iZ (b2 hv)), .ref (xad E 73), .ref (xad E 75), .ref (xad E 81), .int (iZ se), .int (iZ sf), .ref (xad E 84), .int (iZ ll)] := (fr52 0 (by omega)).trans f0
    have f75 : σ50 75 = oB 3 [.ref (xad E 76), .ref (xad E 77), .ref (xad E 78), .ref (xad E 79), .ref (xad E 80)] := (fr52 75 (by omega)).trans f75
    have f76 : σ50 76 = aI E 25 le := (fr52 76 (by omega)).trans f76
    have f77 : σ50 77 = aI E 25 rl := (fr52 77 (by omega)).trans f77
    have f78 : σ50 78 = aI E 25 fs := (fr52 78 (by omega)).trans f78
    have f79 : σ50 79 = aI E 25 qu := (fr52 79 (by omega)).trans f79
    have f80 : σ50 80 = aI E 25 gr := (fr52 80 (by omega)).trans f80
    have f83 : σ50 83 = aI E 3 va := (fr52 83 (by omega)).trans f83
    subst hQ
    exact x_iret hx hb hr hlocks hH (Nat.le_of_ble_eq_true rfl) (Nat.le_of_ble_eq_true rfl) ⟨(show ((freeF op lk kp wc pn nw sh wk (va 0) (va 1)).1) = ((exF op lk kp wc pn nw sh wk kd (va 0) (va 1) (va 2)).1) from (by first | rw [ex_0 (show kd = 0 by omega)] | rw [ex_1 (show kd = 1 by omega)] | rw [ex_2 (show kd = 2 by omega)] | rw [ex_3 (show kd = 3 by omega)] | rw [ex_4 (show kd = 4 by omega)] | rw [ex_5 (show kd = 5 by omega)] | rw [ex_8 (show kd = 8 by omega)] | rw [ex_9 (show kd = 9 by omega)] | rw [ex_10 (show kd = 10 by omega)] | rw [ex_6 (show kd = 6 by omega), lay_i2c (hva 0)] | rw [ex_7 (show kd = 7 by omega), hang_i2c (hva 2)])), ⟨op1_53, lk1_54, kp1_55, wc1_56, pn1_57, nw1_58, sh1_59, wk1_60, le, rl, fs, qu, gr, ⟨f1, f2, f3, f4, f5, _, f6⟩, ⟨f75, f76, f77, f78, f79, f80⟩, (by first | (rw [ex_0 (show kd = 0 by omega)]; assumption) | (rw [ex_1 (show kd = 1 by omega)]; assumption) | (rw [ex_2 (show kd = 2 by omega)]; assumption) | (rw [ex_3 (show kd = 3 by omega)]; assumption) | (rw [ex_4 (show kd = 4 by omega)]; assumption) | (rw [ex_5 (show kd = 5 by omega)]; assumption) | (rw [ex_8 (show kd = 8 by omega)]; assumption) | (rw [ex_9 (show kd = 9 by omega)]; assumption) | (rw [ex_10 (show kd = 10 by omega)]; assumption) | (rw [ex_6 (show kd = 6 by omega), ← lay_i2c (hva 0)]; assumption) | (rw [ex_7 (show kd = 7 by omega), ← hang_i2c (hva 2)]; assumption))⟩, fun j hj0 hj1 => (fr52 j (by omega))⟩ dX6_carryOut_123
  · refine x_tableIn (tgt := 124) hx hb 5 c22 (by omega) dX6_carryOut_22 (by decide) (by decide) rfl (by decide) ?_
    refine lv_aload_n hx hb dX6_carryOut_124 rfl (lv_at hl 3 rfl) ?_
    refine x_get hx hb hts hown hK hH 0 (by decide) f0 hinX6 rfl 0 (by decide) (List.mem_of_getElem? (i := 2) rfl) rfl dX6_carryOut_125 ?_
    refine lv_iload_n hx hb dX6_carryOut_128 rfl (lv_at hl 2 rfl) ?_
    refine lv_iload hx hb dX6_carryOut_129 (lv_at hl 1 rfl) ?_
    refine lv_iload hx hb dX6_carryOut_131 (lv_at hl 0 rfl) ?_
    refine x_imul hx hb dX6_carryOut_133 ?_
    refine x_cVIE (As := [.int (iZ (va 0)), .int (iZ ((va 1) * (va 2)))]) (rest := []) hx hb hml hts hown hK hST hOK hH 1 (c_X1_moveRow l E ST hSF σ 1 (va 0) ((va 1) * (va 2)) op lk kp wc pn nw sh wk ⟨f1, f2, f3, f4, f5, _, f6⟩ (by omega) (by omega) (by omega) (by omega)) (cwV 2 hts gX6_carryOut_X1_moveRow rfl rfl rfl (by decide +kernel) ⟨Nat.le_of_ble_eq_true rfl, Nat.le_of_ble_eq_true rfl⟩) (by decide) f1 rfl rfl hl.1 rfl (Nat.le_of_ble_eq_true rfl) dX6_carryOut_134 ⟨Nat.le_of_ble_eq_true rfl, Nat.le_of_ble_eq_true rfl⟩ (fun z u h => h) (fun σ65 H locs hp66 hH => ?_)
    obtain ⟨⟨op1_68, lk1_69, kp1_70, wc1_71, pn1_72, nw1_73, sh1_74, wk1_75, ⟨f1, f2, f3, f4, f5, ro76, f6⟩, hf77⟩, fr67⟩ := hp66
    have f0 : σ65 0 = oB 4 [.ref (xad E 1), .ref (xad E 7), .ref (xad E 13), .ref (xad E 19), .int (iZ (b2 hv)), .ref (xad E 73), .ref (xad E 75), .ref (xad E 81), .int (iZ se), .int (iZ sf), .ref (xad E 84), .int (iZ ll)] := (fr67 0 (by omega)).trans f0
    have f75 : σ65 75 = oB 3 [.ref (xad E 76), .ref (xad E 77), .ref (xad E 78), .ref (xad E 79), .ref (xad E 80)] := (fr67 75 (by omega)).trans f75
    have f76 : σ65 76 = aI E 25 le := (fr67 76 (by omega)).trans f76
    have f77 : σ65 77 = aI E 25 rl := (fr67 77 (by omega)).trans f77
    have f78 : σ65 78 = aI E 25 fs := (fr67 78 (by omega)).trans f78
    have f79 : σ65 79 = aI E 25 qu := (fr67 79 (by omega)).trans f79
    have f80 : σ65 80 = aI E 25 gr := (fr67 80 (by omega)).trans f80
    have f83 : σ65 83 = aI E 3 va := (fr67 83 (by omega)).trans f83
    subst hQ
    exact x_iret hx hb hr hlocks hH (Nat.le_of_ble_eq_true rfl) (Nat.le_of_ble_eq_true rfl) ⟨(show ((rowF op lk kp wc pn nw sh wk (va 0) ((va 1) * (va 2))).1) = ((exF op lk kp wc pn nw sh wk kd (va 0) (va 1) (va 2)).1) from (by first | rw [ex_0 (show kd = 0 by omega)] | rw [ex_1 (show kd = 1 by omega)] | rw [ex_2 (show kd = 2 by omega)] | rw [ex_3 (show kd = 3 by omega)] | rw [ex_4 (show kd = 4 by omega)] | rw [ex_5 (show kd = 5 by omega)] | rw [ex_8 (show kd = 8 by omega)] | rw [ex_9 (show kd = 9 by omega)] | rw [ex_10 (show kd = 10 by omega)] | rw [ex_6 (show kd = 6 by omega), lay_i2c (hva 0)] | rw [ex_7 (show kd = 7 by omega), hang_i2c (hva 2)])), ⟨op1_68, lk1_69, kp1_70, wc1_71, pn1_72, nw1_73, sh1_74, wk1_75, le, rl, fs, qu, gr, ⟨f1, f2, f3, f4, f5, _, f6⟩, ⟨f75, f76, f77, f78, f79, f80⟩, (by first | (rw [ex_0 (show kd = 0 by omega)]; assumption) | (rw [ex_1 (show kd = 1 by omega)]; assumption) | (rw [ex_2 (show kd = 2 by omega)]; assumption) | (rw [ex_3 (show kd = 3 by omega)]; assumption) | (rw [ex_4 (show kd = 4 by omega)]; assumption) | (rw [ex_5 (show kd = 5 by omega)]; assumption) | (rw [ex_8 (show kd = 8 by omega)]; assumption) | (rw [ex_9 (show kd = 9 by omega)]; assumption) | (rw [ex_10 (show kd = 10 by omega)]; assumption) | (rw [ex_6 (show kd = 6 by omega), ← lay_i2c (hva 0)]; assumption) | (rw [ex_7 (show kd = 7 by omega), ← hang_i2c (hva 2)]; assumption))⟩, fun j hj0 hj1 => (fr67 j (by omega))⟩ dX6_carryOut_137
  · refine x_tableIn (tgt := 138) hx hb 6 c22 (by omega) dX6_carryOut_22 (by decide) (by decide) rfl (by decide) ?_
    refine lv_aload_n hx hb dX6_carryOut_138 rfl (lv_at hl 3 rfl) ?_
    refine x_get hx hb hts hown hK hH 0 (by decide) f0 hinX6 rfl 0 (by decide) (List.mem_of_getElem? (i := 2) rfl) rfl dX6_carryOut_139 ?_
    refine lv_iload_n hx hb dX6_carryOut_142 rfl (lv_at hl 2 rfl) ?_
    refine lv_iload hx hb dX6_carryOut_143 (lv_at hl 1 rfl) ?_
    refine lv_iload hx hb dX6_carryOut_145 (lv_at hl 0 rfl) ?_
    refine x_imul hx hb dX6_carryOut_147 ?_
    refine x_cVIE (As := [.int (iZ (va 0)), .int (iZ ((va 1) * (va 2)))]) (rest := []) hx hb hml hts hown hK hST hOK hH 1 (c_X1_moveColumn l E ST hSF σ 1 (va 0) ((va 1) * (va 2)) op lk kp wc pn nw sh wk ⟨f1, f2, f3, f4, f5, _, f6⟩ (by omega) (by omega) (by omega) (by omega)) (cwV 2 hts gX6_carryOut_X1_moveColumn rfl rfl rfl (by decide +kernel) ⟨Nat.le_of_ble_eq_true rfl, Nat.le_of_ble_eq_true rfl⟩) (by decide) f1 rfl rfl hl.1 rfl (Nat.le_of_ble_eq_true rfl) dX6_carryOut_148 ⟨Nat.le_of_ble_eq_true rfl, Nat.le_of_ble_eq_true rfl⟩ (fun z u h => h) (fun σ80 H locs hp81 hH => ?_)
    obtain ⟨⟨op1_83, lk1_84, kp1_85, wc1_86, pn1_87, nw1_88, sh1_89, wk1_90, ⟨f1, f2, f3, f4, f5, ro91, f6⟩, hf92⟩, fr82⟩ := hp81
    have f0 : σ80 0 = oB 4 [.ref (xad E 1), .ref (xad E 7), .ref (xad E 13), .ref (xad E 19), .int (iZ (b2 hv)), .ref (xad E 73), .ref (xad E 75), .ref (xad E 81), .int (iZ se), .int (iZ sf), .ref (xad E 84), .int (iZ ll)] := (fr82 0 (by omega)).trans f0
    have f75 : σ80 75 = oB 3 [.ref (xad E 76), .ref (xad E 77), .ref (xad E 78), .ref (xad E 79), .ref (xad E 80)] := (fr82 75 (by omega)).trans f75
    have f76 : σ80 76 = aI E 25 le := (fr82 76 (by omega)).trans f76
    have f77 : σ80 77 = aI E 25 rl := (fr82 77 (by omega)).trans f77
    have f78 : σ80 78 = aI E 25 fs := (fr82 78 (by omega)).trans f78
    have f79 : σ80 79 = aI E 25 qu := (fr82 79 (by omega)).trans f79
    have f80 : σ80 80 = aI E 25 gr := (fr82 80 (by omega)).trans f80
    have f83 : σ80 83 = aI E 3 va := (fr82 83 (by omega)).trans f83
    subst hQ
    exact x_iret hx hb hr hlocks hH (Nat.le_of_ble_eq_true rfl) (Nat.le_of_ble_eq_true rfl) ⟨(show ((colF op lk kp wc pn nw sh wk (va 0) ((va 1) * (va 2))).1) = ((exF op lk kp wc pn nw sh wk kd (va 0) (va 1) (va 2)).1) from (by first | rw [ex_0 (show kd = 0 by omega)] | rw [ex_1 (show kd = 1 by omega)] | rw [ex_2 (show kd = 2 by omega)] | rw [ex_3 (show kd = 3 by omega)] | rw [ex_4 (show kd = 4 by omega)] | rw [ex_5 (show kd = 5 by omega)] | rw [ex_8 (show kd = 8 by omega)] | rw [ex_9 (show kd = 9 by omega)] | rw [ex_10 (show kd = 10 by omega)] | rw [ex_6 (show kd = 6 by omega), lay_i2c (hva 0)] | rw [ex_7 (show kd = 7 by omega), hang_i2c (hva 2)])), ⟨op1_83, lk1_84, kp1_85, wc1_86, pn1_87, nw1_88, sh1_89, wk1_90, le, rl, fs, qu, gr, ⟨f1, f2, f3, f4, f5, _, f6⟩, ⟨f75, f76, f77, f78, f79, f80⟩, (by first | (rw [ex_0 (show kd = 0 by omega)]; assumption) | (rw [ex_1 (show kd = 1 by omega)]; assumption) | (rw [ex_2 (show kd = 2 by omega)]; assumption) | (rw [ex_3 (show kd = 3 by omega)]; assumption) | (rw [ex_4 (show kd = 4 by omega)]; assumption) | (rw [ex_5 (show kd = 5 by omega)]; assumption) | (rw [ex_8 (show kd = 8 by omega)]; assumption) | (rw [ex_9 (show kd = 9 by omega)]; assumption) | (rw [ex_10 (show kd = 10 by omega)]; assumption) | (rw [ex_6 (show kd = 6 by omega), ← lay_i2c (hva 0)]; assumption) | (rw [ex_7 (show kd = 7 by omega), ← hang_i2c (hva 2)]; assumption))⟩, fun j hj0 hj1 => (fr82 j (by omega))⟩ dX6_carryOut_151
  · refine x_tableIn (tgt := 152) hx hb 7 c22 (by omega) dX6_carryOut_22 (by decide) (by decide) rfl (by decide) ?_
    refine lv_aload_n hx hb dX6_carryOut_152 rfl (lv_at hl 3 rfl) ?_
    refine x_get hx hb hts hown hK hH 0 (by decide) f0 hinX6 rfl 0 (by decide) (List.mem_of_getElem? (i := 2) rfl) rfl dX6_carryOut_153 ?_
    refine lv_iload_n hx hb dX6_carryOut_156 rfl (lv_at hl 2 rfl) ?_
    refine x_i2c hx hb dX6_carryOut_157 ?_
    refine lv_iload hx hb dX6_carryOut_158 (lv_at hl 1 rfl) ?_
    refine lv_iload hx hb dX6_carryOut_160 (lv_at hl 0 rfl) ?_
    refine x_cVIE (As := [.int (iZ (i2cZ (va 0))), .int (iZ (va 1)), .int (iZ (va 2))]) (rest := []) hx hb hml hts hown hK hST hOK hH 1 (c_X1_layKey l E ST hSF σ 1 (i2cZ (va 0)) (va 1) (va 2) op lk kp wc pn nw sh wk ⟨f1, f2, f3, f4, f5, _, f6⟩ (by omega) (by omega) (by omega) (by omega) (by omega)) (cwV 3 hts gX6_carryOut_X1_layKey rfl rfl rfl (by decide +kernel) ⟨Nat.le_of_ble_eq_true rfl, Nat.le_of_ble_eq_true rfl⟩) (by decide) f1 rfl rfl hl.1 rfl (Nat.le_of_ble_eq_true rfl) dX6_carryOut_162 ⟨Nat.le_of_ble_eq_true rfl, Nat.le_of_ble_eq_true rfl⟩ (fun z u h => h) (fun σ95 H locs hp96 hH => ?_)
    obtain ⟨⟨op1_98, lk1_99, kp1_100, wc1_101, pn1_102, nw1_103, sh1_104, wk1_105, ⟨f1, f2, f3, f4, f5, ro106, f6⟩, hf107⟩, fr97⟩ := hp96
    have f0 : σ95 0 = oB 4 [.ref (xad E 1), .ref (xad E 7), .ref (xad E 13), .ref (xad E 19), .int (iZ (b2 hv)), .ref (xad E 73), .ref (xad E 75), .ref (xad E 81), .int (iZ se), .int (iZ sf), .ref (xad E 84), .int (iZ ll)] := (fr97 0 (by omega)).trans f0
    have f75 : σ95 75 = oB 3 [.ref (xad E 76), .ref (xad E 77), .ref (xad E 78), .ref (xad E 79), .ref (xad E 80)] := (fr97 75 (by omega)).trans f75
    have f76 : σ95 76 = aI E 25 le := (fr97 76 (by omega)).trans f76
    have f77 : σ95 77 = aI E 25 rl := (fr97 77 (by omega)).trans f77
    have f78 : σ95 78 = aI E 25 fs := (fr97 78 (by omega)).trans f78
    have f79 : σ95 79 = aI E 25 qu := (fr97 79 (by omega)).trans f79
    have f80 : σ95 80 = aI E 25 gr := (fr97 80 (by omega)).trans f80
    have f83 : σ95 83 = aI E 3 va := (fr97 83 (by omega)).trans f83
    subst hQ
    exact x_iret hx hb hr hlocks hH (Nat.le_of_ble_eq_true rfl) (Nat.le_of_ble_eq_true rfl) ⟨(show ((layF op lk kp wc pn nw sh wk (i2cZ (va 0)) (va 1) (va 2)).1) = ((exF op lk kp wc pn nw sh wk kd (va 0) (va 1) (va 2)).1) from (by first | rw [ex_0 (show kd = 0 by omega)] | rw [ex_1 (show kd = 1 by omega)] | rw [ex_2 (show kd = 2 by omega)] | rw [ex_3 (show kd = 3 by omega)] | rw [ex_4 (show kd = 4 by omega)] | rw [ex_5 (show kd = 5 by omega)] | rw [ex_8 (show kd = 8 by omega)] | rw [ex_9 (show kd = 9 by omega)] | rw [ex_10 (show kd = 10 by omega)] | rw [ex_6 (show kd = 6 by omega), lay_i2c (hva 0)] | rw [ex_7 (show kd = 7 by omega), hang_i2c (hva 2)])), ⟨op1_98, lk1_99, kp1_100, wc1_101, pn1_102, nw1_103, sh1_104, wk1_105, le, rl, fs, qu, gr, ⟨f1, f2, f3, f4, f5, _, f6⟩, ⟨f75, f76, f77, f78, f79, f80⟩, (by first | (rw [ex_0 (show kd = 0 by omega)]; assumption) | (rw [ex_1 (show kd = 1 by omega)]; assumption) | (rw [ex_2 (show kd = 2 by omega)]; assumption) | (rw [ex_3 (show kd = 3 by omega)]; assumption) | (rw [ex_4 (show kd = 4 by omega)]; assumption) | (rw [ex_5 (show kd = 5 by omega)]; assumption) | (rw [ex_8 (show kd = 8 by omega)]; assumption) | (rw [ex_9 (show kd = 9 by omega)]; assumption) | (rw [ex_10 (show kd = 10 by omega)]; assumption) | (rw [ex_6 (show kd = 6 by omega), ← lay_i2c (hva 0)]; assumption) | (rw [ex_7 (show kd = 7 by omega), ← hang_i2c (hva 2)]; assumption))⟩, fun j hj0 hj1 => (fr97 j (by omega))⟩ dX6_carryOut_165
  · refine x_tableIn (tgt := 166) hx hb 8 c22 (by omega) dX6_carryOut_22 (by decide) (by decide) rfl (by decide) ?_
    refine lv_aload_n hx hb dX6_carryOut_166 rfl (lv_at hl 3 rfl) ?_
    refine x_get hx hb hts hown hK hH 0 (by decide) f0 hinX6 rfl 0 (by decide) (List.mem_of_getElem? (i := 2) rfl) rfl dX6_carryOut_167 ?_
    refine lv_iload_n hx hb dX6_carryOut_170 rfl (lv_at hl 2 rfl) ?_
    refine lv_iload hx hb dX6_carryOut_171 (lv_at hl 1 rfl) ?_
    refine lv_iload hx hb dX6_carryOut_173 (lv_at hl 0 rfl) ?_
    refine x_i2c hx hb dX6_carryOut_175 ?_
    refine x_cVIE (As := [.int (iZ (va 0)), .int (iZ (va 1)), .int (iZ (i2cZ (va 2)))]) (rest := []) hx hb hml hts hown hK hST hOK hH 1 (c_X1_hangLock l E ST hSF σ 1 (va 0) (va 1) (i2cZ (va 2)) op lk kp wc pn nw sh wk ⟨f1, f2, f3, f4, f5, _, f6⟩ (by omega) (by omega) (by omega) (by omega) (by omega)) (cwV 3 hts gX6_carryOut_X1_hangLock rfl rfl rfl (by decide +kernel) ⟨Nat.le_of_ble_eq_true rfl, Nat.le_of_ble_eq_true rfl⟩) (by decide) f1 rfl rfl hl.1 rfl (Nat.le_of_ble_eq_true rfl) dX6_carryOut_176 ⟨Nat.le_of_ble_eq_true rfl, Nat.le_of_ble_eq_true rfl⟩ (fun z u h => h) (fun σ110 H locs hp111 hH => ?_)
    obtain ⟨⟨op1_113, lk1_114, kp1_115, wc1_116, pn1_117, nw1_118, sh1_119, wk1_120, ⟨f1, f2, f3, f4, f5, ro121, f6⟩, hf122⟩, fr112⟩ := hp111
    have f0 : σ110 0 = oB 4 [.ref (xad E 1), .ref (xad E 7), .ref (xad E 13), .ref (xad E 19), .int (iZ (b2 hv)), .ref (xad E 73), .ref (xad E 75), .ref (xad E 81), .int (iZ se), .int (iZ sf), .ref (xad E 84), .int (iZ ll)] := (fr112 0 (by omega)).trans f0
    have f75 : σ110 75 = oB 3 [.ref (xad E 76), .ref (xad E 77), .ref (xad E 78), .ref (xad E 79), .ref (xad E 80)] := (fr112 75 (by omega)).trans f75
    have f76 : σ110 76 = aI E 25 le := (fr112 76 (by omega)).trans f76
    have f77 : σ110 77 = aI E 25 rl := (fr112 77 (by omega)).trans f77
    have f78 : σ110 78 = aI E 25 fs := (fr112 78 (by omega)).trans f78
    have f79 : σ110 79 = aI E 25 qu := (fr112 79 (by omega)).trans f79
    have f80 : σ110 80 = aI E 25 gr := (fr112 80 (by omega)).trans f80
    have f83 : σ110 83 = aI E 3 va := (fr112 83 (by omega)).trans f83
    subst hQ
    exact x_iret hx hb hr hlocks hH (Nat.le_of_ble_eq_true rfl) (Nat.le_of_ble_eq_true rfl) ⟨(show ((hangF op lk kp wc pn nw sh wk (va 0) (va 1) (i2cZ (va 2))).1) = ((exF op lk kp wc pn nw sh wk kd (va 0) (va 1) (va 2)).1) from (by first | rw [ex_0 (show kd = 0 by omega)] | rw [ex_1 (show kd = 1 by omega)] | rw [ex_2 (show kd = 2 by omega)] | rw [ex_3 (show kd = 3 by omega)] | rw [ex_4 (show kd = 4 by omega)] | rw [ex_5 (show kd = 5 by omega)] | rw [ex_8 (show kd = 8 by omega)] | rw [ex_9 (show kd = 9 by omega)] | rw [ex_10 (show kd = 10 by omega)] | rw [ex_6 (show kd = 6 by omega), lay_i2c (hva 0)] | rw [ex_7 (show kd = 7 by omega), hang_i2c (hva 2)])), ⟨op1_113, lk1_114, kp1_115, wc1_116, pn1_117, nw1_118, sh1_119, wk1_120, le, rl, fs, qu, gr, ⟨f1, f2, f3, f4, f5, _, f6⟩, ⟨f75, f76, f77, f78, f79, f80⟩, (by first | (rw [ex_0 (show kd = 0 by omega)]; assumption) | (rw [ex_1 (show kd = 1 by omega)]; assumption) | (rw [ex_2 (show kd = 2 by omega)]; assumption) | (rw [ex_3 (show kd = 3 by omega)]; assumption) | (rw [ex_4 (show kd = 4 by omega)]; assumption) | (rw [ex_5 (show kd = 5 by omega)]; assumption) | (rw [ex_8 (show kd = 8 by omega)]; assumption) | (rw [ex_9 (show kd = 9 by omega)]; assumption) | (rw [ex_10 (show kd = 10 by omega)]; assumption) | (rw [ex_6 (show kd = 6 by omega), ← lay_i2c (hva 0)]; assumption) | (rw [ex_7 (show kd = 7 by omega), ← hang_i2c (hva 2)]; assumption))⟩, fun j hj0 hj1 => (fr112 j (by omega))⟩ dX6_carryOut_179
  · refine x_tableIn (tgt := 180) hx hb 9 c22 (by omega) dX6_carryOut_22 (by decide) (by decide) rfl (by decide) ?_
    refine lv_aload_n hx hb dX6_carryOut_180 rfl (lv_at hl 3 rfl) ?_
    refine x_get hx hb hts hown hK hH 0 (by decide) f0 hinX6 rfl 0 (by decide) (List.mem_of_getElem? (i := 2) rfl) rfl dX6_carryOut_181 ?_
    refine lv_iload_n hx hb dX6_carryOut_184 rfl (lv_at hl 2 rfl) ?_
    refine lv_iload hx hb dX6_carryOut_185 (lv_at hl 1 rfl) ?_
    refine x_cVIE (As := [.int (iZ (va 0)), .int (iZ (va 1))]) (rest := []) hx hb hml hts hown hK hST hOK hH 1 (c_X1_takeLock l E ST hSF σ 1 (va 0) (va 1) op lk kp wc pn nw sh wk ⟨f1, f2, f3, f4, f5, _, f6⟩ (by omega) (by omega) (by omega) (by omega)) (cwV 2 hts gX6_carryOut_X1_takeLock rfl rfl rfl (by decide +kernel) ⟨Nat.le_of_ble_eq_true rfl, Nat.le_of_ble_eq_true rfl⟩) (by decide) f1 rfl rfl hl.1 rfl (Nat.le_of_ble_eq_true rfl) dX6_carryOut_187 ⟨Nat.le_of_ble_eq_true rfl, Nat.le_of_ble_eq_true rfl⟩ (fun z u h => h) (fun σ125 H locs hp126 hH => ?_)
    obtain ⟨⟨op1_128, lk1_129, kp1_130, wc1_131, pn1_132, nw1_133, sh1_134, wk1_135, ⟨f1, f2, f3, f4, f5, ro136, f6⟩, hf137⟩, fr127⟩ := hp126
    have f0 : σ125 0 = oB 4 [.ref (xad E 1), .ref (xad E 7), .ref (xad E 13), .ref (xad E 19), .int (iZ (b2 hv)), .ref (xad E 73), .ref (xad E 75), .ref (xad E 81), .int (iZ se), .int (iZ sf), .ref (xad E 84), .int (iZ ll)] := (fr127 0 (by omega)).trans f0
    have f75 : σ125 75 = oB 3 [.ref (xad E 76), .ref (xad E 77), .ref (xad E 78), .ref (xad E 79), .ref (xad E 80)] := (fr127 75 (by omega)).trans f75
    have f76 : σ125 76 = aI E 25 le := (fr127 76 (by omega)).trans f76
    have f77 : σ125 77 = aI E 25 rl := (fr127 77 (by omega)).trans f77
    have f78 : σ125 78 = aI E 25 fs := (fr127 78 (by omega)).trans f78
    have f79 : σ125 79 = aI E 25 qu := (fr127 79 (by omega)).trans f79
    have f80 : σ125 80 = aI E 25 gr := (fr127 80 (by omega)).trans f80
    have f83 : σ125 83 = aI E 3 va := (fr127 83 (by omega)).trans f83
    subst hQ
    exact x_iret hx hb hr hlocks hH (Nat.le_of_ble_eq_true rfl) (Nat.le_of_ble_eq_true rfl) ⟨(show ((takeF op lk kp wc pn nw sh wk (va 0) (va 1)).1) = ((exF op lk kp wc pn nw sh wk kd (va 0) (va 1) (va 2)).1) from (by first | rw [ex_0 (show kd = 0 by omega)] | rw [ex_1 (show kd = 1 by omega)] | rw [ex_2 (show kd = 2 by omega)] | rw [ex_3 (show kd = 3 by omega)] | rw [ex_4 (show kd = 4 by omega)] | rw [ex_5 (show kd = 5 by omega)] | rw [ex_8 (show kd = 8 by omega)] | rw [ex_9 (show kd = 9 by omega)] | rw [ex_10 (show kd = 10 by omega)] | rw [ex_6 (show kd = 6 by omega), lay_i2c (hva 0)] | rw [ex_7 (show kd = 7 by omega), hang_i2c (hva 2)])), ⟨op1_128, lk1_129, kp1_130, wc1_131, pn1_132, nw1_133, sh1_134, wk1_135, le, rl, fs, qu, gr, ⟨f1, f2, f3, f4, f5, _, f6⟩, ⟨f75, f76, f77, f78, f79, f80⟩, (by first | (rw [ex_0 (show kd = 0 by omega)]; assumption) | (rw [ex_1 (show kd = 1 by omega)]; assumption) | (rw [ex_2 (show kd = 2 by omega)]; assumption) | (rw [ex_3 (show kd = 3 by omega)]; assumption) | (rw [ex_4 (show kd = 4 by omega)]; assumption) | (rw [ex_5 (show kd = 5 by omega)]; assumption) | (rw [ex_8 (show kd = 8 by omega)]; assumption) | (rw [ex_9 (show kd = 9 by omega)]; assumption) | (rw [ex_10 (show kd = 10 by omega)]; assumption) | (rw [ex_6 (show kd = 6 by omega), ← lay_i2c (hva 0)]; assumption) | (rw [ex_7 (show kd = 7 by omega), ← hang_i2c (hva 2)]; assumption))⟩, fun j hj0 hj1 => (fr127 j (by omega))⟩ dX6_carryOut_190
  · refine x_tableIn (tgt := 191) hx hb 10 c22 (by omega) dX6_carryOut_22 (by decide) (by decide) rfl (by decide) ?_
    refine lv_aload_n hx hb dX6_carryOut_191 rfl (lv_at hl 3 rfl) ?_
    refine x_get hx hb hts hown hK hH 0 (by decide) f0 hinX6 rfl 0 (by decide) (List.mem_of_getElem? (i := 2) rfl) rfl dX6_carryOut_192 ?_
    refine lv_iload_n hx hb dX6_carryOut_195 rfl (lv_at hl 2 rfl) ?_
    refine lv_iload hx hb dX6_carryOut_196 (lv_at hl 1 rfl) ?_
    refine x_cVIE (As := [.int (iZ (va 0)), .int (iZ (va 1))]) (rest := []) hx hb hml hts hown hK hST hOK hH 1 (c_X1_enterWalker l E ST hSF σ 1 (va 0) (va 1) op lk kp wc pn nw sh wk ⟨f1, f2, f3, f4, f5, _, f6⟩ (by omega) (by omega) (by omega) (by omega)) (cwV 2 hts gX6_carryOut_X1_enterWalker rfl rfl rfl (by decide +kernel) ⟨Nat.le_of_ble_eq_true rfl, Nat.le_of_ble_eq_true rfl⟩) (by decide) f1 rfl rfl hl.1 rfl (Nat.le_of_ble_eq_true rfl) dX6_carryOut_198 ⟨Nat.le_of_ble_eq_true rfl, Nat.le_of_ble_eq_true rfl⟩ (fun z u h => h) (fun σ140 H locs hp141 hH => ?_)
    obtain ⟨⟨op1_143, lk1_144, kp1_145, wc1_146, pn1_147, nw1_148, sh1_149, wk1_150, ⟨f1, f2, f3, f4, f5, ro151, f6⟩, hf152⟩, fr142⟩ := hp141
    have f0 : σ140 0 = oB 4 [.ref (xad E 1), .ref (xad E 7), .ref (xad E 13), .ref (xad E 19), .int (iZ (b2 hv)), .ref (xad E 73), .ref (xad E 75), .ref (xad E 81), .int (iZ se), .int (iZ sf), .ref (xad E 84), .int (iZ ll)] := (fr142 0 (by omega)).trans f0
    have f75 : σ140 75 = oB 3 [.ref (xad E 76), .ref (xad E 77), .ref (xad E 78), .ref (xad E 79), .ref (xad E 80)] := (fr142 75 (by omega)).trans f75
    have f76 : σ140 76 = aI E 25 le := (fr142 76 (by omega)).trans f76
    have f77 : σ140 77 = aI E 25 rl := (fr142 77 (by omega)).trans f77
    have f78 : σ140 78 = aI E 25 fs := (fr142 78 (by omega)).trans f78
    have f79 : σ140 79 = aI E 25 qu := (fr142 79 (by omega)).trans f79
    have f80 : σ140 80 = aI E 25 gr := (fr142 80 (by omega)).trans f80
    have f83 : σ140 83 = aI E 3 va := (fr142 83 (by omega)).trans f83
    subst hQ
    exact x_iret hx hb hr hlocks hH (Nat.le_of_ble_eq_true rfl) (Nat.le_of_ble_eq_true rfl) ⟨(show ((enterF op lk kp wc pn nw sh wk (va 0) (va 1)).1) = ((exF op lk kp wc pn nw sh wk kd (va 0) (va 1) (va 2)).1) from (by first | rw [ex_0 (show kd = 0 by omega)] | rw [ex_1 (show kd = 1 by omega)] | rw [ex_2 (show kd = 2 by omega)] | rw [ex_3 (show kd = 3 by omega)] | rw [ex_4 (show kd = 4 by omega)] | rw [ex_5 (show kd = 5 by omega)] | rw [ex_8 (show kd = 8 by omega)] | rw [ex_9 (show kd = 9 by omega)] | rw [ex_10 (show kd = 10 by omega)] | rw [ex_6 (show kd = 6 by omega), lay_i2c (hva 0)] | rw [ex_7 (show kd = 7 by omega), hang_i2c (hva 2)])), ⟨op1_143, lk1_144, kp1_145, wc1_146, pn1_147, nw1_148, sh1_149, wk1_150, le, rl, fs, qu, gr, ⟨f1, f2, f3, f4, f5, _, f6⟩, ⟨f75, f76, f77, f78, f79, f80⟩, (by first | (rw [ex_0 (show kd = 0 by omega)]; assumption) | (rw [ex_1 (show kd = 1 by omega)]; assumption) | (rw [ex_2 (show kd = 2 by omega)]; assumption) | (rw [ex_3 (show kd = 3 by omega)]; assumption) | (rw [ex_4 (show kd = 4 by omega)]; assumption) | (rw [ex_5 (show kd = 5 by omega)]; assumption) | (rw [ex_8 (show kd = 8 by omega)]; assumption) | (rw [ex_9 (show kd = 9 by omega)]; assumption) | (rw [ex_10 (show kd = 10 by omega)]; assumption) | (rw [ex_6 (show kd = 6 by omega), ← lay_i2c (hva 0)]; assumption) | (rw [ex_7 (show kd = 7 by omega), ← hang_i2c (hva 2)]; assumption))⟩, fun j hj0 hj1 => (fr142 j (by omega))⟩ dX6_carryOut_201
  · refine x_tableOut (tgt := 202) hx hb (by omega) dX6_carryOut_22 c22 (by decide) ?_
    refine lv_aload_n hx hb dX6_carryOut_202 rfl (lv_at hl 3 rfl) ?_
    refine x_get hx hb hts hown hK hH 0 (by decide) f0 hinX6 rfl 0 (by decide) (List.mem_of_getElem? (i := 2) rfl) rfl dX6_carryOut_203 ?_
    refine lv_aload_n hx hb dX6_carryOut_206 rfl (lv_at hl 3 rfl) ?_
    refine x_get hx hb hts hown hK hH 0 (by decide) f0 hinX6 rfl 6 (by decide) (List.mem_of_getElem? (i := 3) rfl) rfl dX6_carryOut_207 ?_
    refine lv_iload_n hx hb dX6_carryOut_210 rfl (lv_at hl 2 rfl) ?_
    refine lv_iload hx hb dX6_carryOut_211 (lv_at hl 1 rfl) ?_
    refine lv_iload hx hb dX6_carryOut_213 (lv_at hl 0 rfl) ?_
    refine x_cVIE (As := [.ref (xad E 75), .int (iZ (va 0)), .int (iZ (va 1)), .int (iZ (va 2))]) (rest := []) hx hb hml hts hown hK hST hOK hH 1 (c_X1_moveWalker l E ST hSF σ 1 (va 0) (va 1) (va 2) op lk kp wc pn nw sh wk le rl fs qu gr ⟨f1, f2, f3, f4, f5, _, f6⟩ ⟨f75, f76, f77, f78, f79, f80⟩ (by omega) (by omega) (by omega) (by omega) (by omega)) (cwV 4 hts gX6_carryOut_X1_moveWalker rfl rfl rfl (by decide +kernel) ⟨Nat.le_of_ble_eq_true rfl, Nat.le_of_ble_eq_true rfl⟩) (by decide) f1 rfl rfl hl.1 rfl (Nat.le_of_ble_eq_true rfl) dX6_carryOut_215 ⟨Nat.le_of_ble_eq_true rfl, Nat.le_of_ble_eq_true rfl⟩ (fun z u h => h) (fun σ155 H locs hp156 hH => ?_)
    obtain ⟨⟨op1_158, lk1_159, kp1_160, wc1_161, pn1_162, nw1_163, sh1_164, wk1_165, le1_166, fs1_167, qu1_168, ⟨f1, f2, f3, f4, f5, ro169, f6⟩, ⟨f75, f76, f77, f78, f79, f80⟩, hf170⟩, fr157⟩ := hp156
    have f0 : σ155 0 = oB 4 [.ref (xad E 1), .ref (xad E 7), .ref (xad E 13), .ref (xad E 19), .int (iZ (b2 hv)), .ref (xad E 73), .ref (xad E 75), .ref (xad E 81), .int (iZ se), .int (iZ sf), .ref (xad E 84), .int (iZ ll)] := (fr157 0 (by omega) (by omega) (by omega) (by omega)).trans f0
    have f83 : σ155 83 = aI E 3 va := (fr157 83 (by omega) (by omega) (by omega) (by omega)).trans f83
    subst hQ
    exact x_iret hx hb hr hlocks hH (Nat.le_of_ble_eq_true rfl) (Nat.le_of_ble_eq_true rfl) ⟨(show ((walkF op lk kp wc pn nw sh wk (va 0) (va 1) (va 2)).1) = ((exF op lk kp wc pn nw sh wk kd (va 0) (va 1) (va 2)).1) from (by first | rw [ex_0 (show kd = 0 by omega)] | rw [ex_1 (show kd = 1 by omega)] | rw [ex_2 (show kd = 2 by omega)] | rw [ex_3 (show kd = 3 by omega)] | rw [ex_4 (show kd = 4 by omega)] | rw [ex_5 (show kd = 5 by omega)] | rw [ex_8 (show kd = 8 by omega)] | rw [ex_9 (show kd = 9 by omega)] | rw [ex_10 (show kd = 10 by omega)] | rw [ex_6 (show kd = 6 by omega), lay_i2c (hva 0)] | rw [ex_7 (show kd = 7 by omega), hang_i2c (hva 2)])), ⟨op1_158, lk1_159, kp1_160, wc1_161, pn1_162, nw1_163, sh1_164, wk1_165, le1_166, rl, fs1_167, qu1_168, gr, ⟨f1, f2, f3, f4, f5, _, f6⟩, ⟨f75, f76, f77, f78, f79, f80⟩, (by first | (rw [ex_0 (show kd = 0 by omega)]; assumption) | (rw [ex_1 (show kd = 1 by omega)]; assumption) | (rw [ex_2 (show kd = 2 by omega)]; assumption) | (rw [ex_3 (show kd = 3 by omega)]; assumption) | (rw [ex_4 (show kd = 4 by omega)]; assumption) | (rw [ex_5 (show kd = 5 by omega)]; assumption) | (rw [ex_8 (show kd = 8 by omega)]; assumption) | (rw [ex_9 (show kd = 9 by omega)]; assumption) | (rw [ex_10 (show kd = 10 by omega)]; assumption) | (rw [ex_6 (show kd = 6 by omega), ← lay_i2c (hva 0)]; assumption) | (rw [ex_7 (show kd = 7 by omega), ← hang_i2c (hva 2)]; assumption))⟩, fun j hj0 hj1 => (fr157 j (by omega) (by omega) (by omega) (by omega))⟩ dX6_carryOut_218

def rm_X6_findFailure : Room := { frames := 6, cells := 0, slots := 0, locals := 143 }
set_option maxRecDepth 100000 in
set_option maxHeartbeats 4000000 in
theorem c_X6_findFailure (l : Launch) (E : xE) (ST : xST) (hSF : SF ST) (Z : zE) (hSQ : SQ Z ST) (σ : xW) (hv : Bool) (se : Int) (sf : Int) (ll : Int) (op : Int → Int) (lk : Int → Int) (kp : Int → Int) (wc : Int → Int) (pn : Int) (nw : Int) (sh : Int) (wk : Int) (le : Int → Int) (rl : Int → Int) (fs : Int → Int) (qu : Int → Int) (gr : Int → Int) (tx : Int → Int) (ln : Int) (cs : Int) (cm : Value) (va : Int → Int) (hr0 : mn E σ hv se sf ll) (hr1 : bd E σ 1 op lk kp wc pn nw sh wk) (hr2 : sr E σ le rl fs qu gr) (hr3 : pg E σ tx ln cs cm va) (hB : BI op lk kp wc pn nw) (hln : 0 ≤ ln ∧ ln ≤ 60) (htx : ∀ j, 0 ≤ tx j ∧ tx j ≤ 65535) (hva : ∀ j : Int, -1 ≤ va j ∧ va j ≤ 102) (hfe : feP tx ln (-1) cs) : CI l E ST yX6_findFailure wsX6_findFailure rm_X6_findFailure [.ref (xad E 0)] σ (fun (z : Int) (u : xW) => (-1 ≤ z ∧ z < cs) ∧ (∃ (op1 lk1 kp1 wc1 : Int → Int) (pn1 nw1 sh1 wk1 : Int) (le1 rl1 fs1 qu1 gr1 va1 : Int → Int) (cm1 : Value), bd E u 1 op1 lk1 kp1 wc1 pn1 nw1 sh1 wk1 ∧ sr E u le1 rl1 fs1 qu1 gr1 ∧ pg E u tx ln cs cm1 va1 ∧ (ffP tx ln (op, lk, kp, wc, pn, nw, sh, wk) cs z) ∧ (z = -1 → (op1, lk1, kp1, wc1, pn1, nw1, sh1, wk1) = exB tx ln (op, lk, kp, wc, pn, nw, sh, wk) cs) ∧ (∀ j : Int, -1 ≤ va1 j ∧ va1 j ≤ 102)) ∧ ∀ j : Nat, (j < 1 ∨ 1 + 6 ≤ j) → (j < 75 ∨ 75 + 6 ≤ j) → j ≠ 81 → j ≠ 83 → u j = σ j) := by
  have f0 : σ 0 = oB 4 [.ref (xad E 1), .ref (xad E 7), .ref (xad E 13), .ref (xad E 19), .int (iZ (b2 hv)), .ref (xad E 73), .ref (xad E 75), .ref (xad E 81), .int (iZ se), .int (iZ sf), .ref (xad E 84), .int (iZ ll)] := hr0
  obtain ⟨f1, f2, f3, f4, f5, ro1, f6⟩ := hr1
  obtain ⟨f75, f76, f77, f78, f79, f80⟩ := hr2
  obtain ⟨f81, f82, f83⟩ := hr3
  refine CI_of (by decide) rfl (Nat.le_of_ble_eq_true rfl) ?_
  intro p e s m args below meth c Q ls G hH hl hQ
  obtain ⟨hx, hb, hml, hown, hts, hK, hST, hlocks, hr, hno⟩ := G
  have hOK := hSF.1
  have hown : s.vm.findClass RX6 = some m.cls := hown
  have hl : lv_has ls 4 [(0, .ref (xad E 0))] := hl
  have hinX4 : ∀ w ∈ u_ws RX4 TX4 5, w ∈ wsX6_findFailure := fun w h => (List.mem_cons_of_mem _ (List.mem_append_left _ (List.mem_append_left _ (List.mem_append_right _ h))))
  have hinX6 : ∀ w ∈ u_ws RX6 TX6 12, w ∈ wsX6_findFailure := fun w h => (List.mem_cons_of_mem _ (List.mem_append_left _ (List.mem_append_left _ (List.mem_append_left _ (List.mem_append_right _ h)))))
  have hcs := feP_c hln hfe
  have hBT : BIT (op, lk, kp, wc, pn, nw, sh, wk) := hB
  refine x_iconst hx hb dX6_findFailure_0 ?_
  refine lv_istore_n (lv' := [(1, .int (iZ 0)), (0, .ref (xad E 0))]) hx hb dX6_findFailure_1 rfl hl (by decide) rfl (fun ls hl => ?_)
  refine x_iconst hx hb dX6_findFailure_2 ?_
  refine lv_istore_n (lv' := [(2, .int (iZ 0)), (1, .int (iZ 0)), (0, .ref (xad E 0))]) hx hb dX6_findFailure_3 rfl hl (by decide) rfl (fun ls hl => ?_)
  have K4 : ∀ (nK : Nat) (a i : Int) (op2 lk2 kp2 wc2 ro2 : Int → Int) (pn2 nw2 sh2 wk2 : Int) (va2 : Int → Int) (cm2 : Value) (le2 rl2 fs2 qu2 gr2 : Int → Int) (σ1 : xW) (H : Heap) (locs : List Loc) (ls : Array Slot), (cs - i).toNat < nK → ((0 ≤ i ∧ i ≤ cs) ∧ a = atZ tx ln i) → ((op2, lk2, kp2, wc2, pn2, nw2, sh2, wk2) = exB tx ln (op, lk, kp, wc, pn, nw, sh, wk) i) → (∀ j : Int, 0 ≤ j → j < i → okP tx ln (op, lk, kp, wc, pn, nw, sh, wk) j) → (∀ j : Int, -1 ≤ va2 j ∧ va2 j ≤ 102) → σ1 0 = oB 4 [.ref (xad E 1), .ref (xad E 7), .ref (xad E 13), .ref (xad E 19), .int (iZ (b2 hv)), .ref (xad E 73), .ref (xad E 75), .ref (xad E 81), .int (iZ se), .int (iZ sf), .ref (xad E 84), .int (iZ ll)] → σ1 1 = oB 0 [.ref (xad E 2), .ref (xad E 3), .ref (xad E 4), .ref (xad E 5), .ref (xad E 6), .int (iZ pn2), .int (iZ nw2), .int (iZ sh2), .long (lZ wk2)] → σ1 2 = aI E 25 op2 → σ1 3 = aI E 25 lk2 → σ1 4 = aI E 6 kp2 → σ1 5 = aI E 3 wc2 → σ1 6 = aI E 5 ro2 → σ1 75 = oB 3 [.ref (xad E 76), .ref (xad E 77), .ref (xad E 78), .ref (xad E 79), .ref (xad E 80)] → σ1 76 = aI E 25 le2 → σ1 77 = aI E 25 rl2 → σ1 78 = aI E 25 fs2 → σ1 79 = aI E 25 qu2 → σ1 80 = aI E 25 gr2 → σ1 81 = oB 2 [.ref (xad E 82), .int (iZ ln), .int (iZ cs), cm2, .ref (xad E 83)] → σ1 82 = aC E 60 tx → σ1 83 = aI E 3 va2 → (∀ j : Nat, (j < 1 ∨ 1 + 6 ≤ j) → (j < 75 ∨ 75 + 6 ≤ j) → j ≠ 81 → j ≠ 83 → σ1 j = σ j) → Hx E (xA E s.heap.size) s.heap σ1 H locs → lv_has ls 4 [(2, .int (iZ i)), (1, .int (iZ a)), (0, .ref (xad E 0))] → W p l e rm_X6_findFailure s m args below meth c H locs 0 0 Q (F0 m 4 ls []) := by
    intro n4
    induction n4 with
    | zero =>
      intro a i op2 lk2 kp2 wc2 ro2 pn2 nw2 sh2 wk2 va2 cm2 le2 rl2 fs2 qu2 gr2 σ1 H locs ls hm
      exact absurd hm (by first | exact Nat.not_lt_zero _ | omega)
    | succ n4 ih4 =>
      intro a i op2 lk2 kp2 wc2 ro2 pn2 nw2 sh2 wk2 va2 cm2 le2 rl2 fs2 qu2 gr2 σ1 H locs ls hm4 hi hcu hok hvr f0 f1 f2 f3 f4 f5 f6 f75 f76 f77 f78 f79 f80 f81 f82 f83 fr2 hH hl
      refine lv_iload_n hx hb dX6_findFailure_4 rfl (lv_at hl 0 rfl) ?_
      refine lv_aload_n hx hb dX6_findFailure_5 rfl (lv_at hl 2 rfl) ?_
      refine x_get hx hb hts hown hK hH 0 (by decide) f0 hinX6 rfl 7 (by decide) (List.mem_of_getElem? (i := 1) rfl) rfl dX6_findFailure_6 ?_
      refine x_get hx hb hts hown hK hH 81 (by decide) f81 hinX4 rfl 2 (by decide) (List.mem_of_getElem? (i := 2) rfl) rfl dX6_findFailure_9 ?_
      refine x_icmp_ge (tgt := 61) hx hb dX6_findFailure_12 (by decide) (by omega) (by omega) (fun c12 => ?_) (fun c12 => ?_)
      · refine x_iconst hx hb dX6_findFailure_61 ?_
        subst hQ
        exact x_iret hx hb hr hlocks hH (Nat.le_of_ble_eq_true rfl) (Nat.le_of_ble_eq_true rfl) ⟨(by omega), ⟨op2, lk2, kp2, wc2, pn2, nw2, sh2, wk2, le2, rl2, fs2, qu2, gr2, va2, cm2, ⟨f1, f2, f3, f4, f5, _, f6⟩, ⟨f75, f76, f77, f78, f79, f80⟩, ⟨f81, f82, f83⟩, (by exact Or.inl ⟨rfl, fun j h0 h1 => hok j h0 (by omega)⟩), (by intro h; have e9 : i = cs := (by omega); rw [hcu, e9]), (by exact hvr)⟩, fun j hj0 hj1 hj2 hj3 => (fr2 j (by omega) (by omega) (by omega) (by omega))⟩ dX6_findFailure_62
      · have hfn := feP_en hfe hi.1.1 (by omega)
        have hpb := preP_b hln.1 hi.1.1 hfn.1
        rw [← hi.2] at hpb
        have hBc : BIT (op2, lk2, kp2, wc2, pn2, nw2, sh2, wk2) := by rw [hcu]; exact (exB_ok hBT hi.1.1).1
        refine lv_aload_n hx hb dX6_findFailure_15 rfl (lv_at hl 2 rfl) ?_
        refine x_get hx hb hts hown hK hH 0 (by decide) f0 hinX6 rfl 7 (by decide) (List.mem_of_getElem? (i := 1) rfl) rfl dX6_findFailure_16 ?_
        refine lv_iload_n hx hb dX6_findFailure_19 rfl (lv_at hl 1 rfl) ?_
        refine x_cVIE (As := [.int (iZ a)]) (rest := []) hx hb hml hts hown hK hST hOK hH 81 (c_X4_readCommand l E ST hSF Z hSQ σ1 a tx ln cs cm2 va2 ⟨f81, f82, f83⟩ (by omega) (by omega) (by assumption) (by assumption)) (cwV 1 hts gX6_findFailure_X4_readCommand rfl rfl rfl (by decide +kernel) ⟨Nat.le_of_ble_eq_true rfl, Nat.le_of_ble_eq_true rfl⟩) (by decide) f81 rfl rfl hl.1 rfl (Nat.le_of_ble_eq_true rfl) dX6_findFailure_20 ⟨Nat.le_of_ble_eq_true rfl, Nat.le_of_ble_eq_true rfl⟩ (fun z u h => h) (fun σ4 H locs hp5 hH => ?_)
        obtain ⟨⟨va1_, cm1_, ⟨f81, f82, f83⟩, hmv, hmr⟩, fr6⟩ := hp5
        have f0 : σ4 0 = oB 4 [.ref (xad E 1), .ref (xad E 7), .ref (xad E 13), .ref (xad E 19), .int (iZ (b2 hv)), .ref (xad E 73), .ref (xad E 75), .ref (xad E 81), .int (iZ se), .int (iZ sf), .ref (xad E 84), .int (iZ ll)] := (fr6 0 (by omega) (by omega)).trans f0
        have f1 : σ4 1 = oB 0 [.ref (xad E 2), .ref (xad E 3), .ref (xad E 4), .ref (xad E 5), .ref (xad E 6), .int (iZ pn2), .int (iZ nw2), .int (iZ sh2), .long (lZ wk2)] := (fr6 1 (by omega) (by omega)).trans f1
        have f2 : σ4 2 = aI E 25 op2 := (fr6 2 (by omega) (by omega)).trans f2
        have f3 : σ4 3 = aI E 25 lk2 := (fr6 3 (by omega) (by omega)).trans f3
        have f4 : σ4 4 = aI E 6 kp2 := (fr6 4 (by omega) (by omega)).trans f4
        have f5 : σ4 5 = aI E 3 wc2 := (fr6 5 (by omega) (by omega)).trans f5
        have f6 : σ4 6 = aI E 5 ro2 := (fr6 6 (by omega) (by omega)).trans f6
        have f75 : σ4 75 = oB 3 [.ref (xad E 76), .ref (xad E 77), .ref (xad E 78), .ref (xad E 79), .ref (xad E 80)] := (fr6 75 (by omega) (by omega)).trans f75
        have f76 : σ4 76 = aI E 25 le2 := (fr6 76 (by omega) (by omega)).trans f76
        have f77 : σ4 77 = aI E 25 rl2 := (fr6 77 (by omega) (by omega)).trans f77
        have f78 : σ4 78 = aI E 25 fs2 := (fr6 78 (by omega) (by omega)).trans f78
        have f79 : σ4 79 = aI E 25 qu2 := (fr6 79 (by omega) (by omega)).trans f79
        have f80 : σ4 80 = aI E 25 gr2 := (fr6 80 (by omega) (by omega)).trans f80
        have hrb := rdR_b (t := tx) (n := ln) (st := a) ⟨by omega, by omega⟩; have hen : (rdR tx ln a).1 = enZ tx ln i := (by rw [hi.2]; rfl); have he0 := hfn.2.1
        obtain ⟨hcm, hvv⟩ := hmv (by omega); subst hcm
        refine lv_istore_n (lv' := [(3, .int (iZ ((rdR tx ln a).1))), (2, .int (iZ i)), (1, .int (iZ a)), (0, .ref (xad E 0))]) hx hb dX6_findFailure_23 rfl hl (by decide) rfl (fun ls hl => ?_)
        refine lv_iload_n hx hb dX6_findFailure_24 rfl (lv_at hl 0 rfl) ?_
        refine x_if_lt (tgt := 49) hx hb dX6_findFailure_25 (by decide) (by omega) (fun c25 => ?_) (fun c25 => ?_)
        · exact absurd c25 (by omega)
        · refine lv_aload_n hx hb dX6_findFailure_28 rfl (lv_at hl 3 rfl) ?_
          refine lv_aload_n hx hb dX6_findFailure_29 rfl (lv_at hl 3 rfl) ?_
          refine x_get hx hb hts hown hK hH 0 (by decide) f0 hinX6 rfl 7 (by decide) (List.mem_of_getElem? (i := 1) rfl) rfl dX6_findFailure_30 ?_
          refine x_get hx hb hts hown hK hH 81 (by decide) f81 hinX4 rfl 3 (by decide) (List.mem_of_getElem? (i := 3) rfl) rfl dX6_findFailure_33 ?_
          refine lv_aload_n hx hb dX6_findFailure_36 rfl (lv_at hl 3 rfl) ?_
          refine x_get hx hb hts hown hK hH 0 (by decide) f0 hinX6 rfl 7 (by decide) (List.mem_of_getElem? (i := 1) rfl) rfl dX6_findFailure_37 ?_
          refine x_get hx hb hts hown hK hH 81 (by decide) f81 hinX4 rfl 4 (by decide) (List.mem_of_getElem? (i := 4) rfl) rfl dX6_findFailure_40 ?_
          refine x_cVIE (As := [.ref (zC Z ((rdR tx ln a).2.1)), .ref (xad E 83)]) (rest := []) hx hb hml hts hown hK hST hOK hH 0 (c_X6_carryOut l E ST hSF Z hSQ σ4 ((rdR tx ln a).2.1) hv se sf ll op2 lk2 kp2 wc2 pn2 nw2 sh2 wk2 le2 rl2 fs2 qu2 gr2 va1_ f0 ⟨f1, f2, f3, f4, f5, _, f6⟩ ⟨f75, f76, f77, f78, f79, f80⟩ f83 hBc (by omega) (by assumption)) (cwV 2 hts gX6_findFailure_X6_carryOut rfl rfl rfl (by decide +kernel) ⟨Nat.le_of_ble_eq_true rfl, Nat.le_of_ble_eq_true rfl⟩) (by decide) f0 rfl rfl hl.1 rfl (Nat.le_of_ble_eq_true rfl) dX6_findFailure_43 ⟨Nat.le_of_ble_eq_true rfl, Nat.le_of_ble_eq_true rfl⟩ (fun z u h => h) (fun σ9 H locs hp10 hH => ?_)
          obtain ⟨⟨op1_12, lk1_13, kp1_14, wc1_15, pn1_16, nw1_17, sh1_18, wk1_19, le1_20, rl1_21, fs1_22, qu1_23, gr1_24, ⟨f1, f2, f3, f4, f5, ro25, f6⟩, ⟨f75, f76, f77, f78, f79, f80⟩, hf26⟩, fr11⟩ := hp10
          have f0 : σ9 0 = oB 4 [.ref (xad E 1), .ref (xad E 7), .ref (xad E 13), .ref (xad E 19), .int (iZ (b2 hv)), .ref (xad E 73), .ref (xad E 75), .ref (xad E 81), .int (iZ se), .int (iZ sf), .ref (xad E 84), .int (iZ ll)] := (fr11 0 (by omega) (by omega)).trans f0
          have f81 : σ9 81 = oB 2 [.ref (xad E 82), .int (iZ ln), .int (iZ cs), .ref (zC Z ((rdR tx ln a).2.1)), .ref (xad E 83)] := (fr11 81 (by omega) (by omega)).trans f81
          have f82 : σ9 82 = aC E 60 tx := (fr11 82 (by omega) (by omega)).trans f82
          have f83 : σ9 83 = aI E 3 va1_ := (fr11 83 (by omega) (by omega)).trans f83
          have hxq : exF op2 lk2 kp2 wc2 pn2 nw2 sh2 wk2 (rdR tx ln a).2.1 (va1_ 0) (va1_ 1) (va1_ 2) = exQ tx ln i (op2, lk2, kp2, wc2, pn2, nw2, sh2, wk2) := (by rw [hi.2] at hvv ⊢; exact exQ_va (B := (op2, lk2, kp2, wc2, pn2, nw2, sh2, wk2)) hln hfe hi.1.1 (by omega) hvv); have hfk : -5 ≤ (exF op2 lk2 kp2 wc2 pn2 nw2 sh2 wk2 (rdR tx ln a).2.1 (va1_ 0) (va1_ 1) (va1_ 2)).1 ∧ (exF op2 lk2 kp2 wc2 pn2 nw2 sh2 wk2 (rdR tx ln a).2.1 (va1_ 0) (va1_ 1) (va1_ 2)).1 ≤ 1000 := (FOK_exT (B := (op2, lk2, kp2, wc2, pn2, nw2, sh2, wk2)) (kd := (rdR tx ln a).2.1) (a := va1_ 0) (b := va1_ 1) (c := va1_ 2) hBc).2.2.1
          have hoi0 : okP tx ln (op, lk, kp, wc, pn, nw, sh, wk) i ↔ 0 ≤ (exF op2 lk2 kp2 wc2 pn2 nw2 sh2 wk2 (rdR tx ln a).2.1 (va1_ 0) (va1_ 1) (va1_ 2)).1 := by unfold okP; rw [← hcu, ← hxq]
          refine x_if_ge (tgt := 51) hx hb dX6_findFailure_46 (by decide) (by omega) (fun c46 => ?_) (fun c46 => ?_)
          · have hoi := hoi0.mpr (by omega)
            refine lv_iload_n hx hb dX6_findFailure_51 rfl (lv_at hl 0 rfl) ?_
            refine x_iconst hx hb dX6_findFailure_52 ?_
            refine x_iadd hx hb dX6_findFailure_53 ?_
            refine lv_istore_n (lv' := [(1, .int (iZ (((rdR tx ln a).1) + 1))), (3, .int (iZ ((rdR tx ln a).1))), (2, .int (iZ i)), (0, .ref (xad E 0))]) hx hb dX6_findFailure_54 rfl hl (by decide) rfl (fun ls hl => ?_)
            refine x_iinc (lv' := [(2, .int (iZ (i + 1))), (1, .int (iZ (((rdR tx ln a).1) + 1))), (3, .int (iZ ((rdR tx ln a).1))), (0, .ref (xad E 0))]) hx hb dX6_findFailure_55 hl (k := 2) rfl (by decide) rfl (fun ls hl => ?_)
            refine lv_goto (tgt := 4) hx hb dX6_findFailure_58 (by decide) ?_
            exact ih4 (((rdR tx ln a).1) + 1) (i + 1) op1_12 lk1_13 kp1_14 wc1_15 ro25 pn1_16 nw1_17 sh1_18 wk1_19 va1_ (.ref (zC Z ((rdR tx ln a).2.1))) le1_20 rl1_21 fs1_22 qu1_23 gr1_24 σ9 _ _ _ (by omega) (by exact ⟨by omega, by rw [atZ_s (by omega), hen]⟩) (by rw [exB_s hi.1.1, ← hcu, ← hxq]; assumption) (by intro j h0 h1; by_cases e : j = i; (rw [e]; exact hoi); (exact hok j h0 (by omega))) (by exact hmr) f0 f1 f2 f3 f4 f5 f6 f75 f76 f77 f78 f79 f80 f81 f82 f83 (fun j hj0 hj1 hj2 hj3 => ((fr11 j (by omega) (by omega)).trans ((fr6 j (by omega) (by omega)).trans (fr2 j (by omega) (by omega) (by omega) (by omega))))) hH (lv_sub hl [0, 1, 3] rfl)
          · refine lv_iload_n hx hb dX6_findFailure_49 rfl (lv_at hl 1 rfl) ?_
            subst hQ
            exact x_iret hx hb hr hlocks hH (Nat.le_of_ble_eq_true rfl) (Nat.le_of_ble_eq_true rfl) ⟨(by omega), ⟨op1_12, lk1_13, kp1_14, wc1_15, pn1_16, nw1_17, sh1_18, wk1_19, le1_20, rl1_21, fs1_22, qu1_23, gr1_24, va1_, (.ref (zC Z ((rdR tx ln a).2.1))), ⟨f1, f2, f3, f4, f5, _, f6⟩, ⟨f75, f76, f77, f78, f79, f80⟩, ⟨(f81.trans (by first | rfl | omega | simp_all)), f82, f83⟩, (by exact Or.inr ⟨by omega, hok, fun q => absurd (hoi0.mp q) (by omega)⟩), (by intro h; omega), (by exact hmr)⟩, fun j hj0 hj1 hj2 hj3 => ((fr11 j (by omega) (by omega)).trans ((fr6 j (by omega) (by omega)).trans (fr2 j (by omega) (by omega) (by omega) (by omega))))⟩ dX6_findFailure_50
  exact K4 (cs.toNat + 1) 0 0 op lk kp wc ro1 pn nw sh wk va cm le rl fs qu gr σ _ _ _ (by first | omega | decide) (by exact ⟨by omega, rfl⟩) (by rfl) (by intro j h0 h1; omega) (by exact hva) f0 f1 f2 f3 f4 f5 f6 f75 f76 f77 f78 f79 f80 f81 f82 f83 (fun j _ _ _ _ => rfl) hH (lv_sub hl [0, 1, 2] rfl)

def rm_X6_run : Room := { frames := 7, cells := 1, slots := 6, locals := 166 }
set_option maxRecDepth 100000 in
set_option maxHeartbeats 4000000 in
theorem c_X6_run (l : Launch) (E : xE) (ST : xST) (hSF : SF ST) (Z : zE) (hSQ : SQ Z ST) (htr : l.stackTraces = false) (σ : xW) (hv : Bool) (se : Int) (sf : Int) (ll : Int) (nx : Int) (ct : Int) (yop : Int → Int) (ylk : Int → Int) (ykp : Int → Int) (ywc : Int → Int) (ypn : Int) (ynw : Int) (ysh : Int) (ywk : Int) (op : Int → Int) (lk : Int → Int) (kp : Int → Int) (wc : Int → Int) (pn : Int) (nw : Int) (sh : Int) (wk : Int) (xop : Int → Int) (xlk : Int → Int) (xkp : Int → Int) (xwc : Int → Int) (xpn : Int) (xnw : Int) (xsh : Int) (xwk : Int) (le : Int → Int) (rl : Int → Int) (fs : Int → Int) (qu : Int → Int) (gr : Int → Int) (tx : Int → Int) (ln : Int) (cs : Int) (cm : Value) (va : Int → Int) (hr0 : mn E σ hv se sf ll) (hr1 : hi E σ nx ct) (hr2 : bd E σ (hsl nx) yop ylk ykp ywc ypn ynw ysh ywk) (hr3 : bd E σ 1 op lk kp wc pn nw sh wk) (hr4 : bd E σ 7 xop xlk xkp xwc xpn xnw xsh xwk) (hr5 : sr E σ le rl fs qu gr) (hr6 : pg E σ tx ln cs cm va) (hnx : 0 ≤ nx ∧ nx < 8) (hct : 0 ≤ ct ∧ ct ≤ 8) (hB : BI op lk kp wc pn nw) (hln : 0 ≤ ln ∧ ln ≤ 60) (htx : ∀ j, 0 ≤ tx j ∧ tx j ≤ 65535) (hva : ∀ j : Int, -1 ≤ va j ∧ va j ≤ 102) : XI l E ST yX6_run wsX6_run rm_X6_run [.ref (xad E 0)] σ (fun (z : Int) (u : xW) => (1 ≤ z ∧ z ≤ 9) ∧ (∃ (op1 lk1 kp1 wc1 : Int → Int) (pn1 nw1 sh1 wk1 : Int) (le1 rl1 fs1 qu1 gr1 va1 : Int → Int) (cs1 : Int) (cm1 : Value), mn E u hv se sf ll ∧ hi E u ((nx + 1) % 8) (if 8 < (ct + 1) then 8 else (ct + 1)) ∧ bd E u (hsl nx) op lk kp wc pn nw sh wk ∧ bd E u 1 op1 lk1 kp1 wc1 pn1 nw1 sh1 wk1 ∧ bd E u 7 op lk kp wc pn nw sh wk ∧ sr E u le1 rl1 fs1 qu1 gr1 ∧ pg E u tx 0 cs1 cm1 va1 ∧ (feP tx ln (-1) z) ∧ (ffP tx ln (op, lk, kp, wc, pn, nw, sh, wk) z (-1)) ∧ ((op1, lk1, kp1, wc1, pn1, nw1, sh1, wk1) = exB tx ln (op, lk, kp, wc, pn, nw, sh, wk) z) ∧ (∀ j : Int, -1 ≤ va1 j ∧ va1 j ≤ 102)) ∧ ∀ j : Nat, j ≠ 73 → (j < hsl nx ∨ hsl nx + 6 ≤ j) → (j < 1 ∨ 1 + 12 ≤ j) → (j < 75 ∨ 75 + 6 ≤ j) → (j < 81 ∨ 81 + 3 ≤ j) → u j = σ j) (fun (n : String) (u : xW) => ((n = "java/lang/IllegalArgumentException" ∧ True) ∨ (n = "java/lang/UnsupportedOperationException" ∧ True)) ∧ (∃ (xop xlk xkp xwc : Int → Int) (xpn xnw xsh xwk : Int) (le1 rl1 fs1 qu1 gr1 va1 : Int → Int) (cs1 se1 sf1 c9 : Int) (cm1 : Value), mn E u hv se1 sf1 ll ∧ hi E u nx ct ∧ bd E u (hsl nx) yop ylk ykp ywc ypn ynw ysh ywk ∧ bd E u 1 op lk kp wc pn nw sh wk ∧ bd E u 7 xop xlk xkp xwc xpn xnw xsh xwk ∧ sr E u le1 rl1 fs1 qu1 gr1 ∧ pg E u tx 0 cs1 cm1 va1 ∧ ((n = "java/lang/IllegalArgumentException" ∧ feP tx ln se1 c9 ∧ (¬ se1 = -1 ∧ -1 ≤ se1 ∧ se1 ≤ 60) ∧ sf1 = sf) ∨ (n = "java/lang/UnsupportedOperationException" ∧ se1 = se ∧ feP tx ln (-1) c9 ∧ ffP tx ln (op, lk, kp, wc, pn, nw, sh, wk) c9 sf1 ∧ (0 ≤ sf1 ∧ sf1 < c9))) ∧ (∀ j : Int, -1 ≤ va1 j ∧ va1 j ≤ 102)) ∧ ∀ j : Nat, j ≠ 0 → (j < 1 ∨ 1 + 12 ≤ j) → (j < 75 ∨ 75 + 6 ≤ j) → (j < 81 ∨ 81 + 3 ≤ j) → u j = σ j) := by
  have f0 : σ 0 = oB 4 [.ref (xad E 1), .ref (xad E 7), .ref (xad E 13), .ref (xad E 19), .int (iZ (b2 hv)), .ref (xad E 73), .ref (xad E 75), .ref (xad E 81), .int (iZ se), .int (iZ sf), .ref (xad E 84), .int (iZ ll)] := hr0
  obtain ⟨f73, f74⟩ := hr1
  obtain ⟨fhsl_nx_0, fhsl_nx_1, fhsl_nx_2, fhsl_nx_3, fhsl_nx_4, ro2, fhsl_nx_5⟩ := hr2
  obtain ⟨f1, f2, f3, f4, f5, ro3, f6⟩ := hr3
  obtain ⟨f7, f8, f9, f10, f11, ro4, f12⟩ := hr4
  obtain ⟨f75, f76, f77, f78, f79, f80⟩ := hr5
  obtain ⟨f81, f82, f83⟩ := hr6
  refine XI_of (by decide) rfl (Nat.le_of_ble_eq_true rfl) ?_
  intro p e s m args below meth c Q ls G hH hl hQ
  obtain ⟨hx, hb, hml, hown, hts, hK, hST, hlocks, hr, hno⟩ := G
  have hOK := hSF.1
  have hown : s.vm.findClass RX6 = some m.cls := hown
  have hl : lv_has ls 3 [(0, .ref (xad E 0))] := hl
  have hinX4 : ∀ w ∈ u_ws RX4 TX4 5, w ∈ wsX6_run := fun w h => (List.mem_cons_of_mem _ (List.mem_append_left _ (List.mem_append_left _ (List.mem_append_left _ (List.mem_append_left _ (List.mem_append_left _ (List.mem_append_right _ h)))))))
  have hinX6 : ∀ w ∈ u_ws RX6 TX6 12, w ∈ wsX6_run := fun w h => (List.mem_cons_of_mem _ (List.mem_append_left _ (List.mem_append_left _ (List.mem_append_left _ (List.mem_append_left _ (List.mem_append_left _ (List.mem_append_left _ (List.mem_append_right _ h))))))))
  have hhb := hsl_rg hnx.1 hnx.2
  refine lv_aload_n hx hb dX6_run_0 rfl (lv_at hl 0 rfl) ?_
  refine x_get hx hb hts hown hK hH 0 (by decide) f0 hinX6 rfl 7 (by decide) (List.mem_of_getElem? (i := 5) rfl) rfl dX6_run_1 ?_
  refine x_cVI (As := []) (rest := []) hx hb hml hts hown hK hST hOK hH 81 (c_X4_findError l E ST hSF Z hSQ σ tx ln cs cm va ⟨f81, f82, f83⟩ (by omega) (by assumption) (by assumption)) (cwV 0 hts gX6_run_X4_findError rfl rfl rfl (by decide +kernel) ⟨Nat.le_of_ble_eq_true rfl, Nat.le_of_ble_eq_true rfl⟩) (by decide) f81 rfl rfl hl.1 rfl (Nat.le_of_ble_eq_true rfl) dX6_run_4 ⟨Nat.le_of_ble_eq_true rfl, Nat.le_of_ble_eq_true rfl⟩ (fun er_ σ1 H locs hp2 hH => ?_)
  obtain ⟨her, ⟨cs_, va_, cm_, ⟨f81, f82, f83⟩, hfe, hvr⟩, fr3⟩ := hp2
  have f0 : σ1 0 = oB 4 [.ref (xad E 1), .ref (xad E 7), .ref (xad E 13), .ref (xad E 19), .int (iZ (b2 hv)), .ref (xad E 73), .ref (xad E 75), .ref (xad E 81), .int (iZ se), .int (iZ sf), .ref (xad E 84), .int (iZ ll)] := (fr3 0 (by omega) (by omega)).trans f0
  have f73 : σ1 73 = oB 1 [.ref (xad E 74), .int (iZ nx), .int (iZ ct)] := (fr3 73 (by omega) (by omega)).trans f73
  have f74 : σ1 74 = hRow E := (fr3 74 (by omega) (by omega)).trans f74
  have fhsl_nx_0 : σ1 (hsl nx) = oB 0 [.ref (xad E ((hsl nx) + 1)), .ref (xad E ((hsl nx) + 2)), .ref (xad E ((hsl nx) + 3)), .ref (xad E ((hsl nx) + 4)), .ref (xad E ((hsl nx) + 5)), .int (iZ ypn), .int (iZ ynw), .int (iZ ysh), .long (lZ ywk)] := (fr3 (hsl nx) (by omega) (by omega)).trans fhsl_nx_0
  have fhsl_nx_1 : σ1 ((hsl nx) + 1) = aI E 25 yop := (fr3 ((hsl nx) + 1) (by omega) (by omega)).trans fhsl_nx_1
  have fhsl_nx_2 : σ1 ((hsl nx) + 2) = aI E 25 ylk := (fr3 ((hsl nx) + 2) (by omega) (by omega)).trans fhsl_nx_2
  have fhsl_nx_3 : σ1 ((hsl nx) + 3) = aI E 6 ykp := (fr3 ((hsl nx) + 3) (by omega) (by omega)).trans fhsl_nx_3
  have fhsl_nx_4 : σ1 ((hsl nx) + 4) = aI E 3 ywc := (fr3 ((hsl nx) + 4) (by omega) (by omega)).trans fhsl_nx_4
  have fhsl_nx_5 : σ1 ((hsl nx) + 5) = aI E 5 ro2 := (fr3 ((hsl nx) + 5) (by omega) (by omega)).trans fhsl_nx_5
  have f1 : σ1 1 = oB 0 [.ref (xad E 2), .ref (xad E 3), .ref (xad E 4), .ref (xad E 5), .ref (xad E 6), .int (iZ pn), .int (iZ nw), .int (iZ sh), .long (lZ wk)] := (fr3 1 (by omega) (by omega)).trans f1
  have f2 : σ1 2 = aI E 25 op := (fr3 2 (by omega) (by omega)).trans f2
  have f3 : σ1 3 = aI E 25 lk := (fr3 3 (by omega) (by omega)).trans f3
  have f4 : σ1 4 = aI E 6 kp := (fr3 4 (by omega) (by omega)).trans f4
  have f5 : σ1 5 = aI E 3 wc := (fr3 5 (by omega) (by omega)).trans f5
  have f6 : σ1 6 = aI E 5 ro3 := (fr3 6 (by omega) (by omega)).trans f6
  have f7 : σ1 7 = oB 0 [.ref (xad E 8), .ref (xad E 9), .ref (xad E 10), .ref (xad E 11), .ref (xad E 12), .int (iZ xpn), .int (iZ xnw), .int (iZ xsh), .long (lZ xwk)] := (fr3 7 (by omega) (by omega)).trans f7
  have f8 : σ1 8 = aI E 25 xop := (fr3 8 (by omega) (by omega)).trans f8
  have f9 : σ1 9 = aI E 25 xlk := (fr3 9 (by omega) (by omega)).trans f9
  have f10 : σ1 10 = aI E 6 xkp := (fr3 10 (by omega) (by omega)).trans f10
  have f11 : σ1 11 = aI E 3 xwc := (fr3 11 (by omega) (by omega)).trans f11
  have f12 : σ1 12 = aI E 5 ro4 := (fr3 12 (by omega) (by omega)).trans f12
  have f75 : σ1 75 = oB 3 [.ref (xad E 76), .ref (xad E 77), .ref (xad E 78), .ref (xad E 79), .ref (xad E 80)] := (fr3 75 (by omega) (by omega)).trans f75
  have f76 : σ1 76 = aI E 25 le := (fr3 76 (by omega) (by omega)).trans f76
  have f77 : σ1 77 = aI E 25 rl := (fr3 77 (by omega) (by omega)).trans f77
  have f78 : σ1 78 = aI E 25 fs := (fr3 78 (by omega) (by omega)).trans f78
  have f79 : σ1 79 = aI E 25 qu := (fr3 79 (by omega) (by omega)).trans f79
  have f80 : σ1 80 = aI E 25 gr := (fr3 80 (by omega) (by omega)).trans f80
  refine lv_istore_n (lv' := [(1, .int (iZ er_)), (0, .ref (xad E 0))]) hx hb dX6_run_7 rfl hl (by decide) rfl (fun ls hl => ?_)
  refine lv_iload_n hx hb dX6_run_8 rfl (lv_at hl 0 rfl) ?_
  refine x_iconst hx hb dX6_run_9 ?_
  refine x_icmp_eq (tgt := 36) hx hb dX6_run_10 (by decide) (by omega) (by decide) (fun c10 => ?_) (fun c10 => ?_)
  · have hfe9 : feP tx ln (-1) cs_ := by rw [← c10]; exact hfe
    have hcs := feP_c hln hfe9
    refine lv_aload_n hx hb dX6_run_36 rfl (lv_at hl 1 rfl) ?_
    refine x_get hx hb hts hown hK hH 0 (by decide) f0 hinX6 rfl 1 (by decide) (List.mem_of_getElem? (i := 7) rfl) rfl dX6_run_37 ?_
    refine lv_aload_n hx hb dX6_run_40 rfl (lv_at hl 1 rfl) ?_
    refine x_get hx hb hts hown hK hH 0 (by decide) f0 hinX6 rfl 0 (by decide) (List.mem_of_getElem? (i := 8) rfl) rfl dX6_run_41 ?_
    refine x_cVV (As := [.ref (xad E 1)]) (rest := []) hx hb hml hts hown hK hST hOK hH 7 (c_X1_copyFrom l E ST hSF σ1 7 1 xop xlk xkp xwc xpn xnw xsh xwk op lk kp wc pn nw sh wk ⟨f7, f8, f9, f10, f11, _, f12⟩ ⟨f1, f2, f3, f4, f5, _, f6⟩ (by omega) (by omega) (by omega)) (cwV 1 hts gX6_run_X1_copyFrom rfl rfl rfl (by decide +kernel) ⟨Nat.le_of_ble_eq_true rfl, Nat.le_of_ble_eq_true rfl⟩) (by decide) f7 rfl rfl hl.1 rfl (Nat.le_of_ble_eq_true rfl) dX6_run_44 ⟨Nat.le_of_ble_eq_true rfl, Nat.le_of_ble_eq_true rfl⟩ (fun σ5 H locs hp6 hH => ?_)
    obtain ⟨⟨⟨f7, f8, f9, f10, f11, ro8, f12⟩, ⟨f1, f2, f3, f4, f5, ro9, f6⟩⟩, fr7⟩ := hp6
    have f0 : σ5 0 = oB 4 [.ref (xad E 1), .ref (xad E 7), .ref (xad E 13), .ref (xad E 19), .int (iZ (b2 hv)), .ref (xad E 73), .ref (xad E 75), .ref (xad E 81), .int (iZ se), .int (iZ sf), .ref (xad E 84), .int (iZ ll)] := (fr7 0 (by omega)).trans f0
    have f73 : σ5 73 = oB 1 [.ref (xad E 74), .int (iZ nx), .int (iZ ct)] := (fr7 73 (by omega)).trans f73
    have f74 : σ5 74 = hRow E := (fr7 74 (by omega)).trans f74
    have fhsl_nx_0 : σ5 (hsl nx) = oB 0 [.ref (xad E ((hsl nx) + 1)), .ref (xad E ((hsl nx) + 2)), .ref (xad E ((hsl nx) + 3)), .ref (xad E ((hsl nx) + 4)), .ref (xad E ((hsl nx) + 5)), .int (iZ ypn), .int (iZ ynw), .int (iZ ysh), .long (lZ ywk)] := (fr7 (hsl nx) (by omega)).trans fhsl_nx_0
    have fhsl_nx_1 : σ5 ((hsl nx) + 1) = aI E 25 yop := (fr7 ((hsl nx) + 1) (by omega)).trans fhsl_nx_1
    have fhsl_nx_2 : σ5 ((hsl nx) + 2) = aI E 25 ylk := (fr7 ((hsl nx) + 2) (by omega)).trans fhsl_nx_2
    have fhsl_nx_3 : σ5 ((hsl nx) + 3) = aI E 6 ykp := (fr7 ((hsl nx) + 3) (by omega)).trans fhsl_nx_3
    have fhsl_nx_4 : σ5 ((hsl nx) + 4) = aI E 3 ywc := (fr7 ((hsl nx) + 4) (by omega)).trans fhsl_nx_4
    have fhsl_nx_5 : σ5 ((hsl nx) + 5) = aI E 5 ro2 := (fr7 ((hsl nx) + 5) (by omega)).trans fhsl_nx_5
    have f75 : σ5 75 = oB 3 [.ref (xad E 76), .ref (xad E 77), .ref (xad E 78), .ref (xad E 79), .ref (xad E 80)] := (fr7 75 (by omega)).trans f75
    have f76 : σ5 76 = aI E 25 le := (fr7 76 (by omega)).trans f76
    have f77 : σ5 77 = aI E 25 rl := (fr7 77 (by omega)).trans f77
    have f78 : σ5 78 = aI E 25 fs := (fr7 78 (by omega)).trans f78
    have f79 : σ5 79 = aI E 25 qu := (fr7 79 (by omega)).trans f79
    have f80 : σ5 80 = aI E 25 gr := (fr7 80 (by omega)).trans f80
    have f81 : σ5 81 = oB 2 [.ref (xad E 82), .int (iZ ln), .int (iZ cs_), cm_, .ref (xad E 83)] := (fr7 81 (by omega)).trans f81
    have f82 : σ5 82 = aC E 60 tx := (fr7 82 (by omega)).trans f82
    have f83 : σ5 83 = aI E 3 va_ := (fr7 83 (by omega)).trans f83
    refine lv_aload_n hx hb dX6_run_47 rfl (lv_at hl 1 rfl) ?_
    refine x_cVI (As := []) (rest := []) hx hb hml hts hown hK hST hOK hH 0 (c_X6_findFailure l E ST hSF Z hSQ σ5 hv se sf ll op lk kp wc pn nw sh wk le rl fs qu gr tx ln cs_ cm_ va_ f0 ⟨f1, f2, f3, f4, f5, _, f6⟩ ⟨f75, f76, f77, f78, f79, f80⟩ ⟨f81, f82, f83⟩ (by omega) (by omega) (by assumption) (by assumption) hfe9) (cwV 0 hts gX6_run_X6_findFailure rfl rfl rfl (by decide +kernel) ⟨Nat.le_of_ble_eq_true rfl, Nat.le_of_ble_eq_true rfl⟩) (by decide) f0 rfl rfl hl.1 rfl (Nat.le_of_ble_eq_true rfl) dX6_run_48 ⟨Nat.le_of_ble_eq_true rfl, Nat.le_of_ble_eq_true rfl⟩ (fun fa_ σ11 H locs hp12 hH => ?_)
    obtain ⟨hfa, ⟨op1_14, lk1_15, kp1_16, wc1_17, pn1_18, nw1_19, sh1_20, wk1_21, le1_22, rl1_23, fs1_24, qu1_25, gr1_26, va1_27, cm1_28, ⟨f1, f2, f3, f4, f5, ro29, f6⟩, ⟨f75, f76, f77, f78, f79, f80⟩, ⟨f81, f82, f83⟩, hff, hfb, hvr2⟩, fr13⟩ := hp12
    have f0 : σ11 0 = oB 4 [.ref (xad E 1), .ref (xad E 7), .ref (xad E 13), .ref (xad E 19), .int (iZ (b2 hv)), .ref (xad E 73), .ref (xad E 75), .ref (xad E 81), .int (iZ se), .int (iZ sf), .ref (xad E 84), .int (iZ ll)] := (fr13 0 (by omega) (by omega) (by omega) (by omega)).trans f0
    have f73 : σ11 73 = oB 1 [.ref (xad E 74), .int (iZ nx), .int (iZ ct)] := (fr13 73 (by omega) (by omega) (by omega) (by omega)).trans f73
    have f74 : σ11 74 = hRow E := (fr13 74 (by omega) (by omega) (by omega) (by omega)).trans f74
    have fhsl_nx_0 : σ11 (hsl nx) = oB 0 [.ref (xad E ((hsl nx) + 1)), .ref (xad E ((hsl nx) + 2)), .ref (xad E ((hsl nx) + 3)), .ref (xad E ((hsl nx) + 4)), .ref (xad E ((hsl nx) + 5)), .int (iZ ypn), .int (iZ ynw), .int (iZ ysh), .long (lZ ywk)] := (fr13 (hsl nx) (by omega) (by omega) (by omega) (by omega)).trans fhsl_nx_0
    have fhsl_nx_1 : σ11 ((hsl nx) + 1) = aI E 25 yop := (fr13 ((hsl nx) + 1) (by omega) (by omega) (by omega) (by omega)).trans fhsl_nx_1
    have fhsl_nx_2 : σ11 ((hsl nx) + 2) = aI E 25 ylk := (fr13 ((hsl nx) + 2) (by omega) (by omega) (by omega) (by omega)).trans fhsl_nx_2
    have fhsl_nx_3 : σ11 ((hsl nx) + 3) = aI E 6 ykp := (fr13 ((hsl nx) + 3) (by omega) (by omega) (by omega) (by omega)).trans fhsl_nx_3
    have fhsl_nx_4 : σ11 ((hsl nx) + 4) = aI E 3 ywc := (fr13 ((hsl nx) + 4) (by omega) (by omega) (by omega) (by omega)).trans fhsl_nx_4
    have fhsl_nx_5 : σ11 ((hsl nx) + 5) = aI E 5 ro2 := (fr13 ((hsl nx) + 5) (by omega) (by omega) (by omega) (by omega)).trans fhsl_nx_5
    have f7 : σ11 7 = oB 0 [.ref (xad E 8), .ref (xad E 9), .ref (xad E 10), .ref (xad E 11), .ref (xad E 12), .int (iZ pn), .int (iZ nw), .int (iZ sh), .long (lZ wk)] := (fr13 7 (by omega) (by omega) (by omega) (by omega)).trans f7
    have f8 : σ11 8 = aI E 25 op := (fr13 8 (by omega) (by omega) (by omega) (by omega)).trans f8
    have f9 : σ11 9 = aI E 25 lk := (fr13 9 (by omega) (by omega) (by omega) (by omega)).trans f9
    have f10 : σ11 10 = aI E 6 kp := (fr13 10 (by omega) (by omega) (by omega) (by omega)).trans f10
    have f11 : σ11 11 = aI E 3 wc := (fr13 11 (by omega) (by omega) (by omega) (by omega)).trans f11
    have f12 : σ11 12 = aI E 5 ro8 := (fr13 12 (by omega) (by omega) (by omega) (by omega)).trans f12
    refine lv_istore_n (lv' := [(2, .int (iZ fa_)), (1, .int (iZ er_)), (0, .ref (xad E 0))]) hx hb dX6_run_51 rfl hl (by decide) rfl (fun ls hl => ?_)
    refine lv_aload_n hx hb dX6_run_52 rfl (lv_at hl 2 rfl) ?_
    refine x_get hx hb hts hown hK hH 0 (by decide) f0 hinX6 rfl 7 (by decide) (List.mem_of_getElem? (i := 5) rfl) rfl dX6_run_53 ?_
    refine x_cVV (As := []) (rest := []) hx hb hml hts hown hK hST hOK hH 81 (c_X4_clear l E ST hSF σ11 tx ln cs_ cm1_28 va1_27 ⟨f81, f82, f83⟩ ) (cwV 0 hts gX6_run_X4_clear rfl rfl rfl (by decide +kernel) ⟨Nat.le_of_ble_eq_true rfl, Nat.le_of_ble_eq_true rfl⟩) (by decide) f81 rfl rfl hl.1 rfl (Nat.le_of_ble_eq_true rfl) dX6_run_56 ⟨Nat.le_of_ble_eq_true rfl, Nat.le_of_ble_eq_true rfl⟩ (fun σ31 H locs hp32 hH => ?_)
    obtain ⟨⟨f81, f82, f83⟩, fr33⟩ := hp32
    have f0 : σ31 0 = oB 4 [.ref (xad E 1), .ref (xad E 7), .ref (xad E 13), .ref (xad E 19), .int (iZ (b2 hv)), .ref (xad E 73), .ref (xad E 75), .ref (xad E 81), .int (iZ se), .int (iZ sf), .ref (xad E 84), .int (iZ ll)] := (fr33 0 (by omega)).trans f0
    have f73 : σ31 73 = oB 1 [.ref (xad E 74), .int (iZ nx), .int (iZ ct)] := (fr33 73 (by omega)).trans f73
    have f74 : σ31 74 = hRow E := (fr33 74 (by omega)).trans f74
    have fhsl_nx_0 : σ31 (hsl nx) = oB 0 [.ref (xad E ((hsl nx) + 1)), .ref (xad E ((hsl nx) + 2)), .ref (xad E ((hsl nx) + 3)), .ref (xad E ((hsl nx) + 4)), .ref (xad E ((hsl nx) + 5)), .int (iZ ypn), .int (iZ ynw), .int (iZ ysh), .long (lZ ywk)] := (fr33 (hsl nx) (by omega)).trans fhsl_nx_0
    have fhsl_nx_1 : σ31 ((hsl nx) + 1) = aI E 25 yop := (fr33 ((hsl nx) + 1) (by omega)).trans fhsl_nx_1
    have fhsl_nx_2 : σ31 ((hsl nx) + 2) = aI E 25 ylk := (fr33 ((hsl nx) + 2) (by omega)).trans fhsl_nx_2
    have fhsl_nx_3 : σ31 ((hsl nx) + 3) = aI E 6 ykp := (fr33 ((hsl nx) + 3) (by omega)).trans fhsl_nx_3
    have fhsl_nx_4 : σ31 ((hsl nx) + 4) = aI E 3 ywc := (fr33 ((hsl nx) + 4) (by omega)).trans fhsl_nx_4
    have fhsl_nx_5 : σ31 ((hsl nx) + 5) = aI E 5 ro2 := (fr33 ((hsl nx) + 5) (by omega)).trans fhsl_nx_5
    have f1 : σ31 1 = oB 0 [.ref (xad E 2), .ref (xad E 3), .ref (xad E 4), .ref (xad E 5), .ref (xad E 6), .int (iZ pn1_18), .int (iZ nw1_19), .int (iZ sh1_20), .long (lZ wk1_21)] := (fr33 1 (by omega)).trans f1
    have f2 : σ31 2 = aI E 25 op1_14 := (fr33 2 (by omega)).trans f2
    have f3 : σ31 3 = aI E 25 lk1_15 := (fr33 3 (by omega)).trans f3
    have f4 : σ31 4 = aI E 6 kp1_16 := (fr33 4 (by omega)).trans f4
    have f5 : σ31 5 = aI E 3 wc1_17 := (fr33 5 (by omega)).trans f5
    have f6 : σ31 6 = aI E 5 ro29 := (fr33 6 (by omega)).trans f6
    have f7 : σ31 7 = oB 0 [.ref (xad E 8), .ref (xad E 9), .ref (xad E 10), .ref (xad E 11), .ref (xad E 12), .int (iZ pn), .int (iZ nw), .int (iZ sh), .long (lZ wk)] := (fr33 7 (by omega)).trans f7
    have f8 : σ31 8 = aI E 25 op := (fr33 8 (by omega)).trans f8
    have f9 : σ31 9 = aI E 25 lk := (fr33 9 (by omega)).trans f9
    have f10 : σ31 10 = aI E 6 kp := (fr33 10 (by omega)).trans f10
    have f11 : σ31 11 = aI E 3 wc := (fr33 11 (by omega)).trans f11
    have f12 : σ31 12 = aI E 5 ro8 := (fr33 12 (by omega)).trans f12
    have f75 : σ31 75 = oB 3 [.ref (xad E 76), .ref (xad E 77), .ref (xad E 78), .ref (xad E 79), .ref (xad E 80)] := (fr33 75 (by omega)).trans f75
    have f76 : σ31 76 = aI E 25 le1_22 := (fr33 76 (by omega)).trans f76
    have f77 : σ31 77 = aI E 25 rl1_23 := (fr33 77 (by omega)).trans f77
    have f78 : σ31 78 = aI E 25 fs1_24 := (fr33 78 (by omega)).trans f78
    have f79 : σ31 79 = aI E 25 qu1_25 := (fr33 79 (by omega)).trans f79
    have f80 : σ31 80 = aI E 25 gr1_26 := (fr33 80 (by omega)).trans f80
    refine lv_iload_n hx hb dX6_run_59 rfl (lv_at hl 0 rfl) ?_
    refine x_iconst hx hb dX6_run_60 ?_
    refine x_icmp_eq (tgt := 91) hx hb dX6_run_61 (by decide) (by omega) (by decide) (fun c61 => ?_) (fun c61 => ?_)
    · subst c61
      have hfb9 := hfb rfl
      refine lv_aload_n hx hb dX6_run_91 rfl (lv_at hl 2 rfl) ?_
      refine x_get hx hb hts hown hK hH 0 (by decide) f0 hinX6 rfl 5 (by decide) (List.mem_of_getElem? (i := 10) rfl) rfl dX6_run_92 ?_
      refine lv_aload_n hx hb dX6_run_95 rfl (lv_at hl 2 rfl) ?_
      refine x_get hx hb hts hown hK hH 0 (by decide) f0 hinX6 rfl 1 (by decide) (List.mem_of_getElem? (i := 7) rfl) rfl dX6_run_96 ?_
      refine x_cVV (As := [.ref (xad E 7)]) (rest := []) hx hb hml hts hown hK hST hOK hH 73 (c_X3_add l E ST hSF σ31 7 nx ct yop ylk ykp ywc ypn ynw ysh ywk op lk kp wc pn nw sh wk ⟨f73, f74⟩ ⟨fhsl_nx_0, fhsl_nx_1, fhsl_nx_2, fhsl_nx_3, fhsl_nx_4, _, fhsl_nx_5⟩ ⟨f7, f8, f9, f10, f11, _, f12⟩ (by omega) (by omega) (by omega)) (cwV 1 hts gX6_run_X3_add rfl rfl rfl (by decide +kernel) ⟨Nat.le_of_ble_eq_true rfl, Nat.le_of_ble_eq_true rfl⟩) (by decide) f73 rfl rfl hl.1 rfl (Nat.le_of_ble_eq_true rfl) dX6_run_99 ⟨Nat.le_of_ble_eq_true rfl, Nat.le_of_ble_eq_true rfl⟩ (fun σ36 H locs hp37 hH => ?_)
      obtain ⟨⟨⟨f73, f74⟩, ⟨fhsl_nx_0, fhsl_nx_1, fhsl_nx_2, fhsl_nx_3, fhsl_nx_4, ro39, fhsl_nx_5⟩, ⟨f7, f8, f9, f10, f11, ro40, f12⟩⟩, fr38⟩ := hp37
      have f0 : σ36 0 = oB 4 [.ref (xad E 1), .ref (xad E 7), .ref (xad E 13), .ref (xad E 19), .int (iZ (b2 hv)), .ref (xad E 73), .ref (xad E 75), .ref (xad E 81), .int (iZ se), .int (iZ sf), .ref (xad E 84), .int (iZ ll)] := (fr38 0 (by omega) (by omega)).trans f0
      have f1 : σ36 1 = oB 0 [.ref (xad E 2), .ref (xad E 3), .ref (xad E 4), .ref (xad E 5), .ref (xad E 6), .int (iZ pn1_18), .int (iZ nw1_19), .int (iZ sh1_20), .long (lZ wk1_21)] := (fr38 1 (by omega) (by omega)).trans f1
      have f2 : σ36 2 = aI E 25 op1_14 := (fr38 2 (by omega) (by omega)).trans f2
      have f3 : σ36 3 = aI E 25 lk1_15 := (fr38 3 (by omega) (by omega)).trans f3
      have f4 : σ36 4 = aI E 6 kp1_16 := (fr38 4 (by omega) (by omega)).trans f4
      have f5 : σ36 5 = aI E 3 wc1_17 := (fr38 5 (by omega) (by omega)).trans f5
      have f6 : σ36 6 = aI E 5 ro29 := (fr38 6 (by omega) (by omega)).trans f6
      have f75 : σ36 75 = oB 3 [.ref (xad E 76), .ref (xad E 77), .ref (xad E 78), .ref (xad E 79), .ref (xad E 80)] := (fr38 75 (by omega) (by omega)).trans f75
      have f76 : σ36 76 = aI E 25 le1_22 := (fr38 76 (by omega) (by omega)).trans f76
      have f77 : σ36 77 = aI E 25 rl1_23 := (fr38 77 (by omega) (by omega)).trans f77
      have f78 : σ36 78 = aI E 25 fs1_24 := (fr38 78 (by omega) (by omega)).trans f78
      have f79 : σ36 79 = aI E 25 qu1_25 := (fr38 79 (by omega) (by omega)).trans f79
      have f80 : σ36 80 = aI E 25 gr1_26 := (fr38 80 (by omega) (by omega)).trans f80
      have f81 : σ36 81 = oB 2 [.ref (xad E 82), .int (iZ 0), .int (iZ cs_), cm1_28, .ref (xad E 83)] := (fr38 81 (by omega) (by omega)).trans f81
      have f82 : σ36 82 = aC E 60 tx := (fr38 82 (by omega) (by omega)).trans f82
      have f83 : σ36 83 = aI E 3 va1_27 := (fr38 83 (by omega) (by omega)).trans f83
      refine lv_aload_n hx hb dX6_run_102 rfl (lv_at hl 2 rfl) ?_
      refine x_get hx hb hts hown hK hH 0 (by decide) f0 hinX6 rfl 7 (by decide) (List.mem_of_getElem? (i := 5) rfl) rfl dX6_run_103 ?_
      refine x_get hx hb hts hown hK hH 81 (by decide) f81 hinX4 rfl 2 (by decide) (List.mem_of_getElem? (i := 11) rfl) rfl dX6_run_106 ?_
      subst hQ
      exact x_ireX hx hb hr hlocks hH (Nat.le_of_ble_eq_true rfl) (Nat.le_of_ble_eq_true rfl) ⟨(by omega), ⟨op1_14, lk1_15, kp1_16, wc1_17, pn1_18, nw1_19, sh1_20, wk1_21, le1_22, rl1_23, fs1_24, qu1_25, gr1_26, va1_27, cs_, cm1_28, f0, ⟨f73, f74⟩, ⟨fhsl_nx_0, fhsl_nx_1, fhsl_nx_2, fhsl_nx_3, fhsl_nx_4, _, fhsl_nx_5⟩, ⟨f1, f2, f3, f4, f5, _, f6⟩, ⟨f7, f8, f9, f10, f11, _, f12⟩, ⟨f75, f76, f77, f78, f79, f80⟩, ⟨f81, f82, f83⟩, (by exact hfe9), (by exact hff), (by exact hfb9), (by exact hvr2)⟩, fun j hj0 hj1 hj2 hj3 hj4 => ((fr38 j (by omega) (by omega)).trans ((fr33 j (by omega)).trans ((fr13 j (by omega) (by omega) (by omega) (by omega)).trans ((fr7 j (by omega)).trans (fr3 j (by omega) (by omega))))))⟩ dX6_run_109
    · refine lv_aload_n hx hb dX6_run_64 rfl (lv_at hl 2 rfl) ?_
      refine x_get hx hb hts hown hK hH 0 (by decide) f0 hinX6 rfl 0 (by decide) (List.mem_of_getElem? (i := 8) rfl) rfl dX6_run_65 ?_
      refine lv_aload_n hx hb dX6_run_68 rfl (lv_at hl 2 rfl) ?_
      refine x_get hx hb hts hown hK hH 0 (by decide) f0 hinX6 rfl 1 (by decide) (List.mem_of_getElem? (i := 7) rfl) rfl dX6_run_69 ?_
      refine x_cVV (As := [.ref (xad E 7)]) (rest := []) hx hb hml hts hown hK hST hOK hH 1 (c_X1_copyFrom l E ST hSF σ31 1 7 op1_14 lk1_15 kp1_16 wc1_17 pn1_18 nw1_19 sh1_20 wk1_21 op lk kp wc pn nw sh wk ⟨f1, f2, f3, f4, f5, _, f6⟩ ⟨f7, f8, f9, f10, f11, _, f12⟩ (by omega) (by omega) (by omega)) (cwV 1 hts gX6_run_X1_copyFrom rfl rfl rfl (by decide +kernel) ⟨Nat.le_of_ble_eq_true rfl, Nat.le_of_ble_eq_true rfl⟩) (by decide) f1 rfl rfl hl.1 rfl (Nat.le_of_ble_eq_true rfl) dX6_run_72 ⟨Nat.le_of_ble_eq_true rfl, Nat.le_of_ble_eq_true rfl⟩ (fun σ43 H locs hp44 hH => ?_)
      obtain ⟨⟨⟨f1, f2, f3, f4, f5, ro46, f6⟩, ⟨f7, f8, f9, f10, f11, ro47, f12⟩⟩, fr45⟩ := hp44
      have f0 : σ43 0 = oB 4 [.ref (xad E 1), .ref (xad E 7), .ref (xad E 13), .ref (xad E 19), .int (iZ (b2 hv)), .ref (xad E 73), .ref (xad E 75), .ref (xad E 81), .int (iZ se), .int (iZ sf), .ref (xad E 84), .int (iZ ll)] := (fr45 0 (by omega)).trans f0
      have f73 : σ43 73 = oB 1 [.ref (xad E 74), .int (iZ nx), .int (iZ ct)] := (fr45 73 (by omega)).trans f73
      have f74 : σ43 74 = hRow E := (fr45 74 (by omega)).trans f74
      have fhsl_nx_0 : σ43 (hsl nx) = oB 0 [.ref (xad E ((hsl nx) + 1)), .ref (xad E ((hsl nx) + 2)), .ref (xad E ((hsl nx) + 3)), .ref (xad E ((hsl nx) + 4)), .ref (xad E ((hsl nx) + 5)), .int (iZ ypn), .int (iZ ynw), .int (iZ ysh), .long (lZ ywk)] := (fr45 (hsl nx) (by omega)).trans fhsl_nx_0
      have fhsl_nx_1 : σ43 ((hsl nx) + 1) = aI E 25 yop := (fr45 ((hsl nx) + 1) (by omega)).trans fhsl_nx_1
      have fhsl_nx_2 : σ43 ((hsl nx) + 2) = aI E 25 ylk := (fr45 ((hsl nx) + 2) (by omega)).trans fhsl_nx_2
      have fhsl_nx_3 : σ43 ((hsl nx) + 3) = aI E 6 ykp := (fr45 ((hsl nx) + 3) (by omega)).trans fhsl_nx_3
      have fhsl_nx_4 : σ43 ((hsl nx) + 4) = aI E 3 ywc := (fr45 ((hsl nx) + 4) (by omega)).trans fhsl_nx_4
      have fhsl_nx_5 : σ43 ((hsl nx) + 5) = aI E 5 ro2 := (fr45 ((hsl nx) + 5) (by omega)).trans fhsl_nx_5
      have f75 : σ43 75 = oB 3 [.ref (xad E 76), .ref (xad E 77), .ref (xad E 78), .ref (xad E 79), .ref (xad E 80)] := (fr45 75 (by omega)).trans f75
      have f76 : σ43 76 = aI E 25 le1_22 := (fr45 76 (by omega)).trans f76
      have f77 : σ43 77 = aI E 25 rl1_23 := (fr45 77 (by omega)).trans f77
      have f78 : σ43 78 = aI E 25 fs1_24 := (fr45 78 (by omega)).trans f78
      have f79 : σ43 79 = aI E 25 qu1_25 := (fr45 79 (by omega)).trans f79
      have f80 : σ43 80 = aI E 25 gr1_26 := (fr45 80 (by omega)).trans f80
      have f81 : σ43 81 = oB 2 [.ref (xad E 82), .int (iZ 0), .int (iZ cs_), cm1_28, .ref (xad E 83)] := (fr45 81 (by omega)).trans f81
      have f82 : σ43 82 = aC E 60 tx := (fr45 82 (by omega)).trans f82
      have f83 : σ43 83 = aI E 3 va1_27 := (fr45 83 (by omega)).trans f83
      refine lv_aload_n hx hb dX6_run_75 rfl (lv_at hl 2 rfl) ?_
      refine lv_iload_n hx hb dX6_run_76 rfl (lv_at hl 0 rfl) ?_
      refine x_put (fs' := [.ref (xad E 1), .ref (xad E 7), .ref (xad E 13), .ref (xad E 19), .int (iZ (b2 hv)), .ref (xad E 73), .ref (xad E 75), .ref (xad E 81), .int (iZ se), .int (iZ fa_), .ref (xad E 84), .int (iZ ll)]) hx hb hts hown hK hH 0 (by decide) f0 hinX6 rfl tyX6 tyX6_ok nmX6 9 (by decide) (List.mem_of_getElem? (i := 9) rfl) rfl (ty := .int) (by decide +kernel) rfl rfl (Nat.le_of_ble_eq_true rfl) rfl dX6_run_77 (fun σ49 H locs f0 fr50 hH => ?_)
      have f73 : σ49 73 = oB 1 [.ref (xad E 74), .int (iZ nx), .int (iZ ct)] := (fr50 73 (by omega)).trans f73
      have f74 : σ49 74 = hRow E := (fr50 74 (by omega)).trans f74
      have fhsl_nx_0 : σ49 (hsl nx) = oB 0 [.ref (xad E ((hsl nx) + 1)), .ref (xad E ((hsl nx) + 2)), .ref (xad E ((hsl nx) + 3)), .ref (xad E ((hsl nx) + 4)), .ref (xad E ((hsl nx) + 5)), .int (iZ ypn), .int (iZ ynw), .int (iZ ysh), .long (lZ ywk)] := (fr50 (hsl nx) (by omega)).trans fhsl_nx_0
      have fhsl_nx_1 : σ49 ((hsl nx) + 1) = aI E 25 yop := (fr50 ((hsl nx) + 1) (by omega)).trans fhsl_nx_1
      have fhsl_nx_2 : σ49 ((hsl nx) + 2) = aI E 25 ylk := (fr50 ((hsl nx) + 2) (by omega)).trans fhsl_nx_2
      have fhsl_nx_3 : σ49 ((hsl nx) + 3) = aI E 6 ykp := (fr50 ((hsl nx) + 3) (by omega)).trans fhsl_nx_3
      have fhsl_nx_4 : σ49 ((hsl nx) + 4) = aI E 3 ywc := (fr50 ((hsl nx) + 4) (by omega)).trans fhsl_nx_4
      have fhsl_nx_5 : σ49 ((hsl nx) + 5) = aI E 5 ro2 := (fr50 ((hsl nx) + 5) (by omega)).trans fhsl_nx_5
      have f1 : σ49 1 = oB 0 [.ref (xad E 2), .ref (xad E 3), .ref (xad E 4), .ref (xad E 5), .ref (xad E 6), .int (iZ pn), .int (iZ nw), .int (iZ sh), .long (lZ wk)] := (fr50 1 (by omega)).trans f1
      have f2 : σ49 2 = aI E 25 op := (fr50 2 (by omega)).trans f2
      have f3 : σ49 3 = aI E 25 lk := (fr50 3 (by omega)).trans f3
      have f4 : σ49 4 = aI E 6 kp := (fr50 4 (by omega)).trans f4
      have f5 : σ49 5 = aI E 3 wc := (fr50 5 (by omega)).trans f5
      have f6 : σ49 6 = aI E 5 ro46 := (fr50 6 (by omega)).trans f6
      have f7 : σ49 7 = oB 0 [.ref (xad E 8), .ref (xad E 9), .ref (xad E 10), .ref (xad E 11), .ref (xad E 12), .int (iZ pn), .int (iZ nw), .int (iZ sh), .long (lZ wk)] := (fr50 7 (by omega)).trans f7
      have f8 : σ49 8 = aI E 25 op := (fr50 8 (by omega)).trans f8
      have f9 : σ49 9 = aI E 25 lk := (fr50 9 (by omega)).trans f9
      have f10 : σ49 10 = aI E 6 kp := (fr50 10 (by omega)).trans f10
      have f11 : σ49 11 = aI E 3 wc := (fr50 11 (by omega)).trans f11
      have f12 : σ49 12 = aI E 5 ro47 := (fr50 12 (by omega)).trans f12
      have f75 : σ49 75 = oB 3 [.ref (xad E 76), .ref (xad E 77), .ref (xad E 78), .ref (xad E 79), .ref (xad E 80)] := (fr50 75 (by omega)).trans f75
      have f76 : σ49 76 = aI E 25 le1_22 := (fr50 76 (by omega)).trans f76
      have f77 : σ49 77 = aI E 25 rl1_23 := (fr50 77 (by omega)).trans f77
      have f78 : σ49 78 = aI E 25 fs1_24 := (fr50 78 (by omega)).trans f78
      have f79 : σ49 79 = aI E 25 qu1_25 := (fr50 79 (by omega)).trans f79
      have f80 : σ49 80 = aI E 25 gr1_26 := (fr50 80 (by omega)).trans f80
      have f81 : σ49 81 = oB 2 [.ref (xad E 82), .int (iZ 0), .int (iZ cs_), cm1_28, .ref (xad E 83)] := (fr50 81 (by omega)).trans f81
      have f82 : σ49 82 = aC E 60 tx := (fr50 82 (by omega)).trans f82
      have f83 : σ49 83 = aI E 3 va1_27 := (fr50 83 (by omega)).trans f83
      subst hQ
      exact x_throwSW (text := "a command fails") hx hb hml htr hts hown hST hSF hno hlocks hH xExc_3 (List.mem_of_getElem? (i := 3) rfl) (List.mem_of_getElem? (i := 4) rfl) (fun w h => (List.mem_cons_of_mem _ (List.mem_append_right _ h))) (List.mem_of_getElem? (i := 21) rfl) hl.1 dX6_run_80 dX6_run_83 dX6_run_84 dX6_run_87 dX6_run_90 (Nat.le_of_ble_eq_true rfl) (Nat.le_of_ble_eq_true rfl) (Nat.le_of_ble_eq_true rfl) (Nat.le_of_ble_eq_true rfl) ⟨Or.inr (⟨rfl, (by trivial)⟩), ⟨op, lk, kp, wc, pn, nw, sh, wk, le1_22, rl1_23, fs1_24, qu1_25, gr1_26, va1_27, cs_, se, fa_, _, cm1_28, f0, ⟨f73, f74⟩, ⟨fhsl_nx_0, fhsl_nx_1, fhsl_nx_2, fhsl_nx_3, fhsl_nx_4, _, fhsl_nx_5⟩, ⟨f1, f2, f3, f4, f5, _, f6⟩, ⟨f7, f8, f9, f10, f11, _, f12⟩, ⟨f75, f76, f77, f78, f79, f80⟩, ⟨f81, f82, f83⟩, (by exact Or.inr ⟨rfl, rfl, hfe9, hff, by omega, by omega⟩), (by exact hvr2)⟩, fun j hj0 hj1 hj2 hj3 => ((fr50 j (by omega)).trans ((fr45 j (by omega)).trans ((fr33 j (by omega)).trans ((fr13 j (by omega) (by omega) (by omega) (by omega)).trans ((fr7 j (by omega)).trans (fr3 j (by omega) (by omega)))))))⟩ (Nat.le_of_ble_eq_true rfl) (Nat.le_of_ble_eq_true rfl)
  · refine lv_aload_n hx hb dX6_run_13 rfl (lv_at hl 1 rfl) ?_
    refine x_get hx hb hts hown hK hH 0 (by decide) f0 hinX6 rfl 7 (by decide) (List.mem_of_getElem? (i := 5) rfl) rfl dX6_run_14 ?_
    refine x_cVV (As := []) (rest := []) hx hb hml hts hown hK hST hOK hH 81 (c_X4_clear l E ST hSF σ1 tx ln cs_ cm_ va_ ⟨f81, f82, f83⟩ ) (cwV 0 hts gX6_run_X4_clear rfl rfl rfl (by decide +kernel) ⟨Nat.le_of_ble_eq_true rfl, Nat.le_of_ble_eq_true rfl⟩) (by decide) f81 rfl rfl hl.1 rfl (Nat.le_of_ble_eq_true rfl) dX6_run_17 ⟨Nat.le_of_ble_eq_true rfl, Nat.le_of_ble_eq_true rfl⟩ (fun σ52 H locs hp53 hH => ?_)
    obtain ⟨⟨f81, f82, f83⟩, fr54⟩ := hp53
    have f0 : σ52 0 = oB 4 [.ref (xad E 1), .ref (xad E 7), .ref (xad E 13), .ref (xad E 19), .int (iZ (b2 hv)), .ref (xad E 73), .ref (xad E 75), .ref (xad E 81), .int (iZ se), .int (iZ sf), .ref (xad E 84), .int (iZ ll)] := (fr54 0 (by omega)).trans f0
    have f73 : σ52 73 = oB 1 [.ref (xad E 74), .int (iZ nx), .int (iZ ct)] := (fr54 73 (by omega)).trans f73
    have f74 : σ52 74 = hRow E := (fr54 74 (by omega)).trans f74
    have fhsl_nx_0 : σ52 (hsl nx) = oB 0 [.ref (xad E ((hsl nx) + 1)), .ref (xad E ((hsl nx) + 2)), .ref (xad E ((hsl nx) + 3)), .ref (xad E ((hsl nx) + 4)), .ref (xad E ((hsl nx) + 5)), .int (iZ ypn), .int (iZ ynw), .int (iZ ysh), .long (lZ ywk)] := (fr54 (hsl nx) (by omega)).trans fhsl_nx_0
    have fhsl_nx_1 : σ52 ((hsl nx) + 1) = aI E 25 yop := (fr54 ((hsl nx) + 1) (by omega)).trans fhsl_nx_1
    have fhsl_nx_2 : σ52 ((hsl nx) + 2) = aI E 25 ylk := (fr54 ((hsl nx) + 2) (by omega)).trans fhsl_nx_2
    have fhsl_nx_3 : σ52 ((hsl nx) + 3) = aI E 6 ykp := (fr54 ((hsl nx) + 3) (by omega)).trans fhsl_nx_3
    have fhsl_nx_4 : σ52 ((hsl nx) + 4) = aI E 3 ywc := (fr54 ((hsl nx) + 4) (by omega)).trans fhsl_nx_4
    have fhsl_nx_5 : σ52 ((hsl nx) + 5) = aI E 5 ro2 := (fr54 ((hsl nx) + 5) (by omega)).trans fhsl_nx_5
    have f1 : σ52 1 = oB 0 [.ref (xad E 2), .ref (xad E 3), .ref (xad E 4), .ref (xad E 5), .ref (xad E 6), .int (iZ pn), .int (iZ nw), .int (iZ sh), .long (lZ wk)] := (fr54 1 (by omega)).trans f1
    have f2 : σ52 2 = aI E 25 op := (fr54 2 (by omega)).trans f2
    have f3 : σ52 3 = aI E 25 lk := (fr54 3 (by omega)).trans f3
    have f4 : σ52 4 = aI E 6 kp := (fr54 4 (by omega)).trans f4
    have f5 : σ52 5 = aI E 3 wc := (fr54 5 (by omega)).trans f5
    have f6 : σ52 6 = aI E 5 ro3 := (fr54 6 (by omega)).trans f6
    have f7 : σ52 7 = oB 0 [.ref (xad E 8), .ref (xad E 9), .ref (xad E 10), .ref (xad E 11), .ref (xad E 12), .int (iZ xpn), .int (iZ xnw), .int (iZ xsh), .long (lZ xwk)] := (fr54 7 (by omega)).trans f7
    have f8 : σ52 8 = aI E 25 xop := (fr54 8 (by omega)).trans f8
    have f9 : σ52 9 = aI E 25 xlk := (fr54 9 (by omega)).trans f9
    have f10 : σ52 10 = aI E 6 xkp := (fr54 10 (by omega)).trans f10
    have f11 : σ52 11 = aI E 3 xwc := (fr54 11 (by omega)).trans f11
    have f12 : σ52 12 = aI E 5 ro4 := (fr54 12 (by omega)).trans f12
    have f75 : σ52 75 = oB 3 [.ref (xad E 76), .ref (xad E 77), .ref (xad E 78), .ref (xad E 79), .ref (xad E 80)] := (fr54 75 (by omega)).trans f75
    have f76 : σ52 76 = aI E 25 le := (fr54 76 (by omega)).trans f76
    have f77 : σ52 77 = aI E 25 rl := (fr54 77 (by omega)).trans f77
    have f78 : σ52 78 = aI E 25 fs := (fr54 78 (by omega)).trans f78
    have f79 : σ52 79 = aI E 25 qu := (fr54 79 (by omega)).trans f79
    have f80 : σ52 80 = aI E 25 gr := (fr54 80 (by omega)).trans f80
    refine lv_aload_n hx hb dX6_run_20 rfl (lv_at hl 1 rfl) ?_
    refine lv_iload_n hx hb dX6_run_21 rfl (lv_at hl 0 rfl) ?_
    refine x_put (fs' := [.ref (xad E 1), .ref (xad E 7), .ref (xad E 13), .ref (xad E 19), .int (iZ (b2 hv)), .ref (xad E 73), .ref (xad E 75), .ref (xad E 81), .int (iZ er_), .int (iZ sf), .ref (xad E 84), .int (iZ ll)]) hx hb hts hown hK hH 0 (by decide) f0 hinX6 rfl tyX6 tyX6_ok nmX6 8 (by decide) (List.mem_of_getElem? (i := 6) rfl) rfl (ty := .int) (by decide +kernel) rfl rfl (Nat.le_of_ble_eq_true rfl) rfl dX6_run_22 (fun σ56 H locs f0 fr57 hH => ?_)
    have f73 : σ56 73 = oB 1 [.ref (xad E 74), .int (iZ nx), .int (iZ ct)] := (fr57 73 (by omega)).trans f73
    have f74 : σ56 74 = hRow E := (fr57 74 (by omega)).trans f74
    have fhsl_nx_0 : σ56 (hsl nx) = oB 0 [.ref (xad E ((hsl nx) + 1)), .ref (xad E ((hsl nx) + 2)), .ref (xad E ((hsl nx) + 3)), .ref (xad E ((hsl nx) + 4)), .ref (xad E ((hsl nx) + 5)), .int (iZ ypn), .int (iZ ynw), .int (iZ ysh), .long (lZ ywk)] := (fr57 (hsl nx) (by omega)).trans fhsl_nx_0
    have fhsl_nx_1 : σ56 ((hsl nx) + 1) = aI E 25 yop := (fr57 ((hsl nx) + 1) (by omega)).trans fhsl_nx_1
    have fhsl_nx_2 : σ56 ((hsl nx) + 2) = aI E 25 ylk := (fr57 ((hsl nx) + 2) (by omega)).trans fhsl_nx_2
    have fhsl_nx_3 : σ56 ((hsl nx) + 3) = aI E 6 ykp := (fr57 ((hsl nx) + 3) (by omega)).trans fhsl_nx_3
    have fhsl_nx_4 : σ56 ((hsl nx) + 4) = aI E 3 ywc := (fr57 ((hsl nx) + 4) (by omega)).trans fhsl_nx_4
    have fhsl_nx_5 : σ56 ((hsl nx) + 5) = aI E 5 ro2 := (fr57 ((hsl nx) + 5) (by omega)).trans fhsl_nx_5
    have f1 : σ56 1 = oB 0 [.ref (xad E 2), .ref (xad E 3), .ref (xad E 4), .ref (xad E 5), .ref (xad E 6), .int (iZ pn), .int (iZ nw), .int (iZ sh), .long (lZ wk)] := (fr57 1 (by omega)).trans f1
    have f2 : σ56 2 = aI E 25 op := (fr57 2 (by omega)).trans f2
    have f3 : σ56 3 = aI E 25 lk := (fr57 3 (by omega)).trans f3
    have f4 : σ56 4 = aI E 6 kp := (fr57 4 (by omega)).trans f4
    have f5 : σ56 5 = aI E 3 wc := (fr57 5 (by omega)).trans f5
    have f6 : σ56 6 = aI E 5 ro3 := (fr57 6 (by omega)).trans f6
    have f7 : σ56 7 = oB 0 [.ref (xad E 8), .ref (xad E 9), .ref (xad E 10), .ref (xad E 11), .ref (xad E 12), .int (iZ xpn), .int (iZ xnw), .int (iZ xsh), .long (lZ xwk)] := (fr57 7 (by omega)).trans f7
    have f8 : σ56 8 = aI E 25 xop := (fr57 8 (by omega)).trans f8
    have f9 : σ56 9 = aI E 25 xlk := (fr57 9 (by omega)).trans f9
    have f10 : σ56 10 = aI E 6 xkp := (fr57 10 (by omega)).trans f10
    have f11 : σ56 11 = aI E 3 xwc := (fr57 11 (by omega)).trans f11
    have f12 : σ56 12 = aI E 5 ro4 := (fr57 12 (by omega)).trans f12
    have f75 : σ56 75 = oB 3 [.ref (xad E 76), .ref (xad E 77), .ref (xad E 78), .ref (xad E 79), .ref (xad E 80)] := (fr57 75 (by omega)).trans f75
    have f76 : σ56 76 = aI E 25 le := (fr57 76 (by omega)).trans f76
    have f77 : σ56 77 = aI E 25 rl := (fr57 77 (by omega)).trans f77
    have f78 : σ56 78 = aI E 25 fs := (fr57 78 (by omega)).trans f78
    have f79 : σ56 79 = aI E 25 qu := (fr57 79 (by omega)).trans f79
    have f80 : σ56 80 = aI E 25 gr := (fr57 80 (by omega)).trans f80
    have f81 : σ56 81 = oB 2 [.ref (xad E 82), .int (iZ 0), .int (iZ cs_), cm_, .ref (xad E 83)] := (fr57 81 (by omega)).trans f81
    have f82 : σ56 82 = aC E 60 tx := (fr57 82 (by omega)).trans f82
    have f83 : σ56 83 = aI E 3 va_ := (fr57 83 (by omega)).trans f83
    subst hQ
    exact x_throwSW (text := "the text is not a program") hx hb hml htr hts hown hST hSF hno hlocks hH xExc_1 (List.mem_of_getElem? (i := 1) rfl) (List.mem_of_getElem? (i := 2) rfl) (fun w h => (List.mem_cons_of_mem _ (List.mem_append_left _ (List.mem_append_right _ h)))) (List.mem_of_getElem? (i := 15) rfl) hl.1 dX6_run_25 dX6_run_28 dX6_run_29 dX6_run_32 dX6_run_35 (Nat.le_of_ble_eq_true rfl) (Nat.le_of_ble_eq_true rfl) (Nat.le_of_ble_eq_true rfl) (Nat.le_of_ble_eq_true rfl) ⟨Or.inl (⟨rfl, (by trivial)⟩), ⟨xop, xlk, xkp, xwc, xpn, xnw, xsh, xwk, le, rl, fs, qu, gr, va_, cs_, er_, sf, _, cm_, f0, ⟨f73, f74⟩, ⟨fhsl_nx_0, fhsl_nx_1, fhsl_nx_2, fhsl_nx_3, fhsl_nx_4, _, fhsl_nx_5⟩, ⟨f1, f2, f3, f4, f5, _, f6⟩, ⟨f7, f8, f9, f10, f11, _, f12⟩, ⟨f75, f76, f77, f78, f79, f80⟩, ⟨f81, f82, f83⟩, (by exact Or.inl ⟨rfl, hfe, ⟨c10, by omega, by omega⟩, rfl⟩), (by exact hvr)⟩, fun j hj0 hj1 hj2 hj3 => ((fr57 j (by omega)).trans ((fr54 j (by omega)).trans (fr3 j (by omega) (by omega))))⟩ (Nat.le_of_ble_eq_true rfl) (Nat.le_of_ble_eq_true rfl)
