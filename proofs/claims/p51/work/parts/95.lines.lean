set_option maxRecDepth 100000 in
set_option maxHeartbeats 2000000 in
theorem c_L_areLinesRight (l : Launch) (E : xE) (ST : xST) (hSF : SF ST) (Z : zE) (hSQ : SQ Z ST) (hSX : SX ST) (htr : l.stackTraces = false) (σ : xW) (B : BT) (S : Option BT) (Y : lnQ) (hr0 : cw E σ B S Y) : CI l E ST yL_areLinesRight wML_areLinesRight rm_L_areLinesRight [.ref (xad E 0)] σ (fun (z : Int) (u : xW) => z = b2 true ∧ (∃ (Y1 : lnQ), cw E u B S Y1) ∧ ∀ j : Nat, (j < 0 ∨ 0 + 85 ≤ j) → u j = σ j) := by
  have fcw_0 : cw E σ B S Y := hr0
  refine CI_of (by decide) rfl (Nat.le_of_ble_eq_true rfl) ?_
  intro p e s m args below meth c Q ls G hH hl hQ
  obtain ⟨hx, hb, hml, hown, hts, hK, hST, hlocks, hr, hno⟩ := G
  have hOK := hSF.1
  have hown : s.vm.findClass RL = some m.cls := hown
  have hl : lv_has ls 7 [(0, .ref (xad E 0))] := hl
  obtain ⟨hop, hlk9, hkp, hwc9, hpn, hnw⟩ : BI (opT B) (lkT B) (kpT B) (wcT B) (pnT B) (nwT B) := fcw_0.bit
  refine x_iconst hx hb dL_areLinesRight_0 ?_
  refine lv_istore_n (lv' := [(1, .int (iZ 1)), (0, .ref (xad E 0))]) hx hb dL_areLinesRight_1 rfl hl (by decide) rfl (fun ls hl => ?_)
  refine x_iconst hx hb dL_areLinesRight_2 ?_
  refine lv_istore_n (lv' := [(2, .int (iZ 0)), (1, .int (iZ 1)), (0, .ref (xad E 0))]) hx hb dL_areLinesRight_3 rfl hl (by decide) rfl (fun ls hl => ?_)
  have K4 : ∀ (nK : Nat) (r : Int) (Y9 : lnQ) (σ1 : xW) (H : Heap) (locs : List Loc) (ls : Array Slot), (5 - r).toNat < nK → (0 ≤ r ∧ r ≤ 5) → cw E σ1 B S Y9 → (∀ j : Nat, (j < 0 ∨ 0 + 85 ≤ j) → σ1 j = σ j) → Hx E (xA E s.heap.size) s.heap σ1 H locs → lv_has ls 7 [(2, .int (iZ r)), (1, .int (iZ 1)), (0, .ref (xad E 0))] → W p l e rm_L_areLinesRight s m args below meth c H locs (0 + 700 * (r).toNat) (0 + 67000 * (r).toNat) Q (F0 m 4 ls []) := by
    intro n4
    induction n4 with
    | zero =>
      intro r Y9 σ1 H locs ls hm
      exact absurd hm (by first | exact Nat.not_lt_zero _ | omega)
    | succ n4 ih4 =>
      intro r Y9 σ1 H locs ls hm4 hr5 fcw_0 fr2 hH hl
      have hrt := Int.toNat_of_nonneg hr5.1
      replace hm4 : 5 - r < (n4 : Int) + 1 := (by omega)
      refine lv_iload_n hx hb dL_areLinesRight_4 rfl (lv_at hl 0 rfl) ?_
      refine x_iconst hx hb dL_areLinesRight_5 ?_
      refine x_icmp_ge (tgt := 359) hx hb dL_areLinesRight_6 (by decide) (by omega) (by decide) (fun c6 => ?_) (fun c6 => ?_)
      · refine lv_iload_n hx hb dL_areLinesRight_359 rfl (lv_at hl 1 rfl) ?_
        subst hQ
        exact x_zret (b := true) hx hb hr hlocks hH (by first | (simp only [rm_L_areLinesRight]; omega) | omega) (by first | (simp only [rm_L_areLinesRight]; omega) | omega) ⟨congrArg b2 (show true = true from (by rfl)), ⟨Y9, fcw_0⟩, fun j hj0 => (fr2 j (by omega))⟩ dL_areLinesRight_360
      · refine x_iconst hx hb dL_areLinesRight_9 ?_
        refine lv_istore_n (lv' := [(3, .int (iZ 3)), (2, .int (iZ r)), (1, .int (iZ 1)), (0, .ref (xad E 0))]) hx hb dL_areLinesRight_10 rfl hl (by decide) rfl (fun ls hl => ?_)
        refine x_ldcS (q := zK Z 0) hx hb hown ((hSQ _ _ _ hST).2.2.2.1 0 _ rfl) dL_areLinesRight_11 ?_
        refine lv_astore (lv' := [(4, .ref (zK Z 0)), (3, .int (iZ 3)), (2, .int (iZ r)), (1, .int (iZ 1)), (0, .ref (xad E 0))]) hx hb dL_areLinesRight_13 hl (by decide) rfl (fun ls hl => ?_)
        refine x_iconst hx hb dL_areLinesRight_15 ?_
        refine lv_istore (lv' := [(5, .int (iZ 0)), (4, .ref (zK Z 0)), (3, .int (iZ 3)), (2, .int (iZ r)), (1, .int (iZ 1)), (0, .ref (xad E 0))]) hx hb dL_areLinesRight_16 hl (by decide) rfl (fun ls hl => ?_)
        have hF0 : xCf p E ST (xA E s.heap.size) s m args c cL_areLinesRight 7 wML_areLinesRight RL := ⟨hx, hb, hml, hown, hts, hK, hST, hOK⟩
        have K18 : ∀ (nK : Nat) (k frq : Int) (Et : xE) (tv : Nat) (σ8 : xW) (H : Heap) (locs : List Loc) (ls : Array Slot), (5 - k).toNat < nK → (0 ≤ k ∧ k ≤ 5) → frq = frK (pnT B) r k → cw Et σ8 B S Y9 → TX9 Z E Et σ8 (.ref tv) (rwL (opT B) (lkT B) (kpT B) (wcT B) (pnT B) (nwT B) r k) → (∀ j : Nat, 85 ≤ j → j < 85 + xx E → σ8 j = σ1 j) → Hx Et (xA E s.heap.size) s.heap σ8 H locs → lv_has ls 7 [(5, .int (iZ k)), (4, .ref tv), (3, .int (iZ frq)), (2, .int (iZ r)), (1, .int (iZ 1)), (0, .ref (xad Et 0))] → W p l e rm_L_areLinesRight s m args below meth c H locs ((0 + 700 * (r).toNat) + 130 * (k).toNat) ((0 + 67000 * (r).toNat) + 13000 * (k).toNat) Q (F0 m 18 ls []) := by
          intro n18
          induction n18 with
          | zero =>
            intro k frq Et tv σ8 H locs ls hm
            exact absurd hm (Nat.not_lt_zero _)
          | succ n18 ih18 =>
            intro k frq Et tv σ8 H locs ls hm18 hk hfrq fcw_0 hTX hfw hH hl
            have hkt := Int.toNat_of_nonneg hk.1
            replace hm18 : 5 - k < (n18 : Int) + 1 := (by omega)
            obtain ⟨d9, hx0⟩ := hTX.ex
            have hF := hF0.mv hx0.1 hx0.2.1
            have hK := hF.2.2.2.2.2.1
            have hxxt := hx0.2.2.1
            have hfrb : 0 ≤ frq ∧ frq ≤ 3 := (by have h1 := b2_rg (dB (∀ j : Int, 0 ≤ j → j < ((k.toNat : Nat) : Int) → ¬ fixP (pnT B) (r * 5 + j * 1))); have h2 := b2_rg (dB (∀ j : Int, 0 ≤ j → j < ((k.toNat : Nat) : Int) → ¬ fixP (pnT B) (r + j * 5))); have h3 := frN_is (pn := pnT B) (r := r) k.toNat; rw [hfrq]; unfold frK; omega)
            refine lv_iload hx hb dL_areLinesRight_18 (lv_at hl 0 rfl) ?_
            refine x_iconst hx hb dL_areLinesRight_20 ?_
            refine x_icmp_ge (tgt := 272) hx hb dL_areLinesRight_21 (by decide) (by omega) (by decide) (fun c21 => ?_) (fun c21 => ?_)
            · have e5 : k = 5 := (by omega)
              rw [e5] at hTX hfrq
              rcases hTX with ⟨-, -, hn⟩ | ⟨hT, htv⟩
              · exact absurd hn rw_ne
              have htv := Value.ref.inj htv
              subst htv
              obtain ⟨hxT, FF, ht1, ht2, ht3, ht4⟩ := hT
              have hxx2 := hxT.2.2.1
              have hq1 := b2_rg (lfB (pnT B) (r * 5) 1)
              have hq2 := b2_rg (lfB (pnT B) r 5)
              have hq3 : frq = b2 (lfB (pnT B) (r * 5) 1) + 2 * b2 (lfB (pnT B) r 5) := (by rw [hfrq]; exact frK_5)
              have h35 := rwL_35 (op := opT B) (lk := lkT B) (kp := kpT B) (wc := wcT B) (pn := pnT B) (nw := nwT B) (r := r) (by omega)
              have hln := lnY_is (B := B) (Y := Y9) (r := r) (by omega)
              refine lv_iload_n hx hb dL_areLinesRight_272 rfl (lv_at hl 4 rfl) ?_
              refine x_if_eq (tgt := 306) hx hb dL_areLinesRight_273 (by decide) (by decide) (fun c273 => ?_) (fun c273 => ?_)
              · exact absurd c273 (by decide)
              · refine lv_aload_n hx hb dL_areLinesRight_276 rfl (lv_at hl 5 rfl) ?_
                refine x_bipush hx hb dL_areLinesRight_277 (by decide) ?_
                refine lv_iload_n hx hb dL_areLinesRight_279 rfl (lv_at hl 3 rfl) ?_
                refine x_iconst hx hb dL_areLinesRight_280 ?_
                refine x_iconst hx hb dL_areLinesRight_281 ?_
                refine x_cSW (As := [.ref (xad Et 0), .int (iZ 13), .int (iZ r), .int (iZ 0), .int (iZ 0)]) (rest := []) hx hb hml hts hown hK hST hOK hH (c_L_ask_13 l Et ST hSF hSX htr σ8 r 0 0 B S Y9 fcw_0 (by omega)) (vx_cwSW 5 hts (goodIn_t gK_162) rfl rfl rfl (by decide +kernel) ⟨Nat.le_of_ble_eq_true rfl, Nat.le_of_ble_eq_true rfl⟩) rfl hl.1 rfl (Nat.le_of_ble_eq_true rfl) dL_areLinesRight_282 ⟨by first | (simp only [rm_L_areLinesRight, rm_L_ask_13]; omega) | omega, by first | (simp only [rm_L_areLinesRight, rm_L_ask_13]; omega) | omega⟩ (fun z3 σ4 H locs hp5 hH => ?_)
                obtain ⟨hq9, hu9⟩ := hp5
                subst hq9
                rw [hu9] at hH
                refine lv_iload_n hx hb dL_areLinesRight_285 rfl (lv_at hl 2 rfl) ?_
                refine x_icmp_ne (tgt := 306) hx hb dL_areLinesRight_286 (by decide) (by omega) (by omega) (fun c286 => ?_) (fun c286 => ?_)
                · exact absurd hq3.symm c286
                · refine lv_aload_n hx hb dL_areLinesRight_289 rfl (lv_at hl 5 rfl) ?_
                  refine lv_iload_n hx hb dL_areLinesRight_290 rfl (lv_at hl 3 rfl) ?_
                  obtain ⟨fs9, hfs9⟩ := fcw_0.o0
                  refine x_cVIE (As := [.int (iZ r)]) (rest := []) hx hb hml hts hown hK hST hOK hH 0 (q_writeRow0 l Et ST hSF  σ8 r B S Y9 fcw_0 (by omega) (by omega)) (cwV 1 hts (goodIn_t (goodIn_x gK_242)) rfl rfl rfl (by decide +kernel) ⟨Nat.le_of_ble_eq_true rfl, Nat.le_of_ble_eq_true rfl⟩) (ltw (by decide)) hfs9 rfl rfl hl.1 rfl (Nat.le_of_ble_eq_true rfl) dL_areLinesRight_291 ⟨by first | (simp only [rm_L_areLinesRight, rm_L_ask_13, rm_X6_writeRow0]; omega) | omega, by first | (simp only [rm_L_areLinesRight, rm_L_ask_13, rm_X6_writeRow0]; omega) | omega⟩ (fun z u h => h) (fun σ7 H locs hp8 hH => ?_)
                  obtain ⟨fcw_0, fr9⟩ := hp8
                  have ht1 := (fr9 _ (by omega)).trans ht1
                  have ht2 := (fr9 _ (by omega)).trans ht2
                  have hfw := fun (j : Nat) (j0 : 85 ≤ j) (j1 : j < 85 + xx E) => (fr9 j (by omega)).trans (hfw j j0 j1)
                  refine lv_aload hx hb dL_areLinesRight_294 (lv_at hl 1 rfl) ?_
                  refine x_aftI (va_runV (As := []) (rest := [.int (iZ ((lnY B Y9 r).2))]) hF.fx ((c_J0_length_d l Et ST hSF Z hSQ σ7 (85 + xx E) (86 + xx E) (rwL (opT B) (lkT B) (kpT B) (wcT B) (pnT B) (nwT B) r 5).length FF (by omega) ht1 (by omega) ht2 (by omega)) _) (cwV 0 hts (goodIn_t (goodIn_x gK_245)) rfl rfl rfl (by decide +kernel) ⟨Nat.le_of_ble_eq_true rfl, Nat.le_of_ble_eq_true rfl⟩) (hF.prv hH (hF.rcv hH (k0 := 85 + xx E) (by omega) ht1 rfl) []) rfl rfl hl.1 rfl (lv_room (Nat.le_of_ble_eq_true rfl)) dL_areLinesRight_296 ⟨by first | (simp only [rm_J0_length_d, rm_L_areLinesRight, rm_L_ask_13, rm_X6_writeRow0]; omega) | omega, by first | (simp only [rm_J0_length_d, rm_L_areLinesRight, rm_L_ask_13, rm_X6_writeRow0]; omega) | omega⟩) hH (fun z11 σ13 H locs hp12 hH => ?_)
                  obtain ⟨hz9, hu9⟩ := hp12
                  rw [hu9] at hH
                  rw [hz9]
                  have hl9 := hln.1
                  refine x_icmp_ne (tgt := 306) hx hb dL_areLinesRight_299 (by decide) (by omega) (by omega) (fun c299 => ?_) (fun c299 => ?_)
                  · exact absurd hln.1 c299
                  · refine x_iconst hx hb dL_areLinesRight_302 ?_
                    refine lv_goto (tgt := 307) hx hb dL_areLinesRight_303 (by decide) ?_
                    refine lv_istore_n (lv' := [(1, .int (iZ 1)), (5, .int (iZ k)), (4, .ref (xad Et (85 + xx E))), (3, .int (iZ frq)), (2, .int (iZ r)), (0, .ref (xad Et 0))]) hx hb dL_areLinesRight_307 rfl hl (by decide) rfl (fun ls hl => ?_)
                    refine x_iconst hx hb dL_areLinesRight_308 ?_
                    refine lv_istore (lv' := [(5, .int (iZ 0)), (1, .int (iZ 1)), (4, .ref (xad Et (85 + xx E))), (3, .int (iZ frq)), (2, .int (iZ r)), (0, .ref (xad Et 0))]) hx hb dL_areLinesRight_309 hl (by decide) rfl (fun ls hl => ?_)
                    have hl8 := hln.1
                    have K311 : ∀ (nK : Nat) (k7 : Int) (H : Heap) (locs : List Loc) (ls : Array Slot), ((((rwL (opT B) (lkT B) (kpT B) (wcT B) (pnT B) (nwT B) r 5).length : Nat) : Int) - k7).toNat < nK → (0 ≤ k7 ∧ k7 ≤ (((rwL (opT B) (lkT B) (kpT B) (wcT B) (pnT B) (nwT B) r 5).length : Nat) : Int)) → Hx Et (xA E s.heap.size) s.heap σ7 H locs → lv_has ls 7 [(5, .int (iZ k7)), (1, .int (iZ 1)), (4, .ref (xad Et (85 + xx E))), (3, .int (iZ frq)), (2, .int (iZ r)), (0, .ref (xad Et 0))] → W p l e rm_L_areLinesRight s m args below meth c H locs (((0 + 700 * (r).toNat) + 130 * (k).toNat) + rm_J0_length_d.cells) (((0 + 67000 * (r).toNat) + 13000 * (k).toNat) + rm_J0_length_d.slots) Q (F0 m 311 ls []) := by
                      intro n311
                      induction n311 with
                      | zero =>
                        intro k7 H locs ls hm
                        exact absurd hm (by first | exact Nat.not_lt_zero _ | omega)
                      | succ n311 ih311 =>
                        intro k7 H locs ls hm311 hk7  hH hl
                        refine lv_iload hx hb dL_areLinesRight_311 (lv_at hl 0 rfl) ?_
                        refine lv_aload hx hb dL_areLinesRight_313 (lv_at hl 2 rfl) ?_
                        refine x_aftI (va_runV (As := []) (rest := [.int (iZ k7)]) hF.fx ((c_J0_length_d l Et ST hSF Z hSQ σ7 (85 + xx E) (86 + xx E) (rwL (opT B) (lkT B) (kpT B) (wcT B) (pnT B) (nwT B) r 5).length FF (by omega) ht1 (by omega) ht2 (by omega)) _) (cwV 0 hts (goodIn_t (goodIn_x gK_245)) rfl rfl rfl (by decide +kernel) ⟨Nat.le_of_ble_eq_true rfl, Nat.le_of_ble_eq_true rfl⟩) (hF.prv hH (hF.rcv hH (k0 := 85 + xx E) (by omega) ht1 rfl) []) rfl rfl hl.1 rfl (lv_room (Nat.le_of_ble_eq_true rfl)) dL_areLinesRight_315 ⟨by first | (simp only [rm_J0_length_d, rm_L_areLinesRight, rm_L_ask_13, rm_X6_writeRow0]; omega) | omega, by first | (simp only [rm_J0_length_d, rm_L_areLinesRight, rm_L_ask_13, rm_X6_writeRow0]; omega) | omega⟩) hH (fun z15 σ17 H locs hp16 hH => ?_)
                        obtain ⟨hz9, hu9⟩ := hp16
                        rw [hu9] at hH
                        rw [hz9]
                        refine x_icmp_ge (tgt := 353) hx hb dL_areLinesRight_318 (by decide) (by omega) (by omega) (fun c318 => ?_) (fun c318 => ?_)
                        · have hl := lv_sub hl [1, 4, 5] rfl
                          obtain ⟨w9, fcw_0, hfz, hH⟩ := Hx.top2 hxT fcw_0 hH hfw
                          rw [show xad Et 0 = xad E 0 from (hx0.2.2.2 0 (by omega))] at hl
                          have hK := hF0.2.2.2.2.2.1
                          refine x_iinc (lv' := [(2, .int (iZ (r + 1))), (1, .int (iZ 1)), (0, .ref (xad E 0))]) hx hb dL_areLinesRight_353 hl (k := 1) rfl (by decide) rfl (fun ls hl => ?_)
                          refine lv_goto (tgt := 4) hx hb dL_areLinesRight_356 (by decide) ?_
                          exact W.widen (by first | (simp only [rm_J0_length_d, rm_L_areLinesRight, rm_L_ask_13, rm_X6_writeRow0]; omega) | omega) (by first | (simp only [rm_J0_length_d, rm_L_areLinesRight, rm_L_ask_13, rm_X6_writeRow0]; omega) | omega) (ih4 (r + 1) (lnY B Y9 r) w9 _ _ _ (by omega) (by first | omega | rfl | assumption | simp_all) fcw_0 (fun j hj0 => ((hfz j (by omega)).trans (fr2 j (by omega)))) hH (lv_sub hl [0, 1, 2] rfl))
                        · refine lv_iload_n hx hb dL_areLinesRight_321 rfl (lv_at hl 1 rfl) ?_
                          refine x_if_eq (tgt := 353) hx hb dL_areLinesRight_322 (by decide) (by decide) (fun c322 => ?_) (fun c322 => ?_)
                          · exact absurd c322 (by decide)
                          · refine lv_aload_n hx hb dL_areLinesRight_325 rfl (lv_at hl 5 rfl) ?_
                            refine lv_iload hx hb dL_areLinesRight_326 (lv_at hl 0 rfl) ?_
                            obtain ⟨fs9, hfs9⟩ := fcw_0.o0
                            refine x_cVID (As := [.int (iZ k7)]) (rest := []) hx hb hml hts hown hK hST hOK hH 0 (q_outputAt0 l Et ST hSF σ7 k7 B S (lnY B Y9 r) fcw_0 (by omega) (by omega)) (cwV 1 hts (goodIn_t (goodIn_x gK_248)) rfl rfl rfl (by decide +kernel) ⟨Nat.le_of_ble_eq_true rfl, Nat.le_of_ble_eq_true rfl⟩) (ltw (by decide)) hfs9 rfl rfl hl.1 rfl (Nat.le_of_ble_eq_true rfl) dL_areLinesRight_328 ⟨by first | (simp only [rm_J0_length_d, rm_L_areLinesRight, rm_L_ask_13, rm_X6_outputAt0, rm_X6_writeRow0]; omega) | omega, by first | (simp only [rm_J0_length_d, rm_L_areLinesRight, rm_L_ask_13, rm_X6_outputAt0, rm_X6_writeRow0]; omega) | omega⟩ (fun z u h => h) (fun H locs hH => ?_)
                            refine lv_aload hx hb dL_areLinesRight_331 (lv_at hl 2 rfl) ?_
                            refine lv_iload hx hb dL_areLinesRight_333 (lv_at hl 0 rfl) ?_
                            refine x_aftI (va_runV (As := [.int (iZ k7)]) (rest := [.int (iZ ((lnY B Y9 r).1 k7))]) hF.fx ((c_J0_charAt_d l Et ST hSF Z hSQ σ7 (85 + xx E) (86 + xx E) (rwL (opT B) (lkT B) (kpT B) (wcT B) (pnT B) (nwT B) r 5).length FF k7 (by omega) ht1 (by omega) ht2 (by omega) (by omega) ht3 (by omega)) _) (cwV 1 hts (goodIn_t (goodIn_x gK_222)) rfl rfl rfl (by decide +kernel) ⟨Nat.le_of_ble_eq_true rfl, Nat.le_of_ble_eq_true rfl⟩) (hF.prv hH (hF.rcv hH (k0 := 85 + xx E) (by omega) ht1 rfl) [.int (iZ k7)]) rfl rfl hl.1 rfl (lv_room (Nat.le_of_ble_eq_true rfl)) dL_areLinesRight_335 ⟨by first | (simp only [rm_J0_charAt_d, rm_J0_length_d, rm_L_areLinesRight, rm_L_ask_13, rm_X6_outputAt0, rm_X6_writeRow0]; omega) | omega, by first | (simp only [rm_J0_charAt_d, rm_J0_length_d, rm_L_areLinesRight, rm_L_ask_13, rm_X6_outputAt0, rm_X6_writeRow0]; omega) | omega⟩) hH (fun z21 σ23 H locs hp22 hH => ?_)
                            obtain ⟨hz9, hu9⟩ := hp22
                            rw [hu9] at hH
                            rw [hz9]
                            have h9a := hln.2 k7.toNat (by omega)
                            have h9b := ht4 k7.toNat (by omega)
                            rw [Int.toNat_of_nonneg (by omega)] at h9a h9b
                            have h9c : (lnY B Y9 r).1 k7 = FF k7 := h9a.trans h9b.symm
                            have h9d := ht3 k7 (by omega) (by omega)
                            refine x_icmp_ne (tgt := 345) hx hb dL_areLinesRight_338 (by decide) (by omega) (by omega) (fun c338 => ?_) (fun c338 => ?_)
                            · exact absurd h9c c338
                            · refine x_iconst hx hb dL_areLinesRight_341 ?_
                              refine lv_goto (tgt := 346) hx hb dL_areLinesRight_342 (by decide) ?_
                              refine lv_istore_n (lv' := [(1, .int (iZ 1)), (5, .int (iZ k7)), (4, .ref (xad Et (85 + xx E))), (3, .int (iZ frq)), (2, .int (iZ r)), (0, .ref (xad Et 0))]) hx hb dL_areLinesRight_346 rfl hl (by decide) rfl (fun ls hl => ?_)
                              refine x_iinc (lv' := [(5, .int (iZ (k7 + 1))), (1, .int (iZ 1)), (4, .ref (xad Et (85 + xx E))), (3, .int (iZ frq)), (2, .int (iZ r)), (0, .ref (xad Et 0))]) hx hb dL_areLinesRight_347 hl (k := 1) rfl (by decide) rfl (fun ls hl => ?_)
                              refine lv_goto (tgt := 311) hx hb dL_areLinesRight_350 (by decide) ?_
                              have hl8 := hln.1
                              exact ih311 (k7 + 1) _ _ _ (by omega) (by first | omega | rfl | assumption | simp_all)  hH (lv_sub hl [0, 1, 2, 3, 4, 5] rfl)
                    exact K311 100 0 _ _ _ (by first | omega | decide) (by first | omega | rfl | assumption | simp_all)  hH (lv_sub hl [0, 1, 2, 3, 4, 5] rfl)
            · refine lv_iload_n hx hb dL_areLinesRight_24 rfl (lv_at hl 2 rfl) ?_
              refine lv_aload_n hx hb dL_areLinesRight_25 rfl (lv_at hl 5 rfl) ?_
              refine lv_iload_n hx hb dL_areLinesRight_26 rfl (lv_at hl 3 rfl) ?_
              refine lv_iload hx hb dL_areLinesRight_27 (lv_at hl 0 rfl) ?_
              obtain ⟨fs9, hfs9⟩ := fcw_0.o0
              refine x_cVID (As := [.int (iZ r), .int (iZ k)]) (rest := [.int (iZ frq)]) hx hb hml hts hown hK hST hOK hH 0 (q_isPinned0 l Et ST hSF σ8 r k B S Y9 fcw_0 (by omega) (by omega) (by omega)) (cwV 2 hts (goodIn_t (goodIn_x gK_158)) rfl rfl rfl (by decide +kernel) ⟨Nat.le_of_ble_eq_true rfl, Nat.le_of_ble_eq_true rfl⟩) (ltw (by decide)) hfs9 rfl rfl hl.1 rfl (Nat.le_of_ble_eq_true rfl) dL_areLinesRight_29 ⟨by first | (simp only [rm_L_areLinesRight, rm_X6_isPinned0]; omega) | omega, by first | (simp only [rm_L_areLinesRight, rm_X6_isPinned0]; omega) | omega⟩ (fun z u h => h) (fun H locs hH => ?_)
              have J40 : ∀ (v27 : Int), (v27 = (if fixP (pnT B) (r * 5 + k) then 2 else 3)) → W p l e rm_L_areLinesRight s m args below meth c H locs ((0 + 700 * (r).toNat) + 130 * (k).toNat) ((0 + 67000 * (r).toNat) + 13000 * (k).toNat) Q (F0 m 40 ls [.int (iZ v27), .int (iZ frq)]) := by
                intro v27 hj40
                refine x_iand hx hb dL_areLinesRight_40 ?_
                refine lv_istore_n (lv' := [(3, .int (iZ (iandZ frq v27))), (5, .int (iZ k)), (4, .ref tv), (2, .int (iZ r)), (1, .int (iZ 1)), (0, .ref (xad Et 0))]) hx hb dL_areLinesRight_41 rfl hl (by decide) rfl (fun ls hl => ?_)
                refine lv_iload_n hx hb dL_areLinesRight_42 rfl (lv_at hl 0 rfl) ?_
                refine lv_aload_n hx hb dL_areLinesRight_43 rfl (lv_at hl 5 rfl) ?_
                refine lv_iload hx hb dL_areLinesRight_44 (lv_at hl 1 rfl) ?_
                refine lv_iload_n hx hb dL_areLinesRight_46 rfl (lv_at hl 3 rfl) ?_
                obtain ⟨fs9, hfs9⟩ := fcw_0.o0
                refine x_cVID (As := [.int (iZ k), .int (iZ r)]) (rest := [.int (iZ (iandZ frq v27))]) hx hb hml hts hown hK hST hOK hH 0 (q_isPinned0 l Et ST hSF σ8 k r B S Y9 fcw_0 (by omega) (by omega) (by omega)) (cwV 2 hts (goodIn_t (goodIn_x gK_158)) rfl rfl rfl (by decide +kernel) ⟨Nat.le_of_ble_eq_true rfl, Nat.le_of_ble_eq_true rfl⟩) (ltw (by decide)) hfs9 rfl rfl hl.1 rfl (Nat.le_of_ble_eq_true rfl) dL_areLinesRight_47 ⟨by first | (simp only [rm_L_areLinesRight, rm_X6_isPinned0]; omega) | omega, by first | (simp only [rm_L_areLinesRight, rm_X6_isPinned0]; omega) | omega⟩ (fun z u h => h) (fun H locs hH => ?_)
                have J58 : ∀ (v31 : Int), (v31 = (if fixP (pnT B) (k * 5 + r) then 1 else 3)) → W p l e rm_L_areLinesRight s m args below meth c H locs ((0 + 700 * (r).toNat) + 130 * (k).toNat) ((0 + 67000 * (r).toNat) + 13000 * (k).toNat) Q (F0 m 58 ls [.int (iZ v31), .int (iZ (iandZ frq v27))]) := by
                  intro v31 hj58
                  refine x_iand hx hb dL_areLinesRight_58 ?_
                  refine lv_istore_n (lv' := [(3, .int (iZ (iandZ (iandZ frq v27) v31))), (5, .int (iZ k)), (4, .ref tv), (2, .int (iZ r)), (1, .int (iZ 1)), (0, .ref (xad Et 0))]) hx hb dL_areLinesRight_59 rfl hl (by decide) rfl (fun ls hl => ?_)
                  have hrw := rw48 (op := opT B) (lk := lkT B) (kp := kpT B) (wc := wcT B) (pn := pnT B) (nw := nwT B) (r := r) hk.1 (by omega)
                  have hlk2 := lk2 (lk := lkT B) (ce := r * 5 + k)
                  have hlkr := hlk9 (r * 5 + k)
                  refine r_new (rest := []) hF hSF hSQ hl.1 fcw_0 hH hinJ4L (List.mem_cons_of_mem _ (List.mem_append_right _ mW_599)) (List.mem_cons_of_mem _ (List.mem_append_right _ mW_600)) (List.mem_cons_of_mem _ (List.mem_append_right _ mW_601)) (cwI 0 hts (goodIn_t (goodIn_x gI4)) rfl rfl rfl (hts _ (List.mem_cons_of_mem _ (List.mem_append_right _ mW_601))) (hts _ (List.mem_cons_of_mem _ (List.mem_append_right _ mW_607))) (hts _ (List.mem_cons_of_mem _ (List.mem_append_right _ mW_608))) rfl (by decide +kernel) ⟨Nat.le_of_ble_eq_true rfl, Nat.le_of_ble_eq_true rfl⟩) (Nat.le_of_ble_eq_true rfl) dL_areLinesRight_60 dL_areLinesRight_63 dL_areLinesRight_64 ⟨by first | (simp only [rm_J4_init_da8c8, rm_L_areLinesRight, rm_X6_isPinned0]; omega) | omega, by first | (simp only [rm_J4_init_da8c8, rm_L_areLinesRight, rm_X6_isPinned0]; omega) | omega⟩ (fun E32 σ33 H locs hB35 fcw_0 fr34 hH => ?_)
                  replace hTX := hTX.mv2 fr34
                  replace hF := hF0.mv (hx0.tr hB35.1).1 (hx0.tr hB35.1).2.1
                  replace hK := hF.2.2.2.2.2.1
                  have hxxE32 := (hx0.tr hB35.1).2.2.1
                  rw [show xad Et 0 = xad E32 0 from (hx0.2.2.2 0 (by omega)).trans ((hx0.tr hB35.1).2.2.2 0 (by omega)).symm] at hl
                  replace hfw := fun (j : Nat) (j0 : 85 ≤ j) (j1 : j < 85 + xx E) => (fr34 j j0 (by omega)).trans (hfw j j0 j1)
                  refine lv_aload hx hb dL_areLinesRight_67 (lv_at hl 2 rfl) ?_
                  refine r_apt (rest := []) hF hSF hSQ hl.1 hTX hB35 fcw_0 hH (by first | (simp only [List.length_append, List.length_cons, List.length_nil]; omega) | omega) (cwV 1 hts (goodIn_t (goodIn_x gK_214)) rfl rfl rfl (by decide +kernel) ⟨Nat.le_of_ble_eq_true rfl, Nat.le_of_ble_eq_true rfl⟩) (cwV 1 hts (goodIn_t (goodIn_x gK_214)) rfl rfl rfl (by decide +kernel) ⟨Nat.le_of_ble_eq_true rfl, Nat.le_of_ble_eq_true rfl⟩) (Nat.le_of_ble_eq_true rfl) dL_areLinesRight_69 ⟨by first | (simp only [rm_J4_append_15ec4, rm_J4_init_da8c8, rm_L_areLinesRight, rm_X6_isPinned0]; omega) | omega, by first | (simp only [rm_J4_append_15ec4, rm_J4_init_da8c8, rm_L_areLinesRight, rm_X6_isPinned0]; omega) | omega⟩ (fun E36 σ37 H locs hB39 fcw_0 fr38 hH => ?_)
                  replace hF := hF0.mv hB39.1.1 hB39.1.2.1
                  replace hK := hF.2.2.2.2.2.1
                  have hxxE36 := hB39.1.2.2.1
                  rw [show xad E32 0 = xad E36 0 from ((hx0.tr hB35.1).2.2.2 0 (by omega)).trans (hB39.1.2.2.2 0 (by omega)).symm] at hl
                  replace hfw := fun (j : Nat) (j0 : 85 ≤ j) (j1 : j < 85 + xx E) => (fr38 j j0 (by omega)).trans (hfw j j0 j1)
                  refine lv_iload hx hb dL_areLinesRight_72 (lv_at hl 1 rfl) ?_
                  have J84 : ∀ (v40 : Int), ((k = 0 ∧ v40 = 0) ∨ (¬ k = 0 ∧ v40 = 1)) → W p l e rm_L_areLinesRight s m args below meth c H locs (((((0 + 700 * (r).toNat) + 130 * (k).toNat) + 1) + rm_J4_init_da8c8.cells) + rm_J4_append_15ec4.cells) (((((0 + 67000 * (r).toNat) + 13000 * (k).toNat) + 4) + rm_J4_init_da8c8.slots) + rm_J4_append_15ec4.slots) Q (F0 m 84 ls [.ref (zK Z v40), .ref (xad E36 (85 + xx E))]) := by
                    intro v40 hj84
                    have hs184 := sL1 (i := v40) (by omega)
                    refine r_apl (i := v40) (rest := []) hF hSF hSQ hl.1 (by omega) (by omega) hB39 fcw_0 hH (by first | (simp only [List.length_append, List.length_cons, List.length_nil]; omega) | omega) (cwV 1 hts (goodIn_t (goodIn_x gK_214)) rfl rfl rfl (by decide +kernel) ⟨Nat.le_of_ble_eq_true rfl, Nat.le_of_ble_eq_true rfl⟩) (Nat.le_of_ble_eq_true rfl) dL_areLinesRight_84 ⟨by first | (simp only [rm_J4_append_15ec4, rm_J4_init_da8c8, rm_L_areLinesRight, rm_X6_isPinned0]; omega) | omega, by first | (simp only [rm_J4_append_15ec4, rm_J4_init_da8c8, rm_L_areLinesRight, rm_X6_isPinned0]; omega) | omega⟩ (fun E41 σ42 H locs hB44 fcw_0 fr43 hH => ?_)
                    replace hF := hF0.mv hB44.1.1 hB44.1.2.1
                    replace hK := hF.2.2.2.2.2.1
                    have hxxE41 := hB44.1.2.2.1
                    rw [show xad E36 0 = xad E41 0 from (hB39.1.2.2.2 0 (by omega)).trans (hB44.1.2.2.2 0 (by omega)).symm] at hl
                    replace hfw := fun (j : Nat) (j0 : 85 ≤ j) (j1 : j < 85 + xx E) => (fr43 j j0 (by omega)).trans (hfw j j0 j1)
                    refine x_ldcS (q := zK Z 2) hx hb hown ((hSQ _ _ _ hST).2.2.2.1 2 _ rfl) dL_areLinesRight_87 ?_
                    refine lv_aload_n hx hb dL_areLinesRight_89 rfl (lv_at hl 5 rfl) ?_
                    refine lv_iload_n hx hb dL_areLinesRight_90 rfl (lv_at hl 3 rfl) ?_
                    refine lv_iload hx hb dL_areLinesRight_91 (lv_at hl 1 rfl) ?_
                    obtain ⟨fs9, hfs9⟩ := fcw_0.o0
                    refine x_cVID (As := [.int (iZ r), .int (iZ k)]) (rest := [.ref (zK Z 2), .ref (xad E41 (85 + xx E))]) hx hb hml hts hown hK hST hOK hH 0 (q_openings0 l E41 ST hSF σ42 r k B S Y9 fcw_0 (by omega) (by omega) (by omega)) (cwV 2 hts (goodIn_t (goodIn_x gK_73)) rfl rfl rfl (by decide +kernel) ⟨Nat.le_of_ble_eq_true rfl, Nat.le_of_ble_eq_true rfl⟩) (ltw (by decide)) hfs9 rfl rfl hl.1 rfl (Nat.le_of_ble_eq_true rfl) dL_areLinesRight_93 ⟨by first | (simp only [rm_J4_append_15ec4, rm_J4_init_da8c8, rm_L_areLinesRight, rm_X6_isPinned0, rm_X6_openings0]; omega) | omega, by first | (simp only [rm_J4_append_15ec4, rm_J4_init_da8c8, rm_L_areLinesRight, rm_X6_isPinned0, rm_X6_openings0]; omega) | omega⟩ (fun z u h => h) (fun H locs hH => ?_)
                    have hop9 := hop (r * 5 + k)
                    have hhx := hexZ hop9
                    have hs16 := sl2_16
                    refine x_aftI (va_runV (As := [.int (iZ ((opT B) (r * 5 + k)))]) (rest := [.ref (xad E41 (85 + xx E))]) hF.fx ((c_J0_charAt_5068e l E41 ST hSF Z hSQ σ42 2 ((opT B) (r * 5 + k)) (by decide) (by decide) (by omega) (by omega)) _) (cwV 1 hts (goodIn_t (goodIn_x gK_222)) rfl rfl rfl (by decide +kernel) ⟨Nat.le_of_ble_eq_true rfl, Nat.le_of_ble_eq_true rfl⟩) (hF.prv hH (x_recS hSQ hST hH (i := 2) (by decide) (by decide)) [.int (iZ ((opT B) (r * 5 + k)))]) rfl rfl hl.1 rfl (lv_room (Nat.le_of_ble_eq_true rfl)) dL_areLinesRight_96 ⟨by first | (simp only [rm_J0_charAt_5068e, rm_J4_append_15ec4, rm_J4_init_da8c8, rm_L_areLinesRight, rm_X6_isPinned0, rm_X6_openings0]; omega) | omega, by first | (simp only [rm_J0_charAt_5068e, rm_J4_append_15ec4, rm_J4_init_da8c8, rm_L_areLinesRight, rm_X6_isPinned0, rm_X6_openings0]; omega) | omega⟩) hH (fun z48 σ50 H locs hp49 hH => ?_)
                    obtain ⟨hz9, hu9⟩ := hp49
                    rw [hu9] at hH
                    rw [hz9, hhx.1]
                    refine r_apc (i := tlC ((opT B) (r * 5 + k))) (rest := []) hF hSF hSQ hl.1 (by omega) hB44 fcw_0 hH (by first | (simp only [List.length_append, List.length_cons, List.length_nil]; omega) | omega) (cwV 1 hts (goodIn_t (goodIn_x gK_227)) rfl rfl rfl (by decide +kernel) ⟨Nat.le_of_ble_eq_true rfl, Nat.le_of_ble_eq_true rfl⟩) (Nat.le_of_ble_eq_true rfl) dL_areLinesRight_99 ⟨by first | (simp only [rm_J0_charAt_5068e, rm_J4_append_15ec4, rm_J4_append_cf468, rm_J4_init_da8c8, rm_L_areLinesRight, rm_X6_isPinned0, rm_X6_openings0]; omega) | omega, by first | (simp only [rm_J0_charAt_5068e, rm_J4_append_15ec4, rm_J4_append_cf468, rm_J4_init_da8c8, rm_L_areLinesRight, rm_X6_isPinned0, rm_X6_openings0]; omega) | omega⟩ (fun E51 σ52 H locs hB54 fcw_0 fr53 hH => ?_)
                    replace hF := hF0.mv hB54.1.1 hB54.1.2.1
                    replace hK := hF.2.2.2.2.2.1
                    have hxxE51 := hB54.1.2.2.1
                    rw [show xad E41 0 = xad E51 0 from (hB44.1.2.2.2 0 (by omega)).trans (hB54.1.2.2.2 0 (by omega)).symm] at hl
                    replace hfw := fun (j : Nat) (j0 : 85 ≤ j) (j1 : j < 85 + xx E) => (fr53 j j0 (by omega)).trans (hfw j j0 j1)
                    refine lv_aload_n hx hb dL_areLinesRight_102 rfl (lv_at hl 5 rfl) ?_
                    refine lv_iload_n hx hb dL_areLinesRight_103 rfl (lv_at hl 3 rfl) ?_
                    refine lv_iload hx hb dL_areLinesRight_104 (lv_at hl 1 rfl) ?_
                    obtain ⟨fs9, hfs9⟩ := fcw_0.o0
                    refine x_cVID (As := [.int (iZ r), .int (iZ k)]) (rest := [.ref (xad E51 (85 + xx E))]) hx hb hml hts hown hK hST hOK hH 0 (q_isPinned0 l E51 ST hSF σ52 r k B S Y9 fcw_0 (by omega) (by omega) (by omega)) (cwV 2 hts (goodIn_t (goodIn_x gK_158)) rfl rfl rfl (by decide +kernel) ⟨Nat.le_of_ble_eq_true rfl, Nat.le_of_ble_eq_true rfl⟩) (ltw (by decide)) hfs9 rfl rfl hl.1 rfl (Nat.le_of_ble_eq_true rfl) dL_areLinesRight_106 ⟨by first | (simp only [rm_J0_charAt_5068e, rm_J4_append_15ec4, rm_J4_append_cf468, rm_J4_init_da8c8, rm_L_areLinesRight, rm_X6_isPinned0, rm_X6_openings0]; omega) | omega, by first | (simp only [rm_J0_charAt_5068e, rm_J4_append_15ec4, rm_J4_append_cf468, rm_J4_init_da8c8, rm_L_areLinesRight, rm_X6_isPinned0, rm_X6_openings0]; omega) | omega⟩ (fun z u h => h) (fun H locs hH => ?_)
                    have J119 : ∀ (v58 : Int), ((fixP (pnT B) (r * 5 + k) ∧ v58 = 3) ∨ (¬ fixP (pnT B) (r * 5 + k) ∧ v58 = 0)) → W p l e rm_L_areLinesRight s m args below meth c H locs ((((((((0 + 700 * (r).toNat) + 130 * (k).toNat) + 1) + rm_J4_init_da8c8.cells) + rm_J4_append_15ec4.cells) + rm_J4_append_15ec4.cells) + rm_J0_charAt_5068e.cells) + rm_J4_append_cf468.cells) ((((((((0 + 67000 * (r).toNat) + 13000 * (k).toNat) + 4) + rm_J4_init_da8c8.slots) + rm_J4_append_15ec4.slots) + rm_J4_append_15ec4.slots) + rm_J0_charAt_5068e.slots) + rm_J4_append_cf468.slots) Q (F0 m 119 ls [.ref (zK Z v58), .ref (xad E51 (85 + xx E))]) := by
                      intro v58 hj119
                      have hs1119 := sL1 (i := v58) (by omega)
                      refine r_apl (i := v58) (rest := []) hF hSF hSQ hl.1 (by omega) (by omega) hB54 fcw_0 hH (by first | (simp only [List.length_append, List.length_cons, List.length_nil]; omega) | omega) (cwV 1 hts (goodIn_t (goodIn_x gK_214)) rfl rfl rfl (by decide +kernel) ⟨Nat.le_of_ble_eq_true rfl, Nat.le_of_ble_eq_true rfl⟩) (Nat.le_of_ble_eq_true rfl) dL_areLinesRight_119 ⟨by first | (simp only [rm_J0_charAt_5068e, rm_J4_append_15ec4, rm_J4_append_cf468, rm_J4_init_da8c8, rm_L_areLinesRight, rm_X6_isPinned0, rm_X6_openings0]; omega) | omega, by first | (simp only [rm_J0_charAt_5068e, rm_J4_append_15ec4, rm_J4_append_cf468, rm_J4_init_da8c8, rm_L_areLinesRight, rm_X6_isPinned0, rm_X6_openings0]; omega) | omega⟩ (fun E59 σ60 H locs hB62 fcw_0 fr61 hH => ?_)
                      replace hF := hF0.mv hB62.1.1 hB62.1.2.1
                      replace hK := hF.2.2.2.2.2.1
                      have hxxE59 := hB62.1.2.2.1
                      rw [show xad E51 0 = xad E59 0 from (hB54.1.2.2.2 0 (by omega)).trans (hB62.1.2.2.2 0 (by omega)).symm] at hl
                      replace hfw := fun (j : Nat) (j0 : 85 ≤ j) (j1 : j < 85 + xx E) => (fr61 j j0 (by omega)).trans (hfw j j0 j1)
                      refine lv_aload_n hx hb dL_areLinesRight_122 rfl (lv_at hl 5 rfl) ?_
                      refine lv_iload_n hx hb dL_areLinesRight_123 rfl (lv_at hl 3 rfl) ?_
                      refine lv_iload hx hb dL_areLinesRight_124 (lv_at hl 1 rfl) ?_
                      obtain ⟨fs9, hfs9⟩ := fcw_0.o0
                      refine x_cVID (As := [.int (iZ r), .int (iZ k)]) (rest := [.ref (xad E59 (85 + xx E))]) hx hb hml hts hown hK hST hOK hH 0 (q_hasLock0 l E59 ST hSF σ60 r k B S Y9 fcw_0 (by omega) (by omega) (by omega)) (cwV 2 hts (goodIn_t (goodIn_x gK_187)) rfl rfl rfl (by decide +kernel) ⟨Nat.le_of_ble_eq_true rfl, Nat.le_of_ble_eq_true rfl⟩) (ltw (by decide)) hfs9 rfl rfl hl.1 rfl (Nat.le_of_ble_eq_true rfl) dL_areLinesRight_126 ⟨by first | (simp only [rm_J0_charAt_5068e, rm_J4_append_15ec4, rm_J4_append_cf468, rm_J4_init_da8c8, rm_L_areLinesRight, rm_X6_hasLock0, rm_X6_isPinned0, rm_X6_openings0]; omega) | omega, by first | (simp only [rm_J0_charAt_5068e, rm_J4_append_15ec4, rm_J4_append_cf468, rm_J4_init_da8c8, rm_L_areLinesRight, rm_X6_hasLock0, rm_X6_isPinned0, rm_X6_openings0]; omega) | omega⟩ (fun z u h => h) (fun H locs hH => ?_)
                      have J165 : ∀ (E66 : xE) (σ67 : xW) (H : Heap) (locs : List Loc), BW E E66 σ67 (((((rwL (opT B) (lkT B) (kpT B) (wcT B) (pnT B) (nwT B) r k) ++ sL v40) ++ [tlC ((opT B) (r * 5 + k))]) ++ sL v58) ++ lkL (lkT B) (r * 5 + k)) → cw E66 σ67 B S Y9 → (∀ j : Nat, 85 ≤ j → j < 85 + xx E → σ67 j = σ1 j) → Hx E66 (xA E s.heap.size) s.heap σ67 H locs → lv_has ls 7 [(3, .int (iZ (iandZ (iandZ frq v27) v31))), (5, .int (iZ k)), (4, .ref tv), (2, .int (iZ r)), (1, .int (iZ 1)), (0, .ref (xad E66 0))] → W p l e rm_L_areLinesRight s m args below meth c H locs ((((((((((0 + 700 * (r).toNat) + 130 * (k).toNat) + 1) + rm_J4_init_da8c8.cells) + rm_J4_append_15ec4.cells) + rm_J4_append_15ec4.cells) + rm_J0_charAt_5068e.cells) + rm_J4_append_cf468.cells) + rm_J4_append_15ec4.cells) + 9) ((((((((((0 + 67000 * (r).toNat) + 13000 * (k).toNat) + 4) + rm_J4_init_da8c8.slots) + rm_J4_append_15ec4.slots) + rm_J4_append_15ec4.slots) + rm_J0_charAt_5068e.slots) + rm_J4_append_cf468.slots) + rm_J4_append_15ec4.slots) + 700) Q (F0 m 165 ls [.ref (xad E66 (85 + xx E))]) := by
                        intro E66 σ67 H locs hB68 fcw_0 hfw hH hl
                        have hF := hF0.mv hB68.1.1 hB68.1.2.1
                        have hK := hF.2.2.2.2.2.1
                        have hxxE66 := hB68.1.2.2.1
                        refine lv_aload_n hx hb dL_areLinesRight_165 rfl (lv_at hl 5 rfl) ?_
                        refine x_iconst hx hb dL_areLinesRight_166 ?_
                        refine lv_iload_n hx hb dL_areLinesRight_167 rfl (lv_at hl 3 rfl) ?_
                        refine x_imul hx hb dL_areLinesRight_168 ?_
                        refine lv_iload hx hb dL_areLinesRight_169 (lv_at hl 1 rfl) ?_
                        refine x_iadd hx hb dL_areLinesRight_171 ?_
                        rw [show ((5 * r) + k) = (r * 5 + k) by omega]
                        refine x_aftZ (Z := Z) (c_L_standing l E66 ST hSF Z hSQ σ67 (r * 5 + k) B S Y9 fcw_0 (by omega)) (va_runS (As := [.ref (xad E66 0), .int (iZ (r * 5 + k))]) (rest := [.ref (xad E66 (85 + xx E))]) hF.fx ((c_L_standing l E66 ST hSF Z hSQ σ67 (r * 5 + k) B S Y9 fcw_0 (by omega)) _) (va_cwS 2 hts (goodIn_t gK_238) rfl rfl rfl (by decide +kernel) ⟨Nat.le_of_ble_eq_true rfl, Nat.le_of_ble_eq_true rfl⟩) (hF.pre hH [.ref (xad E66 0), .int (iZ (r * 5 + k))]) rfl rfl hl.1 rfl (lv_room (Nat.le_of_ble_eq_true rfl)) dL_areLinesRight_172 ⟨by first | (simp only [rm_J0_charAt_5068e, rm_J4_append_15ec4, rm_J4_append_cf468, rm_J4_init_da8c8, rm_L_areLinesRight, rm_L_standing, rm_X6_hasLock0, rm_X6_isPinned0, rm_X6_openings0]; omega) | omega, by first | (simp only [rm_J0_charAt_5068e, rm_J4_append_15ec4, rm_J4_append_cf468, rm_J4_init_da8c8, rm_L_areLinesRight, rm_L_standing, rm_X6_hasLock0, rm_X6_isPinned0, rm_X6_openings0]; omega) | omega⟩) hH (fun z69 σ71 H locs hp70 hH => ?_)
                        obtain ⟨hz9, hu9⟩ := hp70
                        rw [hu9] at hH
                        have hwb := wkI_b (wc := wcT B) (nw := nwT B) (ce := (r * 5 + k))
                        rw [← hz9] at hwb
                        have hs1172 := sL1 (i := z69) (by omega)
                        refine r_apl (i := z69) (rest := []) hF hSF hSQ hl.1 (by omega) (by omega) hB68 fcw_0 hH (by first | (simp only [List.length_append, List.length_cons, List.length_nil]; omega) | omega) (cwV 1 hts (goodIn_t (goodIn_x gK_214)) rfl rfl rfl (by decide +kernel) ⟨Nat.le_of_ble_eq_true rfl, Nat.le_of_ble_eq_true rfl⟩) (Nat.le_of_ble_eq_true rfl) dL_areLinesRight_175 ⟨by first | (simp only [rm_J0_charAt_5068e, rm_J4_append_15ec4, rm_J4_append_cf468, rm_J4_init_da8c8, rm_L_areLinesRight, rm_L_standing, rm_X6_hasLock0, rm_X6_isPinned0, rm_X6_openings0]; omega) | omega, by first | (simp only [rm_J0_charAt_5068e, rm_J4_append_15ec4, rm_J4_append_cf468, rm_J4_init_da8c8, rm_L_areLinesRight, rm_L_standing, rm_X6_hasLock0, rm_X6_isPinned0, rm_X6_openings0]; omega) | omega⟩ (fun E72 σ73 H locs hB75 fcw_0 fr74 hH => ?_)
                        replace hF := hF0.mv hB75.1.1 hB75.1.2.1
                        replace hK := hF.2.2.2.2.2.1
                        have hxxE72 := hB75.1.2.2.1
                        rw [show xad E66 0 = xad E72 0 from (hB68.1.2.2.2 0 (by omega)).trans (hB75.1.2.2.2 0 (by omega)).symm] at hl
                        replace hfw := fun (j : Nat) (j0 : 85 ≤ j) (j1 : j < 85 + xx E) => (fr74 j j0 (by omega)).trans (hfw j j0 j1)
                        refine r_ts (rest := []) hF hSF hSQ hl.1 hB75 fcw_0 hH (cwV 0 hts (goodIn_t (goodIn_x gK_234)) rfl rfl rfl (by decide +kernel) ⟨Nat.le_of_ble_eq_true rfl, Nat.le_of_ble_eq_true rfl⟩) (Nat.le_of_ble_eq_true rfl) dL_areLinesRight_178 ⟨by first | (simp only [rm_J0_charAt_5068e, rm_J4_append_15ec4, rm_J4_append_cf468, rm_J4_init_da8c8, rm_J4_toString_0e30d, rm_L_areLinesRight, rm_L_standing, rm_X6_hasLock0, rm_X6_isPinned0, rm_X6_openings0]; omega) | omega, by first | (simp only [rm_J0_charAt_5068e, rm_J4_append_15ec4, rm_J4_append_cf468, rm_J4_init_da8c8, rm_J4_toString_0e30d, rm_L_areLinesRight, rm_L_standing, rm_X6_hasLock0, rm_X6_isPinned0, rm_X6_openings0]; omega) | omega⟩ (fun E76 σ77 H locs hT79 fcw_0 fr78 hH => ?_)
                        replace hF := hF0.mv hT79.1.1 hT79.1.2.1
                        replace hK := hF.2.2.2.2.2.1
                        have hxxE76 := hT79.1.2.2.1
                        rw [show xad E72 0 = xad E76 0 from (hB75.1.2.2.2 0 (by omega)).trans (hT79.1.2.2.2 0 (by omega)).symm] at hl
                        replace hfw := fun (j : Nat) (j0 : 85 ≤ j) (j1 : j < 85 + xx E) => (fr78 j j0 (by omega)).trans (hfw j j0 j1)
                        refine lv_astore (lv' := [(4, .ref (xad E76 (85 + xx E))), (3, .int (iZ (iandZ (iandZ frq v27) v31))), (5, .int (iZ k)), (2, .int (iZ r)), (1, .int (iZ 1)), (0, .ref (xad E76 0))]) hx hb dL_areLinesRight_181 hl (by decide) rfl (fun ls hl => ?_)
                        refine x_iconst hx hb dL_areLinesRight_183 ?_
                        refine lv_istore (lv' := [(6, .int (iZ 0)), (4, .ref (xad E76 (85 + xx E))), (3, .int (iZ (iandZ (iandZ frq v27) v31))), (5, .int (iZ k)), (2, .int (iZ r)), (1, .int (iZ 1)), (0, .ref (xad E76 0))]) hx hb dL_areLinesRight_184 hl (by decide) rfl (fun ls hl => ?_)
                        obtain ⟨X9, hX8⟩ : ∃ X9 : List Int, X9 = (((((rwL (opT B) (lkT B) (kpT B) (wcT B) (pnT B) (nwT B) r k) ++ sL v40) ++ [tlC ((opT B) (r * 5 + k))]) ++ sL v58) ++ lkL (lkT B) (r * 5 + k) ++ sL z69) := ⟨_, rfl⟩
                        rw [← hX8] at hT79
                        have hXl : X9.length ≤ 54 := (by rw [hX8]; simp only [List.length_append, List.length_cons, List.length_nil]; omega)
                        have hX9 : X9 = (rwL (opT B) (lkT B) (kpT B) (wcT B) (pnT B) (nwT B) r k) ++ (if k = 0 then [] else [32]) ++ [tlC ((opT B) (r * 5 + k))] ++ pinL (pnT B) (r * 5 + k) ++ lkL (lkT B) (r * 5 + k) ++ wkL (wcT B) (nwT B) (r * 5 + k) := (by rw [hX8, sL_sep hj84, sL_pin hj119, hz9, sL_wk])
                        have K186 : ∀ (nK : Nat) (n7 : Int) (Eu : xE) (tw : Nat) (σ9 : xW) (H : Heap) (locs : List Loc) (ls : Array Slot), (6 - n7).toNat < nK → (0 ≤ n7 ∧ n7 ≤ 6) → cw Eu σ9 B S Y9 → TX9 Z E Eu σ9 (.ref tw) (X9 ++ kyL (kpT B) (r * 5 + k) n7) → (∀ j : Nat, 85 ≤ j → j < 85 + xx E → σ9 j = σ1 j) → Hx Eu (xA E s.heap.size) s.heap σ9 H locs → lv_has ls 7 [(6, .int (iZ n7)), (5, .int (iZ k)), (4, .ref tw), (3, .int (iZ (iandZ (iandZ frq v27) v31))), (2, .int (iZ r)), (1, .int (iZ 1)), (0, .ref (xad Eu 0))] → W p l e rm_L_areLinesRight s m args below meth c H locs (((0 + 700 * (r).toNat) + 130 * (k).toNat) + 30 + 16 * (n7).toNat) (((0 + 67000 * (r).toNat) + 13000 * (k).toNat) + 2000 + 1700 * (n7).toNat) Q (F0 m 186 ls []) := by
                          intro n186
                          induction n186 with
                          | zero =>
                            intro n7 Eu tw σ9 H locs ls hm
                            exact absurd hm (Nat.not_lt_zero _)
                          | succ n186 ih186 =>
                            intro n7 Eu tw σ9 H locs ls hm186 hn7 fcw_0 hTX hfw hH hl
                            clear hwb hj84 hj119
                            have hnt := Int.toNat_of_nonneg hn7.1
                            replace hm186 : 6 - n7 < (n186 : Int) + 1 := (by omega)
                            obtain ⟨d8, hx8⟩ := hTX.ex
                            have hF := hF0.mv hx8.1 hx8.2.1
                            have hK := hF.2.2.2.2.2.1
                            have hxxu := hx8.2.2.1
                            have hkl := ky6 (kp := kpT B) (ce := (r * 5 + k)) hn7.1
                            refine lv_iload hx hb dL_areLinesRight_186 (lv_at hl 0 rfl) ?_
                            refine x_bipush hx hb dL_areLinesRight_188 (by decide) ?_
                            refine x_icmp_ge (tgt := 266) hx hb dL_areLinesRight_190 (by decide) (by omega) (by decide) (fun c190 => ?_) (fun c190 => ?_)
                            · have e6 : n7 = 6 := (by omega)
                              rw [e6] at hTX
                              refine x_iinc (lv' := [(5, .int (iZ (k + 1))), (6, .int (iZ n7)), (4, .ref tw), (3, .int (iZ (iandZ (iandZ frq v27) v31))), (2, .int (iZ r)), (1, .int (iZ 1)), (0, .ref (xad Eu 0))]) hx hb dL_areLinesRight_266 hl (k := 1) rfl (by decide) rfl (fun ls hl => ?_)
                              refine lv_goto (tgt := 18) hx hb dL_areLinesRight_269 (by decide) ?_
                              have hTX := hTX.eq (tile_eq hk.1 hX9)
                              exact W.widen (by first | (simp only [rm_L_areLinesRight]; omega) | omega) (by first | (simp only [rm_L_areLinesRight]; omega) | omega) (ih18 (k + 1) (iandZ (iandZ frq v27) v31) Eu tw σ9 _ _ _ (by omega) (by omega) (by rw [frK_s hk.1, ← hj40, ← hj58, hfrq]) fcw_0 hTX hfw hH (lv_sub hl [0, 2, 3, 4, 5, 6] rfl))
                            · exact lnKey hF0 hSF hSQ hSX htr (by omega) (by omega) hXl (by omega) (by omega) (by omega) fcw_0 hTX hfw hH (lv_sub hl [0, 1, 2, 3, 4, 5, 6] rfl) (fun E94 σ95 H locs ls hT97 fcw_0 hfw hH hl => W.widen (by omega) (by omega) (ih186 (n7 + 1) E94 (xad E94 (85 + xx E)) σ95 _ _ _ (by omega) (by omega) fcw_0 (Or.inr ⟨hT97, rfl⟩) hfw hH hl))
                        exact W.widen (by first | (simp only [rm_J0_charAt_5068e, rm_J4_append_15ec4, rm_J4_append_cf468, rm_J4_init_da8c8, rm_J4_toString_0e30d, rm_L_areLinesRight, rm_L_standing, rm_X6_hasLock0, rm_X6_isPinned0, rm_X6_openings0]; omega) | omega) (by first | (simp only [rm_J0_charAt_5068e, rm_J4_append_15ec4, rm_J4_append_cf468, rm_J4_init_da8c8, rm_J4_toString_0e30d, rm_L_areLinesRight, rm_L_standing, rm_X6_hasLock0, rm_X6_isPinned0, rm_X6_openings0]; omega) | omega) (K186 7 0 E76 (xad E76 (85 + xx E)) σ77 _ _ _ (by decide) (by decide) fcw_0 (Or.inr ⟨hT79.eq (by rw [kyL_0, List.append_nil]), rfl⟩) hfw hH (lv_sub hl [0, 3, 1, 2, 4, 5, 6] rfl))
                      refine x_ifb_eq (tgt := 160) hx hb dL_areLinesRight_129 (by decide) (fun c129 => ?_) (fun c129 => ?_)
                      · have c129 := of_decide_eq_false c129
                        refine x_ldcS (q := zK Z 0) hx hb hown ((hSQ _ _ _ hST).2.2.2.1 0 _ rfl) dL_areLinesRight_160 ?_
                        have hs1162 : (sL 0).length ≤ 1 := by decide
                        refine r_apl (i := 0) (rest := []) hF hSF hSQ hl.1 (by omega) (by omega) hB62 fcw_0 hH (by first | (simp only [List.length_append, List.length_cons, List.length_nil]; omega) | omega) (cwV 1 hts (goodIn_t (goodIn_x gK_214)) rfl rfl rfl (by decide +kernel) ⟨Nat.le_of_ble_eq_true rfl, Nat.le_of_ble_eq_true rfl⟩) (Nat.le_of_ble_eq_true rfl) dL_areLinesRight_162 ⟨by first | (simp only [rm_J0_charAt_5068e, rm_J4_append_15ec4, rm_J4_append_cf468, rm_J4_init_da8c8, rm_L_areLinesRight, rm_X6_hasLock0, rm_X6_isPinned0, rm_X6_openings0]; omega) | omega, by first | (simp only [rm_J0_charAt_5068e, rm_J4_append_15ec4, rm_J4_append_cf468, rm_J4_init_da8c8, rm_L_areLinesRight, rm_X6_hasLock0, rm_X6_isPinned0, rm_X6_openings0]; omega) | omega⟩ (fun E122 σ123 H locs hB125 fcw_0 fr124 hH => ?_)
                        replace hF := hF0.mv hB125.1.1 hB125.1.2.1
                        replace hK := hF.2.2.2.2.2.1
                        have hxxE122 := hB125.1.2.2.1
                        rw [show xad E59 0 = xad E122 0 from (hB62.1.2.2.2 0 (by omega)).trans (hB125.1.2.2.2 0 (by omega)).symm] at hl
                        replace hfw := fun (j : Nat) (j0 : 85 ≤ j) (j1 : j < 85 + xx E) => (fr124 j j0 (by omega)).trans (hfw j j0 j1)
                        exact W.widen (by first | (simp only [rm_J0_charAt_5068e, rm_J4_append_15ec4, rm_J4_append_cf468, rm_J4_init_da8c8, rm_L_areLinesRight, rm_X6_hasLock0, rm_X6_isPinned0, rm_X6_openings0]; omega) | omega) (by first | (simp only [rm_J0_charAt_5068e, rm_J4_append_15ec4, rm_J4_append_cf468, rm_J4_init_da8c8, rm_L_areLinesRight, rm_X6_hasLock0, rm_X6_isPinned0, rm_X6_openings0]; omega) | omega) (J165 E122 σ123 H locs (hB125.eq (by rw [lk0 (Classical.not_not.mp c129)])) fcw_0 hfw hH (lv_sub hl [0, 1, 2, 3, 4, 5] rfl))
                      · have c129 := of_decide_eq_true c129
                        refine r_new (rest := [.ref (xad E59 (85 + xx E))]) hF hSF hSQ hl.1 fcw_0 hH hinJ4L (List.mem_cons_of_mem _ (List.mem_append_right _ mW_599)) (List.mem_cons_of_mem _ (List.mem_append_right _ mW_600)) (List.mem_cons_of_mem _ (List.mem_append_right _ mW_601)) (cwI 0 hts (goodIn_t (goodIn_x gI4)) rfl rfl rfl (hts _ (List.mem_cons_of_mem _ (List.mem_append_right _ mW_601))) (hts _ (List.mem_cons_of_mem _ (List.mem_append_right _ mW_607))) (hts _ (List.mem_cons_of_mem _ (List.mem_append_right _ mW_608))) rfl (by decide +kernel) ⟨Nat.le_of_ble_eq_true rfl, Nat.le_of_ble_eq_true rfl⟩) (Nat.le_of_ble_eq_true rfl) dL_areLinesRight_132 dL_areLinesRight_135 dL_areLinesRight_136 ⟨by first | (simp only [rm_J0_charAt_5068e, rm_J4_append_15ec4, rm_J4_append_cf468, rm_J4_init_da8c8, rm_L_areLinesRight, rm_X6_hasLock0, rm_X6_isPinned0, rm_X6_openings0]; omega) | omega, by first | (simp only [rm_J0_charAt_5068e, rm_J4_append_15ec4, rm_J4_append_cf468, rm_J4_init_da8c8, rm_L_areLinesRight, rm_X6_hasLock0, rm_X6_isPinned0, rm_X6_openings0]; omega) | omega⟩ (fun E126 σ127 H locs hB129 fcw_0 fr128 hH => ?_)
                        replace hB62 := hB62.mv2 fr128
                        replace hF := hF0.mv (hB62.1.tr hB129.1).1 (hB62.1.tr hB129.1).2.1
                        replace hK := hF.2.2.2.2.2.1
                        have hxxE126 := (hB62.1.tr hB129.1).2.2.1
                        rw [show xad E59 0 = xad E126 0 from (hB62.1.2.2.2 0 (by omega)).trans ((hB62.1.tr hB129.1).2.2.2 0 (by omega)).symm] at hl
                        replace hfw := fun (j : Nat) (j0 : 85 ≤ j) (j1 : j < 85 + xx E) => (fr128 j j0 (by omega)).trans (hfw j j0 j1)
                        refine x_ldcS (q := zK Z 4) hx hb hown ((hSQ _ _ _ hST).2.2.2.1 4 _ rfl) dL_areLinesRight_139 ?_
                        have hs1141 : (sL 4).length ≤ 1 := by decide
                        refine r_apl (i := 4) (rest := [.ref (xad E59 (85 + xx E))]) hF hSF hSQ hl.1 (by omega) (by omega) hB129 fcw_0 hH (by first | (simp only [List.length_append, List.length_cons, List.length_nil]; omega) | omega) (cwV 1 hts (goodIn_t (goodIn_x gK_214)) rfl rfl rfl (by decide +kernel) ⟨Nat.le_of_ble_eq_true rfl, Nat.le_of_ble_eq_true rfl⟩) (Nat.le_of_ble_eq_true rfl) dL_areLinesRight_141 ⟨by first | (simp only [rm_J0_charAt_5068e, rm_J4_append_15ec4, rm_J4_append_cf468, rm_J4_init_da8c8, rm_L_areLinesRight, rm_X6_hasLock0, rm_X6_isPinned0, rm_X6_openings0]; omega) | omega, by first | (simp only [rm_J0_charAt_5068e, rm_J4_append_15ec4, rm_J4_append_cf468, rm_J4_init_da8c8, rm_L_areLinesRight, rm_X6_hasLock0, rm_X6_isPinned0, rm_X6_openings0]; omega) | omega⟩ (fun E130 σ131 H locs hB133 fcw_0 fr132 hH => ?_)
                        replace hB62 := hB62.mv2 fr132
                        replace hF := hF0.mv (hB62.1.tr hB133.1).1 (hB62.1.tr hB133.1).2.1
                        replace hK := hF.2.2.2.2.2.1
                        have hxxE130 := (hB62.1.tr hB133.1).2.2.1
                        rw [show xad E126 0 = xad E130 0 from ((hB62.1.tr hB129.1).2.2.2 0 (by omega)).trans ((hB62.1.tr hB133.1).2.2.2 0 (by omega)).symm] at hl
                        replace hfw := fun (j : Nat) (j0 : 85 ≤ j) (j1 : j < 85 + xx E) => (fr132 j j0 (by omega)).trans (hfw j j0 j1)
                        refine lv_aload_n hx hb dL_areLinesRight_144 rfl (lv_at hl 5 rfl) ?_
                        refine lv_iload_n hx hb dL_areLinesRight_145 rfl (lv_at hl 3 rfl) ?_
                        refine lv_iload hx hb dL_areLinesRight_146 (lv_at hl 1 rfl) ?_
                        obtain ⟨fs9, hfs9⟩ := fcw_0.o0
                        refine x_cVID (As := [.int (iZ r), .int (iZ k)]) (rest := [.ref (xad E130 (85 + xx E59)), .ref (xad E59 (85 + xx E))]) hx hb hml hts hown hK hST hOK hH 0 (q_lockAt0 l E130 ST hSF σ131 r k B S Y9 fcw_0 (by omega) (by omega) (by omega) c129) (cwV 2 hts (goodIn_t (goodIn_x gK_76)) rfl rfl rfl (by decide +kernel) ⟨Nat.le_of_ble_eq_true rfl, Nat.le_of_ble_eq_true rfl⟩) (ltw (by decide)) hfs9 rfl rfl hl.1 rfl (Nat.le_of_ble_eq_true rfl) dL_areLinesRight_148 ⟨by first | (simp only [rm_J0_charAt_5068e, rm_J4_append_15ec4, rm_J4_append_cf468, rm_J4_init_da8c8, rm_L_areLinesRight, rm_X6_hasLock0, rm_X6_isPinned0, rm_X6_lockAt0, rm_X6_openings0]; omega) | omega, by first | (simp only [rm_J0_charAt_5068e, rm_J4_append_15ec4, rm_J4_append_cf468, rm_J4_init_da8c8, rm_L_areLinesRight, rm_X6_hasLock0, rm_X6_isPinned0, rm_X6_lockAt0, rm_X6_openings0]; omega) | omega⟩ (fun z u h => h) (fun H locs hH => ?_)
                        refine r_apc (i := 97 + (lkT B) (r * 5 + k)) (rest := [.ref (xad E59 (85 + xx E))]) hF hSF hSQ hl.1 (by omega) hB133 fcw_0 hH (by first | (simp only [List.length_append, List.length_cons, List.length_nil]; omega) | omega) (cwV 1 hts (goodIn_t (goodIn_x gK_227)) rfl rfl rfl (by decide +kernel) ⟨Nat.le_of_ble_eq_true rfl, Nat.le_of_ble_eq_true rfl⟩) (Nat.le_of_ble_eq_true rfl) dL_areLinesRight_151 ⟨by first | (simp only [rm_J0_charAt_5068e, rm_J4_append_15ec4, rm_J4_append_cf468, rm_J4_init_da8c8, rm_L_areLinesRight, rm_X6_hasLock0, rm_X6_isPinned0, rm_X6_lockAt0, rm_X6_openings0]; omega) | omega, by first | (simp only [rm_J0_charAt_5068e, rm_J4_append_15ec4, rm_J4_append_cf468, rm_J4_init_da8c8, rm_L_areLinesRight, rm_X6_hasLock0, rm_X6_isPinned0, rm_X6_lockAt0, rm_X6_openings0]; omega) | omega⟩ (fun E137 σ138 H locs hB140 fcw_0 fr139 hH => ?_)
                        replace hB62 := hB62.mv2 fr139
                        replace hF := hF0.mv (hB62.1.tr hB140.1).1 (hB62.1.tr hB140.1).2.1
                        replace hK := hF.2.2.2.2.2.1
                        have hxxE137 := (hB62.1.tr hB140.1).2.2.1
                        rw [show xad E130 0 = xad E137 0 from ((hB62.1.tr hB133.1).2.2.2 0 (by omega)).trans ((hB62.1.tr hB140.1).2.2.2 0 (by omega)).symm] at hl
                        replace hfw := fun (j : Nat) (j0 : 85 ≤ j) (j1 : j < 85 + xx E) => (fr139 j j0 (by omega)).trans (hfw j j0 j1)
                        refine r_ts (rest := [.ref (xad E59 (85 + xx E))]) hF hSF hSQ hl.1 hB140 fcw_0 hH (cwV 0 hts (goodIn_t (goodIn_x gK_234)) rfl rfl rfl (by decide +kernel) ⟨Nat.le_of_ble_eq_true rfl, Nat.le_of_ble_eq_true rfl⟩) (Nat.le_of_ble_eq_true rfl) dL_areLinesRight_154 ⟨by first | (simp only [rm_J0_charAt_5068e, rm_J4_append_15ec4, rm_J4_append_cf468, rm_J4_init_da8c8, rm_J4_toString_0e30d, rm_L_areLinesRight, rm_X6_hasLock0, rm_X6_isPinned0, rm_X6_lockAt0, rm_X6_openings0]; omega) | omega, by first | (simp only [rm_J0_charAt_5068e, rm_J4_append_15ec4, rm_J4_append_cf468, rm_J4_init_da8c8, rm_J4_toString_0e30d, rm_L_areLinesRight, rm_X6_hasLock0, rm_X6_isPinned0, rm_X6_lockAt0, rm_X6_openings0]; omega) | omega⟩ (fun E141 σ142 H locs hT144 fcw_0 fr143 hH => ?_)
                        replace hB62 := hB62.mv2 fr143
                        replace hF := hF0.mv (hB62.1.tr hT144.1).1 (hB62.1.tr hT144.1).2.1
                        replace hK := hF.2.2.2.2.2.1
                        have hxxE141 := (hB62.1.tr hT144.1).2.2.1
                        rw [show xad E137 0 = xad E141 0 from ((hB62.1.tr hB140.1).2.2.2 0 (by omega)).trans ((hB62.1.tr hT144.1).2.2.2 0 (by omega)).symm] at hl
                        replace hfw := fun (j : Nat) (j0 : 85 ≤ j) (j1 : j < 85 + xx E) => (fr143 j j0 (by omega)).trans (hfw j j0 j1)
                        refine lv_goto (tgt := 162) hx hb dL_areLinesRight_157 (by decide) ?_
                        rw [show xad E59 (85 + xx E) = xad E141 (85 + xx E) from (hT144.1.2.2.2 _ (by omega)).symm]
                        refine r_apd (rest := []) hF hSF hSQ hl.1 hB62 hT144 fcw_0 hH (by first | (simp only [List.length_append, List.length_cons, List.length_nil]; omega) | omega) (cwV 1 hts (goodIn_t (goodIn_x gK_214)) rfl rfl rfl (by decide +kernel) ⟨Nat.le_of_ble_eq_true rfl, Nat.le_of_ble_eq_true rfl⟩) (Nat.le_of_ble_eq_true rfl) dL_areLinesRight_162 ⟨by first | (simp only [rm_J0_charAt_5068e, rm_J4_append_15ec4, rm_J4_append_cf468, rm_J4_append_d, rm_J4_init_da8c8, rm_J4_toString_0e30d, rm_L_areLinesRight, rm_X6_hasLock0, rm_X6_isPinned0, rm_X6_lockAt0, rm_X6_openings0]; omega) | omega, by first | (simp only [rm_J0_charAt_5068e, rm_J4_append_15ec4, rm_J4_append_cf468, rm_J4_append_d, rm_J4_init_da8c8, rm_J4_toString_0e30d, rm_L_areLinesRight, rm_X6_hasLock0, rm_X6_isPinned0, rm_X6_lockAt0, rm_X6_openings0]; omega) | omega⟩ (fun E145 σ146 H locs hB148 fcw_0 fr147 hH => ?_)
                        replace hF := hF0.mv hB148.1.1 hB148.1.2.1
                        replace hK := hF.2.2.2.2.2.1
                        have hxxE145 := hB148.1.2.2.1
                        rw [show xad E141 0 = xad E145 0 from ((hB62.1.tr hT144.1).2.2.2 0 (by omega)).trans (hB148.1.2.2.2 0 (by omega)).symm] at hl
                        replace hfw := fun (j : Nat) (j0 : 85 ≤ j) (j1 : j < 85 + xx E) => (fr147 j j0 (by omega)).trans (hfw j j0 j1)
                        exact W.widen (by first | (simp only [rm_J0_charAt_5068e, rm_J4_append_15ec4, rm_J4_append_cf468, rm_J4_append_d, rm_J4_init_da8c8, rm_J4_toString_0e30d, rm_L_areLinesRight, rm_X6_hasLock0, rm_X6_isPinned0, rm_X6_lockAt0, rm_X6_openings0]; omega) | omega) (by first | (simp only [rm_J0_charAt_5068e, rm_J4_append_15ec4, rm_J4_append_cf468, rm_J4_append_d, rm_J4_init_da8c8, rm_J4_toString_0e30d, rm_L_areLinesRight, rm_X6_hasLock0, rm_X6_isPinned0, rm_X6_lockAt0, rm_X6_openings0]; omega) | omega) (J165 E145 σ146 H locs (hB148.eq (by rw [lkM c129])) fcw_0 hfw hH (lv_sub hl [0, 1, 2, 3, 4, 5] rfl))
                    refine x_ifb_eq (tgt := 117) hx hb dL_areLinesRight_109 (by decide) (fun c109 => ?_) (fun c109 => ?_)
                    · have c109 := of_decide_eq_false c109
                      refine x_ldcS (q := zK Z 0) hx hb hown ((hSQ _ _ _ hST).2.2.2.1 0 _ rfl) dL_areLinesRight_117 ?_
                      exact J119 0 (by first | exact Or.inl ⟨c109, rfl⟩ | exact Or.inr ⟨c109, rfl⟩ | rw [if_pos c109] | rw [if_neg c109])
                    · have c109 := of_decide_eq_true c109
                      refine x_ldcS (q := zK Z 3) hx hb hown ((hSQ _ _ _ hST).2.2.2.1 3 _ rfl) dL_areLinesRight_112 ?_
                      refine lv_goto (tgt := 119) hx hb dL_areLinesRight_114 (by decide) ?_
                      exact J119 3 (by first | exact Or.inl ⟨c109, rfl⟩ | exact Or.inr ⟨c109, rfl⟩ | rw [if_pos c109] | rw [if_neg c109])
                  refine x_if_ne (tgt := 82) hx hb dL_areLinesRight_74 (by decide) (by omega) (fun c74 => ?_) (fun c74 => ?_)
                  · refine x_ldcS (q := zK Z 1) hx hb hown ((hSQ _ _ _ hST).2.2.2.1 1 _ rfl) dL_areLinesRight_82 ?_
                    exact J84 1 (by first | exact Or.inl ⟨c74, rfl⟩ | exact Or.inr ⟨c74, rfl⟩ | rw [if_pos c74] | rw [if_neg c74])
                  · refine x_ldcS (q := zK Z 0) hx hb hown ((hSQ _ _ _ hST).2.2.2.1 0 _ rfl) dL_areLinesRight_77 ?_
                    refine lv_goto (tgt := 84) hx hb dL_areLinesRight_79 (by decide) ?_
                    exact J84 0 (by first | exact Or.inl ⟨c74, rfl⟩ | exact Or.inr ⟨c74, rfl⟩ | rw [if_pos c74] | rw [if_neg c74])
                refine x_ifb_eq (tgt := 57) hx hb dL_areLinesRight_50 (by decide) (fun c50 => ?_) (fun c50 => ?_)
                · have c50 := of_decide_eq_false c50
                  refine x_iconst hx hb dL_areLinesRight_57 ?_
                  exact J58 3 (by first | exact Or.inl ⟨c50, rfl⟩ | exact Or.inr ⟨c50, rfl⟩ | rw [if_pos c50] | rw [if_neg c50])
                · have c50 := of_decide_eq_true c50
                  refine x_iconst hx hb dL_areLinesRight_53 ?_
                  refine lv_goto (tgt := 58) hx hb dL_areLinesRight_54 (by decide) ?_
                  exact J58 1 (by first | exact Or.inl ⟨c50, rfl⟩ | exact Or.inr ⟨c50, rfl⟩ | rw [if_pos c50] | rw [if_neg c50])
              refine x_ifb_eq (tgt := 39) hx hb dL_areLinesRight_32 (by decide) (fun c32 => ?_) (fun c32 => ?_)
              · have c32 := of_decide_eq_false c32
                refine x_iconst hx hb dL_areLinesRight_39 ?_
                exact J40 3 (by first | exact Or.inl ⟨c32, rfl⟩ | exact Or.inr ⟨c32, rfl⟩ | rw [if_pos c32] | rw [if_neg c32])
              · have c32 := of_decide_eq_true c32
                refine x_iconst hx hb dL_areLinesRight_35 ?_
                refine lv_goto (tgt := 40) hx hb dL_areLinesRight_36 (by decide) ?_
                exact J40 2 (by first | exact Or.inl ⟨c32, rfl⟩ | exact Or.inr ⟨c32, rfl⟩ | rw [if_pos c32] | rw [if_neg c32])
        exact W.widen (by first | (simp only [rm_L_areLinesRight]; omega) | omega) (by first | (simp only [rm_L_areLinesRight]; omega) | omega) (K18 6 0 3 E (zK Z 0) σ1 _ _ _ (by decide) (by decide) rfl fcw_0 (Or.inl ⟨rfl, rfl, rwL_0⟩) (fun _ _ _ => rfl) hH (lv_sub hl [0, 1, 2, 3, 4, 5] rfl))
  exact W.widen (by first | (simp only [rm_L_areLinesRight]; omega) | omega) (by first | (simp only [rm_L_areLinesRight]; omega) | omega) (K4 6 0 Y σ _ _ _ (by first | omega | decide) (by first | omega | rfl | assumption | simp_all) fcw_0 (fun j _ => rfl) hH (lv_sub hl [0, 1, 2] rfl))

