def rm_L_areTilesRight : Room := { frames := 21, cells := 200, slots := 1300, locals := 326 }
set_option maxRecDepth 100000 in
set_option maxHeartbeats 4000000 in
theorem c_L_areTilesRight (l : Launch) (E : xE) (ST : xST) (hSF : SF ST) (hSX : SX ST) (htr : l.stackTraces = false) (σ : xW) (B : BT) (S : Option BT) (Y : lnQ) (hr0 : cw E σ B S Y) : CI l E ST yL_areTilesRight wML_areTilesRight rm_L_areTilesRight [.ref (xad E 0)] σ (fun (z : Int) (u : xW) => z = b2 true ∧ (cw E u B S Y) ∧ ∀ j : Nat, (j < 0 ∨ 0 + 85 ≤ j) → u j = σ j) := by
  have fcw_0 : cw E σ B S Y := hr0
  refine CI_of (by decide) rfl (Nat.le_of_ble_eq_true rfl) ?_
  intro p e s m args below meth c Q ls G hH hl hQ
  obtain ⟨hx, hb, hml, hown, hts, hK, hST, hlocks, hr, hno⟩ := G
  have hOK := hSF.1
  have hown : s.vm.findClass RL = some m.cls := hown
  have hl : lv_has ls 7 [(0, .ref (xad E 0))] := hl
  obtain ⟨hop, hlk9, hkp, hwc9, hpn, hnw⟩ : BI (opT B) (lkT B) (kpT B) (wcT B) (pnT B) (nwT B) := fcw_0.bit
  have hng : 0 ≤ ngZ (opT B) ∧ ngZ (opT B) ≤ 25 := cnbN_le _ 25
  refine x_bipush hx hb dL_areTilesRight_0 (by decide) ?_
  refine x_newI (n := 25) (N := 25) hx hb hts hK hH fcw_0 (List.mem_cons_of_mem _ (List.mem_append_right _ mW_38)) rfl (by decide) (Nat.le_of_ble_eq_true rfl) (Nat.le_of_ble_eq_true rfl) dL_areTilesRight_2 (fun E1 g2 σ3 H hE5 hK hH fcw_0 fg2_0 fr4 => ?_)
  have hgg2 := hE5.lt
  rw [← hE5.2.2.2.2 0 (by omega)] at hl
  refine lv_astore_n (lv' := [(1, .ref (xad E1 g2)), (0, .ref (xad E1 0))]) hx hb dL_areTilesRight_4 rfl hl (by decide) rfl (fun ls hl => ?_)
  refine x_iconst hx hb dL_areTilesRight_5 ?_
  refine lv_istore_n (lv' := [(2, .int (iZ 0)), (1, .ref (xad E1 g2)), (0, .ref (xad E1 0))]) hx hb dL_areTilesRight_6 rfl hl (by decide) rfl (fun ls hl => ?_)
  refine lv_aload_n hx hb dL_areTilesRight_7 rfl (lv_at hl 2 rfl) ?_
  refine x_iconst hx hb dL_areTilesRight_8 ?_
  refine x_iconst hx hb dL_areTilesRight_9 ?_
  refine x_iconst hx hb dL_areTilesRight_10 ?_
  refine x_iconst hx hb dL_areTilesRight_11 ?_
  refine x_cSW (As := [.ref (xad E1 0), .int (iZ 0), .int (iZ 5), .int (iZ 0), .int (iZ 0)]) (rest := []) hx hb hml hts hown hK hST hOK hH (c_L_ask_0b l E1 ST hSF hSX htr σ3 5 0 0 B S Y fcw_0 (by omega) (by omega) (by omega) (by omega)) (vx_cwSW 5 hts (goodIn_t gK_162) rfl rfl rfl (by decide +kernel) ⟨Nat.le_of_ble_eq_true rfl, Nat.le_of_ble_eq_true rfl⟩) rfl hl.1 rfl (Nat.le_of_ble_eq_true rfl) dL_areTilesRight_12 ⟨Nat.le_of_ble_eq_true rfl, Nat.le_of_ble_eq_true rfl⟩ (fun z6 σ7 H locs hp8 hH => ?_)
  obtain ⟨hq9, hu9⟩ := hp8
  subst hq9
  rw [hu9] at hH
  refine x_sipush hx hb dL_areTilesRight_15 (by decide) ?_
  refine x_icmp_ne (tgt := 97) hx hb dL_areTilesRight_18 (by decide) (by decide) (by decide) (fun c18 => ?_) (fun c18 => ?_)
  · exact absurd c18 (by decide)
  · refine lv_aload_n hx hb dL_areTilesRight_21 rfl (lv_at hl 2 rfl) ?_
    refine x_iconst hx hb dL_areTilesRight_22 ?_
    refine x_iconst hx hb dL_areTilesRight_23 ?_
    refine x_iconst hx hb dL_areTilesRight_24 ?_
    refine x_iconst hx hb dL_areTilesRight_25 ?_
    refine x_cSW (As := [.ref (xad E1 0), .int (iZ 0), .int (iZ 0), .int (iZ (-1)), .int (iZ 0)]) (rest := []) hx hb hml hts hown hK hST hOK hH (c_L_ask_0b l E1 ST hSF hSX htr σ3 0 (-1) 0 B S Y fcw_0 (by omega) (by omega) (by omega) (by omega)) (vx_cwSW 5 hts (goodIn_t gK_162) rfl rfl rfl (by decide +kernel) ⟨Nat.le_of_ble_eq_true rfl, Nat.le_of_ble_eq_true rfl⟩) rfl hl.1 rfl (Nat.le_of_ble_eq_true rfl) dL_areTilesRight_26 ⟨Nat.le_of_ble_eq_true rfl, Nat.le_of_ble_eq_true rfl⟩ (fun z9 σ10 H locs hp11 hH => ?_)
    obtain ⟨hq9, hu9⟩ := hp11
    subst hq9
    rw [hu9] at hH
    refine x_sipush hx hb dL_areTilesRight_29 (by decide) ?_
    refine x_icmp_ne (tgt := 97) hx hb dL_areTilesRight_32 (by decide) (by decide) (by decide) (fun c32 => ?_) (fun c32 => ?_)
    · exact absurd c32 (by decide)
    · refine lv_aload_n hx hb dL_areTilesRight_35 rfl (lv_at hl 2 rfl) ?_
      refine x_iconst hx hb dL_areTilesRight_36 ?_
      refine x_iconst hx hb dL_areTilesRight_37 ?_
      refine x_iconst hx hb dL_areTilesRight_38 ?_
      refine x_iconst hx hb dL_areTilesRight_39 ?_
      refine x_cSW (As := [.ref (xad E1 0), .int (iZ 2), .int (iZ 0), .int (iZ 0), .int (iZ 4)]) (rest := []) hx hb hml hts hown hK hST hOK hH (c_L_ask_2b l E1 ST hSF hSX htr σ3 0 0 4 B S Y fcw_0 (by omega) (by omega) (by omega) (by omega) (by omega)) (vx_cwSW 5 hts (goodIn_t gK_162) rfl rfl rfl (by decide +kernel) ⟨Nat.le_of_ble_eq_true rfl, Nat.le_of_ble_eq_true rfl⟩) rfl hl.1 rfl (Nat.le_of_ble_eq_true rfl) dL_areTilesRight_40 ⟨Nat.le_of_ble_eq_true rfl, Nat.le_of_ble_eq_true rfl⟩ (fun z12 σ13 H locs hp14 hH => ?_)
      obtain ⟨hq9, hu9⟩ := hp14
      subst hq9
      rw [hu9] at hH
      refine x_sipush hx hb dL_areTilesRight_43 (by decide) ?_
      refine x_icmp_ne (tgt := 97) hx hb dL_areTilesRight_46 (by decide) (by decide) (by decide) (fun c46 => ?_) (fun c46 => ?_)
      · exact absurd c46 (by decide)
      · refine lv_aload_n hx hb dL_areTilesRight_49 rfl (lv_at hl 2 rfl) ?_
        refine x_bipush hx hb dL_areTilesRight_50 (by decide) ?_
        refine x_iconst hx hb dL_areTilesRight_52 ?_
        refine x_iconst hx hb dL_areTilesRight_53 ?_
        refine x_iconst hx hb dL_areTilesRight_54 ?_
        refine x_cSW (As := [.ref (xad E1 0), .int (iZ 13), .int (iZ 5), .int (iZ 0), .int (iZ 0)]) (rest := []) hx hb hml hts hown hK hST hOK hH (c_L_ask_13b l E1 ST hSF hSX htr σ3 5 0 0 B S Y fcw_0 (by omega) (by omega) (by omega) (by omega)) (vx_cwSW 5 hts (goodIn_t gK_162) rfl rfl rfl (by decide +kernel) ⟨Nat.le_of_ble_eq_true rfl, Nat.le_of_ble_eq_true rfl⟩) rfl hl.1 rfl (Nat.le_of_ble_eq_true rfl) dL_areTilesRight_55 ⟨Nat.le_of_ble_eq_true rfl, Nat.le_of_ble_eq_true rfl⟩ (fun z15 σ16 H locs hp17 hH => ?_)
        obtain ⟨hq9, hu9⟩ := hp17
        subst hq9
        rw [hu9] at hH
        refine x_sipush hx hb dL_areTilesRight_58 (by decide) ?_
        refine x_icmp_ne (tgt := 97) hx hb dL_areTilesRight_61 (by decide) (by decide) (by decide) (fun c61 => ?_) (fun c61 => ?_)
        · exact absurd c61 (by decide)
        · refine lv_aload_n hx hb dL_areTilesRight_64 rfl (lv_at hl 2 rfl) ?_
          refine x_iconst hx hb dL_areTilesRight_65 ?_
          refine x_bipush hx hb dL_areTilesRight_66 (by decide) ?_
          refine x_iconst hx hb dL_areTilesRight_68 ?_
          refine x_iconst hx hb dL_areTilesRight_69 ?_
          refine x_cSW (As := [.ref (xad E1 0), .int (iZ 3), .int (iZ 6), .int (iZ 0), .int (iZ 0)]) (rest := []) hx hb hml hts hown hK hST hOK hH (c_L_ask_3b l E1 ST hSF hSX htr σ3 6 0 0 B S Y fcw_0 (by omega)) (vx_cwSW 5 hts (goodIn_t gK_162) rfl rfl rfl (by decide +kernel) ⟨Nat.le_of_ble_eq_true rfl, Nat.le_of_ble_eq_true rfl⟩) rfl hl.1 rfl (Nat.le_of_ble_eq_true rfl) dL_areTilesRight_70 ⟨Nat.le_of_ble_eq_true rfl, Nat.le_of_ble_eq_true rfl⟩ (fun z18 σ19 H locs hp20 hH => ?_)
          obtain ⟨hq9, hu9⟩ := hp20
          subst hq9
          rw [hu9] at hH
          refine x_sipush hx hb dL_areTilesRight_73 (by decide) ?_
          refine x_icmp_ne (tgt := 97) hx hb dL_areTilesRight_76 (by decide) (by decide) (by decide) (fun c76 => ?_) (fun c76 => ?_)
          · exact absurd c76 (by decide)
          · refine lv_aload_n hx hb dL_areTilesRight_79 rfl (lv_at hl 2 rfl) ?_
            refine x_iconst hx hb dL_areTilesRight_80 ?_
            refine x_iconst hx hb dL_areTilesRight_81 ?_
            refine x_iconst hx hb dL_areTilesRight_82 ?_
            refine x_iconst hx hb dL_areTilesRight_83 ?_
            refine x_cSW (As := [.ref (xad E1 0), .int (iZ 4), .int (iZ (-1)), .int (iZ 0), .int (iZ 0)]) (rest := []) hx hb hml hts hown hK hST hOK hH (c_L_ask_4b l E1 ST hSF hSX htr σ3 (-1) 0 0 B S Y fcw_0 (by omega)) (vx_cwSW 5 hts (goodIn_t gK_162) rfl rfl rfl (by decide +kernel) ⟨Nat.le_of_ble_eq_true rfl, Nat.le_of_ble_eq_true rfl⟩) rfl hl.1 rfl (Nat.le_of_ble_eq_true rfl) dL_areTilesRight_84 ⟨Nat.le_of_ble_eq_true rfl, Nat.le_of_ble_eq_true rfl⟩ (fun z21 σ22 H locs hp23 hH => ?_)
            obtain ⟨hq9, hu9⟩ := hp23
            subst hq9
            rw [hu9] at hH
            refine x_sipush hx hb dL_areTilesRight_87 (by decide) ?_
            refine x_icmp_ne (tgt := 97) hx hb dL_areTilesRight_90 (by decide) (by decide) (by decide) (fun c90 => ?_) (fun c90 => ?_)
            · exact absurd c90 (by decide)
            · refine x_iconst hx hb dL_areTilesRight_93 ?_
              refine lv_goto (tgt := 98) hx hb dL_areTilesRight_94 (by decide) ?_
              refine lv_istore_n (lv' := [(3, .int (iZ 1)), (2, .int (iZ 0)), (1, .ref (xad E1 g2)), (0, .ref (xad E1 0))]) hx hb dL_areTilesRight_98 rfl hl (by decide) rfl (fun ls hl => ?_)
              refine x_iconst hx hb dL_areTilesRight_99 ?_
              refine lv_istore (lv' := [(4, .int (iZ 0)), (3, .int (iZ 1)), (2, .int (iZ 0)), (1, .ref (xad E1 g2)), (0, .ref (xad E1 0))]) hx hb dL_areTilesRight_100 hl (by decide) rfl (fun ls hl => ?_)
              have K102 : ∀ (nK : Nat) (su k : Int) (g : Int → Int) (σ24 : xW) (H : Heap) (locs : List Loc) (ls : Array Slot), (25 - k).toNat < nK → (0 ≤ k ∧ k ≤ 25) → (∀ j : Int, 0 ≤ j → j < k → g j = j) → (su = smK (fun c => bcZ (opT B c)) k ∧ 0 ≤ su ∧ su ≤ 4 * k) → cw E1 σ24 B S Y → σ24 g2 = aI E1 25 g → (∀ j : Nat, j ≠ g2 → σ24 j = σ3 j) → Hx E1 (xA E s.heap.size) s.heap σ24 H locs → lv_has ls 7 [(4, .int (iZ k)), (3, .int (iZ 1)), (2, .int (iZ su)), (1, .ref (xad E1 g2)), (0, .ref (xad E1 0))] → W p l e rm_L_areTilesRight s m args below meth c H locs ((((((((0 + 1) + rm_L_ask_0b.cells) + rm_L_ask_0b.cells) + rm_L_ask_2b.cells) + rm_L_ask_13b.cells) + rm_L_ask_3b.cells) + rm_L_ask_4b.cells) + 7 * (k).toNat) ((((((((0 + 25) + rm_L_ask_0b.slots) + rm_L_ask_0b.slots) + rm_L_ask_2b.slots) + rm_L_ask_13b.slots) + rm_L_ask_3b.slots) + rm_L_ask_4b.slots) + 42 * (k).toNat) Q (F0 m 102 ls []) := by
                intro n102
                induction n102 with
                | zero =>
                  intro su k g σ24 H locs ls hm
                  exact absurd hm (by first | exact Nat.not_lt_zero _ | omega)
                | succ n102 ih102 =>
                  intro su k g σ24 H locs ls hm102 hk hg hsu fcw_0 fg2_0 fr25 hH hl
                  refine lv_iload hx hb dL_areTilesRight_102 (lv_at hl 0 rfl) ?_
                  refine x_bipush hx hb dL_areTilesRight_104 (by decide) ?_
                  refine x_icmp_ge (tgt := 304) hx hb dL_areTilesRight_106 (by decide) (by omega) (by decide) (fun c106 => ?_) (fun c106 => ?_)
                  · refine x_iconst hx hb dL_areTilesRight_304 ?_
                    refine lv_istore (lv' := [(4, .int (iZ 0)), (3, .int (iZ 1)), (2, .int (iZ su)), (1, .ref (xad E1 g2)), (0, .ref (xad E1 0))]) hx hb dL_areTilesRight_305 hl (by decide) rfl (fun ls hl => ?_)
                    have K307 : ∀ (nK : Nat) (r9 : Int) (g3 : Int → Int) (σ26 : xW) (H : Heap) (locs : List Loc) (ls : Array Slot), (25 - r9).toNat < nK → (0 ≤ r9 ∧ r9 ≤ 25) → (tgI (opT B) r9 g3) → cw E1 σ26 B S Y → σ26 g2 = aI E1 25 g3 → (∀ j : Nat, j ≠ g2 → σ26 j = σ24 j) → Hx E1 (xA E s.heap.size) s.heap σ26 H locs → lv_has ls 7 [(4, .int (iZ r9)), (3, .int (iZ 1)), (2, .int (iZ su)), (1, .ref (xad E1 g2)), (0, .ref (xad E1 0))] → W p l e rm_L_areTilesRight s m args below meth c H locs ((((((((0 + 1) + rm_L_ask_0b.cells) + rm_L_ask_0b.cells) + rm_L_ask_2b.cells) + rm_L_ask_13b.cells) + rm_L_ask_3b.cells) + rm_L_ask_4b.cells) + 7 * (k).toNat) ((((((((0 + 25) + rm_L_ask_0b.slots) + rm_L_ask_0b.slots) + rm_L_ask_2b.slots) + rm_L_ask_13b.slots) + rm_L_ask_3b.slots) + rm_L_ask_4b.slots) + 42 * (k).toNat) Q (F0 m 307 ls []) := by
                      intro n307
                      induction n307 with
                      | zero =>
                        intro r9 g3 σ26 H locs ls hm
                        exact absurd hm (by first | exact Nat.not_lt_zero _ | omega)
                      | succ n307 ih307 =>
                        intro r9 g3 σ26 H locs ls hm307 hr9 hT fcw_0 fg2_0 fr27 hH hl
                        refine lv_iload hx hb dL_areTilesRight_307 (lv_at hl 0 rfl) ?_
                        refine x_bipush hx hb dL_areTilesRight_309 (by decide) ?_
                        refine x_icmp_ge (tgt := 383) hx hb dL_areTilesRight_311 (by decide) (by omega) (by decide) (fun c311 => ?_) (fun c311 => ?_)
                        · refine x_iconst hx hb dL_areTilesRight_383 ?_
                          refine lv_istore (lv' := [(4, .int (iZ 0)), (3, .int (iZ 1)), (2, .int (iZ su)), (1, .ref (xad E1 g2)), (0, .ref (xad E1 0))]) hx hb dL_areTilesRight_384 hl (by decide) rfl (fun ls hl => ?_)
                          refine x_iconst hx hb dL_areTilesRight_386 ?_
                          refine lv_istore (lv' := [(5, .int (iZ 0)), (4, .int (iZ 0)), (3, .int (iZ 1)), (2, .int (iZ su)), (1, .ref (xad E1 g2)), (0, .ref (xad E1 0))]) hx hb dL_areTilesRight_387 hl (by decide) rfl (fun ls hl => ?_)
                          have K389 : ∀ (nK : Nat) (gc i9 : Int) (H : Heap) (locs : List Loc) (ls : Array Slot), (25 - i9).toNat < nK → (0 ≤ i9 ∧ i9 ≤ 25) → (gc = cnbK (fun c => decide (g3 c = c)) i9) → (0 ≤ gc ∧ gc ≤ i9) → Hx E1 (xA E s.heap.size) s.heap σ26 H locs → lv_has ls 7 [(5, .int (iZ i9)), (4, .int (iZ gc)), (3, .int (iZ 1)), (2, .int (iZ su)), (1, .ref (xad E1 g2)), (0, .ref (xad E1 0))] → W p l e rm_L_areTilesRight s m args below meth c H locs ((((((((0 + 1) + rm_L_ask_0b.cells) + rm_L_ask_0b.cells) + rm_L_ask_2b.cells) + rm_L_ask_13b.cells) + rm_L_ask_3b.cells) + rm_L_ask_4b.cells) + 7 * (k).toNat) ((((((((0 + 25) + rm_L_ask_0b.slots) + rm_L_ask_0b.slots) + rm_L_ask_2b.slots) + rm_L_ask_13b.slots) + rm_L_ask_3b.slots) + rm_L_ask_4b.slots) + 42 * (k).toNat) Q (F0 m 389 ls []) := by
                            intro n389
                            induction n389 with
                            | zero =>
                              intro gc i9 H locs ls hm
                              exact absurd hm (by first | exact Nat.not_lt_zero _ | omega)
                            | succ n389 ih389 =>
                              intro gc i9 H locs ls hm389 hi9 hgc hgb  hH hl
                              refine lv_iload hx hb dL_areTilesRight_389 (lv_at hl 0 rfl) ?_
                              refine x_bipush hx hb dL_areTilesRight_391 (by decide) ?_
                              refine x_icmp_ge (tgt := 421) hx hb dL_areTilesRight_393 (by decide) (by omega) (by decide) (fun c393 => ?_) (fun c393 => ?_)
                              · have hgq : gc = ngZ (opT B) := (by have e9 : i9 = 25 := (by omega); rw [hgc, e9]; exact tg_cnt (by omega) hT)
                                refine lv_iload_n hx hb dL_areTilesRight_421 rfl (lv_at hl 2 rfl) ?_
                                refine x_if_eq (tgt := 468) hx hb dL_areTilesRight_422 (by decide) (by decide) (fun c422 => ?_) (fun c422 => ?_)
                                · exact absurd c422 (by decide)
                                · refine lv_aload_n hx hb dL_areTilesRight_425 rfl (lv_at hl 5 rfl) ?_
                                  obtain ⟨fs9, hfs9⟩ := fcw_0.o0
                                  refine x_cVIE (As := []) (rest := []) hx hb hml hts hown hK hST hOK hH 0 (q_regionCount l E1 ST hSF σ26 B S Y fcw_0 ) (cwV 0 hts (goodIn_t (goodIn_x gK_193)) rfl rfl rfl (by decide +kernel) ⟨Nat.le_of_ble_eq_true rfl, Nat.le_of_ble_eq_true rfl⟩) (ltw (by decide)) hfs9 rfl rfl hl.1 rfl (Nat.le_of_ble_eq_true rfl) dL_areTilesRight_426 ⟨by first | omega | (simp only [rm_L_areTilesRight, rm_L_ask_0b, rm_L_ask_13b, rm_L_ask_2b, rm_L_ask_3b, rm_L_ask_4b, rm_X6_regionCount]; omega), by first | omega | (simp only [rm_L_areTilesRight, rm_L_ask_0b, rm_L_ask_13b, rm_L_ask_2b, rm_L_ask_3b, rm_L_ask_4b, rm_X6_regionCount]; omega)⟩ (fun z u h => h) (fun σ30 H locs hp31 hH => ?_)
                                  obtain ⟨fcw_0, fr32⟩ := hp31
                                  have fg2_0 : σ30 g2 = aI E1 25 g3 := (fr32 g2 (by omega)).trans fg2_0
                                  refine lv_iload hx hb dL_areTilesRight_429 (lv_at hl 1 rfl) ?_
                                  refine x_icmp_ne (tgt := 468) hx hb dL_areTilesRight_431 (by decide) (by omega) (by omega) (fun c431 => ?_) (fun c431 => ?_)
                                  · exact absurd hgq.symm c431
                                  · refine lv_aload_n hx hb dL_areTilesRight_434 rfl (lv_at hl 5 rfl) ?_
                                    obtain ⟨fs9, hfs9⟩ := fcw_0.o0
                                    refine x_cVIE (As := []) (rest := []) hx hb hml hts hown hK hST hOK hH 0 (q_regionCountByMerging l E1 ST hSF σ30 B S Y fcw_0 ) (cwV 0 hts (goodIn_t (goodIn_x gK_196)) rfl rfl rfl (by decide +kernel) ⟨Nat.le_of_ble_eq_true rfl, Nat.le_of_ble_eq_true rfl⟩) (ltw (by decide)) hfs9 rfl rfl hl.1 rfl (Nat.le_of_ble_eq_true rfl) dL_areTilesRight_435 ⟨by first | omega | (simp only [rm_L_areTilesRight, rm_L_ask_0b, rm_L_ask_13b, rm_L_ask_2b, rm_L_ask_3b, rm_L_ask_4b, rm_X6_regionCount, rm_X6_regionCountByMerging]; omega), by first | omega | (simp only [rm_L_areTilesRight, rm_L_ask_0b, rm_L_ask_13b, rm_L_ask_2b, rm_L_ask_3b, rm_L_ask_4b, rm_X6_regionCount, rm_X6_regionCountByMerging]; omega)⟩ (fun z u h => h) (fun σ35 H locs hp36 hH => ?_)
                                    obtain ⟨fcw_0, fr37⟩ := hp36
                                    have fg2_0 : σ35 g2 = aI E1 25 g3 := (fr37 g2 (by omega)).trans fg2_0
                                    refine lv_iload hx hb dL_areTilesRight_438 (lv_at hl 1 rfl) ?_
                                    refine x_icmp_ne (tgt := 468) hx hb dL_areTilesRight_440 (by decide) (by omega) (by omega) (fun c440 => ?_) (fun c440 => ?_)
                                    · exact absurd hgq.symm c440
                                    · refine lv_aload_n hx hb dL_areTilesRight_443 rfl (lv_at hl 5 rfl) ?_
                                      obtain ⟨fs9, hfs9⟩ := fcw_0.o0
                                      refine x_cVD (As := []) (rest := []) hx hb hml hts hown hK hST hOK hH 0 (q_meanOpenings l E1 ST hSF σ35 B S Y fcw_0 ) (cwV 0 hts (goodIn_t (goodIn_x gK_199)) rfl rfl rfl (by decide +kernel) ⟨Nat.le_of_ble_eq_true rfl, Nat.le_of_ble_eq_true rfl⟩) (ltw (by decide)) hfs9 rfl rfl hl.1 rfl (Nat.le_of_ble_eq_true rfl) dL_areTilesRight_444 ⟨by first | omega | (simp only [rm_L_areTilesRight, rm_L_ask_0b, rm_L_ask_13b, rm_L_ask_2b, rm_L_ask_3b, rm_L_ask_4b, rm_X6_meanOpenings, rm_X6_regionCount, rm_X6_regionCountByMerging]; omega), by first | omega | (simp only [rm_L_areTilesRight, rm_L_ask_0b, rm_L_ask_13b, rm_L_ask_2b, rm_L_ask_3b, rm_L_ask_4b, rm_X6_meanOpenings, rm_X6_regionCount, rm_X6_regionCountByMerging]; omega)⟩ (fun z39 σ40 H locs hp41 hH => ?_)
                                      obtain ⟨hq9, hu42⟩ := hp41
                                      subst hq9
                                      rw [hu42] at hH
                                      refine lv_iload_n hx hb dL_areTilesRight_447 rfl (lv_at hl 3 rfl) ?_
                                      refine lv_i2d hx hb dL_areTilesRight_448 ?_
                                      refine lv_ldc2d (v := 4627730092099895296) hx hb hown (hts _ (List.mem_cons_of_mem _ (List.mem_append_right _ mW_412))) dL_areTilesRight_449 ?_
                                      refine lv_ddiv hx hb dL_areTilesRight_452 (by exact meD_n (by omega) (by omega)) ?_
                                      rw [show FP.ddiv (FP.i2d (iZ su)) 4627730092099895296 = meD su from rfl]
                                      have hsu9 : smK (fun c => bcZ (opT B c)) 25 = su := by have e9 : k = 25 := (by omega); rw [hsu.1, e9]
                                      rw [hsu9]
                                      refine x_dcmp0 hx hb (by exact meD_cmp (by omega) (by omega)) dL_areTilesRight_453 ?_
                                      refine x_if_ne (tgt := 468) hx hb dL_areTilesRight_454 (by decide) (by decide) (fun c454 => ?_) (fun c454 => ?_)
                                      · exact absurd c454 (by decide)
                                      · refine lv_aload_n hx hb dL_areTilesRight_457 rfl (lv_at hl 5 rfl) ?_
                                        obtain ⟨fs9, hfs9⟩ := fcw_0.o0
                                        refine x_cVIE (As := []) (rest := []) hx hb hml hts hown hK hST hOK hH 0 (q_isConsistent l E1 ST hSF σ35 B S Y fcw_0 ) (cwV 0 hts (goodIn_t (goodIn_x gK_205)) rfl rfl rfl (by decide +kernel) ⟨Nat.le_of_ble_eq_true rfl, Nat.le_of_ble_eq_true rfl⟩) (ltw (by decide)) hfs9 rfl rfl hl.1 rfl (Nat.le_of_ble_eq_true rfl) dL_areTilesRight_458 ⟨by first | omega | (simp only [rm_L_areTilesRight, rm_L_ask_0b, rm_L_ask_13b, rm_L_ask_2b, rm_L_ask_3b, rm_L_ask_4b, rm_X6_isConsistent, rm_X6_meanOpenings, rm_X6_regionCount, rm_X6_regionCountByMerging]; omega), by first | omega | (simp only [rm_L_areTilesRight, rm_L_ask_0b, rm_L_ask_13b, rm_L_ask_2b, rm_L_ask_3b, rm_L_ask_4b, rm_X6_isConsistent, rm_X6_meanOpenings, rm_X6_regionCount, rm_X6_regionCountByMerging]; omega)⟩ (fun z u h => h) (fun σ44 H locs hp45 hH => ?_)
                                        obtain ⟨fcw_0, fr46⟩ := hp45
                                        have fg2_0 : σ44 g2 = aI E1 25 g3 := (fr46 g2 (by omega)).trans fg2_0
                                        refine x_if_eq (tgt := 468) hx hb dL_areTilesRight_461 (by decide) (rg_b2 _) (fun c461 => ?_) (fun c461 => ?_)
                                        · exact absurd c461 (by decide)
                                        · have hl := lv_sub hl [0, 1, 2, 3, 5] rfl
                                          obtain ⟨σ48, hH, fcw_0, fr49⟩ := Hx.pop hE5 fcw_0 hH (fun j hj0 hj1 => ((fr46 j (by omega)).trans ((fr37 j (by omega)).trans ((fr32 j (by omega)).trans ((fr27 j (by omega)).trans ((fr25 j (by omega)).trans (fr4 j (by omega) (by omega))))))))
                                          have hK := hE5.K0 hK
                                          rw [hE5.2.2.2.2 0 (by omega)] at hl
                                          refine x_iconst hx hb dL_areTilesRight_464 ?_
                                          refine lv_goto (tgt := 469) hx hb dL_areTilesRight_465 (by decide) ?_
                                          subst hQ
                                          exact x_zret (b := true) hx hb hr hlocks hH (by first | omega | (simp only [rm_L_areTilesRight, rm_L_ask_0b, rm_L_ask_13b, rm_L_ask_2b, rm_L_ask_3b, rm_L_ask_4b, rm_X6_isConsistent, rm_X6_meanOpenings, rm_X6_regionCount, rm_X6_regionCountByMerging]; omega)) (by first | omega | (simp only [rm_L_areTilesRight, rm_L_ask_0b, rm_L_ask_13b, rm_L_ask_2b, rm_L_ask_3b, rm_L_ask_4b, rm_X6_isConsistent, rm_X6_meanOpenings, rm_X6_regionCount, rm_X6_regionCountByMerging]; omega)) ⟨congrArg b2 (show true = true from (by rfl)), fcw_0, fun j hj0 => (fr49 j (by omega))⟩ dL_areTilesRight_469
                              · refine lv_iload hx hb dL_areTilesRight_396 (lv_at hl 1 rfl) ?_
                                refine lv_aload_n hx hb dL_areTilesRight_398 rfl (lv_at hl 4 rfl) ?_
                                refine lv_iload hx hb dL_areTilesRight_399 (lv_at hl 0 rfl) ?_
                                refine x_iald hx hb hK hH g2 (by omega) fg2_0 (by omega) (by omega) (by omega) dL_areTilesRight_401 ?_
                                have hgi := hT.1 i9 (by omega) (by omega)
                                refine lv_iload hx hb dL_areTilesRight_402 (lv_at hl 0 rfl) ?_
                                refine x_icmp_ne (tgt := 411) hx hb dL_areTilesRight_404 (by decide) (by omega) (by omega) (fun c404 => ?_) (fun c404 => ?_)
                                · refine x_iconst hx hb dL_areTilesRight_411 ?_
                                  refine x_iadd hx hb dL_areTilesRight_412 ?_
                                  refine lv_istore (lv' := [(4, .int (iZ (gc + 0))), (5, .int (iZ i9)), (3, .int (iZ 1)), (2, .int (iZ su)), (1, .ref (xad E1 g2)), (0, .ref (xad E1 0))]) hx hb dL_areTilesRight_413 hl (by decide) rfl (fun ls hl => ?_)
                                  refine x_iinc (lv' := [(5, .int (iZ (i9 + 1))), (4, .int (iZ (gc + 0))), (3, .int (iZ 1)), (2, .int (iZ su)), (1, .ref (xad E1 g2)), (0, .ref (xad E1 0))]) hx hb dL_areTilesRight_415 hl (k := 1) rfl (by decide) rfl (fun ls hl => ?_)
                                  refine lv_goto (tgt := 389) hx hb dL_areTilesRight_418 (by decide) ?_
                                  exact ih389 (gc + 0) (i9 + 1) _ _ _ (by omega) (by omega) (by rw [cnbK_s (by omega), ← hgc]; first | rw [decide_eq_true c404]; rfl | rw [decide_eq_false c404]; rfl) (by omega)  hH (lv_sub hl [0, 1, 2, 3, 4, 5] rfl)
                                · refine x_iconst hx hb dL_areTilesRight_407 ?_
                                  refine lv_goto (tgt := 412) hx hb dL_areTilesRight_408 (by decide) ?_
                                  refine x_iadd hx hb dL_areTilesRight_412 ?_
                                  refine lv_istore (lv' := [(4, .int (iZ (gc + 1))), (5, .int (iZ i9)), (3, .int (iZ 1)), (2, .int (iZ su)), (1, .ref (xad E1 g2)), (0, .ref (xad E1 0))]) hx hb dL_areTilesRight_413 hl (by decide) rfl (fun ls hl => ?_)
                                  refine x_iinc (lv' := [(5, .int (iZ (i9 + 1))), (4, .int (iZ (gc + 1))), (3, .int (iZ 1)), (2, .int (iZ su)), (1, .ref (xad E1 g2)), (0, .ref (xad E1 0))]) hx hb dL_areTilesRight_415 hl (k := 1) rfl (by decide) rfl (fun ls hl => ?_)
                                  refine lv_goto (tgt := 389) hx hb dL_areTilesRight_418 (by decide) ?_
                                  exact ih389 (gc + 1) (i9 + 1) _ _ _ (by omega) (by omega) (by rw [cnbK_s (by omega), ← hgc]; first | rw [decide_eq_true c404]; rfl | rw [decide_eq_false c404]; rfl) (by omega)  hH (lv_sub hl [0, 1, 2, 3, 4, 5] rfl)
                          exact K389 26 0 0 _ _ _ (by first | omega | decide) (by omega) (by rfl) (by omega)  hH (lv_sub hl [0, 1, 2, 3, 4, 5] rfl)
                        · refine x_iconst hx hb dL_areTilesRight_314 ?_
                          refine lv_istore (lv' := [(5, .int (iZ 0)), (4, .int (iZ r9)), (3, .int (iZ 1)), (2, .int (iZ su)), (1, .ref (xad E1 g2)), (0, .ref (xad E1 0))]) hx hb dL_areTilesRight_315 hl (by decide) rfl (fun ls hl => ?_)
                          have K317 : ∀ (nK : Nat) (k5 : Int) (g4 : Int → Int) (σ50 : xW) (H : Heap) (locs : List Loc) (ls : Array Slot), (100 - k5).toNat < nK → (0 ≤ k5 ∧ k5 ≤ 100) → (tsI (opT B) k5 g3 g4) → cw E1 σ50 B S Y → σ50 g2 = aI E1 25 g4 → (∀ j : Nat, j ≠ g2 → σ50 j = σ26 j) → Hx E1 (xA E s.heap.size) s.heap σ50 H locs → lv_has ls 7 [(5, .int (iZ k5)), (4, .int (iZ r9)), (3, .int (iZ 1)), (2, .int (iZ su)), (1, .ref (xad E1 g2)), (0, .ref (xad E1 0))] → W p l e rm_L_areTilesRight s m args below meth c H locs ((((((((0 + 1) + rm_L_ask_0b.cells) + rm_L_ask_0b.cells) + rm_L_ask_2b.cells) + rm_L_ask_13b.cells) + rm_L_ask_3b.cells) + rm_L_ask_4b.cells) + 7 * (k).toNat) ((((((((0 + 25) + rm_L_ask_0b.slots) + rm_L_ask_0b.slots) + rm_L_ask_2b.slots) + rm_L_ask_13b.slots) + rm_L_ask_3b.slots) + rm_L_ask_4b.slots) + 42 * (k).toNat) Q (F0 m 317 ls []) := by
                            intro n317
                            induction n317 with
                            | zero =>
                              intro k5 g4 σ50 H locs ls hm
                              exact absurd hm (by first | exact Nat.not_lt_zero _ | omega)
                            | succ n317 ih317 =>
                              intro k5 g4 σ50 H locs ls hm317 hk5 hJ fcw_0 fg2_0 fr51 hH hl
                              refine lv_iload hx hb dL_areTilesRight_317 (lv_at hl 0 rfl) ?_
                              refine x_bipush hx hb dL_areTilesRight_319 (by decide) ?_
                              refine x_icmp_ge (tgt := 377) hx hb dL_areTilesRight_321 (by decide) (by omega) (by decide) (fun c321 => ?_) (fun c321 => ?_)
                              · refine x_iinc (lv' := [(4, .int (iZ (r9 + 1))), (5, .int (iZ k5)), (3, .int (iZ 1)), (2, .int (iZ su)), (1, .ref (xad E1 g2)), (0, .ref (xad E1 0))]) hx hb dL_areTilesRight_377 hl (k := 1) rfl (by decide) rfl (fun ls hl => ?_)
                                refine lv_goto (tgt := 307) hx hb dL_areTilesRight_380 (by decide) ?_
                                exact ih307 (r9 + 1) g4 σ50 _ _ _ (by omega) (by omega) (by exact tsI_end hT (by have e9 : k5 = 100 := (by omega); rw [← e9]; exact hJ)) fcw_0 fg2_0 (fun j hj0 => ((fr51 j (by omega)).trans (fr27 j (by omega)))) hH (lv_sub hl [0, 2, 3, 4, 5] rfl)
                              · refine lv_aload_n hx hb dL_areTilesRight_324 rfl (lv_at hl 5 rfl) ?_
                                refine lv_iload hx hb dL_areTilesRight_325 (lv_at hl 0 rfl) ?_
                                refine x_iconst hx hb dL_areTilesRight_327 ?_
                                refine x_idiv hx hb dL_areTilesRight_328 (by omega) (by omega) (by omega) (by omega) ?_
                                refine lv_iload hx hb dL_areTilesRight_329 (lv_at hl 0 rfl) ?_
                                refine x_iconst hx hb dL_areTilesRight_331 ?_
                                refine x_irem hx hb dL_areTilesRight_332 (by omega) (by omega) (by omega) (by omega) ?_
                                refine x_cSID (As := [.ref (xad E1 0), .int (iZ (k5 / 4)), .int (iZ (k5 % 4))]) (rest := []) hx hb hml hts hown hK hST hOK hH (c_L_joined l E1 ST hSF  σ50 (k5 / 4) (k5 % 4) B S Y fcw_0 (by omega) (by omega)) (va_cwS 3 hts (goodIn_t gK_171) rfl rfl rfl (by decide +kernel) ⟨Nat.le_of_ble_eq_true rfl, Nat.le_of_ble_eq_true rfl⟩) rfl hl.1 rfl (Nat.le_of_ble_eq_true rfl) dL_areTilesRight_333 ⟨by first | omega | (simp only [rm_L_areTilesRight, rm_L_ask_0b, rm_L_ask_13b, rm_L_ask_2b, rm_L_ask_3b, rm_L_ask_4b, rm_L_joined_0]; omega), by first | omega | (simp only [rm_L_areTilesRight, rm_L_ask_0b, rm_L_ask_13b, rm_L_ask_2b, rm_L_ask_3b, rm_L_ask_4b, rm_L_joined_0]; omega)⟩ (fun z u h => h) (fun H locs hH => ?_)
                                have hcr := cnZ_rg (op := opT B) (c := k5 / 4) (d := k5 % 4) (by omega) (by omega)
                                refine lv_istore (lv' := [(6, .int (iZ (cnZ (opT B) (k5 / 4) (k5 % 4)))), (5, .int (iZ k5)), (4, .int (iZ r9)), (3, .int (iZ 1)), (2, .int (iZ su)), (1, .ref (xad E1 g2)), (0, .ref (xad E1 0))]) hx hb dL_areTilesRight_336 hl (by decide) rfl (fun ls hl => ?_)
                                refine lv_aload_n hx hb dL_areTilesRight_338 rfl (lv_at hl 5 rfl) ?_
                                refine lv_iload hx hb dL_areTilesRight_339 (lv_at hl 1 rfl) ?_
                                have hga := hJ.1 (k5 / 4) (by omega) (by omega)
                                refine x_iconst hx hb dL_areTilesRight_341 ?_
                                refine x_idiv hx hb dL_areTilesRight_342 (by omega) (by omega) (by omega) (by omega) ?_
                                refine lv_iload hx hb dL_areTilesRight_343 (lv_at hl 0 rfl) ?_
                                refine x_if_ge (tgt := 357) hx hb dL_areTilesRight_345 (by decide) (by omega) (fun c345 => ?_) (fun c345 => ?_)
                                · refine lv_aload_n hx hb dL_areTilesRight_357 rfl (lv_at hl 5 rfl) ?_
                                  refine lv_iload hx hb dL_areTilesRight_358 (lv_at hl 1 rfl) ?_
                                  refine x_iconst hx hb dL_areTilesRight_360 ?_
                                  have hgx := hJ.1 (cnZ (opT B) (k5 / 4) (k5 % 4)) (by omega) (by omega)
                                  refine x_idiv hx hb dL_areTilesRight_361 (by omega) (by omega) (by omega) (by omega) ?_
                                  refine x_iald hx hb hK hH g2 (by omega) fg2_0 (by omega) (by omega) (by omega) dL_areTilesRight_362 ?_
                                  refine lv_aload_n hx hb dL_areTilesRight_363 rfl (lv_at hl 5 rfl) ?_
                                  refine lv_iload hx hb dL_areTilesRight_364 (lv_at hl 0 rfl) ?_
                                  refine x_iald hx hb hK hH g2 (by omega) fg2_0 (by omega) (by omega) (by omega) dL_areTilesRight_366 ?_
                                  refine x_min hx hb hml hown hts (List.mem_cons_of_mem _ (List.mem_append_right _ mW_411)) (List.mem_cons_of_mem _ (List.mem_append_right _ mW_137)) (List.mem_cons_of_mem _ (List.mem_append_right _ mW_138)) (List.mem_cons_of_mem _ (List.mem_append_right _ mW_139)) hl.1 (Nat.le_of_ble_eq_true rfl) (Nat.le_of_ble_eq_true rfl) (by first | omega | (simp only [rm_L_areTilesRight, rm_L_ask_0b, rm_L_ask_13b, rm_L_ask_2b, rm_L_ask_3b, rm_L_ask_4b, rm_L_joined_0]; omega)) (by first | omega | (simp only [rm_L_areTilesRight, rm_L_ask_0b, rm_L_ask_13b, rm_L_ask_2b, rm_L_ask_3b, rm_L_ask_4b, rm_L_joined_0]; omega)) (by omega) (by omega) dL_areTilesRight_367 ?_
                                  refine x_iast hx hb hK hH g2 (by omega) fg2_0 (by omega) (by omega) (by omega) dL_areTilesRight_370 (fun σ55 H locs fg2_0 fr56 hH => ?_)
                                  have fcw_0 := fcw_0.fr (fun j hj9 => fr56 j (by omega))
                                  refine x_iinc (lv' := [(5, .int (iZ (k5 + 1))), (6, .int (iZ (cnZ (opT B) (k5 / 4) (k5 % 4)))), (4, .int (iZ r9)), (3, .int (iZ 1)), (2, .int (iZ su)), (1, .ref (xad E1 g2)), (0, .ref (xad E1 0))]) hx hb dL_areTilesRight_371 hl (k := 1) rfl (by decide) rfl (fun ls hl => ?_)
                                  refine lv_goto (tgt := 317) hx hb dL_areTilesRight_374 (by decide) ?_
                                  exact ih317 (k5 + 1) (ui g4 (k5 / 4) (if (g4 (cnZ (opT B) (k5 / 4) (k5 % 4))) < (g4 (k5 / 4)) then (g4 (cnZ (opT B) (k5 / 4) (k5 % 4))) else (g4 (k5 / 4)))) σ55 _ _ _ (by omega) (by omega) (by first | exact tsI_no hJ (by omega) (by omega) | exact tsI_min hJ (by omega) (by omega)) fcw_0 fg2_0 (fun j hj0 => ((fr56 j (by omega)).trans (fr51 j (by omega)))) hH (lv_sub hl [0, 2, 3, 4, 5, 6] rfl)
                                · refine lv_aload_n hx hb dL_areTilesRight_348 rfl (lv_at hl 5 rfl) ?_
                                  refine lv_iload hx hb dL_areTilesRight_349 (lv_at hl 1 rfl) ?_
                                  refine x_iconst hx hb dL_areTilesRight_351 ?_
                                  refine x_idiv hx hb dL_areTilesRight_352 (by omega) (by omega) (by omega) (by omega) ?_
                                  refine x_iald hx hb hK hH g2 (by omega) fg2_0 (by omega) (by omega) (by omega) dL_areTilesRight_353 ?_
                                  refine lv_goto (tgt := 370) hx hb dL_areTilesRight_354 (by decide) ?_
                                  refine x_iast hx hb hK hH g2 (by omega) fg2_0 (by omega) (by omega) (by omega) dL_areTilesRight_370 (fun σ57 H locs fg2_0 fr58 hH => ?_)
                                  have fcw_0 := fcw_0.fr (fun j hj9 => fr58 j (by omega))
                                  refine x_iinc (lv' := [(5, .int (iZ (k5 + 1))), (6, .int (iZ (cnZ (opT B) (k5 / 4) (k5 % 4)))), (4, .int (iZ r9)), (3, .int (iZ 1)), (2, .int (iZ su)), (1, .ref (xad E1 g2)), (0, .ref (xad E1 0))]) hx hb dL_areTilesRight_371 hl (k := 1) rfl (by decide) rfl (fun ls hl => ?_)
                                  refine lv_goto (tgt := 317) hx hb dL_areTilesRight_374 (by decide) ?_
                                  exact ih317 (k5 + 1) (ui g4 (k5 / 4) (g4 (k5 / 4))) σ57 _ _ _ (by omega) (by omega) (by first | exact tsI_no hJ (by omega) (by omega) | exact tsI_min hJ (by omega) (by omega)) fcw_0 fg2_0 (fun j hj0 => ((fr58 j (by omega)).trans (fr51 j (by omega)))) hH (lv_sub hl [0, 2, 3, 4, 5, 6] rfl)
                          exact K317 101 0 g3 σ26 _ _ _ (by first | omega | decide) (by omega) (by exact tsI_0 hT) fcw_0 fg2_0 (fun j _ => rfl) hH (lv_sub hl [0, 1, 2, 3, 4, 5] rfl)
                    exact K307 26 0 g σ24 _ _ _ (by first | omega | decide) (by omega) (by have e9 : k = 25 := (by omega); subst e9; exact tgI_0 hg) fcw_0 fg2_0 (fun j _ => rfl) hH (lv_sub hl [0, 1, 2, 3, 4] rfl)
                  · refine lv_aload_n hx hb dL_areTilesRight_109 rfl (lv_at hl 3 rfl) ?_
                    refine lv_iload hx hb dL_areTilesRight_110 (lv_at hl 0 rfl) ?_
                    refine lv_iload hx hb dL_areTilesRight_112 (lv_at hl 0 rfl) ?_
                    refine x_iast hx hb hK hH g2 (by omega) fg2_0 (by omega) (by omega) (by omega) dL_areTilesRight_114 (fun σ59 H locs fg2_0 fr60 hH => ?_)
                    have fcw_0 := fcw_0.fr (fun j hj9 => fr60 j (by omega))
                    refine lv_iload_n hx hb dL_areTilesRight_115 rfl (lv_at hl 2 rfl) ?_
                    refine lv_aload_n hx hb dL_areTilesRight_116 rfl (lv_at hl 4 rfl) ?_
                    refine lv_iload hx hb dL_areTilesRight_117 (lv_at hl 0 rfl) ?_
                    refine x_iconst hx hb dL_areTilesRight_119 ?_
                    refine x_idiv hx hb dL_areTilesRight_120 (by omega) (by omega) (by omega) (by omega) ?_
                    refine lv_iload hx hb dL_areTilesRight_121 (lv_at hl 0 rfl) ?_
                    refine x_iconst hx hb dL_areTilesRight_123 ?_
                    refine x_irem hx hb dL_areTilesRight_124 (by omega) (by omega) (by omega) (by omega) ?_
                    obtain ⟨fs9, hfs9⟩ := fcw_0.o0
                    refine x_cVID (As := [.int (iZ (k / 5)), .int (iZ (k % 5))]) (rest := [.int (iZ su)]) hx hb hml hts hown hK hST hOK hH 0 (q_openings0 l E1 ST hSF σ59 (k / 5) (k % 5) B S Y fcw_0 (by omega) (by omega) (by omega)) (cwV 2 hts (goodIn_t (goodIn_x gK_73)) rfl rfl rfl (by decide +kernel) ⟨Nat.le_of_ble_eq_true rfl, Nat.le_of_ble_eq_true rfl⟩) (ltw (by decide)) hfs9 rfl rfl hl.1 rfl (Nat.le_of_ble_eq_true rfl) dL_areTilesRight_125 ⟨by first | omega | (simp only [rm_L_areTilesRight, rm_L_ask_0b, rm_L_ask_13b, rm_L_ask_2b, rm_L_ask_3b, rm_L_ask_4b, rm_X6_openings0]; omega), by first | omega | (simp only [rm_L_areTilesRight, rm_L_ask_0b, rm_L_ask_13b, rm_L_ask_2b, rm_L_ask_3b, rm_L_ask_4b, rm_X6_openings0]; omega)⟩ (fun z u h => h) (fun H locs hH => ?_)
                    rw [show k / 5 * 5 + k % 5 = k by omega]
                    have hop1 := hop k
                    refine x_cSID (As := [.int (iZ (opT B k))]) (rest := [.int (iZ su)]) hx hb hml hts hown hK hST hOK hH (c_J6_bitCount_0f7a4 l E1 ST hSF σ59 (opT B k)  ) (va_cwS 1 hts (goodIn_t (goodIn_x gK_179)) rfl rfl rfl (by decide +kernel) ⟨Nat.le_of_ble_eq_true rfl, Nat.le_of_ble_eq_true rfl⟩) rfl hl.1 rfl (Nat.le_of_ble_eq_true rfl) dL_areTilesRight_128 ⟨by first | omega | (simp only [rm_J6_bitCount_0f7a4, rm_L_areTilesRight, rm_L_ask_0b, rm_L_ask_13b, rm_L_ask_2b, rm_L_ask_3b, rm_L_ask_4b, rm_X6_openings0]; omega), by first | omega | (simp only [rm_J6_bitCount_0f7a4, rm_L_areTilesRight, rm_L_ask_0b, rm_L_ask_13b, rm_L_ask_2b, rm_L_ask_3b, rm_L_ask_4b, rm_X6_openings0]; omega)⟩ (fun z u h => h) (fun H locs hH => ?_)
                    refine x_iadd hx hb dL_areTilesRight_131 ?_
                    refine lv_istore_n (lv' := [(2, .int (iZ (su + (bcZ (opT B k))))), (4, .int (iZ k)), (3, .int (iZ 1)), (1, .ref (xad E1 g2)), (0, .ref (xad E1 0))]) hx hb dL_areTilesRight_132 rfl hl (by decide) rfl (fun ls hl => ?_)
                    refine x_iconst hx hb dL_areTilesRight_133 ?_
                    refine lv_istore (lv' := [(5, .int (iZ 0)), (2, .int (iZ (su + (bcZ (opT B k))))), (4, .int (iZ k)), (3, .int (iZ 1)), (1, .ref (xad E1 g2)), (0, .ref (xad E1 0))]) hx hb dL_areTilesRight_134 hl (by decide) rfl (fun ls hl => ?_)
                    refine x_iconst hx hb dL_areTilesRight_136 ?_
                    refine lv_istore (lv' := [(6, .int (iZ 0)), (5, .int (iZ 0)), (2, .int (iZ (su + (bcZ (opT B k))))), (4, .int (iZ k)), (3, .int (iZ 1)), (1, .ref (xad E1 g2)), (0, .ref (xad E1 0))]) hx hb dL_areTilesRight_137 hl (by decide) rfl (fun ls hl => ?_)
                    have K139 : ∀ (nK : Nat) (kk i6 : Int) (H : Heap) (locs : List Loc) (ls : Array Slot), (6 - i6).toNat < nK → (0 ≤ i6 ∧ i6 ≤ 6) → (kk = cntK (kpT B) k i6) → (0 ≤ kk ∧ kk ≤ i6) → Hx E1 (xA E s.heap.size) s.heap σ59 H locs → lv_has ls 7 [(6, .int (iZ i6)), (5, .int (iZ kk)), (2, .int (iZ (su + (bcZ (opT B k))))), (4, .int (iZ k)), (3, .int (iZ 1)), (1, .ref (xad E1 g2)), (0, .ref (xad E1 0))] → W p l e rm_L_areTilesRight s m args below meth c H locs (((((((((0 + 1) + rm_L_ask_0b.cells) + rm_L_ask_0b.cells) + rm_L_ask_2b.cells) + rm_L_ask_13b.cells) + rm_L_ask_3b.cells) + rm_L_ask_4b.cells) + 7 * (k).toNat) + 1 * (i6).toNat) (((((((((0 + 25) + rm_L_ask_0b.slots) + rm_L_ask_0b.slots) + rm_L_ask_2b.slots) + rm_L_ask_13b.slots) + rm_L_ask_3b.slots) + rm_L_ask_4b.slots) + 42 * (k).toNat) + 6 * (i6).toNat) Q (F0 m 139 ls []) := by
                      intro n139
                      induction n139 with
                      | zero =>
                        intro kk i6 H locs ls hm
                        exact absurd hm (by first | exact Nat.not_lt_zero _ | omega)
                      | succ n139 ih139 =>
                        intro kk i6 H locs ls hm139 hi6 hkk hkb  hH hl
                        refine lv_iload hx hb dL_areTilesRight_139 (lv_at hl 0 rfl) ?_
                        refine x_bipush hx hb dL_areTilesRight_141 (by decide) ?_
                        refine x_icmp_ge (tgt := 176) hx hb dL_areTilesRight_143 (by decide) (by omega) (by decide) (fun c143 => ?_) (fun c143 => ?_)
                        · refine lv_iload_n hx hb dL_areTilesRight_176 rfl (lv_at hl 4 rfl) ?_
                          refine x_if_eq (tgt := 238) hx hb dL_areTilesRight_177 (by decide) (by decide) (fun c177 => ?_) (fun c177 => ?_)
                          · exact absurd c177 (by decide)
                          · refine lv_aload_n hx hb dL_areTilesRight_180 rfl (lv_at hl 6 rfl) ?_
                            refine lv_iload hx hb dL_areTilesRight_181 (lv_at hl 3 rfl) ?_
                            refine x_iconst hx hb dL_areTilesRight_183 ?_
                            refine x_idiv hx hb dL_areTilesRight_184 (by omega) (by omega) (by omega) (by omega) ?_
                            refine lv_iload hx hb dL_areTilesRight_185 (lv_at hl 3 rfl) ?_
                            refine x_iconst hx hb dL_areTilesRight_187 ?_
                            refine x_irem hx hb dL_areTilesRight_188 (by omega) (by omega) (by omega) (by omega) ?_
                            obtain ⟨fs9, hfs9⟩ := fcw_0.o0
                            refine x_cVID (As := [.int (iZ (k / 5)), .int (iZ (k % 5))]) (rest := []) hx hb hml hts hown hK hST hOK hH 0 (q_keysAt0 l E1 ST hSF σ59 (k / 5) (k % 5) B S Y fcw_0 (by omega) (by omega) (by omega)) (cwV 2 hts (goodIn_t (goodIn_x gK_184)) rfl rfl rfl (by decide +kernel) ⟨Nat.le_of_ble_eq_true rfl, Nat.le_of_ble_eq_true rfl⟩) (ltw (by decide)) hfs9 rfl rfl hl.1 rfl (Nat.le_of_ble_eq_true rfl) dL_areTilesRight_189 ⟨by first | omega | (simp only [rm_J6_bitCount_0f7a4, rm_L_areTilesRight, rm_L_ask_0b, rm_L_ask_13b, rm_L_ask_2b, rm_L_ask_3b, rm_L_ask_4b, rm_X6_keysAt0, rm_X6_openings0]; omega), by first | omega | (simp only [rm_J6_bitCount_0f7a4, rm_L_areTilesRight, rm_L_ask_0b, rm_L_ask_13b, rm_L_ask_2b, rm_L_ask_3b, rm_L_ask_4b, rm_X6_keysAt0, rm_X6_openings0]; omega)⟩ (fun z u h => h) (fun H locs hH => ?_)
                            rw [show k / 5 * 5 + k % 5 = k by omega]
                            refine lv_iload hx hb dL_areTilesRight_192 (lv_at hl 1 rfl) ?_
                            have hkk6 : kk = cntK (kpT B) k 6 := (by have e9 : i6 = 6 := (by omega); rw [hkk, e9])
                            refine x_icmp_ne (tgt := 238) hx hb dL_areTilesRight_194 (by decide) (by omega) (by omega) (fun c194 => ?_) (fun c194 => ?_)
                            · exact absurd (by have e9 : i6 = 6 := (by omega); rw [hkk, e9]) c194
                            · refine lv_aload_n hx hb dL_areTilesRight_197 rfl (lv_at hl 6 rfl) ?_
                              refine lv_iload hx hb dL_areTilesRight_198 (lv_at hl 3 rfl) ?_
                              refine x_iconst hx hb dL_areTilesRight_200 ?_
                              refine x_idiv hx hb dL_areTilesRight_201 (by omega) (by omega) (by omega) (by omega) ?_
                              refine lv_iload hx hb dL_areTilesRight_202 (lv_at hl 3 rfl) ?_
                              refine x_iconst hx hb dL_areTilesRight_204 ?_
                              refine x_irem hx hb dL_areTilesRight_205 (by omega) (by omega) (by omega) (by omega) ?_
                              obtain ⟨fs9, hfs9⟩ := fcw_0.o0
                              refine x_cVID (As := [.int (iZ (k / 5)), .int (iZ (k % 5))]) (rest := []) hx hb hml hts hown hK hST hOK hH 0 (q_hasLock0 l E1 ST hSF σ59 (k / 5) (k % 5) B S Y fcw_0 (by omega) (by omega) (by omega)) (cwV 2 hts (goodIn_t (goodIn_x gK_187)) rfl rfl rfl (by decide +kernel) ⟨Nat.le_of_ble_eq_true rfl, Nat.le_of_ble_eq_true rfl⟩) (ltw (by decide)) hfs9 rfl rfl hl.1 rfl (Nat.le_of_ble_eq_true rfl) dL_areTilesRight_206 ⟨by first | omega | (simp only [rm_J6_bitCount_0f7a4, rm_L_areTilesRight, rm_L_ask_0b, rm_L_ask_13b, rm_L_ask_2b, rm_L_ask_3b, rm_L_ask_4b, rm_X6_hasLock0, rm_X6_keysAt0, rm_X6_openings0]; omega), by first | omega | (simp only [rm_J6_bitCount_0f7a4, rm_L_areTilesRight, rm_L_ask_0b, rm_L_ask_13b, rm_L_ask_2b, rm_L_ask_3b, rm_L_ask_4b, rm_X6_hasLock0, rm_X6_keysAt0, rm_X6_openings0]; omega)⟩ (fun z u h => h) (fun H locs hH => ?_)
                              rw [show k / 5 * 5 + k % 5 = k by omega]
                              refine lv_aload_n hx hb dL_areTilesRight_209 rfl (lv_at hl 6 rfl) ?_
                              refine x_iconst hx hb dL_areTilesRight_210 ?_
                              refine lv_iload hx hb dL_areTilesRight_211 (lv_at hl 3 rfl) ?_
                              refine x_iconst hx hb dL_areTilesRight_213 ?_
                              refine x_idiv hx hb dL_areTilesRight_214 (by omega) (by omega) (by omega) (by omega) ?_
                              refine lv_iload hx hb dL_areTilesRight_215 (lv_at hl 3 rfl) ?_
                              refine x_iconst hx hb dL_areTilesRight_217 ?_
                              refine x_irem hx hb dL_areTilesRight_218 (by omega) (by omega) (by omega) (by omega) ?_
                              refine x_iconst hx hb dL_areTilesRight_219 ?_
                              refine x_cSW (As := [.ref (xad E1 0), .int (iZ 1), .int (iZ (k / 5)), .int (iZ (k % 5)), .int (iZ 0)]) (rest := [.int (iZ (b2 (decide (¬ lkT B k = -1))))]) hx hb hml hts hown hK hST hOK hH (c_L_ask_1 l E1 ST hSF hSX htr σ59 (k / 5) (k % 5) 0 B S Y fcw_0 (by omega)) (vx_cwSW 5 hts (goodIn_t gK_162) rfl rfl rfl (by decide +kernel) ⟨Nat.le_of_ble_eq_true rfl, Nat.le_of_ble_eq_true rfl⟩) rfl hl.1 rfl (Nat.le_of_ble_eq_true rfl) dL_areTilesRight_220 ⟨by first | omega | (simp only [rm_J6_bitCount_0f7a4, rm_L_areTilesRight, rm_L_ask_0b, rm_L_ask_1, rm_L_ask_13b, rm_L_ask_2b, rm_L_ask_3b, rm_L_ask_4b, rm_X6_hasLock0, rm_X6_keysAt0, rm_X6_openings0]; omega), by first | omega | (simp only [rm_J6_bitCount_0f7a4, rm_L_areTilesRight, rm_L_ask_0b, rm_L_ask_1, rm_L_ask_13b, rm_L_ask_2b, rm_L_ask_3b, rm_L_ask_4b, rm_X6_hasLock0, rm_X6_keysAt0, rm_X6_openings0]; omega)⟩ (fun z74 σ75 H locs hp76 hH => ?_)
                              obtain ⟨hq9, hu9⟩ := hp76
                              subst hq9
                              rw [hu9] at hH
                              rw [show k / 5 * 5 + k % 5 = k by omega]
                              have hlr := aLk_rg (hlk9 k)
                              refine x_if_lt (tgt := 230) hx hb dL_areTilesRight_223 (by decide) (by omega) (fun c223 => ?_) (fun c223 => ?_)
                              · refine x_iconst hx hb dL_areTilesRight_230 ?_
                                refine x_icmp_ne (tgt := 238) hx hb dL_areTilesRight_231 (by decide) (rg_b2 _) (by decide) (fun c231 => ?_) (fun c231 => ?_)
                                · first | exact absurd (lkq1 c223) c231 | exact absurd (lkq0 (hlk9 k) c223) c231
                                · refine x_iconst hx hb dL_areTilesRight_234 ?_
                                  refine lv_goto (tgt := 239) hx hb dL_areTilesRight_235 (by decide) ?_
                                  refine lv_istore_n (lv' := [(3, .int (iZ 1)), (6, .int (iZ i6)), (5, .int (iZ kk)), (2, .int (iZ (su + (bcZ (opT B k))))), (4, .int (iZ k)), (1, .ref (xad E1 g2)), (0, .ref (xad E1 0))]) hx hb dL_areTilesRight_239 rfl hl (by decide) rfl (fun ls hl => ?_)
                                  refine x_iconst hx hb dL_areTilesRight_240 ?_
                                  refine lv_istore (lv' := [(6, .int (iZ 0)), (3, .int (iZ 1)), (5, .int (iZ kk)), (2, .int (iZ (su + (bcZ (opT B k))))), (4, .int (iZ k)), (1, .ref (xad E1 g2)), (0, .ref (xad E1 0))]) hx hb dL_areTilesRight_241 hl (by decide) rfl (fun ls hl => ?_)
                                  have K243 : ∀ (nK : Nat) (d9 : Int) (H : Heap) (locs : List Loc) (ls : Array Slot), (4 - d9).toNat < nK → (0 ≤ d9 ∧ d9 ≤ 4) → Hx E1 (xA E s.heap.size) s.heap σ59 H locs → lv_has ls 7 [(6, .int (iZ d9)), (3, .int (iZ 1)), (5, .int (iZ kk)), (2, .int (iZ (su + (bcZ (opT B k))))), (4, .int (iZ k)), (1, .ref (xad E1 g2)), (0, .ref (xad E1 0))] → W p l e rm_L_areTilesRight s m args below meth c H locs ((((((((((0 + 1) + rm_L_ask_0b.cells) + rm_L_ask_0b.cells) + rm_L_ask_2b.cells) + rm_L_ask_13b.cells) + rm_L_ask_3b.cells) + rm_L_ask_4b.cells) + 7 * (k).toNat) + 1 * (i6).toNat) + rm_L_ask_1.cells) ((((((((((0 + 25) + rm_L_ask_0b.slots) + rm_L_ask_0b.slots) + rm_L_ask_2b.slots) + rm_L_ask_13b.slots) + rm_L_ask_3b.slots) + rm_L_ask_4b.slots) + 42 * (k).toNat) + 6 * (i6).toNat) + rm_L_ask_1.slots) Q (F0 m 243 ls []) := by
                                    intro n243
                                    induction n243 with
                                    | zero =>
                                      intro d9 H locs ls hm
                                      exact absurd hm (by first | exact Nat.not_lt_zero _ | omega)
                                    | succ n243 ih243 =>
                                      intro d9 H locs ls hm243 hd9  hH hl
                                      refine lv_iload hx hb dL_areTilesRight_243 (lv_at hl 0 rfl) ?_
                                      refine x_iconst hx hb dL_areTilesRight_245 ?_
                                      refine x_icmp_ge (tgt := 298) hx hb dL_areTilesRight_246 (by decide) (by omega) (by decide) (fun c246 => ?_) (fun c246 => ?_)
                                      · refine x_iinc (lv' := [(4, .int (iZ (k + 1))), (6, .int (iZ d9)), (3, .int (iZ 1)), (5, .int (iZ kk)), (2, .int (iZ (su + (bcZ (opT B k))))), (1, .ref (xad E1 g2)), (0, .ref (xad E1 0))]) hx hb dL_areTilesRight_298 hl (k := 4) rfl (by decide) rfl (fun ls hl => ?_)
                                        refine lv_goto (tgt := 102) hx hb dL_areTilesRight_301 (by decide) ?_
                                        exact W.widen (by first | omega | (simp only [rm_J6_bitCount_0f7a4, rm_L_areTilesRight, rm_L_ask_0b, rm_L_ask_1, rm_L_ask_13b, rm_L_ask_2b, rm_L_ask_3b, rm_L_ask_4b, rm_X6_hasLock0, rm_X6_keysAt0, rm_X6_openings0]; omega)) (by first | omega | (simp only [rm_J6_bitCount_0f7a4, rm_L_areTilesRight, rm_L_ask_0b, rm_L_ask_1, rm_L_ask_13b, rm_L_ask_2b, rm_L_ask_3b, rm_L_ask_4b, rm_X6_hasLock0, rm_X6_keysAt0, rm_X6_openings0]; omega)) (ih102 (su + (bcZ (opT B k))) (k + 1) (ui g k k) σ59 _ _ _ (by omega) (by omega) (by intro j h0 h1; by_cases e : j = k; (rw [e, ui_s]); (rw [ui_n e]; exact hg j h0 (by omega))) (by have hbc := bcZ_b (hop k).1 (hop k).2; refine ⟨?_, by omega, by omega⟩; rw [smK_s (by omega), ← hsu.1]) fcw_0 fg2_0 (fun j hj0 => ((fr60 j (by omega)).trans (fr25 j (by omega)))) hH (lv_sub hl [0, 2, 4, 5, 6] rfl))
                                      · refine lv_iload_n hx hb dL_areTilesRight_249 rfl (lv_at hl 1 rfl) ?_
                                        refine x_if_eq (tgt := 290) hx hb dL_areTilesRight_250 (by decide) (by decide) (fun c250 => ?_) (fun c250 => ?_)
                                        · exact absurd c250 (by decide)
                                        · refine lv_aload_n hx hb dL_areTilesRight_253 rfl (lv_at hl 6 rfl) ?_
                                          refine lv_iload hx hb dL_areTilesRight_254 (lv_at hl 4 rfl) ?_
                                          refine x_iconst hx hb dL_areTilesRight_256 ?_
                                          refine x_idiv hx hb dL_areTilesRight_257 (by omega) (by omega) (by omega) (by omega) ?_
                                          refine lv_iload hx hb dL_areTilesRight_258 (lv_at hl 4 rfl) ?_
                                          refine x_iconst hx hb dL_areTilesRight_260 ?_
                                          refine x_irem hx hb dL_areTilesRight_261 (by omega) (by omega) (by omega) (by omega) ?_
                                          refine lv_iload hx hb dL_areTilesRight_262 (lv_at hl 0 rfl) ?_
                                          obtain ⟨fs9, hfs9⟩ := fcw_0.o0
                                          refine x_cVID (As := [.int (iZ (k / 5)), .int (iZ (k % 5)), .int (iZ d9)]) (rest := []) hx hb hml hts hown hK hST hOK hH 0 (q_isConnected0 l E1 ST hSF σ59 (k / 5) (k % 5) d9 B S Y fcw_0 (by omega) (by omega) (by omega) (by omega) (by omega)) (cwV 3 hts (goodIn_t (goodIn_x gK_79)) rfl rfl rfl (by decide +kernel) ⟨Nat.le_of_ble_eq_true rfl, Nat.le_of_ble_eq_true rfl⟩) (ltw (by decide)) hfs9 rfl rfl hl.1 rfl (Nat.le_of_ble_eq_true rfl) dL_areTilesRight_264 ⟨by first | omega | (simp only [rm_J6_bitCount_0f7a4, rm_L_areTilesRight, rm_L_ask_0b, rm_L_ask_1, rm_L_ask_13b, rm_L_ask_2b, rm_L_ask_3b, rm_L_ask_4b, rm_X6_hasLock0, rm_X6_isConnected0, rm_X6_keysAt0, rm_X6_openings0]; omega), by first | omega | (simp only [rm_J6_bitCount_0f7a4, rm_L_areTilesRight, rm_L_ask_0b, rm_L_ask_1, rm_L_ask_13b, rm_L_ask_2b, rm_L_ask_3b, rm_L_ask_4b, rm_X6_hasLock0, rm_X6_isConnected0, rm_X6_keysAt0, rm_X6_openings0]; omega)⟩ (fun z u h => h) (fun H locs hH => ?_)
                                          rw [show k / 5 * 5 + k % 5 = k by omega]
                                          refine lv_aload_n hx hb dL_areTilesRight_267 rfl (lv_at hl 6 rfl) ?_
                                          refine lv_iload hx hb dL_areTilesRight_268 (lv_at hl 4 rfl) ?_
                                          refine lv_iload hx hb dL_areTilesRight_270 (lv_at hl 0 rfl) ?_
                                          refine x_cSID (As := [.ref (xad E1 0), .int (iZ k), .int (iZ d9)]) (rest := [.int (iZ (b2 (decide (¬ cnZ (opT B) k d9 = -1))))]) hx hb hml hts hown hK hST hOK hH (c_L_joined l E1 ST hSF  σ59 k d9 B S Y fcw_0 (by omega) (by omega)) (va_cwS 3 hts (goodIn_t gK_171) rfl rfl rfl (by decide +kernel) ⟨Nat.le_of_ble_eq_true rfl, Nat.le_of_ble_eq_true rfl⟩) rfl hl.1 rfl (Nat.le_of_ble_eq_true rfl) dL_areTilesRight_272 ⟨by first | omega | (simp only [rm_J6_bitCount_0f7a4, rm_L_areTilesRight, rm_L_ask_0b, rm_L_ask_1, rm_L_ask_13b, rm_L_ask_2b, rm_L_ask_3b, rm_L_ask_4b, rm_L_joined_0, rm_X6_hasLock0, rm_X6_isConnected0, rm_X6_keysAt0, rm_X6_openings0]; omega), by first | omega | (simp only [rm_J6_bitCount_0f7a4, rm_L_areTilesRight, rm_L_ask_0b, rm_L_ask_1, rm_L_ask_13b, rm_L_ask_2b, rm_L_ask_3b, rm_L_ask_4b, rm_L_joined_0, rm_X6_hasLock0, rm_X6_isConnected0, rm_X6_keysAt0, rm_X6_openings0]; omega)⟩ (fun z u h => h) (fun H locs hH => ?_)
                                          have hcr := cnZ_rg (op := opT B) (c := k) (d := d9) (by omega) (by omega)
                                          refine x_if_lt (tgt := 282) hx hb dL_areTilesRight_275 (by decide) (by omega) (fun c275 => ?_) (fun c275 => ?_)
                                          · refine x_iconst hx hb dL_areTilesRight_282 ?_
                                            refine x_icmp_ne (tgt := 290) hx hb dL_areTilesRight_283 (by decide) (rg_b2 _) (by decide) (fun c283 => ?_) (fun c283 => ?_)
                                            · first | exact absurd (cnq1 c275) c283 | exact absurd (cnq0 hcr.1 c275) c283
                                            · refine x_iconst hx hb dL_areTilesRight_286 ?_
                                              refine lv_goto (tgt := 291) hx hb dL_areTilesRight_287 (by decide) ?_
                                              refine lv_istore_n (lv' := [(3, .int (iZ 1)), (6, .int (iZ d9)), (5, .int (iZ kk)), (2, .int (iZ (su + (bcZ (opT B k))))), (4, .int (iZ k)), (1, .ref (xad E1 g2)), (0, .ref (xad E1 0))]) hx hb dL_areTilesRight_291 rfl hl (by decide) rfl (fun ls hl => ?_)
                                              refine x_iinc (lv' := [(6, .int (iZ (d9 + 1))), (3, .int (iZ 1)), (5, .int (iZ kk)), (2, .int (iZ (su + (bcZ (opT B k))))), (4, .int (iZ k)), (1, .ref (xad E1 g2)), (0, .ref (xad E1 0))]) hx hb dL_areTilesRight_292 hl (k := 1) rfl (by decide) rfl (fun ls hl => ?_)
                                              refine lv_goto (tgt := 243) hx hb dL_areTilesRight_295 (by decide) ?_
                                              exact ih243 (d9 + 1) _ _ _ (by omega) (by first | omega | rfl | assumption | simp_all)  hH (lv_sub hl [0, 1, 2, 3, 4, 5, 6] rfl)
                                          · refine x_iconst hx hb dL_areTilesRight_278 ?_
                                            refine lv_goto (tgt := 283) hx hb dL_areTilesRight_279 (by decide) ?_
                                            refine x_icmp_ne (tgt := 290) hx hb dL_areTilesRight_283 (by decide) (rg_b2 _) (by decide) (fun c283 => ?_) (fun c283 => ?_)
                                            · first | exact absurd (cnq1 c275) c283 | exact absurd (cnq0 hcr.1 c275) c283
                                            · refine x_iconst hx hb dL_areTilesRight_286 ?_
                                              refine lv_goto (tgt := 291) hx hb dL_areTilesRight_287 (by decide) ?_
                                              refine lv_istore_n (lv' := [(3, .int (iZ 1)), (6, .int (iZ d9)), (5, .int (iZ kk)), (2, .int (iZ (su + (bcZ (opT B k))))), (4, .int (iZ k)), (1, .ref (xad E1 g2)), (0, .ref (xad E1 0))]) hx hb dL_areTilesRight_291 rfl hl (by decide) rfl (fun ls hl => ?_)
                                              refine x_iinc (lv' := [(6, .int (iZ (d9 + 1))), (3, .int (iZ 1)), (5, .int (iZ kk)), (2, .int (iZ (su + (bcZ (opT B k))))), (4, .int (iZ k)), (1, .ref (xad E1 g2)), (0, .ref (xad E1 0))]) hx hb dL_areTilesRight_292 hl (k := 1) rfl (by decide) rfl (fun ls hl => ?_)
                                              refine lv_goto (tgt := 243) hx hb dL_areTilesRight_295 (by decide) ?_
                                              exact ih243 (d9 + 1) _ _ _ (by omega) (by first | omega | rfl | assumption | simp_all)  hH (lv_sub hl [0, 1, 2, 3, 4, 5, 6] rfl)
                                  exact K243 5 0 _ _ _ (by first | omega | decide) (by first | omega | rfl | assumption | simp_all)  hH (lv_sub hl [0, 1, 2, 3, 4, 5, 6] rfl)
                              · refine x_iconst hx hb dL_areTilesRight_226 ?_
                                refine lv_goto (tgt := 231) hx hb dL_areTilesRight_227 (by decide) ?_
                                refine x_icmp_ne (tgt := 238) hx hb dL_areTilesRight_231 (by decide) (rg_b2 _) (by decide) (fun c231 => ?_) (fun c231 => ?_)
                                · first | exact absurd (lkq1 c223) c231 | exact absurd (lkq0 (hlk9 k) c223) c231
                                · refine x_iconst hx hb dL_areTilesRight_234 ?_
                                  refine lv_goto (tgt := 239) hx hb dL_areTilesRight_235 (by decide) ?_
                                  refine lv_istore_n (lv' := [(3, .int (iZ 1)), (6, .int (iZ i6)), (5, .int (iZ kk)), (2, .int (iZ (su + (bcZ (opT B k))))), (4, .int (iZ k)), (1, .ref (xad E1 g2)), (0, .ref (xad E1 0))]) hx hb dL_areTilesRight_239 rfl hl (by decide) rfl (fun ls hl => ?_)
                                  refine x_iconst hx hb dL_areTilesRight_240 ?_
                                  refine lv_istore (lv' := [(6, .int (iZ 0)), (3, .int (iZ 1)), (5, .int (iZ kk)), (2, .int (iZ (su + (bcZ (opT B k))))), (4, .int (iZ k)), (1, .ref (xad E1 g2)), (0, .ref (xad E1 0))]) hx hb dL_areTilesRight_241 hl (by decide) rfl (fun ls hl => ?_)
                                  have K243 : ∀ (nK : Nat) (d9 : Int) (H : Heap) (locs : List Loc) (ls : Array Slot), (4 - d9).toNat < nK → (0 ≤ d9 ∧ d9 ≤ 4) → Hx E1 (xA E s.heap.size) s.heap σ59 H locs → lv_has ls 7 [(6, .int (iZ d9)), (3, .int (iZ 1)), (5, .int (iZ kk)), (2, .int (iZ (su + (bcZ (opT B k))))), (4, .int (iZ k)), (1, .ref (xad E1 g2)), (0, .ref (xad E1 0))] → W p l e rm_L_areTilesRight s m args below meth c H locs ((((((((((0 + 1) + rm_L_ask_0b.cells) + rm_L_ask_0b.cells) + rm_L_ask_2b.cells) + rm_L_ask_13b.cells) + rm_L_ask_3b.cells) + rm_L_ask_4b.cells) + 7 * (k).toNat) + 1 * (i6).toNat) + rm_L_ask_1.cells) ((((((((((0 + 25) + rm_L_ask_0b.slots) + rm_L_ask_0b.slots) + rm_L_ask_2b.slots) + rm_L_ask_13b.slots) + rm_L_ask_3b.slots) + rm_L_ask_4b.slots) + 42 * (k).toNat) + 6 * (i6).toNat) + rm_L_ask_1.slots) Q (F0 m 243 ls []) := by
                                    intro n243
                                    induction n243 with
                                    | zero =>
                                      intro d9 H locs ls hm
                                      exact absurd hm (by first | exact Nat.not_lt_zero _ | omega)
                                    | succ n243 ih243 =>
                                      intro d9 H locs ls hm243 hd9  hH hl
                                      refine lv_iload hx hb dL_areTilesRight_243 (lv_at hl 0 rfl) ?_
                                      refine x_iconst hx hb dL_areTilesRight_245 ?_
                                      refine x_icmp_ge (tgt := 298) hx hb dL_areTilesRight_246 (by decide) (by omega) (by decide) (fun c246 => ?_) (fun c246 => ?_)
                                      · refine x_iinc (lv' := [(4, .int (iZ (k + 1))), (6, .int (iZ d9)), (3, .int (iZ 1)), (5, .int (iZ kk)), (2, .int (iZ (su + (bcZ (opT B k))))), (1, .ref (xad E1 g2)), (0, .ref (xad E1 0))]) hx hb dL_areTilesRight_298 hl (k := 4) rfl (by decide) rfl (fun ls hl => ?_)
                                        refine lv_goto (tgt := 102) hx hb dL_areTilesRight_301 (by decide) ?_
                                        exact W.widen (by first | omega | (simp only [rm_J6_bitCount_0f7a4, rm_L_areTilesRight, rm_L_ask_0b, rm_L_ask_1, rm_L_ask_13b, rm_L_ask_2b, rm_L_ask_3b, rm_L_ask_4b, rm_X6_hasLock0, rm_X6_keysAt0, rm_X6_openings0]; omega)) (by first | omega | (simp only [rm_J6_bitCount_0f7a4, rm_L_areTilesRight, rm_L_ask_0b, rm_L_ask_1, rm_L_ask_13b, rm_L_ask_2b, rm_L_ask_3b, rm_L_ask_4b, rm_X6_hasLock0, rm_X6_keysAt0, rm_X6_openings0]; omega)) (ih102 (su + (bcZ (opT B k))) (k + 1) (ui g k k) σ59 _ _ _ (by omega) (by omega) (by intro j h0 h1; by_cases e : j = k; (rw [e, ui_s]); (rw [ui_n e]; exact hg j h0 (by omega))) (by have hbc := bcZ_b (hop k).1 (hop k).2; refine ⟨?_, by omega, by omega⟩; rw [smK_s (by omega), ← hsu.1]) fcw_0 fg2_0 (fun j hj0 => ((fr60 j (by omega)).trans (fr25 j (by omega)))) hH (lv_sub hl [0, 2, 4, 5, 6] rfl))
                                      · refine lv_iload_n hx hb dL_areTilesRight_249 rfl (lv_at hl 1 rfl) ?_
                                        refine x_if_eq (tgt := 290) hx hb dL_areTilesRight_250 (by decide) (by decide) (fun c250 => ?_) (fun c250 => ?_)
                                        · exact absurd c250 (by decide)
                                        · refine lv_aload_n hx hb dL_areTilesRight_253 rfl (lv_at hl 6 rfl) ?_
                                          refine lv_iload hx hb dL_areTilesRight_254 (lv_at hl 4 rfl) ?_
                                          refine x_iconst hx hb dL_areTilesRight_256 ?_
                                          refine x_idiv hx hb dL_areTilesRight_257 (by omega) (by omega) (by omega) (by omega) ?_
                                          refine lv_iload hx hb dL_areTilesRight_258 (lv_at hl 4 rfl) ?_
                                          refine x_iconst hx hb dL_areTilesRight_260 ?_
                                          refine x_irem hx hb dL_areTilesRight_261 (by omega) (by omega) (by omega) (by omega) ?_
                                          refine lv_iload hx hb dL_areTilesRight_262 (lv_at hl 0 rfl) ?_
                                          obtain ⟨fs9, hfs9⟩ := fcw_0.o0
                                          refine x_cVID (As := [.int (iZ (k / 5)), .int (iZ (k % 5)), .int (iZ d9)]) (rest := []) hx hb hml hts hown hK hST hOK hH 0 (q_isConnected0 l E1 ST hSF σ59 (k / 5) (k % 5) d9 B S Y fcw_0 (by omega) (by omega) (by omega) (by omega) (by omega)) (cwV 3 hts (goodIn_t (goodIn_x gK_79)) rfl rfl rfl (by decide +kernel) ⟨Nat.le_of_ble_eq_true rfl, Nat.le_of_ble_eq_true rfl⟩) (ltw (by decide)) hfs9 rfl rfl hl.1 rfl (Nat.le_of_ble_eq_true rfl) dL_areTilesRight_264 ⟨by first | omega | (simp only [rm_J6_bitCount_0f7a4, rm_L_areTilesRight, rm_L_ask_0b, rm_L_ask_1, rm_L_ask_13b, rm_L_ask_2b, rm_L_ask_3b, rm_L_ask_4b, rm_X6_hasLock0, rm_X6_isConnected0, rm_X6_keysAt0, rm_X6_openings0]; omega), by first | omega | (simp only [rm_J6_bitCount_0f7a4, rm_L_areTilesRight, rm_L_ask_0b, rm_L_ask_1, rm_L_ask_13b, rm_L_ask_2b, rm_L_ask_3b, rm_L_ask_4b, rm_X6_hasLock0, rm_X6_isConnected0, rm_X6_keysAt0, rm_X6_openings0]; omega)⟩ (fun z u h => h) (fun H locs hH => ?_)
                                          rw [show k / 5 * 5 + k % 5 = k by omega]
                                          refine lv_aload_n hx hb dL_areTilesRight_267 rfl (lv_at hl 6 rfl) ?_
                                          refine lv_iload hx hb dL_areTilesRight_268 (lv_at hl 4 rfl) ?_
                                          refine lv_iload hx hb dL_areTilesRight_270 (lv_at hl 0 rfl) ?_
                                          refine x_cSID (As := [.ref (xad E1 0), .int (iZ k), .int (iZ d9)]) (rest := [.int (iZ (b2 (decide (¬ cnZ (opT B) k d9 = -1))))]) hx hb hml hts hown hK hST hOK hH (c_L_joined l E1 ST hSF  σ59 k d9 B S Y fcw_0 (by omega) (by omega)) (va_cwS 3 hts (goodIn_t gK_171) rfl rfl rfl (by decide +kernel) ⟨Nat.le_of_ble_eq_true rfl, Nat.le_of_ble_eq_true rfl⟩) rfl hl.1 rfl (Nat.le_of_ble_eq_true rfl) dL_areTilesRight_272 ⟨by first | omega | (simp only [rm_J6_bitCount_0f7a4, rm_L_areTilesRight, rm_L_ask_0b, rm_L_ask_1, rm_L_ask_13b, rm_L_ask_2b, rm_L_ask_3b, rm_L_ask_4b, rm_L_joined_0, rm_X6_hasLock0, rm_X6_isConnected0, rm_X6_keysAt0, rm_X6_openings0]; omega), by first | omega | (simp only [rm_J6_bitCount_0f7a4, rm_L_areTilesRight, rm_L_ask_0b, rm_L_ask_1, rm_L_ask_13b, rm_L_ask_2b, rm_L_ask_3b, rm_L_ask_4b, rm_L_joined_0, rm_X6_hasLock0, rm_X6_isConnected0, rm_X6_keysAt0, rm_X6_openings0]; omega)⟩ (fun z u h => h) (fun H locs hH => ?_)
                                          have hcr := cnZ_rg (op := opT B) (c := k) (d := d9) (by omega) (by omega)
                                          refine x_if_lt (tgt := 282) hx hb dL_areTilesRight_275 (by decide) (by omega) (fun c275 => ?_) (fun c275 => ?_)
                                          · refine x_iconst hx hb dL_areTilesRight_282 ?_
                                            refine x_icmp_ne (tgt := 290) hx hb dL_areTilesRight_283 (by decide) (rg_b2 _) (by decide) (fun c283 => ?_) (fun c283 => ?_)
                                            · first | exact absurd (cnq1 c275) c283 | exact absurd (cnq0 hcr.1 c275) c283
                                            · refine x_iconst hx hb dL_areTilesRight_286 ?_
                                              refine lv_goto (tgt := 291) hx hb dL_areTilesRight_287 (by decide) ?_
                                              refine lv_istore_n (lv' := [(3, .int (iZ 1)), (6, .int (iZ d9)), (5, .int (iZ kk)), (2, .int (iZ (su + (bcZ (opT B k))))), (4, .int (iZ k)), (1, .ref (xad E1 g2)), (0, .ref (xad E1 0))]) hx hb dL_areTilesRight_291 rfl hl (by decide) rfl (fun ls hl => ?_)
                                              refine x_iinc (lv' := [(6, .int (iZ (d9 + 1))), (3, .int (iZ 1)), (5, .int (iZ kk)), (2, .int (iZ (su + (bcZ (opT B k))))), (4, .int (iZ k)), (1, .ref (xad E1 g2)), (0, .ref (xad E1 0))]) hx hb dL_areTilesRight_292 hl (k := 1) rfl (by decide) rfl (fun ls hl => ?_)
                                              refine lv_goto (tgt := 243) hx hb dL_areTilesRight_295 (by decide) ?_
                                              exact ih243 (d9 + 1) _ _ _ (by omega) (by first | omega | rfl | assumption | simp_all)  hH (lv_sub hl [0, 1, 2, 3, 4, 5, 6] rfl)
                                          · refine x_iconst hx hb dL_areTilesRight_278 ?_
                                            refine lv_goto (tgt := 283) hx hb dL_areTilesRight_279 (by decide) ?_
                                            refine x_icmp_ne (tgt := 290) hx hb dL_areTilesRight_283 (by decide) (rg_b2 _) (by decide) (fun c283 => ?_) (fun c283 => ?_)
                                            · first | exact absurd (cnq1 c275) c283 | exact absurd (cnq0 hcr.1 c275) c283
                                            · refine x_iconst hx hb dL_areTilesRight_286 ?_
                                              refine lv_goto (tgt := 291) hx hb dL_areTilesRight_287 (by decide) ?_
                                              refine lv_istore_n (lv' := [(3, .int (iZ 1)), (6, .int (iZ d9)), (5, .int (iZ kk)), (2, .int (iZ (su + (bcZ (opT B k))))), (4, .int (iZ k)), (1, .ref (xad E1 g2)), (0, .ref (xad E1 0))]) hx hb dL_areTilesRight_291 rfl hl (by decide) rfl (fun ls hl => ?_)
                                              refine x_iinc (lv' := [(6, .int (iZ (d9 + 1))), (3, .int (iZ 1)), (5, .int (iZ kk)), (2, .int (iZ (su + (bcZ (opT B k))))), (4, .int (iZ k)), (1, .ref (xad E1 g2)), (0, .ref (xad E1 0))]) hx hb dL_areTilesRight_292 hl (k := 1) rfl (by decide) rfl (fun ls hl => ?_)
                                              refine lv_goto (tgt := 243) hx hb dL_areTilesRight_295 (by decide) ?_
                                              exact ih243 (d9 + 1) _ _ _ (by omega) (by first | omega | rfl | assumption | simp_all)  hH (lv_sub hl [0, 1, 2, 3, 4, 5, 6] rfl)
                                  exact K243 5 0 _ _ _ (by first | omega | decide) (by first | omega | rfl | assumption | simp_all)  hH (lv_sub hl [0, 1, 2, 3, 4, 5, 6] rfl)
                        · refine lv_iload hx hb dL_areTilesRight_146 (lv_at hl 1 rfl) ?_
                          refine lv_aload_n hx hb dL_areTilesRight_148 rfl (lv_at hl 6 rfl) ?_
                          refine x_iconst hx hb dL_areTilesRight_149 ?_
                          refine lv_iload hx hb dL_areTilesRight_150 (lv_at hl 0 rfl) ?_
                          refine x_iconst hx hb dL_areTilesRight_152 ?_
                          refine x_iconst hx hb dL_areTilesRight_153 ?_
                          refine x_cSW (As := [.ref (xad E1 0), .int (iZ 3), .int (iZ i6), .int (iZ 0), .int (iZ 0)]) (rest := [.int (iZ kk)]) hx hb hml hts hown hK hST hOK hH (c_L_ask_3 l E1 ST hSF hSX htr σ59 i6 0 0 B S Y fcw_0 (by omega)) (vx_cwSW 5 hts (goodIn_t gK_162) rfl rfl rfl (by decide +kernel) ⟨Nat.le_of_ble_eq_true rfl, Nat.le_of_ble_eq_true rfl⟩) rfl hl.1 rfl (Nat.le_of_ble_eq_true rfl) dL_areTilesRight_154 ⟨by first | omega | (simp only [rm_J6_bitCount_0f7a4, rm_L_areTilesRight, rm_L_ask_0b, rm_L_ask_13b, rm_L_ask_2b, rm_L_ask_3, rm_L_ask_3b, rm_L_ask_4b, rm_X6_openings0]; omega), by first | omega | (simp only [rm_J6_bitCount_0f7a4, rm_L_areTilesRight, rm_L_ask_0b, rm_L_ask_13b, rm_L_ask_2b, rm_L_ask_3, rm_L_ask_3b, rm_L_ask_4b, rm_X6_openings0]; omega)⟩ (fun z91 σ92 H locs hp93 hH => ?_)
                          obtain ⟨hq9, hu9⟩ := hp93
                          subst hq9
                          rw [hu9] at hH
                          have hkr := aKp_rg (kp := kpT B) (i := i6)
                          refine lv_iload hx hb dL_areTilesRight_157 (lv_at hl 3 rfl) ?_
                          refine x_icmp_ne (tgt := 166) hx hb dL_areTilesRight_159 (by decide) (by omega) (by omega) (fun c159 => ?_) (fun c159 => ?_)
                          · refine x_iconst hx hb dL_areTilesRight_166 ?_
                            refine x_iadd hx hb dL_areTilesRight_167 ?_
                            refine lv_istore (lv' := [(5, .int (iZ (kk + 0))), (6, .int (iZ i6)), (2, .int (iZ (su + (bcZ (opT B k))))), (4, .int (iZ k)), (3, .int (iZ 1)), (1, .ref (xad E1 g2)), (0, .ref (xad E1 0))]) hx hb dL_areTilesRight_168 hl (by decide) rfl (fun ls hl => ?_)
                            refine x_iinc (lv' := [(6, .int (iZ (i6 + 1))), (5, .int (iZ (kk + 0))), (2, .int (iZ (su + (bcZ (opT B k))))), (4, .int (iZ k)), (3, .int (iZ 1)), (1, .ref (xad E1 g2)), (0, .ref (xad E1 0))]) hx hb dL_areTilesRight_170 hl (k := 1) rfl (by decide) rfl (fun ls hl => ?_)
                            refine lv_goto (tgt := 139) hx hb dL_areTilesRight_173 (by decide) ?_
                            exact W.widen (by first | omega | (simp only [rm_J6_bitCount_0f7a4, rm_L_areTilesRight, rm_L_ask_0b, rm_L_ask_13b, rm_L_ask_2b, rm_L_ask_3, rm_L_ask_3b, rm_L_ask_4b, rm_X6_openings0]; omega)) (by first | omega | (simp only [rm_J6_bitCount_0f7a4, rm_L_areTilesRight, rm_L_ask_0b, rm_L_ask_13b, rm_L_ask_2b, rm_L_ask_3, rm_L_ask_3b, rm_L_ask_4b, rm_X6_openings0]; omega)) (ih139 (kk + 0) (i6 + 1) _ _ _ (by omega) (by omega) (by rw [cntK_s (by omega)]; first | rw [if_pos ((aKp_eq (by omega)).mp c159), hkk] | rw [if_neg (fun q => c159 ((aKp_eq (by omega)).mpr q)), hkk]) (by omega)  hH (lv_sub hl [0, 1, 2, 3, 4, 5, 6] rfl))
                          · refine x_iconst hx hb dL_areTilesRight_162 ?_
                            refine lv_goto (tgt := 167) hx hb dL_areTilesRight_163 (by decide) ?_
                            refine x_iadd hx hb dL_areTilesRight_167 ?_
                            refine lv_istore (lv' := [(5, .int (iZ (kk + 1))), (6, .int (iZ i6)), (2, .int (iZ (su + (bcZ (opT B k))))), (4, .int (iZ k)), (3, .int (iZ 1)), (1, .ref (xad E1 g2)), (0, .ref (xad E1 0))]) hx hb dL_areTilesRight_168 hl (by decide) rfl (fun ls hl => ?_)
                            refine x_iinc (lv' := [(6, .int (iZ (i6 + 1))), (5, .int (iZ (kk + 1))), (2, .int (iZ (su + (bcZ (opT B k))))), (4, .int (iZ k)), (3, .int (iZ 1)), (1, .ref (xad E1 g2)), (0, .ref (xad E1 0))]) hx hb dL_areTilesRight_170 hl (k := 1) rfl (by decide) rfl (fun ls hl => ?_)
                            refine lv_goto (tgt := 139) hx hb dL_areTilesRight_173 (by decide) ?_
                            exact W.widen (by first | omega | (simp only [rm_J6_bitCount_0f7a4, rm_L_areTilesRight, rm_L_ask_0b, rm_L_ask_13b, rm_L_ask_2b, rm_L_ask_3, rm_L_ask_3b, rm_L_ask_4b, rm_X6_openings0]; omega)) (by first | omega | (simp only [rm_J6_bitCount_0f7a4, rm_L_areTilesRight, rm_L_ask_0b, rm_L_ask_13b, rm_L_ask_2b, rm_L_ask_3, rm_L_ask_3b, rm_L_ask_4b, rm_X6_openings0]; omega)) (ih139 (kk + 1) (i6 + 1) _ _ _ (by omega) (by omega) (by rw [cntK_s (by omega)]; first | rw [if_pos ((aKp_eq (by omega)).mp c159), hkk] | rw [if_neg (fun q => c159 ((aKp_eq (by omega)).mpr q)), hkk]) (by omega)  hH (lv_sub hl [0, 1, 2, 3, 4, 5, 6] rfl))
                    exact W.widen (by first | omega | (simp only [rm_J6_bitCount_0f7a4, rm_L_areTilesRight, rm_L_ask_0b, rm_L_ask_13b, rm_L_ask_2b, rm_L_ask_3b, rm_L_ask_4b, rm_X6_openings0]; omega)) (by first | omega | (simp only [rm_J6_bitCount_0f7a4, rm_L_areTilesRight, rm_L_ask_0b, rm_L_ask_13b, rm_L_ask_2b, rm_L_ask_3b, rm_L_ask_4b, rm_X6_openings0]; omega)) (K139 7 0 0 _ _ _ (by first | omega | decide) (by omega) (by rfl) (by omega)  hH (lv_sub hl [0, 1, 2, 3, 4, 5, 6] rfl))
              exact W.widen (by first | omega | (simp only [rm_L_areTilesRight, rm_L_ask_0b, rm_L_ask_13b, rm_L_ask_2b, rm_L_ask_3b, rm_L_ask_4b]; omega)) (by first | omega | (simp only [rm_L_areTilesRight, rm_L_ask_0b, rm_L_ask_13b, rm_L_ask_2b, rm_L_ask_3b, rm_L_ask_4b]; omega)) (K102 26 0 0 (fun _ => 0) σ3 _ _ _ (by first | omega | decide) (by omega) (by intro j h0 h1; omega) (by exact ⟨rfl, by omega, by omega⟩) fcw_0 fg2_0 (fun j _ => rfl) hH (lv_sub hl [0, 1, 2, 3, 4] rfl))
