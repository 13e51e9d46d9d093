def rm_L_areWalkersRight : Room := { frames := 32, cells := 39600, slots := 240000, locals := 549 }
set_option maxRecDepth 100000 in
set_option maxHeartbeats 16000000 in
theorem c_L_areWalkersRight (l : Launch) (E : xE) (ST : xST) (hSF : SF ST) (hSX : SX ST) (htr : l.stackTraces = false) (σ : xW) (to : Int) (B : BT) (S : Option BT) (Y : lnQ) (hr0 : cw E σ B S Y) (ht : 0 ≤ to ∧ to ≤ 24) : CI l E ST yL_areWalkersRight wML_areWalkersRight rm_L_areWalkersRight [.ref (xad E 0), .int (iZ to)] σ (fun (z : Int) (u : xW) => z = b2 true ∧ (cw E u B S Y) ∧ ∀ j : Nat, (j < 0 ∨ 0 + 85 ≤ j) → u j = σ j) := by
  have fcw_0 : cw E σ B S Y := hr0
  refine CI_of (by decide) rfl (Nat.le_of_ble_eq_true rfl) ?_
  intro p e s m args below meth c Q ls G hH hl hQ
  obtain ⟨hx, hb, hml, hown, hts, hK, hST, hlocks, hr, hno⟩ := G
  have hOK := hSF.1
  have hown : s.vm.findClass RL = some m.cls := hown
  have hl : lv_has ls 14 [(0, .ref (xad E 0)), (1, .int (iZ to))] := hl
  obtain ⟨hop, hlk9, hkp, hwc9, hpn, hnw⟩ : BI (opT B) (lkT B) (kpT B) (wcT B) (pnT B) (nwT B) := fcw_0.bit
  refine lv_aload_n hx hb dL_areWalkersRight_0 rfl (lv_at hl 0 rfl) ?_
  obtain ⟨fs9, hfs9⟩ := fcw_0.o0
  refine x_cVID (As := []) (rest := []) hx hb hml hts hown hK hST hOK hH 0 (q_walkerCount l E ST hSF σ B S Y fcw_0 ) (cwV 0 hts (goodIn_t (goodIn_x gK_143)) rfl rfl rfl (by decide +kernel) ⟨Nat.le_of_ble_eq_true rfl, Nat.le_of_ble_eq_true rfl⟩) (ltw (by decide)) hfs9 rfl rfl hl.1 rfl (Nat.le_of_ble_eq_true rfl) dL_areWalkersRight_1 ⟨Nat.le_of_ble_eq_true rfl, Nat.le_of_ble_eq_true rfl⟩ (fun z u h => h) (fun H locs hH => ?_)
  refine lv_istore_n (lv' := [(2, .int (iZ (nwT B))), (0, .ref (xad E 0)), (1, .int (iZ to))]) hx hb dL_areWalkersRight_4 rfl hl (by decide) rfl (fun ls hl => ?_)
  refine lv_aload_n hx hb dL_areWalkersRight_5 rfl (lv_at hl 1 rfl) ?_
  refine x_iconst hx hb dL_areWalkersRight_6 ?_
  refine x_iconst hx hb dL_areWalkersRight_7 ?_
  refine x_iconst hx hb dL_areWalkersRight_8 ?_
  refine lv_iload_n hx hb dL_areWalkersRight_9 rfl (lv_at hl 0 rfl) ?_
  refine x_cSW (As := [.ref (xad E 0), .int (iZ 5), .int (iZ 0), .int (iZ 0), .int (iZ (nwT B))]) (rest := []) hx hb hml hts hown hK hST hOK hH (c_L_ask_5b l E ST hSF hSX htr σ 0 0 (nwT B) B S Y fcw_0 (by omega) (by omega) (by omega) (by omega)) (vx_cwSW 5 hts (goodIn_t gK_162) rfl rfl rfl (by decide +kernel) ⟨Nat.le_of_ble_eq_true rfl, Nat.le_of_ble_eq_true rfl⟩) rfl hl.1 rfl (Nat.le_of_ble_eq_true rfl) dL_areWalkersRight_10 ⟨Nat.le_of_ble_eq_true rfl, Nat.le_of_ble_eq_true rfl⟩ (fun z4 σ5 H locs hp6 hH => ?_)
  obtain ⟨hq9, hp6⟩ := hp6
  subst hq9
  obtain ⟨fcw_0, fr7⟩ := hp6
  refine x_sipush hx hb dL_areWalkersRight_13 (by decide) ?_
  refine x_icmp_ne (tgt := 83) hx hb dL_areWalkersRight_16 (by decide) (by decide) (by decide) (fun c16 => ?_) (fun c16 => ?_)
  · exact absurd c16 (by decide)
  · refine lv_aload_n hx hb dL_areWalkersRight_19 rfl (lv_at hl 1 rfl) ?_
    refine x_bipush hx hb dL_areWalkersRight_20 (by decide) ?_
    refine x_iconst hx hb dL_areWalkersRight_22 ?_
    refine x_iconst hx hb dL_areWalkersRight_23 ?_
    refine x_iconst hx hb dL_areWalkersRight_24 ?_
    refine x_cSW (As := [.ref (xad E 0), .int (iZ 7), .int (iZ 0), .int (iZ 0), .int (iZ (-1))]) (rest := []) hx hb hml hts hown hK hST hOK hH (c_L_ask_7b l E ST hSF hSX htr σ5 0 0 (-1) B S Y fcw_0 (by omega) (by omega) (by omega) (by omega)) (vx_cwSW 5 hts (goodIn_t gK_162) rfl rfl rfl (by decide +kernel) ⟨Nat.le_of_ble_eq_true rfl, Nat.le_of_ble_eq_true rfl⟩) rfl hl.1 rfl (Nat.le_of_ble_eq_true rfl) dL_areWalkersRight_25 ⟨Nat.le_of_ble_eq_true rfl, Nat.le_of_ble_eq_true rfl⟩ (fun z9 σ10 H locs hp11 hH => ?_)
    obtain ⟨hq9, hp11⟩ := hp11
    subst hq9
    obtain ⟨fcw_0, fr12⟩ := hp11
    refine x_sipush hx hb dL_areWalkersRight_28 (by decide) ?_
    refine x_icmp_ne (tgt := 83) hx hb dL_areWalkersRight_31 (by decide) (by decide) (by decide) (fun c31 => ?_) (fun c31 => ?_)
    · exact absurd c31 (by decide)
    · refine lv_aload_n hx hb dL_areWalkersRight_34 rfl (lv_at hl 1 rfl) ?_
      refine x_bipush hx hb dL_areWalkersRight_35 (by decide) ?_
      refine lv_iload_n hx hb dL_areWalkersRight_37 rfl (lv_at hl 0 rfl) ?_
      refine x_iconst hx hb dL_areWalkersRight_38 ?_
      refine x_iconst hx hb dL_areWalkersRight_39 ?_
      refine x_cSW (As := [.ref (xad E 0), .int (iZ 8), .int (iZ (nwT B)), .int (iZ 0), .int (iZ 0)]) (rest := []) hx hb hml hts hown hK hST hOK hH (c_L_ask_8b l E ST hSF hSX htr σ10 (nwT B) 0 0 B S Y fcw_0 (by omega) (by omega) (by omega) (by omega)) (vx_cwSW 5 hts (goodIn_t gK_162) rfl rfl rfl (by decide +kernel) ⟨Nat.le_of_ble_eq_true rfl, Nat.le_of_ble_eq_true rfl⟩) rfl hl.1 rfl (Nat.le_of_ble_eq_true rfl) dL_areWalkersRight_40 ⟨Nat.le_of_ble_eq_true rfl, Nat.le_of_ble_eq_true rfl⟩ (fun z14 σ15 H locs hp16 hH => ?_)
      obtain ⟨hq9, hp16⟩ := hp16
      subst hq9
      obtain ⟨fcw_0, fr17⟩ := hp16
      refine x_sipush hx hb dL_areWalkersRight_43 (by decide) ?_
      refine x_icmp_ne (tgt := 83) hx hb dL_areWalkersRight_46 (by decide) (by decide) (by decide) (fun c46 => ?_) (fun c46 => ?_)
      · exact absurd c46 (by decide)
      · refine lv_aload_n hx hb dL_areWalkersRight_49 rfl (lv_at hl 1 rfl) ?_
        refine x_bipush hx hb dL_areWalkersRight_50 (by decide) ?_
        refine lv_iload_n hx hb dL_areWalkersRight_52 rfl (lv_at hl 0 rfl) ?_
        refine x_iconst hx hb dL_areWalkersRight_53 ?_
        refine x_iconst hx hb dL_areWalkersRight_54 ?_
        refine x_cSW (As := [.ref (xad E 0), .int (iZ 12), .int (iZ (nwT B)), .int (iZ 0), .int (iZ 0)]) (rest := []) hx hb hml hts hown hK hST hOK hH (c_L_ask_12b l E ST hSF hSX htr σ15 (nwT B) 0 0 B S Y fcw_0 (by omega) (by omega) (by omega) (by omega)) (vx_cwSW 5 hts (goodIn_t gK_162) rfl rfl rfl (by decide +kernel) ⟨Nat.le_of_ble_eq_true rfl, Nat.le_of_ble_eq_true rfl⟩) rfl hl.1 rfl (Nat.le_of_ble_eq_true rfl) dL_areWalkersRight_55 ⟨Nat.le_of_ble_eq_true rfl, Nat.le_of_ble_eq_true rfl⟩ (fun z19 σ20 H locs hp21 hH => ?_)
        obtain ⟨hq9, hp21⟩ := hp21
        subst hq9
        obtain ⟨fcw_0, fr22⟩ := hp21
        refine x_sipush hx hb dL_areWalkersRight_58 (by decide) ?_
        refine x_icmp_ne (tgt := 83) hx hb dL_areWalkersRight_61 (by decide) (by decide) (by decide) (fun c61 => ?_) (fun c61 => ?_)
        · exact absurd c61 (by decide)
        · refine lv_aload_n hx hb dL_areWalkersRight_64 rfl (lv_at hl 1 rfl) ?_
          refine x_bipush hx hb dL_areWalkersRight_65 (by decide) ?_
          refine x_iconst hx hb dL_areWalkersRight_67 ?_
          refine x_iconst hx hb dL_areWalkersRight_68 ?_
          refine lv_iload_n hx hb dL_areWalkersRight_69 rfl (lv_at hl 0 rfl) ?_
          refine x_cSW (As := [.ref (xad E 0), .int (iZ 9), .int (iZ 0), .int (iZ 0), .int (iZ (nwT B))]) (rest := []) hx hb hml hts hown hK hST hOK hH (c_L_ask_9b l E ST hSF hSX htr σ20 0 0 (nwT B) B S Y fcw_0 (by omega) (by omega) (by omega) (by omega)) (vx_cwSW 5 hts (goodIn_t gK_162) rfl rfl rfl (by decide +kernel) ⟨Nat.le_of_ble_eq_true rfl, Nat.le_of_ble_eq_true rfl⟩) rfl hl.1 rfl (Nat.le_of_ble_eq_true rfl) dL_areWalkersRight_70 ⟨Nat.le_of_ble_eq_true rfl, Nat.le_of_ble_eq_true rfl⟩ (fun z24 σ25 H locs hp26 hH => ?_)
          obtain ⟨hq9, hp26⟩ := hp26
          subst hq9
          obtain ⟨fcw_0, fr27⟩ := hp26
          refine x_sipush hx hb dL_areWalkersRight_73 (by decide) ?_
          refine x_icmp_ne (tgt := 83) hx hb dL_areWalkersRight_76 (by decide) (by decide) (by decide) (fun c76 => ?_) (fun c76 => ?_)
          · exact absurd c76 (by decide)
          · refine x_iconst hx hb dL_areWalkersRight_79 ?_
            refine lv_goto (tgt := 84) hx hb dL_areWalkersRight_80 (by decide) ?_
            refine lv_istore_n (lv' := [(3, .int (iZ 1)), (2, .int (iZ (nwT B))), (0, .ref (xad E 0)), (1, .int (iZ to))]) hx hb dL_areWalkersRight_84 rfl hl (by decide) rfl (fun ls hl => ?_)
            refine x_iconst hx hb dL_areWalkersRight_85 ?_
            refine lv_istore (lv' := [(4, .int (iZ 0)), (3, .int (iZ 1)), (2, .int (iZ (nwT B))), (0, .ref (xad E 0)), (1, .int (iZ to))]) hx hb dL_areWalkersRight_86 hl (by decide) rfl (fun ls hl => ?_)
            have K88 : ∀ (nK : Nat) (w : Int) (σ29 : xW) (H : Heap) (locs : List Loc) (ls : Array Slot), (nwT B - w).toNat < nK → (0 ≤ w ∧ w ≤ nwT B) → cw E σ29 B S Y → (∀ j : Nat, (j < 0 ∨ 0 + 85 ≤ j) → σ29 j = σ25 j) → Hx E (xA E s.heap.size) s.heap σ29 H locs → lv_has ls 14 [(4, .int (iZ w)), (3, .int (iZ 1)), (2, .int (iZ (nwT B))), (0, .ref (xad E 0)), (1, .int (iZ to))] → W p l e rm_L_areWalkersRight s m args below meth c H locs ((((((0 + rm_L_ask_5b.cells) + rm_L_ask_7b.cells) + rm_L_ask_8b.cells) + rm_L_ask_12b.cells) + rm_L_ask_9b.cells) + 13100 * (w).toNat) ((((((0 + rm_L_ask_5b.slots) + rm_L_ask_7b.slots) + rm_L_ask_8b.slots) + rm_L_ask_12b.slots) + rm_L_ask_9b.slots) + 79400 * (w).toNat) Q (F0 m 88 ls []) := by
              intro n88
              induction n88 with
              | zero =>
                intro w σ29 H locs ls hm
                exact absurd hm (by first | exact Nat.not_lt_zero _ | omega)
              | succ n88 ih88 =>
                intro w σ29 H locs ls hm88 hw fcw_0 fr30 hH hl
                refine lv_iload hx hb dL_areWalkersRight_88 (lv_at hl 0 rfl) ?_
                refine lv_iload_n hx hb dL_areWalkersRight_90 rfl (lv_at hl 2 rfl) ?_
                refine x_icmp_ge (tgt := 548) hx hb dL_areWalkersRight_91 (by decide) (by omega) (by omega) (fun c91 => ?_) (fun c91 => ?_)
                · refine lv_iload_n hx hb dL_areWalkersRight_548 rfl (lv_at hl 1 rfl) ?_
                  subst hQ
                  exact x_zret (b := true) hx hb hr hlocks hH (by first | omega | (simp only [rm_L_areWalkersRight, rm_L_ask_12b, rm_L_ask_5b, rm_L_ask_7b, rm_L_ask_8b, rm_L_ask_9b, rm_X6_walkerCount]; omega)) (by first | omega | (simp only [rm_L_areWalkersRight, rm_L_ask_12b, rm_L_ask_5b, rm_L_ask_7b, rm_L_ask_8b, rm_L_ask_9b, rm_X6_walkerCount]; omega)) ⟨congrArg b2 (show true = true from (by rfl)), fcw_0, fun j hj0 => ((fr30 j (by omega)).trans ((fr27 j (by omega)).trans ((fr22 j (by omega)).trans ((fr17 j (by omega)).trans ((fr12 j (by omega)).trans (fr7 j (by omega)))))))⟩ dL_areWalkersRight_549
                · have hw2 : w ≤ 2 := by omega
                  refine x_iconst hx hb dL_areWalkersRight_94 ?_
                  refine lv_aload_n hx hb dL_areWalkersRight_95 rfl (lv_at hl 3 rfl) ?_
                  refine lv_iload hx hb dL_areWalkersRight_96 (lv_at hl 0 rfl) ?_
                  obtain ⟨fs9, hfs9⟩ := fcw_0.o0
                  refine x_cVID (As := [.int (iZ w)]) (rest := [.int (iZ 5)]) hx hb hml hts hown hK hST hOK hH 0 (q_walkerRow0 l E ST hSF σ29 w B S Y fcw_0 (by omega) (by omega)) (cwV 1 hts (goodIn_t (goodIn_x gK_165)) rfl rfl rfl (by decide +kernel) ⟨Nat.le_of_ble_eq_true rfl, Nat.le_of_ble_eq_true rfl⟩) (ltw (by decide)) hfs9 rfl rfl hl.1 rfl (Nat.le_of_ble_eq_true rfl) dL_areWalkersRight_98 ⟨by first | omega | (simp only [rm_L_areWalkersRight, rm_L_ask_12b, rm_L_ask_5b, rm_L_ask_7b, rm_L_ask_8b, rm_L_ask_9b, rm_X6_walkerCount, rm_X6_walkerRow0]; omega), by first | omega | (simp only [rm_L_areWalkersRight, rm_L_ask_12b, rm_L_ask_5b, rm_L_ask_7b, rm_L_ask_8b, rm_L_ask_9b, rm_X6_walkerCount, rm_X6_walkerRow0]; omega)⟩ (fun z u h => h) (fun H locs hH => ?_)
                  refine x_imul hx hb dL_areWalkersRight_101 ?_
                  refine lv_aload_n hx hb dL_areWalkersRight_102 rfl (lv_at hl 3 rfl) ?_
                  refine lv_iload hx hb dL_areWalkersRight_103 (lv_at hl 0 rfl) ?_
                  obtain ⟨fs9, hfs9⟩ := fcw_0.o0
                  refine x_cVID (As := [.int (iZ w)]) (rest := [.int (iZ (5 * ((wcT B) w / 5)))]) hx hb hml hts hown hK hST hOK hH 0 (q_walkerColumn0 l E ST hSF σ29 w B S Y fcw_0 (by omega) (by omega)) (cwV 1 hts (goodIn_t (goodIn_x gK_168)) rfl rfl rfl (by decide +kernel) ⟨Nat.le_of_ble_eq_true rfl, Nat.le_of_ble_eq_true rfl⟩) (ltw (by decide)) hfs9 rfl rfl hl.1 rfl (Nat.le_of_ble_eq_true rfl) dL_areWalkersRight_105 ⟨by first | omega | (simp only [rm_L_areWalkersRight, rm_L_ask_12b, rm_L_ask_5b, rm_L_ask_7b, rm_L_ask_8b, rm_L_ask_9b, rm_X6_walkerColumn0, rm_X6_walkerCount, rm_X6_walkerRow0]; omega), by first | omega | (simp only [rm_L_areWalkersRight, rm_L_ask_12b, rm_L_ask_5b, rm_L_ask_7b, rm_L_ask_8b, rm_L_ask_9b, rm_X6_walkerColumn0, rm_X6_walkerCount, rm_X6_walkerRow0]; omega)⟩ (fun z u h => h) (fun H locs hH => ?_)
                  refine x_iadd hx hb dL_areWalkersRight_108 ?_
                  rw [show 5 * (wcT B w / 5) + wcT B w % 5 = wcT B w by omega]
                  have hat := hwc9 w
                  refine lv_istore (lv' := [(5, .int (iZ (wcT B w))), (4, .int (iZ w)), (3, .int (iZ 1)), (2, .int (iZ (nwT B))), (0, .ref (xad E 0)), (1, .int (iZ to))]) hx hb dL_areWalkersRight_109 hl (by decide) rfl (fun ls hl => ?_)
                  refine lv_aload_n hx hb dL_areWalkersRight_111 rfl (lv_at hl 4 rfl) ?_
                  refine lv_iload hx hb dL_areWalkersRight_112 (lv_at hl 1 rfl) ?_
                  refine lv_iload hx hb dL_areWalkersRight_114 (lv_at hl 0 rfl) ?_
                  refine x_cSR (As := [.ref (xad E 0), .int (iZ w), .int (iZ (wcT B w))]) (rest := []) hx hb hml hts hown hK hST hOK hH (c_L_lengths l E ST hSF hSX htr σ29 w (wcT B w) B S Y fcw_0 (by omega) (by omega)) (va_cwS 3 hts (goodIn_t gK_253) rfl rfl rfl (by decide +kernel) ⟨Nat.le_of_ble_eq_true rfl, Nat.le_of_ble_eq_true rfl⟩) rfl hl.1 rfl (Nat.le_of_ble_eq_true rfl) dL_areWalkersRight_116 ⟨by first | omega | (simp only [rm_L_areWalkersRight, rm_L_ask_12b, rm_L_ask_5b, rm_L_ask_7b, rm_L_ask_8b, rm_L_ask_9b, rm_L_lengths, rm_X6_walkerColumn0, rm_X6_walkerCount, rm_X6_walkerRow0]; omega), by first | omega | (simp only [rm_L_areWalkersRight, rm_L_ask_12b, rm_L_ask_5b, rm_L_ask_7b, rm_L_ask_8b, rm_L_ask_9b, rm_L_lengths, rm_X6_walkerColumn0, rm_X6_walkerCount, rm_X6_walkerRow0]; omega)⟩ (fun E37 g38 σ39 H locs hp42 hH => ?_)
                  obtain ⟨hE41, fcw_0, ⟨Fa, fg38_0, hFa⟩, fr40⟩ := hp42
                  have hK := hE41.K hK
                  have hgg38 := hE41.lt
                  rw [← hE41.2.2.2.2 0 (by omega)] at hl
                  refine lv_astore (lv' := [(6, .ref (xad E37 g38)), (5, .int (iZ (wcT B w))), (4, .int (iZ w)), (3, .int (iZ 1)), (2, .int (iZ (nwT B))), (0, .ref (xad E37 0)), (1, .int (iZ to))]) hx hb dL_areWalkersRight_119 hl (by decide) rfl (fun ls hl => ?_)
                  refine x_iconst hx hb dL_areWalkersRight_121 ?_
                  refine lv_istore (lv' := [(7, .int (iZ 0)), (6, .ref (xad E37 g38)), (5, .int (iZ (wcT B w))), (4, .int (iZ w)), (3, .int (iZ 1)), (2, .int (iZ (nwT B))), (0, .ref (xad E37 0)), (1, .int (iZ to))]) hx hb dL_areWalkersRight_122 hl (by decide) rfl (fun ls hl => ?_)
                  refine x_iconst hx hb dL_areWalkersRight_124 ?_
                  refine lv_istore (lv' := [(8, .int (iZ 0)), (7, .int (iZ 0)), (6, .ref (xad E37 g38)), (5, .int (iZ (wcT B w))), (4, .int (iZ w)), (3, .int (iZ 1)), (2, .int (iZ (nwT B))), (0, .ref (xad E37 0)), (1, .int (iZ to))]) hx hb dL_areWalkersRight_125 hl (by decide) rfl (fun ls hl => ?_)
                  refine x_iconst hx hb dL_areWalkersRight_127 ?_
                  refine lv_istore (lv' := [(9, .int (iZ 0)), (8, .int (iZ 0)), (7, .int (iZ 0)), (6, .ref (xad E37 g38)), (5, .int (iZ (wcT B w))), (4, .int (iZ w)), (3, .int (iZ 1)), (2, .int (iZ (nwT B))), (0, .ref (xad E37 0)), (1, .int (iZ to))]) hx hb dL_areWalkersRight_128 hl (by decide) rfl (fun ls hl => ?_)
                  have K130 : ∀ (nK : Nat) (rc k : Int) (σ43 : xW) (H : Heap) (locs : List Loc) (ls : Array Slot), (25 - k).toNat < nK → (0 ≤ k ∧ k ≤ 25) → (rc = cnbK (fun c => decide ((dz (Gw (opT B) (lkT B) (kpT B) w) (wcT B w) c) < 25)) k) → (0 ≤ rc ∧ rc ≤ k) → cw E37 σ43 B S Y → σ43 g38 = aI E37 25 Fa → (∀ j : Nat, (j < 0 ∨ 0 + 85 ≤ j) → σ43 j = σ39 j) → Hx E37 (xA E s.heap.size) s.heap σ43 H locs → lv_has ls 14 [(9, .int (iZ k)), (8, .int (iZ 0)), (7, .int (iZ rc)), (6, .ref (xad E37 g38)), (5, .int (iZ (wcT B w))), (4, .int (iZ w)), (3, .int (iZ 1)), (2, .int (iZ (nwT B))), (0, .ref (xad E37 0)), (1, .int (iZ to))] → W p l e rm_L_areWalkersRight s m args below meth c H locs ((((((((0 + rm_L_ask_5b.cells) + rm_L_ask_7b.cells) + rm_L_ask_8b.cells) + rm_L_ask_12b.cells) + rm_L_ask_9b.cells) + 13100 * (w).toNat) + rm_L_lengths.cells) + 2 * (k).toNat) ((((((((0 + rm_L_ask_5b.slots) + rm_L_ask_7b.slots) + rm_L_ask_8b.slots) + rm_L_ask_12b.slots) + rm_L_ask_9b.slots) + 79400 * (w).toNat) + rm_L_lengths.slots) + 12 * (k).toNat) Q (F0 m 130 ls []) := by
                    intro n130
                    induction n130 with
                    | zero =>
                      intro rc k σ43 H locs ls hm
                      exact absurd hm (by first | exact Nat.not_lt_zero _ | omega)
                    | succ n130 ih130 =>
                      intro rc k σ43 H locs ls hm130 hk hrc hrb fcw_0 fg38_0 fr44 hH hl
                      refine lv_iload hx hb dL_areWalkersRight_130 (lv_at hl 0 rfl) ?_
                      refine x_bipush hx hb dL_areWalkersRight_132 (by decide) ?_
                      refine x_icmp_ge (tgt := 237) hx hb dL_areWalkersRight_134 (by decide) (by omega) (by decide) (fun c134 => ?_) (fun c134 => ?_)
                      · refine x_sipush hx hb dL_areWalkersRight_237 (by decide) ?_
                        refine lv_istore (lv' := [(9, .int (iZ (-2004))), (8, .int (iZ 0)), (7, .int (iZ rc)), (6, .ref (xad E37 g38)), (5, .int (iZ (wcT B w))), (4, .int (iZ w)), (3, .int (iZ 1)), (2, .int (iZ (nwT B))), (0, .ref (xad E37 0)), (1, .int (iZ to))]) hx hb dL_areWalkersRight_240 hl (by decide) rfl (fun ls hl => ?_)
                        refine x_iconst hx hb dL_areWalkersRight_242 ?_
                        refine lv_istore (lv' := [(10, .int (iZ 5)), (9, .int (iZ (-2004))), (8, .int (iZ 0)), (7, .int (iZ rc)), (6, .ref (xad E37 g38)), (5, .int (iZ (wcT B w))), (4, .int (iZ w)), (3, .int (iZ 1)), (2, .int (iZ (nwT B))), (0, .ref (xad E37 0)), (1, .int (iZ to))]) hx hb dL_areWalkersRight_243 hl (by decide) rfl (fun ls hl => ?_)
                        have K245 : ∀ (nK : Nat) (i be ky : Int) (H : Heap) (locs : List Loc) (ls : Array Slot), (i + 1).toNat < nK → (-1 ≤ i ∧ i ≤ 5) → (nbI (kpT B) (dz (Gw (opT B) (lkT B) (kpT B) w) (wcT B w)) i be) → (ky = cntK (kpT B) (25 + w) 6 - cntK (kpT B) (25 + w) (i + 1)) → (0 ≤ ky ∧ ky ≤ 5 - i) → Hx E37 (xA E s.heap.size) s.heap σ43 H locs → lv_has ls 14 [(10, .int (iZ i)), (9, .int (iZ be)), (8, .int (iZ ky)), (7, .int (iZ rc)), (6, .ref (xad E37 g38)), (5, .int (iZ (wcT B w))), (4, .int (iZ w)), (3, .int (iZ 1)), (2, .int (iZ (nwT B))), (0, .ref (xad E37 0)), (1, .int (iZ to))] → W p l e rm_L_areWalkersRight s m args below meth c H locs (((((((((0 + rm_L_ask_5b.cells) + rm_L_ask_7b.cells) + rm_L_ask_8b.cells) + rm_L_ask_12b.cells) + rm_L_ask_9b.cells) + 13100 * (w).toNat) + rm_L_lengths.cells) + 2 * (k).toNat) + 3 * (5 - i).toNat) (((((((((0 + rm_L_ask_5b.slots) + rm_L_ask_7b.slots) + rm_L_ask_8b.slots) + rm_L_ask_12b.slots) + rm_L_ask_9b.slots) + 79400 * (w).toNat) + rm_L_lengths.slots) + 12 * (k).toNat) + 18 * (5 - i).toNat) Q (F0 m 245 ls []) := by
                          intro n245
                          induction n245 with
                          | zero =>
                            intro i be ky H locs ls hm
                            exact absurd hm (by first | exact Nat.not_lt_zero _ | omega)
                          | succ n245 ih245 =>
                            intro i be ky H locs ls hm245 hi hbe hky hkyb  hH hl
                            refine lv_iload hx hb dL_areWalkersRight_245 (lv_at hl 0 rfl) ?_
                            refine x_if_lt (tgt := 358) hx hb dL_areWalkersRight_247 (by decide) (by omega) (fun c247 => ?_) (fun c247 => ?_)
                            · refine x_sipush hx hb dL_areWalkersRight_358 (by decide) ?_
                              refine lv_istore (lv' := [(10, .int (iZ (-2004))), (9, .int (iZ be)), (8, .int (iZ ky)), (7, .int (iZ rc)), (6, .ref (xad E37 g38)), (5, .int (iZ (wcT B w))), (4, .int (iZ w)), (3, .int (iZ 1)), (2, .int (iZ (nwT B))), (0, .ref (xad E37 0)), (1, .int (iZ to))]) hx hb dL_areWalkersRight_361 hl (by decide) rfl (fun ls hl => ?_)
                              refine x_iconst hx hb dL_areWalkersRight_363 ?_
                              refine lv_istore (lv' := [(11, .int (iZ 3)), (10, .int (iZ (-2004))), (9, .int (iZ be)), (8, .int (iZ ky)), (7, .int (iZ rc)), (6, .ref (xad E37 g38)), (5, .int (iZ (wcT B w))), (4, .int (iZ w)), (3, .int (iZ 1)), (2, .int (iZ (nwT B))), (0, .ref (xad E37 0)), (1, .int (iZ to))]) hx hb dL_areWalkersRight_364 hl (by decide) rfl (fun ls hl => ?_)
                              have K366 : ∀ (nK : Nat) (d sp9 : Int) (σ46 : xW) (H : Heap) (locs : List Loc) (ls : Array Slot), (d + 1).toNat < nK → (-1 ≤ d ∧ d ≤ 3) → (fsI (Gw (opT B) (lkT B) (kpT B) w) (wcT B w) to d sp9) → cw E37 σ46 B S Y → σ46 g38 = aI E37 25 Fa → (∀ j : Nat, (j < 0 ∨ 0 + 85 ≤ j) → σ46 j = σ43 j) → Hx E37 (xA E s.heap.size) s.heap σ46 H locs → lv_has ls 14 [(11, .int (iZ d)), (10, .int (iZ sp9)), (9, .int (iZ be)), (8, .int (iZ ky)), (7, .int (iZ rc)), (6, .ref (xad E37 g38)), (5, .int (iZ (wcT B w))), (4, .int (iZ w)), (3, .int (iZ 1)), (2, .int (iZ (nwT B))), (0, .ref (xad E37 0)), (1, .int (iZ to))] → W p l e rm_L_areWalkersRight s m args below meth c H locs ((((((((((0 + rm_L_ask_5b.cells) + rm_L_ask_7b.cells) + rm_L_ask_8b.cells) + rm_L_ask_12b.cells) + rm_L_ask_9b.cells) + 13100 * (w).toNat) + rm_L_lengths.cells) + 2 * (k).toNat) + 3 * (5 - i).toNat) + 2601 * (3 - d).toNat) ((((((((((0 + rm_L_ask_5b.slots) + rm_L_ask_7b.slots) + rm_L_ask_8b.slots) + rm_L_ask_12b.slots) + rm_L_ask_9b.slots) + 79400 * (w).toNat) + rm_L_lengths.slots) + 12 * (k).toNat) + 18 * (5 - i).toNat) + 15706 * (3 - d).toNat) Q (F0 m 366 ls []) := by
                                intro n366
                                induction n366 with
                                | zero =>
                                  intro d sp9 σ46 H locs ls hm
                                  exact absurd hm (by first | exact Nat.not_lt_zero _ | omega)
                                | succ n366 ih366 =>
                                  intro d sp9 σ46 H locs ls hm366 hd hfs fcw_0 fg38_0 fr47 hH hl
                                  refine lv_iload hx hb dL_areWalkersRight_366 (lv_at hl 0 rfl) ?_
                                  refine x_if_lt (tgt := 459) hx hb dL_areWalkersRight_368 (by decide) (by omega) (fun c368 => ?_) (fun c368 => ?_)
                                  · have hrc9 : cnbK (fun c => decide ((dz (Gw (opT B) (lkT B) (kpT B) w) (wcT B w) c) < 25)) 25 = rc := (by have e9 : k = 25 := (by omega); rw [hrc, e9])
                                    refine lv_iload_n hx hb dL_areWalkersRight_459 rfl (lv_at hl 8 rfl) ?_
                                    refine x_if_eq (tgt := 540) hx hb dL_areWalkersRight_460 (by decide) (by decide) (fun c460 => ?_) (fun c460 => ?_)
                                    · exact absurd c460 (by decide)
                                    · refine lv_aload_n hx hb dL_areWalkersRight_463 rfl (lv_at hl 10 rfl) ?_
                                      refine lv_iload hx hb dL_areWalkersRight_464 (lv_at hl 7 rfl) ?_
                                      obtain ⟨fs9, hfs9⟩ := fcw_0.o0
                                      refine x_cVIE (As := [.int (iZ w)]) (rest := []) hx hb hml hts hown hK hST hOK hH 0 (q_reachableCells0 l E37 ST hSF σ46 w B S Y fcw_0 (by omega) (by omega)) (cwV 1 hts (goodIn_t (goodIn_x gK_119)) rfl rfl rfl (by decide +kernel) ⟨Nat.le_of_ble_eq_true rfl, Nat.le_of_ble_eq_true rfl⟩) (ltw (by decide)) hfs9 rfl rfl hl.1 rfl (Nat.le_of_ble_eq_true rfl) dL_areWalkersRight_466 ⟨by first | omega | (simp only [rm_L_areWalkersRight, rm_L_ask_12b, rm_L_ask_5b, rm_L_ask_7b, rm_L_ask_8b, rm_L_ask_9b, rm_L_lengths, rm_X6_reachableCells0, rm_X6_walkerColumn0, rm_X6_walkerCount, rm_X6_walkerRow0]; omega), by first | omega | (simp only [rm_L_areWalkersRight, rm_L_ask_12b, rm_L_ask_5b, rm_L_ask_7b, rm_L_ask_8b, rm_L_ask_9b, rm_L_lengths, rm_X6_reachableCells0, rm_X6_walkerColumn0, rm_X6_walkerCount, rm_X6_walkerRow0]; omega)⟩ (fun z u h => h) (fun σ49 H locs hp50 hH => ?_)
                                      obtain ⟨fcw_0, fr51⟩ := hp50
                                      have fg38_0 : σ49 g38 = aI E37 25 Fa := (fr51 g38 (by omega)).trans fg38_0
                                      refine lv_iload hx hb dL_areWalkersRight_469 (lv_at hl 4 rfl) ?_
                                      refine x_icmp_ne (tgt := 540) hx hb dL_areWalkersRight_471 (by decide) (by omega) (by omega) (fun c471 => ?_) (fun c471 => ?_)
                                      · exact absurd hrc9 c471
                                      · refine lv_aload_n hx hb dL_areWalkersRight_474 rfl (lv_at hl 10 rfl) ?_
                                        refine lv_iload hx hb dL_areWalkersRight_475 (lv_at hl 7 rfl) ?_
                                        obtain ⟨fs9, hfs9⟩ := fcw_0.o0
                                        refine x_cVF (As := [.int (iZ w)]) (rest := []) hx hb hml hts hown hK hST hOK hH 0 (q_reachableShare0 l E37 ST hSF σ49 w B S Y fcw_0 (by omega) (by omega)) (cwV 1 hts (goodIn_t (goodIn_x gK_257)) rfl rfl rfl (by decide +kernel) ⟨Nat.le_of_ble_eq_true rfl, Nat.le_of_ble_eq_true rfl⟩) (ltw (by decide)) hfs9 rfl rfl hl.1 rfl (Nat.le_of_ble_eq_true rfl) dL_areWalkersRight_477 ⟨by first | omega | (simp only [rm_L_areWalkersRight, rm_L_ask_12b, rm_L_ask_5b, rm_L_ask_7b, rm_L_ask_8b, rm_L_ask_9b, rm_L_lengths, rm_X6_reachableCells0, rm_X6_reachableShare0, rm_X6_walkerColumn0, rm_X6_walkerCount, rm_X6_walkerRow0]; omega), by first | omega | (simp only [rm_L_areWalkersRight, rm_L_ask_12b, rm_L_ask_5b, rm_L_ask_7b, rm_L_ask_8b, rm_L_ask_9b, rm_L_lengths, rm_X6_reachableCells0, rm_X6_reachableShare0, rm_X6_walkerColumn0, rm_X6_walkerCount, rm_X6_walkerRow0]; omega)⟩ (fun z53 σ54 H locs hp55 hH => ?_)
                                        obtain ⟨hzs, fcw_0, fr56⟩ := hp55
                                        have fg38_0 : σ54 g38 = aI E37 25 Fa := (fr56 g38 (by omega)).trans fg38_0
                                        subst hzs
                                        refine lv_iload hx hb dL_areWalkersRight_480 (lv_at hl 4 rfl) ?_
                                        refine lv_i2f hx hb dL_areWalkersRight_482 ?_
                                        refine x_ldcwF (v := 1103626240) hx hb hown (hts _ (List.mem_cons_of_mem _ (List.mem_append_right _ mW_827))) dL_areWalkersRight_483 ?_
                                        refine lv_fdiv hx hb dL_areWalkersRight_486 (by exact shF_n (by omega) (by omega)) ?_
                                        rw [show FP.fdiv (FP.i2f (iZ rc)) 1103626240 = shF rc from rfl, hrc9]
                                        refine x_fcmp0 hx hb (by exact shF_cmp (by omega) (by omega)) dL_areWalkersRight_487 ?_
                                        refine x_if_ne (tgt := 540) hx hb dL_areWalkersRight_488 (by decide) (by decide) (fun c488 => ?_) (fun c488 => ?_)
                                        · exact absurd c488 (by decide)
                                        · refine lv_aload_n hx hb dL_areWalkersRight_491 rfl (lv_at hl 10 rfl) ?_
                                          refine x_bipush hx hb dL_areWalkersRight_492 (by decide) ?_
                                          refine lv_iload hx hb dL_areWalkersRight_494 (lv_at hl 7 rfl) ?_
                                          refine x_iconst hx hb dL_areWalkersRight_496 ?_
                                          refine x_iconst hx hb dL_areWalkersRight_497 ?_
                                          refine x_cSW (As := [.ref (xad E37 0), .int (iZ 8), .int (iZ w), .int (iZ 0), .int (iZ 0)]) (rest := []) hx hb hml hts hown hK hST hOK hH (c_L_ask_8 l E37 ST hSF hSX htr σ54 w 0 0 B S Y fcw_0 (by omega)) (vx_cwSW 5 hts (goodIn_t gK_162) rfl rfl rfl (by decide +kernel) ⟨Nat.le_of_ble_eq_true rfl, Nat.le_of_ble_eq_true rfl⟩) rfl hl.1 rfl (Nat.le_of_ble_eq_true rfl) dL_areWalkersRight_498 ⟨by first | omega | (simp only [rm_L_areWalkersRight, rm_L_ask_12b, rm_L_ask_5b, rm_L_ask_7b, rm_L_ask_8, rm_L_ask_8b, rm_L_ask_9b, rm_L_lengths, rm_X6_reachableCells0, rm_X6_reachableShare0, rm_X6_walkerColumn0, rm_X6_walkerCount, rm_X6_walkerRow0]; omega), by first | omega | (simp only [rm_L_areWalkersRight, rm_L_ask_12b, rm_L_ask_5b, rm_L_ask_7b, rm_L_ask_8, rm_L_ask_8b, rm_L_ask_9b, rm_L_lengths, rm_X6_reachableCells0, rm_X6_reachableShare0, rm_X6_walkerColumn0, rm_X6_walkerCount, rm_X6_walkerRow0]; omega)⟩ (fun z57 σ58 H locs hp59 hH => ?_)
                                          obtain ⟨hq9, hp59⟩ := hp59
                                          subst hq9
                                          obtain ⟨fcw_0, fr60⟩ := hp59
                                          have fg38_0 : σ58 g38 = aI E37 25 Fa := (fr60 g38 (by omega)).trans fg38_0
                                          have hnb9 := nbI_rg hbe (by omega)
                                          have hbeq : be = aNk (nkK (kpT B) (dz (Gw (opT B) (lkT B) (kpT B) w) (wcT B w)) 6).1 := (by have e9 : i = -1 := (by omega); rw [e9] at hbe; exact nb_end hbe)
                                          refine lv_iload hx hb dL_areWalkersRight_501 (lv_at hl 2 rfl) ?_
                                          refine x_icmp_ne (tgt := 540) hx hb dL_areWalkersRight_503 (by decide) (by omega) (by omega) (fun c503 => ?_) (fun c503 => ?_)
                                          · exact absurd hbeq.symm c503
                                          · refine lv_aload_n hx hb dL_areWalkersRight_506 rfl (lv_at hl 10 rfl) ?_
                                            refine lv_iload hx hb dL_areWalkersRight_507 (lv_at hl 7 rfl) ?_
                                            obtain ⟨fs9, hfs9⟩ := fcw_0.o0
                                            refine x_cVID (As := [.int (iZ w)]) (rest := []) hx hb hml hts hown hK hST hOK hH 0 (q_keysOf0 l E37 ST hSF σ58 w B S Y fcw_0 (by omega) (by omega)) (cwV 1 hts (goodIn_t (goodIn_x gK_262)) rfl rfl rfl (by decide +kernel) ⟨Nat.le_of_ble_eq_true rfl, Nat.le_of_ble_eq_true rfl⟩) (ltw (by decide)) hfs9 rfl rfl hl.1 rfl (Nat.le_of_ble_eq_true rfl) dL_areWalkersRight_509 ⟨by first | omega | (simp only [rm_L_areWalkersRight, rm_L_ask_12b, rm_L_ask_5b, rm_L_ask_7b, rm_L_ask_8, rm_L_ask_8b, rm_L_ask_9b, rm_L_lengths, rm_X6_keysOf0, rm_X6_reachableCells0, rm_X6_reachableShare0, rm_X6_walkerColumn0, rm_X6_walkerCount, rm_X6_walkerRow0]; omega), by first | omega | (simp only [rm_L_areWalkersRight, rm_L_ask_12b, rm_L_ask_5b, rm_L_ask_7b, rm_L_ask_8, rm_L_ask_8b, rm_L_ask_9b, rm_L_lengths, rm_X6_keysOf0, rm_X6_reachableCells0, rm_X6_reachableShare0, rm_X6_walkerColumn0, rm_X6_walkerCount, rm_X6_walkerRow0]; omega)⟩ (fun z u h => h) (fun H locs hH => ?_)
                                            have hkyq : ky = cntK (kpT B) (25 + w) 6 := (by have e9 : i = -1 := (by omega); rw [hky, e9, show (-1 : Int) + 1 = 0 by omega, cntK_0]; omega)
                                            refine lv_iload hx hb dL_areWalkersRight_512 (lv_at hl 3 rfl) ?_
                                            refine x_icmp_ne (tgt := 540) hx hb dL_areWalkersRight_514 (by decide) (by omega) (by omega) (fun c514 => ?_) (fun c514 => ?_)
                                            · exact absurd hkyq.symm c514
                                            · refine lv_aload_n hx hb dL_areWalkersRight_517 rfl (lv_at hl 10 rfl) ?_
                                              refine x_bipush hx hb dL_areWalkersRight_518 (by decide) ?_
                                              refine lv_iload_n hx hb dL_areWalkersRight_520 rfl (lv_at hl 11 rfl) ?_
                                              refine x_iconst hx hb dL_areWalkersRight_521 ?_
                                              refine x_idiv hx hb dL_areWalkersRight_522 (by omega) (by omega) (by omega) (by omega) ?_
                                              refine lv_iload_n hx hb dL_areWalkersRight_523 rfl (lv_at hl 11 rfl) ?_
                                              refine x_iconst hx hb dL_areWalkersRight_524 ?_
                                              refine x_irem hx hb dL_areWalkersRight_525 (by omega) (by omega) (by omega) (by omega) ?_
                                              refine lv_iload hx hb dL_areWalkersRight_526 (lv_at hl 7 rfl) ?_
                                              refine x_cSW (As := [.ref (xad E37 0), .int (iZ 7), .int (iZ (to / 5)), .int (iZ (to % 5)), .int (iZ w)]) (rest := []) hx hb hml hts hown hK hST hOK hH (c_L_ask_7 l E37 ST hSF hSX htr σ58 (to / 5) (to % 5) w B S Y fcw_0 (by omega) (by omega)) (vx_cwSW 5 hts (goodIn_t gK_162) rfl rfl rfl (by decide +kernel) ⟨Nat.le_of_ble_eq_true rfl, Nat.le_of_ble_eq_true rfl⟩) rfl hl.1 rfl (Nat.le_of_ble_eq_true rfl) dL_areWalkersRight_528 ⟨by first | omega | (simp only [rm_L_areWalkersRight, rm_L_ask_12b, rm_L_ask_5b, rm_L_ask_7, rm_L_ask_7b, rm_L_ask_8, rm_L_ask_8b, rm_L_ask_9b, rm_L_lengths, rm_X6_keysOf0, rm_X6_reachableCells0, rm_X6_reachableShare0, rm_X6_walkerColumn0, rm_X6_walkerCount, rm_X6_walkerRow0]; omega), by first | omega | (simp only [rm_L_areWalkersRight, rm_L_ask_12b, rm_L_ask_5b, rm_L_ask_7, rm_L_ask_7b, rm_L_ask_8, rm_L_ask_8b, rm_L_ask_9b, rm_L_lengths, rm_X6_keysOf0, rm_X6_reachableCells0, rm_X6_reachableShare0, rm_X6_walkerColumn0, rm_X6_walkerCount, rm_X6_walkerRow0]; omega)⟩ (fun z65 σ66 H locs hp67 hH => ?_)
                                              obtain ⟨hq9, hp67⟩ := hp67
                                              subst hq9
                                              obtain ⟨fcw_0, fr68⟩ := hp67
                                              have fg38_0 : σ66 g38 = aI E37 25 Fa := (fr68 g38 (by omega)).trans fg38_0
                                              rw [show to / 5 * 5 + to % 5 = to by omega]
                                              have hfs9 := fsI_rg hfs (by omega)
                                              have hspq : sp9 = aFz (dz (Gw (opT B) (lkT B) (kpT B) w) (wcT B w) to) (fz (Gw (opT B) (lkT B) (kpT B) w) (wcT B w) to) := (by have e9 : d = -1 := (by omega); rw [e9] at hfs; exact fs_end Gw_ok (hwc9 w) ht hfs)
                                              refine lv_iload hx hb dL_areWalkersRight_531 (lv_at hl 1 rfl) ?_
                                              refine x_icmp_ne (tgt := 540) hx hb dL_areWalkersRight_533 (by decide) (by omega) (by omega) (fun c533 => ?_) (fun c533 => ?_)
                                              · exact absurd hspq.symm c533
                                              · have hl := lv_sub hl [0, 1, 2, 3, 4, 6, 7, 8, 9, 10, 11] rfl
                                                obtain ⟨σ70, hH, fcw_0, fr71⟩ := Hx.pop hE41 fcw_0 hH (fun j hj0 hj1 => ((fr68 j (by omega)).trans ((fr60 j (by omega)).trans ((fr56 j (by omega)).trans ((fr51 j (by omega)).trans ((fr47 j (by omega)).trans ((fr44 j (by omega)).trans (fr40 j (by omega) (by omega)))))))))
                                                have hK := hE41.K0 hK
                                                rw [hE41.2.2.2.2 0 (by omega)] at hl
                                                refine x_iconst hx hb dL_areWalkersRight_536 ?_
                                                refine lv_goto (tgt := 541) hx hb dL_areWalkersRight_537 (by decide) ?_
                                                refine lv_istore_n (lv' := [(3, .int (iZ 1)), (11, .int (iZ d)), (10, .int (iZ sp9)), (9, .int (iZ be)), (8, .int (iZ ky)), (7, .int (iZ rc)), (5, .int (iZ (wcT B w))), (4, .int (iZ w)), (2, .int (iZ (nwT B))), (0, .ref (xad E 0)), (1, .int (iZ to))]) hx hb dL_areWalkersRight_541 rfl hl (by decide) rfl (fun ls hl => ?_)
                                                refine x_iinc (lv' := [(4, .int (iZ (w + 1))), (3, .int (iZ 1)), (11, .int (iZ d)), (10, .int (iZ sp9)), (9, .int (iZ be)), (8, .int (iZ ky)), (7, .int (iZ rc)), (5, .int (iZ (wcT B w))), (2, .int (iZ (nwT B))), (0, .ref (xad E 0)), (1, .int (iZ to))]) hx hb dL_areWalkersRight_542 hl (k := 7) rfl (by decide) rfl (fun ls hl => ?_)
                                                refine lv_goto (tgt := 88) hx hb dL_areWalkersRight_545 (by decide) ?_
                                                exact W.widen (by first | omega | (simp only [rm_L_areWalkersRight, rm_L_ask_12b, rm_L_ask_5b, rm_L_ask_7, rm_L_ask_7b, rm_L_ask_8, rm_L_ask_8b, rm_L_ask_9b, rm_L_lengths, rm_X6_keysOf0, rm_X6_reachableCells0, rm_X6_reachableShare0, rm_X6_walkerColumn0, rm_X6_walkerCount, rm_X6_walkerRow0]; omega)) (by first | omega | (simp only [rm_L_areWalkersRight, rm_L_ask_12b, rm_L_ask_5b, rm_L_ask_7, rm_L_ask_7b, rm_L_ask_8, rm_L_ask_8b, rm_L_ask_9b, rm_L_lengths, rm_X6_keysOf0, rm_X6_reachableCells0, rm_X6_reachableShare0, rm_X6_walkerColumn0, rm_X6_walkerCount, rm_X6_walkerRow0]; omega)) (ih88 (w + 1) σ70 _ _ _ (by omega) (by first | omega | rfl | assumption | simp_all) fcw_0 (fun j hj0 => ((fr71 j (by omega)).trans (fr30 j (by omega)))) hH (lv_sub hl [0, 1, 8, 9, 10] rfl))
                                  · refine lv_aload_n hx hb dL_areWalkersRight_371 rfl (lv_at hl 10 rfl) ?_
                                    refine lv_iload hx hb dL_areWalkersRight_372 (lv_at hl 6 rfl) ?_
                                    refine lv_iload hx hb dL_areWalkersRight_374 (lv_at hl 0 rfl) ?_
                                    refine x_cSID (As := [.ref (xad E37 0), .int (iZ (wcT B w)), .int (iZ d)]) (rest := []) hx hb hml hts hown hK hST hOK hH (c_L_joined l E37 ST hSF  σ46 (wcT B w) d B S Y fcw_0 (by omega) (by omega)) (va_cwS 3 hts (goodIn_t gK_171) rfl rfl rfl (by decide +kernel) ⟨Nat.le_of_ble_eq_true rfl, Nat.le_of_ble_eq_true rfl⟩) rfl hl.1 rfl (Nat.le_of_ble_eq_true rfl) dL_areWalkersRight_376 ⟨by first | omega | (simp only [rm_L_areWalkersRight, rm_L_ask_12b, rm_L_ask_5b, rm_L_ask_7b, rm_L_ask_8b, rm_L_ask_9b, rm_L_joined_0, rm_L_lengths, rm_X6_walkerColumn0, rm_X6_walkerCount, rm_X6_walkerRow0]; omega), by first | omega | (simp only [rm_L_areWalkersRight, rm_L_ask_12b, rm_L_ask_5b, rm_L_ask_7b, rm_L_ask_8b, rm_L_ask_9b, rm_L_joined_0, rm_L_lengths, rm_X6_walkerColumn0, rm_X6_walkerCount, rm_X6_walkerRow0]; omega)⟩ (fun z u h => h) (fun H locs hH => ?_)
                                    have hnr := cnZ_rg (op := opT B) (c := wcT B w) (d := d) (by omega) (by omega)
                                    refine lv_istore (lv' := [(12, .int (iZ (cnZ (opT B) (wcT B w) d))), (11, .int (iZ d)), (10, .int (iZ sp9)), (9, .int (iZ be)), (8, .int (iZ ky)), (7, .int (iZ rc)), (6, .ref (xad E37 g38)), (5, .int (iZ (wcT B w))), (4, .int (iZ w)), (3, .int (iZ 1)), (2, .int (iZ (nwT B))), (0, .ref (xad E37 0)), (1, .int (iZ to))]) hx hb dL_areWalkersRight_379 hl (by decide) rfl (fun ls hl => ?_)
                                    refine lv_aload hx hb dL_areWalkersRight_381 (lv_at hl 6 rfl) ?_
                                    refine lv_iload_n hx hb dL_areWalkersRight_383 rfl (lv_at hl 12 rfl) ?_
                                    refine x_iald hx hb hK hH g38 (by omega) fg38_0 (by omega) (by omega) (by omega) dL_areWalkersRight_384 ?_
                                    have hft : ((dz (Gw (opT B) (lkT B) (kpT B) w) (wcT B w) to) < 25 ∧ Fa to = (dz (Gw (opT B) (lkT B) (kpT B) w) (wcT B w) to)) ∨ (¬ (dz (Gw (opT B) (lkT B) (kpT B) w) (wcT B w) to) < 25 ∧ Fa to = 99) := by
                                      rw [hFa to (by omega) (by omega)]
                                      exact f99_c
                                    have hftr := dz_rg (G := (Gw (opT B) (lkT B) (kpT B) w)) (st := wcT B w) Gw_ok (hwc9 w) to
                                    refine x_bipush hx hb dL_areWalkersRight_385 (by decide) ?_
                                    refine x_icmp_ge (tgt := 417) hx hb dL_areWalkersRight_387 (by decide) (by omega) (by decide) (fun c387 => ?_) (fun c387 => ?_)
                                    · refine x_iconst hx hb dL_areWalkersRight_417 ?_
                                      refine lv_istore (lv' := [(13, .int (iZ 0)), (12, .int (iZ (cnZ (opT B) (wcT B w) d))), (11, .int (iZ d)), (10, .int (iZ sp9)), (9, .int (iZ be)), (8, .int (iZ ky)), (7, .int (iZ rc)), (6, .ref (xad E37 g38)), (5, .int (iZ (wcT B w))), (4, .int (iZ w)), (3, .int (iZ 1)), (2, .int (iZ (nwT B))), (0, .ref (xad E37 0)), (1, .int (iZ to))]) hx hb dL_areWalkersRight_418 hl (by decide) rfl (fun ls hl => ?_)
                                      refine lv_iload hx hb dL_areWalkersRight_420 (lv_at hl 0 rfl) ?_
                                      refine x_if_eq (tgt := 449) hx hb dL_areWalkersRight_422 (by decide) (by decide) (fun c422 => ?_) (fun c422 => ?_)
                                      · refine lv_iload hx hb dL_areWalkersRight_449 (lv_at hl 3 rfl) ?_
                                        refine lv_istore (lv' := [(10, .int (iZ sp9)), (13, .int (iZ 0)), (12, .int (iZ (cnZ (opT B) (wcT B w) d))), (11, .int (iZ d)), (9, .int (iZ be)), (8, .int (iZ ky)), (7, .int (iZ rc)), (6, .ref (xad E37 g38)), (5, .int (iZ (wcT B w))), (4, .int (iZ w)), (3, .int (iZ 1)), (2, .int (iZ (nwT B))), (0, .ref (xad E37 0)), (1, .int (iZ to))]) hx hb dL_areWalkersRight_451 hl (by decide) rfl (fun ls hl => ?_)
                                        refine x_iinc (lv' := [(11, .int (iZ (d + (-1)))), (10, .int (iZ sp9)), (13, .int (iZ 0)), (12, .int (iZ (cnZ (opT B) (wcT B w) d))), (9, .int (iZ be)), (8, .int (iZ ky)), (7, .int (iZ rc)), (6, .ref (xad E37 g38)), (5, .int (iZ (wcT B w))), (4, .int (iZ w)), (3, .int (iZ 1)), (2, .int (iZ (nwT B))), (0, .ref (xad E37 0)), (1, .int (iZ to))]) hx hb dL_areWalkersRight_453 hl (k := 3) rfl (by decide) rfl (fun ls hl => ?_)
                                        refine lv_goto (tgt := 366) hx hb dL_areWalkersRight_456 (by decide) ?_
                                        exact W.widen (by first | omega | (simp only [rm_L_areWalkersRight, rm_L_ask_12b, rm_L_ask_5b, rm_L_ask_7b, rm_L_ask_8b, rm_L_ask_9b, rm_L_joined_0, rm_L_lengths, rm_X6_walkerColumn0, rm_X6_walkerCount, rm_X6_walkerRow0]; omega)) (by first | omega | (simp only [rm_L_areWalkersRight, rm_L_ask_12b, rm_L_ask_5b, rm_L_ask_7b, rm_L_ask_8b, rm_L_ask_9b, rm_L_joined_0, rm_L_lengths, rm_X6_walkerColumn0, rm_X6_walkerCount, rm_X6_walkerRow0]; omega)) (ih366 (d + (-1)) sp9 σ46 _ _ _ (by omega) (by omega) (by rw [show d + -1 = d - 1 by omega]; first | exact fsI_no hfs (fun q => by have := q.1; omega) | exact fsI_no hfs (fun q => q.2.1 (Gw_no2 (by omega))) | exact fsI_no hfs (fun q => q.2.1 (Gw_lock2 c410)) | exact fsI_new hfs (by omega) ⟨by omega, (lz_eq Gw_ok (hwc9 w) ht (by omega) (Gw_yes2 c410) (by omega) (by omega)).mp (by omega)⟩ | exact fsI_no hfs (fun q => c441 (by have h9 := (lz_eq Gw_ok (hwc9 w) ht (by omega) (Gw_yes2 c410) (by omega) (by omega)).mpr q.2; omega))) fcw_0 fg38_0 (fun j hj0 => (fr47 j (by omega))) hH (lv_sub hl [0, 1, 4, 5, 6, 7, 8, 9, 10, 11, 12, 13] rfl))
                                      · exact absurd c422 (by decide)
                                    · refine lv_aload hx hb dL_areWalkersRight_390 (lv_at hl 6 rfl) ?_
                                      refine lv_iload_n hx hb dL_areWalkersRight_392 rfl (lv_at hl 12 rfl) ?_
                                      refine x_iald hx hb hK hH g38 (by omega) fg38_0 (by omega) (by omega) (by omega) dL_areWalkersRight_393 ?_
                                      refine x_if_le (tgt := 417) hx hb dL_areWalkersRight_394 (by decide) (by omega) (fun c394 => ?_) (fun c394 => ?_)
                                      · refine x_iconst hx hb dL_areWalkersRight_417 ?_
                                        refine lv_istore (lv' := [(13, .int (iZ 0)), (12, .int (iZ (cnZ (opT B) (wcT B w) d))), (11, .int (iZ d)), (10, .int (iZ sp9)), (9, .int (iZ be)), (8, .int (iZ ky)), (7, .int (iZ rc)), (6, .ref (xad E37 g38)), (5, .int (iZ (wcT B w))), (4, .int (iZ w)), (3, .int (iZ 1)), (2, .int (iZ (nwT B))), (0, .ref (xad E37 0)), (1, .int (iZ to))]) hx hb dL_areWalkersRight_418 hl (by decide) rfl (fun ls hl => ?_)
                                        refine lv_iload hx hb dL_areWalkersRight_420 (lv_at hl 0 rfl) ?_
                                        refine x_if_eq (tgt := 449) hx hb dL_areWalkersRight_422 (by decide) (by decide) (fun c422 => ?_) (fun c422 => ?_)
                                        · refine lv_iload hx hb dL_areWalkersRight_449 (lv_at hl 3 rfl) ?_
                                          refine lv_istore (lv' := [(10, .int (iZ sp9)), (13, .int (iZ 0)), (12, .int (iZ (cnZ (opT B) (wcT B w) d))), (11, .int (iZ d)), (9, .int (iZ be)), (8, .int (iZ ky)), (7, .int (iZ rc)), (6, .ref (xad E37 g38)), (5, .int (iZ (wcT B w))), (4, .int (iZ w)), (3, .int (iZ 1)), (2, .int (iZ (nwT B))), (0, .ref (xad E37 0)), (1, .int (iZ to))]) hx hb dL_areWalkersRight_451 hl (by decide) rfl (fun ls hl => ?_)
                                          refine x_iinc (lv' := [(11, .int (iZ (d + (-1)))), (10, .int (iZ sp9)), (13, .int (iZ 0)), (12, .int (iZ (cnZ (opT B) (wcT B w) d))), (9, .int (iZ be)), (8, .int (iZ ky)), (7, .int (iZ rc)), (6, .ref (xad E37 g38)), (5, .int (iZ (wcT B w))), (4, .int (iZ w)), (3, .int (iZ 1)), (2, .int (iZ (nwT B))), (0, .ref (xad E37 0)), (1, .int (iZ to))]) hx hb dL_areWalkersRight_453 hl (k := 3) rfl (by decide) rfl (fun ls hl => ?_)
                                          refine lv_goto (tgt := 366) hx hb dL_areWalkersRight_456 (by decide) ?_
                                          exact W.widen (by first | omega | (simp only [rm_L_areWalkersRight, rm_L_ask_12b, rm_L_ask_5b, rm_L_ask_7b, rm_L_ask_8b, rm_L_ask_9b, rm_L_joined_0, rm_L_lengths, rm_X6_walkerColumn0, rm_X6_walkerCount, rm_X6_walkerRow0]; omega)) (by first | omega | (simp only [rm_L_areWalkersRight, rm_L_ask_12b, rm_L_ask_5b, rm_L_ask_7b, rm_L_ask_8b, rm_L_ask_9b, rm_L_joined_0, rm_L_lengths, rm_X6_walkerColumn0, rm_X6_walkerCount, rm_X6_walkerRow0]; omega)) (ih366 (d + (-1)) sp9 σ46 _ _ _ (by omega) (by omega) (by rw [show d + -1 = d - 1 by omega]; first | exact fsI_no hfs (fun q => by have := q.1; omega) | exact fsI_no hfs (fun q => q.2.1 (Gw_no2 (by omega))) | exact fsI_no hfs (fun q => q.2.1 (Gw_lock2 c410)) | exact fsI_new hfs (by omega) ⟨by omega, (lz_eq Gw_ok (hwc9 w) ht (by omega) (Gw_yes2 c410) (by omega) (by omega)).mp (by omega)⟩ | exact fsI_no hfs (fun q => c441 (by have h9 := (lz_eq Gw_ok (hwc9 w) ht (by omega) (Gw_yes2 c410) (by omega) (by omega)).mpr q.2; omega))) fcw_0 fg38_0 (fun j hj0 => (fr47 j (by omega))) hH (lv_sub hl [0, 1, 4, 5, 6, 7, 8, 9, 10, 11, 12, 13] rfl))
                                        · exact absurd c422 (by decide)
                                      · refine lv_iload hx hb dL_areWalkersRight_397 (lv_at hl 0 rfl) ?_
                                        refine x_if_lt (tgt := 417) hx hb dL_areWalkersRight_399 (by decide) (by omega) (fun c399 => ?_) (fun c399 => ?_)
                                        · refine x_iconst hx hb dL_areWalkersRight_417 ?_
                                          refine lv_istore (lv' := [(13, .int (iZ 0)), (12, .int (iZ (cnZ (opT B) (wcT B w) d))), (11, .int (iZ d)), (10, .int (iZ sp9)), (9, .int (iZ be)), (8, .int (iZ ky)), (7, .int (iZ rc)), (6, .ref (xad E37 g38)), (5, .int (iZ (wcT B w))), (4, .int (iZ w)), (3, .int (iZ 1)), (2, .int (iZ (nwT B))), (0, .ref (xad E37 0)), (1, .int (iZ to))]) hx hb dL_areWalkersRight_418 hl (by decide) rfl (fun ls hl => ?_)
                                          refine lv_iload hx hb dL_areWalkersRight_420 (lv_at hl 0 rfl) ?_
                                          refine x_if_eq (tgt := 449) hx hb dL_areWalkersRight_422 (by decide) (by decide) (fun c422 => ?_) (fun c422 => ?_)
                                          · refine lv_iload hx hb dL_areWalkersRight_449 (lv_at hl 3 rfl) ?_
                                            refine lv_istore (lv' := [(10, .int (iZ sp9)), (13, .int (iZ 0)), (12, .int (iZ (cnZ (opT B) (wcT B w) d))), (11, .int (iZ d)), (9, .int (iZ be)), (8, .int (iZ ky)), (7, .int (iZ rc)), (6, .ref (xad E37 g38)), (5, .int (iZ (wcT B w))), (4, .int (iZ w)), (3, .int (iZ 1)), (2, .int (iZ (nwT B))), (0, .ref (xad E37 0)), (1, .int (iZ to))]) hx hb dL_areWalkersRight_451 hl (by decide) rfl (fun ls hl => ?_)
                                            refine x_iinc (lv' := [(11, .int (iZ (d + (-1)))), (10, .int (iZ sp9)), (13, .int (iZ 0)), (12, .int (iZ (cnZ (opT B) (wcT B w) d))), (9, .int (iZ be)), (8, .int (iZ ky)), (7, .int (iZ rc)), (6, .ref (xad E37 g38)), (5, .int (iZ (wcT B w))), (4, .int (iZ w)), (3, .int (iZ 1)), (2, .int (iZ (nwT B))), (0, .ref (xad E37 0)), (1, .int (iZ to))]) hx hb dL_areWalkersRight_453 hl (k := 3) rfl (by decide) rfl (fun ls hl => ?_)
                                            refine lv_goto (tgt := 366) hx hb dL_areWalkersRight_456 (by decide) ?_
                                            exact W.widen (by first | omega | (simp only [rm_L_areWalkersRight, rm_L_ask_12b, rm_L_ask_5b, rm_L_ask_7b, rm_L_ask_8b, rm_L_ask_9b, rm_L_joined_0, rm_L_lengths, rm_X6_walkerColumn0, rm_X6_walkerCount, rm_X6_walkerRow0]; omega)) (by first | omega | (simp only [rm_L_areWalkersRight, rm_L_ask_12b, rm_L_ask_5b, rm_L_ask_7b, rm_L_ask_8b, rm_L_ask_9b, rm_L_joined_0, rm_L_lengths, rm_X6_walkerColumn0, rm_X6_walkerCount, rm_X6_walkerRow0]; omega)) (ih366 (d + (-1)) sp9 σ46 _ _ _ (by omega) (by omega) (by rw [show d + -1 = d - 1 by omega]; first | exact fsI_no hfs (fun q => by have := q.1; omega) | exact fsI_no hfs (fun q => q.2.1 (Gw_no2 (by omega))) | exact fsI_no hfs (fun q => q.2.1 (Gw_lock2 c410)) | exact fsI_new hfs (by omega) ⟨by omega, (lz_eq Gw_ok (hwc9 w) ht (by omega) (Gw_yes2 c410) (by omega) (by omega)).mp (by omega)⟩ | exact fsI_no hfs (fun q => c441 (by have h9 := (lz_eq Gw_ok (hwc9 w) ht (by omega) (Gw_yes2 c410) (by omega) (by omega)).mpr q.2; omega))) fcw_0 fg38_0 (fun j hj0 => (fr47 j (by omega))) hH (lv_sub hl [0, 1, 4, 5, 6, 7, 8, 9, 10, 11, 12, 13] rfl))
                                          · exact absurd c422 (by decide)
                                        · refine lv_aload_n hx hb dL_areWalkersRight_402 rfl (lv_at hl 11 rfl) ?_
                                          refine lv_iload hx hb dL_areWalkersRight_403 (lv_at hl 8 rfl) ?_
                                          refine lv_iload hx hb dL_areWalkersRight_405 (lv_at hl 0 rfl) ?_
                                          refine x_cSID (As := [.ref (xad E37 0), .int (iZ w), .int (iZ (cnZ (opT B) (wcT B w) d))]) (rest := []) hx hb hml hts hown hK hST hOK hH (c_L_mayEnter l E37 ST hSF hSX htr σ46 w (cnZ (opT B) (wcT B w) d) B S Y fcw_0 (by omega) (by omega)) (va_cwS 3 hts (goodIn_t gK_175) rfl rfl rfl (by decide +kernel) ⟨Nat.le_of_ble_eq_true rfl, Nat.le_of_ble_eq_true rfl⟩) rfl hl.1 rfl (Nat.le_of_ble_eq_true rfl) dL_areWalkersRight_407 ⟨by first | omega | (simp only [rm_L_areWalkersRight, rm_L_ask_12b, rm_L_ask_5b, rm_L_ask_7b, rm_L_ask_8b, rm_L_ask_9b, rm_L_joined_0, rm_L_lengths, rm_L_mayEnter_n, rm_X6_walkerColumn0, rm_X6_walkerCount, rm_X6_walkerRow0]; omega), by first | omega | (simp only [rm_L_areWalkersRight, rm_L_ask_12b, rm_L_ask_5b, rm_L_ask_7b, rm_L_ask_8b, rm_L_ask_9b, rm_L_joined_0, rm_L_lengths, rm_L_mayEnter_n, rm_X6_walkerColumn0, rm_X6_walkerCount, rm_X6_walkerRow0]; omega)⟩ (fun z u h => h) (fun H locs hH => ?_)
                                          refine x_ifb_eq (tgt := 417) hx hb dL_areWalkersRight_410 (by decide) (fun c410 => ?_) (fun c410 => ?_)
                                          · have c410 := of_decide_eq_false c410
                                            refine x_iconst hx hb dL_areWalkersRight_417 ?_
                                            refine lv_istore (lv' := [(13, .int (iZ 0)), (12, .int (iZ (cnZ (opT B) (wcT B w) d))), (11, .int (iZ d)), (10, .int (iZ sp9)), (9, .int (iZ be)), (8, .int (iZ ky)), (7, .int (iZ rc)), (6, .ref (xad E37 g38)), (5, .int (iZ (wcT B w))), (4, .int (iZ w)), (3, .int (iZ 1)), (2, .int (iZ (nwT B))), (0, .ref (xad E37 0)), (1, .int (iZ to))]) hx hb dL_areWalkersRight_418 hl (by decide) rfl (fun ls hl => ?_)
                                            refine lv_iload hx hb dL_areWalkersRight_420 (lv_at hl 0 rfl) ?_
                                            refine x_if_eq (tgt := 449) hx hb dL_areWalkersRight_422 (by decide) (by decide) (fun c422 => ?_) (fun c422 => ?_)
                                            · refine lv_iload hx hb dL_areWalkersRight_449 (lv_at hl 3 rfl) ?_
                                              refine lv_istore (lv' := [(10, .int (iZ sp9)), (13, .int (iZ 0)), (12, .int (iZ (cnZ (opT B) (wcT B w) d))), (11, .int (iZ d)), (9, .int (iZ be)), (8, .int (iZ ky)), (7, .int (iZ rc)), (6, .ref (xad E37 g38)), (5, .int (iZ (wcT B w))), (4, .int (iZ w)), (3, .int (iZ 1)), (2, .int (iZ (nwT B))), (0, .ref (xad E37 0)), (1, .int (iZ to))]) hx hb dL_areWalkersRight_451 hl (by decide) rfl (fun ls hl => ?_)
                                              refine x_iinc (lv' := [(11, .int (iZ (d + (-1)))), (10, .int (iZ sp9)), (13, .int (iZ 0)), (12, .int (iZ (cnZ (opT B) (wcT B w) d))), (9, .int (iZ be)), (8, .int (iZ ky)), (7, .int (iZ rc)), (6, .ref (xad E37 g38)), (5, .int (iZ (wcT B w))), (4, .int (iZ w)), (3, .int (iZ 1)), (2, .int (iZ (nwT B))), (0, .ref (xad E37 0)), (1, .int (iZ to))]) hx hb dL_areWalkersRight_453 hl (k := 3) rfl (by decide) rfl (fun ls hl => ?_)
                                              refine lv_goto (tgt := 366) hx hb dL_areWalkersRight_456 (by decide) ?_
                                              exact W.widen (by first | omega | (simp only [rm_L_areWalkersRight, rm_L_ask_12b, rm_L_ask_5b, rm_L_ask_7b, rm_L_ask_8b, rm_L_ask_9b, rm_L_joined_0, rm_L_lengths, rm_L_mayEnter_n, rm_X6_walkerColumn0, rm_X6_walkerCount, rm_X6_walkerRow0]; omega)) (by first | omega | (simp only [rm_L_areWalkersRight, rm_L_ask_12b, rm_L_ask_5b, rm_L_ask_7b, rm_L_ask_8b, rm_L_ask_9b, rm_L_joined_0, rm_L_lengths, rm_L_mayEnter_n, rm_X6_walkerColumn0, rm_X6_walkerCount, rm_X6_walkerRow0]; omega)) (ih366 (d + (-1)) sp9 σ46 _ _ _ (by omega) (by omega) (by rw [show d + -1 = d - 1 by omega]; first | exact fsI_no hfs (fun q => by have := q.1; omega) | exact fsI_no hfs (fun q => q.2.1 (Gw_no2 (by omega))) | exact fsI_no hfs (fun q => q.2.1 (Gw_lock2 c410)) | exact fsI_new hfs (by omega) ⟨by omega, (lz_eq Gw_ok (hwc9 w) ht (by omega) (Gw_yes2 c410) (by omega) (by omega)).mp (by omega)⟩ | exact fsI_no hfs (fun q => c441 (by have h9 := (lz_eq Gw_ok (hwc9 w) ht (by omega) (Gw_yes2 c410) (by omega) (by omega)).mpr q.2; omega))) fcw_0 fg38_0 (fun j hj0 => (fr47 j (by omega))) hH (lv_sub hl [0, 1, 4, 5, 6, 7, 8, 9, 10, 11, 12, 13] rfl))
                                            · exact absurd c422 (by decide)
                                          · have c410 := of_decide_eq_true c410
                                            refine x_iconst hx hb dL_areWalkersRight_413 ?_
                                            refine lv_goto (tgt := 418) hx hb dL_areWalkersRight_414 (by decide) ?_
                                            refine lv_istore (lv' := [(13, .int (iZ 1)), (12, .int (iZ (cnZ (opT B) (wcT B w) d))), (11, .int (iZ d)), (10, .int (iZ sp9)), (9, .int (iZ be)), (8, .int (iZ ky)), (7, .int (iZ rc)), (6, .ref (xad E37 g38)), (5, .int (iZ (wcT B w))), (4, .int (iZ w)), (3, .int (iZ 1)), (2, .int (iZ (nwT B))), (0, .ref (xad E37 0)), (1, .int (iZ to))]) hx hb dL_areWalkersRight_418 hl (by decide) rfl (fun ls hl => ?_)
                                            refine lv_iload hx hb dL_areWalkersRight_420 (lv_at hl 0 rfl) ?_
                                            refine x_if_eq (tgt := 449) hx hb dL_areWalkersRight_422 (by decide) (by decide) (fun c422 => ?_) (fun c422 => ?_)
                                            · exact absurd c422 (by decide)
                                            · refine lv_aload_n hx hb dL_areWalkersRight_425 rfl (lv_at hl 12 rfl) ?_
                                              refine lv_iload hx hb dL_areWalkersRight_426 (lv_at hl 9 rfl) ?_
                                              refine lv_iload hx hb dL_areWalkersRight_428 (lv_at hl 1 rfl) ?_
                                              refine x_cSR (As := [.ref (xad E37 0), .int (iZ w), .int (iZ (cnZ (opT B) (wcT B w) d))]) (rest := []) hx hb hml hts hown hK hST hOK hH (c_L_lengths l E37 ST hSF hSX htr σ46 w (cnZ (opT B) (wcT B w) d) B S Y fcw_0 (by omega) (by omega)) (va_cwS 3 hts (goodIn_t gK_253) rfl rfl rfl (by decide +kernel) ⟨Nat.le_of_ble_eq_true rfl, Nat.le_of_ble_eq_true rfl⟩) rfl hl.1 rfl (Nat.le_of_ble_eq_true rfl) dL_areWalkersRight_430 ⟨by first | omega | (simp only [rm_L_areWalkersRight, rm_L_ask_12b, rm_L_ask_5b, rm_L_ask_7b, rm_L_ask_8b, rm_L_ask_9b, rm_L_joined_0, rm_L_lengths, rm_L_mayEnter_n, rm_X6_walkerColumn0, rm_X6_walkerCount, rm_X6_walkerRow0]; omega), by first | omega | (simp only [rm_L_areWalkersRight, rm_L_ask_12b, rm_L_ask_5b, rm_L_ask_7b, rm_L_ask_8b, rm_L_ask_9b, rm_L_joined_0, rm_L_lengths, rm_L_mayEnter_n, rm_X6_walkerColumn0, rm_X6_walkerCount, rm_X6_walkerRow0]; omega)⟩ (fun E78 g79 σ80 H locs hp83 hH => ?_)
                                              obtain ⟨hE82, fcw_0, ⟨Fb, fg79_0, hFb⟩, fr81⟩ := hp83
                                              have hK := hE82.K hK
                                              have hgg79 := hE82.lt
                                              rw [← hE82.2.2.2.2 0 (by omega)] at hl
                                              rw [← hE82.2.2.2.2 g38 (by omega)] at hl
                                              have fg38_0 : σ80 g38 = aI E78 25 Fa := ((fr81 g38 (by omega) (by omega)).trans fg38_0).trans hE82.aI.symm
                                              refine lv_iload_n hx hb dL_areWalkersRight_433 rfl (lv_at hl 13 rfl) ?_
                                              refine x_iald hx hb hK hH g79 (by omega) fg79_0 (by omega) (by omega) (by omega) dL_areWalkersRight_434 ?_
                                              have hfl := hFb to (by omega) (by omega)
                                              have hflr := dz_rg (G := (Gw (opT B) (lkT B) (kpT B) w)) (st := (cnZ (opT B) (wcT B w) d)) Gw_ok (by omega) to
                                              have hfl2 : (dz (Gw (opT B) (lkT B) (kpT B) w) (cnZ (opT B) (wcT B w) d) to < 25 ∧ Fb to = dz (Gw (opT B) (lkT B) (kpT B) w) (cnZ (opT B) (wcT B w) d) to) ∨ (¬ dz (Gw (opT B) (lkT B) (kpT B) w) (cnZ (opT B) (wcT B w) d) to < 25 ∧ Fb to = 99) := by
                                                rw [hfl]
                                                exact f99_c
                                              obtain ⟨σ84, hH, fcw_0, fr85⟩ := Hx.pop hE82 fcw_0 hH (fun j hj0 hj1 => (fr81 j (by omega) (by omega)))
                                              have hK := hE82.K0 hK
                                              rw [hE82.2.2.2.2 0 (by omega)] at hl
                                              rw [hE82.2.2.2.2 g38 (by omega)] at hl
                                              have fg38_0 : σ84 g38 = aI E37 25 Fa := (fr85 g38 (by omega)).trans ((fr81 g38 (by omega) (by omega)).symm.trans (fg38_0.trans hE82.aI))
                                              refine lv_aload hx hb dL_areWalkersRight_435 (lv_at hl 7 rfl) ?_
                                              refine lv_iload_n hx hb dL_areWalkersRight_437 rfl (lv_at hl 13 rfl) ?_
                                              refine x_iald hx hb hK hH g38 (by omega) fg38_0 (by omega) (by omega) (by omega) dL_areWalkersRight_438 ?_
                                              refine x_iconst hx hb dL_areWalkersRight_439 ?_
                                              refine x_isub hx hb dL_areWalkersRight_440 ?_
                                              refine x_icmp_ne (tgt := 449) hx hb dL_areWalkersRight_441 (by decide) (by omega) (by omega) (fun c441 => ?_) (fun c441 => ?_)
                                              · refine lv_iload hx hb dL_areWalkersRight_449 (lv_at hl 3 rfl) ?_
                                                refine lv_istore (lv' := [(10, .int (iZ sp9)), (13, .int (iZ 1)), (12, .int (iZ (cnZ (opT B) (wcT B w) d))), (11, .int (iZ d)), (9, .int (iZ be)), (8, .int (iZ ky)), (7, .int (iZ rc)), (6, .ref (xad E37 g38)), (5, .int (iZ (wcT B w))), (4, .int (iZ w)), (3, .int (iZ 1)), (2, .int (iZ (nwT B))), (0, .ref (xad E37 0)), (1, .int (iZ to))]) hx hb dL_areWalkersRight_451 hl (by decide) rfl (fun ls hl => ?_)
                                                refine x_iinc (lv' := [(11, .int (iZ (d + (-1)))), (10, .int (iZ sp9)), (13, .int (iZ 1)), (12, .int (iZ (cnZ (opT B) (wcT B w) d))), (9, .int (iZ be)), (8, .int (iZ ky)), (7, .int (iZ rc)), (6, .ref (xad E37 g38)), (5, .int (iZ (wcT B w))), (4, .int (iZ w)), (3, .int (iZ 1)), (2, .int (iZ (nwT B))), (0, .ref (xad E37 0)), (1, .int (iZ to))]) hx hb dL_areWalkersRight_453 hl (k := 3) rfl (by decide) rfl (fun ls hl => ?_)
                                                refine lv_goto (tgt := 366) hx hb dL_areWalkersRight_456 (by decide) ?_
                                                exact W.widen (by first | omega | (simp only [rm_L_areWalkersRight, rm_L_ask_12b, rm_L_ask_5b, rm_L_ask_7b, rm_L_ask_8b, rm_L_ask_9b, rm_L_joined_0, rm_L_lengths, rm_L_mayEnter_n, rm_X6_walkerColumn0, rm_X6_walkerCount, rm_X6_walkerRow0]; omega)) (by first | omega | (simp only [rm_L_areWalkersRight, rm_L_ask_12b, rm_L_ask_5b, rm_L_ask_7b, rm_L_ask_8b, rm_L_ask_9b, rm_L_joined_0, rm_L_lengths, rm_L_mayEnter_n, rm_X6_walkerColumn0, rm_X6_walkerCount, rm_X6_walkerRow0]; omega)) (ih366 (d + (-1)) sp9 σ84 _ _ _ (by omega) (by omega) (by rw [show d + -1 = d - 1 by omega]; first | exact fsI_no hfs (fun q => by have := q.1; omega) | exact fsI_no hfs (fun q => q.2.1 (Gw_no2 (by omega))) | exact fsI_no hfs (fun q => q.2.1 (Gw_lock2 c410)) | exact fsI_new hfs (by omega) ⟨by omega, (lz_eq Gw_ok (hwc9 w) ht (by omega) (Gw_yes2 c410) (by omega) (by omega)).mp (by omega)⟩ | exact fsI_no hfs (fun q => c441 (by have h9 := (lz_eq Gw_ok (hwc9 w) ht (by omega) (Gw_yes2 c410) (by omega) (by omega)).mpr q.2; omega))) fcw_0 fg38_0 (fun j hj0 => ((fr85 j (by omega)).trans (fr47 j (by omega)))) hH (lv_sub hl [0, 1, 4, 5, 6, 7, 8, 9, 10, 11, 12, 13] rfl))
                                              · refine lv_iload hx hb dL_areWalkersRight_444 (lv_at hl 2 rfl) ?_
                                                refine lv_goto (tgt := 451) hx hb dL_areWalkersRight_446 (by decide) ?_
                                                refine lv_istore (lv' := [(10, .int (iZ d)), (13, .int (iZ 1)), (12, .int (iZ (cnZ (opT B) (wcT B w) d))), (11, .int (iZ d)), (9, .int (iZ be)), (8, .int (iZ ky)), (7, .int (iZ rc)), (6, .ref (xad E37 g38)), (5, .int (iZ (wcT B w))), (4, .int (iZ w)), (3, .int (iZ 1)), (2, .int (iZ (nwT B))), (0, .ref (xad E37 0)), (1, .int (iZ to))]) hx hb dL_areWalkersRight_451 hl (by decide) rfl (fun ls hl => ?_)
                                                refine x_iinc (lv' := [(11, .int (iZ (d + (-1)))), (10, .int (iZ d)), (13, .int (iZ 1)), (12, .int (iZ (cnZ (opT B) (wcT B w) d))), (9, .int (iZ be)), (8, .int (iZ ky)), (7, .int (iZ rc)), (6, .ref (xad E37 g38)), (5, .int (iZ (wcT B w))), (4, .int (iZ w)), (3, .int (iZ 1)), (2, .int (iZ (nwT B))), (0, .ref (xad E37 0)), (1, .int (iZ to))]) hx hb dL_areWalkersRight_453 hl (k := 3) rfl (by decide) rfl (fun ls hl => ?_)
                                                refine lv_goto (tgt := 366) hx hb dL_areWalkersRight_456 (by decide) ?_
                                                exact W.widen (by first | omega | (simp only [rm_L_areWalkersRight, rm_L_ask_12b, rm_L_ask_5b, rm_L_ask_7b, rm_L_ask_8b, rm_L_ask_9b, rm_L_joined_0, rm_L_lengths, rm_L_mayEnter_n, rm_X6_walkerColumn0, rm_X6_walkerCount, rm_X6_walkerRow0]; omega)) (by first | omega | (simp only [rm_L_areWalkersRight, rm_L_ask_12b, rm_L_ask_5b, rm_L_ask_7b, rm_L_ask_8b, rm_L_ask_9b, rm_L_joined_0, rm_L_lengths, rm_L_mayEnter_n, rm_X6_walkerColumn0, rm_X6_walkerCount, rm_X6_walkerRow0]; omega)) (ih366 (d + (-1)) d σ84 _ _ _ (by omega) (by omega) (by rw [show d + -1 = d - 1 by omega]; first | exact fsI_no hfs (fun q => by have := q.1; omega) | exact fsI_no hfs (fun q => q.2.1 (Gw_no2 (by omega))) | exact fsI_no hfs (fun q => q.2.1 (Gw_lock2 c410)) | exact fsI_new hfs (by omega) ⟨by omega, (lz_eq Gw_ok (hwc9 w) ht (by omega) (Gw_yes2 c410) (by omega) (by omega)).mp (by omega)⟩ | exact fsI_no hfs (fun q => c441 (by have h9 := (lz_eq Gw_ok (hwc9 w) ht (by omega) (Gw_yes2 c410) (by omega) (by omega)).mpr q.2; omega))) fcw_0 fg38_0 (fun j hj0 => ((fr85 j (by omega)).trans (fr47 j (by omega)))) hH (lv_sub hl [0, 1, 4, 5, 6, 7, 8, 9, 10, 11, 12, 13] rfl))
                              exact W.widen (by first | omega | (simp only [rm_L_areWalkersRight, rm_L_ask_12b, rm_L_ask_5b, rm_L_ask_7b, rm_L_ask_8b, rm_L_ask_9b, rm_L_lengths, rm_X6_walkerColumn0, rm_X6_walkerCount, rm_X6_walkerRow0]; omega)) (by first | omega | (simp only [rm_L_areWalkersRight, rm_L_ask_12b, rm_L_ask_5b, rm_L_ask_7b, rm_L_ask_8b, rm_L_ask_9b, rm_L_lengths, rm_X6_walkerColumn0, rm_X6_walkerCount, rm_X6_walkerRow0]; omega)) (K366 5 3 (-2004) σ43 _ _ _ (by first | omega | decide) (by omega) (by exact fsI_0) fcw_0 fg38_0 (fun j _ => rfl) hH (lv_sub hl [0, 1, 2, 3, 4, 5, 6, 7, 8, 9, 10, 11] rfl))
                            · refine lv_aload_n hx hb dL_areWalkersRight_250 rfl (lv_at hl 9 rfl) ?_
                              refine x_iconst hx hb dL_areWalkersRight_251 ?_
                              refine lv_iload hx hb dL_areWalkersRight_252 (lv_at hl 0 rfl) ?_
                              refine x_iconst hx hb dL_areWalkersRight_254 ?_
                              refine x_iconst hx hb dL_areWalkersRight_255 ?_
                              refine x_cSW (As := [.ref (xad E37 0), .int (iZ 3), .int (iZ i), .int (iZ 0), .int (iZ 0)]) (rest := []) hx hb hml hts hown hK hST hOK hH (c_L_ask_3 l E37 ST hSF hSX htr σ43 i 0 0 B S Y fcw_0 (by omega)) (vx_cwSW 5 hts (goodIn_t gK_162) rfl rfl rfl (by decide +kernel) ⟨Nat.le_of_ble_eq_true rfl, Nat.le_of_ble_eq_true rfl⟩) rfl hl.1 rfl (Nat.le_of_ble_eq_true rfl) dL_areWalkersRight_256 ⟨by first | omega | (simp only [rm_L_areWalkersRight, rm_L_ask_12b, rm_L_ask_3, rm_L_ask_5b, rm_L_ask_7b, rm_L_ask_8b, rm_L_ask_9b, rm_L_lengths, rm_X6_walkerColumn0, rm_X6_walkerCount, rm_X6_walkerRow0]; omega), by first | omega | (simp only [rm_L_areWalkersRight, rm_L_ask_12b, rm_L_ask_3, rm_L_ask_5b, rm_L_ask_7b, rm_L_ask_8b, rm_L_ask_9b, rm_L_lengths, rm_X6_walkerColumn0, rm_X6_walkerCount, rm_X6_walkerRow0]; omega)⟩ (fun z86 σ87 H locs hp88 hH => ?_)
                              obtain ⟨hq9, hu9⟩ := hp88
                              subst hq9
                              rw [hu9] at hH
                              have hkr := aKp_rg (kp := kpT B) (i := i)
                              refine lv_istore (lv' := [(11, .int (iZ (aKp (kpT B) i))), (10, .int (iZ i)), (9, .int (iZ be)), (8, .int (iZ ky)), (7, .int (iZ rc)), (6, .ref (xad E37 g38)), (5, .int (iZ (wcT B w))), (4, .int (iZ w)), (3, .int (iZ 1)), (2, .int (iZ (nwT B))), (0, .ref (xad E37 0)), (1, .int (iZ to))]) hx hb dL_areWalkersRight_259 hl (by decide) rfl (fun ls hl => ?_)
                              refine lv_iload hx hb dL_areWalkersRight_261 (lv_at hl 3 rfl) ?_
                              refine lv_aload_n hx hb dL_areWalkersRight_263 rfl (lv_at hl 10 rfl) ?_
                              refine x_iconst hx hb dL_areWalkersRight_264 ?_
                              refine lv_iload hx hb dL_areWalkersRight_265 (lv_at hl 1 rfl) ?_
                              refine x_iconst hx hb dL_areWalkersRight_267 ?_
                              refine x_iconst hx hb dL_areWalkersRight_268 ?_
                              refine x_cSW (As := [.ref (xad E37 0), .int (iZ 4), .int (iZ i), .int (iZ 0), .int (iZ 0)]) (rest := [.int (iZ ky)]) hx hb hml hts hown hK hST hOK hH (c_L_ask_4 l E37 ST hSF hSX htr σ43 i 0 0 B S Y fcw_0 (by omega)) (vx_cwSW 5 hts (goodIn_t gK_162) rfl rfl rfl (by decide +kernel) ⟨Nat.le_of_ble_eq_true rfl, Nat.le_of_ble_eq_true rfl⟩) rfl hl.1 rfl (Nat.le_of_ble_eq_true rfl) dL_areWalkersRight_269 ⟨by first | omega | (simp only [rm_L_areWalkersRight, rm_L_ask_12b, rm_L_ask_3, rm_L_ask_4, rm_L_ask_5b, rm_L_ask_7b, rm_L_ask_8b, rm_L_ask_9b, rm_L_lengths, rm_X6_walkerColumn0, rm_X6_walkerCount, rm_X6_walkerRow0]; omega), by first | omega | (simp only [rm_L_areWalkersRight, rm_L_ask_12b, rm_L_ask_3, rm_L_ask_4, rm_L_ask_5b, rm_L_ask_7b, rm_L_ask_8b, rm_L_ask_9b, rm_L_lengths, rm_X6_walkerColumn0, rm_X6_walkerCount, rm_X6_walkerRow0]; omega)⟩ (fun z89 σ90 H locs hp91 hH => ?_)
                              obtain ⟨hq9, hu9⟩ := hp91
                              subst hq9
                              rw [hu9] at hH
                              have hcr := aCa_rg (hkp i) hnw.2
                              refine lv_iload hx hb dL_areWalkersRight_272 (lv_at hl 7 rfl) ?_
                              refine x_icmp_ne (tgt := 281) hx hb dL_areWalkersRight_274 (by decide) (by omega) (by omega) (fun c274 => ?_) (fun c274 => ?_)
                              · refine x_iconst hx hb dL_areWalkersRight_281 ?_
                                refine x_iadd hx hb dL_areWalkersRight_282 ?_
                                refine lv_istore (lv' := [(8, .int (iZ (ky + 0))), (11, .int (iZ (aKp (kpT B) i))), (10, .int (iZ i)), (9, .int (iZ be)), (7, .int (iZ rc)), (6, .ref (xad E37 g38)), (5, .int (iZ (wcT B w))), (4, .int (iZ w)), (3, .int (iZ 1)), (2, .int (iZ (nwT B))), (0, .ref (xad E37 0)), (1, .int (iZ to))]) hx hb dL_areWalkersRight_283 hl (by decide) rfl (fun ls hl => ?_)
                                refine lv_iload hx hb dL_areWalkersRight_285 (lv_at hl 1 rfl) ?_
                                refine x_if_lt (tgt := 332) hx hb dL_areWalkersRight_287 (by decide) (by omega) (fun c287 => ?_) (fun c287 => ?_)
                                · refine x_iconst hx hb dL_areWalkersRight_332 ?_
                                  refine lv_istore (lv' := [(12, .int (iZ 0)), (8, .int (iZ (ky + 0))), (11, .int (iZ (aKp (kpT B) i))), (10, .int (iZ i)), (9, .int (iZ be)), (7, .int (iZ rc)), (6, .ref (xad E37 g38)), (5, .int (iZ (wcT B w))), (4, .int (iZ w)), (3, .int (iZ 1)), (2, .int (iZ (nwT B))), (0, .ref (xad E37 0)), (1, .int (iZ to))]) hx hb dL_areWalkersRight_333 hl (by decide) rfl (fun ls hl => ?_)
                                  refine lv_iload hx hb dL_areWalkersRight_335 (lv_at hl 0 rfl) ?_
                                  refine x_if_eq (tgt := 348) hx hb dL_areWalkersRight_337 (by decide) (by decide) (fun c337 => ?_) (fun c337 => ?_)
                                  · refine lv_iload hx hb dL_areWalkersRight_348 (lv_at hl 4 rfl) ?_
                                    refine lv_istore (lv' := [(9, .int (iZ be)), (12, .int (iZ 0)), (8, .int (iZ (ky + 0))), (11, .int (iZ (aKp (kpT B) i))), (10, .int (iZ i)), (7, .int (iZ rc)), (6, .ref (xad E37 g38)), (5, .int (iZ (wcT B w))), (4, .int (iZ w)), (3, .int (iZ 1)), (2, .int (iZ (nwT B))), (0, .ref (xad E37 0)), (1, .int (iZ to))]) hx hb dL_areWalkersRight_350 hl (by decide) rfl (fun ls hl => ?_)
                                    refine x_iinc (lv' := [(10, .int (iZ (i + (-1)))), (9, .int (iZ be)), (12, .int (iZ 0)), (8, .int (iZ (ky + 0))), (11, .int (iZ (aKp (kpT B) i))), (7, .int (iZ rc)), (6, .ref (xad E37 g38)), (5, .int (iZ (wcT B w))), (4, .int (iZ w)), (3, .int (iZ 1)), (2, .int (iZ (nwT B))), (0, .ref (xad E37 0)), (1, .int (iZ to))]) hx hb dL_areWalkersRight_352 hl (k := 4) rfl (by decide) rfl (fun ls hl => ?_)
                                    refine lv_goto (tgt := 245) hx hb dL_areWalkersRight_355 (by decide) ?_
                                    exact W.widen (by first | omega | (simp only [rm_L_areWalkersRight, rm_L_ask_12b, rm_L_ask_3, rm_L_ask_4, rm_L_ask_5b, rm_L_ask_7b, rm_L_ask_8b, rm_L_ask_9b, rm_L_lengths, rm_X6_walkerColumn0, rm_X6_walkerCount, rm_X6_walkerRow0]; omega)) (by first | omega | (simp only [rm_L_areWalkersRight, rm_L_ask_12b, rm_L_ask_3, rm_L_ask_4, rm_L_ask_5b, rm_L_ask_7b, rm_L_ask_8b, rm_L_ask_9b, rm_L_lengths, rm_X6_walkerColumn0, rm_X6_walkerCount, rm_X6_walkerRow0]; omega)) (ih245 (i + (-1)) be (ky + 0) _ _ _ (by omega) (by omega) (by rw [show i + -1 = i - 1 by omega]; first | exact nbI_no hbe (aKp_n c287) | exact nbI_no hbe (fun q => by have := q.2; omega) | exact nbI_new hbe (by omega) ⟨⟨by omega, by omega⟩, by omega⟩ c302 | exact nbI_keep hbe (by omega) c302 (by omega) | exact nbI_less hbe (by omega) ⟨⟨by omega, by omega⟩, by omega⟩ c302 (by omega)) (by have hcs := cntK_s (f := kpT B) (x := 25 + w) (n := i) (by omega); rw [show i + -1 + 1 = i by omega]; first | (rw [if_pos ((aCa_eq (by omega)).mp c274)] at hcs; omega) | (rw [if_neg (fun q => c274 ((aCa_eq (by omega)).mpr q))] at hcs; omega)) (by omega)  hH (lv_sub hl [0, 1, 3, 5, 6, 7, 8, 9, 10, 11, 12] rfl))
                                  · exact absurd c337 (by decide)
                                · refine lv_aload hx hb dL_areWalkersRight_290 (lv_at hl 5 rfl) ?_
                                  refine lv_iload hx hb dL_areWalkersRight_292 (lv_at hl 1 rfl) ?_
                                  refine x_iald hx hb hK hH g38 (by omega) fg38_0 (by omega) (by omega) (by omega) dL_areWalkersRight_294 ?_
                                  refine x_bipush hx hb dL_areWalkersRight_295 (by decide) ?_
                                  have hkp9 := aKp_y c287
                                  have hnb8 := nbI_rg hbe (by omega)
                                  have hfp : ((dz (Gw (opT B) (lkT B) (kpT B) w) (wcT B w) (aKp (kpT B) i)) < 25 ∧ Fa (aKp (kpT B) i) = (dz (Gw (opT B) (lkT B) (kpT B) w) (wcT B w) (aKp (kpT B) i))) ∨ (¬ (dz (Gw (opT B) (lkT B) (kpT B) w) (wcT B w) (aKp (kpT B) i)) < 25 ∧ Fa (aKp (kpT B) i) = 99) := by
                                    rw [hFa (aKp (kpT B) i) (by omega) (by omega)]
                                    exact f99_c
                                  have hfpr := dz_rg (G := (Gw (opT B) (lkT B) (kpT B) w)) (st := wcT B w) Gw_ok (hwc9 w) (aKp (kpT B) i)
                                  rw [hkp9.1] at hfp hfpr
                                  have hkF : Fa (aKp (kpT B) i) = Fa (kpT B i) := (by rw [hkp9.1])
                                  refine x_icmp_ge (tgt := 332) hx hb dL_areWalkersRight_297 (by decide) (by omega) (by decide) (fun c297 => ?_) (fun c297 => ?_)
                                  · refine x_iconst hx hb dL_areWalkersRight_332 ?_
                                    refine lv_istore (lv' := [(12, .int (iZ 0)), (8, .int (iZ (ky + 0))), (11, .int (iZ (aKp (kpT B) i))), (10, .int (iZ i)), (9, .int (iZ be)), (7, .int (iZ rc)), (6, .ref (xad E37 g38)), (5, .int (iZ (wcT B w))), (4, .int (iZ w)), (3, .int (iZ 1)), (2, .int (iZ (nwT B))), (0, .ref (xad E37 0)), (1, .int (iZ to))]) hx hb dL_areWalkersRight_333 hl (by decide) rfl (fun ls hl => ?_)
                                    refine lv_iload hx hb dL_areWalkersRight_335 (lv_at hl 0 rfl) ?_
                                    refine x_if_eq (tgt := 348) hx hb dL_areWalkersRight_337 (by decide) (by decide) (fun c337 => ?_) (fun c337 => ?_)
                                    · refine lv_iload hx hb dL_areWalkersRight_348 (lv_at hl 4 rfl) ?_
                                      refine lv_istore (lv' := [(9, .int (iZ be)), (12, .int (iZ 0)), (8, .int (iZ (ky + 0))), (11, .int (iZ (aKp (kpT B) i))), (10, .int (iZ i)), (7, .int (iZ rc)), (6, .ref (xad E37 g38)), (5, .int (iZ (wcT B w))), (4, .int (iZ w)), (3, .int (iZ 1)), (2, .int (iZ (nwT B))), (0, .ref (xad E37 0)), (1, .int (iZ to))]) hx hb dL_areWalkersRight_350 hl (by decide) rfl (fun ls hl => ?_)
                                      refine x_iinc (lv' := [(10, .int (iZ (i + (-1)))), (9, .int (iZ be)), (12, .int (iZ 0)), (8, .int (iZ (ky + 0))), (11, .int (iZ (aKp (kpT B) i))), (7, .int (iZ rc)), (6, .ref (xad E37 g38)), (5, .int (iZ (wcT B w))), (4, .int (iZ w)), (3, .int (iZ 1)), (2, .int (iZ (nwT B))), (0, .ref (xad E37 0)), (1, .int (iZ to))]) hx hb dL_areWalkersRight_352 hl (k := 4) rfl (by decide) rfl (fun ls hl => ?_)
                                      refine lv_goto (tgt := 245) hx hb dL_areWalkersRight_355 (by decide) ?_
                                      exact W.widen (by first | omega | (simp only [rm_L_areWalkersRight, rm_L_ask_12b, rm_L_ask_3, rm_L_ask_4, rm_L_ask_5b, rm_L_ask_7b, rm_L_ask_8b, rm_L_ask_9b, rm_L_lengths, rm_X6_walkerColumn0, rm_X6_walkerCount, rm_X6_walkerRow0]; omega)) (by first | omega | (simp only [rm_L_areWalkersRight, rm_L_ask_12b, rm_L_ask_3, rm_L_ask_4, rm_L_ask_5b, rm_L_ask_7b, rm_L_ask_8b, rm_L_ask_9b, rm_L_lengths, rm_X6_walkerColumn0, rm_X6_walkerCount, rm_X6_walkerRow0]; omega)) (ih245 (i + (-1)) be (ky + 0) _ _ _ (by omega) (by omega) (by rw [show i + -1 = i - 1 by omega]; first | exact nbI_no hbe (aKp_n c287) | exact nbI_no hbe (fun q => by have := q.2; omega) | exact nbI_new hbe (by omega) ⟨⟨by omega, by omega⟩, by omega⟩ c302 | exact nbI_keep hbe (by omega) c302 (by omega) | exact nbI_less hbe (by omega) ⟨⟨by omega, by omega⟩, by omega⟩ c302 (by omega)) (by have hcs := cntK_s (f := kpT B) (x := 25 + w) (n := i) (by omega); rw [show i + -1 + 1 = i by omega]; first | (rw [if_pos ((aCa_eq (by omega)).mp c274)] at hcs; omega) | (rw [if_neg (fun q => c274 ((aCa_eq (by omega)).mpr q))] at hcs; omega)) (by omega)  hH (lv_sub hl [0, 1, 3, 5, 6, 7, 8, 9, 10, 11, 12] rfl))
                                    · exact absurd c337 (by decide)
                                  · refine lv_iload hx hb dL_areWalkersRight_300 (lv_at hl 3 rfl) ?_
                                    refine x_if_lt (tgt := 328) hx hb dL_areWalkersRight_302 (by decide) (by omega) (fun c302 => ?_) (fun c302 => ?_)
                                    · refine x_iconst hx hb dL_areWalkersRight_328 ?_
                                      refine lv_goto (tgt := 333) hx hb dL_areWalkersRight_329 (by decide) ?_
                                      refine lv_istore (lv' := [(12, .int (iZ 1)), (8, .int (iZ (ky + 0))), (11, .int (iZ (aKp (kpT B) i))), (10, .int (iZ i)), (9, .int (iZ be)), (7, .int (iZ rc)), (6, .ref (xad E37 g38)), (5, .int (iZ (wcT B w))), (4, .int (iZ w)), (3, .int (iZ 1)), (2, .int (iZ (nwT B))), (0, .ref (xad E37 0)), (1, .int (iZ to))]) hx hb dL_areWalkersRight_333 hl (by decide) rfl (fun ls hl => ?_)
                                      refine lv_iload hx hb dL_areWalkersRight_335 (lv_at hl 0 rfl) ?_
                                      refine x_if_eq (tgt := 348) hx hb dL_areWalkersRight_337 (by decide) (by decide) (fun c337 => ?_) (fun c337 => ?_)
                                      · exact absurd c337 (by decide)
                                      · refine x_bipush hx hb dL_areWalkersRight_340 (by decide) ?_
                                        refine lv_iload hx hb dL_areWalkersRight_342 (lv_at hl 3 rfl) ?_
                                        refine x_iadd hx hb dL_areWalkersRight_344 ?_
                                        refine lv_goto (tgt := 350) hx hb dL_areWalkersRight_345 (by decide) ?_
                                        refine lv_istore (lv' := [(9, .int (iZ (97 + i))), (12, .int (iZ 1)), (8, .int (iZ (ky + 0))), (11, .int (iZ (aKp (kpT B) i))), (10, .int (iZ i)), (7, .int (iZ rc)), (6, .ref (xad E37 g38)), (5, .int (iZ (wcT B w))), (4, .int (iZ w)), (3, .int (iZ 1)), (2, .int (iZ (nwT B))), (0, .ref (xad E37 0)), (1, .int (iZ to))]) hx hb dL_areWalkersRight_350 hl (by decide) rfl (fun ls hl => ?_)
                                        refine x_iinc (lv' := [(10, .int (iZ (i + (-1)))), (9, .int (iZ (97 + i))), (12, .int (iZ 1)), (8, .int (iZ (ky + 0))), (11, .int (iZ (aKp (kpT B) i))), (7, .int (iZ rc)), (6, .ref (xad E37 g38)), (5, .int (iZ (wcT B w))), (4, .int (iZ w)), (3, .int (iZ 1)), (2, .int (iZ (nwT B))), (0, .ref (xad E37 0)), (1, .int (iZ to))]) hx hb dL_areWalkersRight_352 hl (k := 4) rfl (by decide) rfl (fun ls hl => ?_)
                                        refine lv_goto (tgt := 245) hx hb dL_areWalkersRight_355 (by decide) ?_
                                        exact W.widen (by first | omega | (simp only [rm_L_areWalkersRight, rm_L_ask_12b, rm_L_ask_3, rm_L_ask_4, rm_L_ask_5b, rm_L_ask_7b, rm_L_ask_8b, rm_L_ask_9b, rm_L_lengths, rm_X6_walkerColumn0, rm_X6_walkerCount, rm_X6_walkerRow0]; omega)) (by first | omega | (simp only [rm_L_areWalkersRight, rm_L_ask_12b, rm_L_ask_3, rm_L_ask_4, rm_L_ask_5b, rm_L_ask_7b, rm_L_ask_8b, rm_L_ask_9b, rm_L_lengths, rm_X6_walkerColumn0, rm_X6_walkerCount, rm_X6_walkerRow0]; omega)) (ih245 (i + (-1)) (97 + i) (ky + 0) _ _ _ (by omega) (by omega) (by rw [show i + -1 = i - 1 by omega]; first | exact nbI_no hbe (aKp_n c287) | exact nbI_no hbe (fun q => by have := q.2; omega) | exact nbI_new hbe (by omega) ⟨⟨by omega, by omega⟩, by omega⟩ c302 | exact nbI_keep hbe (by omega) c302 (by omega) | exact nbI_less hbe (by omega) ⟨⟨by omega, by omega⟩, by omega⟩ c302 (by omega)) (by have hcs := cntK_s (f := kpT B) (x := 25 + w) (n := i) (by omega); rw [show i + -1 + 1 = i by omega]; first | (rw [if_pos ((aCa_eq (by omega)).mp c274)] at hcs; omega) | (rw [if_neg (fun q => c274 ((aCa_eq (by omega)).mpr q))] at hcs; omega)) (by omega)  hH (lv_sub hl [0, 1, 3, 5, 6, 7, 8, 9, 10, 11, 12] rfl))
                                    · refine lv_aload hx hb dL_areWalkersRight_305 (lv_at hl 5 rfl) ?_
                                      refine lv_iload hx hb dL_areWalkersRight_307 (lv_at hl 1 rfl) ?_
                                      refine x_iald hx hb hK hH g38 (by omega) fg38_0 (by omega) (by omega) (by omega) dL_areWalkersRight_309 ?_
                                      refine lv_aload hx hb dL_areWalkersRight_310 (lv_at hl 5 rfl) ?_
                                      refine lv_aload_n hx hb dL_areWalkersRight_312 rfl (lv_at hl 10 rfl) ?_
                                      refine x_iconst hx hb dL_areWalkersRight_313 ?_
                                      have hbb := nbI_b hbe (by omega) c302
                                      refine lv_iload hx hb dL_areWalkersRight_314 (lv_at hl 3 rfl) ?_
                                      refine x_bipush hx hb dL_areWalkersRight_316 (by decide) ?_
                                      refine x_isub hx hb dL_areWalkersRight_318 ?_
                                      refine x_iconst hx hb dL_areWalkersRight_319 ?_
                                      refine x_iconst hx hb dL_areWalkersRight_320 ?_
                                      refine x_cSW (As := [.ref (xad E37 0), .int (iZ 3), .int (iZ (be - 97)), .int (iZ 0), .int (iZ 0)]) (rest := [.ref (xad E37 g38), .int (iZ (Fa (aKp (kpT B) i)))]) hx hb hml hts hown hK hST hOK hH (c_L_ask_3 l E37 ST hSF hSX htr σ43 (be - 97) 0 0 B S Y fcw_0 (by omega)) (vx_cwSW 5 hts (goodIn_t gK_162) rfl rfl rfl (by decide +kernel) ⟨Nat.le_of_ble_eq_true rfl, Nat.le_of_ble_eq_true rfl⟩) rfl hl.1 rfl (Nat.le_of_ble_eq_true rfl) dL_areWalkersRight_321 ⟨by first | omega | (simp only [rm_L_areWalkersRight, rm_L_ask_12b, rm_L_ask_3, rm_L_ask_4, rm_L_ask_5b, rm_L_ask_7b, rm_L_ask_8b, rm_L_ask_9b, rm_L_lengths, rm_X6_walkerColumn0, rm_X6_walkerCount, rm_X6_walkerRow0]; omega), by first | omega | (simp only [rm_L_areWalkersRight, rm_L_ask_12b, rm_L_ask_3, rm_L_ask_4, rm_L_ask_5b, rm_L_ask_7b, rm_L_ask_8b, rm_L_ask_9b, rm_L_lengths, rm_X6_walkerColumn0, rm_X6_walkerCount, rm_X6_walkerRow0]; omega)⟩ (fun z92 σ93 H locs hp94 hH => ?_)
                                      obtain ⟨hq9, hu9⟩ := hp94
                                      subst hq9
                                      rw [hu9] at hH
                                      rw [hbb.2.1]
                                      refine x_iald hx hb hK hH g38 (by omega) fg38_0 (by omega) (by omega) (by omega) dL_areWalkersRight_324 ?_
                                      have hfb9 := hFa (kpT B (be - 97)) (by omega) (by omega)
                                      have hfb : (dz (Gw (opT B) (lkT B) (kpT B) w) (wcT B w) (kpT B (be - 97))) = (dz (Gw (opT B) (lkT B) (kpT B) w) (wcT B w) (kpT B (be - 97))) ∧ Fa (kpT B (be - 97)) = (dz (Gw (opT B) (lkT B) (kpT B) w) (wcT B w) (kpT B (be - 97))) := by
                                        rw [hfb9]
                                        rcases f99_c (d := (dz (Gw (opT B) (lkT B) (kpT B) w) (wcT B w) (kpT B (be - 97)))) with q | q
                                        · exact ⟨rfl, q.2⟩
                                        · exact absurd hbb.2.2.2 q.1
                                      have hfbr := dz_rg (G := (Gw (opT B) (lkT B) (kpT B) w)) (st := wcT B w) Gw_ok (hwc9 w) (kpT B (be - 97))
                                      refine x_icmp_gt (tgt := 332) hx hb dL_areWalkersRight_325 (by decide) (by omega) (by omega) (fun c325 => ?_) (fun c325 => ?_)
                                      · refine x_iconst hx hb dL_areWalkersRight_332 ?_
                                        refine lv_istore (lv' := [(12, .int (iZ 0)), (8, .int (iZ (ky + 0))), (11, .int (iZ (aKp (kpT B) i))), (10, .int (iZ i)), (9, .int (iZ be)), (7, .int (iZ rc)), (6, .ref (xad E37 g38)), (5, .int (iZ (wcT B w))), (4, .int (iZ w)), (3, .int (iZ 1)), (2, .int (iZ (nwT B))), (0, .ref (xad E37 0)), (1, .int (iZ to))]) hx hb dL_areWalkersRight_333 hl (by decide) rfl (fun ls hl => ?_)
                                        refine lv_iload hx hb dL_areWalkersRight_335 (lv_at hl 0 rfl) ?_
                                        refine x_if_eq (tgt := 348) hx hb dL_areWalkersRight_337 (by decide) (by decide) (fun c337 => ?_) (fun c337 => ?_)
                                        · refine lv_iload hx hb dL_areWalkersRight_348 (lv_at hl 4 rfl) ?_
                                          refine lv_istore (lv' := [(9, .int (iZ be)), (12, .int (iZ 0)), (8, .int (iZ (ky + 0))), (11, .int (iZ (aKp (kpT B) i))), (10, .int (iZ i)), (7, .int (iZ rc)), (6, .ref (xad E37 g38)), (5, .int (iZ (wcT B w))), (4, .int (iZ w)), (3, .int (iZ 1)), (2, .int (iZ (nwT B))), (0, .ref (xad E37 0)), (1, .int (iZ to))]) hx hb dL_areWalkersRight_350 hl (by decide) rfl (fun ls hl => ?_)
                                          refine x_iinc (lv' := [(10, .int (iZ (i + (-1)))), (9, .int (iZ be)), (12, .int (iZ 0)), (8, .int (iZ (ky + 0))), (11, .int (iZ (aKp (kpT B) i))), (7, .int (iZ rc)), (6, .ref (xad E37 g38)), (5, .int (iZ (wcT B w))), (4, .int (iZ w)), (3, .int (iZ 1)), (2, .int (iZ (nwT B))), (0, .ref (xad E37 0)), (1, .int (iZ to))]) hx hb dL_areWalkersRight_352 hl (k := 4) rfl (by decide) rfl (fun ls hl => ?_)
                                          refine lv_goto (tgt := 245) hx hb dL_areWalkersRight_355 (by decide) ?_
                                          exact W.widen (by first | omega | (simp only [rm_L_areWalkersRight, rm_L_ask_12b, rm_L_ask_3, rm_L_ask_4, rm_L_ask_5b, rm_L_ask_7b, rm_L_ask_8b, rm_L_ask_9b, rm_L_lengths, rm_X6_walkerColumn0, rm_X6_walkerCount, rm_X6_walkerRow0]; omega)) (by first | omega | (simp only [rm_L_areWalkersRight, rm_L_ask_12b, rm_L_ask_3, rm_L_ask_4, rm_L_ask_5b, rm_L_ask_7b, rm_L_ask_8b, rm_L_ask_9b, rm_L_lengths, rm_X6_walkerColumn0, rm_X6_walkerCount, rm_X6_walkerRow0]; omega)) (ih245 (i + (-1)) be (ky + 0) _ _ _ (by omega) (by omega) (by rw [show i + -1 = i - 1 by omega]; first | exact nbI_no hbe (aKp_n c287) | exact nbI_no hbe (fun q => by have := q.2; omega) | exact nbI_new hbe (by omega) ⟨⟨by omega, by omega⟩, by omega⟩ c302 | exact nbI_keep hbe (by omega) c302 (by omega) | exact nbI_less hbe (by omega) ⟨⟨by omega, by omega⟩, by omega⟩ c302 (by omega)) (by have hcs := cntK_s (f := kpT B) (x := 25 + w) (n := i) (by omega); rw [show i + -1 + 1 = i by omega]; first | (rw [if_pos ((aCa_eq (by omega)).mp c274)] at hcs; omega) | (rw [if_neg (fun q => c274 ((aCa_eq (by omega)).mpr q))] at hcs; omega)) (by omega)  hH (lv_sub hl [0, 1, 3, 5, 6, 7, 8, 9, 10, 11, 12] rfl))
                                        · exact absurd c337 (by decide)
                                      · refine x_iconst hx hb dL_areWalkersRight_328 ?_
                                        refine lv_goto (tgt := 333) hx hb dL_areWalkersRight_329 (by decide) ?_
                                        refine lv_istore (lv' := [(12, .int (iZ 1)), (8, .int (iZ (ky + 0))), (11, .int (iZ (aKp (kpT B) i))), (10, .int (iZ i)), (9, .int (iZ be)), (7, .int (iZ rc)), (6, .ref (xad E37 g38)), (5, .int (iZ (wcT B w))), (4, .int (iZ w)), (3, .int (iZ 1)), (2, .int (iZ (nwT B))), (0, .ref (xad E37 0)), (1, .int (iZ to))]) hx hb dL_areWalkersRight_333 hl (by decide) rfl (fun ls hl => ?_)
                                        refine lv_iload hx hb dL_areWalkersRight_335 (lv_at hl 0 rfl) ?_
                                        refine x_if_eq (tgt := 348) hx hb dL_areWalkersRight_337 (by decide) (by decide) (fun c337 => ?_) (fun c337 => ?_)
                                        · exact absurd c337 (by decide)
                                        · refine x_bipush hx hb dL_areWalkersRight_340 (by decide) ?_
                                          refine lv_iload hx hb dL_areWalkersRight_342 (lv_at hl 3 rfl) ?_
                                          refine x_iadd hx hb dL_areWalkersRight_344 ?_
                                          refine lv_goto (tgt := 350) hx hb dL_areWalkersRight_345 (by decide) ?_
                                          refine lv_istore (lv' := [(9, .int (iZ (97 + i))), (12, .int (iZ 1)), (8, .int (iZ (ky + 0))), (11, .int (iZ (aKp (kpT B) i))), (10, .int (iZ i)), (7, .int (iZ rc)), (6, .ref (xad E37 g38)), (5, .int (iZ (wcT B w))), (4, .int (iZ w)), (3, .int (iZ 1)), (2, .int (iZ (nwT B))), (0, .ref (xad E37 0)), (1, .int (iZ to))]) hx hb dL_areWalkersRight_350 hl (by decide) rfl (fun ls hl => ?_)
                                          refine x_iinc (lv' := [(10, .int (iZ (i + (-1)))), (9, .int (iZ (97 + i))), (12, .int (iZ 1)), (8, .int (iZ (ky + 0))), (11, .int (iZ (aKp (kpT B) i))), (7, .int (iZ rc)), (6, .ref (xad E37 g38)), (5, .int (iZ (wcT B w))), (4, .int (iZ w)), (3, .int (iZ 1)), (2, .int (iZ (nwT B))), (0, .ref (xad E37 0)), (1, .int (iZ to))]) hx hb dL_areWalkersRight_352 hl (k := 4) rfl (by decide) rfl (fun ls hl => ?_)
                                          refine lv_goto (tgt := 245) hx hb dL_areWalkersRight_355 (by decide) ?_
                                          exact W.widen (by first | omega | (simp only [rm_L_areWalkersRight, rm_L_ask_12b, rm_L_ask_3, rm_L_ask_4, rm_L_ask_5b, rm_L_ask_7b, rm_L_ask_8b, rm_L_ask_9b, rm_L_lengths, rm_X6_walkerColumn0, rm_X6_walkerCount, rm_X6_walkerRow0]; omega)) (by first | omega | (simp only [rm_L_areWalkersRight, rm_L_ask_12b, rm_L_ask_3, rm_L_ask_4, rm_L_ask_5b, rm_L_ask_7b, rm_L_ask_8b, rm_L_ask_9b, rm_L_lengths, rm_X6_walkerColumn0, rm_X6_walkerCount, rm_X6_walkerRow0]; omega)) (ih245 (i + (-1)) (97 + i) (ky + 0) _ _ _ (by omega) (by omega) (by rw [show i + -1 = i - 1 by omega]; first | exact nbI_no hbe (aKp_n c287) | exact nbI_no hbe (fun q => by have := q.2; omega) | exact nbI_new hbe (by omega) ⟨⟨by omega, by omega⟩, by omega⟩ c302 | exact nbI_keep hbe (by omega) c302 (by omega) | exact nbI_less hbe (by omega) ⟨⟨by omega, by omega⟩, by omega⟩ c302 (by omega)) (by have hcs := cntK_s (f := kpT B) (x := 25 + w) (n := i) (by omega); rw [show i + -1 + 1 = i by omega]; first | (rw [if_pos ((aCa_eq (by omega)).mp c274)] at hcs; omega) | (rw [if_neg (fun q => c274 ((aCa_eq (by omega)).mpr q))] at hcs; omega)) (by omega)  hH (lv_sub hl [0, 1, 3, 5, 6, 7, 8, 9, 10, 11, 12] rfl))
                              · refine x_iconst hx hb dL_areWalkersRight_277 ?_
                                refine lv_goto (tgt := 282) hx hb dL_areWalkersRight_278 (by decide) ?_
                                refine x_iadd hx hb dL_areWalkersRight_282 ?_
                                refine lv_istore (lv' := [(8, .int (iZ (ky + 1))), (11, .int (iZ (aKp (kpT B) i))), (10, .int (iZ i)), (9, .int (iZ be)), (7, .int (iZ rc)), (6, .ref (xad E37 g38)), (5, .int (iZ (wcT B w))), (4, .int (iZ w)), (3, .int (iZ 1)), (2, .int (iZ (nwT B))), (0, .ref (xad E37 0)), (1, .int (iZ to))]) hx hb dL_areWalkersRight_283 hl (by decide) rfl (fun ls hl => ?_)
                                refine lv_iload hx hb dL_areWalkersRight_285 (lv_at hl 1 rfl) ?_
                                refine x_if_lt (tgt := 332) hx hb dL_areWalkersRight_287 (by decide) (by omega) (fun c287 => ?_) (fun c287 => ?_)
                                · refine x_iconst hx hb dL_areWalkersRight_332 ?_
                                  refine lv_istore (lv' := [(12, .int (iZ 0)), (8, .int (iZ (ky + 1))), (11, .int (iZ (aKp (kpT B) i))), (10, .int (iZ i)), (9, .int (iZ be)), (7, .int (iZ rc)), (6, .ref (xad E37 g38)), (5, .int (iZ (wcT B w))), (4, .int (iZ w)), (3, .int (iZ 1)), (2, .int (iZ (nwT B))), (0, .ref (xad E37 0)), (1, .int (iZ to))]) hx hb dL_areWalkersRight_333 hl (by decide) rfl (fun ls hl => ?_)
                                  refine lv_iload hx hb dL_areWalkersRight_335 (lv_at hl 0 rfl) ?_
                                  refine x_if_eq (tgt := 348) hx hb dL_areWalkersRight_337 (by decide) (by decide) (fun c337 => ?_) (fun c337 => ?_)
                                  · refine lv_iload hx hb dL_areWalkersRight_348 (lv_at hl 4 rfl) ?_
                                    refine lv_istore (lv' := [(9, .int (iZ be)), (12, .int (iZ 0)), (8, .int (iZ (ky + 1))), (11, .int (iZ (aKp (kpT B) i))), (10, .int (iZ i)), (7, .int (iZ rc)), (6, .ref (xad E37 g38)), (5, .int (iZ (wcT B w))), (4, .int (iZ w)), (3, .int (iZ 1)), (2, .int (iZ (nwT B))), (0, .ref (xad E37 0)), (1, .int (iZ to))]) hx hb dL_areWalkersRight_350 hl (by decide) rfl (fun ls hl => ?_)
                                    refine x_iinc (lv' := [(10, .int (iZ (i + (-1)))), (9, .int (iZ be)), (12, .int (iZ 0)), (8, .int (iZ (ky + 1))), (11, .int (iZ (aKp (kpT B) i))), (7, .int (iZ rc)), (6, .ref (xad E37 g38)), (5, .int (iZ (wcT B w))), (4, .int (iZ w)), (3, .int (iZ 1)), (2, .int (iZ (nwT B))), (0, .ref (xad E37 0)), (1, .int (iZ to))]) hx hb dL_areWalkersRight_352 hl (k := 4) rfl (by decide) rfl (fun ls hl => ?_)
                                    refine lv_goto (tgt := 245) hx hb dL_areWalkersRight_355 (by decide) ?_
                                    exact W.widen (by first | omega | (simp only [rm_L_areWalkersRight, rm_L_ask_12b, rm_L_ask_3, rm_L_ask_4, rm_L_ask_5b, rm_L_ask_7b, rm_L_ask_8b, rm_L_ask_9b, rm_L_lengths, rm_X6_walkerColumn0, rm_X6_walkerCount, rm_X6_walkerRow0]; omega)) (by first | omega | (simp only [rm_L_areWalkersRight, rm_L_ask_12b, rm_L_ask_3, rm_L_ask_4, rm_L_ask_5b, rm_L_ask_7b, rm_L_ask_8b, rm_L_ask_9b, rm_L_lengths, rm_X6_walkerColumn0, rm_X6_walkerCount, rm_X6_walkerRow0]; omega)) (ih245 (i + (-1)) be (ky + 1) _ _ _ (by omega) (by omega) (by rw [show i + -1 = i - 1 by omega]; first | exact nbI_no hbe (aKp_n c287) | exact nbI_no hbe (fun q => by have := q.2; omega) | exact nbI_new hbe (by omega) ⟨⟨by omega, by omega⟩, by omega⟩ c302 | exact nbI_keep hbe (by omega) c302 (by omega) | exact nbI_less hbe (by omega) ⟨⟨by omega, by omega⟩, by omega⟩ c302 (by omega)) (by have hcs := cntK_s (f := kpT B) (x := 25 + w) (n := i) (by omega); rw [show i + -1 + 1 = i by omega]; first | (rw [if_pos ((aCa_eq (by omega)).mp c274)] at hcs; omega) | (rw [if_neg (fun q => c274 ((aCa_eq (by omega)).mpr q))] at hcs; omega)) (by omega)  hH (lv_sub hl [0, 1, 3, 5, 6, 7, 8, 9, 10, 11, 12] rfl))
                                  · exact absurd c337 (by decide)
                                · refine lv_aload hx hb dL_areWalkersRight_290 (lv_at hl 5 rfl) ?_
                                  refine lv_iload hx hb dL_areWalkersRight_292 (lv_at hl 1 rfl) ?_
                                  refine x_iald hx hb hK hH g38 (by omega) fg38_0 (by omega) (by omega) (by omega) dL_areWalkersRight_294 ?_
                                  refine x_bipush hx hb dL_areWalkersRight_295 (by decide) ?_
                                  have hkp9 := aKp_y c287
                                  have hnb8 := nbI_rg hbe (by omega)
                                  have hfp : ((dz (Gw (opT B) (lkT B) (kpT B) w) (wcT B w) (aKp (kpT B) i)) < 25 ∧ Fa (aKp (kpT B) i) = (dz (Gw (opT B) (lkT B) (kpT B) w) (wcT B w) (aKp (kpT B) i))) ∨ (¬ (dz (Gw (opT B) (lkT B) (kpT B) w) (wcT B w) (aKp (kpT B) i)) < 25 ∧ Fa (aKp (kpT B) i) = 99) := by
                                    rw [hFa (aKp (kpT B) i) (by omega) (by omega)]
                                    exact f99_c
                                  have hfpr := dz_rg (G := (Gw (opT B) (lkT B) (kpT B) w)) (st := wcT B w) Gw_ok (hwc9 w) (aKp (kpT B) i)
                                  rw [hkp9.1] at hfp hfpr
                                  have hkF : Fa (aKp (kpT B) i) = Fa (kpT B i) := (by rw [hkp9.1])
                                  refine x_icmp_ge (tgt := 332) hx hb dL_areWalkersRight_297 (by decide) (by omega) (by decide) (fun c297 => ?_) (fun c297 => ?_)
                                  · refine x_iconst hx hb dL_areWalkersRight_332 ?_
                                    refine lv_istore (lv' := [(12, .int (iZ 0)), (8, .int (iZ (ky + 1))), (11, .int (iZ (aKp (kpT B) i))), (10, .int (iZ i)), (9, .int (iZ be)), (7, .int (iZ rc)), (6, .ref (xad E37 g38)), (5, .int (iZ (wcT B w))), (4, .int (iZ w)), (3, .int (iZ 1)), (2, .int (iZ (nwT B))), (0, .ref (xad E37 0)), (1, .int (iZ to))]) hx hb dL_areWalkersRight_333 hl (by decide) rfl (fun ls hl => ?_)
                                    refine lv_iload hx hb dL_areWalkersRight_335 (lv_at hl 0 rfl) ?_
                                    refine x_if_eq (tgt := 348) hx hb dL_areWalkersRight_337 (by decide) (by decide) (fun c337 => ?_) (fun c337 => ?_)
                                    · refine lv_iload hx hb dL_areWalkersRight_348 (lv_at hl 4 rfl) ?_
                                      refine lv_istore (lv' := [(9, .int (iZ be)), (12, .int (iZ 0)), (8, .int (iZ (ky + 1))), (11, .int (iZ (aKp (kpT B) i))), (10, .int (iZ i)), (7, .int (iZ rc)), (6, .ref (xad E37 g38)), (5, .int (iZ (wcT B w))), (4, .int (iZ w)), (3, .int (iZ 1)), (2, .int (iZ (nwT B))), (0, .ref (xad E37 0)), (1, .int (iZ to))]) hx hb dL_areWalkersRight_350 hl (by decide) rfl (fun ls hl => ?_)
                                      refine x_iinc (lv' := [(10, .int (iZ (i + (-1)))), (9, .int (iZ be)), (12, .int (iZ 0)), (8, .int (iZ (ky + 1))), (11, .int (iZ (aKp (kpT B) i))), (7, .int (iZ rc)), (6, .ref (xad E37 g38)), (5, .int (iZ (wcT B w))), (4, .int (iZ w)), (3, .int (iZ 1)), (2, .int (iZ (nwT B))), (0, .ref (xad E37 0)), (1, .int (iZ to))]) hx hb dL_areWalkersRight_352 hl (k := 4) rfl (by decide) rfl (fun ls hl => ?_)
                                      refine lv_goto (tgt := 245) hx hb dL_areWalkersRight_355 (by decide) ?_
                                      exact W.widen (by first | omega | (simp only [rm_L_areWalkersRight, rm_L_ask_12b, rm_L_ask_3, rm_L_ask_4, rm_L_ask_5b, rm_L_ask_7b, rm_L_ask_8b, rm_L_ask_9b, rm_L_lengths, rm_X6_walkerColumn0, rm_X6_walkerCount, rm_X6_walkerRow0]; omega)) (by first | omega | (simp only [rm_L_areWalkersRight, rm_L_ask_12b, rm_L_ask_3, rm_L_ask_4, rm_L_ask_5b, rm_L_ask_7b, rm_L_ask_8b, rm_L_ask_9b, rm_L_lengths, rm_X6_walkerColumn0, rm_X6_walkerCount, rm_X6_walkerRow0]; omega)) (ih245 (i + (-1)) be (ky + 1) _ _ _ (by omega) (by omega) (by rw [show i + -1 = i - 1 by omega]; first | exact nbI_no hbe (aKp_n c287) | exact nbI_no hbe (fun q => by have := q.2; omega) | exact nbI_new hbe (by omega) ⟨⟨by omega, by omega⟩, by omega⟩ c302 | exact nbI_keep hbe (by omega) c302 (by omega) | exact nbI_less hbe (by omega) ⟨⟨by omega, by omega⟩, by omega⟩ c302 (by omega)) (by have hcs := cntK_s (f := kpT B) (x := 25 + w) (n := i) (by omega); rw [show i + -1 + 1 = i by omega]; first | (rw [if_pos ((aCa_eq (by omega)).mp c274)] at hcs; omega) | (rw [if_neg (fun q => c274 ((aCa_eq (by omega)).mpr q))] at hcs; omega)) (by omega)  hH (lv_sub hl [0, 1, 3, 5, 6, 7, 8, 9, 10, 11, 12] rfl))
                                    · exact absurd c337 (by decide)
                                  · refine lv_iload hx hb dL_areWalkersRight_300 (lv_at hl 3 rfl) ?_
                                    refine x_if_lt (tgt := 328) hx hb dL_areWalkersRight_302 (by decide) (by omega) (fun c302 => ?_) (fun c302 => ?_)
                                    · refine x_iconst hx hb dL_areWalkersRight_328 ?_
                                      refine lv_goto (tgt := 333) hx hb dL_areWalkersRight_329 (by decide) ?_
                                      refine lv_istore (lv' := [(12, .int (iZ 1)), (8, .int (iZ (ky + 1))), (11, .int (iZ (aKp (kpT B) i))), (10, .int (iZ i)), (9, .int (iZ be)), (7, .int (iZ rc)), (6, .ref (xad E37 g38)), (5, .int (iZ (wcT B w))), (4, .int (iZ w)), (3, .int (iZ 1)), (2, .int (iZ (nwT B))), (0, .ref (xad E37 0)), (1, .int (iZ to))]) hx hb dL_areWalkersRight_333 hl (by decide) rfl (fun ls hl => ?_)
                                      refine lv_iload hx hb dL_areWalkersRight_335 (lv_at hl 0 rfl) ?_
                                      refine x_if_eq (tgt := 348) hx hb dL_areWalkersRight_337 (by decide) (by decide) (fun c337 => ?_) (fun c337 => ?_)
                                      · exact absurd c337 (by decide)
                                      · refine x_bipush hx hb dL_areWalkersRight_340 (by decide) ?_
                                        refine lv_iload hx hb dL_areWalkersRight_342 (lv_at hl 3 rfl) ?_
                                        refine x_iadd hx hb dL_areWalkersRight_344 ?_
                                        refine lv_goto (tgt := 350) hx hb dL_areWalkersRight_345 (by decide) ?_
                                        refine lv_istore (lv' := [(9, .int (iZ (97 + i))), (12, .int (iZ 1)), (8, .int (iZ (ky + 1))), (11, .int (iZ (aKp (kpT B) i))), (10, .int (iZ i)), (7, .int (iZ rc)), (6, .ref (xad E37 g38)), (5, .int (iZ (wcT B w))), (4, .int (iZ w)), (3, .int (iZ 1)), (2, .int (iZ (nwT B))), (0, .ref (xad E37 0)), (1, .int (iZ to))]) hx hb dL_areWalkersRight_350 hl (by decide) rfl (fun ls hl => ?_)
                                        refine x_iinc (lv' := [(10, .int (iZ (i + (-1)))), (9, .int (iZ (97 + i))), (12, .int (iZ 1)), (8, .int (iZ (ky + 1))), (11, .int (iZ (aKp (kpT B) i))), (7, .int (iZ rc)), (6, .ref (xad E37 g38)), (5, .int (iZ (wcT B w))), (4, .int (iZ w)), (3, .int (iZ 1)), (2, .int (iZ (nwT B))), (0, .ref (xad E37 0)), (1, .int (iZ to))]) hx hb dL_areWalkersRight_352 hl (k := 4) rfl (by decide) rfl (fun ls hl => ?_)
                                        refine lv_goto (tgt := 245) hx hb dL_areWalkersRight_355 (by decide) ?_
                                        exact W.widen (by first | omega | (simp only [rm_L_areWalkersRight, rm_L_ask_12b, rm_L_ask_3, rm_L_ask_4, rm_L_ask_5b, rm_L_ask_7b, rm_L_ask_8b, rm_L_ask_9b, rm_L_lengths, rm_X6_walkerColumn0, rm_X6_walkerCount, rm_X6_walkerRow0]; omega)) (by first | omega | (simp only [rm_L_areWalkersRight, rm_L_ask_12b, rm_L_ask_3, rm_L_ask_4, rm_L_ask_5b, rm_L_ask_7b, rm_L_ask_8b, rm_L_ask_9b, rm_L_lengths, rm_X6_walkerColumn0, rm_X6_walkerCount, rm_X6_walkerRow0]; omega)) (ih245 (i + (-1)) (97 + i) (ky + 1) _ _ _ (by omega) (by omega) (by rw [show i + -1 = i - 1 by omega]; first | exact nbI_no hbe (aKp_n c287) | exact nbI_no hbe (fun q => by have := q.2; omega) | exact nbI_new hbe (by omega) ⟨⟨by omega, by omega⟩, by omega⟩ c302 | exact nbI_keep hbe (by omega) c302 (by omega) | exact nbI_less hbe (by omega) ⟨⟨by omega, by omega⟩, by omega⟩ c302 (by omega)) (by have hcs := cntK_s (f := kpT B) (x := 25 + w) (n := i) (by omega); rw [show i + -1 + 1 = i by omega]; first | (rw [if_pos ((aCa_eq (by omega)).mp c274)] at hcs; omega) | (rw [if_neg (fun q => c274 ((aCa_eq (by omega)).mpr q))] at hcs; omega)) (by omega)  hH (lv_sub hl [0, 1, 3, 5, 6, 7, 8, 9, 10, 11, 12] rfl))
                                    · refine lv_aload hx hb dL_areWalkersRight_305 (lv_at hl 5 rfl) ?_
                                      refine lv_iload hx hb dL_areWalkersRight_307 (lv_at hl 1 rfl) ?_
                                      refine x_iald hx hb hK hH g38 (by omega) fg38_0 (by omega) (by omega) (by omega) dL_areWalkersRight_309 ?_
                                      refine lv_aload hx hb dL_areWalkersRight_310 (lv_at hl 5 rfl) ?_
                                      refine lv_aload_n hx hb dL_areWalkersRight_312 rfl (lv_at hl 10 rfl) ?_
                                      refine x_iconst hx hb dL_areWalkersRight_313 ?_
                                      have hbb := nbI_b hbe (by omega) c302
                                      refine lv_iload hx hb dL_areWalkersRight_314 (lv_at hl 3 rfl) ?_
                                      refine x_bipush hx hb dL_areWalkersRight_316 (by decide) ?_
                                      refine x_isub hx hb dL_areWalkersRight_318 ?_
                                      refine x_iconst hx hb dL_areWalkersRight_319 ?_
                                      refine x_iconst hx hb dL_areWalkersRight_320 ?_
                                      refine x_cSW (As := [.ref (xad E37 0), .int (iZ 3), .int (iZ (be - 97)), .int (iZ 0), .int (iZ 0)]) (rest := [.ref (xad E37 g38), .int (iZ (Fa (aKp (kpT B) i)))]) hx hb hml hts hown hK hST hOK hH (c_L_ask_3 l E37 ST hSF hSX htr σ43 (be - 97) 0 0 B S Y fcw_0 (by omega)) (vx_cwSW 5 hts (goodIn_t gK_162) rfl rfl rfl (by decide +kernel) ⟨Nat.le_of_ble_eq_true rfl, Nat.le_of_ble_eq_true rfl⟩) rfl hl.1 rfl (Nat.le_of_ble_eq_true rfl) dL_areWalkersRight_321 ⟨by first | omega | (simp only [rm_L_areWalkersRight, rm_L_ask_12b, rm_L_ask_3, rm_L_ask_4, rm_L_ask_5b, rm_L_ask_7b, rm_L_ask_8b, rm_L_ask_9b, rm_L_lengths, rm_X6_walkerColumn0, rm_X6_walkerCount, rm_X6_walkerRow0]; omega), by first | omega | (simp only [rm_L_areWalkersRight, rm_L_ask_12b, rm_L_ask_3, rm_L_ask_4, rm_L_ask_5b, rm_L_ask_7b, rm_L_ask_8b, rm_L_ask_9b, rm_L_lengths, rm_X6_walkerColumn0, rm_X6_walkerCount, rm_X6_walkerRow0]; omega)⟩ (fun z95 σ96 H locs hp97 hH => ?_)
                                      obtain ⟨hq9, hu9⟩ := hp97
                                      subst hq9
                                      rw [hu9] at hH
                                      rw [hbb.2.1]
                                      refine x_iald hx hb hK hH g38 (by omega) fg38_0 (by omega) (by omega) (by omega) dL_areWalkersRight_324 ?_
                                      have hfb9 := hFa (kpT B (be - 97)) (by omega) (by omega)
                                      have hfb : (dz (Gw (opT B) (lkT B) (kpT B) w) (wcT B w) (kpT B (be - 97))) = (dz (Gw (opT B) (lkT B) (kpT B) w) (wcT B w) (kpT B (be - 97))) ∧ Fa (kpT B (be - 97)) = (dz (Gw (opT B) (lkT B) (kpT B) w) (wcT B w) (kpT B (be - 97))) := by
                                        rw [hfb9]
                                        rcases f99_c (d := (dz (Gw (opT B) (lkT B) (kpT B) w) (wcT B w) (kpT B (be - 97)))) with q | q
                                        · exact ⟨rfl, q.2⟩
                                        · exact absurd hbb.2.2.2 q.1
                                      have hfbr := dz_rg (G := (Gw (opT B) (lkT B) (kpT B) w)) (st := wcT B w) Gw_ok (hwc9 w) (kpT B (be - 97))
                                      refine x_icmp_gt (tgt := 332) hx hb dL_areWalkersRight_325 (by decide) (by omega) (by omega) (fun c325 => ?_) (fun c325 => ?_)
                                      · refine x_iconst hx hb dL_areWalkersRight_332 ?_
                                        refine lv_istore (lv' := [(12, .int (iZ 0)), (8, .int (iZ (ky + 1))), (11, .int (iZ (aKp (kpT B) i))), (10, .int (iZ i)), (9, .int (iZ be)), (7, .int (iZ rc)), (6, .ref (xad E37 g38)), (5, .int (iZ (wcT B w))), (4, .int (iZ w)), (3, .int (iZ 1)), (2, .int (iZ (nwT B))), (0, .ref (xad E37 0)), (1, .int (iZ to))]) hx hb dL_areWalkersRight_333 hl (by decide) rfl (fun ls hl => ?_)
                                        refine lv_iload hx hb dL_areWalkersRight_335 (lv_at hl 0 rfl) ?_
                                        refine x_if_eq (tgt := 348) hx hb dL_areWalkersRight_337 (by decide) (by decide) (fun c337 => ?_) (fun c337 => ?_)
                                        · refine lv_iload hx hb dL_areWalkersRight_348 (lv_at hl 4 rfl) ?_
                                          refine lv_istore (lv' := [(9, .int (iZ be)), (12, .int (iZ 0)), (8, .int (iZ (ky + 1))), (11, .int (iZ (aKp (kpT B) i))), (10, .int (iZ i)), (7, .int (iZ rc)), (6, .ref (xad E37 g38)), (5, .int (iZ (wcT B w))), (4, .int (iZ w)), (3, .int (iZ 1)), (2, .int (iZ (nwT B))), (0, .ref (xad E37 0)), (1, .int (iZ to))]) hx hb dL_areWalkersRight_350 hl (by decide) rfl (fun ls hl => ?_)
                                          refine x_iinc (lv' := [(10, .int (iZ (i + (-1)))), (9, .int (iZ be)), (12, .int (iZ 0)), (8, .int (iZ (ky + 1))), (11, .int (iZ (aKp (kpT B) i))), (7, .int (iZ rc)), (6, .ref (xad E37 g38)), (5, .int (iZ (wcT B w))), (4, .int (iZ w)), (3, .int (iZ 1)), (2, .int (iZ (nwT B))), (0, .ref (xad E37 0)), (1, .int (iZ to))]) hx hb dL_areWalkersRight_352 hl (k := 4) rfl (by decide) rfl (fun ls hl => ?_)
                                          refine lv_goto (tgt := 245) hx hb dL_areWalkersRight_355 (by decide) ?_
                                          exact W.widen (by first | omega | (simp only [rm_L_areWalkersRight, rm_L_ask_12b, rm_L_ask_3, rm_L_ask_4, rm_L_ask_5b, rm_L_ask_7b, rm_L_ask_8b, rm_L_ask_9b, rm_L_lengths, rm_X6_walkerColumn0, rm_X6_walkerCount, rm_X6_walkerRow0]; omega)) (by first | omega | (simp only [rm_L_areWalkersRight, rm_L_ask_12b, rm_L_ask_3, rm_L_ask_4, rm_L_ask_5b, rm_L_ask_7b, rm_L_ask_8b, rm_L_ask_9b, rm_L_lengths, rm_X6_walkerColumn0, rm_X6_walkerCount, rm_X6_walkerRow0]; omega)) (ih245 (i + (-1)) be (ky + 1) _ _ _ (by omega) (by omega) (by rw [show i + -1 = i - 1 by omega]; first | exact nbI_no hbe (aKp_n c287) | exact nbI_no hbe (fun q => by have := q.2; omega) | exact nbI_new hbe (by omega) ⟨⟨by omega, by omega⟩, by omega⟩ c302 | exact nbI_keep hbe (by omega) c302 (by omega) | exact nbI_less hbe (by omega) ⟨⟨by omega, by omega⟩, by omega⟩ c302 (by omega)) (by have hcs := cntK_s (f := kpT B) (x := 25 + w) (n := i) (by omega); rw [show i + -1 + 1 = i by omega]; first | (rw [if_pos ((aCa_eq (by omega)).mp c274)] at hcs; omega) | (rw [if_neg (fun q => c274 ((aCa_eq (by omega)).mpr q))] at hcs; omega)) (by omega)  hH (lv_sub hl [0, 1, 3, 5, 6, 7, 8, 9, 10, 11, 12] rfl))
                                        · exact absurd c337 (by decide)
                                      · refine x_iconst hx hb dL_areWalkersRight_328 ?_
                                        refine lv_goto (tgt := 333) hx hb dL_areWalkersRight_329 (by decide) ?_
                                        refine lv_istore (lv' := [(12, .int (iZ 1)), (8, .int (iZ (ky + 1))), (11, .int (iZ (aKp (kpT B) i))), (10, .int (iZ i)), (9, .int (iZ be)), (7, .int (iZ rc)), (6, .ref (xad E37 g38)), (5, .int (iZ (wcT B w))), (4, .int (iZ w)), (3, .int (iZ 1)), (2, .int (iZ (nwT B))), (0, .ref (xad E37 0)), (1, .int (iZ to))]) hx hb dL_areWalkersRight_333 hl (by decide) rfl (fun ls hl => ?_)
                                        refine lv_iload hx hb dL_areWalkersRight_335 (lv_at hl 0 rfl) ?_
                                        refine x_if_eq (tgt := 348) hx hb dL_areWalkersRight_337 (by decide) (by decide) (fun c337 => ?_) (fun c337 => ?_)
                                        · exact absurd c337 (by decide)
                                        · refine x_bipush hx hb dL_areWalkersRight_340 (by decide) ?_
                                          refine lv_iload hx hb dL_areWalkersRight_342 (lv_at hl 3 rfl) ?_
                                          refine x_iadd hx hb dL_areWalkersRight_344 ?_
                                          refine lv_goto (tgt := 350) hx hb dL_areWalkersRight_345 (by decide) ?_
                                          refine lv_istore (lv' := [(9, .int (iZ (97 + i))), (12, .int (iZ 1)), (8, .int (iZ (ky + 1))), (11, .int (iZ (aKp (kpT B) i))), (10, .int (iZ i)), (7, .int (iZ rc)), (6, .ref (xad E37 g38)), (5, .int (iZ (wcT B w))), (4, .int (iZ w)), (3, .int (iZ 1)), (2, .int (iZ (nwT B))), (0, .ref (xad E37 0)), (1, .int (iZ to))]) hx hb dL_areWalkersRight_350 hl (by decide) rfl (fun ls hl => ?_)
                                          refine x_iinc (lv' := [(10, .int (iZ (i + (-1)))), (9, .int (iZ (97 + i))), (12, .int (iZ 1)), (8, .int (iZ (ky + 1))), (11, .int (iZ (aKp (kpT B) i))), (7, .int (iZ rc)), (6, .ref (xad E37 g38)), (5, .int (iZ (wcT B w))), (4, .int (iZ w)), (3, .int (iZ 1)), (2, .int (iZ (nwT B))), (0, .ref (xad E37 0)), (1, .int (iZ to))]) hx hb dL_areWalkersRight_352 hl (k := 4) rfl (by decide) rfl (fun ls hl => ?_)
                                          refine lv_goto (tgt := 245) hx hb dL_areWalkersRight_355 (by decide) ?_
                                          exact W.widen (by first | omega | (simp only [rm_L_areWalkersRight, rm_L_ask_12b, rm_L_ask_3, rm_L_ask_4, rm_L_ask_5b, rm_L_ask_7b, rm_L_ask_8b, rm_L_ask_9b, rm_L_lengths, rm_X6_walkerColumn0, rm_X6_walkerCount, rm_X6_walkerRow0]; omega)) (by first | omega | (simp only [rm_L_areWalkersRight, rm_L_ask_12b, rm_L_ask_3, rm_L_ask_4, rm_L_ask_5b, rm_L_ask_7b, rm_L_ask_8b, rm_L_ask_9b, rm_L_lengths, rm_X6_walkerColumn0, rm_X6_walkerCount, rm_X6_walkerRow0]; omega)) (ih245 (i + (-1)) (97 + i) (ky + 1) _ _ _ (by omega) (by omega) (by rw [show i + -1 = i - 1 by omega]; first | exact nbI_no hbe (aKp_n c287) | exact nbI_no hbe (fun q => by have := q.2; omega) | exact nbI_new hbe (by omega) ⟨⟨by omega, by omega⟩, by omega⟩ c302 | exact nbI_keep hbe (by omega) c302 (by omega) | exact nbI_less hbe (by omega) ⟨⟨by omega, by omega⟩, by omega⟩ c302 (by omega)) (by have hcs := cntK_s (f := kpT B) (x := 25 + w) (n := i) (by omega); rw [show i + -1 + 1 = i by omega]; first | (rw [if_pos ((aCa_eq (by omega)).mp c274)] at hcs; omega) | (rw [if_neg (fun q => c274 ((aCa_eq (by omega)).mpr q))] at hcs; omega)) (by omega)  hH (lv_sub hl [0, 1, 3, 5, 6, 7, 8, 9, 10, 11, 12] rfl))
                        exact W.widen (by first | omega | (simp only [rm_L_areWalkersRight, rm_L_ask_12b, rm_L_ask_5b, rm_L_ask_7b, rm_L_ask_8b, rm_L_ask_9b, rm_L_lengths, rm_X6_walkerColumn0, rm_X6_walkerCount, rm_X6_walkerRow0]; omega)) (by first | omega | (simp only [rm_L_areWalkersRight, rm_L_ask_12b, rm_L_ask_5b, rm_L_ask_7b, rm_L_ask_8b, rm_L_ask_9b, rm_L_lengths, rm_X6_walkerColumn0, rm_X6_walkerCount, rm_X6_walkerRow0]; omega)) (K245 7 5 (-2004) 0 _ _ _ (by first | omega | decide) (by omega) (by exact nbI_0) (by rw [show (5 : Int) + 1 = 6 by omega]; omega) (by omega)  hH (lv_sub hl [0, 1, 2, 3, 4, 5, 6, 7, 8, 9, 10] rfl))
                      · refine lv_aload hx hb dL_areWalkersRight_137 (lv_at hl 3 rfl) ?_
                        refine lv_iload hx hb dL_areWalkersRight_139 (lv_at hl 0 rfl) ?_
                        refine x_iald hx hb hK hH g38 (by omega) fg38_0 (by omega) (by omega) (by omega) dL_areWalkersRight_141 ?_
                        refine x_bipush hx hb dL_areWalkersRight_142 (by decide) ?_
                        have hfx : ((dz (Gw (opT B) (lkT B) (kpT B) w) (wcT B w) k) < 25 ∧ Fa k = (dz (Gw (opT B) (lkT B) (kpT B) w) (wcT B w) k)) ∨ (¬ (dz (Gw (opT B) (lkT B) (kpT B) w) (wcT B w) k) < 25 ∧ Fa k = 99) := by
                          rw [hFa k (by omega) (by omega)]
                          exact f99_c
                        have hfxr := dz_rg (G := (Gw (opT B) (lkT B) (kpT B) w)) (st := wcT B w) Gw_ok (hwc9 w) k
                        refine x_icmp_ne (tgt := 153) hx hb dL_areWalkersRight_144 (by decide) (by omega) (by decide) (fun c144 => ?_) (fun c144 => ?_)
                        · refine lv_aload hx hb dL_areWalkersRight_153 (lv_at hl 3 rfl) ?_
                          refine lv_iload hx hb dL_areWalkersRight_155 (lv_at hl 0 rfl) ?_
                          refine x_iald hx hb hK hH g38 (by omega) fg38_0 (by omega) (by omega) (by omega) dL_areWalkersRight_157 ?_
                          refine lv_istore (lv' := [(10, .int (iZ (Fa k))), (9, .int (iZ k)), (8, .int (iZ 0)), (7, .int (iZ rc)), (6, .ref (xad E37 g38)), (5, .int (iZ (wcT B w))), (4, .int (iZ w)), (3, .int (iZ 1)), (2, .int (iZ (nwT B))), (0, .ref (xad E37 0)), (1, .int (iZ to))]) hx hb dL_areWalkersRight_158 hl (by decide) rfl (fun ls hl => ?_)
                          skip
                          refine lv_iload hx hb dL_areWalkersRight_160 (lv_at hl 3 rfl) ?_
                          refine lv_aload hx hb dL_areWalkersRight_162 (lv_at hl 4 rfl) ?_
                          refine lv_iload hx hb dL_areWalkersRight_164 (lv_at hl 1 rfl) ?_
                          refine x_iald hx hb hK hH g38 (by omega) fg38_0 (by omega) (by omega) (by omega) dL_areWalkersRight_166 ?_
                          refine x_bipush hx hb dL_areWalkersRight_167 (by decide) ?_
                          refine x_icmp_ne (tgt := 176) hx hb dL_areWalkersRight_169 (by decide) (by omega) (by decide) (fun c169 => ?_) (fun c169 => ?_)
                          · refine x_iconst hx hb dL_areWalkersRight_176 ?_
                            refine x_iadd hx hb dL_areWalkersRight_177 ?_
                            refine lv_istore (lv' := [(7, .int (iZ (rc + 1))), (10, .int (iZ (Fa k))), (9, .int (iZ k)), (8, .int (iZ 0)), (6, .ref (xad E37 g38)), (5, .int (iZ (wcT B w))), (4, .int (iZ w)), (3, .int (iZ 1)), (2, .int (iZ (nwT B))), (0, .ref (xad E37 0)), (1, .int (iZ to))]) hx hb dL_areWalkersRight_178 hl (by decide) rfl (fun ls hl => ?_)
                            refine lv_iload_n hx hb dL_areWalkersRight_180 rfl (lv_at hl 7 rfl) ?_
                            refine x_if_eq (tgt := 229) hx hb dL_areWalkersRight_181 (by decide) (by decide) (fun c181 => ?_) (fun c181 => ?_)
                            · exact absurd c181 (by decide)
                            · refine lv_aload_n hx hb dL_areWalkersRight_184 rfl (lv_at hl 9 rfl) ?_
                              refine x_iconst hx hb dL_areWalkersRight_185 ?_
                              refine lv_iload hx hb dL_areWalkersRight_186 (lv_at hl 2 rfl) ?_
                              refine x_iconst hx hb dL_areWalkersRight_188 ?_
                              refine x_idiv hx hb dL_areWalkersRight_189 (by omega) (by omega) (by omega) (by omega) ?_
                              refine lv_iload hx hb dL_areWalkersRight_190 (lv_at hl 2 rfl) ?_
                              refine x_iconst hx hb dL_areWalkersRight_192 ?_
                              refine x_irem hx hb dL_areWalkersRight_193 (by omega) (by omega) (by omega) (by omega) ?_
                              refine lv_iload hx hb dL_areWalkersRight_194 (lv_at hl 6 rfl) ?_
                              refine x_cSW (As := [.ref (xad E37 0), .int (iZ 5), .int (iZ (k / 5)), .int (iZ (k % 5)), .int (iZ w)]) (rest := []) hx hb hml hts hown hK hST hOK hH (c_L_ask_5 l E37 ST hSF hSX htr σ43 (k / 5) (k % 5) w B S Y fcw_0 (by omega) (by omega)) (vx_cwSW 5 hts (goodIn_t gK_162) rfl rfl rfl (by decide +kernel) ⟨Nat.le_of_ble_eq_true rfl, Nat.le_of_ble_eq_true rfl⟩) rfl hl.1 rfl (Nat.le_of_ble_eq_true rfl) dL_areWalkersRight_196 ⟨by first | omega | (simp only [rm_L_areWalkersRight, rm_L_ask_12b, rm_L_ask_5, rm_L_ask_5b, rm_L_ask_7b, rm_L_ask_8b, rm_L_ask_9b, rm_L_lengths, rm_X6_walkerColumn0, rm_X6_walkerCount, rm_X6_walkerRow0]; omega), by first | omega | (simp only [rm_L_areWalkersRight, rm_L_ask_12b, rm_L_ask_5, rm_L_ask_5b, rm_L_ask_7b, rm_L_ask_8b, rm_L_ask_9b, rm_L_lengths, rm_X6_walkerColumn0, rm_X6_walkerCount, rm_X6_walkerRow0]; omega)⟩ (fun z98 σ99 H locs hp100 hH => ?_)
                              obtain ⟨hq9, hp100⟩ := hp100
                              subst hq9
                              obtain ⟨fcw_0, fr101⟩ := hp100
                              have fg38_0 : σ99 g38 = aI E37 25 Fa := (fr101 g38 (by omega)).trans fg38_0
                              rw [show k / 5 * 5 + k % 5 = k by omega]
                              have hdz9 := aDz_rg (dz_rg (G := (Gw (opT B) (lkT B) (kpT B) w)) (st := wcT B w) Gw_ok (hwc9 w) k)
                              refine lv_iload hx hb dL_areWalkersRight_199 (lv_at hl 1 rfl) ?_
                              refine x_icmp_ne (tgt := 229) hx hb dL_areWalkersRight_201 (by decide) (by omega) (by omega) (fun c201 => ?_) (fun c201 => ?_)
                              · exfalso; apply c201; unfold aDz; split <;> omega
                              · refine lv_aload_n hx hb dL_areWalkersRight_204 rfl (lv_at hl 9 rfl) ?_
                                refine x_bipush hx hb dL_areWalkersRight_205 (by decide) ?_
                                refine lv_iload hx hb dL_areWalkersRight_207 (lv_at hl 2 rfl) ?_
                                refine x_iconst hx hb dL_areWalkersRight_209 ?_
                                refine x_idiv hx hb dL_areWalkersRight_210 (by omega) (by omega) (by omega) (by omega) ?_
                                refine lv_iload hx hb dL_areWalkersRight_211 (lv_at hl 2 rfl) ?_
                                refine x_iconst hx hb dL_areWalkersRight_213 ?_
                                refine x_irem hx hb dL_areWalkersRight_214 (by omega) (by omega) (by omega) (by omega) ?_
                                refine lv_iload hx hb dL_areWalkersRight_215 (lv_at hl 6 rfl) ?_
                                refine x_cSW (As := [.ref (xad E37 0), .int (iZ 6), .int (iZ (k / 5)), .int (iZ (k % 5)), .int (iZ w)]) (rest := []) hx hb hml hts hown hK hST hOK hH (c_L_ask_6 l E37 ST hSF hSX htr σ99 (k / 5) (k % 5) w B S Y fcw_0 (by omega) (by omega)) (vx_cwSW 5 hts (goodIn_t gK_162) rfl rfl rfl (by decide +kernel) ⟨Nat.le_of_ble_eq_true rfl, Nat.le_of_ble_eq_true rfl⟩) rfl hl.1 rfl (Nat.le_of_ble_eq_true rfl) dL_areWalkersRight_217 ⟨by first | omega | (simp only [rm_L_areWalkersRight, rm_L_ask_12b, rm_L_ask_5, rm_L_ask_5b, rm_L_ask_6, rm_L_ask_7b, rm_L_ask_8b, rm_L_ask_9b, rm_L_lengths, rm_X6_walkerColumn0, rm_X6_walkerCount, rm_X6_walkerRow0]; omega), by first | omega | (simp only [rm_L_areWalkersRight, rm_L_ask_12b, rm_L_ask_5, rm_L_ask_5b, rm_L_ask_6, rm_L_ask_7b, rm_L_ask_8b, rm_L_ask_9b, rm_L_lengths, rm_X6_walkerColumn0, rm_X6_walkerCount, rm_X6_walkerRow0]; omega)⟩ (fun z103 σ104 H locs hp105 hH => ?_)
                                obtain ⟨hq9, hp105⟩ := hp105
                                subst hq9
                                obtain ⟨fcw_0, fr106⟩ := hp105
                                have fg38_0 : σ104 g38 = aI E37 25 Fa := (fr106 g38 (by omega)).trans fg38_0
                                rw [show k / 5 * 5 + k % 5 = k by omega]
                                have hdz9 := aDz_rg (dz_rg (G := (Gw (opT B) (lkT B) (kpT B) w)) (st := wcT B w) Gw_ok (hwc9 w) k)
                                refine lv_iload hx hb dL_areWalkersRight_220 (lv_at hl 1 rfl) ?_
                                refine x_icmp_ne (tgt := 229) hx hb dL_areWalkersRight_222 (by decide) (by omega) (by omega) (fun c222 => ?_) (fun c222 => ?_)
                                · exfalso; apply c222; unfold aDz; split <;> omega
                                · refine x_iconst hx hb dL_areWalkersRight_225 ?_
                                  refine lv_goto (tgt := 230) hx hb dL_areWalkersRight_226 (by decide) ?_
                                  refine lv_istore_n (lv' := [(3, .int (iZ 1)), (7, .int (iZ (rc + 1))), (10, .int (iZ (Fa k))), (9, .int (iZ k)), (8, .int (iZ 0)), (6, .ref (xad E37 g38)), (5, .int (iZ (wcT B w))), (4, .int (iZ w)), (2, .int (iZ (nwT B))), (0, .ref (xad E37 0)), (1, .int (iZ to))]) hx hb dL_areWalkersRight_230 rfl hl (by decide) rfl (fun ls hl => ?_)
                                  refine x_iinc (lv' := [(9, .int (iZ (k + 1))), (3, .int (iZ 1)), (7, .int (iZ (rc + 1))), (10, .int (iZ (Fa k))), (8, .int (iZ 0)), (6, .ref (xad E37 g38)), (5, .int (iZ (wcT B w))), (4, .int (iZ w)), (2, .int (iZ (nwT B))), (0, .ref (xad E37 0)), (1, .int (iZ to))]) hx hb dL_areWalkersRight_231 hl (k := 3) rfl (by decide) rfl (fun ls hl => ?_)
                                  refine lv_goto (tgt := 130) hx hb dL_areWalkersRight_234 (by decide) ?_
                                  exact W.widen (by first | omega | (simp only [rm_L_areWalkersRight, rm_L_ask_12b, rm_L_ask_5, rm_L_ask_5b, rm_L_ask_6, rm_L_ask_7b, rm_L_ask_8b, rm_L_ask_9b, rm_L_lengths, rm_X6_walkerColumn0, rm_X6_walkerCount, rm_X6_walkerRow0]; omega)) (by first | omega | (simp only [rm_L_areWalkersRight, rm_L_ask_12b, rm_L_ask_5, rm_L_ask_5b, rm_L_ask_6, rm_L_ask_7b, rm_L_ask_8b, rm_L_ask_9b, rm_L_lengths, rm_X6_walkerColumn0, rm_X6_walkerCount, rm_X6_walkerRow0]; omega)) (ih130 (rc + 1) (k + 1) σ104 _ _ _ (by omega) (by omega) (by rw [cnbK_s (by omega), ← hrc]; first | (rw [decide_eq_true (show dz (Gw (opT B) (lkT B) (kpT B) w) (wcT B w) k < 25 by omega)]; rfl) | (rw [decide_eq_false (show ¬ dz (Gw (opT B) (lkT B) (kpT B) w) (wcT B w) k < 25 by omega)]; rfl)) (by omega) fcw_0 fg38_0 (fun j hj0 => ((fr106 j (by omega)).trans ((fr101 j (by omega)).trans (fr44 j (by omega))))) hH (lv_sub hl [0, 4, 2, 5, 6, 7, 1, 8, 9, 10] rfl))
                          · refine x_iconst hx hb dL_areWalkersRight_172 ?_
                            refine lv_goto (tgt := 177) hx hb dL_areWalkersRight_173 (by decide) ?_
                            refine x_iadd hx hb dL_areWalkersRight_177 ?_
                            refine lv_istore (lv' := [(7, .int (iZ (rc + 0))), (10, .int (iZ (Fa k))), (9, .int (iZ k)), (8, .int (iZ 0)), (6, .ref (xad E37 g38)), (5, .int (iZ (wcT B w))), (4, .int (iZ w)), (3, .int (iZ 1)), (2, .int (iZ (nwT B))), (0, .ref (xad E37 0)), (1, .int (iZ to))]) hx hb dL_areWalkersRight_178 hl (by decide) rfl (fun ls hl => ?_)
                            refine lv_iload_n hx hb dL_areWalkersRight_180 rfl (lv_at hl 7 rfl) ?_
                            refine x_if_eq (tgt := 229) hx hb dL_areWalkersRight_181 (by decide) (by decide) (fun c181 => ?_) (fun c181 => ?_)
                            · exact absurd c181 (by decide)
                            · refine lv_aload_n hx hb dL_areWalkersRight_184 rfl (lv_at hl 9 rfl) ?_
                              refine x_iconst hx hb dL_areWalkersRight_185 ?_
                              refine lv_iload hx hb dL_areWalkersRight_186 (lv_at hl 2 rfl) ?_
                              refine x_iconst hx hb dL_areWalkersRight_188 ?_
                              refine x_idiv hx hb dL_areWalkersRight_189 (by omega) (by omega) (by omega) (by omega) ?_
                              refine lv_iload hx hb dL_areWalkersRight_190 (lv_at hl 2 rfl) ?_
                              refine x_iconst hx hb dL_areWalkersRight_192 ?_
                              refine x_irem hx hb dL_areWalkersRight_193 (by omega) (by omega) (by omega) (by omega) ?_
                              refine lv_iload hx hb dL_areWalkersRight_194 (lv_at hl 6 rfl) ?_
                              refine x_cSW (As := [.ref (xad E37 0), .int (iZ 5), .int (iZ (k / 5)), .int (iZ (k % 5)), .int (iZ w)]) (rest := []) hx hb hml hts hown hK hST hOK hH (c_L_ask_5 l E37 ST hSF hSX htr σ43 (k / 5) (k % 5) w B S Y fcw_0 (by omega) (by omega)) (vx_cwSW 5 hts (goodIn_t gK_162) rfl rfl rfl (by decide +kernel) ⟨Nat.le_of_ble_eq_true rfl, Nat.le_of_ble_eq_true rfl⟩) rfl hl.1 rfl (Nat.le_of_ble_eq_true rfl) dL_areWalkersRight_196 ⟨by first | omega | (simp only [rm_L_areWalkersRight, rm_L_ask_12b, rm_L_ask_5, rm_L_ask_5b, rm_L_ask_7b, rm_L_ask_8b, rm_L_ask_9b, rm_L_lengths, rm_X6_walkerColumn0, rm_X6_walkerCount, rm_X6_walkerRow0]; omega), by first | omega | (simp only [rm_L_areWalkersRight, rm_L_ask_12b, rm_L_ask_5, rm_L_ask_5b, rm_L_ask_7b, rm_L_ask_8b, rm_L_ask_9b, rm_L_lengths, rm_X6_walkerColumn0, rm_X6_walkerCount, rm_X6_walkerRow0]; omega)⟩ (fun z108 σ109 H locs hp110 hH => ?_)
                              obtain ⟨hq9, hp110⟩ := hp110
                              subst hq9
                              obtain ⟨fcw_0, fr111⟩ := hp110
                              have fg38_0 : σ109 g38 = aI E37 25 Fa := (fr111 g38 (by omega)).trans fg38_0
                              rw [show k / 5 * 5 + k % 5 = k by omega]
                              have hdz9 := aDz_rg (dz_rg (G := (Gw (opT B) (lkT B) (kpT B) w)) (st := wcT B w) Gw_ok (hwc9 w) k)
                              refine lv_iload hx hb dL_areWalkersRight_199 (lv_at hl 1 rfl) ?_
                              refine x_icmp_ne (tgt := 229) hx hb dL_areWalkersRight_201 (by decide) (by omega) (by omega) (fun c201 => ?_) (fun c201 => ?_)
                              · exfalso; apply c201; unfold aDz; split <;> omega
                              · refine lv_aload_n hx hb dL_areWalkersRight_204 rfl (lv_at hl 9 rfl) ?_
                                refine x_bipush hx hb dL_areWalkersRight_205 (by decide) ?_
                                refine lv_iload hx hb dL_areWalkersRight_207 (lv_at hl 2 rfl) ?_
                                refine x_iconst hx hb dL_areWalkersRight_209 ?_
                                refine x_idiv hx hb dL_areWalkersRight_210 (by omega) (by omega) (by omega) (by omega) ?_
                                refine lv_iload hx hb dL_areWalkersRight_211 (lv_at hl 2 rfl) ?_
                                refine x_iconst hx hb dL_areWalkersRight_213 ?_
                                refine x_irem hx hb dL_areWalkersRight_214 (by omega) (by omega) (by omega) (by omega) ?_
                                refine lv_iload hx hb dL_areWalkersRight_215 (lv_at hl 6 rfl) ?_
                                refine x_cSW (As := [.ref (xad E37 0), .int (iZ 6), .int (iZ (k / 5)), .int (iZ (k % 5)), .int (iZ w)]) (rest := []) hx hb hml hts hown hK hST hOK hH (c_L_ask_6 l E37 ST hSF hSX htr σ109 (k / 5) (k % 5) w B S Y fcw_0 (by omega) (by omega)) (vx_cwSW 5 hts (goodIn_t gK_162) rfl rfl rfl (by decide +kernel) ⟨Nat.le_of_ble_eq_true rfl, Nat.le_of_ble_eq_true rfl⟩) rfl hl.1 rfl (Nat.le_of_ble_eq_true rfl) dL_areWalkersRight_217 ⟨by first | omega | (simp only [rm_L_areWalkersRight, rm_L_ask_12b, rm_L_ask_5, rm_L_ask_5b, rm_L_ask_6, rm_L_ask_7b, rm_L_ask_8b, rm_L_ask_9b, rm_L_lengths, rm_X6_walkerColumn0, rm_X6_walkerCount, rm_X6_walkerRow0]; omega), by first | omega | (simp only [rm_L_areWalkersRight, rm_L_ask_12b, rm_L_ask_5, rm_L_ask_5b, rm_L_ask_6, rm_L_ask_7b, rm_L_ask_8b, rm_L_ask_9b, rm_L_lengths, rm_X6_walkerColumn0, rm_X6_walkerCount, rm_X6_walkerRow0]; omega)⟩ (fun z113 σ114 H locs hp115 hH => ?_)
                                obtain ⟨hq9, hp115⟩ := hp115
                                subst hq9
                                obtain ⟨fcw_0, fr116⟩ := hp115
                                have fg38_0 : σ114 g38 = aI E37 25 Fa := (fr116 g38 (by omega)).trans fg38_0
                                rw [show k / 5 * 5 + k % 5 = k by omega]
                                have hdz9 := aDz_rg (dz_rg (G := (Gw (opT B) (lkT B) (kpT B) w)) (st := wcT B w) Gw_ok (hwc9 w) k)
                                refine lv_iload hx hb dL_areWalkersRight_220 (lv_at hl 1 rfl) ?_
                                refine x_icmp_ne (tgt := 229) hx hb dL_areWalkersRight_222 (by decide) (by omega) (by omega) (fun c222 => ?_) (fun c222 => ?_)
                                · exfalso; apply c222; unfold aDz; split <;> omega
                                · refine x_iconst hx hb dL_areWalkersRight_225 ?_
                                  refine lv_goto (tgt := 230) hx hb dL_areWalkersRight_226 (by decide) ?_
                                  refine lv_istore_n (lv' := [(3, .int (iZ 1)), (7, .int (iZ (rc + 0))), (10, .int (iZ (Fa k))), (9, .int (iZ k)), (8, .int (iZ 0)), (6, .ref (xad E37 g38)), (5, .int (iZ (wcT B w))), (4, .int (iZ w)), (2, .int (iZ (nwT B))), (0, .ref (xad E37 0)), (1, .int (iZ to))]) hx hb dL_areWalkersRight_230 rfl hl (by decide) rfl (fun ls hl => ?_)
                                  refine x_iinc (lv' := [(9, .int (iZ (k + 1))), (3, .int (iZ 1)), (7, .int (iZ (rc + 0))), (10, .int (iZ (Fa k))), (8, .int (iZ 0)), (6, .ref (xad E37 g38)), (5, .int (iZ (wcT B w))), (4, .int (iZ w)), (2, .int (iZ (nwT B))), (0, .ref (xad E37 0)), (1, .int (iZ to))]) hx hb dL_areWalkersRight_231 hl (k := 3) rfl (by decide) rfl (fun ls hl => ?_)
                                  refine lv_goto (tgt := 130) hx hb dL_areWalkersRight_234 (by decide) ?_
                                  exact W.widen (by first | omega | (simp only [rm_L_areWalkersRight, rm_L_ask_12b, rm_L_ask_5, rm_L_ask_5b, rm_L_ask_6, rm_L_ask_7b, rm_L_ask_8b, rm_L_ask_9b, rm_L_lengths, rm_X6_walkerColumn0, rm_X6_walkerCount, rm_X6_walkerRow0]; omega)) (by first | omega | (simp only [rm_L_areWalkersRight, rm_L_ask_12b, rm_L_ask_5, rm_L_ask_5b, rm_L_ask_6, rm_L_ask_7b, rm_L_ask_8b, rm_L_ask_9b, rm_L_lengths, rm_X6_walkerColumn0, rm_X6_walkerCount, rm_X6_walkerRow0]; omega)) (ih130 (rc + 0) (k + 1) σ114 _ _ _ (by omega) (by omega) (by rw [cnbK_s (by omega), ← hrc]; first | (rw [decide_eq_true (show dz (Gw (opT B) (lkT B) (kpT B) w) (wcT B w) k < 25 by omega)]; rfl) | (rw [decide_eq_false (show ¬ dz (Gw (opT B) (lkT B) (kpT B) w) (wcT B w) k < 25 by omega)]; rfl)) (by omega) fcw_0 fg38_0 (fun j hj0 => ((fr116 j (by omega)).trans ((fr111 j (by omega)).trans (fr44 j (by omega))))) hH (lv_sub hl [0, 4, 2, 5, 6, 7, 1, 8, 9, 10] rfl))
                        · refine x_sipush hx hb dL_areWalkersRight_147 (by decide) ?_
                          refine lv_goto (tgt := 158) hx hb dL_areWalkersRight_150 (by decide) ?_
                          refine lv_istore (lv' := [(10, .int (iZ (-2004))), (9, .int (iZ k)), (8, .int (iZ 0)), (7, .int (iZ rc)), (6, .ref (xad E37 g38)), (5, .int (iZ (wcT B w))), (4, .int (iZ w)), (3, .int (iZ 1)), (2, .int (iZ (nwT B))), (0, .ref (xad E37 0)), (1, .int (iZ to))]) hx hb dL_areWalkersRight_158 hl (by decide) rfl (fun ls hl => ?_)
                          skip
                          refine lv_iload hx hb dL_areWalkersRight_160 (lv_at hl 3 rfl) ?_
                          refine lv_aload hx hb dL_areWalkersRight_162 (lv_at hl 4 rfl) ?_
                          refine lv_iload hx hb dL_areWalkersRight_164 (lv_at hl 1 rfl) ?_
                          refine x_iald hx hb hK hH g38 (by omega) fg38_0 (by omega) (by omega) (by omega) dL_areWalkersRight_166 ?_
                          refine x_bipush hx hb dL_areWalkersRight_167 (by decide) ?_
                          refine x_icmp_ne (tgt := 176) hx hb dL_areWalkersRight_169 (by decide) (by omega) (by decide) (fun c169 => ?_) (fun c169 => ?_)
                          · refine x_iconst hx hb dL_areWalkersRight_176 ?_
                            refine x_iadd hx hb dL_areWalkersRight_177 ?_
                            refine lv_istore (lv' := [(7, .int (iZ (rc + 1))), (10, .int (iZ (-2004))), (9, .int (iZ k)), (8, .int (iZ 0)), (6, .ref (xad E37 g38)), (5, .int (iZ (wcT B w))), (4, .int (iZ w)), (3, .int (iZ 1)), (2, .int (iZ (nwT B))), (0, .ref (xad E37 0)), (1, .int (iZ to))]) hx hb dL_areWalkersRight_178 hl (by decide) rfl (fun ls hl => ?_)
                            refine lv_iload_n hx hb dL_areWalkersRight_180 rfl (lv_at hl 7 rfl) ?_
                            refine x_if_eq (tgt := 229) hx hb dL_areWalkersRight_181 (by decide) (by decide) (fun c181 => ?_) (fun c181 => ?_)
                            · exact absurd c181 (by decide)
                            · refine lv_aload_n hx hb dL_areWalkersRight_184 rfl (lv_at hl 9 rfl) ?_
                              refine x_iconst hx hb dL_areWalkersRight_185 ?_
                              refine lv_iload hx hb dL_areWalkersRight_186 (lv_at hl 2 rfl) ?_
                              refine x_iconst hx hb dL_areWalkersRight_188 ?_
                              refine x_idiv hx hb dL_areWalkersRight_189 (by omega) (by omega) (by omega) (by omega) ?_
                              refine lv_iload hx hb dL_areWalkersRight_190 (lv_at hl 2 rfl) ?_
                              refine x_iconst hx hb dL_areWalkersRight_192 ?_
                              refine x_irem hx hb dL_areWalkersRight_193 (by omega) (by omega) (by omega) (by omega) ?_
                              refine lv_iload hx hb dL_areWalkersRight_194 (lv_at hl 6 rfl) ?_
                              refine x_cSW (As := [.ref (xad E37 0), .int (iZ 5), .int (iZ (k / 5)), .int (iZ (k % 5)), .int (iZ w)]) (rest := []) hx hb hml hts hown hK hST hOK hH (c_L_ask_5 l E37 ST hSF hSX htr σ43 (k / 5) (k % 5) w B S Y fcw_0 (by omega) (by omega)) (vx_cwSW 5 hts (goodIn_t gK_162) rfl rfl rfl (by decide +kernel) ⟨Nat.le_of_ble_eq_true rfl, Nat.le_of_ble_eq_true rfl⟩) rfl hl.1 rfl (Nat.le_of_ble_eq_true rfl) dL_areWalkersRight_196 ⟨by first | omega | (simp only [rm_L_areWalkersRight, rm_L_ask_12b, rm_L_ask_5, rm_L_ask_5b, rm_L_ask_7b, rm_L_ask_8b, rm_L_ask_9b, rm_L_lengths, rm_X6_walkerColumn0, rm_X6_walkerCount, rm_X6_walkerRow0]; omega), by first | omega | (simp only [rm_L_areWalkersRight, rm_L_ask_12b, rm_L_ask_5, rm_L_ask_5b, rm_L_ask_7b, rm_L_ask_8b, rm_L_ask_9b, rm_L_lengths, rm_X6_walkerColumn0, rm_X6_walkerCount, rm_X6_walkerRow0]; omega)⟩ (fun z118 σ119 H locs hp120 hH => ?_)
                              obtain ⟨hq9, hp120⟩ := hp120
                              subst hq9
                              obtain ⟨fcw_0, fr121⟩ := hp120
                              have fg38_0 : σ119 g38 = aI E37 25 Fa := (fr121 g38 (by omega)).trans fg38_0
                              rw [show k / 5 * 5 + k % 5 = k by omega]
                              have hdz9 := aDz_rg (dz_rg (G := (Gw (opT B) (lkT B) (kpT B) w)) (st := wcT B w) Gw_ok (hwc9 w) k)
                              refine lv_iload hx hb dL_areWalkersRight_199 (lv_at hl 1 rfl) ?_
                              refine x_icmp_ne (tgt := 229) hx hb dL_areWalkersRight_201 (by decide) (by omega) (by decide) (fun c201 => ?_) (fun c201 => ?_)
                              · exfalso; apply c201; unfold aDz; split <;> omega
                              · refine lv_aload_n hx hb dL_areWalkersRight_204 rfl (lv_at hl 9 rfl) ?_
                                refine x_bipush hx hb dL_areWalkersRight_205 (by decide) ?_
                                refine lv_iload hx hb dL_areWalkersRight_207 (lv_at hl 2 rfl) ?_
                                refine x_iconst hx hb dL_areWalkersRight_209 ?_
                                refine x_idiv hx hb dL_areWalkersRight_210 (by omega) (by omega) (by omega) (by omega) ?_
                                refine lv_iload hx hb dL_areWalkersRight_211 (lv_at hl 2 rfl) ?_
                                refine x_iconst hx hb dL_areWalkersRight_213 ?_
                                refine x_irem hx hb dL_areWalkersRight_214 (by omega) (by omega) (by omega) (by omega) ?_
                                refine lv_iload hx hb dL_areWalkersRight_215 (lv_at hl 6 rfl) ?_
                                refine x_cSW (As := [.ref (xad E37 0), .int (iZ 6), .int (iZ (k / 5)), .int (iZ (k % 5)), .int (iZ w)]) (rest := []) hx hb hml hts hown hK hST hOK hH (c_L_ask_6 l E37 ST hSF hSX htr σ119 (k / 5) (k % 5) w B S Y fcw_0 (by omega) (by omega)) (vx_cwSW 5 hts (goodIn_t gK_162) rfl rfl rfl (by decide +kernel) ⟨Nat.le_of_ble_eq_true rfl, Nat.le_of_ble_eq_true rfl⟩) rfl hl.1 rfl (Nat.le_of_ble_eq_true rfl) dL_areWalkersRight_217 ⟨by first | omega | (simp only [rm_L_areWalkersRight, rm_L_ask_12b, rm_L_ask_5, rm_L_ask_5b, rm_L_ask_6, rm_L_ask_7b, rm_L_ask_8b, rm_L_ask_9b, rm_L_lengths, rm_X6_walkerColumn0, rm_X6_walkerCount, rm_X6_walkerRow0]; omega), by first | omega | (simp only [rm_L_areWalkersRight, rm_L_ask_12b, rm_L_ask_5, rm_L_ask_5b, rm_L_ask_6, rm_L_ask_7b, rm_L_ask_8b, rm_L_ask_9b, rm_L_lengths, rm_X6_walkerColumn0, rm_X6_walkerCount, rm_X6_walkerRow0]; omega)⟩ (fun z123 σ124 H locs hp125 hH => ?_)
                                obtain ⟨hq9, hp125⟩ := hp125
                                subst hq9
                                obtain ⟨fcw_0, fr126⟩ := hp125
                                have fg38_0 : σ124 g38 = aI E37 25 Fa := (fr126 g38 (by omega)).trans fg38_0
                                rw [show k / 5 * 5 + k % 5 = k by omega]
                                have hdz9 := aDz_rg (dz_rg (G := (Gw (opT B) (lkT B) (kpT B) w)) (st := wcT B w) Gw_ok (hwc9 w) k)
                                refine lv_iload hx hb dL_areWalkersRight_220 (lv_at hl 1 rfl) ?_
                                refine x_icmp_ne (tgt := 229) hx hb dL_areWalkersRight_222 (by decide) (by omega) (by decide) (fun c222 => ?_) (fun c222 => ?_)
                                · exfalso; apply c222; unfold aDz; split <;> omega
                                · refine x_iconst hx hb dL_areWalkersRight_225 ?_
                                  refine lv_goto (tgt := 230) hx hb dL_areWalkersRight_226 (by decide) ?_
                                  refine lv_istore_n (lv' := [(3, .int (iZ 1)), (7, .int (iZ (rc + 1))), (10, .int (iZ (-2004))), (9, .int (iZ k)), (8, .int (iZ 0)), (6, .ref (xad E37 g38)), (5, .int (iZ (wcT B w))), (4, .int (iZ w)), (2, .int (iZ (nwT B))), (0, .ref (xad E37 0)), (1, .int (iZ to))]) hx hb dL_areWalkersRight_230 rfl hl (by decide) rfl (fun ls hl => ?_)
                                  refine x_iinc (lv' := [(9, .int (iZ (k + 1))), (3, .int (iZ 1)), (7, .int (iZ (rc + 1))), (10, .int (iZ (-2004))), (8, .int (iZ 0)), (6, .ref (xad E37 g38)), (5, .int (iZ (wcT B w))), (4, .int (iZ w)), (2, .int (iZ (nwT B))), (0, .ref (xad E37 0)), (1, .int (iZ to))]) hx hb dL_areWalkersRight_231 hl (k := 3) rfl (by decide) rfl (fun ls hl => ?_)
                                  refine lv_goto (tgt := 130) hx hb dL_areWalkersRight_234 (by decide) ?_
                                  exact W.widen (by first | omega | (simp only [rm_L_areWalkersRight, rm_L_ask_12b, rm_L_ask_5, rm_L_ask_5b, rm_L_ask_6, rm_L_ask_7b, rm_L_ask_8b, rm_L_ask_9b, rm_L_lengths, rm_X6_walkerColumn0, rm_X6_walkerCount, rm_X6_walkerRow0]; omega)) (by first | omega | (simp only [rm_L_areWalkersRight, rm_L_ask_12b, rm_L_ask_5, rm_L_ask_5b, rm_L_ask_6, rm_L_ask_7b, rm_L_ask_8b, rm_L_ask_9b, rm_L_lengths, rm_X6_walkerColumn0, rm_X6_walkerCount, rm_X6_walkerRow0]; omega)) (ih130 (rc + 1) (k + 1) σ124 _ _ _ (by omega) (by omega) (by rw [cnbK_s (by omega), ← hrc]; first | (rw [decide_eq_true (show dz (Gw (opT B) (lkT B) (kpT B) w) (wcT B w) k < 25 by omega)]; rfl) | (rw [decide_eq_false (show ¬ dz (Gw (opT B) (lkT B) (kpT B) w) (wcT B w) k < 25 by omega)]; rfl)) (by omega) fcw_0 fg38_0 (fun j hj0 => ((fr126 j (by omega)).trans ((fr121 j (by omega)).trans (fr44 j (by omega))))) hH (lv_sub hl [0, 4, 2, 5, 6, 7, 1, 8, 9, 10] rfl))
                          · refine x_iconst hx hb dL_areWalkersRight_172 ?_
                            refine lv_goto (tgt := 177) hx hb dL_areWalkersRight_173 (by decide) ?_
                            refine x_iadd hx hb dL_areWalkersRight_177 ?_
                            refine lv_istore (lv' := [(7, .int (iZ (rc + 0))), (10, .int (iZ (-2004))), (9, .int (iZ k)), (8, .int (iZ 0)), (6, .ref (xad E37 g38)), (5, .int (iZ (wcT B w))), (4, .int (iZ w)), (3, .int (iZ 1)), (2, .int (iZ (nwT B))), (0, .ref (xad E37 0)), (1, .int (iZ to))]) hx hb dL_areWalkersRight_178 hl (by decide) rfl (fun ls hl => ?_)
                            refine lv_iload_n hx hb dL_areWalkersRight_180 rfl (lv_at hl 7 rfl) ?_
                            refine x_if_eq (tgt := 229) hx hb dL_areWalkersRight_181 (by decide) (by decide) (fun c181 => ?_) (fun c181 => ?_)
                            · exact absurd c181 (by decide)
                            · refine lv_aload_n hx hb dL_areWalkersRight_184 rfl (lv_at hl 9 rfl) ?_
                              refine x_iconst hx hb dL_areWalkersRight_185 ?_
                              refine lv_iload hx hb dL_areWalkersRight_186 (lv_at hl 2 rfl) ?_
                              refine x_iconst hx hb dL_areWalkersRight_188 ?_
                              refine x_idiv hx hb dL_areWalkersRight_189 (by omega) (by omega) (by omega) (by omega) ?_
                              refine lv_iload hx hb dL_areWalkersRight_190 (lv_at hl 2 rfl) ?_
                              refine x_iconst hx hb dL_areWalkersRight_192 ?_
                              refine x_irem hx hb dL_areWalkersRight_193 (by omega) (by omega) (by omega) (by omega) ?_
                              refine lv_iload hx hb dL_areWalkersRight_194 (lv_at hl 6 rfl) ?_
                              refine x_cSW (As := [.ref (xad E37 0), .int (iZ 5), .int (iZ (k / 5)), .int (iZ (k % 5)), .int (iZ w)]) (rest := []) hx hb hml hts hown hK hST hOK hH (c_L_ask_5 l E37 ST hSF hSX htr σ43 (k / 5) (k % 5) w B S Y fcw_0 (by omega) (by omega)) (vx_cwSW 5 hts (goodIn_t gK_162) rfl rfl rfl (by decide +kernel) ⟨Nat.le_of_ble_eq_true rfl, Nat.le_of_ble_eq_true rfl⟩) rfl hl.1 rfl (Nat.le_of_ble_eq_true rfl) dL_areWalkersRight_196 ⟨by first | omega | (simp only [rm_L_areWalkersRight, rm_L_ask_12b, rm_L_ask_5, rm_L_ask_5b, rm_L_ask_7b, rm_L_ask_8b, rm_L_ask_9b, rm_L_lengths, rm_X6_walkerColumn0, rm_X6_walkerCount, rm_X6_walkerRow0]; omega), by first | omega | (simp only [rm_L_areWalkersRight, rm_L_ask_12b, rm_L_ask_5, rm_L_ask_5b, rm_L_ask_7b, rm_L_ask_8b, rm_L_ask_9b, rm_L_lengths, rm_X6_walkerColumn0, rm_X6_walkerCount, rm_X6_walkerRow0]; omega)⟩ (fun z128 σ129 H locs hp130 hH => ?_)
                              obtain ⟨hq9, hp130⟩ := hp130
                              subst hq9
                              obtain ⟨fcw_0, fr131⟩ := hp130
                              have fg38_0 : σ129 g38 = aI E37 25 Fa := (fr131 g38 (by omega)).trans fg38_0
                              rw [show k / 5 * 5 + k % 5 = k by omega]
                              have hdz9 := aDz_rg (dz_rg (G := (Gw (opT B) (lkT B) (kpT B) w)) (st := wcT B w) Gw_ok (hwc9 w) k)
                              refine lv_iload hx hb dL_areWalkersRight_199 (lv_at hl 1 rfl) ?_
                              refine x_icmp_ne (tgt := 229) hx hb dL_areWalkersRight_201 (by decide) (by omega) (by decide) (fun c201 => ?_) (fun c201 => ?_)
                              · exfalso; apply c201; unfold aDz; split <;> omega
                              · refine lv_aload_n hx hb dL_areWalkersRight_204 rfl (lv_at hl 9 rfl) ?_
                                refine x_bipush hx hb dL_areWalkersRight_205 (by decide) ?_
                                refine lv_iload hx hb dL_areWalkersRight_207 (lv_at hl 2 rfl) ?_
                                refine x_iconst hx hb dL_areWalkersRight_209 ?_
                                refine x_idiv hx hb dL_areWalkersRight_210 (by omega) (by omega) (by omega) (by omega) ?_
                                refine lv_iload hx hb dL_areWalkersRight_211 (lv_at hl 2 rfl) ?_
                                refine x_iconst hx hb dL_areWalkersRight_213 ?_
                                refine x_irem hx hb dL_areWalkersRight_214 (by omega) (by omega) (by omega) (by omega) ?_
                                refine lv_iload hx hb dL_areWalkersRight_215 (lv_at hl 6 rfl) ?_
                                refine x_cSW (As := [.ref (xad E37 0), .int (iZ 6), .int (iZ (k / 5)), .int (iZ (k % 5)), .int (iZ w)]) (rest := []) hx hb hml hts hown hK hST hOK hH (c_L_ask_6 l E37 ST hSF hSX htr σ129 (k / 5) (k % 5) w B S Y fcw_0 (by omega) (by omega)) (vx_cwSW 5 hts (goodIn_t gK_162) rfl rfl rfl (by decide +kernel) ⟨Nat.le_of_ble_eq_true rfl, Nat.le_of_ble_eq_true rfl⟩) rfl hl.1 rfl (Nat.le_of_ble_eq_true rfl) dL_areWalkersRight_217 ⟨by first | omega | (simp only [rm_L_areWalkersRight, rm_L_ask_12b, rm_L_ask_5, rm_L_ask_5b, rm_L_ask_6, rm_L_ask_7b, rm_L_ask_8b, rm_L_ask_9b, rm_L_lengths, rm_X6_walkerColumn0, rm_X6_walkerCount, rm_X6_walkerRow0]; omega), by first | omega | (simp only [rm_L_areWalkersRight, rm_L_ask_12b, rm_L_ask_5, rm_L_ask_5b, rm_L_ask_6, rm_L_ask_7b, rm_L_ask_8b, rm_L_ask_9b, rm_L_lengths, rm_X6_walkerColumn0, rm_X6_walkerCount, rm_X6_walkerRow0]; omega)⟩ (fun z133 σ134 H locs hp135 hH => ?_)
                                obtain ⟨hq9, hp135⟩ := hp135
                                subst hq9
                                obtain ⟨fcw_0, fr136⟩ := hp135
                                have fg38_0 : σ134 g38 = aI E37 25 Fa := (fr136 g38 (by omega)).trans fg38_0
                                rw [show k / 5 * 5 + k % 5 = k by omega]
                                have hdz9 := aDz_rg (dz_rg (G := (Gw (opT B) (lkT B) (kpT B) w)) (st := wcT B w) Gw_ok (hwc9 w) k)
                                refine lv_iload hx hb dL_areWalkersRight_220 (lv_at hl 1 rfl) ?_
                                refine x_icmp_ne (tgt := 229) hx hb dL_areWalkersRight_222 (by decide) (by omega) (by decide) (fun c222 => ?_) (fun c222 => ?_)
                                · exfalso; apply c222; unfold aDz; split <;> omega
                                · refine x_iconst hx hb dL_areWalkersRight_225 ?_
                                  refine lv_goto (tgt := 230) hx hb dL_areWalkersRight_226 (by decide) ?_
                                  refine lv_istore_n (lv' := [(3, .int (iZ 1)), (7, .int (iZ (rc + 0))), (10, .int (iZ (-2004))), (9, .int (iZ k)), (8, .int (iZ 0)), (6, .ref (xad E37 g38)), (5, .int (iZ (wcT B w))), (4, .int (iZ w)), (2, .int (iZ (nwT B))), (0, .ref (xad E37 0)), (1, .int (iZ to))]) hx hb dL_areWalkersRight_230 rfl hl (by decide) rfl (fun ls hl => ?_)
                                  refine x_iinc (lv' := [(9, .int (iZ (k + 1))), (3, .int (iZ 1)), (7, .int (iZ (rc + 0))), (10, .int (iZ (-2004))), (8, .int (iZ 0)), (6, .ref (xad E37 g38)), (5, .int (iZ (wcT B w))), (4, .int (iZ w)), (2, .int (iZ (nwT B))), (0, .ref (xad E37 0)), (1, .int (iZ to))]) hx hb dL_areWalkersRight_231 hl (k := 3) rfl (by decide) rfl (fun ls hl => ?_)
                                  refine lv_goto (tgt := 130) hx hb dL_areWalkersRight_234 (by decide) ?_
                                  exact W.widen (by first | omega | (simp only [rm_L_areWalkersRight, rm_L_ask_12b, rm_L_ask_5, rm_L_ask_5b, rm_L_ask_6, rm_L_ask_7b, rm_L_ask_8b, rm_L_ask_9b, rm_L_lengths, rm_X6_walkerColumn0, rm_X6_walkerCount, rm_X6_walkerRow0]; omega)) (by first | omega | (simp only [rm_L_areWalkersRight, rm_L_ask_12b, rm_L_ask_5, rm_L_ask_5b, rm_L_ask_6, rm_L_ask_7b, rm_L_ask_8b, rm_L_ask_9b, rm_L_lengths, rm_X6_walkerColumn0, rm_X6_walkerCount, rm_X6_walkerRow0]; omega)) (ih130 (rc + 0) (k + 1) σ134 _ _ _ (by omega) (by omega) (by rw [cnbK_s (by omega), ← hrc]; first | (rw [decide_eq_true (show dz (Gw (opT B) (lkT B) (kpT B) w) (wcT B w) k < 25 by omega)]; rfl) | (rw [decide_eq_false (show ¬ dz (Gw (opT B) (lkT B) (kpT B) w) (wcT B w) k < 25 by omega)]; rfl)) (by omega) fcw_0 fg38_0 (fun j hj0 => ((fr136 j (by omega)).trans ((fr131 j (by omega)).trans (fr44 j (by omega))))) hH (lv_sub hl [0, 4, 2, 5, 6, 7, 1, 8, 9, 10] rfl))
                  exact W.widen (by first | omega | (simp only [rm_L_areWalkersRight, rm_L_ask_12b, rm_L_ask_5b, rm_L_ask_7b, rm_L_ask_8b, rm_L_ask_9b, rm_L_lengths, rm_X6_walkerColumn0, rm_X6_walkerCount, rm_X6_walkerRow0]; omega)) (by first | omega | (simp only [rm_L_areWalkersRight, rm_L_ask_12b, rm_L_ask_5b, rm_L_ask_7b, rm_L_ask_8b, rm_L_ask_9b, rm_L_lengths, rm_X6_walkerColumn0, rm_X6_walkerCount, rm_X6_walkerRow0]; omega)) (K130 26 0 0 σ39 _ _ _ (by first | omega | decide) (by omega) (by rfl) (by omega) fcw_0 fg38_0 (fun j _ => rfl) hH (lv_sub hl [0, 1, 2, 3, 4, 5, 6, 7, 8, 9] rfl))
            exact W.widen (by first | omega | (simp only [rm_L_areWalkersRight, rm_L_ask_12b, rm_L_ask_5b, rm_L_ask_7b, rm_L_ask_8b, rm_L_ask_9b, rm_X6_walkerCount]; omega)) (by first | omega | (simp only [rm_L_areWalkersRight, rm_L_ask_12b, rm_L_ask_5b, rm_L_ask_7b, rm_L_ask_8b, rm_L_ask_9b, rm_X6_walkerCount]; omega)) (K88 4 0 σ25 _ _ _ (by first | omega | decide) (by first | omega | rfl | assumption | simp_all) fcw_0 (fun j _ => rfl) hH (lv_sub hl [0, 1, 2, 3, 4] rfl))
