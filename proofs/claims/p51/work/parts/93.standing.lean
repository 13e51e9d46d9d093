def rm_L_standing : Room := { frames := 3, cells := 0, slots := 0, locals := 63 }
set_option maxRecDepth 100000 in
set_option maxHeartbeats 4000000 in
theorem c_L_standing (l : Launch) (E : xE) (ST : xST) (hSF : SF ST) (Z : zE) (hSQ : SQ Z ST) (σ : xW) (ce : Int) (B : BT) (S : Option BT) (Y : lnQ) (hr0 : cw E σ B S Y) (hc : 0 ≤ ce ∧ ce ≤ 24) : CZ l E ST Z yL_standing wML_standing rm_L_standing [.ref (xad E 0), .int (iZ ce)] σ (fun (z : Int) (u : xW) => z = wkI (wcT B) (nwT B) ce ∧ u = σ) := by
  have fcw_0 : cw E σ B S Y := hr0
  refine CZ_of (by decide) rfl (Nat.le_of_ble_eq_true rfl) ?_
  intro p e s m args below meth c Q ls G hH hl hQ
  obtain ⟨hx, hb, hml, hown, hts, hK, hST, hlocks, hr, hno⟩ := G
  have hOK := hSF.1
  have hown : s.vm.findClass RL = some m.cls := hown
  have hl : lv_has ls 4 [(0, .ref (xad E 0)), (1, .int (iZ ce))] := hl
  obtain ⟨hop, hlk9, hkp, hwc9, hpn, hnw⟩ : BI (opT B) (lkT B) (kpT B) (wcT B) (pnT B) (nwT B) := fcw_0.bit
  refine x_iconst hx hb dL_standing_0 ?_
  refine lv_istore_n (lv' := [(2, .int (iZ 0)), (0, .ref (xad E 0)), (1, .int (iZ ce))]) hx hb dL_standing_1 rfl hl (by decide) rfl (fun ls hl => ?_)
  refine x_iconst hx hb dL_standing_2 ?_
  refine lv_istore_n (lv' := [(3, .int (iZ 0)), (2, .int (iZ 0)), (0, .ref (xad E 0)), (1, .int (iZ ce))]) hx hb dL_standing_3 rfl hl (by decide) rfl (fun ls hl => ?_)
  have K4 : ∀ (nK : Nat) (b9 : Bool) (w : Int) (H : Heap) (locs : List Loc) (ls : Array Slot), (nwT B - w).toNat < nK → (0 ≤ w ∧ w ≤ nwT B) → (b9 = decide (0 < cntK (wcT B) ce w)) → Hx E (xA E s.heap.size) s.heap σ H locs → lv_has ls 4 [(3, .int (iZ w)), (2, .int (iZ (b2 b9))), (0, .ref (xad E 0)), (1, .int (iZ ce))] → W p l e rm_L_standing s m args below meth c H locs 0 0 Q (F0 m 4 ls []) := by
    intro n4
    induction n4 with
    | zero =>
      intro b9 w H locs ls hm
      exact absurd hm (by first | exact Nat.not_lt_zero _ | omega)
    | succ n4 ih4 =>
      intro b9 w H locs ls hm4 hw hb9  hH hl
      refine lv_iload_n hx hb dL_standing_4 rfl (lv_at hl 0 rfl) ?_
      refine lv_aload_n hx hb dL_standing_5 rfl (lv_at hl 2 rfl) ?_
      obtain ⟨fs9, hfs9⟩ := fcw_0.o0
      refine x_cVID (As := []) (rest := [.int (iZ w)]) hx hb hml hts hown hK hST hOK hH 0 (q_walkerCount l E ST hSF σ B S Y fcw_0 ) (cwV 0 hts (goodIn_t (goodIn_x gK_143)) rfl rfl rfl (by decide +kernel) ⟨Nat.le_of_ble_eq_true rfl, Nat.le_of_ble_eq_true rfl⟩) (ltw (by decide)) hfs9 rfl rfl hl.1 rfl (Nat.le_of_ble_eq_true rfl) dL_standing_6 ⟨Nat.le_of_ble_eq_true rfl, Nat.le_of_ble_eq_true rfl⟩ (fun z u h => h) (fun H locs hH => ?_)
      refine x_icmp_ge (tgt := 45) hx hb dL_standing_9 (by decide) (by omega) (by omega) (fun c9 => ?_) (fun c9 => ?_)
      · have ew9 : w = nwT B := (by omega)
        rw [ew9] at hb9
        refine lv_iload_n hx hb dL_standing_45 rfl (lv_at hl 1 rfl) ?_
        refine x_ifb_eq (tgt := 54) hx hb dL_standing_46 (by decide) (fun c46 => ?_) (fun c46 => ?_)
        · refine x_ldcS (q := zK Z 0) hx hb hown ((hSQ _ _ _ hST).2.2.2.1 0 _ rfl) dL_standing_54 ?_
          subst hQ
          exact x_zoret (post := (fun (z : Int) (u : xW) => z = wkI (wcT B) (nwT B) ce ∧ u = σ)) hx hb hr hlocks hH (Nat.le_of_ble_eq_true rfl) (Nat.le_of_ble_eq_true rfl) 0 ⟨(by exact wkI_f hb9 c46), rfl⟩ dL_standing_56
        · refine x_ldcS (q := zK Z 5) hx hb hown ((hSQ _ _ _ hST).2.2.2.1 5 _ rfl) dL_standing_49 ?_
          refine lv_goto (tgt := 56) hx hb dL_standing_51 (by decide) ?_
          subst hQ
          exact x_zoret (post := (fun (z : Int) (u : xW) => z = wkI (wcT B) (nwT B) ce ∧ u = σ)) hx hb hr hlocks hH (Nat.le_of_ble_eq_true rfl) (Nat.le_of_ble_eq_true rfl) 5 ⟨(by exact wkI_t hb9 c46), rfl⟩ dL_standing_56
      · have hw12 := hwc9 w
        refine lv_iload_n hx hb dL_standing_12 rfl (lv_at hl 1 rfl) ?_
        refine x_ifb_ne (tgt := 33) hx hb dL_standing_13 (by decide) (fun c13 => ?_) (fun c13 => ?_)
        · refine x_iconst hx hb dL_standing_33 ?_
          refine lv_goto (tgt := 38) hx hb dL_standing_34 (by decide) ?_
          refine lv_istore_n (lv' := [(2, .int (iZ 1)), (3, .int (iZ w)), (0, .ref (xad E 0)), (1, .int (iZ ce))]) hx hb dL_standing_38 rfl hl (by decide) rfl (fun ls hl => ?_)
          refine x_iinc (lv' := [(3, .int (iZ (w + 1))), (2, .int (iZ 1)), (0, .ref (xad E 0)), (1, .int (iZ ce))]) hx hb dL_standing_39 hl (k := 1) rfl (by decide) rfl (fun ls hl => ?_)
          refine lv_goto (tgt := 4) hx hb dL_standing_42 (by decide) ?_
          exact ih4 true (w + 1) _ _ _ (by omega) (by omega) (by first | exact sd_t hb9 c13 hw.1 | exact sd_y (by omega) hw.1 | exact sd_n hb9 c13 (by omega) hw.1)  hH (lv_sub hl [0, 1, 2, 3] rfl)
        · refine x_iconst hx hb dL_standing_16 ?_
          refine lv_aload_n hx hb dL_standing_17 rfl (lv_at hl 2 rfl) ?_
          refine lv_iload_n hx hb dL_standing_18 rfl (lv_at hl 0 rfl) ?_
          obtain ⟨fs9, hfs9⟩ := fcw_0.o0
          refine x_cVID (As := [.int (iZ w)]) (rest := [.int (iZ 5)]) hx hb hml hts hown hK hST hOK hH 0 (q_walkerRow0 l E ST hSF σ w B S Y fcw_0 (by omega) (by omega)) (cwV 1 hts (goodIn_t (goodIn_x gK_165)) rfl rfl rfl (by decide +kernel) ⟨Nat.le_of_ble_eq_true rfl, Nat.le_of_ble_eq_true rfl⟩) (ltw (by decide)) hfs9 rfl rfl hl.1 rfl (Nat.le_of_ble_eq_true rfl) dL_standing_19 ⟨Nat.le_of_ble_eq_true rfl, Nat.le_of_ble_eq_true rfl⟩ (fun z u h => h) (fun H locs hH => ?_)
          refine x_imul hx hb dL_standing_22 ?_
          refine lv_aload_n hx hb dL_standing_23 rfl (lv_at hl 2 rfl) ?_
          refine lv_iload_n hx hb dL_standing_24 rfl (lv_at hl 0 rfl) ?_
          obtain ⟨fs9, hfs9⟩ := fcw_0.o0
          refine x_cVID (As := [.int (iZ w)]) (rest := [.int (iZ (5 * ((wcT B) w / 5)))]) hx hb hml hts hown hK hST hOK hH 0 (q_walkerColumn0 l E ST hSF σ w B S Y fcw_0 (by omega) (by omega)) (cwV 1 hts (goodIn_t (goodIn_x gK_168)) rfl rfl rfl (by decide +kernel) ⟨Nat.le_of_ble_eq_true rfl, Nat.le_of_ble_eq_true rfl⟩) (ltw (by decide)) hfs9 rfl rfl hl.1 rfl (Nat.le_of_ble_eq_true rfl) dL_standing_25 ⟨Nat.le_of_ble_eq_true rfl, Nat.le_of_ble_eq_true rfl⟩ (fun z u h => h) (fun H locs hH => ?_)
          refine x_iadd hx hb dL_standing_28 ?_
          refine lv_iload_n hx hb dL_standing_29 rfl (lv_at hl 3 rfl) ?_
          refine x_icmp_ne (tgt := 37) hx hb dL_standing_30 (by decide) (by omega) (by omega) (fun c30 => ?_) (fun c30 => ?_)
          · refine x_iconst hx hb dL_standing_37 ?_
            refine lv_istore_n (lv' := [(2, .int (iZ 0)), (3, .int (iZ w)), (0, .ref (xad E 0)), (1, .int (iZ ce))]) hx hb dL_standing_38 rfl hl (by decide) rfl (fun ls hl => ?_)
            refine x_iinc (lv' := [(3, .int (iZ (w + 1))), (2, .int (iZ 0)), (0, .ref (xad E 0)), (1, .int (iZ ce))]) hx hb dL_standing_39 hl (k := 1) rfl (by decide) rfl (fun ls hl => ?_)
            refine lv_goto (tgt := 4) hx hb dL_standing_42 (by decide) ?_
            exact ih4 false (w + 1) _ _ _ (by omega) (by omega) (by first | exact sd_t hb9 c13 hw.1 | exact sd_y (by omega) hw.1 | exact sd_n hb9 c13 (by omega) hw.1)  hH (lv_sub hl [0, 1, 2, 3] rfl)
          · refine x_iconst hx hb dL_standing_33 ?_
            refine lv_goto (tgt := 38) hx hb dL_standing_34 (by decide) ?_
            refine lv_istore_n (lv' := [(2, .int (iZ 1)), (3, .int (iZ w)), (0, .ref (xad E 0)), (1, .int (iZ ce))]) hx hb dL_standing_38 rfl hl (by decide) rfl (fun ls hl => ?_)
            refine x_iinc (lv' := [(3, .int (iZ (w + 1))), (2, .int (iZ 1)), (0, .ref (xad E 0)), (1, .int (iZ ce))]) hx hb dL_standing_39 hl (k := 1) rfl (by decide) rfl (fun ls hl => ?_)
            refine lv_goto (tgt := 4) hx hb dL_standing_42 (by decide) ?_
            exact ih4 true (w + 1) _ _ _ (by omega) (by omega) (by first | exact sd_t hb9 c13 hw.1 | exact sd_y (by omega) hw.1 | exact sd_n hb9 c13 (by omega) hw.1)  hH (lv_sub hl [0, 1, 2, 3] rfl)
  exact K4 4 false 0 _ _ _ (by first | omega | decide) (by omega) (by rfl)  hH (lv_sub hl [0, 1, 2, 3] rfl)
