def rm_X1_replaceOpenings : Room := { frames := 1, cells := 0, slots := 0, locals := 20 }
set_option maxRecDepth 100000 in
set_option maxHeartbeats 4000000 in
theorem c_X1_replaceOpenings (l : Launch) (E : xE) (ST : xST) (hSF : SF ST) (σ : xW) (b : Nat) (r : Int) (c0 : Int) (o : Int) (op : Int → Int) (lk : Int → Int) (kp : Int → Int) (wc : Int → Int) (pn : Int) (nw : Int) (sh : Int) (wk : Int) (hr0 : bd E σ b op lk kp wc pn nw sh wk) (hb : b + 6 ≤ 85) (hB : BI op lk kp wc pn nw) (hr : rg r) (hc : rg c0) (ho : rg o) : CI l E ST yX1_replaceOpenings wsX1_replaceOpenings rm_X1_replaceOpenings [.ref (xad E b), .int (iZ r), .int (iZ c0), .int (iZ o)] σ (fun (z : Int) (u : xW) => z = (setF op lk kp wc pn nw sh wk r c0 o).1 ∧ (∃ (op1 lk1 kp1 wc1 : Int → Int) (pn1 nw1 sh1 wk1 : Int), bd E u b op1 lk1 kp1 wc1 pn1 nw1 sh1 wk1 ∧ ((op1, lk1, kp1, wc1, pn1, nw1, sh1, wk1) = (setF op lk kp wc pn nw sh wk r c0 o).2)) ∧ ∀ j : Nat, (j < b ∨ b + 6 ≤ j) → u j = σ j) := by
  obtain ⟨fb_0, fb_1, fb_2, fb_3, fb_4, ro0, fb_5⟩ := hr0
  refine CI_of (by decide) rfl (Nat.le_of_ble_eq_true rfl) ?_
  intro p e s m args below meth c Q ls G hH hl hQ
  obtain ⟨hx, hb, hml, hown, hts, hK, hST, hlocks, hr, hno⟩ := G
  have hOK := hSF.1
  have hown : s.vm.findClass RX1 = some m.cls := hown
  have hl : lv_has ls 6 [(0, .ref (xad E b)), (1, .int (iZ r)), (2, .int (iZ c0)), (3, .int (iZ o))] := hl
  have hinX1 : ∀ w ∈ u_ws RX1 TX1 9, w ∈ wsX1_replaceOpenings := fun w h => (List.mem_cons_of_mem _ (List.mem_append_right _ h))
  obtain ⟨hop, hlk, hkp, hwc, hpn, hnw⟩ := id hB
  refine lv_iload_n hx hb dX1_replaceOpenings_0 rfl (lv_at hl 1 rfl) ?_
  refine x_cSNID (As := [.int (iZ r)]) (rest := []) hx hb hml hts hown hK hST hOK hH (c_X6_isLine l E ST hSF σ r  (by omega)) ⟨va_cnB (host := "BrambleShift") 1 hts gX1_replaceOpenings_X6_isLine_n53 rfl rfl rfl (hSF.nest hST (List.mem_of_getElem? (i := 0) rfl)) (hts _ (List.mem_of_getElem? (i := 3) rfl)) (by decide +kernel) ⟨Nat.le_of_ble_eq_true rfl, Nat.le_of_ble_eq_true rfl⟩, hts _ (List.mem_of_getElem? (i := 2) rfl), trivial⟩ rfl hl.1 rfl (Nat.le_of_ble_eq_true rfl) dX1_replaceOpenings_1 ⟨Nat.le_of_ble_eq_true rfl, Nat.le_of_ble_eq_true rfl⟩ (fun z u h => h) (fun H locs hH => ?_)
  refine x_ifb_eq (tgt := 14) hx hb dX1_replaceOpenings_4 (by decide) (fun c4 => ?_) (fun c4 => ?_)
  · have c4 := of_decide_eq_false c4
    refine x_iconst hx hb dX1_replaceOpenings_14 ?_
    subst hQ
    exact x_iret hx hb hr hlocks hH (Nat.le_of_ble_eq_true rfl) (Nat.le_of_ble_eq_true rfl) ⟨(show (-1) = ((setF op lk kp wc pn nw sh wk r c0 o).1) from (by unfold setF; (repeat' split) <;> first | rfl | (exfalso; omega))), ⟨op, lk, kp, wc, pn, nw, sh, wk, ⟨fb_0, fb_1, fb_2, fb_3, fb_4, _, fb_5⟩, (by unfold setF; (repeat' split) <;> first | rfl | (exfalso; omega))⟩, fun j hj0 => rfl⟩ dX1_replaceOpenings_15
  · have c4 := of_decide_eq_true c4
    refine lv_iload_n hx hb dX1_replaceOpenings_7 rfl (lv_at hl 2 rfl) ?_
    refine x_cSNID (As := [.int (iZ c0)]) (rest := []) hx hb hml hts hown hK hST hOK hH (c_X6_isLine l E ST hSF σ c0  (by omega)) ⟨va_cnB (host := "BrambleShift") 1 hts gX1_replaceOpenings_X6_isLine_n53 rfl rfl rfl (hSF.nest hST (List.mem_of_getElem? (i := 0) rfl)) (hts _ (List.mem_of_getElem? (i := 3) rfl)) (by decide +kernel) ⟨Nat.le_of_ble_eq_true rfl, Nat.le_of_ble_eq_true rfl⟩, hts _ (List.mem_of_getElem? (i := 2) rfl), trivial⟩ rfl hl.1 rfl (Nat.le_of_ble_eq_true rfl) dX1_replaceOpenings_8 ⟨Nat.le_of_ble_eq_true rfl, Nat.le_of_ble_eq_true rfl⟩ (fun z u h => h) (fun H locs hH => ?_)
    refine x_ifb_ne (tgt := 16) hx hb dX1_replaceOpenings_11 (by decide) (fun c11 => ?_) (fun c11 => ?_)
    · have c11 := of_decide_eq_true c11
      refine lv_iload_n hx hb dX1_replaceOpenings_16 rfl (lv_at hl 3 rfl) ?_
      refine x_if_lt (tgt := 26) hx hb dX1_replaceOpenings_17 (by decide) (by omega) (fun c17 => ?_) (fun c17 => ?_)
      · refine x_bipush hx hb dX1_replaceOpenings_26 (by decide) ?_
        subst hQ
        exact x_iret hx hb hr hlocks hH (Nat.le_of_ble_eq_true rfl) (Nat.le_of_ble_eq_true rfl) ⟨(show (-2) = ((setF op lk kp wc pn nw sh wk r c0 o).1) from (by unfold setF; (repeat' split) <;> first | rfl | (exfalso; omega))), ⟨op, lk, kp, wc, pn, nw, sh, wk, ⟨fb_0, fb_1, fb_2, fb_3, fb_4, _, fb_5⟩, (by unfold setF; (repeat' split) <;> first | rfl | (exfalso; omega))⟩, fun j hj0 => rfl⟩ dX1_replaceOpenings_28
      · refine lv_iload_n hx hb dX1_replaceOpenings_20 rfl (lv_at hl 3 rfl) ?_
        refine x_bipush hx hb dX1_replaceOpenings_21 (by decide) ?_
        refine x_icmp_le (tgt := 29) hx hb dX1_replaceOpenings_23 (by decide) (by omega) (by decide) (fun c23 => ?_) (fun c23 => ?_)
        · refine lv_iload_n hx hb dX1_replaceOpenings_29 rfl (lv_at hl 1 rfl) ?_
          refine x_iconst hx hb dX1_replaceOpenings_30 ?_
          refine x_imul hx hb dX1_replaceOpenings_31 ?_
          refine lv_iload_n hx hb dX1_replaceOpenings_32 rfl (lv_at hl 2 rfl) ?_
          refine x_iadd hx hb dX1_replaceOpenings_33 ?_
          refine lv_istore (lv' := [(4, .int (iZ ((r * 5) + c0))), (0, .ref (xad E b)), (1, .int (iZ r)), (2, .int (iZ c0)), (3, .int (iZ o))]) hx hb dX1_replaceOpenings_34 hl (by decide) rfl (fun ls hl => ?_)
          refine lv_aload_n hx hb dX1_replaceOpenings_36 rfl (lv_at hl 1 rfl) ?_
          refine x_get hx hb hts hown hK hH b (by omega) fb_0 hinX1 rfl 0 (by decide) (List.mem_of_getElem? (i := 1) rfl) rfl dX1_replaceOpenings_37 ?_
          refine lv_iload hx hb dX1_replaceOpenings_40 (lv_at hl 0 rfl) ?_
          refine x_iald hx hb hK hH (b + 1) (by omega) fb_1 (by omega) (by omega) (by omega) dX1_replaceOpenings_42 ?_
          have hv7 := hop ((r * 5) + c0)
          refine lv_istore (lv' := [(5, .int (iZ (op ((r * 5) + c0)))), (4, .int (iZ ((r * 5) + c0))), (0, .ref (xad E b)), (1, .int (iZ r)), (2, .int (iZ c0)), (3, .int (iZ o))]) hx hb dX1_replaceOpenings_43 hl (by decide) rfl (fun ls hl => ?_)
          refine lv_aload_n hx hb dX1_replaceOpenings_45 rfl (lv_at hl 2 rfl) ?_
          refine x_get hx hb hts hown hK hH b (by omega) fb_0 hinX1 rfl 0 (by decide) (List.mem_of_getElem? (i := 1) rfl) rfl dX1_replaceOpenings_46 ?_
          refine lv_iload hx hb dX1_replaceOpenings_49 (lv_at hl 1 rfl) ?_
          refine lv_iload_n hx hb dX1_replaceOpenings_51 rfl (lv_at hl 5 rfl) ?_
          refine x_iast hx hb hK hH (b + 1) (by omega) fb_1 (by omega) (by omega) (by omega) dX1_replaceOpenings_52 (fun σ8 H locs fb_1 fr9 hH => ?_)
          have fb_0 : σ8 b = oB 0 [.ref (xad E (b + 1)), .ref (xad E (b + 2)), .ref (xad E (b + 3)), .ref (xad E (b + 4)), .ref (xad E (b + 5)), .int (iZ pn), .int (iZ nw), .int (iZ sh), .long (lZ wk)] := (fr9 b (by omega)).trans fb_0
          have fb_2 : σ8 (b + 2) = aI E 25 lk := (fr9 (b + 2) (by omega)).trans fb_2
          have fb_3 : σ8 (b + 3) = aI E 6 kp := (fr9 (b + 3) (by omega)).trans fb_3
          have fb_4 : σ8 (b + 4) = aI E 3 wc := (fr9 (b + 4) (by omega)).trans fb_4
          have fb_5 : σ8 (b + 5) = aI E 5 ro0 := (fr9 (b + 5) (by omega)).trans fb_5
          refine lv_iload hx hb dX1_replaceOpenings_53 (lv_at hl 0 rfl) ?_
          subst hQ
          exact x_iret hx hb hr hlocks hH (Nat.le_of_ble_eq_true rfl) (Nat.le_of_ble_eq_true rfl) ⟨(show (op ((r * 5) + c0)) = ((setF op lk kp wc pn nw sh wk r c0 o).1) from (by unfold setF; (repeat' split) <;> first | rfl | (exfalso; omega))), ⟨(ui op ((r * 5) + c0) o), lk, kp, wc, pn, nw, sh, wk, ⟨fb_0, fb_1, fb_2, fb_3, fb_4, _, fb_5⟩, (by unfold setF; (repeat' split) <;> first | rfl | (exfalso; omega))⟩, fun j hj0 => (fr9 j (by omega))⟩ dX1_replaceOpenings_55
        · refine x_bipush hx hb dX1_replaceOpenings_26 (by decide) ?_
          subst hQ
          exact x_iret hx hb hr hlocks hH (Nat.le_of_ble_eq_true rfl) (Nat.le_of_ble_eq_true rfl) ⟨(show (-2) = ((setF op lk kp wc pn nw sh wk r c0 o).1) from (by unfold setF; (repeat' split) <;> first | rfl | (exfalso; omega))), ⟨op, lk, kp, wc, pn, nw, sh, wk, ⟨fb_0, fb_1, fb_2, fb_3, fb_4, _, fb_5⟩, (by unfold setF; (repeat' split) <;> first | rfl | (exfalso; omega))⟩, fun j hj0 => rfl⟩ dX1_replaceOpenings_28
    · have c11 := of_decide_eq_false c11
      refine x_iconst hx hb dX1_replaceOpenings_14 ?_
      subst hQ
      exact x_iret hx hb hr hlocks hH (Nat.le_of_ble_eq_true rfl) (Nat.le_of_ble_eq_true rfl) ⟨(show (-1) = ((setF op lk kp wc pn nw sh wk r c0 o).1) from (by unfold setF; (repeat' split) <;> first | rfl | (exfalso; omega))), ⟨op, lk, kp, wc, pn, nw, sh, wk, ⟨fb_0, fb_1, fb_2, fb_3, fb_4, _, fb_5⟩, (by unfold setF; (repeat' split) <;> first | rfl | (exfalso; omega))⟩, fun j hj0 => rfl⟩ dX1_replaceOpenings_15

def rm_X1_turnOpenings : Room := { frames := 1, cells := 0, slots := 0, locals := 21 }
set_option maxRecDepth 100000 in
set_option maxHeartbeats 4000000 in
theorem c_X1_turnOpenings (l : Launch) (E : xE) (ST : xST) (hSF : SF ST) (σ : xW) (b : Nat) (r : Int) (c0 : Int) (q : Int) (op : Int → Int) (lk : Int → Int) (kp : Int → Int) (wc : Int → Int) (pn : Int) (nw : Int) (sh : Int) (wk : Int) (hr0 : bd E σ b op lk kp wc pn nw sh wk) (hb : b + 6 ≤ 85) (hB : BI op lk kp wc pn nw) (hr : rg r) (hc : rg c0) (ho : rg q) : CI l E ST yX1_turnOpenings wsX1_turnOpenings rm_X1_turnOpenings [.ref (xad E b), .int (iZ r), .int (iZ c0), .int (iZ q)] σ (fun (z : Int) (u : xW) => z = (turnF op lk kp wc pn nw sh wk r c0 q).1 ∧ (∃ (op1 lk1 kp1 wc1 : Int → Int) (pn1 nw1 sh1 wk1 : Int), bd E u b op1 lk1 kp1 wc1 pn1 nw1 sh1 wk1 ∧ ((op1, lk1, kp1, wc1, pn1, nw1, sh1, wk1) = (turnF op lk kp wc pn nw sh wk r c0 q).2)) ∧ ∀ j : Nat, (j < b ∨ b + 6 ≤ j) → u j = σ j) := by
  obtain ⟨fb_0, fb_1, fb_2, fb_3, fb_4, ro0, fb_5⟩ := hr0
  refine CI_of (by decide) rfl (Nat.le_of_ble_eq_true rfl) ?_
  intro p e s m args below meth c Q ls G hH hl hQ
  obtain ⟨hx, hb, hml, hown, hts, hK, hST, hlocks, hr, hno⟩ := G
  have hOK := hSF.1
  have hown : s.vm.findClass RX1 = some m.cls := hown
  have hl : lv_has ls 6 [(0, .ref (xad E b)), (1, .int (iZ r)), (2, .int (iZ c0)), (3, .int (iZ q))] := hl
  have hinX1 : ∀ w ∈ u_ws RX1 TX1 9, w ∈ wsX1_turnOpenings := fun w h => (List.mem_cons_of_mem _ (List.mem_append_right _ h))
  obtain ⟨hop, hlk, hkp, hwc, hpn, hnw⟩ := id hB
  refine lv_iload_n hx hb dX1_turnOpenings_0 rfl (lv_at hl 1 rfl) ?_
  refine x_cSNID (As := [.int (iZ r)]) (rest := []) hx hb hml hts hown hK hST hOK hH (c_X6_isLine l E ST hSF σ r  (by omega)) ⟨va_cnB (host := "BrambleShift") 1 hts gX1_turnOpenings_X6_isLine_n53 rfl rfl rfl (hSF.nest hST (List.mem_of_getElem? (i := 0) rfl)) (hts _ (List.mem_of_getElem? (i := 3) rfl)) (by decide +kernel) ⟨Nat.le_of_ble_eq_true rfl, Nat.le_of_ble_eq_true rfl⟩, hts _ (List.mem_of_getElem? (i := 2) rfl), trivial⟩ rfl hl.1 rfl (Nat.le_of_ble_eq_true rfl) dX1_turnOpenings_1 ⟨Nat.le_of_ble_eq_true rfl, Nat.le_of_ble_eq_true rfl⟩ (fun z u h => h) (fun H locs hH => ?_)
  refine x_ifb_eq (tgt := 14) hx hb dX1_turnOpenings_4 (by decide) (fun c4 => ?_) (fun c4 => ?_)
  · have c4 := of_decide_eq_false c4
    refine x_iconst hx hb dX1_turnOpenings_14 ?_
    subst hQ
    exact x_iret hx hb hr hlocks hH (Nat.le_of_ble_eq_true rfl) (Nat.le_of_ble_eq_true rfl) ⟨(show (-1) = ((turnF op lk kp wc pn nw sh wk r c0 q).1) from (by unfold turnF; (repeat' split) <;> first | rfl | exact ui_s | (exfalso; omega))), ⟨op, lk, kp, wc, pn, nw, sh, wk, ⟨fb_0, fb_1, fb_2, fb_3, fb_4, _, fb_5⟩, (by unfold turnF; (repeat' split) <;> first | rfl | (exfalso; omega))⟩, fun j hj0 => rfl⟩ dX1_turnOpenings_15
  · have c4 := of_decide_eq_true c4
    refine lv_iload_n hx hb dX1_turnOpenings_7 rfl (lv_at hl 2 rfl) ?_
    refine x_cSNID (As := [.int (iZ c0)]) (rest := []) hx hb hml hts hown hK hST hOK hH (c_X6_isLine l E ST hSF σ c0  (by omega)) ⟨va_cnB (host := "BrambleShift") 1 hts gX1_turnOpenings_X6_isLine_n53 rfl rfl rfl (hSF.nest hST (List.mem_of_getElem? (i := 0) rfl)) (hts _ (List.mem_of_getElem? (i := 3) rfl)) (by decide +kernel) ⟨Nat.le_of_ble_eq_true rfl, Nat.le_of_ble_eq_true rfl⟩, hts _ (List.mem_of_getElem? (i := 2) rfl), trivial⟩ rfl hl.1 rfl (Nat.le_of_ble_eq_true rfl) dX1_turnOpenings_8 ⟨Nat.le_of_ble_eq_true rfl, Nat.le_of_ble_eq_true rfl⟩ (fun z u h => h) (fun H locs hH => ?_)
    refine x_ifb_ne (tgt := 16) hx hb dX1_turnOpenings_11 (by decide) (fun c11 => ?_) (fun c11 => ?_)
    · have c11 := of_decide_eq_true c11
      refine lv_iload_n hx hb dX1_turnOpenings_16 rfl (lv_at hl 3 rfl) ?_
      refine x_iconst hx hb dX1_turnOpenings_17 ?_
      refine x_icmp_lt (tgt := 26) hx hb dX1_turnOpenings_18 (by decide) (by omega) (by decide) (fun c18 => ?_) (fun c18 => ?_)
      · refine x_bipush hx hb dX1_turnOpenings_26 (by decide) ?_
        subst hQ
        exact x_iret hx hb hr hlocks hH (Nat.le_of_ble_eq_true rfl) (Nat.le_of_ble_eq_true rfl) ⟨(show (-2) = ((turnF op lk kp wc pn nw sh wk r c0 q).1) from (by unfold turnF; (repeat' split) <;> first | rfl | exact ui_s | (exfalso; omega))), ⟨op, lk, kp, wc, pn, nw, sh, wk, ⟨fb_0, fb_1, fb_2, fb_3, fb_4, _, fb_5⟩, (by unfold turnF; (repeat' split) <;> first | rfl | (exfalso; omega))⟩, fun j hj0 => rfl⟩ dX1_turnOpenings_28
      · refine lv_iload_n hx hb dX1_turnOpenings_21 rfl (lv_at hl 3 rfl) ?_
        refine x_iconst hx hb dX1_turnOpenings_22 ?_
        refine x_icmp_lt (tgt := 29) hx hb dX1_turnOpenings_23 (by decide) (by omega) (by decide) (fun c23 => ?_) (fun c23 => ?_)
        · refine lv_iload_n hx hb dX1_turnOpenings_29 rfl (lv_at hl 1 rfl) ?_
          refine x_iconst hx hb dX1_turnOpenings_30 ?_
          refine x_imul hx hb dX1_turnOpenings_31 ?_
          refine lv_iload_n hx hb dX1_turnOpenings_32 rfl (lv_at hl 2 rfl) ?_
          refine x_iadd hx hb dX1_turnOpenings_33 ?_
          refine lv_istore (lv' := [(4, .int (iZ ((r * 5) + c0))), (0, .ref (xad E b)), (1, .int (iZ r)), (2, .int (iZ c0)), (3, .int (iZ q))]) hx hb dX1_turnOpenings_34 hl (by decide) rfl (fun ls hl => ?_)
          refine lv_aload_n hx hb dX1_turnOpenings_36 rfl (lv_at hl 1 rfl) ?_
          refine lv_iload hx hb dX1_turnOpenings_37 (lv_at hl 0 rfl) ?_
          refine x_cVID (As := [.int (iZ ((r * 5) + c0))]) (rest := []) hx hb hml hts hown hK hST hOK hH b (c_X1_isFixed l E ST hSF σ b ((r * 5) + c0) op lk kp wc pn nw sh wk ⟨fb_0, fb_1, fb_2, fb_3, fb_4, _, fb_5⟩ (by omega) (by omega)) (cwV 1 hts gX1_turnOpenings_X1_isFixed rfl rfl rfl (by decide +kernel) ⟨Nat.le_of_ble_eq_true rfl, Nat.le_of_ble_eq_true rfl⟩) (by omega) fb_0 rfl rfl hl.1 rfl (Nat.le_of_ble_eq_true rfl) dX1_turnOpenings_39 ⟨Nat.le_of_ble_eq_true rfl, Nat.le_of_ble_eq_true rfl⟩ (fun z u h => h) (fun H locs hH => ?_)
          refine x_ifb_eq (tgt := 48) hx hb dX1_turnOpenings_42 (by decide) (fun c42 => ?_) (fun c42 => ?_)
          · have c42 := of_decide_eq_false c42
            refine lv_aload_n hx hb dX1_turnOpenings_48 rfl (lv_at hl 1 rfl) ?_
            refine x_get hx hb hts hown hK hH b (by omega) fb_0 hinX1 rfl 0 (by decide) (List.mem_of_getElem? (i := 1) rfl) rfl dX1_turnOpenings_49 ?_
            refine lv_iload hx hb dX1_turnOpenings_52 (lv_at hl 0 rfl) ?_
            refine x_iald hx hb hK hH (b + 1) (by omega) fb_1 (by omega) (by omega) (by omega) dX1_turnOpenings_54 ?_
            have hv10 := hop ((r * 5) + c0)
            refine lv_iload_n hx hb dX1_turnOpenings_55 rfl (lv_at hl 4 rfl) ?_
            refine x_ishl hx hb dX1_turnOpenings_56 ?_
            refine lv_istore (lv' := [(5, .int (iZ (ishlZ (op ((r * 5) + c0)) q))), (4, .int (iZ ((r * 5) + c0))), (0, .ref (xad E b)), (1, .int (iZ r)), (2, .int (iZ c0)), (3, .int (iZ q))]) hx hb dX1_turnOpenings_57 hl (by decide) rfl (fun ls hl => ?_)
            refine lv_aload_n hx hb dX1_turnOpenings_59 rfl (lv_at hl 2 rfl) ?_
            refine x_get hx hb hts hown hK hH b (by omega) fb_0 hinX1 rfl 0 (by decide) (List.mem_of_getElem? (i := 1) rfl) rfl dX1_turnOpenings_60 ?_
            refine lv_iload hx hb dX1_turnOpenings_63 (lv_at hl 1 rfl) ?_
            refine lv_iload hx hb dX1_turnOpenings_65 (lv_at hl 0 rfl) ?_
            refine lv_iload hx hb dX1_turnOpenings_67 (lv_at hl 0 rfl) ?_
            refine x_iconst hx hb dX1_turnOpenings_69 ?_
            refine x_ishr hx hb dX1_turnOpenings_70 ?_
            refine x_ior hx hb dX1_turnOpenings_71 ?_
            refine x_bipush hx hb dX1_turnOpenings_72 (by decide) ?_
            refine x_iand hx hb dX1_turnOpenings_74 ?_
            refine x_iast hx hb hK hH (b + 1) (by omega) fb_1 (by omega) (by omega) (by omega) dX1_turnOpenings_75 (fun σ11 H locs fb_1 fr12 hH => ?_)
            have fb_0 : σ11 b = oB 0 [.ref (xad E (b + 1)), .ref (xad E (b + 2)), .ref (xad E (b + 3)), .ref (xad E (b + 4)), .ref (xad E (b + 5)), .int (iZ pn), .int (iZ nw), .int (iZ sh), .long (lZ wk)] := (fr12 b (by omega)).trans fb_0
            have fb_2 : σ11 (b + 2) = aI E 25 lk := (fr12 (b + 2) (by omega)).trans fb_2
            have fb_3 : σ11 (b + 3) = aI E 6 kp := (fr12 (b + 3) (by omega)).trans fb_3
            have fb_4 : σ11 (b + 4) = aI E 3 wc := (fr12 (b + 4) (by omega)).trans fb_4
            have fb_5 : σ11 (b + 5) = aI E 5 ro0 := (fr12 (b + 5) (by omega)).trans fb_5
            refine lv_aload_n hx hb dX1_turnOpenings_76 rfl (lv_at hl 2 rfl) ?_
            refine x_get hx hb hts hown hK hH b (by omega) fb_0 hinX1 rfl 0 (by decide) (List.mem_of_getElem? (i := 1) rfl) rfl dX1_turnOpenings_77 ?_
            refine lv_iload hx hb dX1_turnOpenings_80 (lv_at hl 1 rfl) ?_
            refine x_iald hx hb hK hH (b + 1) (by omega) fb_1 (by omega) (by omega) (by omega) dX1_turnOpenings_82 ?_
            subst hQ
            exact x_iret hx hb hr hlocks hH (Nat.le_of_ble_eq_true rfl) (Nat.le_of_ble_eq_true rfl) ⟨(show ((ui op ((r * 5) + c0) (iandZ (iorZ (ishlZ (op ((r * 5) + c0)) q) (ishrZ (ishlZ (op ((r * 5) + c0)) q) 4)) 15)) ((r * 5) + c0)) = ((turnF op lk kp wc pn nw sh wk r c0 q).1) from (by unfold turnF; (repeat' split) <;> first | rfl | exact ui_s | (exfalso; omega))), ⟨(ui op ((r * 5) + c0) (iandZ (iorZ (ishlZ (op ((r * 5) + c0)) q) (ishrZ (ishlZ (op ((r * 5) + c0)) q) 4)) 15)), lk, kp, wc, pn, nw, sh, wk, ⟨fb_0, fb_1, fb_2, fb_3, fb_4, _, fb_5⟩, (by unfold turnF; (repeat' split) <;> first | rfl | (exfalso; omega))⟩, fun j hj0 => (fr12 j (by omega))⟩ dX1_turnOpenings_83
          · have c42 := of_decide_eq_true c42
            refine x_bipush hx hb dX1_turnOpenings_45 (by decide) ?_
            subst hQ
            exact x_iret hx hb hr hlocks hH (Nat.le_of_ble_eq_true rfl) (Nat.le_of_ble_eq_true rfl) ⟨(show (-3) = ((turnF op lk kp wc pn nw sh wk r c0 q).1) from (by unfold turnF; (repeat' split) <;> first | rfl | exact ui_s | (exfalso; omega))), ⟨op, lk, kp, wc, pn, nw, sh, wk, ⟨fb_0, fb_1, fb_2, fb_3, fb_4, _, fb_5⟩, (by unfold turnF; (repeat' split) <;> first | rfl | (exfalso; omega))⟩, fun j hj0 => rfl⟩ dX1_turnOpenings_47
        · refine x_bipush hx hb dX1_turnOpenings_26 (by decide) ?_
          subst hQ
          exact x_iret hx hb hr hlocks hH (Nat.le_of_ble_eq_true rfl) (Nat.le_of_ble_eq_true rfl) ⟨(show (-2) = ((turnF op lk kp wc pn nw sh wk r c0 q).1) from (by unfold turnF; (repeat' split) <;> first | rfl | exact ui_s | (exfalso; omega))), ⟨op, lk, kp, wc, pn, nw, sh, wk, ⟨fb_0, fb_1, fb_2, fb_3, fb_4, _, fb_5⟩, (by unfold turnF; (repeat' split) <;> first | rfl | (exfalso; omega))⟩, fun j hj0 => rfl⟩ dX1_turnOpenings_28
    · have c11 := of_decide_eq_false c11
      refine x_iconst hx hb dX1_turnOpenings_14 ?_
      subst hQ
      exact x_iret hx hb hr hlocks hH (Nat.le_of_ble_eq_true rfl) (Nat.le_of_ble_eq_true rfl) ⟨(show (-1) = ((turnF op lk kp wc pn nw sh wk r c0 q).1) from (by unfold turnF; (repeat' split) <;> first | rfl | exact ui_s | (exfalso; omega))), ⟨op, lk, kp, wc, pn, nw, sh, wk, ⟨fb_0, fb_1, fb_2, fb_3, fb_4, _, fb_5⟩, (by unfold turnF; (repeat' split) <;> first | rfl | (exfalso; omega))⟩, fun j hj0 => rfl⟩ dX1_turnOpenings_15

def rm_X1_fixTile : Room := { frames := 1, cells := 0, slots := 0, locals := 21 }
set_option maxRecDepth 100000 in
set_option maxHeartbeats 4000000 in
theorem c_X1_fixTile (l : Launch) (E : xE) (ST : xST) (hSF : SF ST) (σ : xW) (b : Nat) (r : Int) (c0 : Int) (op : Int → Int) (lk : Int → Int) (kp : Int → Int) (wc : Int → Int) (pn : Int) (nw : Int) (sh : Int) (wk : Int) (hr0 : bd E σ b op lk kp wc pn nw sh wk) (hb : b + 6 ≤ 85) (hB : BI op lk kp wc pn nw) (hr : rg r) (hc : rg c0) : CI l E ST yX1_fixTile wsX1_fixTile rm_X1_fixTile [.ref (xad E b), .int (iZ r), .int (iZ c0)] σ (fun (z : Int) (u : xW) => z = (fixF op lk kp wc pn nw sh wk r c0).1 ∧ (∃ (op1 lk1 kp1 wc1 : Int → Int) (pn1 nw1 sh1 wk1 : Int), bd E u b op1 lk1 kp1 wc1 pn1 nw1 sh1 wk1 ∧ ((op1, lk1, kp1, wc1, pn1, nw1, sh1, wk1) = (fixF op lk kp wc pn nw sh wk r c0).2)) ∧ ∀ j : Nat, (j < b ∨ b + 6 ≤ j) → u j = σ j) := by
  obtain ⟨fb_0, fb_1, fb_2, fb_3, fb_4, ro0, fb_5⟩ := hr0
  refine CI_of (by decide) rfl (Nat.le_of_ble_eq_true rfl) ?_
  intro p e s m args below meth c Q ls G hH hl hQ
  obtain ⟨hx, hb, hml, hown, hts, hK, hST, hlocks, hr, hno⟩ := G
  have hOK := hSF.1
  have hown : s.vm.findClass RX1 = some m.cls := hown
  have hl : lv_has ls 4 [(0, .ref (xad E b)), (1, .int (iZ r)), (2, .int (iZ c0))] := hl
  have hinX1 : ∀ w ∈ u_ws RX1 TX1 9, w ∈ wsX1_fixTile := fun w h => (List.mem_cons_of_mem _ (List.mem_append_right _ h))
  obtain ⟨hop, hlk, hkp, hwc, hpn, hnw⟩ := id hB
  refine lv_iload_n hx hb dX1_fixTile_0 rfl (lv_at hl 1 rfl) ?_
  refine x_cSNID (As := [.int (iZ r)]) (rest := []) hx hb hml hts hown hK hST hOK hH (c_X6_isLine l E ST hSF σ r  (by omega)) ⟨va_cnB (host := "BrambleShift") 1 hts gX1_fixTile_X6_isLine_n53 rfl rfl rfl (hSF.nest hST (List.mem_of_getElem? (i := 0) rfl)) (hts _ (List.mem_of_getElem? (i := 3) rfl)) (by decide +kernel) ⟨Nat.le_of_ble_eq_true rfl, Nat.le_of_ble_eq_true rfl⟩, hts _ (List.mem_of_getElem? (i := 2) rfl), trivial⟩ rfl hl.1 rfl (Nat.le_of_ble_eq_true rfl) dX1_fixTile_1 ⟨Nat.le_of_ble_eq_true rfl, Nat.le_of_ble_eq_true rfl⟩ (fun z u h => h) (fun H locs hH => ?_)
  refine x_ifb_eq (tgt := 14) hx hb dX1_fixTile_4 (by decide) (fun c4 => ?_) (fun c4 => ?_)
  · have c4 := of_decide_eq_false c4
    refine x_iconst hx hb dX1_fixTile_14 ?_
    subst hQ
    exact x_iret hx hb hr hlocks hH (Nat.le_of_ble_eq_true rfl) (Nat.le_of_ble_eq_true rfl) ⟨(show (-1) = ((fixF op lk kp wc pn nw sh wk r c0).1) from (by unfold fixF; (repeat' split) <;> first | rfl | (exfalso; omega))), ⟨op, lk, kp, wc, pn, nw, sh, wk, ⟨fb_0, fb_1, fb_2, fb_3, fb_4, _, fb_5⟩, (by unfold fixF; (repeat' split) <;> first | rfl | (exfalso; omega))⟩, fun j hj0 => rfl⟩ dX1_fixTile_15
  · have c4 := of_decide_eq_true c4
    refine lv_iload_n hx hb dX1_fixTile_7 rfl (lv_at hl 2 rfl) ?_
    refine x_cSNID (As := [.int (iZ c0)]) (rest := []) hx hb hml hts hown hK hST hOK hH (c_X6_isLine l E ST hSF σ c0  (by omega)) ⟨va_cnB (host := "BrambleShift") 1 hts gX1_fixTile_X6_isLine_n53 rfl rfl rfl (hSF.nest hST (List.mem_of_getElem? (i := 0) rfl)) (hts _ (List.mem_of_getElem? (i := 3) rfl)) (by decide +kernel) ⟨Nat.le_of_ble_eq_true rfl, Nat.le_of_ble_eq_true rfl⟩, hts _ (List.mem_of_getElem? (i := 2) rfl), trivial⟩ rfl hl.1 rfl (Nat.le_of_ble_eq_true rfl) dX1_fixTile_8 ⟨Nat.le_of_ble_eq_true rfl, Nat.le_of_ble_eq_true rfl⟩ (fun z u h => h) (fun H locs hH => ?_)
    refine x_ifb_ne (tgt := 16) hx hb dX1_fixTile_11 (by decide) (fun c11 => ?_) (fun c11 => ?_)
    · have c11 := of_decide_eq_true c11
      refine lv_iload_n hx hb dX1_fixTile_16 rfl (lv_at hl 1 rfl) ?_
      refine x_iconst hx hb dX1_fixTile_17 ?_
      refine x_imul hx hb dX1_fixTile_18 ?_
      refine lv_iload_n hx hb dX1_fixTile_19 rfl (lv_at hl 2 rfl) ?_
      refine x_iadd hx hb dX1_fixTile_20 ?_
      refine lv_istore_n (lv' := [(3, .int (iZ ((r * 5) + c0))), (0, .ref (xad E b)), (1, .int (iZ r)), (2, .int (iZ c0))]) hx hb dX1_fixTile_21 rfl hl (by decide) rfl (fun ls hl => ?_)
      refine lv_aload_n hx hb dX1_fixTile_22 rfl (lv_at hl 1 rfl) ?_
      refine lv_iload_n hx hb dX1_fixTile_23 rfl (lv_at hl 0 rfl) ?_
      refine x_cVID (As := [.int (iZ ((r * 5) + c0))]) (rest := []) hx hb hml hts hown hK hST hOK hH b (c_X1_isFixed l E ST hSF σ b ((r * 5) + c0) op lk kp wc pn nw sh wk ⟨fb_0, fb_1, fb_2, fb_3, fb_4, _, fb_5⟩ (by omega) (by omega)) (cwV 1 hts gX1_fixTile_X1_isFixed rfl rfl rfl (by decide +kernel) ⟨Nat.le_of_ble_eq_true rfl, Nat.le_of_ble_eq_true rfl⟩) (by omega) fb_0 rfl rfl hl.1 rfl (Nat.le_of_ble_eq_true rfl) dX1_fixTile_24 ⟨Nat.le_of_ble_eq_true rfl, Nat.le_of_ble_eq_true rfl⟩ (fun z u h => h) (fun H locs hH => ?_)
      refine x_ifb_eq (tgt := 33) hx hb dX1_fixTile_27 (by decide) (fun c27 => ?_) (fun c27 => ?_)
      · have c27 := of_decide_eq_false c27
        refine lv_aload_n hx hb dX1_fixTile_33 rfl (lv_at hl 1 rfl) ?_
        refine lv_dup hx hb dX1_fixTile_34 rfl ?_
        refine x_get hx hb hts hown hK hH b (by omega) fb_0 hinX1 rfl 5 (by decide) (List.mem_of_getElem? (i := 1) rfl) rfl dX1_fixTile_35 ?_
        refine x_iconst hx hb dX1_fixTile_38 ?_
        refine lv_iload_n hx hb dX1_fixTile_39 rfl (lv_at hl 0 rfl) ?_
        refine x_ishl hx hb dX1_fixTile_40 ?_
        refine x_ior hx hb dX1_fixTile_41 ?_
        refine x_put (fs' := [.ref (xad E (b + 1)), .ref (xad E (b + 2)), .ref (xad E (b + 3)), .ref (xad E (b + 4)), .ref (xad E (b + 5)), .int (iZ (iorZ pn (ishlZ 1 ((r * 5) + c0)))), .int (iZ nw), .int (iZ sh), .long (lZ wk)]) hx hb hts hown hK hH b (by omega) fb_0 hinX1 rfl tyX1 tyX1_ok nmX1 5 (by decide) (List.mem_of_getElem? (i := 1) rfl) rfl (ty := .int) (by decide +kernel) rfl rfl (Nat.le_of_ble_eq_true rfl) rfl dX1_fixTile_42 (fun σ10 H locs fb_0 fr11 hH => ?_)
        have fb_1 : σ10 (b + 1) = aI E 25 op := (fr11 (b + 1) (by omega)).trans fb_1
        have fb_2 : σ10 (b + 2) = aI E 25 lk := (fr11 (b + 2) (by omega)).trans fb_2
        have fb_3 : σ10 (b + 3) = aI E 6 kp := (fr11 (b + 3) (by omega)).trans fb_3
        have fb_4 : σ10 (b + 4) = aI E 3 wc := (fr11 (b + 4) (by omega)).trans fb_4
        have fb_5 : σ10 (b + 5) = aI E 5 ro0 := (fr11 (b + 5) (by omega)).trans fb_5
        refine lv_aload_n hx hb dX1_fixTile_45 rfl (lv_at hl 1 rfl) ?_
        refine x_get hx hb hts hown hK hH b (by omega) fb_0 hinX1 rfl 5 (by decide) (List.mem_of_getElem? (i := 1) rfl) rfl dX1_fixTile_46 ?_
        refine x_cSID (As := [.int (iZ (iorZ pn (ishlZ 1 ((r * 5) + c0))))]) (rest := []) hx hb hml hts hown hK hST hOK hH (c_J6_bitCount_0f7a4 l E ST hSF σ10 (iorZ pn (ishlZ 1 ((r * 5) + c0)))  ) (va_cwS 1 hts gX1_fixTile_J6_bitCount_0f7a4 rfl rfl rfl (by decide +kernel) ⟨Nat.le_of_ble_eq_true rfl, Nat.le_of_ble_eq_true rfl⟩) rfl hl.1 rfl (Nat.le_of_ble_eq_true rfl) dX1_fixTile_49 ⟨Nat.le_of_ble_eq_true rfl, Nat.le_of_ble_eq_true rfl⟩ (fun z u h => h) (fun H locs hH => ?_)
        subst hQ
        exact x_iret hx hb hr hlocks hH (Nat.le_of_ble_eq_true rfl) (Nat.le_of_ble_eq_true rfl) ⟨(show (bcZ (iorZ pn (ishlZ 1 ((r * 5) + c0)))) = ((fixF op lk kp wc pn nw sh wk r c0).1) from (by unfold fixF; (repeat' split) <;> first | rfl | (exfalso; omega))), ⟨op, lk, kp, wc, (iorZ pn (ishlZ 1 ((r * 5) + c0))), nw, sh, wk, ⟨fb_0, fb_1, fb_2, fb_3, fb_4, _, fb_5⟩, (by unfold fixF; (repeat' split) <;> first | rfl | (exfalso; omega))⟩, fun j hj0 => (fr11 j (by omega))⟩ dX1_fixTile_52
      · have c27 := of_decide_eq_true c27
        refine x_bipush hx hb dX1_fixTile_30 (by decide) ?_
        subst hQ
        exact x_iret hx hb hr hlocks hH (Nat.le_of_ble_eq_true rfl) (Nat.le_of_ble_eq_true rfl) ⟨(show (-3) = ((fixF op lk kp wc pn nw sh wk r c0).1) from (by unfold fixF; (repeat' split) <;> first | rfl | (exfalso; omega))), ⟨op, lk, kp, wc, pn, nw, sh, wk, ⟨fb_0, fb_1, fb_2, fb_3, fb_4, _, fb_5⟩, (by unfold fixF; (repeat' split) <;> first | rfl | (exfalso; omega))⟩, fun j hj0 => rfl⟩ dX1_fixTile_32
    · have c11 := of_decide_eq_false c11
      refine x_iconst hx hb dX1_fixTile_14 ?_
      subst hQ
      exact x_iret hx hb hr hlocks hH (Nat.le_of_ble_eq_true rfl) (Nat.le_of_ble_eq_true rfl) ⟨(show (-1) = ((fixF op lk kp wc pn nw sh wk r c0).1) from (by unfold fixF; (repeat' split) <;> first | rfl | (exfalso; omega))), ⟨op, lk, kp, wc, pn, nw, sh, wk, ⟨fb_0, fb_1, fb_2, fb_3, fb_4, _, fb_5⟩, (by unfold fixF; (repeat' split) <;> first | rfl | (exfalso; omega))⟩, fun j hj0 => rfl⟩ dX1_fixTile_15

def rm_X1_freeTile : Room := { frames := 1, cells := 0, slots := 0, locals := 21 }
set_option maxRecDepth 100000 in
set_option maxHeartbeats 4000000 in
theorem c_X1_freeTile (l : Launch) (E : xE) (ST : xST) (hSF : SF ST) (σ : xW) (b : Nat) (r : Int) (c0 : Int) (op : Int → Int) (lk : Int → Int) (kp : Int → Int) (wc : Int → Int) (pn : Int) (nw : Int) (sh : Int) (wk : Int) (hr0 : bd E σ b op lk kp wc pn nw sh wk) (hb : b + 6 ≤ 85) (hB : BI op lk kp wc pn nw) (hr : rg r) (hc : rg c0) : CI l E ST yX1_freeTile wsX1_freeTile rm_X1_freeTile [.ref (xad E b), .int (iZ r), .int (iZ c0)] σ (fun (z : Int) (u : xW) => z = (freeF op lk kp wc pn nw sh wk r c0).1 ∧ (∃ (op1 lk1 kp1 wc1 : Int → Int) (pn1 nw1 sh1 wk1 : Int), bd E u b op1 lk1 kp1 wc1 pn1 nw1 sh1 wk1 ∧ ((op1, lk1, kp1, wc1, pn1, nw1, sh1, wk1) = (freeF op lk kp wc pn nw sh wk r c0).2)) ∧ ∀ j : Nat, (j < b ∨ b + 6 ≤ j) → u j = σ j) := by
  obtain ⟨fb_0, fb_1, fb_2, fb_3, fb_4, ro0, fb_5⟩ := hr0
  refine CI_of (by decide) rfl (Nat.le_of_ble_eq_true rfl) ?_
  intro p e s m args below meth c Q ls G hH hl hQ
  obtain ⟨hx, hb, hml, hown, hts, hK, hST, hlocks, hr, hno⟩ := G
  have hOK := hSF.1
  have hown : s.vm.findClass RX1 = some m.cls := hown
  have hl : lv_has ls 4 [(0, .ref (xad E b)), (1, .int (iZ r)), (2, .int (iZ c0))] := hl
  have hinX1 : ∀ w ∈ u_ws RX1 TX1 9, w ∈ wsX1_freeTile := fun w h => (List.mem_cons_of_mem _ (List.mem_append_right _ h))
  obtain ⟨hop, hlk, hkp, hwc, hpn, hnw⟩ := id hB
  refine lv_iload_n hx hb dX1_freeTile_0 rfl (lv_at hl 1 rfl) ?_
  refine x_cSNID (As := [.int (iZ r)]) (rest := []) hx hb hml hts hown hK hST hOK hH (c_X6_isLine l E ST hSF σ r  (by omega)) ⟨va_cnB (host := "BrambleShift") 1 hts gX1_freeTile_X6_isLine_n53 rfl rfl rfl (hSF.nest hST (List.mem_of_getElem? (i := 0) rfl)) (hts _ (List.mem_of_getElem? (i := 3) rfl)) (by decide +kernel) ⟨Nat.le_of_ble_eq_true rfl, Nat.le_of_ble_eq_true rfl⟩, hts _ (List.mem_of_getElem? (i := 2) rfl), trivial⟩ rfl hl.1 rfl (Nat.le_of_ble_eq_true rfl) dX1_freeTile_1 ⟨Nat.le_of_ble_eq_true rfl, Nat.le_of_ble_eq_true rfl⟩ (fun z u h => h) (fun H locs hH => ?_)
  refine x_ifb_eq (tgt := 14) hx hb dX1_freeTile_4 (by decide) (fun c4 => ?_) (fun c4 => ?_)
  · have c4 := of_decide_eq_false c4
    refine x_iconst hx hb dX1_freeTile_14 ?_
    subst hQ
    exact x_iret hx hb hr hlocks hH (Nat.le_of_ble_eq_true rfl) (Nat.le_of_ble_eq_true rfl) ⟨(show (-1) = ((freeF op lk kp wc pn nw sh wk r c0).1) from (by unfold freeF; (repeat' split) <;> first | rfl | (exfalso; omega))), ⟨op, lk, kp, wc, pn, nw, sh, wk, ⟨fb_0, fb_1, fb_2, fb_3, fb_4, _, fb_5⟩, (by unfold freeF; (repeat' split) <;> first | rfl | (exfalso; omega))⟩, fun j hj0 => rfl⟩ dX1_freeTile_15
  · have c4 := of_decide_eq_true c4
    refine lv_iload_n hx hb dX1_freeTile_7 rfl (lv_at hl 2 rfl) ?_
    refine x_cSNID (As := [.int (iZ c0)]) (rest := []) hx hb hml hts hown hK hST hOK hH (c_X6_isLine l E ST hSF σ c0  (by omega)) ⟨va_cnB (host := "BrambleShift") 1 hts gX1_freeTile_X6_isLine_n53 rfl rfl rfl (hSF.nest hST (List.mem_of_getElem? (i := 0) rfl)) (hts _ (List.mem_of_getElem? (i := 3) rfl)) (by decide +kernel) ⟨Nat.le_of_ble_eq_true rfl, Nat.le_of_ble_eq_true rfl⟩, hts _ (List.mem_of_getElem? (i := 2) rfl), trivial⟩ rfl hl.1 rfl (Nat.le_of_ble_eq_true rfl) dX1_freeTile_8 ⟨Nat.le_of_ble_eq_true rfl, Nat.le_of_ble_eq_true rfl⟩ (fun z u h => h) (fun H locs hH => ?_)
    refine x_ifb_ne (tgt := 16) hx hb dX1_freeTile_11 (by decide) (fun c11 => ?_) (fun c11 => ?_)
    · have c11 := of_decide_eq_true c11
      refine lv_iload_n hx hb dX1_freeTile_16 rfl (lv_at hl 1 rfl) ?_
      refine x_iconst hx hb dX1_freeTile_17 ?_
      refine x_imul hx hb dX1_freeTile_18 ?_
      refine lv_iload_n hx hb dX1_freeTile_19 rfl (lv_at hl 2 rfl) ?_
      refine x_iadd hx hb dX1_freeTile_20 ?_
      refine lv_istore_n (lv' := [(3, .int (iZ ((r * 5) + c0))), (0, .ref (xad E b)), (1, .int (iZ r)), (2, .int (iZ c0))]) hx hb dX1_freeTile_21 rfl hl (by decide) rfl (fun ls hl => ?_)
      refine lv_aload_n hx hb dX1_freeTile_22 rfl (lv_at hl 1 rfl) ?_
      refine lv_iload_n hx hb dX1_freeTile_23 rfl (lv_at hl 0 rfl) ?_
      refine x_cVID (As := [.int (iZ ((r * 5) + c0))]) (rest := []) hx hb hml hts hown hK hST hOK hH b (c_X1_isFixed l E ST hSF σ b ((r * 5) + c0) op lk kp wc pn nw sh wk ⟨fb_0, fb_1, fb_2, fb_3, fb_4, _, fb_5⟩ (by omega) (by omega)) (cwV 1 hts gX1_freeTile_X1_isFixed rfl rfl rfl (by decide +kernel) ⟨Nat.le_of_ble_eq_true rfl, Nat.le_of_ble_eq_true rfl⟩) (by omega) fb_0 rfl rfl hl.1 rfl (Nat.le_of_ble_eq_true rfl) dX1_freeTile_24 ⟨Nat.le_of_ble_eq_true rfl, Nat.le_of_ble_eq_true rfl⟩ (fun z u h => h) (fun H locs hH => ?_)
      refine x_ifb_ne (tgt := 33) hx hb dX1_freeTile_27 (by decide) (fun c27 => ?_) (fun c27 => ?_)
      · have c27 := of_decide_eq_true c27
        refine lv_aload_n hx hb dX1_freeTile_33 rfl (lv_at hl 1 rfl) ?_
        refine lv_dup hx hb dX1_freeTile_34 rfl ?_
        refine x_get hx hb hts hown hK hH b (by omega) fb_0 hinX1 rfl 5 (by decide) (List.mem_of_getElem? (i := 1) rfl) rfl dX1_freeTile_35 ?_
        refine x_iconst hx hb dX1_freeTile_38 ?_
        refine lv_iload_n hx hb dX1_freeTile_39 rfl (lv_at hl 0 rfl) ?_
        refine x_ishl hx hb dX1_freeTile_40 ?_
        refine x_iconst hx hb dX1_freeTile_41 ?_
        refine x_ixor hx hb dX1_freeTile_42 ?_
        refine x_iand hx hb dX1_freeTile_43 ?_
        refine x_put (fs' := [.ref (xad E (b + 1)), .ref (xad E (b + 2)), .ref (xad E (b + 3)), .ref (xad E (b + 4)), .ref (xad E (b + 5)), .int (iZ (iandZ pn (ixorZ (ishlZ 1 ((r * 5) + c0)) (-1)))), .int (iZ nw), .int (iZ sh), .long (lZ wk)]) hx hb hts hown hK hH b (by omega) fb_0 hinX1 rfl tyX1 tyX1_ok nmX1 5 (by decide) (List.mem_of_getElem? (i := 1) rfl) rfl (ty := .int) (by decide +kernel) rfl rfl (Nat.le_of_ble_eq_true rfl) rfl dX1_freeTile_44 (fun σ10 H locs fb_0 fr11 hH => ?_)
        have fb_1 : σ10 (b + 1) = aI E 25 op := (fr11 (b + 1) (by omega)).trans fb_1
        have fb_2 : σ10 (b + 2) = aI E 25 lk := (fr11 (b + 2) (by omega)).trans fb_2
        have fb_3 : σ10 (b + 3) = aI E 6 kp := (fr11 (b + 3) (by omega)).trans fb_3
        have fb_4 : σ10 (b + 4) = aI E 3 wc := (fr11 (b + 4) (by omega)).trans fb_4
        have fb_5 : σ10 (b + 5) = aI E 5 ro0 := (fr11 (b + 5) (by omega)).trans fb_5
        refine lv_aload_n hx hb dX1_freeTile_47 rfl (lv_at hl 1 rfl) ?_
        refine x_get hx hb hts hown hK hH b (by omega) fb_0 hinX1 rfl 5 (by decide) (List.mem_of_getElem? (i := 1) rfl) rfl dX1_freeTile_48 ?_
        refine x_cSID (As := [.int (iZ (iandZ pn (ixorZ (ishlZ 1 ((r * 5) + c0)) (-1))))]) (rest := []) hx hb hml hts hown hK hST hOK hH (c_J6_bitCount_0f7a4 l E ST hSF σ10 (iandZ pn (ixorZ (ishlZ 1 ((r * 5) + c0)) (-1)))  ) (va_cwS 1 hts gX1_freeTile_J6_bitCount_0f7a4 rfl rfl rfl (by decide +kernel) ⟨Nat.le_of_ble_eq_true rfl, Nat.le_of_ble_eq_true rfl⟩) rfl hl.1 rfl (Nat.le_of_ble_eq_true rfl) dX1_freeTile_51 ⟨Nat.le_of_ble_eq_true rfl, Nat.le_of_ble_eq_true rfl⟩ (fun z u h => h) (fun H locs hH => ?_)
        subst hQ
        exact x_iret hx hb hr hlocks hH (Nat.le_of_ble_eq_true rfl) (Nat.le_of_ble_eq_true rfl) ⟨(show (bcZ (iandZ pn (ixorZ (ishlZ 1 ((r * 5) + c0)) (-1)))) = ((freeF op lk kp wc pn nw sh wk r c0).1) from (by unfold freeF; (repeat' split) <;> first | rfl | (exfalso; omega))), ⟨op, lk, kp, wc, (iandZ pn (ixorZ (ishlZ 1 ((r * 5) + c0)) (-1))), nw, sh, wk, ⟨fb_0, fb_1, fb_2, fb_3, fb_4, _, fb_5⟩, (by unfold freeF; (repeat' split) <;> first | rfl | (exfalso; omega))⟩, fun j hj0 => (fr11 j (by omega))⟩ dX1_freeTile_54
      · have c27 := of_decide_eq_false c27
        refine x_bipush hx hb dX1_freeTile_30 (by decide) ?_
        subst hQ
        exact x_iret hx hb hr hlocks hH (Nat.le_of_ble_eq_true rfl) (Nat.le_of_ble_eq_true rfl) ⟨(show (-3) = ((freeF op lk kp wc pn nw sh wk r c0).1) from (by unfold freeF; (repeat' split) <;> first | rfl | (exfalso; omega))), ⟨op, lk, kp, wc, pn, nw, sh, wk, ⟨fb_0, fb_1, fb_2, fb_3, fb_4, _, fb_5⟩, (by unfold freeF; (repeat' split) <;> first | rfl | (exfalso; omega))⟩, fun j hj0 => rfl⟩ dX1_freeTile_32
    · have c11 := of_decide_eq_false c11
      refine x_iconst hx hb dX1_freeTile_14 ?_
      subst hQ
      exact x_iret hx hb hr hlocks hH (Nat.le_of_ble_eq_true rfl) (Nat.le_of_ble_eq_true rfl) ⟨(show (-1) = ((freeF op lk kp wc pn nw sh wk r c0).1) from (by unfold freeF; (repeat' split) <;> first | rfl | (exfalso; omega))), ⟨op, lk, kp, wc, pn, nw, sh, wk, ⟨fb_0, fb_1, fb_2, fb_3, fb_4, _, fb_5⟩, (by unfold freeF; (repeat' split) <;> first | rfl | (exfalso; omega))⟩, fun j hj0 => rfl⟩ dX1_freeTile_15

def rm_X1_moveRow : Room := { frames := 4, cells := 0, slots := 0, locals := 96 }
set_option maxRecDepth 100000 in
set_option maxHeartbeats 4000000 in
theorem c_X1_moveRow (l : Launch) (E : xE) (ST : xST) (hSF : SF ST) (σ : xW) (b : Nat) (r : Int) (st : Int) (op : Int → Int) (lk : Int → Int) (kp : Int → Int) (wc : Int → Int) (pn : Int) (nw : Int) (sh : Int) (wk : Int) (hr0 : bd E σ b op lk kp wc pn nw sh wk) (hb : b + 6 ≤ 85) (hB : BI op lk kp wc pn nw) (hr : rg r) (hst : rg st) : CI l E ST yX1_moveRow wsX1_moveRow rm_X1_moveRow [.ref (xad E b), .int (iZ r), .int (iZ st)] σ (fun (z : Int) (u : xW) => z = (rowF op lk kp wc pn nw sh wk r st).1 ∧ (∃ (op1 lk1 kp1 wc1 : Int → Int) (pn1 nw1 sh1 wk1 : Int), bd E u b op1 lk1 kp1 wc1 pn1 nw1 sh1 wk1 ∧ ((op1, lk1, kp1, wc1, pn1, nw1, sh1, wk1) = (rowF op lk kp wc pn nw sh wk r st).2)) ∧ ∀ j : Nat, (j < b ∨ b + 6 ≤ j) → u j = σ j) := by
  obtain ⟨fb_0, fb_1, fb_2, fb_3, fb_4, ro0, fb_5⟩ := hr0
  refine CI_of (by decide) rfl (Nat.le_of_ble_eq_true rfl) ?_
  intro p e s m args below meth c Q ls G hH hl hQ
  obtain ⟨hx, hb, hml, hown, hts, hK, hST, hlocks, hr, hno⟩ := G
  have hOK := hSF.1
  have hown : s.vm.findClass RX1 = some m.cls := hown
  have hl : lv_has ls 3 [(0, .ref (xad E b)), (1, .int (iZ r)), (2, .int (iZ st))] := hl
  obtain ⟨hop, hlk, hkp, hwc, hpn, hnw⟩ := id hB
  refine lv_iload_n hx hb dX1_moveRow_0 rfl (lv_at hl 1 rfl) ?_
  refine x_cSNID (As := [.int (iZ r)]) (rest := []) hx hb hml hts hown hK hST hOK hH (c_X6_isLine l E ST hSF σ r  (by omega)) ⟨va_cnB (host := "BrambleShift") 1 hts gX1_moveRow_X6_isLine_n53 rfl rfl rfl (hSF.nest hST (List.mem_of_getElem? (i := 0) rfl)) (hts _ (List.mem_of_getElem? (i := 2) rfl)) (by decide +kernel) ⟨Nat.le_of_ble_eq_true rfl, Nat.le_of_ble_eq_true rfl⟩, hts _ (List.mem_of_getElem? (i := 1) rfl), trivial⟩ rfl hl.1 rfl (Nat.le_of_ble_eq_true rfl) dX1_moveRow_1 ⟨Nat.le_of_ble_eq_true rfl, Nat.le_of_ble_eq_true rfl⟩ (fun z u h => h) (fun H locs hH => ?_)
  refine x_ifb_eq (tgt := 19) hx hb dX1_moveRow_4 (by decide) (fun c4 => ?_) (fun c4 => ?_)
  · have c4 := of_decide_eq_false c4
    refine x_iconst hx hb dX1_moveRow_19 ?_
    subst hQ
    exact x_iret hx hb hr hlocks hH (Nat.le_of_ble_eq_true rfl) (Nat.le_of_ble_eq_true rfl) ⟨(show (-1) = ((rowF op lk kp wc pn nw sh wk r st).1) from (by unfold rowF; first | (rw [if_pos (by omega)]; done) | (rw [if_neg (by omega)]; done))), ⟨op, lk, kp, wc, pn, nw, sh, wk, ⟨fb_0, fb_1, fb_2, fb_3, fb_4, _, fb_5⟩, (by unfold rowF; first | (rw [if_pos (by omega)]; assumption) | (rw [if_neg (by omega)]; done))⟩, fun j hj0 => rfl⟩ dX1_moveRow_20
  · have c4 := of_decide_eq_true c4
    refine lv_aload_n hx hb dX1_moveRow_7 rfl (lv_at hl 0 rfl) ?_
    refine lv_iload_n hx hb dX1_moveRow_8 rfl (lv_at hl 1 rfl) ?_
    refine x_iconst hx hb dX1_moveRow_9 ?_
    refine x_imul hx hb dX1_moveRow_10 ?_
    refine x_iconst hx hb dX1_moveRow_11 ?_
    refine lv_iload_n hx hb dX1_moveRow_12 rfl (lv_at hl 2 rfl) ?_
    refine x_cVIE (As := [.int (iZ (r * 5)), .int (iZ 1), .int (iZ st)]) (rest := []) hx hb hml hts hown hK hST hOK hH b (c_X1_moveIfAllowed l E ST hSF σ b (r * 5) 1 st op lk kp wc pn nw sh wk ⟨fb_0, fb_1, fb_2, fb_3, fb_4, _, fb_5⟩ (by omega) (by omega) (Or.inl ⟨rfl, by omega, by omega⟩) (by omega)) (cwV 3 hts gX1_moveRow_X1_moveIfAllowed rfl rfl rfl (by decide +kernel) ⟨Nat.le_of_ble_eq_true rfl, Nat.le_of_ble_eq_true rfl⟩) (by omega) fb_0 rfl rfl hl.1 rfl (Nat.le_of_ble_eq_true rfl) dX1_moveRow_13 ⟨Nat.le_of_ble_eq_true rfl, Nat.le_of_ble_eq_true rfl⟩ (fun z u h => h) (fun σ5 H locs hp6 hH => ?_)
    obtain ⟨⟨op1_8, lk1_9, kp1_10, wc1_11, pn1_12, nw1_13, sh1_14, wk1_15, ⟨fb_0, fb_1, fb_2, fb_3, fb_4, ro16, fb_5⟩, hf17⟩, fr7⟩ := hp6
    refine lv_goto (tgt := 20) hx hb dX1_moveRow_16 (by decide) ?_
    subst hQ
    exact x_iret hx hb hr hlocks hH (Nat.le_of_ble_eq_true rfl) (Nat.le_of_ble_eq_true rfl) ⟨(show ((moveF op lk kp wc pn nw sh wk (r * 5) 1 st).1) = ((rowF op lk kp wc pn nw sh wk r st).1) from (by unfold rowF; first | (rw [if_pos (by omega)]; done) | (rw [if_neg (by omega)]; done))), ⟨op1_8, lk1_9, kp1_10, wc1_11, pn1_12, nw1_13, sh1_14, wk1_15, ⟨fb_0, fb_1, fb_2, fb_3, fb_4, _, fb_5⟩, (by unfold rowF; first | (rw [if_pos (by omega)]; assumption) | (rw [if_neg (by omega)]; done))⟩, fun j hj0 => (fr7 j (by omega))⟩ dX1_moveRow_20

def rm_X1_moveColumn : Room := { frames := 4, cells := 0, slots := 0, locals := 96 }
set_option maxRecDepth 100000 in
set_option maxHeartbeats 4000000 in
theorem c_X1_moveColumn (l : Launch) (E : xE) (ST : xST) (hSF : SF ST) (σ : xW) (b : Nat) (r : Int) (st : Int) (op : Int → Int) (lk : Int → Int) (kp : Int → Int) (wc : Int → Int) (pn : Int) (nw : Int) (sh : Int) (wk : Int) (hr0 : bd E σ b op lk kp wc pn nw sh wk) (hb : b + 6 ≤ 85) (hB : BI op lk kp wc pn nw) (hr : rg r) (hst : rg st) : CI l E ST yX1_moveColumn wsX1_moveColumn rm_X1_moveColumn [.ref (xad E b), .int (iZ r), .int (iZ st)] σ (fun (z : Int) (u : xW) => z = (colF op lk kp wc pn nw sh wk r st).1 ∧ (∃ (op1 lk1 kp1 wc1 : Int → Int) (pn1 nw1 sh1 wk1 : Int), bd E u b op1 lk1 kp1 wc1 pn1 nw1 sh1 wk1 ∧ ((op1, lk1, kp1, wc1, pn1, nw1, sh1, wk1) = (colF op lk kp wc pn nw sh wk r st).2)) ∧ ∀ j : Nat, (j < b ∨ b + 6 ≤ j) → u j = σ j) := by
  obtain ⟨fb_0, fb_1, fb_2, fb_3, fb_4, ro0, fb_5⟩ := hr0
  refine CI_of (by decide) rfl (Nat.le_of_ble_eq_true rfl) ?_
  intro p e s m args below meth c Q ls G hH hl hQ
  obtain ⟨hx, hb, hml, hown, hts, hK, hST, hlocks, hr, hno⟩ := G
  have hOK := hSF.1
  have hown : s.vm.findClass RX1 = some m.cls := hown
  have hl : lv_has ls 3 [(0, .ref (xad E b)), (1, .int (iZ r)), (2, .int (iZ st))] := hl
  obtain ⟨hop, hlk, hkp, hwc, hpn, hnw⟩ := id hB
  refine lv_iload_n hx hb dX1_moveColumn_0 rfl (lv_at hl 1 rfl) ?_
  refine x_cSNID (As := [.int (iZ r)]) (rest := []) hx hb hml hts hown hK hST hOK hH (c_X6_isLine l E ST hSF σ r  (by omega)) ⟨va_cnB (host := "BrambleShift") 1 hts gX1_moveColumn_X6_isLine_n53 rfl rfl rfl (hSF.nest hST (List.mem_of_getElem? (i := 0) rfl)) (hts _ (List.mem_of_getElem? (i := 2) rfl)) (by decide +kernel) ⟨Nat.le_of_ble_eq_true rfl, Nat.le_of_ble_eq_true rfl⟩, hts _ (List.mem_of_getElem? (i := 1) rfl), trivial⟩ rfl hl.1 rfl (Nat.le_of_ble_eq_true rfl) dX1_moveColumn_1 ⟨Nat.le_of_ble_eq_true rfl, Nat.le_of_ble_eq_true rfl⟩ (fun z u h => h) (fun H locs hH => ?_)
  refine x_ifb_eq (tgt := 17) hx hb dX1_moveColumn_4 (by decide) (fun c4 => ?_) (fun c4 => ?_)
  · have c4 := of_decide_eq_false c4
    refine x_iconst hx hb dX1_moveColumn_17 ?_
    subst hQ
    exact x_iret hx hb hr hlocks hH (Nat.le_of_ble_eq_true rfl) (Nat.le_of_ble_eq_true rfl) ⟨(show (-1) = ((colF op lk kp wc pn nw sh wk r st).1) from (by unfold colF; first | (rw [if_pos (by omega)]; done) | (rw [if_neg (by omega)]; done))), ⟨op, lk, kp, wc, pn, nw, sh, wk, ⟨fb_0, fb_1, fb_2, fb_3, fb_4, _, fb_5⟩, (by unfold colF; first | (rw [if_pos (by omega)]; assumption) | (rw [if_neg (by omega)]; done))⟩, fun j hj0 => rfl⟩ dX1_moveColumn_18
  · have c4 := of_decide_eq_true c4
    refine lv_aload_n hx hb dX1_moveColumn_7 rfl (lv_at hl 0 rfl) ?_
    refine lv_iload_n hx hb dX1_moveColumn_8 rfl (lv_at hl 1 rfl) ?_
    refine x_iconst hx hb dX1_moveColumn_9 ?_
    refine lv_iload_n hx hb dX1_moveColumn_10 rfl (lv_at hl 2 rfl) ?_
    refine x_cVIE (As := [.int (iZ r), .int (iZ 5), .int (iZ st)]) (rest := []) hx hb hml hts hown hK hST hOK hH b (c_X1_moveIfAllowed l E ST hSF σ b r 5 st op lk kp wc pn nw sh wk ⟨fb_0, fb_1, fb_2, fb_3, fb_4, _, fb_5⟩ (by omega) (by omega) (Or.inr ⟨rfl, by omega, by omega⟩) (by omega)) (cwV 3 hts gX1_moveColumn_X1_moveIfAllowed rfl rfl rfl (by decide +kernel) ⟨Nat.le_of_ble_eq_true rfl, Nat.le_of_ble_eq_true rfl⟩) (by omega) fb_0 rfl rfl hl.1 rfl (Nat.le_of_ble_eq_true rfl) dX1_moveColumn_11 ⟨Nat.le_of_ble_eq_true rfl, Nat.le_of_ble_eq_true rfl⟩ (fun z u h => h) (fun σ5 H locs hp6 hH => ?_)
    obtain ⟨⟨op1_8, lk1_9, kp1_10, wc1_11, pn1_12, nw1_13, sh1_14, wk1_15, ⟨fb_0, fb_1, fb_2, fb_3, fb_4, ro16, fb_5⟩, hf17⟩, fr7⟩ := hp6
    refine lv_goto (tgt := 18) hx hb dX1_moveColumn_14 (by decide) ?_
    subst hQ
    exact x_iret hx hb hr hlocks hH (Nat.le_of_ble_eq_true rfl) (Nat.le_of_ble_eq_true rfl) ⟨(show ((moveF op lk kp wc pn nw sh wk r 5 st).1) = ((colF op lk kp wc pn nw sh wk r st).1) from (by unfold colF; first | (rw [if_pos (by omega)]; done) | (rw [if_neg (by omega)]; done))), ⟨op1_8, lk1_9, kp1_10, wc1_11, pn1_12, nw1_13, sh1_14, wk1_15, ⟨fb_0, fb_1, fb_2, fb_3, fb_4, _, fb_5⟩, (by unfold colF; first | (rw [if_pos (by omega)]; assumption) | (rw [if_neg (by omega)]; done))⟩, fun j hj0 => (fr7 j (by omega))⟩ dX1_moveColumn_18

def rm_X1_layKey : Room := { frames := 1, cells := 0, slots := 0, locals := 23 }
set_option maxRecDepth 100000 in
set_option maxHeartbeats 4000000 in
theorem c_X1_layKey (l : Launch) (E : xE) (ST : xST) (hSF : SF ST) (σ : xW) (b : Nat) (k : Int) (r : Int) (c0 : Int) (op : Int → Int) (lk : Int → Int) (kp : Int → Int) (wc : Int → Int) (pn : Int) (nw : Int) (sh : Int) (wk : Int) (hr0 : bd E σ b op lk kp wc pn nw sh wk) (hb : b + 6 ≤ 85) (hB : BI op lk kp wc pn nw) (hr : rg r) (hc : rg c0) (hk : rg k) : CI l E ST yX1_layKey wsX1_layKey rm_X1_layKey [.ref (xad E b), .int (iZ k), .int (iZ r), .int (iZ c0)] σ (fun (z : Int) (u : xW) => z = (layF op lk kp wc pn nw sh wk k r c0).1 ∧ (∃ (op1 lk1 kp1 wc1 : Int → Int) (pn1 nw1 sh1 wk1 : Int), bd E u b op1 lk1 kp1 wc1 pn1 nw1 sh1 wk1 ∧ ((op1, lk1, kp1, wc1, pn1, nw1, sh1, wk1) = (layF op lk kp wc pn nw sh wk k r c0).2)) ∧ ∀ j : Nat, (j < b ∨ b + 6 ≤ j) → u j = σ j) := by
  obtain ⟨fb_0, fb_1, fb_2, fb_3, fb_4, ro0, fb_5⟩ := hr0
  refine CI_of (by decide) rfl (Nat.le_of_ble_eq_true rfl) ?_
  intro p e s m args below meth c Q ls G hH hl hQ
  obtain ⟨hx, hb, hml, hown, hts, hK, hST, hlocks, hr, hno⟩ := G
  have hOK := hSF.1
  have hown : s.vm.findClass RX1 = some m.cls := hown
  have hl : lv_has ls 5 [(0, .ref (xad E b)), (1, .int (iZ k)), (2, .int (iZ r)), (3, .int (iZ c0))] := hl
  have hinX1 : ∀ w ∈ u_ws RX1 TX1 9, w ∈ wsX1_layKey := fun w h => (List.mem_cons_of_mem _ (List.mem_append_right _ h))
  obtain ⟨hop, hlk, hkp, hwc, hpn, hnw⟩ := id hB
  refine lv_iload_n hx hb dX1_layKey_0 rfl (lv_at hl 1 rfl) ?_
  refine x_cSNID (As := [.int (iZ k)]) (rest := []) hx hb hml hts hown hK hST hOK hH (c_X6_isKey l E ST hSF σ k  (by omega)) ⟨va_cnB (host := "BrambleShift") 1 hts gX1_layKey_X6_isKey_n70 rfl rfl rfl (hSF.nest hST (List.mem_of_getElem? (i := 1) rfl)) (hts _ (List.mem_of_getElem? (i := 3) rfl)) (by decide +kernel) ⟨Nat.le_of_ble_eq_true rfl, Nat.le_of_ble_eq_true rfl⟩, hts _ (List.mem_of_getElem? (i := 2) rfl), trivial⟩ rfl hl.1 rfl (Nat.le_of_ble_eq_true rfl) dX1_layKey_1 ⟨Nat.le_of_ble_eq_true rfl, Nat.le_of_ble_eq_true rfl⟩ (fun z u h => h) (fun H locs hH => ?_)
  refine x_ifb_ne (tgt := 10) hx hb dX1_layKey_4 (by decide) (fun c4 => ?_) (fun c4 => ?_)
  · have c4 := of_decide_eq_true c4
    refine lv_iload_n hx hb dX1_layKey_10 rfl (lv_at hl 2 rfl) ?_
    refine x_cSNID (As := [.int (iZ r)]) (rest := []) hx hb hml hts hown hK hST hOK hH (c_X6_isLine l E ST hSF σ r  (by omega)) ⟨va_cnB (host := "BrambleShift") 1 hts gX1_layKey_X6_isLine_n53 rfl rfl rfl (hSF.nest hST (List.mem_of_getElem? (i := 0) rfl)) (hts _ (List.mem_of_getElem? (i := 3) rfl)) (by decide +kernel) ⟨Nat.le_of_ble_eq_true rfl, Nat.le_of_ble_eq_true rfl⟩, hts _ (List.mem_of_getElem? (i := 5) rfl), trivial⟩ rfl hl.1 rfl (Nat.le_of_ble_eq_true rfl) dX1_layKey_11 ⟨Nat.le_of_ble_eq_true rfl, Nat.le_of_ble_eq_true rfl⟩ (fun z u h => h) (fun H locs hH => ?_)
    refine x_ifb_eq (tgt := 24) hx hb dX1_layKey_14 (by decide) (fun c14 => ?_) (fun c14 => ?_)
    · have c14 := of_decide_eq_false c14
      refine x_iconst hx hb dX1_layKey_24 ?_
      subst hQ
      exact x_iret hx hb hr hlocks hH (Nat.le_of_ble_eq_true rfl) (Nat.le_of_ble_eq_true rfl) ⟨(show (-1) = ((layF op lk kp wc pn nw sh wk k r c0).1) from (by unfold layF; (repeat' split) <;> first | rfl | (exfalso; omega))), ⟨op, lk, kp, wc, pn, nw, sh, wk, ⟨fb_0, fb_1, fb_2, fb_3, fb_4, _, fb_5⟩, (by unfold layF; (repeat' split) <;> first | rfl | (exfalso; omega))⟩, fun j hj0 => rfl⟩ dX1_layKey_25
    · have c14 := of_decide_eq_true c14
      refine lv_iload_n hx hb dX1_layKey_17 rfl (lv_at hl 3 rfl) ?_
      refine x_cSNID (As := [.int (iZ c0)]) (rest := []) hx hb hml hts hown hK hST hOK hH (c_X6_isLine l E ST hSF σ c0  (by omega)) ⟨va_cnB (host := "BrambleShift") 1 hts gX1_layKey_X6_isLine_n53 rfl rfl rfl (hSF.nest hST (List.mem_of_getElem? (i := 0) rfl)) (hts _ (List.mem_of_getElem? (i := 3) rfl)) (by decide +kernel) ⟨Nat.le_of_ble_eq_true rfl, Nat.le_of_ble_eq_true rfl⟩, hts _ (List.mem_of_getElem? (i := 5) rfl), trivial⟩ rfl hl.1 rfl (Nat.le_of_ble_eq_true rfl) dX1_layKey_18 ⟨Nat.le_of_ble_eq_true rfl, Nat.le_of_ble_eq_true rfl⟩ (fun z u h => h) (fun H locs hH => ?_)
      refine x_ifb_ne (tgt := 26) hx hb dX1_layKey_21 (by decide) (fun c21 => ?_) (fun c21 => ?_)
      · have c21 := of_decide_eq_true c21
        refine lv_aload_n hx hb dX1_layKey_26 rfl (lv_at hl 0 rfl) ?_
        refine x_get hx hb hts hown hK hH b (by omega) fb_0 hinX1 rfl 2 (by decide) (List.mem_of_getElem? (i := 1) rfl) rfl dX1_layKey_27 ?_
        refine lv_iload_n hx hb dX1_layKey_30 rfl (lv_at hl 1 rfl) ?_
        refine x_bipush hx hb dX1_layKey_31 (by decide) ?_
        refine x_isub hx hb dX1_layKey_33 ?_
        refine x_iald hx hb hK hH (b + 3) (by omega) fb_3 (by omega) (by omega) (by omega) dX1_layKey_34 ?_
        have hv10 := hkp (k - 97)
        refine x_iconst hx hb dX1_layKey_35 ?_
        refine x_icmp_eq (tgt := 42) hx hb dX1_layKey_36 (by decide) (by omega) (by decide) (fun c36 => ?_) (fun c36 => ?_)
        · refine lv_iload_n hx hb dX1_layKey_42 rfl (lv_at hl 2 rfl) ?_
          refine x_iconst hx hb dX1_layKey_43 ?_
          refine x_imul hx hb dX1_layKey_44 ?_
          refine lv_iload_n hx hb dX1_layKey_45 rfl (lv_at hl 3 rfl) ?_
          refine x_iadd hx hb dX1_layKey_46 ?_
          refine lv_istore (lv' := [(4, .int (iZ ((r * 5) + c0))), (0, .ref (xad E b)), (1, .int (iZ k)), (2, .int (iZ r)), (3, .int (iZ c0))]) hx hb dX1_layKey_47 hl (by decide) rfl (fun ls hl => ?_)
          refine lv_aload_n hx hb dX1_layKey_49 rfl (lv_at hl 1 rfl) ?_
          refine x_get hx hb hts hown hK hH b (by omega) fb_0 hinX1 rfl 2 (by decide) (List.mem_of_getElem? (i := 1) rfl) rfl dX1_layKey_50 ?_
          refine lv_iload_n hx hb dX1_layKey_53 rfl (lv_at hl 2 rfl) ?_
          refine x_bipush hx hb dX1_layKey_54 (by decide) ?_
          refine x_isub hx hb dX1_layKey_56 ?_
          refine lv_iload hx hb dX1_layKey_57 (lv_at hl 0 rfl) ?_
          refine x_iast hx hb hK hH (b + 3) (by omega) fb_3 (by omega) (by omega) (by omega) dX1_layKey_59 (fun σ11 H locs fb_3 fr12 hH => ?_)
          have fb_0 : σ11 b = oB 0 [.ref (xad E (b + 1)), .ref (xad E (b + 2)), .ref (xad E (b + 3)), .ref (xad E (b + 4)), .ref (xad E (b + 5)), .int (iZ pn), .int (iZ nw), .int (iZ sh), .long (lZ wk)] := (fr12 b (by omega)).trans fb_0
          have fb_1 : σ11 (b + 1) = aI E 25 op := (fr12 (b + 1) (by omega)).trans fb_1
          have fb_2 : σ11 (b + 2) = aI E 25 lk := (fr12 (b + 2) (by omega)).trans fb_2
          have fb_4 : σ11 (b + 4) = aI E 3 wc := (fr12 (b + 4) (by omega)).trans fb_4
          have fb_5 : σ11 (b + 5) = aI E 5 ro0 := (fr12 (b + 5) (by omega)).trans fb_5
          refine lv_aload_n hx hb dX1_layKey_60 rfl (lv_at hl 1 rfl) ?_
          refine lv_iload hx hb dX1_layKey_61 (lv_at hl 0 rfl) ?_
          refine x_cVID (As := [.int (iZ ((r * 5) + c0))]) (rest := []) hx hb hml hts hown hK hST hOK hH b (c_X1_countKeys l E ST hSF σ11 b ((r * 5) + c0) op lk (ui kp (k - 97) ((r * 5) + c0)) wc pn nw sh wk ⟨fb_0, fb_1, fb_2, fb_3, fb_4, _, fb_5⟩ (by omega) (by omega) (fun j => by unfold ui; split <;> first | omega | (have := hkp j; omega))) (cwV 1 hts gX1_layKey_X1_countKeys rfl rfl rfl (by decide +kernel) ⟨Nat.le_of_ble_eq_true rfl, Nat.le_of_ble_eq_true rfl⟩) (by omega) fb_0 rfl rfl hl.1 rfl (Nat.le_of_ble_eq_true rfl) dX1_layKey_63 ⟨Nat.le_of_ble_eq_true rfl, Nat.le_of_ble_eq_true rfl⟩ (fun z u h => h) (fun H locs hH => ?_)
          subst hQ
          exact x_iret hx hb hr hlocks hH (Nat.le_of_ble_eq_true rfl) (Nat.le_of_ble_eq_true rfl) ⟨(show (cntK (ui kp (k - 97) ((r * 5) + c0)) ((r * 5) + c0) 6) = ((layF op lk kp wc pn nw sh wk k r c0).1) from (by unfold layF; (repeat' split) <;> first | rfl | (exfalso; omega))), ⟨op, lk, (ui kp (k - 97) ((r * 5) + c0)), wc, pn, nw, sh, wk, ⟨fb_0, fb_1, fb_2, fb_3, fb_4, _, fb_5⟩, (by unfold layF; (repeat' split) <;> first | rfl | (exfalso; omega))⟩, fun j hj0 => (fr12 j (by omega))⟩ dX1_layKey_66
        · refine x_bipush hx hb dX1_layKey_39 (by decide) ?_
          subst hQ
          exact x_iret hx hb hr hlocks hH (Nat.le_of_ble_eq_true rfl) (Nat.le_of_ble_eq_true rfl) ⟨(show (-3) = ((layF op lk kp wc pn nw sh wk k r c0).1) from (by unfold layF; (repeat' split) <;> first | rfl | (exfalso; omega))), ⟨op, lk, kp, wc, pn, nw, sh, wk, ⟨fb_0, fb_1, fb_2, fb_3, fb_4, _, fb_5⟩, (by unfold layF; (repeat' split) <;> first | rfl | (exfalso; omega))⟩, fun j hj0 => rfl⟩ dX1_layKey_41
      · have c21 := of_decide_eq_false c21
        refine x_iconst hx hb dX1_layKey_24 ?_
        subst hQ
        exact x_iret hx hb hr hlocks hH (Nat.le_of_ble_eq_true rfl) (Nat.le_of_ble_eq_true rfl) ⟨(show (-1) = ((layF op lk kp wc pn nw sh wk k r c0).1) from (by unfold layF; (repeat' split) <;> first | rfl | (exfalso; omega))), ⟨op, lk, kp, wc, pn, nw, sh, wk, ⟨fb_0, fb_1, fb_2, fb_3, fb_4, _, fb_5⟩, (by unfold layF; (repeat' split) <;> first | rfl | (exfalso; omega))⟩, fun j hj0 => rfl⟩ dX1_layKey_25
  · have c4 := of_decide_eq_false c4
    refine x_bipush hx hb dX1_layKey_7 (by decide) ?_
    subst hQ
    exact x_iret hx hb hr hlocks hH (Nat.le_of_ble_eq_true rfl) (Nat.le_of_ble_eq_true rfl) ⟨(show (-2) = ((layF op lk kp wc pn nw sh wk k r c0).1) from (by unfold layF; (repeat' split) <;> first | rfl | (exfalso; omega))), ⟨op, lk, kp, wc, pn, nw, sh, wk, ⟨fb_0, fb_1, fb_2, fb_3, fb_4, _, fb_5⟩, (by unfold layF; (repeat' split) <;> first | rfl | (exfalso; omega))⟩, fun j hj0 => rfl⟩ dX1_layKey_9

def rm_X1_hangLock : Room := { frames := 1, cells := 0, slots := 0, locals := 22 }
set_option maxRecDepth 100000 in
set_option maxHeartbeats 4000000 in
theorem c_X1_hangLock (l : Launch) (E : xE) (ST : xST) (hSF : SF ST) (σ : xW) (b : Nat) (r : Int) (c0 : Int) (k : Int) (op : Int → Int) (lk : Int → Int) (kp : Int → Int) (wc : Int → Int) (pn : Int) (nw : Int) (sh : Int) (wk : Int) (hr0 : bd E σ b op lk kp wc pn nw sh wk) (hb : b + 6 ≤ 85) (hB : BI op lk kp wc pn nw) (hr : rg r) (hc : rg c0) (hk : rg k) : CI l E ST yX1_hangLock wsX1_hangLock rm_X1_hangLock [.ref (xad E b), .int (iZ r), .int (iZ c0), .int (iZ k)] σ (fun (z : Int) (u : xW) => z = (hangF op lk kp wc pn nw sh wk r c0 k).1 ∧ (∃ (op1 lk1 kp1 wc1 : Int → Int) (pn1 nw1 sh1 wk1 : Int), bd E u b op1 lk1 kp1 wc1 pn1 nw1 sh1 wk1 ∧ ((op1, lk1, kp1, wc1, pn1, nw1, sh1, wk1) = (hangF op lk kp wc pn nw sh wk r c0 k).2)) ∧ ∀ j : Nat, (j < b ∨ b + 6 ≤ j) → u j = σ j) := by
  obtain ⟨fb_0, fb_1, fb_2, fb_3, fb_4, ro0, fb_5⟩ := hr0
  refine CI_of (by decide) rfl (Nat.le_of_ble_eq_true rfl) ?_
  intro p e s m args below meth c Q ls G hH hl hQ
  obtain ⟨hx, hb, hml, hown, hts, hK, hST, hlocks, hr, hno⟩ := G
  have hOK := hSF.1
  have hown : s.vm.findClass RX1 = some m.cls := hown
  have hl : lv_has ls 5 [(0, .ref (xad E b)), (1, .int (iZ r)), (2, .int (iZ c0)), (3, .int (iZ k))] := hl
  have hinX1 : ∀ w ∈ u_ws RX1 TX1 9, w ∈ wsX1_hangLock := fun w h => (List.mem_cons_of_mem _ (List.mem_append_right _ h))
  obtain ⟨hop, hlk, hkp, hwc, hpn, hnw⟩ := id hB
  refine lv_iload_n hx hb dX1_hangLock_0 rfl (lv_at hl 1 rfl) ?_
  refine x_cSNID (As := [.int (iZ r)]) (rest := []) hx hb hml hts hown hK hST hOK hH (c_X6_isLine l E ST hSF σ r  (by omega)) ⟨va_cnB (host := "BrambleShift") 1 hts gX1_hangLock_X6_isLine_n53 rfl rfl rfl (hSF.nest hST (List.mem_of_getElem? (i := 0) rfl)) (hts _ (List.mem_of_getElem? (i := 3) rfl)) (by decide +kernel) ⟨Nat.le_of_ble_eq_true rfl, Nat.le_of_ble_eq_true rfl⟩, hts _ (List.mem_of_getElem? (i := 2) rfl), trivial⟩ rfl hl.1 rfl (Nat.le_of_ble_eq_true rfl) dX1_hangLock_1 ⟨Nat.le_of_ble_eq_true rfl, Nat.le_of_ble_eq_true rfl⟩ (fun z u h => h) (fun H locs hH => ?_)
  refine x_ifb_eq (tgt := 14) hx hb dX1_hangLock_4 (by decide) (fun c4 => ?_) (fun c4 => ?_)
  · have c4 := of_decide_eq_false c4
    refine x_iconst hx hb dX1_hangLock_14 ?_
    subst hQ
    exact x_iret hx hb hr hlocks hH (Nat.le_of_ble_eq_true rfl) (Nat.le_of_ble_eq_true rfl) ⟨(show (-1) = ((hangF op lk kp wc pn nw sh wk r c0 k).1) from (by unfold hangF; (repeat' split) <;> first | rfl | (exfalso; omega))), ⟨op, lk, kp, wc, pn, nw, sh, wk, ⟨fb_0, fb_1, fb_2, fb_3, fb_4, _, fb_5⟩, (by unfold hangF; (repeat' split) <;> first | rfl | (exfalso; omega))⟩, fun j hj0 => rfl⟩ dX1_hangLock_15
  · have c4 := of_decide_eq_true c4
    refine lv_iload_n hx hb dX1_hangLock_7 rfl (lv_at hl 2 rfl) ?_
    refine x_cSNID (As := [.int (iZ c0)]) (rest := []) hx hb hml hts hown hK hST hOK hH (c_X6_isLine l E ST hSF σ c0  (by omega)) ⟨va_cnB (host := "BrambleShift") 1 hts gX1_hangLock_X6_isLine_n53 rfl rfl rfl (hSF.nest hST (List.mem_of_getElem? (i := 0) rfl)) (hts _ (List.mem_of_getElem? (i := 3) rfl)) (by decide +kernel) ⟨Nat.le_of_ble_eq_true rfl, Nat.le_of_ble_eq_true rfl⟩, hts _ (List.mem_of_getElem? (i := 2) rfl), trivial⟩ rfl hl.1 rfl (Nat.le_of_ble_eq_true rfl) dX1_hangLock_8 ⟨Nat.le_of_ble_eq_true rfl, Nat.le_of_ble_eq_true rfl⟩ (fun z u h => h) (fun H locs hH => ?_)
    refine x_ifb_ne (tgt := 16) hx hb dX1_hangLock_11 (by decide) (fun c11 => ?_) (fun c11 => ?_)
    · have c11 := of_decide_eq_true c11
      refine lv_iload_n hx hb dX1_hangLock_16 rfl (lv_at hl 3 rfl) ?_
      refine x_cSNID (As := [.int (iZ k)]) (rest := []) hx hb hml hts hown hK hST hOK hH (c_X6_isKey l E ST hSF σ k  (by omega)) ⟨va_cnB (host := "BrambleShift") 1 hts gX1_hangLock_X6_isKey_n70 rfl rfl rfl (hSF.nest hST (List.mem_of_getElem? (i := 1) rfl)) (hts _ (List.mem_of_getElem? (i := 3) rfl)) (by decide +kernel) ⟨Nat.le_of_ble_eq_true rfl, Nat.le_of_ble_eq_true rfl⟩, hts _ (List.mem_of_getElem? (i := 5) rfl), trivial⟩ rfl hl.1 rfl (Nat.le_of_ble_eq_true rfl) dX1_hangLock_17 ⟨Nat.le_of_ble_eq_true rfl, Nat.le_of_ble_eq_true rfl⟩ (fun z u h => h) (fun H locs hH => ?_)
      refine x_ifb_ne (tgt := 26) hx hb dX1_hangLock_20 (by decide) (fun c20 => ?_) (fun c20 => ?_)
      · have c20 := of_decide_eq_true c20
        refine lv_iload_n hx hb dX1_hangLock_26 rfl (lv_at hl 1 rfl) ?_
        refine x_iconst hx hb dX1_hangLock_27 ?_
        refine x_imul hx hb dX1_hangLock_28 ?_
        refine lv_iload_n hx hb dX1_hangLock_29 rfl (lv_at hl 2 rfl) ?_
        refine x_iadd hx hb dX1_hangLock_30 ?_
        refine lv_istore (lv' := [(4, .int (iZ ((r * 5) + c0))), (0, .ref (xad E b)), (1, .int (iZ r)), (2, .int (iZ c0)), (3, .int (iZ k))]) hx hb dX1_hangLock_31 hl (by decide) rfl (fun ls hl => ?_)
        refine lv_aload_n hx hb dX1_hangLock_33 rfl (lv_at hl 1 rfl) ?_
        refine x_get hx hb hts hown hK hH b (by omega) fb_0 hinX1 rfl 1 (by decide) (List.mem_of_getElem? (i := 1) rfl) rfl dX1_hangLock_34 ?_
        refine lv_iload hx hb dX1_hangLock_37 (lv_at hl 0 rfl) ?_
        refine x_iald hx hb hK hH (b + 2) (by omega) fb_2 (by omega) (by omega) (by omega) dX1_hangLock_39 ?_
        have hv10 := hlk ((r * 5) + c0)
        refine x_iconst hx hb dX1_hangLock_40 ?_
        refine x_icmp_eq (tgt := 47) hx hb dX1_hangLock_41 (by decide) (by omega) (by decide) (fun c41 => ?_) (fun c41 => ?_)
        · refine lv_aload_n hx hb dX1_hangLock_47 rfl (lv_at hl 1 rfl) ?_
          refine x_get hx hb hts hown hK hH b (by omega) fb_0 hinX1 rfl 1 (by decide) (List.mem_of_getElem? (i := 1) rfl) rfl dX1_hangLock_48 ?_
          refine lv_iload hx hb dX1_hangLock_51 (lv_at hl 0 rfl) ?_
          refine lv_iload_n hx hb dX1_hangLock_53 rfl (lv_at hl 4 rfl) ?_
          refine x_bipush hx hb dX1_hangLock_54 (by decide) ?_
          refine x_isub hx hb dX1_hangLock_56 ?_
          refine x_iast hx hb hK hH (b + 2) (by omega) fb_2 (by omega) (by omega) (by omega) dX1_hangLock_57 (fun σ11 H locs fb_2 fr12 hH => ?_)
          have fb_0 : σ11 b = oB 0 [.ref (xad E (b + 1)), .ref (xad E (b + 2)), .ref (xad E (b + 3)), .ref (xad E (b + 4)), .ref (xad E (b + 5)), .int (iZ pn), .int (iZ nw), .int (iZ sh), .long (lZ wk)] := (fr12 b (by omega)).trans fb_0
          have fb_1 : σ11 (b + 1) = aI E 25 op := (fr12 (b + 1) (by omega)).trans fb_1
          have fb_3 : σ11 (b + 3) = aI E 6 kp := (fr12 (b + 3) (by omega)).trans fb_3
          have fb_4 : σ11 (b + 4) = aI E 3 wc := (fr12 (b + 4) (by omega)).trans fb_4
          have fb_5 : σ11 (b + 5) = aI E 5 ro0 := (fr12 (b + 5) (by omega)).trans fb_5
          refine lv_aload_n hx hb dX1_hangLock_58 rfl (lv_at hl 1 rfl) ?_
          refine x_cVID (As := []) (rest := []) hx hb hml hts hown hK hST hOK hH b (c_X1_countLocks l E ST hSF σ11 b op (ui lk ((r * 5) + c0) (k - 97)) kp wc pn nw sh wk ⟨fb_0, fb_1, fb_2, fb_3, fb_4, _, fb_5⟩ (by omega) (fun j => by unfold ui; split <;> first | omega | exact hlk j)) (cwV 0 hts gX1_hangLock_X1_countLocks rfl rfl rfl (by decide +kernel) ⟨Nat.le_of_ble_eq_true rfl, Nat.le_of_ble_eq_true rfl⟩) (by omega) fb_0 rfl rfl hl.1 rfl (Nat.le_of_ble_eq_true rfl) dX1_hangLock_59 ⟨Nat.le_of_ble_eq_true rfl, Nat.le_of_ble_eq_true rfl⟩ (fun z u h => h) (fun H locs hH => ?_)
          subst hQ
          exact x_iret hx hb hr hlocks hH (Nat.le_of_ble_eq_true rfl) (Nat.le_of_ble_eq_true rfl) ⟨(show (lkN (ui lk ((r * 5) + c0) (k - 97))) = ((hangF op lk kp wc pn nw sh wk r c0 k).1) from (by unfold hangF; (repeat' split) <;> first | rfl | (exfalso; omega))), ⟨op, (ui lk ((r * 5) + c0) (k - 97)), kp, wc, pn, nw, sh, wk, ⟨fb_0, fb_1, fb_2, fb_3, fb_4, _, fb_5⟩, (by unfold hangF; (repeat' split) <;> first | rfl | (exfalso; omega))⟩, fun j hj0 => (fr12 j (by omega))⟩ dX1_hangLock_62
        · refine x_bipush hx hb dX1_hangLock_44 (by decide) ?_
          subst hQ
          exact x_iret hx hb hr hlocks hH (Nat.le_of_ble_eq_true rfl) (Nat.le_of_ble_eq_true rfl) ⟨(show (-3) = ((hangF op lk kp wc pn nw sh wk r c0 k).1) from (by unfold hangF; (repeat' split) <;> first | rfl | (exfalso; omega))), ⟨op, lk, kp, wc, pn, nw, sh, wk, ⟨fb_0, fb_1, fb_2, fb_3, fb_4, _, fb_5⟩, (by unfold hangF; (repeat' split) <;> first | rfl | (exfalso; omega))⟩, fun j hj0 => rfl⟩ dX1_hangLock_46
      · have c20 := of_decide_eq_false c20
        refine x_bipush hx hb dX1_hangLock_23 (by decide) ?_
        subst hQ
        exact x_iret hx hb hr hlocks hH (Nat.le_of_ble_eq_true rfl) (Nat.le_of_ble_eq_true rfl) ⟨(show (-2) = ((hangF op lk kp wc pn nw sh wk r c0 k).1) from (by unfold hangF; (repeat' split) <;> first | rfl | (exfalso; omega))), ⟨op, lk, kp, wc, pn, nw, sh, wk, ⟨fb_0, fb_1, fb_2, fb_3, fb_4, _, fb_5⟩, (by unfold hangF; (repeat' split) <;> first | rfl | (exfalso; omega))⟩, fun j hj0 => rfl⟩ dX1_hangLock_25
    · have c11 := of_decide_eq_false c11
      refine x_iconst hx hb dX1_hangLock_14 ?_
      subst hQ
      exact x_iret hx hb hr hlocks hH (Nat.le_of_ble_eq_true rfl) (Nat.le_of_ble_eq_true rfl) ⟨(show (-1) = ((hangF op lk kp wc pn nw sh wk r c0 k).1) from (by unfold hangF; (repeat' split) <;> first | rfl | (exfalso; omega))), ⟨op, lk, kp, wc, pn, nw, sh, wk, ⟨fb_0, fb_1, fb_2, fb_3, fb_4, _, fb_5⟩, (by unfold hangF; (repeat' split) <;> first | rfl | (exfalso; omega))⟩, fun j hj0 => rfl⟩ dX1_hangLock_15

def rm_X1_takeLock : Room := { frames := 1, cells := 0, slots := 0, locals := 20 }
set_option maxRecDepth 100000 in
set_option maxHeartbeats 4000000 in
theorem c_X1_takeLock (l : Launch) (E : xE) (ST : xST) (hSF : SF ST) (σ : xW) (b : Nat) (r : Int) (c0 : Int) (op : Int → Int) (lk : Int → Int) (kp : Int → Int) (wc : Int → Int) (pn : Int) (nw : Int) (sh : Int) (wk : Int) (hr0 : bd E σ b op lk kp wc pn nw sh wk) (hb : b + 6 ≤ 85) (hB : BI op lk kp wc pn nw) (hr : rg r) (hc : rg c0) : CI l E ST yX1_takeLock wsX1_takeLock rm_X1_takeLock [.ref (xad E b), .int (iZ r), .int (iZ c0)] σ (fun (z : Int) (u : xW) => z = (takeF op lk kp wc pn nw sh wk r c0).1 ∧ (∃ (op1 lk1 kp1 wc1 : Int → Int) (pn1 nw1 sh1 wk1 : Int), bd E u b op1 lk1 kp1 wc1 pn1 nw1 sh1 wk1 ∧ ((op1, lk1, kp1, wc1, pn1, nw1, sh1, wk1) = (takeF op lk kp wc pn nw sh wk r c0).2)) ∧ ∀ j : Nat, (j < b ∨ b + 6 ≤ j) → u j = σ j) := by
  obtain ⟨fb_0, fb_1, fb_2, fb_3, fb_4, ro0, fb_5⟩ := hr0
  refine CI_of (by decide) rfl (Nat.le_of_ble_eq_true rfl) ?_
  intro p e s m args below meth c Q ls G hH hl hQ
  obtain ⟨hx, hb, hml, hown, hts, hK, hST, hlocks, hr, hno⟩ := G
  have hOK := hSF.1
  have hown : s.vm.findClass RX1 = some m.cls := hown
  have hl : lv_has ls 5 [(0, .ref (xad E b)), (1, .int (iZ r)), (2, .int (iZ c0))] := hl
  have hinX1 : ∀ w ∈ u_ws RX1 TX1 9, w ∈ wsX1_takeLock := fun w h => (List.mem_cons_of_mem _ (List.mem_append_right _ h))
  obtain ⟨hop, hlk, hkp, hwc, hpn, hnw⟩ := id hB
  refine lv_iload_n hx hb dX1_takeLock_0 rfl (lv_at hl 1 rfl) ?_
  refine x_cSNID (As := [.int (iZ r)]) (rest := []) hx hb hml hts hown hK hST hOK hH (c_X6_isLine l E ST hSF σ r  (by omega)) ⟨va_cnB (host := "BrambleShift") 1 hts gX1_takeLock_X6_isLine_n53 rfl rfl rfl (hSF.nest hST (List.mem_of_getElem? (i := 0) rfl)) (hts _ (List.mem_of_getElem? (i := 3) rfl)) (by decide +kernel) ⟨Nat.le_of_ble_eq_true rfl, Nat.le_of_ble_eq_true rfl⟩, hts _ (List.mem_of_getElem? (i := 2) rfl), trivial⟩ rfl hl.1 rfl (Nat.le_of_ble_eq_true rfl) dX1_takeLock_1 ⟨Nat.le_of_ble_eq_true rfl, Nat.le_of_ble_eq_true rfl⟩ (fun z u h => h) (fun H locs hH => ?_)
  refine x_ifb_eq (tgt := 14) hx hb dX1_takeLock_4 (by decide) (fun c4 => ?_) (fun c4 => ?_)
  · have c4 := of_decide_eq_false c4
    refine x_iconst hx hb dX1_takeLock_14 ?_
    subst hQ
    exact x_iret hx hb hr hlocks hH (Nat.le_of_ble_eq_true rfl) (Nat.le_of_ble_eq_true rfl) ⟨(show (-1) = ((takeF op lk kp wc pn nw sh wk r c0).1) from (by unfold takeF; (repeat' split) <;> first | rfl | (exfalso; omega))), ⟨op, lk, kp, wc, pn, nw, sh, wk, ⟨fb_0, fb_1, fb_2, fb_3, fb_4, _, fb_5⟩, (by unfold takeF; (repeat' split) <;> first | rfl | (exfalso; omega))⟩, fun j hj0 => rfl⟩ dX1_takeLock_15
  · have c4 := of_decide_eq_true c4
    refine lv_iload_n hx hb dX1_takeLock_7 rfl (lv_at hl 2 rfl) ?_
    refine x_cSNID (As := [.int (iZ c0)]) (rest := []) hx hb hml hts hown hK hST hOK hH (c_X6_isLine l E ST hSF σ c0  (by omega)) ⟨va_cnB (host := "BrambleShift") 1 hts gX1_takeLock_X6_isLine_n53 rfl rfl rfl (hSF.nest hST (List.mem_of_getElem? (i := 0) rfl)) (hts _ (List.mem_of_getElem? (i := 3) rfl)) (by decide +kernel) ⟨Nat.le_of_ble_eq_true rfl, Nat.le_of_ble_eq_true rfl⟩, hts _ (List.mem_of_getElem? (i := 2) rfl), trivial⟩ rfl hl.1 rfl (Nat.le_of_ble_eq_true rfl) dX1_takeLock_8 ⟨Nat.le_of_ble_eq_true rfl, Nat.le_of_ble_eq_true rfl⟩ (fun z u h => h) (fun H locs hH => ?_)
    refine x_ifb_ne (tgt := 16) hx hb dX1_takeLock_11 (by decide) (fun c11 => ?_) (fun c11 => ?_)
    · have c11 := of_decide_eq_true c11
      refine lv_iload_n hx hb dX1_takeLock_16 rfl (lv_at hl 1 rfl) ?_
      refine x_iconst hx hb dX1_takeLock_17 ?_
      refine x_imul hx hb dX1_takeLock_18 ?_
      refine lv_iload_n hx hb dX1_takeLock_19 rfl (lv_at hl 2 rfl) ?_
      refine x_iadd hx hb dX1_takeLock_20 ?_
      refine lv_istore_n (lv' := [(3, .int (iZ ((r * 5) + c0))), (0, .ref (xad E b)), (1, .int (iZ r)), (2, .int (iZ c0))]) hx hb dX1_takeLock_21 rfl hl (by decide) rfl (fun ls hl => ?_)
      refine lv_aload_n hx hb dX1_takeLock_22 rfl (lv_at hl 1 rfl) ?_
      refine x_get hx hb hts hown hK hH b (by omega) fb_0 hinX1 rfl 1 (by decide) (List.mem_of_getElem? (i := 1) rfl) rfl dX1_takeLock_23 ?_
      refine lv_iload_n hx hb dX1_takeLock_26 rfl (lv_at hl 0 rfl) ?_
      refine x_iald hx hb hK hH (b + 2) (by omega) fb_2 (by omega) (by omega) (by omega) dX1_takeLock_27 ?_
      have hv7 := hlk ((r * 5) + c0)
      refine lv_istore (lv' := [(4, .int (iZ (lk ((r * 5) + c0)))), (3, .int (iZ ((r * 5) + c0))), (0, .ref (xad E b)), (1, .int (iZ r)), (2, .int (iZ c0))]) hx hb dX1_takeLock_28 hl (by decide) rfl (fun ls hl => ?_)
      refine lv_iload hx hb dX1_takeLock_30 (lv_at hl 0 rfl) ?_
      refine x_iconst hx hb dX1_takeLock_32 ?_
      refine x_icmp_ne (tgt := 39) hx hb dX1_takeLock_33 (by decide) (by omega) (by decide) (fun c33 => ?_) (fun c33 => ?_)
      · refine lv_aload_n hx hb dX1_takeLock_39 rfl (lv_at hl 2 rfl) ?_
        refine x_get hx hb hts hown hK hH b (by omega) fb_0 hinX1 rfl 1 (by decide) (List.mem_of_getElem? (i := 1) rfl) rfl dX1_takeLock_40 ?_
        refine lv_iload_n hx hb dX1_takeLock_43 rfl (lv_at hl 1 rfl) ?_
        refine x_iconst hx hb dX1_takeLock_44 ?_
        refine x_iast hx hb hK hH (b + 2) (by omega) fb_2 (by omega) (by omega) (by omega) dX1_takeLock_45 (fun σ8 H locs fb_2 fr9 hH => ?_)
        have fb_0 : σ8 b = oB 0 [.ref (xad E (b + 1)), .ref (xad E (b + 2)), .ref (xad E (b + 3)), .ref (xad E (b + 4)), .ref (xad E (b + 5)), .int (iZ pn), .int (iZ nw), .int (iZ sh), .long (lZ wk)] := (fr9 b (by omega)).trans fb_0
        have fb_1 : σ8 (b + 1) = aI E 25 op := (fr9 (b + 1) (by omega)).trans fb_1
        have fb_3 : σ8 (b + 3) = aI E 6 kp := (fr9 (b + 3) (by omega)).trans fb_3
        have fb_4 : σ8 (b + 4) = aI E 3 wc := (fr9 (b + 4) (by omega)).trans fb_4
        have fb_5 : σ8 (b + 5) = aI E 5 ro0 := (fr9 (b + 5) (by omega)).trans fb_5
        refine lv_iload hx hb dX1_takeLock_46 (lv_at hl 0 rfl) ?_
        refine x_cSNID (As := [.int (iZ (lk ((r * 5) + c0)))]) (rest := []) hx hb hml hts hown hK hST hOK hH (c_X6_keyName l E ST hSF σ8 (lk ((r * 5) + c0))  (by omega) (by omega)) ⟨va_cnB (host := "BrambleShift") 1 hts gX1_takeLock_X6_keyName_n81 rfl rfl rfl (hSF.nest hST (List.mem_of_getElem? (i := 2) rfl)) (hts _ (List.mem_of_getElem? (i := 3) rfl)) (by decide +kernel) ⟨Nat.le_of_ble_eq_true rfl, Nat.le_of_ble_eq_true rfl⟩, hts _ (List.mem_of_getElem? (i := 5) rfl), trivial⟩ rfl hl.1 rfl (Nat.le_of_ble_eq_true rfl) dX1_takeLock_48 ⟨Nat.le_of_ble_eq_true rfl, Nat.le_of_ble_eq_true rfl⟩ (fun z u h => h) (fun H locs hH => ?_)
        subst hQ
        exact x_iret hx hb hr hlocks hH (Nat.le_of_ble_eq_true rfl) (Nat.le_of_ble_eq_true rfl) ⟨(show (97 + (lk ((r * 5) + c0))) = ((takeF op lk kp wc pn nw sh wk r c0).1) from (by unfold takeF; (repeat' split) <;> first | rfl | (exfalso; omega))), ⟨op, (ui lk ((r * 5) + c0) (-1)), kp, wc, pn, nw, sh, wk, ⟨fb_0, fb_1, fb_2, fb_3, fb_4, _, fb_5⟩, (by unfold takeF; (repeat' split) <;> first | rfl | (exfalso; omega))⟩, fun j hj0 => (fr9 j (by omega))⟩ dX1_takeLock_51
      · refine x_bipush hx hb dX1_takeLock_36 (by decide) ?_
        subst hQ
        exact x_iret hx hb hr hlocks hH (Nat.le_of_ble_eq_true rfl) (Nat.le_of_ble_eq_true rfl) ⟨(show (-5) = ((takeF op lk kp wc pn nw sh wk r c0).1) from (by unfold takeF; (repeat' split) <;> first | rfl | (exfalso; omega))), ⟨op, lk, kp, wc, pn, nw, sh, wk, ⟨fb_0, fb_1, fb_2, fb_3, fb_4, _, fb_5⟩, (by unfold takeF; (repeat' split) <;> first | rfl | (exfalso; omega))⟩, fun j hj0 => rfl⟩ dX1_takeLock_38
    · have c11 := of_decide_eq_false c11
      refine x_iconst hx hb dX1_takeLock_14 ?_
      subst hQ
      exact x_iret hx hb hr hlocks hH (Nat.le_of_ble_eq_true rfl) (Nat.le_of_ble_eq_true rfl) ⟨(show (-1) = ((takeF op lk kp wc pn nw sh wk r c0).1) from (by unfold takeF; (repeat' split) <;> first | rfl | (exfalso; omega))), ⟨op, lk, kp, wc, pn, nw, sh, wk, ⟨fb_0, fb_1, fb_2, fb_3, fb_4, _, fb_5⟩, (by unfold takeF; (repeat' split) <;> first | rfl | (exfalso; omega))⟩, fun j hj0 => rfl⟩ dX1_takeLock_15

def rm_X1_enterWalker : Room := { frames := 1, cells := 0, slots := 0, locals := 23 }
set_option maxRecDepth 100000 in
set_option maxHeartbeats 4000000 in
theorem c_X1_enterWalker (l : Launch) (E : xE) (ST : xST) (hSF : SF ST) (σ : xW) (b : Nat) (r : Int) (c0 : Int) (op : Int → Int) (lk : Int → Int) (kp : Int → Int) (wc : Int → Int) (pn : Int) (nw : Int) (sh : Int) (wk : Int) (hr0 : bd E σ b op lk kp wc pn nw sh wk) (hb : b + 6 ≤ 85) (hB : BI op lk kp wc pn nw) (hr : rg r) (hc : rg c0) : CI l E ST yX1_enterWalker wsX1_enterWalker rm_X1_enterWalker [.ref (xad E b), .int (iZ r), .int (iZ c0)] σ (fun (z : Int) (u : xW) => z = (enterF op lk kp wc pn nw sh wk r c0).1 ∧ (∃ (op1 lk1 kp1 wc1 : Int → Int) (pn1 nw1 sh1 wk1 : Int), bd E u b op1 lk1 kp1 wc1 pn1 nw1 sh1 wk1 ∧ ((op1, lk1, kp1, wc1, pn1, nw1, sh1, wk1) = (enterF op lk kp wc pn nw sh wk r c0).2)) ∧ ∀ j : Nat, (j < b ∨ b + 6 ≤ j) → u j = σ j) := by
  obtain ⟨fb_0, fb_1, fb_2, fb_3, fb_4, ro0, fb_5⟩ := hr0
  refine CI_of (by decide) rfl (Nat.le_of_ble_eq_true rfl) ?_
  intro p e s m args below meth c Q ls G hH hl hQ
  obtain ⟨hx, hb, hml, hown, hts, hK, hST, hlocks, hr, hno⟩ := G
  have hOK := hSF.1
  have hown : s.vm.findClass RX1 = some m.cls := hown
  have hl : lv_has ls 5 [(0, .ref (xad E b)), (1, .int (iZ r)), (2, .int (iZ c0))] := hl
  have hinX1 : ∀ w ∈ u_ws RX1 TX1 9, w ∈ wsX1_enterWalker := fun w h => (List.mem_cons_of_mem _ (List.mem_append_right _ h))
  obtain ⟨hop, hlk, hkp, hwc, hpn, hnw⟩ := id hB
  refine lv_iload_n hx hb dX1_enterWalker_0 rfl (lv_at hl 1 rfl) ?_
  refine x_cSNID (As := [.int (iZ r)]) (rest := []) hx hb hml hts hown hK hST hOK hH (c_X6_isLine l E ST hSF σ r  (by omega)) ⟨va_cnB (host := "BrambleShift") 1 hts gX1_enterWalker_X6_isLine_n53 rfl rfl rfl (hSF.nest hST (List.mem_of_getElem? (i := 0) rfl)) (hts _ (List.mem_of_getElem? (i := 4) rfl)) (by decide +kernel) ⟨Nat.le_of_ble_eq_true rfl, Nat.le_of_ble_eq_true rfl⟩, hts _ (List.mem_of_getElem? (i := 3) rfl), trivial⟩ rfl hl.1 rfl (Nat.le_of_ble_eq_true rfl) dX1_enterWalker_1 ⟨Nat.le_of_ble_eq_true rfl, Nat.le_of_ble_eq_true rfl⟩ (fun z u h => h) (fun H locs hH => ?_)
  refine x_ifb_eq (tgt := 14) hx hb dX1_enterWalker_4 (by decide) (fun c4 => ?_) (fun c4 => ?_)
  · have c4 := of_decide_eq_false c4
    refine x_iconst hx hb dX1_enterWalker_14 ?_
    subst hQ
    exact x_iret hx hb hr hlocks hH (Nat.le_of_ble_eq_true rfl) (Nat.le_of_ble_eq_true rfl) ⟨(show (-1) = ((enterF op lk kp wc pn nw sh wk r c0).1) from (by unfold enterF; (repeat' split) <;> first | rfl | (exfalso; omega))), ⟨op, lk, kp, wc, pn, nw, sh, wk, ⟨fb_0, fb_1, fb_2, fb_3, fb_4, _, fb_5⟩, (by unfold enterF; (repeat' split) <;> first | rfl | (exfalso; omega))⟩, fun j hj0 => rfl⟩ dX1_enterWalker_15
  · have c4 := of_decide_eq_true c4
    refine lv_iload_n hx hb dX1_enterWalker_7 rfl (lv_at hl 2 rfl) ?_
    refine x_cSNID (As := [.int (iZ c0)]) (rest := []) hx hb hml hts hown hK hST hOK hH (c_X6_isLine l E ST hSF σ c0  (by omega)) ⟨va_cnB (host := "BrambleShift") 1 hts gX1_enterWalker_X6_isLine_n53 rfl rfl rfl (hSF.nest hST (List.mem_of_getElem? (i := 0) rfl)) (hts _ (List.mem_of_getElem? (i := 4) rfl)) (by decide +kernel) ⟨Nat.le_of_ble_eq_true rfl, Nat.le_of_ble_eq_true rfl⟩, hts _ (List.mem_of_getElem? (i := 3) rfl), trivial⟩ rfl hl.1 rfl (Nat.le_of_ble_eq_true rfl) dX1_enterWalker_8 ⟨Nat.le_of_ble_eq_true rfl, Nat.le_of_ble_eq_true rfl⟩ (fun z u h => h) (fun H locs hH => ?_)
    refine x_ifb_ne (tgt := 16) hx hb dX1_enterWalker_11 (by decide) (fun c11 => ?_) (fun c11 => ?_)
    · have c11 := of_decide_eq_true c11
      refine lv_aload_n hx hb dX1_enterWalker_16 rfl (lv_at hl 0 rfl) ?_
      refine x_get hx hb hts hown hK hH b (by omega) fb_0 hinX1 rfl 6 (by decide) (List.mem_of_getElem? (i := 1) rfl) rfl dX1_enterWalker_17 ?_
      refine x_iconst hx hb dX1_enterWalker_20 ?_
      refine x_icmp_lt (tgt := 27) hx hb dX1_enterWalker_21 (by decide) (by omega) (by decide) (fun c21 => ?_) (fun c21 => ?_)
      · refine lv_iload_n hx hb dX1_enterWalker_27 rfl (lv_at hl 1 rfl) ?_
        refine x_iconst hx hb dX1_enterWalker_28 ?_
        refine x_imul hx hb dX1_enterWalker_29 ?_
        refine lv_iload_n hx hb dX1_enterWalker_30 rfl (lv_at hl 2 rfl) ?_
        refine x_iadd hx hb dX1_enterWalker_31 ?_
        refine lv_istore_n (lv' := [(3, .int (iZ ((r * 5) + c0))), (0, .ref (xad E b)), (1, .int (iZ r)), (2, .int (iZ c0))]) hx hb dX1_enterWalker_32 rfl hl (by decide) rfl (fun ls hl => ?_)
        refine lv_aload_n hx hb dX1_enterWalker_33 rfl (lv_at hl 1 rfl) ?_
        refine x_get hx hb hts hown hK hH b (by omega) fb_0 hinX1 rfl 1 (by decide) (List.mem_of_getElem? (i := 2) rfl) rfl dX1_enterWalker_34 ?_
        refine lv_iload_n hx hb dX1_enterWalker_37 rfl (lv_at hl 0 rfl) ?_
        refine x_iald hx hb hK hH (b + 2) (by omega) fb_2 (by omega) (by omega) (by omega) dX1_enterWalker_38 ?_
        have hv7 := hlk ((r * 5) + c0)
        refine x_iconst hx hb dX1_enterWalker_39 ?_
        refine x_icmp_eq (tgt := 46) hx hb dX1_enterWalker_40 (by decide) (by omega) (by decide) (fun c40 => ?_) (fun c40 => ?_)
        · refine lv_aload_n hx hb dX1_enterWalker_46 rfl (lv_at hl 1 rfl) ?_
          refine x_get hx hb hts hown hK hH b (by omega) fb_0 hinX1 rfl 6 (by decide) (List.mem_of_getElem? (i := 1) rfl) rfl dX1_enterWalker_47 ?_
          refine lv_istore (lv' := [(4, .int (iZ nw)), (3, .int (iZ ((r * 5) + c0))), (0, .ref (xad E b)), (1, .int (iZ r)), (2, .int (iZ c0))]) hx hb dX1_enterWalker_50 hl (by decide) rfl (fun ls hl => ?_)
          refine lv_aload_n hx hb dX1_enterWalker_52 rfl (lv_at hl 2 rfl) ?_
          refine lv_dup hx hb dX1_enterWalker_53 rfl ?_
          refine x_get hx hb hts hown hK hH b (by omega) fb_0 hinX1 rfl 6 (by decide) (List.mem_of_getElem? (i := 1) rfl) rfl dX1_enterWalker_54 ?_
          refine x_iconst hx hb dX1_enterWalker_57 ?_
          refine x_iadd hx hb dX1_enterWalker_58 ?_
          refine x_put (fs' := [.ref (xad E (b + 1)), .ref (xad E (b + 2)), .ref (xad E (b + 3)), .ref (xad E (b + 4)), .ref (xad E (b + 5)), .int (iZ pn), .int (iZ (nw + 1)), .int (iZ sh), .long (lZ wk)]) hx hb hts hown hK hH b (by omega) fb_0 hinX1 rfl tyX1 tyX1_ok nmX1 6 (by decide) (List.mem_of_getElem? (i := 1) rfl) rfl (ty := .int) (by decide +kernel) rfl rfl (Nat.le_of_ble_eq_true rfl) rfl dX1_enterWalker_59 (fun σ8 H locs fb_0 fr9 hH => ?_)
          have fb_1 : σ8 (b + 1) = aI E 25 op := (fr9 (b + 1) (by omega)).trans fb_1
          have fb_2 : σ8 (b + 2) = aI E 25 lk := (fr9 (b + 2) (by omega)).trans fb_2
          have fb_3 : σ8 (b + 3) = aI E 6 kp := (fr9 (b + 3) (by omega)).trans fb_3
          have fb_4 : σ8 (b + 4) = aI E 3 wc := (fr9 (b + 4) (by omega)).trans fb_4
          have fb_5 : σ8 (b + 5) = aI E 5 ro0 := (fr9 (b + 5) (by omega)).trans fb_5
          refine lv_aload_n hx hb dX1_enterWalker_62 rfl (lv_at hl 2 rfl) ?_
          refine lv_iload hx hb dX1_enterWalker_63 (lv_at hl 0 rfl) ?_
          refine lv_iload_n hx hb dX1_enterWalker_65 rfl (lv_at hl 1 rfl) ?_
          refine x_cVV (As := [.int (iZ nw), .int (iZ ((r * 5) + c0))]) (rest := []) hx hb hml hts hown hK hST hOK hH b (c_X1_bring l E ST hSF σ8 b nw ((r * 5) + c0) op lk kp wc pn (nw + 1) sh wk ⟨fb_0, fb_1, fb_2, fb_3, fb_4, _, fb_5⟩ (by omega) (fun j => by have := hkp j; omega) (by omega) (by omega)) (cwV 2 hts gX1_enterWalker_X1_bring rfl rfl rfl (by decide +kernel) ⟨Nat.le_of_ble_eq_true rfl, Nat.le_of_ble_eq_true rfl⟩) (by omega) fb_0 rfl rfl hl.1 rfl (Nat.le_of_ble_eq_true rfl) dX1_enterWalker_66 ⟨Nat.le_of_ble_eq_true rfl, Nat.le_of_ble_eq_true rfl⟩ (fun σ11 H locs hp12 hH => ?_)
          obtain ⟨⟨fb_0, fb_1, fb_2, fb_3, fb_4, ro14, fb_5⟩, fr13⟩ := hp12
          refine lv_iload hx hb dX1_enterWalker_69 (lv_at hl 0 rfl) ?_
          subst hQ
          exact x_iret hx hb hr hlocks hH (Nat.le_of_ble_eq_true rfl) (Nat.le_of_ble_eq_true rfl) ⟨(show nw = ((enterF op lk kp wc pn nw sh wk r c0).1) from (by unfold enterF; (repeat' split) <;> first | rfl | (exfalso; omega))), ⟨op, lk, (brK kp ((r * 5) + c0) nw 6), (ui wc nw ((r * 5) + c0)), pn, (nw + 1), sh, wk, ⟨fb_0, fb_1, fb_2, fb_3, fb_4, _, fb_5⟩, (by unfold enterF; (repeat' split) <;> first | rfl | (exfalso; omega))⟩, fun j hj0 => ((fr13 j (by omega)).trans (fr9 j (by omega)))⟩ dX1_enterWalker_71
        · refine x_bipush hx hb dX1_enterWalker_43 (by decide) ?_
          subst hQ
          exact x_iret hx hb hr hlocks hH (Nat.le_of_ble_eq_true rfl) (Nat.le_of_ble_eq_true rfl) ⟨(show (-4) = ((enterF op lk kp wc pn nw sh wk r c0).1) from (by unfold enterF; (repeat' split) <;> first | rfl | (exfalso; omega))), ⟨op, lk, kp, wc, pn, nw, sh, wk, ⟨fb_0, fb_1, fb_2, fb_3, fb_4, _, fb_5⟩, (by unfold enterF; (repeat' split) <;> first | rfl | (exfalso; omega))⟩, fun j hj0 => rfl⟩ dX1_enterWalker_45
      · refine x_bipush hx hb dX1_enterWalker_24 (by decide) ?_
        subst hQ
        exact x_iret hx hb hr hlocks hH (Nat.le_of_ble_eq_true rfl) (Nat.le_of_ble_eq_true rfl) ⟨(show (-3) = ((enterF op lk kp wc pn nw sh wk r c0).1) from (by unfold enterF; (repeat' split) <;> first | rfl | (exfalso; omega))), ⟨op, lk, kp, wc, pn, nw, sh, wk, ⟨fb_0, fb_1, fb_2, fb_3, fb_4, _, fb_5⟩, (by unfold enterF; (repeat' split) <;> first | rfl | (exfalso; omega))⟩, fun j hj0 => rfl⟩ dX1_enterWalker_26
    · have c11 := of_decide_eq_false c11
      refine x_iconst hx hb dX1_enterWalker_14 ?_
      subst hQ
      exact x_iret hx hb hr hlocks hH (Nat.le_of_ble_eq_true rfl) (Nat.le_of_ble_eq_true rfl) ⟨(show (-1) = ((enterF op lk kp wc pn nw sh wk r c0).1) from (by unfold enterF; (repeat' split) <;> first | rfl | (exfalso; omega))), ⟨op, lk, kp, wc, pn, nw, sh, wk, ⟨fb_0, fb_1, fb_2, fb_3, fb_4, _, fb_5⟩, (by unfold enterF; (repeat' split) <;> first | rfl | (exfalso; omega))⟩, fun j hj0 => rfl⟩ dX1_enterWalker_15

def rm_X1_copyFrom : Room := { frames := 1, cells := 0, slots := 0, locals := 40 }
set_option maxRecDepth 100000 in
set_option maxHeartbeats 4000000 in
theorem c_X1_copyFrom (l : Launch) (E : xE) (ST : xST) (hSF : SF ST) (σ : xW) (b : Nat) (b2 : Nat) (op : Int → Int) (lk : Int → Int) (kp : Int → Int) (wc : Int → Int) (pn : Int) (nw : Int) (sh : Int) (wk : Int) (qop : Int → Int) (qlk : Int → Int) (qkp : Int → Int) (qwc : Int → Int) (qpn : Int) (qnw : Int) (qsh : Int) (qwk : Int) (hr0 : bd E σ b op lk kp wc pn nw sh wk) (hr1 : bd E σ b2 qop qlk qkp qwc qpn qnw qsh qwk) (hb : b + 6 ≤ 85) (hb2 : b2 + 6 ≤ 85) (hd : b2 + 6 ≤ b ∨ b + 6 ≤ b2) : CV l E ST yX1_copyFrom wsX1_copyFrom rm_X1_copyFrom [.ref (xad E b), .ref (xad E b2)] σ (fun (u : xW) => (bd E u b qop qlk qkp qwc qpn qnw qsh qwk ∧ bd E u b2 qop qlk qkp qwc qpn qnw qsh qwk) ∧ ∀ j : Nat, (j < b ∨ b + 6 ≤ j) → u j = σ j) := by
  obtain ⟨fb_0, fb_1, fb_2, fb_3, fb_4, ro0, fb_5⟩ := hr0
  obtain ⟨fb2_0, fb2_1, fb2_2, fb2_3, fb2_4, ro1, fb2_5⟩ := hr1
  refine CV_of (by decide) rfl (Nat.le_of_ble_eq_true rfl) ?_
  intro p e s m args below meth c Q ls G hH hl hQ
  obtain ⟨hx, hb, hml, hown, hts, hK, hST, hlocks, hr, hno⟩ := G
  have hOK := hSF.1
  have hown : s.vm.findClass RX1 = some m.cls := hown
  have hl : lv_has ls 2 [(0, .ref (xad E b)), (1, .ref (xad E b2))] := hl
  have hinX1 : ∀ w ∈ u_ws RX1 TX1 9, w ∈ wsX1_copyFrom := fun w h => (List.mem_cons_of_mem _ (List.mem_append_right _ h))
  refine lv_aload_n hx hb dX1_copyFrom_0 rfl (lv_at hl 1 rfl) ?_
  refine x_get hx hb hts hown hK hH b2 (by omega) fb2_0 hinX1 rfl 0 (by decide) (List.mem_of_getElem? (i := 1) rfl) rfl dX1_copyFrom_1 ?_
  refine x_iconst hx hb dX1_copyFrom_4 ?_
  refine lv_aload_n hx hb dX1_copyFrom_5 rfl (lv_at hl 0 rfl) ?_
  refine x_get hx hb hts hown hK hH b (by omega) fb_0 hinX1 rfl 0 (by decide) (List.mem_of_getElem? (i := 1) rfl) rfl dX1_copyFrom_6 ?_
  refine x_iconst hx hb dX1_copyFrom_9 ?_
  refine x_bipush hx hb dX1_copyFrom_10 (by decide) ?_
  refine x_copy hx hb hml hts hown hK hH (List.mem_of_getElem? (i := 2) rfl) (List.mem_of_getElem? (i := 3) rfl) (List.mem_of_getElem? (i := 4) rfl) (List.mem_of_getElem? (i := 5) rfl) (b2 + 1) (b + 1) (by omega) (by omega) fb2_1 fb_1 rfl (by decide) hl.1 (Nat.le_of_ble_eq_true rfl) (Nat.le_of_ble_eq_true rfl) dX1_copyFrom_12 (fun σ1 H locs fb_1 fr2 hH => ?_)
  have fb_0 : σ1 b = oB 0 [.ref (xad E (b + 1)), .ref (xad E (b + 2)), .ref (xad E (b + 3)), .ref (xad E (b + 4)), .ref (xad E (b + 5)), .int (iZ pn), .int (iZ nw), .int (iZ sh), .long (lZ wk)] := (fr2 b (by omega)).trans fb_0
  have fb_2 : σ1 (b + 2) = aI E 25 lk := (fr2 (b + 2) (by omega)).trans fb_2
  have fb_3 : σ1 (b + 3) = aI E 6 kp := (fr2 (b + 3) (by omega)).trans fb_3
  have fb_4 : σ1 (b + 4) = aI E 3 wc := (fr2 (b + 4) (by omega)).trans fb_4
  have fb_5 : σ1 (b + 5) = aI E 5 ro0 := (fr2 (b + 5) (by omega)).trans fb_5
  have fb2_0 : σ1 b2 = oB 0 [.ref (xad E (b2 + 1)), .ref (xad E (b2 + 2)), .ref (xad E (b2 + 3)), .ref (xad E (b2 + 4)), .ref (xad E (b2 + 5)), .int (iZ qpn), .int (iZ qnw), .int (iZ qsh), .long (lZ qwk)] := (fr2 b2 (by omega)).trans fb2_0
  have fb2_1 : σ1 (b2 + 1) = aI E 25 qop := (fr2 (b2 + 1) (by omega)).trans fb2_1
  have fb2_2 : σ1 (b2 + 2) = aI E 25 qlk := (fr2 (b2 + 2) (by omega)).trans fb2_2
  have fb2_3 : σ1 (b2 + 3) = aI E 6 qkp := (fr2 (b2 + 3) (by omega)).trans fb2_3
  have fb2_4 : σ1 (b2 + 4) = aI E 3 qwc := (fr2 (b2 + 4) (by omega)).trans fb2_4
  have fb2_5 : σ1 (b2 + 5) = aI E 5 ro1 := (fr2 (b2 + 5) (by omega)).trans fb2_5
  refine lv_aload_n hx hb dX1_copyFrom_15 rfl (lv_at hl 1 rfl) ?_
  refine x_get hx hb hts hown hK hH b2 (by omega) fb2_0 hinX1 rfl 1 (by decide) (List.mem_of_getElem? (i := 6) rfl) rfl dX1_copyFrom_16 ?_
  refine x_iconst hx hb dX1_copyFrom_19 ?_
  refine lv_aload_n hx hb dX1_copyFrom_20 rfl (lv_at hl 0 rfl) ?_
  refine x_get hx hb hts hown hK hH b (by omega) fb_0 hinX1 rfl 1 (by decide) (List.mem_of_getElem? (i := 6) rfl) rfl dX1_copyFrom_21 ?_
  refine x_iconst hx hb dX1_copyFrom_24 ?_
  refine x_bipush hx hb dX1_copyFrom_25 (by decide) ?_
  refine x_copy hx hb hml hts hown hK hH (List.mem_of_getElem? (i := 2) rfl) (List.mem_of_getElem? (i := 3) rfl) (List.mem_of_getElem? (i := 4) rfl) (List.mem_of_getElem? (i := 5) rfl) (b2 + 2) (b + 2) (by omega) (by omega) fb2_2 fb_2 rfl (by decide) hl.1 (Nat.le_of_ble_eq_true rfl) (Nat.le_of_ble_eq_true rfl) dX1_copyFrom_27 (fun σ3 H locs fb_2 fr4 hH => ?_)
  have fb_0 : σ3 b = oB 0 [.ref (xad E (b + 1)), .ref (xad E (b + 2)), .ref (xad E (b + 3)), .ref (xad E (b + 4)), .ref (xad E (b + 5)), .int (iZ pn), .int (iZ nw), .int (iZ sh), .long (lZ wk)] := (fr4 b (by omega)).trans fb_0
  have fb_1 : σ3 (b + 1) = aI E 25 qop := (fr4 (b + 1) (by omega)).trans fb_1
  have fb_3 : σ3 (b + 3) = aI E 6 kp := (fr4 (b + 3) (by omega)).trans fb_3
  have fb_4 : σ3 (b + 4) = aI E 3 wc := (fr4 (b + 4) (by omega)).trans fb_4
  have fb_5 : σ3 (b + 5) = aI E 5 ro0 := (fr4 (b + 5) (by omega)).trans fb_5
  have fb2_0 : σ3 b2 = oB 0 [.ref (xad E (b2 + 1)), .ref (xad E (b2 + 2)), .ref (xad E (b2 + 3)), .ref (xad E (b2 + 4)), .ref (xad E (b2 + 5)), .int (iZ qpn), .int (iZ qnw), .int (iZ qsh), .long (lZ qwk)] := (fr4 b2 (by omega)).trans fb2_0
  have fb2_1 : σ3 (b2 + 1) = aI E 25 qop := (fr4 (b2 + 1) (by omega)).trans fb2_1
  have fb2_2 : σ3 (b2 + 2) = aI E 25 qlk := (fr4 (b2 + 2) (by omega)).trans fb2_2
  have fb2_3 : σ3 (b2 + 3) = aI E 6 qkp := (fr4 (b2 + 3) (by omega)).trans fb2_3
  have fb2_4 : σ3 (b2 + 4) = aI E 3 qwc := (fr4 (b2 + 4) (by omega)).trans fb2_4
  have fb2_5 : σ3 (b2 + 5) = aI E 5 ro1 := (fr4 (b2 + 5) (by omega)).trans fb2_5
  refine lv_aload_n hx hb dX1_copyFrom_30 rfl (lv_at hl 1 rfl) ?_
  refine x_get hx hb hts hown hK hH b2 (by omega) fb2_0 hinX1 rfl 2 (by decide) (List.mem_of_getElem? (i := 7) rfl) rfl dX1_copyFrom_31 ?_
  refine x_iconst hx hb dX1_copyFrom_34 ?_
  refine lv_aload_n hx hb dX1_copyFrom_35 rfl (lv_at hl 0 rfl) ?_
  refine x_get hx hb hts hown hK hH b (by omega) fb_0 hinX1 rfl 2 (by decide) (List.mem_of_getElem? (i := 7) rfl) rfl dX1_copyFrom_36 ?_
  refine x_iconst hx hb dX1_copyFrom_39 ?_
  refine x_bipush hx hb dX1_copyFrom_40 (by decide) ?_
  refine x_copy hx hb hml hts hown hK hH (List.mem_of_getElem? (i := 2) rfl) (List.mem_of_getElem? (i := 3) rfl) (List.mem_of_getElem? (i := 4) rfl) (List.mem_of_getElem? (i := 5) rfl) (b2 + 3) (b + 3) (by omega) (by omega) fb2_3 fb_3 rfl (by decide) hl.1 (Nat.le_of_ble_eq_true rfl) (Nat.le_of_ble_eq_true rfl) dX1_copyFrom_42 (fun σ5 H locs fb_3 fr6 hH => ?_)
  have fb_0 : σ5 b = oB 0 [.ref (xad E (b + 1)), .ref (xad E (b + 2)), .ref (xad E (b + 3)), .ref (xad E (b + 4)), .ref (xad E (b + 5)), .int (iZ pn), .int (iZ nw), .int (iZ sh), .long (lZ wk)] := (fr6 b (by omega)).trans fb_0
  have fb_1 : σ5 (b + 1) = aI E 25 qop := (fr6 (b + 1) (by omega)).trans fb_1
  have fb_2 : σ5 (b + 2) = aI E 25 qlk := (fr6 (b + 2) (by omega)).trans fb_2
  have fb_4 : σ5 (b + 4) = aI E 3 wc := (fr6 (b + 4) (by omega)).trans fb_4
  have fb_5 : σ5 (b + 5) = aI E 5 ro0 := (fr6 (b + 5) (by omega)).trans fb_5
  have fb2_0 : σ5 b2 = oB 0 [.ref (xad E (b2 + 1)), .ref (xad E (b2 + 2)), .ref (xad E (b2 + 3)), .ref (xad E (b2 + 4)), .ref (xad E (b2 + 5)), .int (iZ qpn), .int (iZ qnw), .int (iZ qsh), .long (lZ qwk)] := (fr6 b2 (by omega)).trans fb2_0
  have fb2_1 : σ5 (b2 + 1) = aI E 25 qop := (fr6 (b2 + 1) (by omega)).trans fb2_1
  have fb2_2 : σ5 (b2 + 2) = aI E 25 qlk := (fr6 (b2 + 2) (by omega)).trans fb2_2
  have fb2_3 : σ5 (b2 + 3) = aI E 6 qkp := (fr6 (b2 + 3) (by omega)).trans fb2_3
  have fb2_4 : σ5 (b2 + 4) = aI E 3 qwc := (fr6 (b2 + 4) (by omega)).trans fb2_4
  have fb2_5 : σ5 (b2 + 5) = aI E 5 ro1 := (fr6 (b2 + 5) (by omega)).trans fb2_5
  refine lv_aload_n hx hb dX1_copyFrom_45 rfl (lv_at hl 1 rfl) ?_
  refine x_get hx hb hts hown hK hH b2 (by omega) fb2_0 hinX1 rfl 3 (by decide) (List.mem_of_getElem? (i := 8) rfl) rfl dX1_copyFrom_46 ?_
  refine x_iconst hx hb dX1_copyFrom_49 ?_
  refine lv_aload_n hx hb dX1_copyFrom_50 rfl (lv_at hl 0 rfl) ?_
  refine x_get hx hb hts hown hK hH b (by omega) fb_0 hinX1 rfl 3 (by decide) (List.mem_of_getElem? (i := 8) rfl) rfl dX1_copyFrom_51 ?_
  refine x_iconst hx hb dX1_copyFrom_54 ?_
  refine x_iconst hx hb dX1_copyFrom_55 ?_
  refine x_copy hx hb hml hts hown hK hH (List.mem_of_getElem? (i := 2) rfl) (List.mem_of_getElem? (i := 3) rfl) (List.mem_of_getElem? (i := 4) rfl) (List.mem_of_getElem? (i := 5) rfl) (b2 + 4) (b + 4) (by omega) (by omega) fb2_4 fb_4 rfl (by decide) hl.1 (Nat.le_of_ble_eq_true rfl) (Nat.le_of_ble_eq_true rfl) dX1_copyFrom_56 (fun σ7 H locs fb_4 fr8 hH => ?_)
  have fb_0 : σ7 b = oB 0 [.ref (xad E (b + 1)), .ref (xad E (b + 2)), .ref (xad E (b + 3)), .ref (xad E (b + 4)), .ref (xad E (b + 5)), .int (iZ pn), .int (iZ nw), .int (iZ sh), .long (lZ wk)] := (fr8 b (by omega)).trans fb_0
  have fb_1 : σ7 (b + 1) = aI E 25 qop := (fr8 (b + 1) (by omega)).trans fb_1
  have fb_2 : σ7 (b + 2) = aI E 25 qlk := (fr8 (b + 2) (by omega)).trans fb_2
  have fb_3 : σ7 (b + 3) = aI E 6 qkp := (fr8 (b + 3) (by omega)).trans fb_3
  have fb_5 : σ7 (b + 5) = aI E 5 ro0 := (fr8 (b + 5) (by omega)).trans fb_5
  have fb2_0 : σ7 b2 = oB 0 [.ref (xad E (b2 + 1)), .ref (xad E (b2 + 2)), .ref (xad E (b2 + 3)), .ref (xad E (b2 + 4)), .ref (xad E (b2 + 5)), .int (iZ qpn), .int (iZ qnw), .int (iZ qsh), .long (lZ qwk)] := (fr8 b2 (by omega)).trans fb2_0
  have fb2_1 : σ7 (b2 + 1) = aI E 25 qop := (fr8 (b2 + 1) (by omega)).trans fb2_1
  have fb2_2 : σ7 (b2 + 2) = aI E 25 qlk := (fr8 (b2 + 2) (by omega)).trans fb2_2
  have fb2_3 : σ7 (b2 + 3) = aI E 6 qkp := (fr8 (b2 + 3) (by omega)).trans fb2_3
  have fb2_4 : σ7 (b2 + 4) = aI E 3 qwc := (fr8 (b2 + 4) (by omega)).trans fb2_4
  have fb2_5 : σ7 (b2 + 5) = aI E 5 ro1 := (fr8 (b2 + 5) (by omega)).trans fb2_5
  refine lv_aload_n hx hb dX1_copyFrom_59 rfl (lv_at hl 0 rfl) ?_
  refine lv_aload_n hx hb dX1_copyFrom_60 rfl (lv_at hl 1 rfl) ?_
  refine x_get hx hb hts hown hK hH b2 (by omega) fb2_0 hinX1 rfl 5 (by decide) (List.mem_of_getElem? (i := 9) rfl) rfl dX1_copyFrom_61 ?_
  refine x_put (fs' := [.ref (xad E (b + 1)), .ref (xad E (b + 2)), .ref (xad E (b + 3)), .ref (xad E (b + 4)), .ref (xad E (b + 5)), .int (iZ qpn), .int (iZ nw), .int (iZ sh), .long (lZ wk)]) hx hb hts hown hK hH b (by omega) fb_0 hinX1 rfl tyX1 tyX1_ok nmX1 5 (by decide) (List.mem_of_getElem? (i := 9) rfl) rfl (ty := .int) (by decide +kernel) rfl rfl (Nat.le_of_ble_eq_true rfl) rfl dX1_copyFrom_64 (fun σ9 H locs fb_0 fr10 hH => ?_)
  have fb_1 : σ9 (b + 1) = aI E 25 qop := (fr10 (b + 1) (by omega)).trans fb_1
  have fb_2 : σ9 (b + 2) = aI E 25 qlk := (fr10 (b + 2) (by omega)).trans fb_2
  have fb_3 : σ9 (b + 3) = aI E 6 qkp := (fr10 (b + 3) (by omega)).trans fb_3
  have fb_4 : σ9 (b + 4) = aI E 3 qwc := (fr10 (b + 4) (by omega)).trans fb_4
  have fb_5 : σ9 (b + 5) = aI E 5 ro0 := (fr10 (b + 5) (by omega)).trans fb_5
  have fb2_0 : σ9 b2 = oB 0 [.ref (xad E (b2 + 1)), .ref (xad E (b2 + 2)), .ref (xad E (b2 + 3)), .ref (xad E (b2 + 4)), .ref (xad E (b2 + 5)), .int (iZ qpn), .int (iZ qnw), .int (iZ qsh), .long (lZ qwk)] := (fr10 b2 (by omega)).trans fb2_0
  have fb2_1 : σ9 (b2 + 1) = aI E 25 qop := (fr10 (b2 + 1) (by omega)).trans fb2_1
  have fb2_2 : σ9 (b2 + 2) = aI E 25 qlk := (fr10 (b2 + 2) (by omega)).trans fb2_2
  have fb2_3 : σ9 (b2 + 3) = aI E 6 qkp := (fr10 (b2 + 3) (by omega)).trans fb2_3
  have fb2_4 : σ9 (b2 + 4) = aI E 3 qwc := (fr10 (b2 + 4) (by omega)).trans fb2_4
  have fb2_5 : σ9 (b2 + 5) = aI E 5 ro1 := (fr10 (b2 + 5) (by omega)).trans fb2_5
  refine lv_aload_n hx hb dX1_copyFrom_67 rfl (lv_at hl 0 rfl) ?_
  refine lv_aload_n hx hb dX1_copyFrom_68 rfl (lv_at hl 1 rfl) ?_
  refine x_get hx hb hts hown hK hH b2 (by omega) fb2_0 hinX1 rfl 6 (by decide) (List.mem_of_getElem? (i := 10) rfl) rfl dX1_copyFrom_69 ?_
  refine x_put (fs' := [.ref (xad E (b + 1)), .ref (xad E (b + 2)), .ref (xad E (b + 3)), .ref (xad E (b + 4)), .ref (xad E (b + 5)), .int (iZ qpn), .int (iZ qnw), .int (iZ sh), .long (lZ wk)]) hx hb hts hown hK hH b (by omega) fb_0 hinX1 rfl tyX1 tyX1_ok nmX1 6 (by decide) (List.mem_of_getElem? (i := 10) rfl) rfl (ty := .int) (by decide +kernel) rfl rfl (Nat.le_of_ble_eq_true rfl) rfl dX1_copyFrom_72 (fun σ11 H locs fb_0 fr12 hH => ?_)
  have fb_1 : σ11 (b + 1) = aI E 25 qop := (fr12 (b + 1) (by omega)).trans fb_1
  have fb_2 : σ11 (b + 2) = aI E 25 qlk := (fr12 (b + 2) (by omega)).trans fb_2
  have fb_3 : σ11 (b + 3) = aI E 6 qkp := (fr12 (b + 3) (by omega)).trans fb_3
  have fb_4 : σ11 (b + 4) = aI E 3 qwc := (fr12 (b + 4) (by omega)).trans fb_4
  have fb_5 : σ11 (b + 5) = aI E 5 ro0 := (fr12 (b + 5) (by omega)).trans fb_5
  have fb2_0 : σ11 b2 = oB 0 [.ref (xad E (b2 + 1)), .ref (xad E (b2 + 2)), .ref (xad E (b2 + 3)), .ref (xad E (b2 + 4)), .ref (xad E (b2 + 5)), .int (iZ qpn), .int (iZ qnw), .int (iZ qsh), .long (lZ qwk)] := (fr12 b2 (by omega)).trans fb2_0
  have fb2_1 : σ11 (b2 + 1) = aI E 25 qop := (fr12 (b2 + 1) (by omega)).trans fb2_1
  have fb2_2 : σ11 (b2 + 2) = aI E 25 qlk := (fr12 (b2 + 2) (by omega)).trans fb2_2
  have fb2_3 : σ11 (b2 + 3) = aI E 6 qkp := (fr12 (b2 + 3) (by omega)).trans fb2_3
  have fb2_4 : σ11 (b2 + 4) = aI E 3 qwc := (fr12 (b2 + 4) (by omega)).trans fb2_4
  have fb2_5 : σ11 (b2 + 5) = aI E 5 ro1 := (fr12 (b2 + 5) (by omega)).trans fb2_5
  refine lv_aload_n hx hb dX1_copyFrom_75 rfl (lv_at hl 0 rfl) ?_
  refine lv_aload_n hx hb dX1_copyFrom_76 rfl (lv_at hl 1 rfl) ?_
  refine x_get hx hb hts hown hK hH b2 (by omega) fb2_0 hinX1 rfl 7 (by decide) (List.mem_of_getElem? (i := 11) rfl) rfl dX1_copyFrom_77 ?_
  refine x_put (fs' := [.ref (xad E (b + 1)), .ref (xad E (b + 2)), .ref (xad E (b + 3)), .ref (xad E (b + 4)), .ref (xad E (b + 5)), .int (iZ qpn), .int (iZ qnw), .int (iZ qsh), .long (lZ wk)]) hx hb hts hown hK hH b (by omega) fb_0 hinX1 rfl tyX1 tyX1_ok nmX1 7 (by decide) (List.mem_of_getElem? (i := 11) rfl) rfl (ty := .int) (by decide +kernel) rfl rfl (Nat.le_of_ble_eq_true rfl) rfl dX1_copyFrom_80 (fun σ13 H locs fb_0 fr14 hH => ?_)
  have fb_1 : σ13 (b + 1) = aI E 25 qop := (fr14 (b + 1) (by omega)).trans fb_1
  have fb_2 : σ13 (b + 2) = aI E 25 qlk := (fr14 (b + 2) (by omega)).trans fb_2
  have fb_3 : σ13 (b + 3) = aI E 6 qkp := (fr14 (b + 3) (by omega)).trans fb_3
  have fb_4 : σ13 (b + 4) = aI E 3 qwc := (fr14 (b + 4) (by omega)).trans fb_4
  have fb_5 : σ13 (b + 5) = aI E 5 ro0 := (fr14 (b + 5) (by omega)).trans fb_5
  have fb2_0 : σ13 b2 = oB 0 [.ref (xad E (b2 + 1)), .ref (xad E (b2 + 2)), .ref (xad E (b2 + 3)), .ref (xad E (b2 + 4)), .ref (xad E (b2 + 5)), .int (iZ qpn), .int (iZ qnw), .int (iZ qsh), .long (lZ qwk)] := (fr14 b2 (by omega)).trans fb2_0
  have fb2_1 : σ13 (b2 + 1) = aI E 25 qop := (fr14 (b2 + 1) (by omega)).trans fb2_1
  have fb2_2 : σ13 (b2 + 2) = aI E 25 qlk := (fr14 (b2 + 2) (by omega)).trans fb2_2
  have fb2_3 : σ13 (b2 + 3) = aI E 6 qkp := (fr14 (b2 + 3) (by omega)).trans fb2_3
  have fb2_4 : σ13 (b2 + 4) = aI E 3 qwc := (fr14 (b2 + 4) (by omega)).trans fb2_4
  have fb2_5 : σ13 (b2 + 5) = aI E 5 ro1 := (fr14 (b2 + 5) (by omega)).trans fb2_5
  refine lv_aload_n hx hb dX1_copyFrom_83 rfl (lv_at hl 0 rfl) ?_
  refine lv_aload_n hx hb dX1_copyFrom_84 rfl (lv_at hl 1 rfl) ?_
  refine x_get hx hb hts hown hK hH b2 (by omega) fb2_0 hinX1 rfl 8 (by decide) (List.mem_of_getElem? (i := 12) rfl) rfl dX1_copyFrom_85 ?_
  refine x_put (fs' := [.ref (xad E (b + 1)), .ref (xad E (b + 2)), .ref (xad E (b + 3)), .ref (xad E (b + 4)), .ref (xad E (b + 5)), .int (iZ qpn), .int (iZ qnw), .int (iZ qsh), .long (lZ qwk)]) hx hb hts hown hK hH b (by omega) fb_0 hinX1 rfl tyX1 tyX1_ok nmX1 8 (by decide) (List.mem_of_getElem? (i := 12) rfl) rfl (ty := .long) (by decide +kernel) rfl rfl (Nat.le_of_ble_eq_true rfl) rfl dX1_copyFrom_88 (fun σ15 H locs fb_0 fr16 hH => ?_)
  have fb_1 : σ15 (b + 1) = aI E 25 qop := (fr16 (b + 1) (by omega)).trans fb_1
  have fb_2 : σ15 (b + 2) = aI E 25 qlk := (fr16 (b + 2) (by omega)).trans fb_2
  have fb_3 : σ15 (b + 3) = aI E 6 qkp := (fr16 (b + 3) (by omega)).trans fb_3
  have fb_4 : σ15 (b + 4) = aI E 3 qwc := (fr16 (b + 4) (by omega)).trans fb_4
  have fb_5 : σ15 (b + 5) = aI E 5 ro0 := (fr16 (b + 5) (by omega)).trans fb_5
  have fb2_0 : σ15 b2 = oB 0 [.ref (xad E (b2 + 1)), .ref (xad E (b2 + 2)), .ref (xad E (b2 + 3)), .ref (xad E (b2 + 4)), .ref (xad E (b2 + 5)), .int (iZ qpn), .int (iZ qnw), .int (iZ qsh), .long (lZ qwk)] := (fr16 b2 (by omega)).trans fb2_0
  have fb2_1 : σ15 (b2 + 1) = aI E 25 qop := (fr16 (b2 + 1) (by omega)).trans fb2_1
  have fb2_2 : σ15 (b2 + 2) = aI E 25 qlk := (fr16 (b2 + 2) (by omega)).trans fb2_2
  have fb2_3 : σ15 (b2 + 3) = aI E 6 qkp := (fr16 (b2 + 3) (by omega)).trans fb2_3
  have fb2_4 : σ15 (b2 + 4) = aI E 3 qwc := (fr16 (b2 + 4) (by omega)).trans fb2_4
  have fb2_5 : σ15 (b2 + 5) = aI E 5 ro1 := (fr16 (b2 + 5) (by omega)).trans fb2_5
  subst hQ
  exact x_vret hx hb hr hlocks hH (Nat.le_of_ble_eq_true rfl) (Nat.le_of_ble_eq_true rfl) ⟨⟨⟨fb_0, fb_1, fb_2, fb_3, fb_4, _, fb_5⟩, ⟨fb2_0, fb2_1, fb2_2, fb2_3, fb2_4, _, fb2_5⟩⟩, fun j hj0 => ((fr16 j (by omega)).trans ((fr14 j (by omega)).trans ((fr12 j (by omega)).trans ((fr10 j (by omega)).trans ((fr8 j (by omega)).trans ((fr6 j (by omega)).trans ((fr4 j (by omega)).trans (fr2 j (by omega)))))))))⟩ dX1_copyFrom_91

def rm_X1_keyPlacesExist : Room := { frames := 1, cells := 0, slots := 0, locals := 21 }
set_option maxRecDepth 100000 in
set_option maxHeartbeats 4000000 in
theorem c_X1_keyPlacesExist (l : Launch) (E : xE) (ST : xST) (hSF : SF ST) (σ : xW) (b : Nat) (op : Int → Int) (lk : Int → Int) (kp : Int → Int) (wc : Int → Int) (pn : Int) (nw : Int) (sh : Int) (wk : Int) (hr0 : bd E σ b op lk kp wc pn nw sh wk) (hb : b + 6 ≤ 85) (hB : BI op lk kp wc pn nw) : CI l E ST yX1_keyPlacesExist wsX1_keyPlacesExist rm_X1_keyPlacesExist [.ref (xad E b)] σ (fun (z : Int) (u : xW) => z = b2 true ∧ u = σ) := by
  obtain ⟨fb_0, fb_1, fb_2, fb_3, fb_4, ro0, fb_5⟩ := hr0
  refine CI_of (by decide) rfl (Nat.le_of_ble_eq_true rfl) ?_
  intro p e s m args below meth c Q ls G hH hl hQ
  obtain ⟨hx, hb, hml, hown, hts, hK, hST, hlocks, hr, hno⟩ := G
  have hOK := hSF.1
  have hown : s.vm.findClass RX1 = some m.cls := hown
  have hl : lv_has ls 3 [(0, .ref (xad E b))] := hl
  have hinX1 : ∀ w ∈ u_ws RX1 TX1 9, w ∈ wsX1_keyPlacesExist := fun w h => (List.mem_cons_of_mem _ (List.mem_append_right _ h))
  obtain ⟨hop, hlk, hkp, hwc, hpn, hnw⟩ := id hB
  refine x_iconst hx hb dX1_keyPlacesExist_0 ?_
  refine lv_istore_n (lv' := [(1, .int (iZ 0)), (0, .ref (xad E b))]) hx hb dX1_keyPlacesExist_1 rfl hl (by decide) rfl (fun ls hl => ?_)
  have K2 : ∀ (nK : Nat) (i : Int) (H : Heap) (locs : List Loc) (ls : Array Slot), (6 - i).toNat < nK → (0 ≤ i ∧ i ≤ 6) → Hx E (xA E s.heap.size) s.heap σ H locs → lv_has ls 3 [(1, .int (iZ i)), (0, .ref (xad E b))] → W p l e rm_X1_keyPlacesExist s m args below meth c H locs 0 0 Q (F0 m 2 ls []) := by
    intro n2
    induction n2 with
    | zero =>
      intro i H locs ls hm
      exact absurd hm (by first | exact Nat.not_lt_zero _ | omega)
    | succ n2 ih2 =>
      intro i H locs ls hm2 hi  hH hl
      refine lv_iload_n hx hb dX1_keyPlacesExist_2 rfl (lv_at hl 0 rfl) ?_
      refine x_bipush hx hb dX1_keyPlacesExist_3 (by decide) ?_
      refine x_icmp_ge (tgt := 46) hx hb dX1_keyPlacesExist_5 (by decide) (by omega) (by decide) (fun c5 => ?_) (fun c5 => ?_)
      · refine x_iconst hx hb dX1_keyPlacesExist_46 ?_
        subst hQ
        exact x_zret (b := true) hx hb hr hlocks hH (Nat.le_of_ble_eq_true rfl) (Nat.le_of_ble_eq_true rfl) ⟨congrArg b2 (show true = true from (by first | rfl | (exfalso; omega))), rfl⟩ dX1_keyPlacesExist_47
      · refine lv_aload_n hx hb dX1_keyPlacesExist_8 rfl (lv_at hl 1 rfl) ?_
        refine x_get hx hb hts hown hK hH b (by omega) fb_0 hinX1 rfl 2 (by decide) (List.mem_of_getElem? (i := 1) rfl) rfl dX1_keyPlacesExist_9 ?_
        refine lv_iload_n hx hb dX1_keyPlacesExist_12 rfl (lv_at hl 0 rfl) ?_
        refine x_iald hx hb hK hH (b + 3) (by omega) fb_3 (by omega) (by omega) (by omega) dX1_keyPlacesExist_13 ?_
        have hv2 := hkp i
        refine lv_istore_n (lv' := [(2, .int (iZ (kp i))), (1, .int (iZ i)), (0, .ref (xad E b))]) hx hb dX1_keyPlacesExist_14 rfl hl (by decide) rfl (fun ls hl => ?_)
        refine lv_iload_n hx hb dX1_keyPlacesExist_15 rfl (lv_at hl 0 rfl) ?_
        refine x_iconst hx hb dX1_keyPlacesExist_16 ?_
        refine x_icmp_eq (tgt := 40) hx hb dX1_keyPlacesExist_17 (by decide) (by omega) (by decide) (fun c17 => ?_) (fun c17 => ?_)
        · refine x_iinc (lv' := [(1, .int (iZ (i + 1))), (2, .int (iZ (kp i))), (0, .ref (xad E b))]) hx hb dX1_keyPlacesExist_40 hl (k := 1) rfl (by decide) rfl (fun ls hl => ?_)
          refine lv_goto (tgt := 2) hx hb dX1_keyPlacesExist_43 (by decide) ?_
          exact ih2 (i + 1) _ _ _ (by omega) (by first | omega | rfl | assumption | simp_all)  hH (lv_sub hl [0, 2] rfl)
        · refine lv_iload_n hx hb dX1_keyPlacesExist_20 rfl (lv_at hl 0 rfl) ?_
          refine x_cSNID (As := [.int (iZ (kp i))]) (rest := []) hx hb hml hts hown hK hST hOK hH (c_X6_isCell l E ST hSF σ (kp i)  (by omega)) ⟨va_cnB (host := "BrambleShift") 1 hts gX1_keyPlacesExist_X6_isCell_n113 rfl rfl rfl (hSF.nest hST (List.mem_of_getElem? (i := 3) rfl)) (hts _ (List.mem_of_getElem? (i := 3) rfl)) (by decide +kernel) ⟨Nat.le_of_ble_eq_true rfl, Nat.le_of_ble_eq_true rfl⟩, hts _ (List.mem_of_getElem? (i := 2) rfl), trivial⟩ rfl hl.1 rfl (Nat.le_of_ble_eq_true rfl) dX1_keyPlacesExist_21 ⟨Nat.le_of_ble_eq_true rfl, Nat.le_of_ble_eq_true rfl⟩ (fun z u h => h) (fun H locs hH => ?_)
          refine x_ifb_ne (tgt := 40) hx hb dX1_keyPlacesExist_24 (by decide) (fun c24 => ?_) (fun c24 => ?_)
          · have c24 := of_decide_eq_true c24
            refine x_iinc (lv' := [(1, .int (iZ (i + 1))), (2, .int (iZ (kp i))), (0, .ref (xad E b))]) hx hb dX1_keyPlacesExist_40 hl (k := 1) rfl (by decide) rfl (fun ls hl => ?_)
            refine lv_goto (tgt := 2) hx hb dX1_keyPlacesExist_43 (by decide) ?_
            exact ih2 (i + 1) _ _ _ (by omega) (by first | omega | rfl | assumption | simp_all)  hH (lv_sub hl [0, 2] rfl)
          · have c24 := of_decide_eq_false c24
            refine lv_aload_n hx hb dX1_keyPlacesExist_27 rfl (lv_at hl 2 rfl) ?_
            refine lv_iload_n hx hb dX1_keyPlacesExist_28 rfl (lv_at hl 0 rfl) ?_
            refine x_bipush hx hb dX1_keyPlacesExist_29 (by decide) ?_
            refine x_isub hx hb dX1_keyPlacesExist_31 ?_
            refine x_cVID (As := [.int (iZ ((kp i) - 25))]) (rest := []) hx hb hml hts hown hK hST hOK hH b (c_X1_isWalker l E ST hSF σ b ((kp i) - 25) op lk kp wc pn nw sh wk ⟨fb_0, fb_1, fb_2, fb_3, fb_4, _, fb_5⟩ (by omega) (by omega) (by omega)) (cwV 1 hts gX1_keyPlacesExist_X1_isWalker rfl rfl rfl (by decide +kernel) ⟨Nat.le_of_ble_eq_true rfl, Nat.le_of_ble_eq_true rfl⟩) (by omega) fb_0 rfl rfl hl.1 rfl (Nat.le_of_ble_eq_true rfl) dX1_keyPlacesExist_32 ⟨Nat.le_of_ble_eq_true rfl, Nat.le_of_ble_eq_true rfl⟩ (fun z u h => h) (fun H locs hH => ?_)
            refine x_ifb_ne (tgt := 40) hx hb dX1_keyPlacesExist_35 (by decide) (fun c35 => ?_) (fun c35 => ?_)
            · have c35 := of_decide_eq_true c35
              refine x_iinc (lv' := [(1, .int (iZ (i + 1))), (2, .int (iZ (kp i))), (0, .ref (xad E b))]) hx hb dX1_keyPlacesExist_40 hl (k := 1) rfl (by decide) rfl (fun ls hl => ?_)
              refine lv_goto (tgt := 2) hx hb dX1_keyPlacesExist_43 (by decide) ?_
              exact ih2 (i + 1) _ _ _ (by omega) (by first | omega | rfl | assumption | simp_all)  hH (lv_sub hl [0, 2] rfl)
            · have c35 := of_decide_eq_false c35
              refine x_iconst hx hb dX1_keyPlacesExist_38 ?_
              subst hQ
              exact x_zret (b := false) hx hb hr hlocks hH (Nat.le_of_ble_eq_true rfl) (Nat.le_of_ble_eq_true rfl) ⟨congrArg b2 (show false = true from (by first | rfl | (exfalso; omega))), rfl⟩ dX1_keyPlacesExist_39
  exact K2 7 0 _ _ _ (by first | omega | decide) (by first | omega | rfl | assumption | simp_all)  hH (lv_sub hl [0, 1] rfl)
