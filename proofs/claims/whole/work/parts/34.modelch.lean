def rm_X7_sets : Room := { frames := 4, cells := 0, slots := 0, locals := 84 }
set_option maxRecDepth 100000 in
set_option maxHeartbeats 4000000 in
theorem c_X7_sets (l : Launch) (E : xE) (ST : xST) (hSF : SF ST) (σ : xW) (r : Int) (c0 : Int) (o : Int) (op : Int → Int) (lk : Int → Int) (kp : Int → Int) (wc : Int → Int) (pn : Int) (nw : Int) (sh : Int) (wk : Int) (sv : Bool) (re : Int) (ea : Int) (fa : Int) (ty : Int) (li : Int) (th : Int) (sz : Int) (sp : Int) (wr : Int) (to : Int) (v : Int → Int) (hr0 : mo E σ sv re ea fa ty li th sz sp wr to) (hr1 : now E σ v) (hC : Cp v op lk kp wc pn nw sh wk) (hB : BI op lk kp wc pn nw) (hr9 : rg r) (hc9 : rg c0) (ho : rg o) : CI l E ST yX7_sets wsX7_sets rm_X7_sets [.ref (xad E 85), .int (iZ r), .int (iZ c0), .int (iZ o)] σ (fun (z : Int) (u : xW) => (rg z ∧ (0 ≤ (setF op lk kp wc pn nw sh wk r c0 o).1 → z = (setF op lk kp wc pn nw sh wk r c0 o).1)) ∧ (∃ (v1 : Int → Int), mo E u sv re ea fa ty li (tA (setF op lk kp wc pn nw sh wk r c0 o).1) sz sp wr to ∧ now E u v1 ∧ (CpT v1 (setF op lk kp wc pn nw sh wk r c0 o).2)) ∧ ∀ j : Nat, (j < 85 ∨ 85 + 2 ≤ j) → u j = σ j) := by
  have f85 : σ 85 = oB 5 [.ref (xad E 86), .ref (xad E 87), .ref (xad E 88), .ref (xad E 89), .ref (xad E 90), .int (iZ (b2 sv)), .int (iZ re), .int (iZ ea), .int (iZ fa), .ref (xad E 91), .ref (xad E 92), .ref (xad E 93), .int (iZ ty), .ref (xad E 94), .int (iZ li), .int (iZ th), .int (iZ sz), .int (iZ sp), .int (iZ wr), .int (iZ to), .ref (xad E 95)] := hr0
  have f86 : σ 86 = aI E 87 v := hr1
  refine CI_of (by decide) rfl (Nat.le_of_ble_eq_true rfl) ?_
  intro p e s m args below meth c Q ls G hH hl hQ
  obtain ⟨hx, hb, hml, hown, hts, hK, hST, hlocks, hr, hno⟩ := G
  have hOK := hSF.1
  have hown : s.vm.findClass RX7 = some m.cls := hown
  have hl : lv_has ls 6 [(0, .ref (xad E 85)), (1, .int (iZ r)), (2, .int (iZ c0)), (3, .int (iZ o))] := hl
  have hinX7 : ∀ w ∈ u_ws RX7 TX7 21, w ∈ wsX7_sets := fun w h => (List.mem_cons_of_mem _ (List.mem_append_right _ h))
  obtain ⟨hop, hlk, hkp, hwc, hpn, hnw⟩ := id hB
  have hvR := hC.R
  have hv0 := hC.1.1
  have hcz := cellZ_rg (r := r) (c := c0)
  refine lv_iload_n hx hb dX7_sets_0 rfl (lv_at hl 1 rfl) ?_
  refine lv_iload_n hx hb dX7_sets_1 rfl (lv_at hl 2 rfl) ?_
  refine x_cSID (As := [.int (iZ r), .int (iZ c0)]) (rest := []) hx hb hml hts hown hK hST hOK hH (c_X7_cellAt l E ST hSF σ r c0  (by omega) (by omega)) (va_cwS 2 hts gX7_sets_X7_cellAt rfl rfl rfl (by decide +kernel) ⟨Nat.le_of_ble_eq_true rfl, Nat.le_of_ble_eq_true rfl⟩) rfl hl.1 rfl (Nat.le_of_ble_eq_true rfl) dX7_sets_2 ⟨Nat.le_of_ble_eq_true rfl, Nat.le_of_ble_eq_true rfl⟩ (fun z u h => h) (fun H locs hH => ?_)
  refine lv_istore (lv' := [(4, .int (iZ (cellZ r c0))), (0, .ref (xad E 85)), (1, .int (iZ r)), (2, .int (iZ c0)), (3, .int (iZ o))]) hx hb dX7_sets_5 hl (by decide) rfl (fun ls hl => ?_)
  refine lv_aload_n hx hb dX7_sets_7 rfl (lv_at hl 1 rfl) ?_
  refine lv_iload hx hb dX7_sets_8 (lv_at hl 0 rfl) ?_
  refine x_iconst hx hb dX7_sets_10 ?_
  refine x_cVID (As := [.int (iZ (cellZ r c0)), .int (iZ 0)]) (rest := []) hx hb hml hts hown hK hST hOK hH 85 (c_X7_of l E ST hSF σ (cellZ r c0) 0 sv re ea fa ty li th sz sp wr to v f85 f86 (by omega) (by omega)) (cwV 2 hts gX7_sets_X7_of rfl rfl rfl (by decide +kernel) ⟨Nat.le_of_ble_eq_true rfl, Nat.le_of_ble_eq_true rfl⟩) (by decide) f85 rfl rfl hl.1 rfl (Nat.le_of_ble_eq_true rfl) dX7_sets_11 ⟨Nat.le_of_ble_eq_true rfl, Nat.le_of_ble_eq_true rfl⟩ (fun z u h => h) (fun H locs hH => ?_)
  rw [hC.a0 (c := cellZ r c0) (by omega) (by omega)]
  have hv7 := hop (cellZ r c0)
  refine lv_istore (lv' := [(5, .int (iZ (op (cellZ r c0)))), (4, .int (iZ (cellZ r c0))), (0, .ref (xad E 85)), (1, .int (iZ r)), (2, .int (iZ c0)), (3, .int (iZ o))]) hx hb dX7_sets_14 hl (by decide) rfl (fun ls hl => ?_)
  refine lv_aload_n hx hb dX7_sets_16 rfl (lv_at hl 2 rfl) ?_
  refine lv_iload_n hx hb dX7_sets_17 rfl (lv_at hl 3 rfl) ?_
  refine lv_iload_n hx hb dX7_sets_18 rfl (lv_at hl 4 rfl) ?_
  refine x_cSID (As := [.int (iZ r), .int (iZ c0)]) (rest := [.ref (xad E 85)]) hx hb hml hts hown hK hST hOK hH (c_X7_isCell l E ST hSF σ r c0  (by omega) (by omega)) (va_cwS 2 hts gX7_sets_X7_isCell rfl rfl rfl (by decide +kernel) ⟨Nat.le_of_ble_eq_true rfl, Nat.le_of_ble_eq_true rfl⟩) rfl hl.1 rfl (Nat.le_of_ble_eq_true rfl) dX7_sets_19 ⟨Nat.le_of_ble_eq_true rfl, Nat.le_of_ble_eq_true rfl⟩ (fun z u h => h) (fun H locs hH => ?_)
  refine lv_iload_n hx hb dX7_sets_22 rfl (lv_at hl 5 rfl) ?_
  refine x_iconst hx hb dX7_sets_23 ?_
  refine x_bipush hx hb dX7_sets_24 (by decide) ?_
  refine x_cSID (As := [.int (iZ o), .int (iZ 0), .int (iZ 15)]) (rest := [.int (iZ (b2 (decide ((0 ≤ r ∧ r ≤ 4) ∧ (0 ≤ c0 ∧ c0 ≤ 4))))), .ref (xad E 85)]) hx hb hml hts hown hK hST hOK hH (c_X7_isIn l E ST hSF σ o 0 15  (by omega) (by omega) (by omega)) (va_cwS 3 hts gX7_sets_X7_isIn rfl rfl rfl (by decide +kernel) ⟨Nat.le_of_ble_eq_true rfl, Nat.le_of_ble_eq_true rfl⟩) rfl hl.1 rfl (Nat.le_of_ble_eq_true rfl) dX7_sets_26 ⟨Nat.le_of_ble_eq_true rfl, Nat.le_of_ble_eq_true rfl⟩ (fun z u h => h) (fun H locs hH => ?_)
  refine x_iconst hx hb dX7_sets_29 ?_
  refine x_cVIE (As := [.int (iZ (b2 (decide ((0 ≤ r ∧ r ≤ 4) ∧ (0 ≤ c0 ∧ c0 ≤ 4))))), .int (iZ (b2 (decide (0 ≤ o ∧ o ≤ 15)))), .int (iZ 1)]) (rest := []) hx hb hml hts hown hK hST hOK hH 85 (c_X7_holds l E ST hSF σ (decide ((0 ≤ r ∧ r ≤ 4) ∧ (0 ≤ c0 ∧ c0 ≤ 4))) (decide (0 ≤ o ∧ o ≤ 15)) true sv re ea fa ty li th sz sp wr to f85 ) (cwV 3 hts gX7_sets_X7_holds rfl rfl rfl (by decide +kernel) ⟨Nat.le_of_ble_eq_true rfl, Nat.le_of_ble_eq_true rfl⟩) (by decide) f85 rfl rfl hl.1 rfl (Nat.le_of_ble_eq_true rfl) dX7_sets_30 ⟨Nat.le_of_ble_eq_true rfl, Nat.le_of_ble_eq_true rfl⟩ (fun z u h => h) (fun σ15 H locs hp16 hH => ?_)
  obtain ⟨f85, fr17⟩ := hp16
  have f86 : σ15 86 = aI E 87 v := (fr17 86 (by omega)).trans f86
  refine x_ifb_eq (tgt := 49) hx hb dX7_sets_33 (by decide) (fun c33 => ?_) (fun c33 => ?_)
  · refine lv_iload hx hb dX7_sets_49 (lv_at hl 0 rfl) ?_
    subst hQ
    exact x_iret hx hb hr hlocks hH (Nat.le_of_ble_eq_true rfl) (Nat.le_of_ble_eq_true rfl) ⟨(by exact set_rs hop), ⟨v, (f85.trans (by rw [th_set op lk kp wc pn nw sh wk r c0 o hop])), f86, (by first | exact cp_ok (Cp_op hC hnw.2 hcz.1 hcz.2 ho) (set_y c33) | exact cp_no hC (set_n c33))⟩, fun j hj0 => (fr17 j (by omega))⟩ dX7_sets_51
  · refine lv_aload_n hx hb dX7_sets_36 rfl (lv_at hl 2 rfl) ?_
    refine x_get hx hb hts hown hK hH 85 (by decide) f85 hinX7 rfl 0 (by decide) (List.mem_of_getElem? (i := 1) rfl) rfl dX7_sets_37 ?_
    refine lv_iload hx hb dX7_sets_40 (lv_at hl 1 rfl) ?_
    refine x_cSID (As := [.int (iZ (cellZ r c0))]) (rest := [.ref (xad E 86)]) hx hb hml hts hown hK hST hOK hH (c_X7_tileAt l E ST hSF σ15 (cellZ r c0)  (by omega)) (va_cwS 1 hts gX7_sets_X7_tileAt rfl rfl rfl (by decide +kernel) ⟨Nat.le_of_ble_eq_true rfl, Nat.le_of_ble_eq_true rfl⟩) rfl hl.1 rfl (Nat.le_of_ble_eq_true rfl) dX7_sets_42 ⟨Nat.le_of_ble_eq_true rfl, Nat.le_of_ble_eq_true rfl⟩ (fun z u h => h) (fun H locs hH => ?_)
    refine x_iconst hx hb dX7_sets_45 ?_
    refine x_iadd hx hb dX7_sets_46 ?_
    refine lv_iload_n hx hb dX7_sets_47 rfl (lv_at hl 5 rfl) ?_
    refine x_iast hx hb hK hH 86 (by decide) f86 (by omega) (by omega) (by omega) dX7_sets_48 (fun σ22 H locs f86 fr23 hH => ?_)
    have f85 : σ22 85 = oB 5 [.ref (xad E 86), .ref (xad E 87), .ref (xad E 88), .ref (xad E 89), .ref (xad E 90), .int (iZ (b2 sv)), .int (iZ re), .int (iZ ea), .int (iZ fa), .ref (xad E 91), .ref (xad E 92), .ref (xad E 93), .int (iZ ty), .ref (xad E 94), .int (iZ li), .int (iZ (thZ (decide ((0 ≤ r ∧ r ≤ 4) ∧ (0 ≤ c0 ∧ c0 ≤ 4))) (decide (0 ≤ o ∧ o ≤ 15)) true)), .int (iZ sz), .int (iZ sp), .int (iZ wr), .int (iZ to), .ref (xad E 95)] := (fr23 85 (by omega)).trans f85
    refine lv_iload hx hb dX7_sets_49 (lv_at hl 0 rfl) ?_
    subst hQ
    exact x_iret hx hb hr hlocks hH (Nat.le_of_ble_eq_true rfl) (Nat.le_of_ble_eq_true rfl) ⟨(by exact set_rs hop), ⟨(ui v ((12 + 3 * (cellZ r c0)) + 0) o), (f85.trans (by rw [th_set op lk kp wc pn nw sh wk r c0 o hop])), f86, (by first | exact cp_ok (Cp_op hC hnw.2 hcz.1 hcz.2 ho) (set_y c33) | exact cp_no hC (set_n c33))⟩, fun j hj0 => ((fr23 j (by omega)).trans (fr17 j (by omega)))⟩ dX7_sets_51

def rm_X7_setTile : Room := { frames := 5, cells := 0, slots := 0, locals := 109 }
set_option maxRecDepth 100000 in
set_option maxHeartbeats 4000000 in
theorem c_X7_setTile (l : Launch) (E : xE) (ST : xST) (hSF : SF ST) (σ : xW) (r : Int) (c0 : Int) (o : Int) (op : Int → Int) (lk : Int → Int) (kp : Int → Int) (wc : Int → Int) (pn : Int) (nw : Int) (sh : Int) (wk : Int) (sv : Bool) (re : Int) (ea : Int) (fa : Int) (ty : Int) (li : Int) (th : Int) (sz : Int) (sp : Int) (wr : Int) (to : Int) (v : Int → Int) (w : Int → Int) (hF : Int → Int) (hr0 : mo E σ sv re ea fa ty li th sz sp wr to) (hr1 : now E σ v) (hr2 : bef E σ w) (hr3 : his E σ hF) (hC : Cp v op lk kp wc pn nw sh wk) (hB : BI op lk kp wc pn nw) (hre : 0 ≤ re ∧ re ≤ 8) (hr9 : rg r) (hc9 : rg c0) (ho : rg o) : CI l E ST yX7_setTile wsX7_setTile rm_X7_setTile [.ref (xad E 85), .int (iZ r), .int (iZ c0), .int (iZ o)] σ (fun (z : Int) (u : xW) => (0 ≤ (setF op lk kp wc pn nw sh wk r c0 o).1 → z = (setF op lk kp wc pn nw sh wk r c0 o).1) ∧ (∃ (v1 : Int → Int), mo E u sv (if tA (setF op lk kp wc pn nw sh wk r c0 o).1 = 0 then re8 re else re) ea fa ty li (tA (setF op lk kp wc pn nw sh wk r c0 o).1) sz sp wr to ∧ now E u (if tA (setF op lk kp wc pn nw sh wk r c0 o).1 = 0 then v1 else v) ∧ bef E u v ∧ his E u (if tA (setF op lk kp wc pn nw sh wk r c0 o).1 = 0 then rmF hF v re else hF) ∧ (CpT v1 (setF op lk kp wc pn nw sh wk r c0 o).2)) ∧ ∀ j : Nat, (j < 85 ∨ 85 + 3 ≤ j) → j ≠ 90 → u j = σ j) := by
  have f85 : σ 85 = oB 5 [.ref (xad E 86), .ref (xad E 87), .ref (xad E 88), .ref (xad E 89), .ref (xad E 90), .int (iZ (b2 sv)), .int (iZ re), .int (iZ ea), .int (iZ fa), .ref (xad E 91), .ref (xad E 92), .ref (xad E 93), .int (iZ ty), .ref (xad E 94), .int (iZ li), .int (iZ th), .int (iZ sz), .int (iZ sp), .int (iZ wr), .int (iZ to), .ref (xad E 95)] := hr0
  have f86 : σ 86 = aI E 87 v := hr1
  have f87 : σ 87 = aI E 87 w := hr2
  have f90 : σ 90 = aI E 696 hF := hr3
  refine CI_of (by decide) rfl (Nat.le_of_ble_eq_true rfl) ?_
  intro p e s m args below meth c Q ls G hH hl hQ
  obtain ⟨hx, hb, hml, hown, hts, hK, hST, hlocks, hr, hno⟩ := G
  have hOK := hSF.1
  have hown : s.vm.findClass RX7 = some m.cls := hown
  have hl : lv_has ls 4 [(0, .ref (xad E 85)), (1, .int (iZ r)), (2, .int (iZ c0)), (3, .int (iZ o))] := hl
  obtain ⟨hop, hlk, hkp, hwc, hpn, hnw⟩ := id hB
  have hvR := hC.R
  have hv0 := hC.1.1
  refine lv_aload_n hx hb dX7_setTile_0 rfl (lv_at hl 0 rfl) ?_
  refine x_cVV (As := []) (rest := []) hx hb hml hts hown hK hST hOK hH 85 (c_X7_begins l E ST hSF σ sv re ea fa ty li th sz sp wr to v w f85 f86 f87 ) (cwV 0 hts gX7_setTile_X7_begins rfl rfl rfl (by decide +kernel) ⟨Nat.le_of_ble_eq_true rfl, Nat.le_of_ble_eq_true rfl⟩) (by decide) f85 rfl rfl hl.1 rfl (Nat.le_of_ble_eq_true rfl) dX7_setTile_1 ⟨Nat.le_of_ble_eq_true rfl, Nat.le_of_ble_eq_true rfl⟩ (fun σ2 H locs hp3 hH => ?_)
  obtain ⟨⟨f85, f86, f87⟩, fr4⟩ := hp3
  have f90 : σ2 90 = aI E 696 hF := (fr4 90 (by omega)).trans f90
  refine lv_aload_n hx hb dX7_setTile_4 rfl (lv_at hl 0 rfl) ?_
  refine lv_aload_n hx hb dX7_setTile_5 rfl (lv_at hl 0 rfl) ?_
  refine lv_iload_n hx hb dX7_setTile_6 rfl (lv_at hl 1 rfl) ?_
  refine lv_iload_n hx hb dX7_setTile_7 rfl (lv_at hl 2 rfl) ?_
  refine lv_iload_n hx hb dX7_setTile_8 rfl (lv_at hl 3 rfl) ?_
  refine x_cVI (As := [.int (iZ r), .int (iZ c0), .int (iZ o)]) (rest := [.ref (xad E 85)]) hx hb hml hts hown hK hST hOK hH 85 (c_X7_sets l E ST hSF σ2 r c0 o op lk kp wc pn nw sh wk sv re ea fa ty li th sz sp wr to v f85 f86 (by assumption) (by omega) (by omega) (by omega) (by omega)) (cwV 3 hts gX7_setTile_X7_sets rfl rfl rfl (by decide +kernel) ⟨Nat.le_of_ble_eq_true rfl, Nat.le_of_ble_eq_true rfl⟩) (by decide) f85 rfl rfl hl.1 rfl (Nat.le_of_ble_eq_true rfl) dX7_setTile_9 ⟨Nat.le_of_ble_eq_true rfl, Nat.le_of_ble_eq_true rfl⟩ (fun z6 σ7 H locs hp8 hH => ?_)
  obtain ⟨hz_, ⟨v1_, f85, f86, hf10⟩, fr9⟩ := hp8
  have f87 : σ7 87 = aI E 87 v := (fr9 87 (by omega)).trans f87
  have f90 : σ7 90 = aI E 696 hF := (fr9 90 (by omega)).trans f90
  have htb : 0 ≤ tA (setF op lk kp wc pn nw sh wk r c0 o).1 ∧ tA (setF op lk kp wc pn nw sh wk r c0 o).1 ≤ 3 := (by unfold tA; (repeat' split) <;> omega)
  refine x_cVIE (As := [.int (iZ z6)]) (rest := []) hx hb hml hts hown hK hST hOK hH 85 (c_X7_ends l E ST hSF σ7 z6 sv re ea fa ty li (tA (setF op lk kp wc pn nw sh wk r c0 o).1) sz sp wr to v1_ v hF f85 f86 f87 f90 (by omega) (by omega) (by omega)) (cwV 1 hts gX7_setTile_X7_ends rfl rfl rfl (by decide +kernel) ⟨Nat.le_of_ble_eq_true rfl, Nat.le_of_ble_eq_true rfl⟩) (by decide) f85 rfl rfl hl.1 rfl (Nat.le_of_ble_eq_true rfl) dX7_setTile_12 ⟨Nat.le_of_ble_eq_true rfl, Nat.le_of_ble_eq_true rfl⟩ (fun z u h => h) (fun σ12 H locs hp13 hH => ?_)
  obtain ⟨⟨f85, f86, f87, f90⟩, fr14⟩ := hp13
  subst hQ
  exact x_iret hx hb hr hlocks hH (Nat.le_of_ble_eq_true rfl) (Nat.le_of_ble_eq_true rfl) ⟨(by intro h9; rw [if_pos (tA_0 h9)]; exact hz_.2 h9), ⟨v1_, (f85.trans (by first | rfl | omega | simp_all)), (f86.trans (congrArg (fun g => aI E 87 g) (show (if (tA (setF op lk kp wc pn nw sh wk r c0 o).1) = 0 then v1_ else v) = (if tA (setF op lk kp wc pn nw sh wk r c0 o).1 = 0 then v1_ else v) from (by first | rfl | omega | simp_all)))), f87, (f90.trans (congrArg (fun g => aI E 696 g) (show (if (tA (setF op lk kp wc pn nw sh wk r c0 o).1) = 0 then rmF hF v re else hF) = (if tA (setF op lk kp wc pn nw sh wk r c0 o).1 = 0 then rmF hF v re else hF) from (by first | rfl | omega | simp_all)))), (by first | assumption | omega | simp_all)⟩, fun j hj0 hj1 => ((fr14 j (by omega) (by omega)).trans ((fr9 j (by omega)).trans (fr4 j (by omega))))⟩ dX7_setTile_15

def rm_X7_turns : Room := { frames := 4, cells := 0, slots := 0, locals := 84 }
set_option maxRecDepth 100000 in
set_option maxHeartbeats 4000000 in
theorem c_X7_turns (l : Launch) (E : xE) (ST : xST) (hSF : SF ST) (σ : xW) (r : Int) (c0 : Int) (q : Int) (op : Int → Int) (lk : Int → Int) (kp : Int → Int) (wc : Int → Int) (pn : Int) (nw : Int) (sh : Int) (wk : Int) (sv : Bool) (re : Int) (ea : Int) (fa : Int) (ty : Int) (li : Int) (th : Int) (sz : Int) (sp : Int) (wr : Int) (to : Int) (v : Int → Int) (hr0 : mo E σ sv re ea fa ty li th sz sp wr to) (hr1 : now E σ v) (hC : Cp v op lk kp wc pn nw sh wk) (hB : BI op lk kp wc pn nw) (hr9 : rg r) (hc9 : rg c0) (ho : rg q) : CI l E ST yX7_turns wsX7_turns rm_X7_turns [.ref (xad E 85), .int (iZ r), .int (iZ c0), .int (iZ q)] σ (fun (z : Int) (u : xW) => (rg z ∧ (0 ≤ (turnF op lk kp wc pn nw sh wk r c0 q).1 → z = (turnF op lk kp wc pn nw sh wk r c0 q).1)) ∧ (∃ (v1 : Int → Int), mo E u sv re ea fa ty li (tA (turnF op lk kp wc pn nw sh wk r c0 q).1) sz sp wr to ∧ now E u v1 ∧ (CpT v1 (turnF op lk kp wc pn nw sh wk r c0 q).2)) ∧ ∀ j : Nat, (j < 85 ∨ 85 + 2 ≤ j) → u j = σ j) := by
  have f85 : σ 85 = oB 5 [.ref (xad E 86), .ref (xad E 87), .ref (xad E 88), .ref (xad E 89), .ref (xad E 90), .int (iZ (b2 sv)), .int (iZ re), .int (iZ ea), .int (iZ fa), .ref (xad E 91), .ref (xad E 92), .ref (xad E 93), .int (iZ ty), .ref (xad E 94), .int (iZ li), .int (iZ th), .int (iZ sz), .int (iZ sp), .int (iZ wr), .int (iZ to), .ref (xad E 95)] := hr0
  have f86 : σ 86 = aI E 87 v := hr1
  refine CI_of (by decide) rfl (Nat.le_of_ble_eq_true rfl) ?_
  intro p e s m args below meth c Q ls G hH hl hQ
  obtain ⟨hx, hb, hml, hown, hts, hK, hST, hlocks, hr, hno⟩ := G
  have hOK := hSF.1
  have hown : s.vm.findClass RX7 = some m.cls := hown
  have hl : lv_has ls 7 [(0, .ref (xad E 85)), (1, .int (iZ r)), (2, .int (iZ c0)), (3, .int (iZ q))] := hl
  have hinX7 : ∀ w ∈ u_ws RX7 TX7 21, w ∈ wsX7_turns := fun w h => (List.mem_cons_of_mem _ (List.mem_append_right _ h))
  obtain ⟨hop, hlk, hkp, hwc, hpn, hnw⟩ := id hB
  have hvR := hC.R
  have hv0 := hC.1.1
  have hcz := cellZ_rg (r := r) (c := c0)
  refine lv_iload_n hx hb dX7_turns_0 rfl (lv_at hl 1 rfl) ?_
  refine lv_iload_n hx hb dX7_turns_1 rfl (lv_at hl 2 rfl) ?_
  refine x_cSID (As := [.int (iZ r), .int (iZ c0)]) (rest := []) hx hb hml hts hown hK hST hOK hH (c_X7_cellAt l E ST hSF σ r c0  (by omega) (by omega)) (va_cwS 2 hts gX7_turns_X7_cellAt rfl rfl rfl (by decide +kernel) ⟨Nat.le_of_ble_eq_true rfl, Nat.le_of_ble_eq_true rfl⟩) rfl hl.1 rfl (Nat.le_of_ble_eq_true rfl) dX7_turns_2 ⟨Nat.le_of_ble_eq_true rfl, Nat.le_of_ble_eq_true rfl⟩ (fun z u h => h) (fun H locs hH => ?_)
  refine lv_istore (lv' := [(4, .int (iZ (cellZ r c0))), (0, .ref (xad E 85)), (1, .int (iZ r)), (2, .int (iZ c0)), (3, .int (iZ q))]) hx hb dX7_turns_5 hl (by decide) rfl (fun ls hl => ?_)
  refine lv_aload_n hx hb dX7_turns_7 rfl (lv_at hl 1 rfl) ?_
  refine lv_iload_n hx hb dX7_turns_8 rfl (lv_at hl 2 rfl) ?_
  refine lv_iload_n hx hb dX7_turns_9 rfl (lv_at hl 3 rfl) ?_
  refine x_cSID (As := [.int (iZ r), .int (iZ c0)]) (rest := [.ref (xad E 85)]) hx hb hml hts hown hK hST hOK hH (c_X7_isCell l E ST hSF σ r c0  (by omega) (by omega)) (va_cwS 2 hts gX7_turns_X7_isCell rfl rfl rfl (by decide +kernel) ⟨Nat.le_of_ble_eq_true rfl, Nat.le_of_ble_eq_true rfl⟩) rfl hl.1 rfl (Nat.le_of_ble_eq_true rfl) dX7_turns_10 ⟨Nat.le_of_ble_eq_true rfl, Nat.le_of_ble_eq_true rfl⟩ (fun z u h => h) (fun H locs hH => ?_)
  refine lv_iload_n hx hb dX7_turns_13 rfl (lv_at hl 4 rfl) ?_
  refine x_iconst hx hb dX7_turns_14 ?_
  refine x_iconst hx hb dX7_turns_15 ?_
  refine x_cSID (As := [.int (iZ q), .int (iZ 1), .int (iZ 3)]) (rest := [.int (iZ (b2 (decide ((0 ≤ r ∧ r ≤ 4) ∧ (0 ≤ c0 ∧ c0 ≤ 4))))), .ref (xad E 85)]) hx hb hml hts hown hK hST hOK hH (c_X7_isIn l E ST hSF σ q 1 3  (by omega) (by omega) (by omega)) (va_cwS 3 hts gX7_turns_X7_isIn rfl rfl rfl (by decide +kernel) ⟨Nat.le_of_ble_eq_true rfl, Nat.le_of_ble_eq_true rfl⟩) rfl hl.1 rfl (Nat.le_of_ble_eq_true rfl) dX7_turns_16 ⟨Nat.le_of_ble_eq_true rfl, Nat.le_of_ble_eq_true rfl⟩ (fun z u h => h) (fun H locs hH => ?_)
  refine lv_aload_n hx hb dX7_turns_19 rfl (lv_at hl 1 rfl) ?_
  refine lv_iload hx hb dX7_turns_20 (lv_at hl 0 rfl) ?_
  refine x_iconst hx hb dX7_turns_22 ?_
  refine x_cVID (As := [.int (iZ (cellZ r c0)), .int (iZ 1)]) (rest := [.int (iZ (b2 (decide (1 ≤ q ∧ q ≤ 3)))), .int (iZ (b2 (decide ((0 ≤ r ∧ r ≤ 4) ∧ (0 ≤ c0 ∧ c0 ≤ 4))))), .ref (xad E 85)]) hx hb hml hts hown hK hST hOK hH 85 (c_X7_of l E ST hSF σ (cellZ r c0) 1 sv re ea fa ty li th sz sp wr to v f85 f86 (by omega) (by omega)) (cwV 2 hts gX7_turns_X7_of rfl rfl rfl (by decide +kernel) ⟨Nat.le_of_ble_eq_true rfl, Nat.le_of_ble_eq_true rfl⟩) (by decide) f85 rfl rfl hl.1 rfl (Nat.le_of_ble_eq_true rfl) dX7_turns_23 ⟨Nat.le_of_ble_eq_true rfl, Nat.le_of_ble_eq_true rfl⟩ (fun z u h => h) (fun H locs hH => ?_)
  rw [hC.a1 (c := cellZ r c0) (by omega) (by omega)]
  have hv13 := fxZ_b (pn := pn) (c := cellZ r c0)
  refine x_if_ne (tgt := 33) hx hb dX7_turns_26 (by decide) (by omega) (fun c26 => ?_) (fun c26 => ?_)
  · refine x_iconst hx hb dX7_turns_33 ?_
    refine x_cVIE (As := [.int (iZ (b2 (decide ((0 ≤ r ∧ r ≤ 4) ∧ (0 ≤ c0 ∧ c0 ≤ 4))))), .int (iZ (b2 (decide (1 ≤ q ∧ q ≤ 3)))), .int (iZ 0)]) (rest := []) hx hb hml hts hown hK hST hOK hH 85 (c_X7_holds l E ST hSF σ (decide ((0 ≤ r ∧ r ≤ 4) ∧ (0 ≤ c0 ∧ c0 ≤ 4))) (decide (1 ≤ q ∧ q ≤ 3)) false sv re ea fa ty li th sz sp wr to f85 ) (cwV 3 hts gX7_turns_X7_holds rfl rfl rfl (by decide +kernel) ⟨Nat.le_of_ble_eq_true rfl, Nat.le_of_ble_eq_true rfl⟩) (by decide) f85 rfl rfl hl.1 rfl (Nat.le_of_ble_eq_true rfl) dX7_turns_34 ⟨Nat.le_of_ble_eq_true rfl, Nat.le_of_ble_eq_true rfl⟩ (fun z u h => h) (fun σ15 H locs hp16 hH => ?_)
    obtain ⟨f85, fr17⟩ := hp16
    have f86 : σ15 86 = aI E 87 v := (fr17 86 (by omega)).trans f86
    refine x_ifb_ne (tgt := 42) hx hb dX7_turns_37 (by decide) (fun c37 => ?_) (fun c37 => ?_)
    · refine lv_aload_n hx hb dX7_turns_42 rfl (lv_at hl 1 rfl) ?_
      refine lv_iload hx hb dX7_turns_43 (lv_at hl 0 rfl) ?_
      refine x_iconst hx hb dX7_turns_45 ?_
      refine x_cVID (As := [.int (iZ (cellZ r c0)), .int (iZ 0)]) (rest := []) hx hb hml hts hown hK hST hOK hH 85 (c_X7_of l E ST hSF σ15 (cellZ r c0) 0 sv re ea fa ty li (thZ (decide ((0 ≤ r ∧ r ≤ 4) ∧ (0 ≤ c0 ∧ c0 ≤ 4))) (decide (1 ≤ q ∧ q ≤ 3)) false) sz sp wr to v f85 f86 (by omega) (by omega)) (cwV 2 hts gX7_turns_X7_of rfl rfl rfl (by decide +kernel) ⟨Nat.le_of_ble_eq_true rfl, Nat.le_of_ble_eq_true rfl⟩) (by decide) f85 rfl rfl hl.1 rfl (Nat.le_of_ble_eq_true rfl) dX7_turns_46 ⟨Nat.le_of_ble_eq_true rfl, Nat.le_of_ble_eq_true rfl⟩ (fun z u h => h) (fun H locs hH => ?_)
      rw [hC.a0 (c := cellZ r c0) (by omega) (by omega)]
      have hv22 := hop (cellZ r c0)
      refine lv_istore (lv' := [(5, .int (iZ (op (cellZ r c0)))), (4, .int (iZ (cellZ r c0))), (0, .ref (xad E 85)), (1, .int (iZ r)), (2, .int (iZ c0)), (3, .int (iZ q))]) hx hb dX7_turns_49 hl (by decide) rfl (fun ls hl => ?_)
      have hq9 : 1 ≤ q ∧ q ≤ 3 := of_decide_eq_true (okZ_t.mp c37).2.1
      refine lv_iload hx hb dX7_turns_51 (lv_at hl 0 rfl) ?_
      refine lv_iload_n hx hb dX7_turns_53 rfl (lv_at hl 5 rfl) ?_
      refine x_ishl hx hb dX7_turns_54 ?_
      refine lv_iload hx hb dX7_turns_55 (lv_at hl 0 rfl) ?_
      refine x_iconst hx hb dX7_turns_57 ?_
      refine lv_iload_n hx hb dX7_turns_58 rfl (lv_at hl 5 rfl) ?_
      refine x_isub hx hb dX7_turns_59 ?_
      refine x_ishr hx hb dX7_turns_60 ?_
      refine x_ior hx hb dX7_turns_61 ?_
      refine x_bipush hx hb dX7_turns_62 (by decide) ?_
      refine x_iand hx hb dX7_turns_64 ?_
      refine lv_istore (lv' := [(6, .int (iZ (iandZ (iorZ (ishlZ (op (cellZ r c0)) q) (ishrZ (op (cellZ r c0)) (4 - q))) 15))), (5, .int (iZ (op (cellZ r c0)))), (4, .int (iZ (cellZ r c0))), (0, .ref (xad E 85)), (1, .int (iZ r)), (2, .int (iZ c0)), (3, .int (iZ q))]) hx hb dX7_turns_65 hl (by decide) rfl (fun ls hl => ?_)
      refine lv_aload_n hx hb dX7_turns_67 rfl (lv_at hl 3 rfl) ?_
      refine x_get hx hb hts hown hK hH 85 (by decide) f85 hinX7 rfl 0 (by decide) (List.mem_of_getElem? (i := 1) rfl) rfl dX7_turns_68 ?_
      refine lv_iload hx hb dX7_turns_71 (lv_at hl 2 rfl) ?_
      refine x_cSID (As := [.int (iZ (cellZ r c0))]) (rest := [.ref (xad E 86)]) hx hb hml hts hown hK hST hOK hH (c_X7_tileAt l E ST hSF σ15 (cellZ r c0)  (by omega)) (va_cwS 1 hts gX7_turns_X7_tileAt rfl rfl rfl (by decide +kernel) ⟨Nat.le_of_ble_eq_true rfl, Nat.le_of_ble_eq_true rfl⟩) rfl hl.1 rfl (Nat.le_of_ble_eq_true rfl) dX7_turns_73 ⟨Nat.le_of_ble_eq_true rfl, Nat.le_of_ble_eq_true rfl⟩ (fun z u h => h) (fun H locs hH => ?_)
      refine x_iconst hx hb dX7_turns_76 ?_
      refine x_iadd hx hb dX7_turns_77 ?_
      refine lv_iload hx hb dX7_turns_78 (lv_at hl 0 rfl) ?_
      refine x_iast hx hb hK hH 86 (by decide) f86 (by omega) (by omega) (by omega) dX7_turns_80 (fun σ26 H locs f86 fr27 hH => ?_)
      have f85 : σ26 85 = oB 5 [.ref (xad E 86), .ref (xad E 87), .ref (xad E 88), .ref (xad E 89), .ref (xad E 90), .int (iZ (b2 sv)), .int (iZ re), .int (iZ ea), .int (iZ fa), .ref (xad E 91), .ref (xad E 92), .ref (xad E 93), .int (iZ ty), .ref (xad E 94), .int (iZ li), .int (iZ (thZ (decide ((0 ≤ r ∧ r ≤ 4) ∧ (0 ≤ c0 ∧ c0 ≤ 4))) (decide (1 ≤ q ∧ q ≤ 3)) false)), .int (iZ sz), .int (iZ sp), .int (iZ wr), .int (iZ to), .ref (xad E 95)] := (fr27 85 (by omega)).trans f85
      refine lv_iload hx hb dX7_turns_81 (lv_at hl 0 rfl) ?_
      subst hQ
      exact x_iret hx hb hr hlocks hH (Nat.le_of_ble_eq_true rfl) (Nat.le_of_ble_eq_true rfl) ⟨(by first | exact rs_ok (turn_y hop (by simp [c26]) c37) rfl (iZ_rg _) | exact rs_no (turn_n (by simp [c26]) c37)), ⟨(ui v ((12 + 3 * (cellZ r c0)) + 0) (iandZ (iorZ (ishlZ (op (cellZ r c0)) q) (ishrZ (op (cellZ r c0)) (4 - q))) 15)), (f85.trans (by rw [turn_th (op := op) (lk := lk) (kp := kp) (wc := wc) (pn := pn) (nw := nw) (sh := sh) (wk := wk) hop (by simp [c26])])), f86, (by first | exact cp_ok (Cp_op hC hnw.2 hcz.1 hcz.2 (iZ_rg _)) (turn_y hop (by simp [c26]) c37) | exact cp_no hC (turn_n (by simp [c26]) c37))⟩, fun j hj0 => ((fr27 j (by omega)).trans (fr17 j (by omega)))⟩ dX7_turns_83
    · refine x_iconst hx hb dX7_turns_40 ?_
      subst hQ
      exact x_iret hx hb hr hlocks hH (Nat.le_of_ble_eq_true rfl) (Nat.le_of_ble_eq_true rfl) ⟨(by first | exact rs_ok (turn_y hop (by simp [c26]) c37) rfl (iZ_rg _) | exact rs_no (turn_n (by simp [c26]) c37)), ⟨v, (f85.trans (by rw [turn_th (op := op) (lk := lk) (kp := kp) (wc := wc) (pn := pn) (nw := nw) (sh := sh) (wk := wk) hop (by simp [c26])])), f86, (by first | exact cp_ok (Cp_op hC hnw.2 hcz.1 hcz.2 (iZ_rg _)) (turn_y hop (by simp [c26]) c37) | exact cp_no hC (turn_n (by simp [c26]) c37))⟩, fun j hj0 => (fr17 j (by omega))⟩ dX7_turns_41
  · refine x_iconst hx hb dX7_turns_29 ?_
    refine lv_goto (tgt := 34) hx hb dX7_turns_30 (by decide) ?_
    refine x_cVIE (As := [.int (iZ (b2 (decide ((0 ≤ r ∧ r ≤ 4) ∧ (0 ≤ c0 ∧ c0 ≤ 4))))), .int (iZ (b2 (decide (1 ≤ q ∧ q ≤ 3)))), .int (iZ 1)]) (rest := []) hx hb hml hts hown hK hST hOK hH 85 (c_X7_holds l E ST hSF σ (decide ((0 ≤ r ∧ r ≤ 4) ∧ (0 ≤ c0 ∧ c0 ≤ 4))) (decide (1 ≤ q ∧ q ≤ 3)) true sv re ea fa ty li th sz sp wr to f85 ) (cwV 3 hts gX7_turns_X7_holds rfl rfl rfl (by decide +kernel) ⟨Nat.le_of_ble_eq_true rfl, Nat.le_of_ble_eq_true rfl⟩) (by decide) f85 rfl rfl hl.1 rfl (Nat.le_of_ble_eq_true rfl) dX7_turns_34 ⟨Nat.le_of_ble_eq_true rfl, Nat.le_of_ble_eq_true rfl⟩ (fun z u h => h) (fun σ29 H locs hp30 hH => ?_)
    obtain ⟨f85, fr31⟩ := hp30
    have f86 : σ29 86 = aI E 87 v := (fr31 86 (by omega)).trans f86
    refine x_ifb_ne (tgt := 42) hx hb dX7_turns_37 (by decide) (fun c37 => ?_) (fun c37 => ?_)
    · refine lv_aload_n hx hb dX7_turns_42 rfl (lv_at hl 1 rfl) ?_
      refine lv_iload hx hb dX7_turns_43 (lv_at hl 0 rfl) ?_
      refine x_iconst hx hb dX7_turns_45 ?_
      refine x_cVID (As := [.int (iZ (cellZ r c0)), .int (iZ 0)]) (rest := []) hx hb hml hts hown hK hST hOK hH 85 (c_X7_of l E ST hSF σ29 (cellZ r c0) 0 sv re ea fa ty li (thZ (decide ((0 ≤ r ∧ r ≤ 4) ∧ (0 ≤ c0 ∧ c0 ≤ 4))) (decide (1 ≤ q ∧ q ≤ 3)) true) sz sp wr to v f85 f86 (by omega) (by omega)) (cwV 2 hts gX7_turns_X7_of rfl rfl rfl (by decide +kernel) ⟨Nat.le_of_ble_eq_true rfl, Nat.le_of_ble_eq_true rfl⟩) (by decide) f85 rfl rfl hl.1 rfl (Nat.le_of_ble_eq_true rfl) dX7_turns_46 ⟨Nat.le_of_ble_eq_true rfl, Nat.le_of_ble_eq_true rfl⟩ (fun z u h => h) (fun H locs hH => ?_)
      rw [hC.a0 (c := cellZ r c0) (by omega) (by omega)]
      have hv36 := hop (cellZ r c0)
      refine lv_istore (lv' := [(5, .int (iZ (op (cellZ r c0)))), (4, .int (iZ (cellZ r c0))), (0, .ref (xad E 85)), (1, .int (iZ r)), (2, .int (iZ c0)), (3, .int (iZ q))]) hx hb dX7_turns_49 hl (by decide) rfl (fun ls hl => ?_)
      have hq9 : 1 ≤ q ∧ q ≤ 3 := of_decide_eq_true (okZ_t.mp c37).2.1
      refine lv_iload hx hb dX7_turns_51 (lv_at hl 0 rfl) ?_
      refine lv_iload_n hx hb dX7_turns_53 rfl (lv_at hl 5 rfl) ?_
      refine x_ishl hx hb dX7_turns_54 ?_
      refine lv_iload hx hb dX7_turns_55 (lv_at hl 0 rfl) ?_
      refine x_iconst hx hb dX7_turns_57 ?_
      refine lv_iload_n hx hb dX7_turns_58 rfl (lv_at hl 5 rfl) ?_
      refine x_isub hx hb dX7_turns_59 ?_
      refine x_ishr hx hb dX7_turns_60 ?_
      refine x_ior hx hb dX7_turns_61 ?_
      refine x_bipush hx hb dX7_turns_62 (by decide) ?_
      refine x_iand hx hb dX7_turns_64 ?_
      refine lv_istore (lv' := [(6, .int (iZ (iandZ (iorZ (ishlZ (op (cellZ r c0)) q) (ishrZ (op (cellZ r c0)) (4 - q))) 15))), (5, .int (iZ (op (cellZ r c0)))), (4, .int (iZ (cellZ r c0))), (0, .ref (xad E 85)), (1, .int (iZ r)), (2, .int (iZ c0)), (3, .int (iZ q))]) hx hb dX7_turns_65 hl (by decide) rfl (fun ls hl => ?_)
      refine lv_aload_n hx hb dX7_turns_67 rfl (lv_at hl 3 rfl) ?_
      refine x_get hx hb hts hown hK hH 85 (by decide) f85 hinX7 rfl 0 (by decide) (List.mem_of_getElem? (i := 1) rfl) rfl dX7_turns_68 ?_
      refine lv_iload hx hb dX7_turns_71 (lv_at hl 2 rfl) ?_
      refine x_cSID (As := [.int (iZ (cellZ r c0))]) (rest := [.ref (xad E 86)]) hx hb hml hts hown hK hST hOK hH (c_X7_tileAt l E ST hSF σ29 (cellZ r c0)  (by omega)) (va_cwS 1 hts gX7_turns_X7_tileAt rfl rfl rfl (by decide +kernel) ⟨Nat.le_of_ble_eq_true rfl, Nat.le_of_ble_eq_true rfl⟩) rfl hl.1 rfl (Nat.le_of_ble_eq_true rfl) dX7_turns_73 ⟨Nat.le_of_ble_eq_true rfl, Nat.le_of_ble_eq_true rfl⟩ (fun z u h => h) (fun H locs hH => ?_)
      refine x_iconst hx hb dX7_turns_76 ?_
      refine x_iadd hx hb dX7_turns_77 ?_
      refine lv_iload hx hb dX7_turns_78 (lv_at hl 0 rfl) ?_
      refine x_iast hx hb hK hH 86 (by decide) f86 (by omega) (by omega) (by omega) dX7_turns_80 (fun σ40 H locs f86 fr41 hH => ?_)
      have f85 : σ40 85 = oB 5 [.ref (xad E 86), .ref (xad E 87), .ref (xad E 88), .ref (xad E 89), .ref (xad E 90), .int (iZ (b2 sv)), .int (iZ re), .int (iZ ea), .int (iZ fa), .ref (xad E 91), .ref (xad E 92), .ref (xad E 93), .int (iZ ty), .ref (xad E 94), .int (iZ li), .int (iZ (thZ (decide ((0 ≤ r ∧ r ≤ 4) ∧ (0 ≤ c0 ∧ c0 ≤ 4))) (decide (1 ≤ q ∧ q ≤ 3)) true)), .int (iZ sz), .int (iZ sp), .int (iZ wr), .int (iZ to), .ref (xad E 95)] := (fr41 85 (by omega)).trans f85
      refine lv_iload hx hb dX7_turns_81 (lv_at hl 0 rfl) ?_
      subst hQ
      exact x_iret hx hb hr hlocks hH (Nat.le_of_ble_eq_true rfl) (Nat.le_of_ble_eq_true rfl) ⟨(by first | exact rs_ok (turn_y hop (by simp [c26]) c37) rfl (iZ_rg _) | exact rs_no (turn_n (by simp [c26]) c37)), ⟨(ui v ((12 + 3 * (cellZ r c0)) + 0) (iandZ (iorZ (ishlZ (op (cellZ r c0)) q) (ishrZ (op (cellZ r c0)) (4 - q))) 15)), (f85.trans (by rw [turn_th (op := op) (lk := lk) (kp := kp) (wc := wc) (pn := pn) (nw := nw) (sh := sh) (wk := wk) hop (by simp [c26])])), f86, (by first | exact cp_ok (Cp_op hC hnw.2 hcz.1 hcz.2 (iZ_rg _)) (turn_y hop (by simp [c26]) c37) | exact cp_no hC (turn_n (by simp [c26]) c37))⟩, fun j hj0 => ((fr41 j (by omega)).trans (fr31 j (by omega)))⟩ dX7_turns_83
    · refine x_iconst hx hb dX7_turns_40 ?_
      subst hQ
      exact x_iret hx hb hr hlocks hH (Nat.le_of_ble_eq_true rfl) (Nat.le_of_ble_eq_true rfl) ⟨(by first | exact rs_ok (turn_y hop (by simp [c26]) c37) rfl (iZ_rg _) | exact rs_no (turn_n (by simp [c26]) c37)), ⟨v, (f85.trans (by rw [turn_th (op := op) (lk := lk) (kp := kp) (wc := wc) (pn := pn) (nw := nw) (sh := sh) (wk := wk) hop (by simp [c26])])), f86, (by first | exact cp_ok (Cp_op hC hnw.2 hcz.1 hcz.2 (iZ_rg _)) (turn_y hop (by simp [c26]) c37) | exact cp_no hC (turn_n (by simp [c26]) c37))⟩, fun j hj0 => (fr31 j (by omega))⟩ dX7_turns_41

def rm_X7_turnTile : Room := { frames := 5, cells := 0, slots := 0, locals := 110 }
set_option maxRecDepth 100000 in
set_option maxHeartbeats 4000000 in
theorem c_X7_turnTile (l : Launch) (E : xE) (ST : xST) (hSF : SF ST) (σ : xW) (r : Int) (c0 : Int) (q : Int) (op : Int → Int) (lk : Int → Int) (kp : Int → Int) (wc : Int → Int) (pn : Int) (nw : Int) (sh : Int) (wk : Int) (sv : Bool) (re : Int) (ea : Int) (fa : Int) (ty : Int) (li : Int) (th : Int) (sz : Int) (sp : Int) (wr : Int) (to : Int) (v : Int → Int) (w : Int → Int) (hF : Int → Int) (hr0 : mo E σ sv re ea fa ty li th sz sp wr to) (hr1 : now E σ v) (hr2 : bef E σ w) (hr3 : his E σ hF) (hC : Cp v op lk kp wc pn nw sh wk) (hB : BI op lk kp wc pn nw) (hre : 0 ≤ re ∧ re ≤ 8) (hr9 : rg r) (hc9 : rg c0) (ho : rg q) : CI l E ST yX7_turnTile wsX7_turnTile rm_X7_turnTile [.ref (xad E 85), .int (iZ r), .int (iZ c0), .int (iZ q)] σ (fun (z : Int) (u : xW) => (0 ≤ (turnF op lk kp wc pn nw sh wk r c0 q).1 → z = (turnF op lk kp wc pn nw sh wk r c0 q).1) ∧ (∃ (v1 : Int → Int), mo E u sv (if tA (turnF op lk kp wc pn nw sh wk r c0 q).1 = 0 then re8 re else re) ea fa ty li (tA (turnF op lk kp wc pn nw sh wk r c0 q).1) sz sp wr to ∧ now E u (if tA (turnF op lk kp wc pn nw sh wk r c0 q).1 = 0 then v1 else v) ∧ bef E u v ∧ his E u (if tA (turnF op lk kp wc pn nw sh wk r c0 q).1 = 0 then rmF hF v re else hF) ∧ (CpT v1 (turnF op lk kp wc pn nw sh wk r c0 q).2)) ∧ ∀ j : Nat, (j < 85 ∨ 85 + 3 ≤ j) → j ≠ 90 → u j = σ j) := by
  have f85 : σ 85 = oB 5 [.ref (xad E 86), .ref (xad E 87), .ref (xad E 88), .ref (xad E 89), .ref (xad E 90), .int (iZ (b2 sv)), .int (iZ re), .int (iZ ea), .int (iZ fa), .ref (xad E 91), .ref (xad E 92), .ref (xad E 93), .int (iZ ty), .ref (xad E 94), .int (iZ li), .int (iZ th), .int (iZ sz), .int (iZ sp), .int (iZ wr), .int (iZ to), .ref (xad E 95)] := hr0
  have f86 : σ 86 = aI E 87 v := hr1
  have f87 : σ 87 = aI E 87 w := hr2
  have f90 : σ 90 = aI E 696 hF := hr3
  refine CI_of (by decide) rfl (Nat.le_of_ble_eq_true rfl) ?_
  intro p e s m args below meth c Q ls G hH hl hQ
  obtain ⟨hx, hb, hml, hown, hts, hK, hST, hlocks, hr, hno⟩ := G
  have hOK := hSF.1
  have hown : s.vm.findClass RX7 = some m.cls := hown
  have hl : lv_has ls 4 [(0, .ref (xad E 85)), (1, .int (iZ r)), (2, .int (iZ c0)), (3, .int (iZ q))] := hl
  obtain ⟨hop, hlk, hkp, hwc, hpn, hnw⟩ := id hB
  have hvR := hC.R
  have hv0 := hC.1.1
  refine lv_aload_n hx hb dX7_turnTile_0 rfl (lv_at hl 0 rfl) ?_
  refine x_cVV (As := []) (rest := []) hx hb hml hts hown hK hST hOK hH 85 (c_X7_begins l E ST hSF σ sv re ea fa ty li th sz sp wr to v w f85 f86 f87 ) (cwV 0 hts gX7_turnTile_X7_begins rfl rfl rfl (by decide +kernel) ⟨Nat.le_of_ble_eq_true rfl, Nat.le_of_ble_eq_true rfl⟩) (by decide) f85 rfl rfl hl.1 rfl (Nat.le_of_ble_eq_true rfl) dX7_turnTile_1 ⟨Nat.le_of_ble_eq_true rfl, Nat.le_of_ble_eq_true rfl⟩ (fun σ2 H locs hp3 hH => ?_)
  obtain ⟨⟨f85, f86, f87⟩, fr4⟩ := hp3
  have f90 : σ2 90 = aI E 696 hF := (fr4 90 (by omega)).trans f90
  refine lv_aload_n hx hb dX7_turnTile_4 rfl (lv_at hl 0 rfl) ?_
  refine lv_aload_n hx hb dX7_turnTile_5 rfl (lv_at hl 0 rfl) ?_
  refine lv_iload_n hx hb dX7_turnTile_6 rfl (lv_at hl 1 rfl) ?_
  refine lv_iload_n hx hb dX7_turnTile_7 rfl (lv_at hl 2 rfl) ?_
  refine lv_iload_n hx hb dX7_turnTile_8 rfl (lv_at hl 3 rfl) ?_
  refine x_cVI (As := [.int (iZ r), .int (iZ c0), .int (iZ q)]) (rest := [.ref (xad E 85)]) hx hb hml hts hown hK hST hOK hH 85 (c_X7_turns l E ST hSF σ2 r c0 q op lk kp wc pn nw sh wk sv re ea fa ty li th sz sp wr to v f85 f86 (by assumption) (by omega) (by omega) (by omega) (by omega)) (cwV 3 hts gX7_turnTile_X7_turns rfl rfl rfl (by decide +kernel) ⟨Nat.le_of_ble_eq_true rfl, Nat.le_of_ble_eq_true rfl⟩) (by decide) f85 rfl rfl hl.1 rfl (Nat.le_of_ble_eq_true rfl) dX7_turnTile_9 ⟨Nat.le_of_ble_eq_true rfl, Nat.le_of_ble_eq_true rfl⟩ (fun z6 σ7 H locs hp8 hH => ?_)
  obtain ⟨hz_, ⟨v1_, f85, f86, hf10⟩, fr9⟩ := hp8
  have f87 : σ7 87 = aI E 87 v := (fr9 87 (by omega)).trans f87
  have f90 : σ7 90 = aI E 696 hF := (fr9 90 (by omega)).trans f90
  have htb : 0 ≤ tA (turnF op lk kp wc pn nw sh wk r c0 q).1 ∧ tA (turnF op lk kp wc pn nw sh wk r c0 q).1 ≤ 3 := (by unfold tA; (repeat' split) <;> omega)
  refine x_cVIE (As := [.int (iZ z6)]) (rest := []) hx hb hml hts hown hK hST hOK hH 85 (c_X7_ends l E ST hSF σ7 z6 sv re ea fa ty li (tA (turnF op lk kp wc pn nw sh wk r c0 q).1) sz sp wr to v1_ v hF f85 f86 f87 f90 (by omega) (by omega) (by omega)) (cwV 1 hts gX7_turnTile_X7_ends rfl rfl rfl (by decide +kernel) ⟨Nat.le_of_ble_eq_true rfl, Nat.le_of_ble_eq_true rfl⟩) (by decide) f85 rfl rfl hl.1 rfl (Nat.le_of_ble_eq_true rfl) dX7_turnTile_12 ⟨Nat.le_of_ble_eq_true rfl, Nat.le_of_ble_eq_true rfl⟩ (fun z u h => h) (fun σ12 H locs hp13 hH => ?_)
  obtain ⟨⟨f85, f86, f87, f90⟩, fr14⟩ := hp13
  subst hQ
  exact x_iret hx hb hr hlocks hH (Nat.le_of_ble_eq_true rfl) (Nat.le_of_ble_eq_true rfl) ⟨(by intro h9; rw [if_pos (tA_0 h9)]; exact hz_.2 h9), ⟨v1_, (f85.trans (by first | rfl | omega | simp_all)), (f86.trans (congrArg (fun g => aI E 87 g) (show (if (tA (turnF op lk kp wc pn nw sh wk r c0 q).1) = 0 then v1_ else v) = (if tA (turnF op lk kp wc pn nw sh wk r c0 q).1 = 0 then v1_ else v) from (by first | rfl | omega | simp_all)))), f87, (f90.trans (congrArg (fun g => aI E 696 g) (show (if (tA (turnF op lk kp wc pn nw sh wk r c0 q).1) = 0 then rmF hF v re else hF) = (if tA (turnF op lk kp wc pn nw sh wk r c0 q).1 = 0 then rmF hF v re else hF) from (by first | rfl | omega | simp_all)))), (by first | assumption | omega | simp_all)⟩, fun j hj0 hj1 => ((fr14 j (by omega) (by omega)).trans ((fr9 j (by omega)).trans (fr4 j (by omega))))⟩ dX7_turnTile_15

def rm_X7_pins : Room := { frames := 4, cells := 0, slots := 0, locals := 84 }
set_option maxRecDepth 100000 in
set_option maxHeartbeats 4000000 in
theorem c_X7_pins (l : Launch) (E : xE) (ST : xST) (hSF : SF ST) (σ : xW) (r : Int) (c0 : Int) (pi : Int) (op : Int → Int) (lk : Int → Int) (kp : Int → Int) (wc : Int → Int) (pn : Int) (nw : Int) (sh : Int) (wk : Int) (sv : Bool) (re : Int) (ea : Int) (fa : Int) (ty : Int) (li : Int) (th : Int) (sz : Int) (sp : Int) (wr : Int) (to : Int) (v : Int → Int) (hr0 : mo E σ sv re ea fa ty li th sz sp wr to) (hr1 : now E σ v) (hC : Cp v op lk kp wc pn nw sh wk) (hB : BI op lk kp wc pn nw) (hr9 : rg r) (hc9 : rg c0) (hpi : pi = 0 ∨ pi = 1) : CI l E ST yX7_pins wsX7_pins rm_X7_pins [.ref (xad E 85), .int (iZ r), .int (iZ c0), .int (iZ pi)] σ (fun (z : Int) (u : xW) => (rg z ∧ (0 ≤ (pinF op lk kp wc pn nw sh wk pi r c0).1 → z = (pinF op lk kp wc pn nw sh wk pi r c0).1)) ∧ (∃ (v1 : Int → Int), mo E u sv re ea fa ty li (tP (pinF op lk kp wc pn nw sh wk pi r c0).1) sz sp wr to ∧ now E u v1 ∧ (CpT v1 (pinF op lk kp wc pn nw sh wk pi r c0).2)) ∧ ∀ j : Nat, (j < 85 ∨ 85 + 2 ≤ j) → u j = σ j) := by
  have f85 : σ 85 = oB 5 [.ref (xad E 86), .ref (xad E 87), .ref (xad E 88), .ref (xad E 89), .ref (xad E 90), .int (iZ (b2 sv)), .int (iZ re), .int (iZ ea), .int (iZ fa), .ref (xad E 91), .ref (xad E 92), .ref (xad E 93), .int (iZ ty), .ref (xad E 94), .int (iZ li), .int (iZ th), .int (iZ sz), .int (iZ sp), .int (iZ wr), .int (iZ to), .ref (xad E 95)] := hr0
  have f86 : σ 86 = aI E 87 v := hr1
  refine CI_of (by decide) rfl (Nat.le_of_ble_eq_true rfl) ?_
  intro p e s m args below meth c Q ls G hH hl hQ
  obtain ⟨hx, hb, hml, hown, hts, hK, hST, hlocks, hr, hno⟩ := G
  have hOK := hSF.1
  have hown : s.vm.findClass RX7 = some m.cls := hown
  have hl : lv_has ls 5 [(0, .ref (xad E 85)), (1, .int (iZ r)), (2, .int (iZ c0)), (3, .int (iZ pi))] := hl
  have hinX7 : ∀ w ∈ u_ws RX7 TX7 21, w ∈ wsX7_pins := fun w h => (List.mem_cons_of_mem _ (List.mem_append_right _ h))
  obtain ⟨hop, hlk, hkp, hwc, hpn, hnw⟩ := id hB
  have hvR := hC.R
  have hv0 := hC.1.1
  have hcz := cellZ_rg (r := r) (c := c0)
  refine lv_iload_n hx hb dX7_pins_0 rfl (lv_at hl 1 rfl) ?_
  refine lv_iload_n hx hb dX7_pins_1 rfl (lv_at hl 2 rfl) ?_
  refine x_cSID (As := [.int (iZ r), .int (iZ c0)]) (rest := []) hx hb hml hts hown hK hST hOK hH (c_X7_cellAt l E ST hSF σ r c0  (by omega) (by omega)) (va_cwS 2 hts gX7_pins_X7_cellAt rfl rfl rfl (by decide +kernel) ⟨Nat.le_of_ble_eq_true rfl, Nat.le_of_ble_eq_true rfl⟩) rfl hl.1 rfl (Nat.le_of_ble_eq_true rfl) dX7_pins_2 ⟨Nat.le_of_ble_eq_true rfl, Nat.le_of_ble_eq_true rfl⟩ (fun z u h => h) (fun H locs hH => ?_)
  refine lv_istore (lv' := [(4, .int (iZ (cellZ r c0))), (0, .ref (xad E 85)), (1, .int (iZ r)), (2, .int (iZ c0)), (3, .int (iZ pi))]) hx hb dX7_pins_5 hl (by decide) rfl (fun ls hl => ?_)
  refine lv_aload_n hx hb dX7_pins_7 rfl (lv_at hl 1 rfl) ?_
  refine lv_iload_n hx hb dX7_pins_8 rfl (lv_at hl 2 rfl) ?_
  refine lv_iload_n hx hb dX7_pins_9 rfl (lv_at hl 3 rfl) ?_
  refine x_cSID (As := [.int (iZ r), .int (iZ c0)]) (rest := [.ref (xad E 85)]) hx hb hml hts hown hK hST hOK hH (c_X7_isCell l E ST hSF σ r c0  (by omega) (by omega)) (va_cwS 2 hts gX7_pins_X7_isCell rfl rfl rfl (by decide +kernel) ⟨Nat.le_of_ble_eq_true rfl, Nat.le_of_ble_eq_true rfl⟩) rfl hl.1 rfl (Nat.le_of_ble_eq_true rfl) dX7_pins_10 ⟨Nat.le_of_ble_eq_true rfl, Nat.le_of_ble_eq_true rfl⟩ (fun z u h => h) (fun H locs hH => ?_)
  refine lv_aload_n hx hb dX7_pins_13 rfl (lv_at hl 1 rfl) ?_
  refine lv_iload hx hb dX7_pins_14 (lv_at hl 0 rfl) ?_
  refine x_iconst hx hb dX7_pins_16 ?_
  refine x_cVID (As := [.int (iZ (cellZ r c0)), .int (iZ 1)]) (rest := [.int (iZ (b2 (decide ((0 ≤ r ∧ r ≤ 4) ∧ (0 ≤ c0 ∧ c0 ≤ 4))))), .ref (xad E 85)]) hx hb hml hts hown hK hST hOK hH 85 (c_X7_of l E ST hSF σ (cellZ r c0) 1 sv re ea fa ty li th sz sp wr to v f85 f86 (by omega) (by omega)) (cwV 2 hts gX7_pins_X7_of rfl rfl rfl (by decide +kernel) ⟨Nat.le_of_ble_eq_true rfl, Nat.le_of_ble_eq_true rfl⟩) (by decide) f85 rfl rfl hl.1 rfl (Nat.le_of_ble_eq_true rfl) dX7_pins_17 ⟨Nat.le_of_ble_eq_true rfl, Nat.le_of_ble_eq_true rfl⟩ (fun z u h => h) (fun H locs hH => ?_)
  rw [hC.a1 (c := cellZ r c0) (by omega) (by omega)]
  have hv10 := fxZ_b (pn := pn) (c := cellZ r c0)
  refine lv_iload_n hx hb dX7_pins_20 rfl (lv_at hl 4 rfl) ?_
  refine x_icmp_eq (tgt := 28) hx hb dX7_pins_21 (by decide) (by omega) (by omega) (fun c21 => ?_) (fun c21 => ?_)
  · refine x_iconst hx hb dX7_pins_28 ?_
    refine x_iconst hx hb dX7_pins_29 ?_
    refine x_cVIE (As := [.int (iZ (b2 (decide ((0 ≤ r ∧ r ≤ 4) ∧ (0 ≤ c0 ∧ c0 ≤ 4))))), .int (iZ 0), .int (iZ 1)]) (rest := []) hx hb hml hts hown hK hST hOK hH 85 (c_X7_holds l E ST hSF σ (decide ((0 ≤ r ∧ r ≤ 4) ∧ (0 ≤ c0 ∧ c0 ≤ 4))) false true sv re ea fa ty li th sz sp wr to f85 ) (cwV 3 hts gX7_pins_X7_holds rfl rfl rfl (by decide +kernel) ⟨Nat.le_of_ble_eq_true rfl, Nat.le_of_ble_eq_true rfl⟩) (by decide) f85 rfl rfl hl.1 rfl (Nat.le_of_ble_eq_true rfl) dX7_pins_30 ⟨Nat.le_of_ble_eq_true rfl, Nat.le_of_ble_eq_true rfl⟩ (fun z u h => h) (fun σ12 H locs hp13 hH => ?_)
    obtain ⟨f85, fr14⟩ := hp13
    have f86 : σ12 86 = aI E 87 v := (fr14 86 (by omega)).trans f86
    refine x_ifb_ne (tgt := 38) hx hb dX7_pins_33 (by decide) (fun c33 => ?_) (fun c33 => ?_)
    · refine lv_aload_n hx hb dX7_pins_38 rfl (lv_at hl 1 rfl) ?_
      refine x_get hx hb hts hown hK hH 85 (by decide) f85 hinX7 rfl 0 (by decide) (List.mem_of_getElem? (i := 1) rfl) rfl dX7_pins_39 ?_
      refine lv_iload hx hb dX7_pins_42 (lv_at hl 0 rfl) ?_
      refine x_cSID (As := [.int (iZ (cellZ r c0))]) (rest := [.ref (xad E 86)]) hx hb hml hts hown hK hST hOK hH (c_X7_tileAt l E ST hSF σ12 (cellZ r c0)  (by omega)) (va_cwS 1 hts gX7_pins_X7_tileAt rfl rfl rfl (by decide +kernel) ⟨Nat.le_of_ble_eq_true rfl, Nat.le_of_ble_eq_true rfl⟩) rfl hl.1 rfl (Nat.le_of_ble_eq_true rfl) dX7_pins_44 ⟨Nat.le_of_ble_eq_true rfl, Nat.le_of_ble_eq_true rfl⟩ (fun z u h => h) (fun H locs hH => ?_)
      refine x_iconst hx hb dX7_pins_47 ?_
      refine x_iadd hx hb dX7_pins_48 ?_
      refine lv_iload_n hx hb dX7_pins_49 rfl (lv_at hl 4 rfl) ?_
      refine x_iast hx hb hK hH 86 (by decide) f86 (by omega) (by omega) (by omega) dX7_pins_50 (fun σ19 H locs f86 fr20 hH => ?_)
      have f85 : σ19 85 = oB 5 [.ref (xad E 86), .ref (xad E 87), .ref (xad E 88), .ref (xad E 89), .ref (xad E 90), .int (iZ (b2 sv)), .int (iZ re), .int (iZ ea), .int (iZ fa), .ref (xad E 91), .ref (xad E 92), .ref (xad E 93), .int (iZ ty), .ref (xad E 94), .int (iZ li), .int (iZ (thZ (decide ((0 ≤ r ∧ r ≤ 4) ∧ (0 ≤ c0 ∧ c0 ≤ 4))) false true)), .int (iZ sz), .int (iZ sp), .int (iZ wr), .int (iZ to), .ref (xad E 95)] := (fr20 85 (by omega)).trans f85
      refine lv_aload_n hx hb dX7_pins_51 rfl (lv_at hl 1 rfl) ?_
      refine x_iconst hx hb dX7_pins_52 ?_
      refine x_iconst hx hb dX7_pins_53 ?_
      have hC2 := Cp_pin hC hnw.2 hcz.1 hcz.2 hpi
      refine x_cVID (As := [.int (iZ 1), .int (iZ 1)]) (rest := []) hx hb hml hts hown hK hST hOK hH 85 (c_X7_tilesWith l E ST hSF σ19 1 1 sv re ea fa ty li (thZ (decide ((0 ≤ r ∧ r ≤ 4) ∧ (0 ≤ c0 ∧ c0 ≤ 4))) false true) sz sp wr to (ui v ((12 + 3 * (cellZ r c0)) + 1) pi) f85 f86 (by omega) (by omega) hC2.R) (cwV 2 hts gX7_pins_X7_tilesWith rfl rfl rfl (by decide +kernel) ⟨Nat.le_of_ble_eq_true rfl, Nat.le_of_ble_eq_true rfl⟩) (by decide) f85 rfl rfl hl.1 rfl (Nat.le_of_ble_eq_true rfl) dX7_pins_54 ⟨Nat.le_of_ble_eq_true rfl, Nat.le_of_ble_eq_true rfl⟩ (fun z u h => h) (fun H locs hH => ?_)
      have hcb := cnbK_b (P := fun c => decide (1 ≤ ui v (12 + 3 * (cellZ r c0) + 1) pi (12 + 3 * c + 1))) (n := 25) (by decide)
      subst hQ
      exact x_iret hx hb hr hlocks hH (Nat.le_of_ble_eq_true rfl) (Nat.le_of_ble_eq_true rfl) ⟨(by first | exact rs_ok (pin_y hpi hpn (by simp [c21]) c33) (tw_pn hC2) (by rw [← tw_pn hC2]; exact ⟨by omega, by omega⟩) | exact rs_no (pin_n hpi (by simp [c21]) c33)), ⟨(ui v ((12 + 3 * (cellZ r c0)) + 1) pi), (f85.trans (by rw [pin_th (op := op) (lk := lk) (kp := kp) (wc := wc) (pn := pn) (nw := nw) (sh := sh) (wk := wk) hpi hpn (by simp [c21])])), f86, (by first | exact cp_ok hC2 (pin_y hpi hpn (by simp [c21]) c33) | exact cp_no hC (pin_n hpi (by simp [c21]) c33))⟩, fun j hj0 => ((fr20 j (by omega)).trans (fr14 j (by omega)))⟩ dX7_pins_57
    · refine x_iconst hx hb dX7_pins_36 ?_
      subst hQ
      exact x_iret hx hb hr hlocks hH (Nat.le_of_ble_eq_true rfl) (Nat.le_of_ble_eq_true rfl) ⟨(by first | exact rs_ok (pin_y hpi hpn (by simp [c21]) c33) (tw_pn hC2) (by rw [← tw_pn hC2]; exact ⟨by omega, by omega⟩) | exact rs_no (pin_n hpi (by simp [c21]) c33)), ⟨v, (f85.trans (by rw [pin_th (op := op) (lk := lk) (kp := kp) (wc := wc) (pn := pn) (nw := nw) (sh := sh) (wk := wk) hpi hpn (by simp [c21])])), f86, (by first | exact cp_ok hC2 (pin_y hpi hpn (by simp [c21]) c33) | exact cp_no hC (pin_n hpi (by simp [c21]) c33))⟩, fun j hj0 => (fr14 j (by omega))⟩ dX7_pins_37
  · refine x_iconst hx hb dX7_pins_24 ?_
    refine lv_goto (tgt := 29) hx hb dX7_pins_25 (by decide) ?_
    refine x_iconst hx hb dX7_pins_29 ?_
    refine x_cVIE (As := [.int (iZ (b2 (decide ((0 ≤ r ∧ r ≤ 4) ∧ (0 ≤ c0 ∧ c0 ≤ 4))))), .int (iZ 1), .int (iZ 1)]) (rest := []) hx hb hml hts hown hK hST hOK hH 85 (c_X7_holds l E ST hSF σ (decide ((0 ≤ r ∧ r ≤ 4) ∧ (0 ≤ c0 ∧ c0 ≤ 4))) true true sv re ea fa ty li th sz sp wr to f85 ) (cwV 3 hts gX7_pins_X7_holds rfl rfl rfl (by decide +kernel) ⟨Nat.le_of_ble_eq_true rfl, Nat.le_of_ble_eq_true rfl⟩) (by decide) f85 rfl rfl hl.1 rfl (Nat.le_of_ble_eq_true rfl) dX7_pins_30 ⟨Nat.le_of_ble_eq_true rfl, Nat.le_of_ble_eq_true rfl⟩ (fun z u h => h) (fun σ25 H locs hp26 hH => ?_)
    obtain ⟨f85, fr27⟩ := hp26
    have f86 : σ25 86 = aI E 87 v := (fr27 86 (by omega)).trans f86
    refine x_ifb_ne (tgt := 38) hx hb dX7_pins_33 (by decide) (fun c33 => ?_) (fun c33 => ?_)
    · refine lv_aload_n hx hb dX7_pins_38 rfl (lv_at hl 1 rfl) ?_
      refine x_get hx hb hts hown hK hH 85 (by decide) f85 hinX7 rfl 0 (by decide) (List.mem_of_getElem? (i := 1) rfl) rfl dX7_pins_39 ?_
      refine lv_iload hx hb dX7_pins_42 (lv_at hl 0 rfl) ?_
      refine x_cSID (As := [.int (iZ (cellZ r c0))]) (rest := [.ref (xad E 86)]) hx hb hml hts hown hK hST hOK hH (c_X7_tileAt l E ST hSF σ25 (cellZ r c0)  (by omega)) (va_cwS 1 hts gX7_pins_X7_tileAt rfl rfl rfl (by decide +kernel) ⟨Nat.le_of_ble_eq_true rfl, Nat.le_of_ble_eq_true rfl⟩) rfl hl.1 rfl (Nat.le_of_ble_eq_true rfl) dX7_pins_44 ⟨Nat.le_of_ble_eq_true rfl, Nat.le_of_ble_eq_true rfl⟩ (fun z u h => h) (fun H locs hH => ?_)
      refine x_iconst hx hb dX7_pins_47 ?_
      refine x_iadd hx hb dX7_pins_48 ?_
      refine lv_iload_n hx hb dX7_pins_49 rfl (lv_at hl 4 rfl) ?_
      refine x_iast hx hb hK hH 86 (by decide) f86 (by omega) (by omega) (by omega) dX7_pins_50 (fun σ32 H locs f86 fr33 hH => ?_)
      have f85 : σ32 85 = oB 5 [.ref (xad E 86), .ref (xad E 87), .ref (xad E 88), .ref (xad E 89), .ref (xad E 90), .int (iZ (b2 sv)), .int (iZ re), .int (iZ ea), .int (iZ fa), .ref (xad E 91), .ref (xad E 92), .ref (xad E 93), .int (iZ ty), .ref (xad E 94), .int (iZ li), .int (iZ (thZ (decide ((0 ≤ r ∧ r ≤ 4) ∧ (0 ≤ c0 ∧ c0 ≤ 4))) true true)), .int (iZ sz), .int (iZ sp), .int (iZ wr), .int (iZ to), .ref (xad E 95)] := (fr33 85 (by omega)).trans f85
      refine lv_aload_n hx hb dX7_pins_51 rfl (lv_at hl 1 rfl) ?_
      refine x_iconst hx hb dX7_pins_52 ?_
      refine x_iconst hx hb dX7_pins_53 ?_
      have hC2 := Cp_pin hC hnw.2 hcz.1 hcz.2 hpi
      refine x_cVID (As := [.int (iZ 1), .int (iZ 1)]) (rest := []) hx hb hml hts hown hK hST hOK hH 85 (c_X7_tilesWith l E ST hSF σ32 1 1 sv re ea fa ty li (thZ (decide ((0 ≤ r ∧ r ≤ 4) ∧ (0 ≤ c0 ∧ c0 ≤ 4))) true true) sz sp wr to (ui v ((12 + 3 * (cellZ r c0)) + 1) pi) f85 f86 (by omega) (by omega) hC2.R) (cwV 2 hts gX7_pins_X7_tilesWith rfl rfl rfl (by decide +kernel) ⟨Nat.le_of_ble_eq_true rfl, Nat.le_of_ble_eq_true rfl⟩) (by decide) f85 rfl rfl hl.1 rfl (Nat.le_of_ble_eq_true rfl) dX7_pins_54 ⟨Nat.le_of_ble_eq_true rfl, Nat.le_of_ble_eq_true rfl⟩ (fun z u h => h) (fun H locs hH => ?_)
      have hcb := cnbK_b (P := fun c => decide (1 ≤ ui v (12 + 3 * (cellZ r c0) + 1) pi (12 + 3 * c + 1))) (n := 25) (by decide)
      subst hQ
      exact x_iret hx hb hr hlocks hH (Nat.le_of_ble_eq_true rfl) (Nat.le_of_ble_eq_true rfl) ⟨(by first | exact rs_ok (pin_y hpi hpn (by simp [c21]) c33) (tw_pn hC2) (by rw [← tw_pn hC2]; exact ⟨by omega, by omega⟩) | exact rs_no (pin_n hpi (by simp [c21]) c33)), ⟨(ui v ((12 + 3 * (cellZ r c0)) + 1) pi), (f85.trans (by rw [pin_th (op := op) (lk := lk) (kp := kp) (wc := wc) (pn := pn) (nw := nw) (sh := sh) (wk := wk) hpi hpn (by simp [c21])])), f86, (by first | exact cp_ok hC2 (pin_y hpi hpn (by simp [c21]) c33) | exact cp_no hC (pin_n hpi (by simp [c21]) c33))⟩, fun j hj0 => ((fr33 j (by omega)).trans (fr27 j (by omega)))⟩ dX7_pins_57
    · refine x_iconst hx hb dX7_pins_36 ?_
      subst hQ
      exact x_iret hx hb hr hlocks hH (Nat.le_of_ble_eq_true rfl) (Nat.le_of_ble_eq_true rfl) ⟨(by first | exact rs_ok (pin_y hpi hpn (by simp [c21]) c33) (tw_pn hC2) (by rw [← tw_pn hC2]; exact ⟨by omega, by omega⟩) | exact rs_no (pin_n hpi (by simp [c21]) c33)), ⟨v, (f85.trans (by rw [pin_th (op := op) (lk := lk) (kp := kp) (wc := wc) (pn := pn) (nw := nw) (sh := sh) (wk := wk) hpi hpn (by simp [c21])])), f86, (by first | exact cp_ok hC2 (pin_y hpi hpn (by simp [c21]) c33) | exact cp_no hC (pin_n hpi (by simp [c21]) c33))⟩, fun j hj0 => (fr27 j (by omega))⟩ dX7_pins_37

def rm_X7_pin : Room := { frames := 5, cells := 0, slots := 0, locals := 108 }
set_option maxRecDepth 100000 in
set_option maxHeartbeats 4000000 in
theorem c_X7_pin (l : Launch) (E : xE) (ST : xST) (hSF : SF ST) (σ : xW) (r : Int) (c0 : Int) (op : Int → Int) (lk : Int → Int) (kp : Int → Int) (wc : Int → Int) (pn : Int) (nw : Int) (sh : Int) (wk : Int) (sv : Bool) (re : Int) (ea : Int) (fa : Int) (ty : Int) (li : Int) (th : Int) (sz : Int) (sp : Int) (wr : Int) (to : Int) (v : Int → Int) (w : Int → Int) (hF : Int → Int) (hr0 : mo E σ sv re ea fa ty li th sz sp wr to) (hr1 : now E σ v) (hr2 : bef E σ w) (hr3 : his E σ hF) (hC : Cp v op lk kp wc pn nw sh wk) (hB : BI op lk kp wc pn nw) (hre : 0 ≤ re ∧ re ≤ 8) (hr9 : rg r) (hc9 : rg c0) : CI l E ST yX7_pin wsX7_pin rm_X7_pin [.ref (xad E 85), .int (iZ r), .int (iZ c0)] σ (fun (z : Int) (u : xW) => (0 ≤ (pinF op lk kp wc pn nw sh wk 1 r c0).1 → z = (pinF op lk kp wc pn nw sh wk 1 r c0).1) ∧ (∃ (v1 : Int → Int), mo E u sv (if tP (pinF op lk kp wc pn nw sh wk 1 r c0).1 = 0 then re8 re else re) ea fa ty li (tP (pinF op lk kp wc pn nw sh wk 1 r c0).1) sz sp wr to ∧ now E u (if tP (pinF op lk kp wc pn nw sh wk 1 r c0).1 = 0 then v1 else v) ∧ bef E u v ∧ his E u (if tP (pinF op lk kp wc pn nw sh wk 1 r c0).1 = 0 then rmF hF v re else hF) ∧ (CpT v1 (pinF op lk kp wc pn nw sh wk 1 r c0).2)) ∧ ∀ j : Nat, (j < 85 ∨ 85 + 3 ≤ j) → j ≠ 90 → u j = σ j) := by
  have f85 : σ 85 = oB 5 [.ref (xad E 86), .ref (xad E 87), .ref (xad E 88), .ref (xad E 89), .ref (xad E 90), .int (iZ (b2 sv)), .int (iZ re), .int (iZ ea), .int (iZ fa), .ref (xad E 91), .ref (xad E 92), .ref (xad E 93), .int (iZ ty), .ref (xad E 94), .int (iZ li), .int (iZ th), .int (iZ sz), .int (iZ sp), .int (iZ wr), .int (iZ to), .ref (xad E 95)] := hr0
  have f86 : σ 86 = aI E 87 v := hr1
  have f87 : σ 87 = aI E 87 w := hr2
  have f90 : σ 90 = aI E 696 hF := hr3
  refine CI_of (by decide) rfl (Nat.le_of_ble_eq_true rfl) ?_
  intro p e s m args below meth c Q ls G hH hl hQ
  obtain ⟨hx, hb, hml, hown, hts, hK, hST, hlocks, hr, hno⟩ := G
  have hOK := hSF.1
  have hown : s.vm.findClass RX7 = some m.cls := hown
  have hl : lv_has ls 3 [(0, .ref (xad E 85)), (1, .int (iZ r)), (2, .int (iZ c0))] := hl
  obtain ⟨hop, hlk, hkp, hwc, hpn, hnw⟩ := id hB
  have hvR := hC.R
  have hv0 := hC.1.1
  refine lv_aload_n hx hb dX7_pin_0 rfl (lv_at hl 0 rfl) ?_
  refine x_cVV (As := []) (rest := []) hx hb hml hts hown hK hST hOK hH 85 (c_X7_begins l E ST hSF σ sv re ea fa ty li th sz sp wr to v w f85 f86 f87 ) (cwV 0 hts gX7_pin_X7_begins rfl rfl rfl (by decide +kernel) ⟨Nat.le_of_ble_eq_true rfl, Nat.le_of_ble_eq_true rfl⟩) (by decide) f85 rfl rfl hl.1 rfl (Nat.le_of_ble_eq_true rfl) dX7_pin_1 ⟨Nat.le_of_ble_eq_true rfl, Nat.le_of_ble_eq_true rfl⟩ (fun σ2 H locs hp3 hH => ?_)
  obtain ⟨⟨f85, f86, f87⟩, fr4⟩ := hp3
  have f90 : σ2 90 = aI E 696 hF := (fr4 90 (by omega)).trans f90
  refine lv_aload_n hx hb dX7_pin_4 rfl (lv_at hl 0 rfl) ?_
  refine lv_aload_n hx hb dX7_pin_5 rfl (lv_at hl 0 rfl) ?_
  refine lv_iload_n hx hb dX7_pin_6 rfl (lv_at hl 1 rfl) ?_
  refine lv_iload_n hx hb dX7_pin_7 rfl (lv_at hl 2 rfl) ?_
  refine x_iconst hx hb dX7_pin_8 ?_
  refine x_cVI (As := [.int (iZ r), .int (iZ c0), .int (iZ 1)]) (rest := [.ref (xad E 85)]) hx hb hml hts hown hK hST hOK hH 85 (c_X7_pins l E ST hSF σ2 r c0 1 op lk kp wc pn nw sh wk sv re ea fa ty li th sz sp wr to v f85 f86 (by assumption) (by omega) (by omega) (by omega) (by omega)) (cwV 3 hts gX7_pin_X7_pins rfl rfl rfl (by decide +kernel) ⟨Nat.le_of_ble_eq_true rfl, Nat.le_of_ble_eq_true rfl⟩) (by decide) f85 rfl rfl hl.1 rfl (Nat.le_of_ble_eq_true rfl) dX7_pin_9 ⟨Nat.le_of_ble_eq_true rfl, Nat.le_of_ble_eq_true rfl⟩ (fun z6 σ7 H locs hp8 hH => ?_)
  obtain ⟨hz_, ⟨v1_, f85, f86, hf10⟩, fr9⟩ := hp8
  have f87 : σ7 87 = aI E 87 v := (fr9 87 (by omega)).trans f87
  have f90 : σ7 90 = aI E 696 hF := (fr9 90 (by omega)).trans f90
  have htb : 0 ≤ tP (pinF op lk kp wc pn nw sh wk 1 r c0).1 ∧ tP (pinF op lk kp wc pn nw sh wk 1 r c0).1 ≤ 3 := (by unfold tP; (repeat' split) <;> omega)
  refine x_cVIE (As := [.int (iZ z6)]) (rest := []) hx hb hml hts hown hK hST hOK hH 85 (c_X7_ends l E ST hSF σ7 z6 sv re ea fa ty li (tP (pinF op lk kp wc pn nw sh wk 1 r c0).1) sz sp wr to v1_ v hF f85 f86 f87 f90 (by omega) (by omega) (by omega)) (cwV 1 hts gX7_pin_X7_ends rfl rfl rfl (by decide +kernel) ⟨Nat.le_of_ble_eq_true rfl, Nat.le_of_ble_eq_true rfl⟩) (by decide) f85 rfl rfl hl.1 rfl (Nat.le_of_ble_eq_true rfl) dX7_pin_12 ⟨Nat.le_of_ble_eq_true rfl, Nat.le_of_ble_eq_true rfl⟩ (fun z u h => h) (fun σ12 H locs hp13 hH => ?_)
  obtain ⟨⟨f85, f86, f87, f90⟩, fr14⟩ := hp13
  subst hQ
  exact x_iret hx hb hr hlocks hH (Nat.le_of_ble_eq_true rfl) (Nat.le_of_ble_eq_true rfl) ⟨(by intro h9; rw [if_pos (tP_0 h9)]; exact hz_.2 h9), ⟨v1_, (f85.trans (by first | rfl | omega | simp_all)), (f86.trans (congrArg (fun g => aI E 87 g) (show (if (tP (pinF op lk kp wc pn nw sh wk 1 r c0).1) = 0 then v1_ else v) = (if tP (pinF op lk kp wc pn nw sh wk 1 r c0).1 = 0 then v1_ else v) from (by first | rfl | omega | simp_all)))), f87, (f90.trans (congrArg (fun g => aI E 696 g) (show (if (tP (pinF op lk kp wc pn nw sh wk 1 r c0).1) = 0 then rmF hF v re else hF) = (if tP (pinF op lk kp wc pn nw sh wk 1 r c0).1 = 0 then rmF hF v re else hF) from (by first | rfl | omega | simp_all)))), (by first | assumption | omega | simp_all)⟩, fun j hj0 hj1 => ((fr14 j (by omega) (by omega)).trans ((fr9 j (by omega)).trans (fr4 j (by omega))))⟩ dX7_pin_15

def rm_X7_unpin : Room := { frames := 5, cells := 0, slots := 0, locals := 108 }
set_option maxRecDepth 100000 in
set_option maxHeartbeats 4000000 in
theorem c_X7_unpin (l : Launch) (E : xE) (ST : xST) (hSF : SF ST) (σ : xW) (r : Int) (c0 : Int) (op : Int → Int) (lk : Int → Int) (kp : Int → Int) (wc : Int → Int) (pn : Int) (nw : Int) (sh : Int) (wk : Int) (sv : Bool) (re : Int) (ea : Int) (fa : Int) (ty : Int) (li : Int) (th : Int) (sz : Int) (sp : Int) (wr : Int) (to : Int) (v : Int → Int) (w : Int → Int) (hF : Int → Int) (hr0 : mo E σ sv re ea fa ty li th sz sp wr to) (hr1 : now E σ v) (hr2 : bef E σ w) (hr3 : his E σ hF) (hC : Cp v op lk kp wc pn nw sh wk) (hB : BI op lk kp wc pn nw) (hre : 0 ≤ re ∧ re ≤ 8) (hr9 : rg r) (hc9 : rg c0) : CI l E ST yX7_unpin wsX7_unpin rm_X7_unpin [.ref (xad E 85), .int (iZ r), .int (iZ c0)] σ (fun (z : Int) (u : xW) => (0 ≤ (pinF op lk kp wc pn nw sh wk 0 r c0).1 → z = (pinF op lk kp wc pn nw sh wk 0 r c0).1) ∧ (∃ (v1 : Int → Int), mo E u sv (if tP (pinF op lk kp wc pn nw sh wk 0 r c0).1 = 0 then re8 re else re) ea fa ty li (tP (pinF op lk kp wc pn nw sh wk 0 r c0).1) sz sp wr to ∧ now E u (if tP (pinF op lk kp wc pn nw sh wk 0 r c0).1 = 0 then v1 else v) ∧ bef E u v ∧ his E u (if tP (pinF op lk kp wc pn nw sh wk 0 r c0).1 = 0 then rmF hF v re else hF) ∧ (CpT v1 (pinF op lk kp wc pn nw sh wk 0 r c0).2)) ∧ ∀ j : Nat, (j < 85 ∨ 85 + 3 ≤ j) → j ≠ 90 → u j = σ j) := by
  have f85 : σ 85 = oB 5 [.ref (xad E 86), .ref (xad E 87), .ref (xad E 88), .ref (xad E 89), .ref (xad E 90), .int (iZ (b2 sv)), .int (iZ re), .int (iZ ea), .int (iZ fa), .ref (xad E 91), .ref (xad E 92), .ref (xad E 93), .int (iZ ty), .ref (xad E 94), .int (iZ li), .int (iZ th), .int (iZ sz), .int (iZ sp), .int (iZ wr), .int (iZ to), .ref (xad E 95)] := hr0
  have f86 : σ 86 = aI E 87 v := hr1
  have f87 : σ 87 = aI E 87 w := hr2
  have f90 : σ 90 = aI E 696 hF := hr3
  refine CI_of (by decide) rfl (Nat.le_of_ble_eq_true rfl) ?_
  intro p e s m args below meth c Q ls G hH hl hQ
  obtain ⟨hx, hb, hml, hown, hts, hK, hST, hlocks, hr, hno⟩ := G
  have hOK := hSF.1
  have hown : s.vm.findClass RX7 = some m.cls := hown
  have hl : lv_has ls 3 [(0, .ref (xad E 85)), (1, .int (iZ r)), (2, .int (iZ c0))] := hl
  obtain ⟨hop, hlk, hkp, hwc, hpn, hnw⟩ := id hB
  have hvR := hC.R
  have hv0 := hC.1.1
  refine lv_aload_n hx hb dX7_unpin_0 rfl (lv_at hl 0 rfl) ?_
  refine x_cVV (As := []) (rest := []) hx hb hml hts hown hK hST hOK hH 85 (c_X7_begins l E ST hSF σ sv re ea fa ty li th sz sp wr to v w f85 f86 f87 ) (cwV 0 hts gX7_unpin_X7_begins rfl rfl rfl (by decide +kernel) ⟨Nat.le_of_ble_eq_true rfl, Nat.le_of_ble_eq_true rfl⟩) (by decide) f85 rfl rfl hl.1 rfl (Nat.le_of_ble_eq_true rfl) dX7_unpin_1 ⟨Nat.le_of_ble_eq_true rfl, Nat.le_of_ble_eq_true rfl⟩ (fun σ2 H locs hp3 hH => ?_)
  obtain ⟨⟨f85, f86, f87⟩, fr4⟩ := hp3
  have f90 : σ2 90 = aI E 696 hF := (fr4 90 (by omega)).trans f90
  refine lv_aload_n hx hb dX7_unpin_4 rfl (lv_at hl 0 rfl) ?_
  refine lv_aload_n hx hb dX7_unpin_5 rfl (lv_at hl 0 rfl) ?_
  refine lv_iload_n hx hb dX7_unpin_6 rfl (lv_at hl 1 rfl) ?_
  refine lv_iload_n hx hb dX7_unpin_7 rfl (lv_at hl 2 rfl) ?_
  refine x_iconst hx hb dX7_unpin_8 ?_
  refine x_cVI (As := [.int (iZ r), .int (iZ c0), .int (iZ 0)]) (rest := [.ref (xad E 85)]) hx hb hml hts hown hK hST hOK hH 85 (c_X7_pins l E ST hSF σ2 r c0 0 op lk kp wc pn nw sh wk sv re ea fa ty li th sz sp wr to v f85 f86 (by assumption) (by omega) (by omega) (by omega) (by omega)) (cwV 3 hts gX7_unpin_X7_pins rfl rfl rfl (by decide +kernel) ⟨Nat.le_of_ble_eq_true rfl, Nat.le_of_ble_eq_true rfl⟩) (by decide) f85 rfl rfl hl.1 rfl (Nat.le_of_ble_eq_true rfl) dX7_unpin_9 ⟨Nat.le_of_ble_eq_true rfl, Nat.le_of_ble_eq_true rfl⟩ (fun z6 σ7 H locs hp8 hH => ?_)
  obtain ⟨hz_, ⟨v1_, f85, f86, hf10⟩, fr9⟩ := hp8
  have f87 : σ7 87 = aI E 87 v := (fr9 87 (by omega)).trans f87
  have f90 : σ7 90 = aI E 696 hF := (fr9 90 (by omega)).trans f90
  have htb : 0 ≤ tP (pinF op lk kp wc pn nw sh wk 0 r c0).1 ∧ tP (pinF op lk kp wc pn nw sh wk 0 r c0).1 ≤ 3 := (by unfold tP; (repeat' split) <;> omega)
  refine x_cVIE (As := [.int (iZ z6)]) (rest := []) hx hb hml hts hown hK hST hOK hH 85 (c_X7_ends l E ST hSF σ7 z6 sv re ea fa ty li (tP (pinF op lk kp wc pn nw sh wk 0 r c0).1) sz sp wr to v1_ v hF f85 f86 f87 f90 (by omega) (by omega) (by omega)) (cwV 1 hts gX7_unpin_X7_ends rfl rfl rfl (by decide +kernel) ⟨Nat.le_of_ble_eq_true rfl, Nat.le_of_ble_eq_true rfl⟩) (by decide) f85 rfl rfl hl.1 rfl (Nat.le_of_ble_eq_true rfl) dX7_unpin_12 ⟨Nat.le_of_ble_eq_true rfl, Nat.le_of_ble_eq_true rfl⟩ (fun z u h => h) (fun σ12 H locs hp13 hH => ?_)
  obtain ⟨⟨f85, f86, f87, f90⟩, fr14⟩ := hp13
  subst hQ
  exact x_iret hx hb hr hlocks hH (Nat.le_of_ble_eq_true rfl) (Nat.le_of_ble_eq_true rfl) ⟨(by intro h9; rw [if_pos (tP_0 h9)]; exact hz_.2 h9), ⟨v1_, (f85.trans (by first | rfl | omega | simp_all)), (f86.trans (congrArg (fun g => aI E 87 g) (show (if (tP (pinF op lk kp wc pn nw sh wk 0 r c0).1) = 0 then v1_ else v) = (if tP (pinF op lk kp wc pn nw sh wk 0 r c0).1 = 0 then v1_ else v) from (by first | rfl | omega | simp_all)))), f87, (f90.trans (congrArg (fun g => aI E 696 g) (show (if (tP (pinF op lk kp wc pn nw sh wk 0 r c0).1) = 0 then rmF hF v re else hF) = (if tP (pinF op lk kp wc pn nw sh wk 0 r c0).1 = 0 then rmF hF v re else hF) from (by first | rfl | omega | simp_all)))), (by first | assumption | omega | simp_all)⟩, fun j hj0 hj1 => ((fr14 j (by omega) (by omega)).trans ((fr9 j (by omega)).trans (fr4 j (by omega))))⟩ dX7_unpin_15

def rm_X7_lays : Room := { frames := 4, cells := 0, slots := 0, locals := 84 }
set_option maxRecDepth 100000 in
set_option maxHeartbeats 4000000 in
theorem c_X7_lays (l : Launch) (E : xE) (ST : xST) (hSF : SF ST) (σ : xW) (k : Int) (r : Int) (c0 : Int) (op : Int → Int) (lk : Int → Int) (kp : Int → Int) (wc : Int → Int) (pn : Int) (nw : Int) (sh : Int) (wk : Int) (sv : Bool) (re : Int) (ea : Int) (fa : Int) (ty : Int) (li : Int) (th : Int) (sz : Int) (sp : Int) (wr : Int) (to : Int) (v : Int → Int) (hr0 : mo E σ sv re ea fa ty li th sz sp wr to) (hr1 : now E σ v) (hC : Cp v op lk kp wc pn nw sh wk) (hB : BI op lk kp wc pn nw) (hr9 : rg r) (hc9 : rg c0) (hk9 : rg k) : CI l E ST yX7_lays wsX7_lays rm_X7_lays [.ref (xad E 85), .int (iZ k), .int (iZ r), .int (iZ c0)] σ (fun (z : Int) (u : xW) => (rg z ∧ (0 ≤ (layF op lk kp wc pn nw sh wk k r c0).1 → z = (layF op lk kp wc pn nw sh wk k r c0).1)) ∧ (∃ (v1 : Int → Int), mo E u sv re ea fa ty li (tL (layF op lk kp wc pn nw sh wk k r c0).1) sz sp wr to ∧ now E u v1 ∧ (CpT v1 (layF op lk kp wc pn nw sh wk k r c0).2)) ∧ ∀ j : Nat, (j < 85 ∨ 85 + 2 ≤ j) → u j = σ j) := by
  have f85 : σ 85 = oB 5 [.ref (xad E 86), .ref (xad E 87), .ref (xad E 88), .ref (xad E 89), .ref (xad E 90), .int (iZ (b2 sv)), .int (iZ re), .int (iZ ea), .int (iZ fa), .ref (xad E 91), .ref (xad E 92), .ref (xad E 93), .int (iZ ty), .ref (xad E 94), .int (iZ li), .int (iZ th), .int (iZ sz), .int (iZ sp), .int (iZ wr), .int (iZ to), .ref (xad E 95)] := hr0
  have f86 : σ 86 = aI E 87 v := hr1
  refine CI_of (by decide) rfl (Nat.le_of_ble_eq_true rfl) ?_
  intro p e s m args below meth c Q ls G hH hl hQ
  obtain ⟨hx, hb, hml, hown, hts, hK, hST, hlocks, hr, hno⟩ := G
  have hOK := hSF.1
  have hown : s.vm.findClass RX7 = some m.cls := hown
  have hl : lv_has ls 5 [(0, .ref (xad E 85)), (1, .int (iZ k)), (2, .int (iZ r)), (3, .int (iZ c0))] := hl
  have hinX7 : ∀ w ∈ u_ws RX7 TX7 21, w ∈ wsX7_lays := fun w h => (List.mem_cons_of_mem _ (List.mem_append_right _ h))
  obtain ⟨hop, hlk, hkp, hwc, hpn, hnw⟩ := id hB
  have hvR := hC.R
  have hv0 := hC.1.1
  have hcz := cellZ_rg (r := r) (c := c0)
  have hpz : rg (plZ kp k) := (by unfold plZ kM; have := hkp (k - 97); unfold rg; (repeat' split) <;> omega)
  refine lv_iload_n hx hb dX7_lays_0 rfl (lv_at hl 2 rfl) ?_
  refine lv_iload_n hx hb dX7_lays_1 rfl (lv_at hl 3 rfl) ?_
  refine x_cSID (As := [.int (iZ r), .int (iZ c0)]) (rest := []) hx hb hml hts hown hK hST hOK hH (c_X7_cellAt l E ST hSF σ r c0  (by omega) (by omega)) (va_cwS 2 hts gX7_lays_X7_cellAt rfl rfl rfl (by decide +kernel) ⟨Nat.le_of_ble_eq_true rfl, Nat.le_of_ble_eq_true rfl⟩) rfl hl.1 rfl (Nat.le_of_ble_eq_true rfl) dX7_lays_2 ⟨Nat.le_of_ble_eq_true rfl, Nat.le_of_ble_eq_true rfl⟩ (fun z u h => h) (fun H locs hH => ?_)
  refine lv_istore (lv' := [(4, .int (iZ (cellZ r c0))), (0, .ref (xad E 85)), (1, .int (iZ k)), (2, .int (iZ r)), (3, .int (iZ c0))]) hx hb dX7_lays_5 hl (by decide) rfl (fun ls hl => ?_)
  refine lv_aload_n hx hb dX7_lays_7 rfl (lv_at hl 1 rfl) ?_
  refine lv_iload_n hx hb dX7_lays_8 rfl (lv_at hl 2 rfl) ?_
  refine x_cSID (As := [.int (iZ k)]) (rest := [.ref (xad E 85)]) hx hb hml hts hown hK hST hOK hH (c_X7_isKey l E ST hSF σ k  (by omega)) (va_cwS 1 hts gX7_lays_X7_isKey rfl rfl rfl (by decide +kernel) ⟨Nat.le_of_ble_eq_true rfl, Nat.le_of_ble_eq_true rfl⟩) rfl hl.1 rfl (Nat.le_of_ble_eq_true rfl) dX7_lays_9 ⟨Nat.le_of_ble_eq_true rfl, Nat.le_of_ble_eq_true rfl⟩ (fun z u h => h) (fun H locs hH => ?_)
  refine lv_iload_n hx hb dX7_lays_12 rfl (lv_at hl 3 rfl) ?_
  refine lv_iload_n hx hb dX7_lays_13 rfl (lv_at hl 4 rfl) ?_
  refine x_cSID (As := [.int (iZ r), .int (iZ c0)]) (rest := [.int (iZ (b2 (decide (97 ≤ k ∧ k ≤ 102)))), .ref (xad E 85)]) hx hb hml hts hown hK hST hOK hH (c_X7_isCell l E ST hSF σ r c0  (by omega) (by omega)) (va_cwS 2 hts gX7_lays_X7_isCell rfl rfl rfl (by decide +kernel) ⟨Nat.le_of_ble_eq_true rfl, Nat.le_of_ble_eq_true rfl⟩) rfl hl.1 rfl (Nat.le_of_ble_eq_true rfl) dX7_lays_14 ⟨Nat.le_of_ble_eq_true rfl, Nat.le_of_ble_eq_true rfl⟩ (fun z u h => h) (fun H locs hH => ?_)
  refine lv_aload_n hx hb dX7_lays_17 rfl (lv_at hl 1 rfl) ?_
  refine lv_iload_n hx hb dX7_lays_18 rfl (lv_at hl 2 rfl) ?_
  refine x_cVID (As := [.int (iZ k)]) (rest := [.int (iZ (b2 (decide ((0 ≤ r ∧ r ≤ 4) ∧ (0 ≤ c0 ∧ c0 ≤ 4))))), .int (iZ (b2 (decide (97 ≤ k ∧ k ≤ 102)))), .ref (xad E 85)]) hx hb hml hts hown hK hST hOK hH 85 (c_X7_placeOf l E ST hSF σ k op lk kp wc pn nw sh wk sv re ea fa ty li th sz sp wr to v f85 f86 (by assumption) (by omega) (by omega)) (cwV 1 hts gX7_lays_X7_placeOf rfl rfl rfl (by decide +kernel) ⟨Nat.le_of_ble_eq_true rfl, Nat.le_of_ble_eq_true rfl⟩) (by decide) f85 rfl rfl hl.1 rfl (Nat.le_of_ble_eq_true rfl) dX7_lays_19 ⟨Nat.le_of_ble_eq_true rfl, Nat.le_of_ble_eq_true rfl⟩ (fun z u h => h) (fun H locs hH => ?_)
  refine x_iconst hx hb dX7_lays_22 ?_
  refine x_icmp_ne (tgt := 30) hx hb dX7_lays_23 (by decide) (by omega) (by decide) (fun c23 => ?_) (fun c23 => ?_)
  · refine x_iconst hx hb dX7_lays_30 ?_
    refine x_cVIE (As := [.int (iZ (b2 (decide (97 ≤ k ∧ k ≤ 102)))), .int (iZ (b2 (decide ((0 ≤ r ∧ r ≤ 4) ∧ (0 ≤ c0 ∧ c0 ≤ 4))))), .int (iZ 0)]) (rest := []) hx hb hml hts hown hK hST hOK hH 85 (c_X7_holds l E ST hSF σ (decide (97 ≤ k ∧ k ≤ 102)) (decide ((0 ≤ r ∧ r ≤ 4) ∧ (0 ≤ c0 ∧ c0 ≤ 4))) false sv re ea fa ty li th sz sp wr to f85 ) (cwV 3 hts gX7_lays_X7_holds rfl rfl rfl (by decide +kernel) ⟨Nat.le_of_ble_eq_true rfl, Nat.le_of_ble_eq_true rfl⟩) (by decide) f85 rfl rfl hl.1 rfl (Nat.le_of_ble_eq_true rfl) dX7_lays_31 ⟨Nat.le_of_ble_eq_true rfl, Nat.le_of_ble_eq_true rfl⟩ (fun z u h => h) (fun σ14 H locs hp15 hH => ?_)
    obtain ⟨f85, fr16⟩ := hp15
    have f86 : σ14 86 = aI E 87 v := (fr16 86 (by omega)).trans f86
    refine x_ifb_ne (tgt := 39) hx hb dX7_lays_34 (by decide) (fun c34 => ?_) (fun c34 => ?_)
    · have hk8 := (lay_y (op := op) (lk := lk) (kp := kp) (wc := wc) (pn := pn) (nw := nw) (sh := sh) (wk := wk) (by simp [c23]) c34).1
      refine lv_aload_n hx hb dX7_lays_39 rfl (lv_at hl 1 rfl) ?_
      refine x_get hx hb hts hown hK hH 85 (by decide) f85 hinX7 rfl 0 (by decide) (List.mem_of_getElem? (i := 1) rfl) rfl dX7_lays_40 ?_
      refine x_iconst hx hb dX7_lays_43 ?_
      refine lv_iload_n hx hb dX7_lays_44 rfl (lv_at hl 2 rfl) ?_
      refine x_iadd hx hb dX7_lays_45 ?_
      refine x_bipush hx hb dX7_lays_46 (by decide) ?_
      refine x_isub hx hb dX7_lays_48 ?_
      refine lv_iload hx hb dX7_lays_49 (lv_at hl 0 rfl) ?_
      refine x_iast hx hb hK hH 86 (by decide) f86 (by omega) (by omega) (by omega) dX7_lays_51 (fun σ18 H locs f86 fr19 hH => ?_)
      have f85 : σ18 85 = oB 5 [.ref (xad E 86), .ref (xad E 87), .ref (xad E 88), .ref (xad E 89), .ref (xad E 90), .int (iZ (b2 sv)), .int (iZ re), .int (iZ ea), .int (iZ fa), .ref (xad E 91), .ref (xad E 92), .ref (xad E 93), .int (iZ ty), .ref (xad E 94), .int (iZ li), .int (iZ (thZ (decide (97 ≤ k ∧ k ≤ 102)) (decide ((0 ≤ r ∧ r ≤ 4) ∧ (0 ≤ c0 ∧ c0 ≤ 4))) false)), .int (iZ sz), .int (iZ sp), .int (iZ wr), .int (iZ to), .ref (xad E 95)] := (fr19 85 (by omega)).trans f85
      refine lv_aload_n hx hb dX7_lays_52 rfl (lv_at hl 1 rfl) ?_
      refine lv_iload hx hb dX7_lays_53 (lv_at hl 0 rfl) ?_
      have hC2 := Cp_kp hC hnw.2 (k := k - 97) (x := cellZ r c0) (y := cellZ r c0) (by omega) (by omega) (by unfold kM; rw [if_neg (by omega)]) (by unfold rg; omega)
      rw [show 3 + (k - 97) = 3 + k - 97 by omega] at hC2
      refine x_cVID (As := [.int (iZ (cellZ r c0))]) (rest := []) hx hb hml hts hown hK hST hOK hH 85 (c_X7_keysOn l E ST hSF σ18 (cellZ r c0) op lk (ui kp (k - 97) (cellZ r c0)) wc pn nw sh wk sv re ea fa ty li (thZ (decide (97 ≤ k ∧ k ≤ 102)) (decide ((0 ≤ r ∧ r ≤ 4) ∧ (0 ≤ c0 ∧ c0 ≤ 4))) false) sz sp wr to (ui v (3 + k - 97) (cellZ r c0)) f85 f86 (by assumption) (BI_kp hB (by omega)) (by omega)) (cwV 1 hts gX7_lays_X7_keysOn rfl rfl rfl (by decide +kernel) ⟨Nat.le_of_ble_eq_true rfl, Nat.le_of_ble_eq_true rfl⟩) (by decide) f85 rfl rfl hl.1 rfl (Nat.le_of_ble_eq_true rfl) dX7_lays_55 ⟨Nat.le_of_ble_eq_true rfl, Nat.le_of_ble_eq_true rfl⟩ (fun z u h => h) (fun H locs hH => ?_)
      have hcb := cntK_b (f := fun i => kM (ui kp (k - 97) (cellZ r c0) i)) (x := cellZ r c0) (n := 6) (by decide)
      subst hQ
      exact x_iret hx hb hr hlocks hH (Nat.le_of_ble_eq_true rfl) (Nat.le_of_ble_eq_true rfl) ⟨(by first | exact rs_ok (lay_y (by simp [c23]) c34).2 (cntK_kM (by omega)) (by rw [← cntK_kM (by omega)]; exact ⟨by omega, by omega⟩) | exact rs_no (lay_n (by simp [c23]) c34)), ⟨(ui v ((3 + k) - 97) (cellZ r c0)), (f85.trans (by rw [lay_th (op := op) (lk := lk) (kp := kp) (wc := wc) (pn := pn) (nw := nw) (sh := sh) (wk := wk) (by simp [c23])])), f86, (by first | exact cp_ok hC2 (lay_y (by simp [c23]) c34).2 | exact cp_no hC (lay_n (by simp [c23]) c34))⟩, fun j hj0 => ((fr19 j (by omega)).trans (fr16 j (by omega)))⟩ dX7_lays_58
    · refine x_iconst hx hb dX7_lays_37 ?_
      subst hQ
      exact x_iret hx hb hr hlocks hH (Nat.le_of_ble_eq_true rfl) (Nat.le_of_ble_eq_true rfl) ⟨(by first | exact rs_ok (lay_y (by simp [c23]) c34).2 (cntK_kM (by omega)) (by rw [← cntK_kM (by omega)]; exact ⟨by omega, by omega⟩) | exact rs_no (lay_n (by simp [c23]) c34)), ⟨v, (f85.trans (by rw [lay_th (op := op) (lk := lk) (kp := kp) (wc := wc) (pn := pn) (nw := nw) (sh := sh) (wk := wk) (by simp [c23])])), f86, (by first | exact cp_ok hC2 (lay_y (by simp [c23]) c34).2 | exact cp_no hC (lay_n (by simp [c23]) c34))⟩, fun j hj0 => (fr16 j (by omega))⟩ dX7_lays_38
  · refine x_iconst hx hb dX7_lays_26 ?_
    refine lv_goto (tgt := 31) hx hb dX7_lays_27 (by decide) ?_
    refine x_cVIE (As := [.int (iZ (b2 (decide (97 ≤ k ∧ k ≤ 102)))), .int (iZ (b2 (decide ((0 ≤ r ∧ r ≤ 4) ∧ (0 ≤ c0 ∧ c0 ≤ 4))))), .int (iZ 1)]) (rest := []) hx hb hml hts hown hK hST hOK hH 85 (c_X7_holds l E ST hSF σ (decide (97 ≤ k ∧ k ≤ 102)) (decide ((0 ≤ r ∧ r ≤ 4) ∧ (0 ≤ c0 ∧ c0 ≤ 4))) true sv re ea fa ty li th sz sp wr to f85 ) (cwV 3 hts gX7_lays_X7_holds rfl rfl rfl (by decide +kernel) ⟨Nat.le_of_ble_eq_true rfl, Nat.le_of_ble_eq_true rfl⟩) (by decide) f85 rfl rfl hl.1 rfl (Nat.le_of_ble_eq_true rfl) dX7_lays_31 ⟨Nat.le_of_ble_eq_true rfl, Nat.le_of_ble_eq_true rfl⟩ (fun z u h => h) (fun σ24 H locs hp25 hH => ?_)
    obtain ⟨f85, fr26⟩ := hp25
    have f86 : σ24 86 = aI E 87 v := (fr26 86 (by omega)).trans f86
    refine x_ifb_ne (tgt := 39) hx hb dX7_lays_34 (by decide) (fun c34 => ?_) (fun c34 => ?_)
    · have hk8 := (lay_y (op := op) (lk := lk) (kp := kp) (wc := wc) (pn := pn) (nw := nw) (sh := sh) (wk := wk) (by simp [c23]) c34).1
      refine lv_aload_n hx hb dX7_lays_39 rfl (lv_at hl 1 rfl) ?_
      refine x_get hx hb hts hown hK hH 85 (by decide) f85 hinX7 rfl 0 (by decide) (List.mem_of_getElem? (i := 1) rfl) rfl dX7_lays_40 ?_
      refine x_iconst hx hb dX7_lays_43 ?_
      refine lv_iload_n hx hb dX7_lays_44 rfl (lv_at hl 2 rfl) ?_
      refine x_iadd hx hb dX7_lays_45 ?_
      refine x_bipush hx hb dX7_lays_46 (by decide) ?_
      refine x_isub hx hb dX7_lays_48 ?_
      refine lv_iload hx hb dX7_lays_49 (lv_at hl 0 rfl) ?_
      refine x_iast hx hb hK hH 86 (by decide) f86 (by omega) (by omega) (by omega) dX7_lays_51 (fun σ28 H locs f86 fr29 hH => ?_)
      have f85 : σ28 85 = oB 5 [.ref (xad E 86), .ref (xad E 87), .ref (xad E 88), .ref (xad E 89), .ref (xad E 90), .int (iZ (b2 sv)), .int (iZ re), .int (iZ ea), .int (iZ fa), .ref (xad E 91), .ref (xad E 92), .ref (xad E 93), .int (iZ ty), .ref (xad E 94), .int (iZ li), .int (iZ (thZ (decide (97 ≤ k ∧ k ≤ 102)) (decide ((0 ≤ r ∧ r ≤ 4) ∧ (0 ≤ c0 ∧ c0 ≤ 4))) true)), .int (iZ sz), .int (iZ sp), .int (iZ wr), .int (iZ to), .ref (xad E 95)] := (fr29 85 (by omega)).trans f85
      refine lv_aload_n hx hb dX7_lays_52 rfl (lv_at hl 1 rfl) ?_
      refine lv_iload hx hb dX7_lays_53 (lv_at hl 0 rfl) ?_
      have hC2 := Cp_kp hC hnw.2 (k := k - 97) (x := cellZ r c0) (y := cellZ r c0) (by omega) (by omega) (by unfold kM; rw [if_neg (by omega)]) (by unfold rg; omega)
      rw [show 3 + (k - 97) = 3 + k - 97 by omega] at hC2
      refine x_cVID (As := [.int (iZ (cellZ r c0))]) (rest := []) hx hb hml hts hown hK hST hOK hH 85 (c_X7_keysOn l E ST hSF σ28 (cellZ r c0) op lk (ui kp (k - 97) (cellZ r c0)) wc pn nw sh wk sv re ea fa ty li (thZ (decide (97 ≤ k ∧ k ≤ 102)) (decide ((0 ≤ r ∧ r ≤ 4) ∧ (0 ≤ c0 ∧ c0 ≤ 4))) true) sz sp wr to (ui v (3 + k - 97) (cellZ r c0)) f85 f86 (by assumption) (BI_kp hB (by omega)) (by omega)) (cwV 1 hts gX7_lays_X7_keysOn rfl rfl rfl (by decide +kernel) ⟨Nat.le_of_ble_eq_true rfl, Nat.le_of_ble_eq_true rfl⟩) (by decide) f85 rfl rfl hl.1 rfl (Nat.le_of_ble_eq_true rfl) dX7_lays_55 ⟨Nat.le_of_ble_eq_true rfl, Nat.le_of_ble_eq_true rfl⟩ (fun z u h => h) (fun H locs hH => ?_)
      have hcb := cntK_b (f := fun i => kM (ui kp (k - 97) (cellZ r c0) i)) (x := cellZ r c0) (n := 6) (by decide)
      subst hQ
      exact x_iret hx hb hr hlocks hH (Nat.le_of_ble_eq_true rfl) (Nat.le_of_ble_eq_true rfl) ⟨(by first | exact rs_ok (lay_y (by simp [c23]) c34).2 (cntK_kM (by omega)) (by rw [← cntK_kM (by omega)]; exact ⟨by omega, by omega⟩) | exact rs_no (lay_n (by simp [c23]) c34)), ⟨(ui v ((3 + k) - 97) (cellZ r c0)), (f85.trans (by rw [lay_th (op := op) (lk := lk) (kp := kp) (wc := wc) (pn := pn) (nw := nw) (sh := sh) (wk := wk) (by simp [c23])])), f86, (by first | exact cp_ok hC2 (lay_y (by simp [c23]) c34).2 | exact cp_no hC (lay_n (by simp [c23]) c34))⟩, fun j hj0 => ((fr29 j (by omega)).trans (fr26 j (by omega)))⟩ dX7_lays_58
    · refine x_iconst hx hb dX7_lays_37 ?_
      subst hQ
      exact x_iret hx hb hr hlocks hH (Nat.le_of_ble_eq_true rfl) (Nat.le_of_ble_eq_true rfl) ⟨(by first | exact rs_ok (lay_y (by simp [c23]) c34).2 (cntK_kM (by omega)) (by rw [← cntK_kM (by omega)]; exact ⟨by omega, by omega⟩) | exact rs_no (lay_n (by simp [c23]) c34)), ⟨v, (f85.trans (by rw [lay_th (op := op) (lk := lk) (kp := kp) (wc := wc) (pn := pn) (nw := nw) (sh := sh) (wk := wk) (by simp [c23])])), f86, (by first | exact cp_ok hC2 (lay_y (by simp [c23]) c34).2 | exact cp_no hC (lay_n (by simp [c23]) c34))⟩, fun j hj0 => (fr26 j (by omega))⟩ dX7_lays_38

def rm_X7_placeKey : Room := { frames := 5, cells := 0, slots := 0, locals := 108 }
set_option maxRecDepth 100000 in
set_option maxHeartbeats 4000000 in
theorem c_X7_placeKey (l : Launch) (E : xE) (ST : xST) (hSF : SF ST) (σ : xW) (k : Int) (r : Int) (c0 : Int) (op : Int → Int) (lk : Int → Int) (kp : Int → Int) (wc : Int → Int) (pn : Int) (nw : Int) (sh : Int) (wk : Int) (sv : Bool) (re : Int) (ea : Int) (fa : Int) (ty : Int) (li : Int) (th : Int) (sz : Int) (sp : Int) (wr : Int) (to : Int) (v : Int → Int) (w : Int → Int) (hF : Int → Int) (hr0 : mo E σ sv re ea fa ty li th sz sp wr to) (hr1 : now E σ v) (hr2 : bef E σ w) (hr3 : his E σ hF) (hC : Cp v op lk kp wc pn nw sh wk) (hB : BI op lk kp wc pn nw) (hre : 0 ≤ re ∧ re ≤ 8) (hr9 : rg r) (hc9 : rg c0) (hk9 : rg k) : CI l E ST yX7_placeKey wsX7_placeKey rm_X7_placeKey [.ref (xad E 85), .int (iZ k), .int (iZ r), .int (iZ c0)] σ (fun (z : Int) (u : xW) => (0 ≤ (layF op lk kp wc pn nw sh wk k r c0).1 → z = (layF op lk kp wc pn nw sh wk k r c0).1) ∧ (∃ (v1 : Int → Int), mo E u sv (if tL (layF op lk kp wc pn nw sh wk k r c0).1 = 0 then re8 re else re) ea fa ty li (tL (layF op lk kp wc pn nw sh wk k r c0).1) sz sp wr to ∧ now E u (if tL (layF op lk kp wc pn nw sh wk k r c0).1 = 0 then v1 else v) ∧ bef E u v ∧ his E u (if tL (layF op lk kp wc pn nw sh wk k r c0).1 = 0 then rmF hF v re else hF) ∧ (CpT v1 (layF op lk kp wc pn nw sh wk k r c0).2)) ∧ ∀ j : Nat, (j < 85 ∨ 85 + 3 ≤ j) → j ≠ 90 → u j = σ j) := by
  have f85 : σ 85 = oB 5 [.ref (xad E 86), .ref (xad E 87), .ref (xad E 88), .ref (xad E 89), .ref (xad E 90), .int (iZ (b2 sv)), .int (iZ re), .int (iZ ea), .int (iZ fa), .ref (xad E 91), .ref (xad E 92), .ref (xad E 93), .int (iZ ty), .ref (xad E 94), .int (iZ li), .int (iZ th), .int (iZ sz), .int (iZ sp), .int (iZ wr), .int (iZ to), .ref (xad E 95)] := hr0
  have f86 : σ 86 = aI E 87 v := hr1
  have f87 : σ 87 = aI E 87 w := hr2
  have f90 : σ 90 = aI E 696 hF := hr3
  refine CI_of (by decide) rfl (Nat.le_of_ble_eq_true rfl) ?_
  intro p e s m args below meth c Q ls G hH hl hQ
  obtain ⟨hx, hb, hml, hown, hts, hK, hST, hlocks, hr, hno⟩ := G
  have hOK := hSF.1
  have hown : s.vm.findClass RX7 = some m.cls := hown
  have hl : lv_has ls 4 [(0, .ref (xad E 85)), (1, .int (iZ k)), (2, .int (iZ r)), (3, .int (iZ c0))] := hl
  obtain ⟨hop, hlk, hkp, hwc, hpn, hnw⟩ := id hB
  have hvR := hC.R
  have hv0 := hC.1.1
  refine lv_aload_n hx hb dX7_placeKey_0 rfl (lv_at hl 0 rfl) ?_
  refine x_cVV (As := []) (rest := []) hx hb hml hts hown hK hST hOK hH 85 (c_X7_begins l E ST hSF σ sv re ea fa ty li th sz sp wr to v w f85 f86 f87 ) (cwV 0 hts gX7_placeKey_X7_begins rfl rfl rfl (by decide +kernel) ⟨Nat.le_of_ble_eq_true rfl, Nat.le_of_ble_eq_true rfl⟩) (by decide) f85 rfl rfl hl.1 rfl (Nat.le_of_ble_eq_true rfl) dX7_placeKey_1 ⟨Nat.le_of_ble_eq_true rfl, Nat.le_of_ble_eq_true rfl⟩ (fun σ2 H locs hp3 hH => ?_)
  obtain ⟨⟨f85, f86, f87⟩, fr4⟩ := hp3
  have f90 : σ2 90 = aI E 696 hF := (fr4 90 (by omega)).trans f90
  refine lv_aload_n hx hb dX7_placeKey_4 rfl (lv_at hl 0 rfl) ?_
  refine lv_aload_n hx hb dX7_placeKey_5 rfl (lv_at hl 0 rfl) ?_
  refine lv_iload_n hx hb dX7_placeKey_6 rfl (lv_at hl 1 rfl) ?_
  refine lv_iload_n hx hb dX7_placeKey_7 rfl (lv_at hl 2 rfl) ?_
  refine lv_iload_n hx hb dX7_placeKey_8 rfl (lv_at hl 3 rfl) ?_
  refine x_cVI (As := [.int (iZ k), .int (iZ r), .int (iZ c0)]) (rest := [.ref (xad E 85)]) hx hb hml hts hown hK hST hOK hH 85 (c_X7_lays l E ST hSF σ2 k r c0 op lk kp wc pn nw sh wk sv re ea fa ty li th sz sp wr to v f85 f86 (by assumption) (by omega) (by omega) (by omega) (by omega)) (cwV 3 hts gX7_placeKey_X7_lays rfl rfl rfl (by decide +kernel) ⟨Nat.le_of_ble_eq_true rfl, Nat.le_of_ble_eq_true rfl⟩) (by decide) f85 rfl rfl hl.1 rfl (Nat.le_of_ble_eq_true rfl) dX7_placeKey_9 ⟨Nat.le_of_ble_eq_true rfl, Nat.le_of_ble_eq_true rfl⟩ (fun z6 σ7 H locs hp8 hH => ?_)
  obtain ⟨hz_, ⟨v1_, f85, f86, hf10⟩, fr9⟩ := hp8
  have f87 : σ7 87 = aI E 87 v := (fr9 87 (by omega)).trans f87
  have f90 : σ7 90 = aI E 696 hF := (fr9 90 (by omega)).trans f90
  have htb : 0 ≤ tL (layF op lk kp wc pn nw sh wk k r c0).1 ∧ tL (layF op lk kp wc pn nw sh wk k r c0).1 ≤ 3 := (by unfold tL; (repeat' split) <;> omega)
  refine x_cVIE (As := [.int (iZ z6)]) (rest := []) hx hb hml hts hown hK hST hOK hH 85 (c_X7_ends l E ST hSF σ7 z6 sv re ea fa ty li (tL (layF op lk kp wc pn nw sh wk k r c0).1) sz sp wr to v1_ v hF f85 f86 f87 f90 (by omega) (by omega) (by omega)) (cwV 1 hts gX7_placeKey_X7_ends rfl rfl rfl (by decide +kernel) ⟨Nat.le_of_ble_eq_true rfl, Nat.le_of_ble_eq_true rfl⟩) (by decide) f85 rfl rfl hl.1 rfl (Nat.le_of_ble_eq_true rfl) dX7_placeKey_12 ⟨Nat.le_of_ble_eq_true rfl, Nat.le_of_ble_eq_true rfl⟩ (fun z u h => h) (fun σ12 H locs hp13 hH => ?_)
  obtain ⟨⟨f85, f86, f87, f90⟩, fr14⟩ := hp13
  subst hQ
  exact x_iret hx hb hr hlocks hH (Nat.le_of_ble_eq_true rfl) (Nat.le_of_ble_eq_true rfl) ⟨(by intro h9; rw [if_pos (tL_0 h9)]; exact hz_.2 h9), ⟨v1_, (f85.trans (by first | rfl | omega | simp_all)), (f86.trans (congrArg (fun g => aI E 87 g) (show (if (tL (layF op lk kp wc pn nw sh wk k r c0).1) = 0 then v1_ else v) = (if tL (layF op lk kp wc pn nw sh wk k r c0).1 = 0 then v1_ else v) from (by first | rfl | omega | simp_all)))), f87, (f90.trans (congrArg (fun g => aI E 696 g) (show (if (tL (layF op lk kp wc pn nw sh wk k r c0).1) = 0 then rmF hF v re else hF) = (if tL (layF op lk kp wc pn nw sh wk k r c0).1 = 0 then rmF hF v re else hF) from (by first | rfl | omega | simp_all)))), (by first | assumption | omega | simp_all)⟩, fun j hj0 hj1 => ((fr14 j (by omega) (by omega)).trans ((fr9 j (by omega)).trans (fr4 j (by omega))))⟩ dX7_placeKey_15

def rm_X7_locks : Room := { frames := 4, cells := 0, slots := 0, locals := 84 }
set_option maxRecDepth 100000 in
set_option maxHeartbeats 4000000 in
theorem c_X7_locks (l : Launch) (E : xE) (ST : xST) (hSF : SF ST) (σ : xW) (r : Int) (c0 : Int) (k : Int) (op : Int → Int) (lk : Int → Int) (kp : Int → Int) (wc : Int → Int) (pn : Int) (nw : Int) (sh : Int) (wk : Int) (sv : Bool) (re : Int) (ea : Int) (fa : Int) (ty : Int) (li : Int) (th : Int) (sz : Int) (sp : Int) (wr : Int) (to : Int) (v : Int → Int) (hr0 : mo E σ sv re ea fa ty li th sz sp wr to) (hr1 : now E σ v) (hC : Cp v op lk kp wc pn nw sh wk) (hB : BI op lk kp wc pn nw) (hr9 : rg r) (hc9 : rg c0) (hk9 : rg k) : CI l E ST yX7_locks wsX7_locks rm_X7_locks [.ref (xad E 85), .int (iZ r), .int (iZ c0), .int (iZ k)] σ (fun (z : Int) (u : xW) => (rg z ∧ (0 ≤ (hangF op lk kp wc pn nw sh wk r c0 k).1 → z = (hangF op lk kp wc pn nw sh wk r c0 k).1)) ∧ (∃ (v1 : Int → Int), mo E u sv re ea fa ty li (tA (hangF op lk kp wc pn nw sh wk r c0 k).1) sz sp wr to ∧ now E u v1 ∧ (CpT v1 (hangF op lk kp wc pn nw sh wk r c0 k).2)) ∧ ∀ j : Nat, (j < 85 ∨ 85 + 2 ≤ j) → u j = σ j) := by
  have f85 : σ 85 = oB 5 [.ref (xad E 86), .ref (xad E 87), .ref (xad E 88), .ref (xad E 89), .ref (xad E 90), .int (iZ (b2 sv)), .int (iZ re), .int (iZ ea), .int (iZ fa), .ref (xad E 91), .ref (xad E 92), .ref (xad E 93), .int (iZ ty), .ref (xad E 94), .int (iZ li), .int (iZ th), .int (iZ sz), .int (iZ sp), .int (iZ wr), .int (iZ to), .ref (xad E 95)] := hr0
  have f86 : σ 86 = aI E 87 v := hr1
  refine CI_of (by decide) rfl (Nat.le_of_ble_eq_true rfl) ?_
  intro p e s m args below meth c Q ls G hH hl hQ
  obtain ⟨hx, hb, hml, hown, hts, hK, hST, hlocks, hr, hno⟩ := G
  have hOK := hSF.1
  have hown : s.vm.findClass RX7 = some m.cls := hown
  have hl : lv_has ls 5 [(0, .ref (xad E 85)), (1, .int (iZ r)), (2, .int (iZ c0)), (3, .int (iZ k))] := hl
  have hinX7 : ∀ w ∈ u_ws RX7 TX7 21, w ∈ wsX7_locks := fun w h => (List.mem_cons_of_mem _ (List.mem_append_right _ h))
  obtain ⟨hop, hlk, hkp, hwc, hpn, hnw⟩ := id hB
  have hvR := hC.R
  have hv0 := hC.1.1
  have hcz := cellZ_rg (r := r) (c := c0)
  refine lv_iload_n hx hb dX7_locks_0 rfl (lv_at hl 1 rfl) ?_
  refine lv_iload_n hx hb dX7_locks_1 rfl (lv_at hl 2 rfl) ?_
  refine x_cSID (As := [.int (iZ r), .int (iZ c0)]) (rest := []) hx hb hml hts hown hK hST hOK hH (c_X7_cellAt l E ST hSF σ r c0  (by omega) (by omega)) (va_cwS 2 hts gX7_locks_X7_cellAt rfl rfl rfl (by decide +kernel) ⟨Nat.le_of_ble_eq_true rfl, Nat.le_of_ble_eq_true rfl⟩) rfl hl.1 rfl (Nat.le_of_ble_eq_true rfl) dX7_locks_2 ⟨Nat.le_of_ble_eq_true rfl, Nat.le_of_ble_eq_true rfl⟩ (fun z u h => h) (fun H locs hH => ?_)
  refine lv_istore (lv' := [(4, .int (iZ (cellZ r c0))), (0, .ref (xad E 85)), (1, .int (iZ r)), (2, .int (iZ c0)), (3, .int (iZ k))]) hx hb dX7_locks_5 hl (by decide) rfl (fun ls hl => ?_)
  refine lv_aload_n hx hb dX7_locks_7 rfl (lv_at hl 1 rfl) ?_
  refine lv_iload_n hx hb dX7_locks_8 rfl (lv_at hl 2 rfl) ?_
  refine lv_iload_n hx hb dX7_locks_9 rfl (lv_at hl 3 rfl) ?_
  refine x_cSID (As := [.int (iZ r), .int (iZ c0)]) (rest := [.ref (xad E 85)]) hx hb hml hts hown hK hST hOK hH (c_X7_isCell l E ST hSF σ r c0  (by omega) (by omega)) (va_cwS 2 hts gX7_locks_X7_isCell rfl rfl rfl (by decide +kernel) ⟨Nat.le_of_ble_eq_true rfl, Nat.le_of_ble_eq_true rfl⟩) rfl hl.1 rfl (Nat.le_of_ble_eq_true rfl) dX7_locks_10 ⟨Nat.le_of_ble_eq_true rfl, Nat.le_of_ble_eq_true rfl⟩ (fun z u h => h) (fun H locs hH => ?_)
  refine lv_iload_n hx hb dX7_locks_13 rfl (lv_at hl 4 rfl) ?_
  refine x_cSID (As := [.int (iZ k)]) (rest := [.int (iZ (b2 (decide ((0 ≤ r ∧ r ≤ 4) ∧ (0 ≤ c0 ∧ c0 ≤ 4))))), .ref (xad E 85)]) hx hb hml hts hown hK hST hOK hH (c_X7_isKey l E ST hSF σ k  (by omega)) (va_cwS 1 hts gX7_locks_X7_isKey rfl rfl rfl (by decide +kernel) ⟨Nat.le_of_ble_eq_true rfl, Nat.le_of_ble_eq_true rfl⟩) rfl hl.1 rfl (Nat.le_of_ble_eq_true rfl) dX7_locks_14 ⟨Nat.le_of_ble_eq_true rfl, Nat.le_of_ble_eq_true rfl⟩ (fun z u h => h) (fun H locs hH => ?_)
  refine lv_aload_n hx hb dX7_locks_17 rfl (lv_at hl 1 rfl) ?_
  refine lv_iload hx hb dX7_locks_18 (lv_at hl 0 rfl) ?_
  refine x_iconst hx hb dX7_locks_20 ?_
  refine x_cVID (As := [.int (iZ (cellZ r c0)), .int (iZ 2)]) (rest := [.int (iZ (b2 (decide (97 ≤ k ∧ k ≤ 102)))), .int (iZ (b2 (decide ((0 ≤ r ∧ r ≤ 4) ∧ (0 ≤ c0 ∧ c0 ≤ 4))))), .ref (xad E 85)]) hx hb hml hts hown hK hST hOK hH 85 (c_X7_of l E ST hSF σ (cellZ r c0) 2 sv re ea fa ty li th sz sp wr to v f85 f86 (by omega) (by omega)) (cwV 2 hts gX7_locks_X7_of rfl rfl rfl (by decide +kernel) ⟨Nat.le_of_ble_eq_true rfl, Nat.le_of_ble_eq_true rfl⟩) (by decide) f85 rfl rfl hl.1 rfl (Nat.le_of_ble_eq_true rfl) dX7_locks_21 ⟨Nat.le_of_ble_eq_true rfl, Nat.le_of_ble_eq_true rfl⟩ (fun z u h => h) (fun H locs hH => ?_)
  rw [hC.a2 (c := cellZ r c0) (by omega) (by omega)]
  have hv13 := hlk (cellZ r c0)
  refine x_iconst hx hb dX7_locks_24 ?_
  refine x_icmp_ne (tgt := 32) hx hb dX7_locks_25 (by decide) (by omega) (by decide) (fun c25 => ?_) (fun c25 => ?_)
  · refine x_iconst hx hb dX7_locks_32 ?_
    refine x_cVIE (As := [.int (iZ (b2 (decide ((0 ≤ r ∧ r ≤ 4) ∧ (0 ≤ c0 ∧ c0 ≤ 4))))), .int (iZ (b2 (decide (97 ≤ k ∧ k ≤ 102)))), .int (iZ 0)]) (rest := []) hx hb hml hts hown hK hST hOK hH 85 (c_X7_holds l E ST hSF σ (decide ((0 ≤ r ∧ r ≤ 4) ∧ (0 ≤ c0 ∧ c0 ≤ 4))) (decide (97 ≤ k ∧ k ≤ 102)) false sv re ea fa ty li th sz sp wr to f85 ) (cwV 3 hts gX7_locks_X7_holds rfl rfl rfl (by decide +kernel) ⟨Nat.le_of_ble_eq_true rfl, Nat.le_of_ble_eq_true rfl⟩) (by decide) f85 rfl rfl hl.1 rfl (Nat.le_of_ble_eq_true rfl) dX7_locks_33 ⟨Nat.le_of_ble_eq_true rfl, Nat.le_of_ble_eq_true rfl⟩ (fun z u h => h) (fun σ15 H locs hp16 hH => ?_)
    obtain ⟨f85, fr17⟩ := hp16
    have f86 : σ15 86 = aI E 87 v := (fr17 86 (by omega)).trans f86
    refine x_ifb_ne (tgt := 41) hx hb dX7_locks_36 (by decide) (fun c36 => ?_) (fun c36 => ?_)
    · have hk8 := (hang_y (op := op) (lk := lk) (kp := kp) (wc := wc) (pn := pn) (nw := nw) (sh := sh) (wk := wk) (by simp [c25]) c36).1
      refine lv_aload_n hx hb dX7_locks_41 rfl (lv_at hl 1 rfl) ?_
      refine x_get hx hb hts hown hK hH 85 (by decide) f85 hinX7 rfl 0 (by decide) (List.mem_of_getElem? (i := 1) rfl) rfl dX7_locks_42 ?_
      refine lv_iload hx hb dX7_locks_45 (lv_at hl 0 rfl) ?_
      refine x_cSID (As := [.int (iZ (cellZ r c0))]) (rest := [.ref (xad E 86)]) hx hb hml hts hown hK hST hOK hH (c_X7_tileAt l E ST hSF σ15 (cellZ r c0)  (by omega)) (va_cwS 1 hts gX7_locks_X7_tileAt rfl rfl rfl (by decide +kernel) ⟨Nat.le_of_ble_eq_true rfl, Nat.le_of_ble_eq_true rfl⟩) rfl hl.1 rfl (Nat.le_of_ble_eq_true rfl) dX7_locks_47 ⟨Nat.le_of_ble_eq_true rfl, Nat.le_of_ble_eq_true rfl⟩ (fun z u h => h) (fun H locs hH => ?_)
      refine x_iconst hx hb dX7_locks_50 ?_
      refine x_iadd hx hb dX7_locks_51 ?_
      refine lv_iload_n hx hb dX7_locks_52 rfl (lv_at hl 4 rfl) ?_
      refine x_bipush hx hb dX7_locks_53 (by decide) ?_
      refine x_isub hx hb dX7_locks_55 ?_
      refine x_iast hx hb hK hH 86 (by decide) f86 (by omega) (by omega) (by omega) dX7_locks_56 (fun σ22 H locs f86 fr23 hH => ?_)
      have f85 : σ22 85 = oB 5 [.ref (xad E 86), .ref (xad E 87), .ref (xad E 88), .ref (xad E 89), .ref (xad E 90), .int (iZ (b2 sv)), .int (iZ re), .int (iZ ea), .int (iZ fa), .ref (xad E 91), .ref (xad E 92), .ref (xad E 93), .int (iZ ty), .ref (xad E 94), .int (iZ li), .int (iZ (thZ (decide ((0 ≤ r ∧ r ≤ 4) ∧ (0 ≤ c0 ∧ c0 ≤ 4))) (decide (97 ≤ k ∧ k ≤ 102)) false)), .int (iZ sz), .int (iZ sp), .int (iZ wr), .int (iZ to), .ref (xad E 95)] := (fr23 85 (by omega)).trans f85
      refine lv_aload_n hx hb dX7_locks_57 rfl (lv_at hl 1 rfl) ?_
      refine x_iconst hx hb dX7_locks_58 ?_
      refine x_iconst hx hb dX7_locks_59 ?_
      have hC2 := Cp_lk hC hnw.2 hcz.1 hcz.2 (o := k - 97) (by unfold rg; omega)
      refine x_cVID (As := [.int (iZ 2), .int (iZ 0)]) (rest := []) hx hb hml hts hown hK hST hOK hH 85 (c_X7_tilesWith l E ST hSF σ22 2 0 sv re ea fa ty li (thZ (decide ((0 ≤ r ∧ r ≤ 4) ∧ (0 ≤ c0 ∧ c0 ≤ 4))) (decide (97 ≤ k ∧ k ≤ 102)) false) sz sp wr to (ui v ((12 + 3 * (cellZ r c0)) + 2) (k - 97)) f85 f86 (by omega) (by omega) hC2.R) (cwV 2 hts gX7_locks_X7_tilesWith rfl rfl rfl (by decide +kernel) ⟨Nat.le_of_ble_eq_true rfl, Nat.le_of_ble_eq_true rfl⟩) (by decide) f85 rfl rfl hl.1 rfl (Nat.le_of_ble_eq_true rfl) dX7_locks_60 ⟨Nat.le_of_ble_eq_true rfl, Nat.le_of_ble_eq_true rfl⟩ (fun z u h => h) (fun H locs hH => ?_)
      have hcb := cnbK_b (P := fun c => decide (0 ≤ ui v (12 + 3 * (cellZ r c0) + 2) (k - 97) (12 + 3 * c + 2))) (n := 25) (by decide)
      subst hQ
      exact x_iret hx hb hr hlocks hH (Nat.le_of_ble_eq_true rfl) (Nat.le_of_ble_eq_true rfl) ⟨(by first | exact rs_ok (hang_y (by simp [c25]) c36).2 (tw_lk hC2 (ui_lk hlk (by omega))) (by rw [← tw_lk hC2 (ui_lk hlk (by omega))]; exact ⟨by omega, by omega⟩) | exact rs_no (hang_n (by simp [c25]) c36)), ⟨(ui v ((12 + 3 * (cellZ r c0)) + 2) (k - 97)), (f85.trans (by rw [hang_th (op := op) (lk := lk) (kp := kp) (wc := wc) (pn := pn) (nw := nw) (sh := sh) (wk := wk) (by simp [c25])])), f86, (by first | exact cp_ok hC2 (hang_y (by simp [c25]) c36).2 | exact cp_no hC (hang_n (by simp [c25]) c36))⟩, fun j hj0 => ((fr23 j (by omega)).trans (fr17 j (by omega)))⟩ dX7_locks_63
    · refine x_iconst hx hb dX7_locks_39 ?_
      subst hQ
      exact x_iret hx hb hr hlocks hH (Nat.le_of_ble_eq_true rfl) (Nat.le_of_ble_eq_true rfl) ⟨(by first | exact rs_ok (hang_y (by simp [c25]) c36).2 (tw_lk hC2 (ui_lk hlk (by omega))) (by rw [← tw_lk hC2 (ui_lk hlk (by omega))]; exact ⟨by omega, by omega⟩) | exact rs_no (hang_n (by simp [c25]) c36)), ⟨v, (f85.trans (by rw [hang_th (op := op) (lk := lk) (kp := kp) (wc := wc) (pn := pn) (nw := nw) (sh := sh) (wk := wk) (by simp [c25])])), f86, (by first | exact cp_ok hC2 (hang_y (by simp [c25]) c36).2 | exact cp_no hC (hang_n (by simp [c25]) c36))⟩, fun j hj0 => (fr17 j (by omega))⟩ dX7_locks_40
  · refine x_iconst hx hb dX7_locks_28 ?_
    refine lv_goto (tgt := 33) hx hb dX7_locks_29 (by decide) ?_
    refine x_cVIE (As := [.int (iZ (b2 (decide ((0 ≤ r ∧ r ≤ 4) ∧ (0 ≤ c0 ∧ c0 ≤ 4))))), .int (iZ (b2 (decide (97 ≤ k ∧ k ≤ 102)))), .int (iZ 1)]) (rest := []) hx hb hml hts hown hK hST hOK hH 85 (c_X7_holds l E ST hSF σ (decide ((0 ≤ r ∧ r ≤ 4) ∧ (0 ≤ c0 ∧ c0 ≤ 4))) (decide (97 ≤ k ∧ k ≤ 102)) true sv re ea fa ty li th sz sp wr to f85 ) (cwV 3 hts gX7_locks_X7_holds rfl rfl rfl (by decide +kernel) ⟨Nat.le_of_ble_eq_true rfl, Nat.le_of_ble_eq_true rfl⟩) (by decide) f85 rfl rfl hl.1 rfl (Nat.le_of_ble_eq_true rfl) dX7_locks_33 ⟨Nat.le_of_ble_eq_true rfl, Nat.le_of_ble_eq_true rfl⟩ (fun z u h => h) (fun σ28 H locs hp29 hH => ?_)
    obtain ⟨f85, fr30⟩ := hp29
    have f86 : σ28 86 = aI E 87 v := (fr30 86 (by omega)).trans f86
    refine x_ifb_ne (tgt := 41) hx hb dX7_locks_36 (by decide) (fun c36 => ?_) (fun c36 => ?_)
    · have hk8 := (hang_y (op := op) (lk := lk) (kp := kp) (wc := wc) (pn := pn) (nw := nw) (sh := sh) (wk := wk) (by simp [c25]) c36).1
      refine lv_aload_n hx hb dX7_locks_41 rfl (lv_at hl 1 rfl) ?_
      refine x_get hx hb hts hown hK hH 85 (by decide) f85 hinX7 rfl 0 (by decide) (List.mem_of_getElem? (i := 1) rfl) rfl dX7_locks_42 ?_
      refine lv_iload hx hb dX7_locks_45 (lv_at hl 0 rfl) ?_
      refine x_cSID (As := [.int (iZ (cellZ r c0))]) (rest := [.ref (xad E 86)]) hx hb hml hts hown hK hST hOK hH (c_X7_tileAt l E ST hSF σ28 (cellZ r c0)  (by omega)) (va_cwS 1 hts gX7_locks_X7_tileAt rfl rfl rfl (by decide +kernel) ⟨Nat.le_of_ble_eq_true rfl, Nat.le_of_ble_eq_true rfl⟩) rfl hl.1 rfl (Nat.le_of_ble_eq_true rfl) dX7_locks_47 ⟨Nat.le_of_ble_eq_true rfl, Nat.le_of_ble_eq_true rfl⟩ (fun z u h => h) (fun H locs hH => ?_)
      refine x_iconst hx hb dX7_locks_50 ?_
      refine x_iadd hx hb dX7_locks_51 ?_
      refine lv_iload_n hx hb dX7_locks_52 rfl (lv_at hl 4 rfl) ?_
      refine x_bipush hx hb dX7_locks_53 (by decide) ?_
      refine x_isub hx hb dX7_locks_55 ?_
      refine x_iast hx hb hK hH 86 (by decide) f86 (by omega) (by omega) (by omega) dX7_locks_56 (fun σ35 H locs f86 fr36 hH => ?_)
      have f85 : σ35 85 = oB 5 [.ref (xad E 86), .ref (xad E 87), .ref (xad E 88), .ref (xad E 89), .ref (xad E 90), .int (iZ (b2 sv)), .int (iZ re), .int (iZ ea), .int (iZ fa), .ref (xad E 91), .ref (xad E 92), .ref (xad E 93), .int (iZ ty), .ref (xad E 94), .int (iZ li), .int (iZ (thZ (decide ((0 ≤ r ∧ r ≤ 4) ∧ (0 ≤ c0 ∧ c0 ≤ 4))) (decide (97 ≤ k ∧ k ≤ 102)) true)), .int (iZ sz), .int (iZ sp), .int (iZ wr), .int (iZ to), .ref (xad E 95)] := (fr36 85 (by omega)).trans f85
      refine lv_aload_n hx hb dX7_locks_57 rfl (lv_at hl 1 rfl) ?_
      refine x_iconst hx hb dX7_locks_58 ?_
      refine x_iconst hx hb dX7_locks_59 ?_
      have hC2 := Cp_lk hC hnw.2 hcz.1 hcz.2 (o := k - 97) (by unfold rg; omega)
      refine x_cVID (As := [.int (iZ 2), .int (iZ 0)]) (rest := []) hx hb hml hts hown hK hST hOK hH 85 (c_X7_tilesWith l E ST hSF σ35 2 0 sv re ea fa ty li (thZ (decide ((0 ≤ r ∧ r ≤ 4) ∧ (0 ≤ c0 ∧ c0 ≤ 4))) (decide (97 ≤ k ∧ k ≤ 102)) true) sz sp wr to (ui v ((12 + 3 * (cellZ r c0)) + 2) (k - 97)) f85 f86 (by omega) (by omega) hC2.R) (cwV 2 hts gX7_locks_X7_tilesWith rfl rfl rfl (by decide +kernel) ⟨Nat.le_of_ble_eq_true rfl, Nat.le_of_ble_eq_true rfl⟩) (by decide) f85 rfl rfl hl.1 rfl (Nat.le_of_ble_eq_true rfl) dX7_locks_60 ⟨Nat.le_of_ble_eq_true rfl, Nat.le_of_ble_eq_true rfl⟩ (fun z u h => h) (fun H locs hH => ?_)
      have hcb := cnbK_b (P := fun c => decide (0 ≤ ui v (12 + 3 * (cellZ r c0) + 2) (k - 97) (12 + 3 * c + 2))) (n := 25) (by decide)
      subst hQ
      exact x_iret hx hb hr hlocks hH (Nat.le_of_ble_eq_true rfl) (Nat.le_of_ble_eq_true rfl) ⟨(by first | exact rs_ok (hang_y (by simp [c25]) c36).2 (tw_lk hC2 (ui_lk hlk (by omega))) (by rw [← tw_lk hC2 (ui_lk hlk (by omega))]; exact ⟨by omega, by omega⟩) | exact rs_no (hang_n (by simp [c25]) c36)), ⟨(ui v ((12 + 3 * (cellZ r c0)) + 2) (k - 97)), (f85.trans (by rw [hang_th (op := op) (lk := lk) (kp := kp) (wc := wc) (pn := pn) (nw := nw) (sh := sh) (wk := wk) (by simp [c25])])), f86, (by first | exact cp_ok hC2 (hang_y (by simp [c25]) c36).2 | exact cp_no hC (hang_n (by simp [c25]) c36))⟩, fun j hj0 => ((fr36 j (by omega)).trans (fr30 j (by omega)))⟩ dX7_locks_63
    · refine x_iconst hx hb dX7_locks_39 ?_
      subst hQ
      exact x_iret hx hb hr hlocks hH (Nat.le_of_ble_eq_true rfl) (Nat.le_of_ble_eq_true rfl) ⟨(by first | exact rs_ok (hang_y (by simp [c25]) c36).2 (tw_lk hC2 (ui_lk hlk (by omega))) (by rw [← tw_lk hC2 (ui_lk hlk (by omega))]; exact ⟨by omega, by omega⟩) | exact rs_no (hang_n (by simp [c25]) c36)), ⟨v, (f85.trans (by rw [hang_th (op := op) (lk := lk) (kp := kp) (wc := wc) (pn := pn) (nw := nw) (sh := sh) (wk := wk) (by simp [c25])])), f86, (by first | exact cp_ok hC2 (hang_y (by simp [c25]) c36).2 | exact cp_no hC (hang_n (by simp [c25]) c36))⟩, fun j hj0 => (fr30 j (by omega))⟩ dX7_locks_40

def rm_X7_addLock : Room := { frames := 5, cells := 0, slots := 0, locals := 108 }
set_option maxRecDepth 100000 in
set_option maxHeartbeats 4000000 in
theorem c_X7_addLock (l : Launch) (E : xE) (ST : xST) (hSF : SF ST) (σ : xW) (r : Int) (c0 : Int) (k : Int) (op : Int → Int) (lk : Int → Int) (kp : Int → Int) (wc : Int → Int) (pn : Int) (nw : Int) (sh : Int) (wk : Int) (sv : Bool) (re : Int) (ea : Int) (fa : Int) (ty : Int) (li : Int) (th : Int) (sz : Int) (sp : Int) (wr : Int) (to : Int) (v : Int → Int) (w : Int → Int) (hF : Int → Int) (hr0 : mo E σ sv re ea fa ty li th sz sp wr to) (hr1 : now E σ v) (hr2 : bef E σ w) (hr3 : his E σ hF) (hC : Cp v op lk kp wc pn nw sh wk) (hB : BI op lk kp wc pn nw) (hre : 0 ≤ re ∧ re ≤ 8) (hr9 : rg r) (hc9 : rg c0) (hk9 : rg k) : CI l E ST yX7_addLock wsX7_addLock rm_X7_addLock [.ref (xad E 85), .int (iZ r), .int (iZ c0), .int (iZ k)] σ (fun (z : Int) (u : xW) => (0 ≤ (hangF op lk kp wc pn nw sh wk r c0 k).1 → z = (hangF op lk kp wc pn nw sh wk r c0 k).1) ∧ (∃ (v1 : Int → Int), mo E u sv (if tA (hangF op lk kp wc pn nw sh wk r c0 k).1 = 0 then re8 re else re) ea fa ty li (tA (hangF op lk kp wc pn nw sh wk r c0 k).1) sz sp wr to ∧ now E u (if tA (hangF op lk kp wc pn nw sh wk r c0 k).1 = 0 then v1 else v) ∧ bef E u v ∧ his E u (if tA (hangF op lk kp wc pn nw sh wk r c0 k).1 = 0 then rmF hF v re else hF) ∧ (CpT v1 (hangF op lk kp wc pn nw sh wk r c0 k).2)) ∧ ∀ j : Nat, (j < 85 ∨ 85 + 3 ≤ j) → j ≠ 90 → u j = σ j) := by
  have f85 : σ 85 = oB 5 [.ref (xad E 86), .ref (xad E 87), .ref (xad E 88), .ref (xad E 89), .ref (xad E 90), .int (iZ (b2 sv)), .int (iZ re), .int (iZ ea), .int (iZ fa), .ref (xad E 91), .ref (xad E 92), .ref (xad E 93), .int (iZ ty), .ref (xad E 94), .int (iZ li), .int (iZ th), .int (iZ sz), .int (iZ sp), .int (iZ wr), .int (iZ to), .ref (xad E 95)] := hr0
  have f86 : σ 86 = aI E 87 v := hr1
  have f87 : σ 87 = aI E 87 w := hr2
  have f90 : σ 90 = aI E 696 hF := hr3
  refine CI_of (by decide) rfl (Nat.le_of_ble_eq_true rfl) ?_
  intro p e s m args below meth c Q ls G hH hl hQ
  obtain ⟨hx, hb, hml, hown, hts, hK, hST, hlocks, hr, hno⟩ := G
  have hOK := hSF.1
  have hown : s.vm.findClass RX7 = some m.cls := hown
  have hl : lv_has ls 4 [(0, .ref (xad E 85)), (1, .int (iZ r)), (2, .int (iZ c0)), (3, .int (iZ k))] := hl
  obtain ⟨hop, hlk, hkp, hwc, hpn, hnw⟩ := id hB
  have hvR := hC.R
  have hv0 := hC.1.1
  refine lv_aload_n hx hb dX7_addLock_0 rfl (lv_at hl 0 rfl) ?_
  refine x_cVV (As := []) (rest := []) hx hb hml hts hown hK hST hOK hH 85 (c_X7_begins l E ST hSF σ sv re ea fa ty li th sz sp wr to v w f85 f86 f87 ) (cwV 0 hts gX7_addLock_X7_begins rfl rfl rfl (by decide +kernel) ⟨Nat.le_of_ble_eq_true rfl, Nat.le_of_ble_eq_true rfl⟩) (by decide) f85 rfl rfl hl.1 rfl (Nat.le_of_ble_eq_true rfl) dX7_addLock_1 ⟨Nat.le_of_ble_eq_true rfl, Nat.le_of_ble_eq_true rfl⟩ (fun σ2 H locs hp3 hH => ?_)
  obtain ⟨⟨f85, f86, f87⟩, fr4⟩ := hp3
  have f90 : σ2 90 = aI E 696 hF := (fr4 90 (by omega)).trans f90
  refine lv_aload_n hx hb dX7_addLock_4 rfl (lv_at hl 0 rfl) ?_
  refine lv_aload_n hx hb dX7_addLock_5 rfl (lv_at hl 0 rfl) ?_
  refine lv_iload_n hx hb dX7_addLock_6 rfl (lv_at hl 1 rfl) ?_
  refine lv_iload_n hx hb dX7_addLock_7 rfl (lv_at hl 2 rfl) ?_
  refine lv_iload_n hx hb dX7_addLock_8 rfl (lv_at hl 3 rfl) ?_
  refine x_cVI (As := [.int (iZ r), .int (iZ c0), .int (iZ k)]) (rest := [.ref (xad E 85)]) hx hb hml hts hown hK hST hOK hH 85 (c_X7_locks l E ST hSF σ2 r c0 k op lk kp wc pn nw sh wk sv re ea fa ty li th sz sp wr to v f85 f86 (by assumption) (by omega) (by omega) (by omega) (by omega)) (cwV 3 hts gX7_addLock_X7_locks rfl rfl rfl (by decide +kernel) ⟨Nat.le_of_ble_eq_true rfl, Nat.le_of_ble_eq_true rfl⟩) (by decide) f85 rfl rfl hl.1 rfl (Nat.le_of_ble_eq_true rfl) dX7_addLock_9 ⟨Nat.le_of_ble_eq_true rfl, Nat.le_of_ble_eq_true rfl⟩ (fun z6 σ7 H locs hp8 hH => ?_)
  obtain ⟨hz_, ⟨v1_, f85, f86, hf10⟩, fr9⟩ := hp8
  have f87 : σ7 87 = aI E 87 v := (fr9 87 (by omega)).trans f87
  have f90 : σ7 90 = aI E 696 hF := (fr9 90 (by omega)).trans f90
  have htb : 0 ≤ tA (hangF op lk kp wc pn nw sh wk r c0 k).1 ∧ tA (hangF op lk kp wc pn nw sh wk r c0 k).1 ≤ 3 := (by unfold tA; (repeat' split) <;> omega)
  refine x_cVIE (As := [.int (iZ z6)]) (rest := []) hx hb hml hts hown hK hST hOK hH 85 (c_X7_ends l E ST hSF σ7 z6 sv re ea fa ty li (tA (hangF op lk kp wc pn nw sh wk r c0 k).1) sz sp wr to v1_ v hF f85 f86 f87 f90 (by omega) (by omega) (by omega)) (cwV 1 hts gX7_addLock_X7_ends rfl rfl rfl (by decide +kernel) ⟨Nat.le_of_ble_eq_true rfl, Nat.le_of_ble_eq_true rfl⟩) (by decide) f85 rfl rfl hl.1 rfl (Nat.le_of_ble_eq_true rfl) dX7_addLock_12 ⟨Nat.le_of_ble_eq_true rfl, Nat.le_of_ble_eq_true rfl⟩ (fun z u h => h) (fun σ12 H locs hp13 hH => ?_)
  obtain ⟨⟨f85, f86, f87, f90⟩, fr14⟩ := hp13
  subst hQ
  exact x_iret hx hb hr hlocks hH (Nat.le_of_ble_eq_true rfl) (Nat.le_of_ble_eq_true rfl) ⟨(by intro h9; rw [if_pos (tA_0 h9)]; exact hz_.2 h9), ⟨v1_, (f85.trans (by first | rfl | omega | simp_all)), (f86.trans (congrArg (fun g => aI E 87 g) (show (if (tA (hangF op lk kp wc pn nw sh wk r c0 k).1) = 0 then v1_ else v) = (if tA (hangF op lk kp wc pn nw sh wk r c0 k).1 = 0 then v1_ else v) from (by first | rfl | omega | simp_all)))), f87, (f90.trans (congrArg (fun g => aI E 696 g) (show (if (tA (hangF op lk kp wc pn nw sh wk r c0 k).1) = 0 then rmF hF v re else hF) = (if tA (hangF op lk kp wc pn nw sh wk r c0 k).1 = 0 then rmF hF v re else hF) from (by first | rfl | omega | simp_all)))), (by first | assumption | omega | simp_all)⟩, fun j hj0 hj1 => ((fr14 j (by omega) (by omega)).trans ((fr9 j (by omega)).trans (fr4 j (by omega))))⟩ dX7_addLock_15

def rm_X7_unlocks : Room := { frames := 4, cells := 0, slots := 0, locals := 84 }
set_option maxRecDepth 100000 in
set_option maxHeartbeats 4000000 in
theorem c_X7_unlocks (l : Launch) (E : xE) (ST : xST) (hSF : SF ST) (σ : xW) (r : Int) (c0 : Int) (op : Int → Int) (lk : Int → Int) (kp : Int → Int) (wc : Int → Int) (pn : Int) (nw : Int) (sh : Int) (wk : Int) (sv : Bool) (re : Int) (ea : Int) (fa : Int) (ty : Int) (li : Int) (th : Int) (sz : Int) (sp : Int) (wr : Int) (to : Int) (v : Int → Int) (hr0 : mo E σ sv re ea fa ty li th sz sp wr to) (hr1 : now E σ v) (hC : Cp v op lk kp wc pn nw sh wk) (hB : BI op lk kp wc pn nw) (hr9 : rg r) (hc9 : rg c0) : CI l E ST yX7_unlocks wsX7_unlocks rm_X7_unlocks [.ref (xad E 85), .int (iZ r), .int (iZ c0)] σ (fun (z : Int) (u : xW) => (rg z ∧ (0 ≤ (takeF op lk kp wc pn nw sh wk r c0).1 → z = (takeF op lk kp wc pn nw sh wk r c0).1)) ∧ (∃ (v1 : Int → Int), mo E u sv re ea fa ty li (tT (takeF op lk kp wc pn nw sh wk r c0).1) sz sp wr to ∧ now E u v1 ∧ (CpT v1 (takeF op lk kp wc pn nw sh wk r c0).2)) ∧ ∀ j : Nat, (j < 85 ∨ 85 + 2 ≤ j) → u j = σ j) := by
  have f85 : σ 85 = oB 5 [.ref (xad E 86), .ref (xad E 87), .ref (xad E 88), .ref (xad E 89), .ref (xad E 90), .int (iZ (b2 sv)), .int (iZ re), .int (iZ ea), .int (iZ fa), .ref (xad E 91), .ref (xad E 92), .ref (xad E 93), .int (iZ ty), .ref (xad E 94), .int (iZ li), .int (iZ th), .int (iZ sz), .int (iZ sp), .int (iZ wr), .int (iZ to), .ref (xad E 95)] := hr0
  have f86 : σ 86 = aI E 87 v := hr1
  refine CI_of (by decide) rfl (Nat.le_of_ble_eq_true rfl) ?_
  intro p e s m args below meth c Q ls G hH hl hQ
  obtain ⟨hx, hb, hml, hown, hts, hK, hST, hlocks, hr, hno⟩ := G
  have hOK := hSF.1
  have hown : s.vm.findClass RX7 = some m.cls := hown
  have hl : lv_has ls 5 [(0, .ref (xad E 85)), (1, .int (iZ r)), (2, .int (iZ c0))] := hl
  have hinX7 : ∀ w ∈ u_ws RX7 TX7 21, w ∈ wsX7_unlocks := fun w h => (List.mem_cons_of_mem _ (List.mem_append_right _ h))
  obtain ⟨hop, hlk, hkp, hwc, hpn, hnw⟩ := id hB
  have hvR := hC.R
  have hv0 := hC.1.1
  have hcz := cellZ_rg (r := r) (c := c0)
  refine lv_iload_n hx hb dX7_unlocks_0 rfl (lv_at hl 1 rfl) ?_
  refine lv_iload_n hx hb dX7_unlocks_1 rfl (lv_at hl 2 rfl) ?_
  refine x_cSID (As := [.int (iZ r), .int (iZ c0)]) (rest := []) hx hb hml hts hown hK hST hOK hH (c_X7_cellAt l E ST hSF σ r c0  (by omega) (by omega)) (va_cwS 2 hts gX7_unlocks_X7_cellAt rfl rfl rfl (by decide +kernel) ⟨Nat.le_of_ble_eq_true rfl, Nat.le_of_ble_eq_true rfl⟩) rfl hl.1 rfl (Nat.le_of_ble_eq_true rfl) dX7_unlocks_2 ⟨Nat.le_of_ble_eq_true rfl, Nat.le_of_ble_eq_true rfl⟩ (fun z u h => h) (fun H locs hH => ?_)
  refine lv_istore_n (lv' := [(3, .int (iZ (cellZ r c0))), (0, .ref (xad E 85)), (1, .int (iZ r)), (2, .int (iZ c0))]) hx hb dX7_unlocks_5 rfl hl (by decide) rfl (fun ls hl => ?_)
  refine lv_aload_n hx hb dX7_unlocks_6 rfl (lv_at hl 1 rfl) ?_
  refine lv_iload_n hx hb dX7_unlocks_7 rfl (lv_at hl 0 rfl) ?_
  refine x_iconst hx hb dX7_unlocks_8 ?_
  refine x_cVID (As := [.int (iZ (cellZ r c0)), .int (iZ 2)]) (rest := []) hx hb hml hts hown hK hST hOK hH 85 (c_X7_of l E ST hSF σ (cellZ r c0) 2 sv re ea fa ty li th sz sp wr to v f85 f86 (by omega) (by omega)) (cwV 2 hts gX7_unlocks_X7_of rfl rfl rfl (by decide +kernel) ⟨Nat.le_of_ble_eq_true rfl, Nat.le_of_ble_eq_true rfl⟩) (by decide) f85 rfl rfl hl.1 rfl (Nat.le_of_ble_eq_true rfl) dX7_unlocks_9 ⟨Nat.le_of_ble_eq_true rfl, Nat.le_of_ble_eq_true rfl⟩ (fun z u h => h) (fun H locs hH => ?_)
  rw [hC.a2 (c := cellZ r c0) (by omega) (by omega)]
  have hv7 := hlk (cellZ r c0)
  refine lv_istore (lv' := [(4, .int (iZ (lk (cellZ r c0)))), (3, .int (iZ (cellZ r c0))), (0, .ref (xad E 85)), (1, .int (iZ r)), (2, .int (iZ c0))]) hx hb dX7_unlocks_12 hl (by decide) rfl (fun ls hl => ?_)
  refine lv_aload_n hx hb dX7_unlocks_14 rfl (lv_at hl 2 rfl) ?_
  refine lv_iload_n hx hb dX7_unlocks_15 rfl (lv_at hl 3 rfl) ?_
  refine lv_iload_n hx hb dX7_unlocks_16 rfl (lv_at hl 4 rfl) ?_
  refine x_cSID (As := [.int (iZ r), .int (iZ c0)]) (rest := [.ref (xad E 85)]) hx hb hml hts hown hK hST hOK hH (c_X7_isCell l E ST hSF σ r c0  (by omega) (by omega)) (va_cwS 2 hts gX7_unlocks_X7_isCell rfl rfl rfl (by decide +kernel) ⟨Nat.le_of_ble_eq_true rfl, Nat.le_of_ble_eq_true rfl⟩) rfl hl.1 rfl (Nat.le_of_ble_eq_true rfl) dX7_unlocks_17 ⟨Nat.le_of_ble_eq_true rfl, Nat.le_of_ble_eq_true rfl⟩ (fun z u h => h) (fun H locs hH => ?_)
  refine lv_iload hx hb dX7_unlocks_20 (lv_at hl 0 rfl) ?_
  refine x_iconst hx hb dX7_unlocks_22 ?_
  refine x_icmp_eq (tgt := 30) hx hb dX7_unlocks_23 (by decide) (by omega) (by decide) (fun c23 => ?_) (fun c23 => ?_)
  · refine x_iconst hx hb dX7_unlocks_30 ?_
    refine x_iconst hx hb dX7_unlocks_31 ?_
    refine x_cVIE (As := [.int (iZ (b2 (decide ((0 ≤ r ∧ r ≤ 4) ∧ (0 ≤ c0 ∧ c0 ≤ 4))))), .int (iZ 0), .int (iZ 1)]) (rest := []) hx hb hml hts hown hK hST hOK hH 85 (c_X7_holds l E ST hSF σ (decide ((0 ≤ r ∧ r ≤ 4) ∧ (0 ≤ c0 ∧ c0 ≤ 4))) false true sv re ea fa ty li th sz sp wr to f85 ) (cwV 3 hts gX7_unlocks_X7_holds rfl rfl rfl (by decide +kernel) ⟨Nat.le_of_ble_eq_true rfl, Nat.le_of_ble_eq_true rfl⟩) (by decide) f85 rfl rfl hl.1 rfl (Nat.le_of_ble_eq_true rfl) dX7_unlocks_32 ⟨Nat.le_of_ble_eq_true rfl, Nat.le_of_ble_eq_true rfl⟩ (fun z u h => h) (fun σ12 H locs hp13 hH => ?_)
    obtain ⟨f85, fr14⟩ := hp13
    have f86 : σ12 86 = aI E 87 v := (fr14 86 (by omega)).trans f86
    refine x_ifb_ne (tgt := 40) hx hb dX7_unlocks_35 (by decide) (fun c35 => ?_) (fun c35 => ?_)
    · refine lv_aload_n hx hb dX7_unlocks_40 rfl (lv_at hl 2 rfl) ?_
      refine x_get hx hb hts hown hK hH 85 (by decide) f85 hinX7 rfl 0 (by decide) (List.mem_of_getElem? (i := 1) rfl) rfl dX7_unlocks_41 ?_
      refine lv_iload_n hx hb dX7_unlocks_44 rfl (lv_at hl 1 rfl) ?_
      refine x_cSID (As := [.int (iZ (cellZ r c0))]) (rest := [.ref (xad E 86)]) hx hb hml hts hown hK hST hOK hH (c_X7_tileAt l E ST hSF σ12 (cellZ r c0)  (by omega)) (va_cwS 1 hts gX7_unlocks_X7_tileAt rfl rfl rfl (by decide +kernel) ⟨Nat.le_of_ble_eq_true rfl, Nat.le_of_ble_eq_true rfl⟩) rfl hl.1 rfl (Nat.le_of_ble_eq_true rfl) dX7_unlocks_45 ⟨Nat.le_of_ble_eq_true rfl, Nat.le_of_ble_eq_true rfl⟩ (fun z u h => h) (fun H locs hH => ?_)
      refine x_iconst hx hb dX7_unlocks_48 ?_
      refine x_iadd hx hb dX7_unlocks_49 ?_
      refine x_iconst hx hb dX7_unlocks_50 ?_
      refine x_iast hx hb hK hH 86 (by decide) f86 (by omega) (by omega) (by omega) dX7_unlocks_51 (fun σ19 H locs f86 fr20 hH => ?_)
      have f85 : σ19 85 = oB 5 [.ref (xad E 86), .ref (xad E 87), .ref (xad E 88), .ref (xad E 89), .ref (xad E 90), .int (iZ (b2 sv)), .int (iZ re), .int (iZ ea), .int (iZ fa), .ref (xad E 91), .ref (xad E 92), .ref (xad E 93), .int (iZ ty), .ref (xad E 94), .int (iZ li), .int (iZ (thZ (decide ((0 ≤ r ∧ r ≤ 4) ∧ (0 ≤ c0 ∧ c0 ≤ 4))) false true)), .int (iZ sz), .int (iZ sp), .int (iZ wr), .int (iZ to), .ref (xad E 95)] := (fr20 85 (by omega)).trans f85
      refine x_bipush hx hb dX7_unlocks_52 (by decide) ?_
      refine lv_iload hx hb dX7_unlocks_54 (lv_at hl 0 rfl) ?_
      refine x_iadd hx hb dX7_unlocks_56 ?_
      subst hQ
      exact x_iret hx hb hr hlocks hH (Nat.le_of_ble_eq_true rfl) (Nat.le_of_ble_eq_true rfl) ⟨(by first | exact rs_ok (take_y (by simp [c23]) c35) rfl ⟨by omega, by omega⟩ | exact rs_no (take_n (by simp [c23]) c35)), ⟨(ui v ((12 + 3 * (cellZ r c0)) + 2) (-1)), (f85.trans (by rw [take_th (op := op) (lk := lk) (kp := kp) (wc := wc) (pn := pn) (nw := nw) (sh := sh) (wk := wk) hlk (by simp [c23])])), f86, (by first | exact cp_ok (Cp_lk hC hnw.2 hcz.1 hcz.2 (by decide)) (take_y (by simp [c23]) c35) | exact cp_no hC (take_n (by simp [c23]) c35))⟩, fun j hj0 => ((fr20 j (by omega)).trans (fr14 j (by omega)))⟩ dX7_unlocks_57
    · refine x_iconst hx hb dX7_unlocks_38 ?_
      subst hQ
      exact x_iret hx hb hr hlocks hH (Nat.le_of_ble_eq_true rfl) (Nat.le_of_ble_eq_true rfl) ⟨(by first | exact rs_ok (take_y (by simp [c23]) c35) rfl ⟨by omega, by omega⟩ | exact rs_no (take_n (by simp [c23]) c35)), ⟨v, (f85.trans (by rw [take_th (op := op) (lk := lk) (kp := kp) (wc := wc) (pn := pn) (nw := nw) (sh := sh) (wk := wk) hlk (by simp [c23])])), f86, (by first | exact cp_ok (Cp_lk hC hnw.2 hcz.1 hcz.2 (by decide)) (take_y (by simp [c23]) c35) | exact cp_no hC (take_n (by simp [c23]) c35))⟩, fun j hj0 => (fr14 j (by omega))⟩ dX7_unlocks_39
  · refine x_iconst hx hb dX7_unlocks_26 ?_
    refine lv_goto (tgt := 31) hx hb dX7_unlocks_27 (by decide) ?_
    refine x_iconst hx hb dX7_unlocks_31 ?_
    refine x_cVIE (As := [.int (iZ (b2 (decide ((0 ≤ r ∧ r ≤ 4) ∧ (0 ≤ c0 ∧ c0 ≤ 4))))), .int (iZ 1), .int (iZ 1)]) (rest := []) hx hb hml hts hown hK hST hOK hH 85 (c_X7_holds l E ST hSF σ (decide ((0 ≤ r ∧ r ≤ 4) ∧ (0 ≤ c0 ∧ c0 ≤ 4))) true true sv re ea fa ty li th sz sp wr to f85 ) (cwV 3 hts gX7_unlocks_X7_holds rfl rfl rfl (by decide +kernel) ⟨Nat.le_of_ble_eq_true rfl, Nat.le_of_ble_eq_true rfl⟩) (by decide) f85 rfl rfl hl.1 rfl (Nat.le_of_ble_eq_true rfl) dX7_unlocks_32 ⟨Nat.le_of_ble_eq_true rfl, Nat.le_of_ble_eq_true rfl⟩ (fun z u h => h) (fun σ22 H locs hp23 hH => ?_)
    obtain ⟨f85, fr24⟩ := hp23
    have f86 : σ22 86 = aI E 87 v := (fr24 86 (by omega)).trans f86
    refine x_ifb_ne (tgt := 40) hx hb dX7_unlocks_35 (by decide) (fun c35 => ?_) (fun c35 => ?_)
    · refine lv_aload_n hx hb dX7_unlocks_40 rfl (lv_at hl 2 rfl) ?_
      refine x_get hx hb hts hown hK hH 85 (by decide) f85 hinX7 rfl 0 (by decide) (List.mem_of_getElem? (i := 1) rfl) rfl dX7_unlocks_41 ?_
      refine lv_iload_n hx hb dX7_unlocks_44 rfl (lv_at hl 1 rfl) ?_
      refine x_cSID (As := [.int (iZ (cellZ r c0))]) (rest := [.ref (xad E 86)]) hx hb hml hts hown hK hST hOK hH (c_X7_tileAt l E ST hSF σ22 (cellZ r c0)  (by omega)) (va_cwS 1 hts gX7_unlocks_X7_tileAt rfl rfl rfl (by decide +kernel) ⟨Nat.le_of_ble_eq_true rfl, Nat.le_of_ble_eq_true rfl⟩) rfl hl.1 rfl (Nat.le_of_ble_eq_true rfl) dX7_unlocks_45 ⟨Nat.le_of_ble_eq_true rfl, Nat.le_of_ble_eq_true rfl⟩ (fun z u h => h) (fun H locs hH => ?_)
      refine x_iconst hx hb dX7_unlocks_48 ?_
      refine x_iadd hx hb dX7_unlocks_49 ?_
      refine x_iconst hx hb dX7_unlocks_50 ?_
      refine x_iast hx hb hK hH 86 (by decide) f86 (by omega) (by omega) (by omega) dX7_unlocks_51 (fun σ29 H locs f86 fr30 hH => ?_)
      have f85 : σ29 85 = oB 5 [.ref (xad E 86), .ref (xad E 87), .ref (xad E 88), .ref (xad E 89), .ref (xad E 90), .int (iZ (b2 sv)), .int (iZ re), .int (iZ ea), .int (iZ fa), .ref (xad E 91), .ref (xad E 92), .ref (xad E 93), .int (iZ ty), .ref (xad E 94), .int (iZ li), .int (iZ (thZ (decide ((0 ≤ r ∧ r ≤ 4) ∧ (0 ≤ c0 ∧ c0 ≤ 4))) true true)), .int (iZ sz), .int (iZ sp), .int (iZ wr), .int (iZ to), .ref (xad E 95)] := (fr30 85 (by omega)).trans f85
      refine x_bipush hx hb dX7_unlocks_52 (by decide) ?_
      refine lv_iload hx hb dX7_unlocks_54 (lv_at hl 0 rfl) ?_
      refine x_iadd hx hb dX7_unlocks_56 ?_
      subst hQ
      exact x_iret hx hb hr hlocks hH (Nat.le_of_ble_eq_true rfl) (Nat.le_of_ble_eq_true rfl) ⟨(by first | exact rs_ok (take_y (by simp [c23]) c35) rfl ⟨by omega, by omega⟩ | exact rs_no (take_n (by simp [c23]) c35)), ⟨(ui v ((12 + 3 * (cellZ r c0)) + 2) (-1)), (f85.trans (by rw [take_th (op := op) (lk := lk) (kp := kp) (wc := wc) (pn := pn) (nw := nw) (sh := sh) (wk := wk) hlk (by simp [c23])])), f86, (by first | exact cp_ok (Cp_lk hC hnw.2 hcz.1 hcz.2 (by decide)) (take_y (by simp [c23]) c35) | exact cp_no hC (take_n (by simp [c23]) c35))⟩, fun j hj0 => ((fr30 j (by omega)).trans (fr24 j (by omega)))⟩ dX7_unlocks_57
    · refine x_iconst hx hb dX7_unlocks_38 ?_
      subst hQ
      exact x_iret hx hb hr hlocks hH (Nat.le_of_ble_eq_true rfl) (Nat.le_of_ble_eq_true rfl) ⟨(by first | exact rs_ok (take_y (by simp [c23]) c35) rfl ⟨by omega, by omega⟩ | exact rs_no (take_n (by simp [c23]) c35)), ⟨v, (f85.trans (by rw [take_th (op := op) (lk := lk) (kp := kp) (wc := wc) (pn := pn) (nw := nw) (sh := sh) (wk := wk) hlk (by simp [c23])])), f86, (by first | exact cp_ok (Cp_lk hC hnw.2 hcz.1 hcz.2 (by decide)) (take_y (by simp [c23]) c35) | exact cp_no hC (take_n (by simp [c23]) c35))⟩, fun j hj0 => (fr24 j (by omega))⟩ dX7_unlocks_39

def rm_X7_removeLock : Room := { frames := 5, cells := 0, slots := 0, locals := 108 }
set_option maxRecDepth 100000 in
set_option maxHeartbeats 4000000 in
theorem c_X7_removeLock (l : Launch) (E : xE) (ST : xST) (hSF : SF ST) (σ : xW) (r : Int) (c0 : Int) (op : Int → Int) (lk : Int → Int) (kp : Int → Int) (wc : Int → Int) (pn : Int) (nw : Int) (sh : Int) (wk : Int) (sv : Bool) (re : Int) (ea : Int) (fa : Int) (ty : Int) (li : Int) (th : Int) (sz : Int) (sp : Int) (wr : Int) (to : Int) (v : Int → Int) (w : Int → Int) (hF : Int → Int) (hr0 : mo E σ sv re ea fa ty li th sz sp wr to) (hr1 : now E σ v) (hr2 : bef E σ w) (hr3 : his E σ hF) (hC : Cp v op lk kp wc pn nw sh wk) (hB : BI op lk kp wc pn nw) (hre : 0 ≤ re ∧ re ≤ 8) (hr9 : rg r) (hc9 : rg c0) : CI l E ST yX7_removeLock wsX7_removeLock rm_X7_removeLock [.ref (xad E 85), .int (iZ r), .int (iZ c0)] σ (fun (z : Int) (u : xW) => (0 ≤ (takeF op lk kp wc pn nw sh wk r c0).1 → z = i2cZ (takeF op lk kp wc pn nw sh wk r c0).1) ∧ (∃ (v1 : Int → Int), mo E u sv (if tT (takeF op lk kp wc pn nw sh wk r c0).1 = 0 then re8 re else re) ea fa ty li (tT (takeF op lk kp wc pn nw sh wk r c0).1) sz sp wr to ∧ now E u (if tT (takeF op lk kp wc pn nw sh wk r c0).1 = 0 then v1 else v) ∧ bef E u v ∧ his E u (if tT (takeF op lk kp wc pn nw sh wk r c0).1 = 0 then rmF hF v re else hF) ∧ (CpT v1 (takeF op lk kp wc pn nw sh wk r c0).2)) ∧ ∀ j : Nat, (j < 85 ∨ 85 + 3 ≤ j) → j ≠ 90 → u j = σ j) := by
  have f85 : σ 85 = oB 5 [.ref (xad E 86), .ref (xad E 87), .ref (xad E 88), .ref (xad E 89), .ref (xad E 90), .int (iZ (b2 sv)), .int (iZ re), .int (iZ ea), .int (iZ fa), .ref (xad E 91), .ref (xad E 92), .ref (xad E 93), .int (iZ ty), .ref (xad E 94), .int (iZ li), .int (iZ th), .int (iZ sz), .int (iZ sp), .int (iZ wr), .int (iZ to), .ref (xad E 95)] := hr0
  have f86 : σ 86 = aI E 87 v := hr1
  have f87 : σ 87 = aI E 87 w := hr2
  have f90 : σ 90 = aI E 696 hF := hr3
  refine CI_of (by decide) rfl (Nat.le_of_ble_eq_true rfl) ?_
  intro p e s m args below meth c Q ls G hH hl hQ
  obtain ⟨hx, hb, hml, hown, hts, hK, hST, hlocks, hr, hno⟩ := G
  have hOK := hSF.1
  have hown : s.vm.findClass RX7 = some m.cls := hown
  have hl : lv_has ls 3 [(0, .ref (xad E 85)), (1, .int (iZ r)), (2, .int (iZ c0))] := hl
  obtain ⟨hop, hlk, hkp, hwc, hpn, hnw⟩ := id hB
  have hvR := hC.R
  have hv0 := hC.1.1
  refine lv_aload_n hx hb dX7_removeLock_0 rfl (lv_at hl 0 rfl) ?_
  refine x_cVV (As := []) (rest := []) hx hb hml hts hown hK hST hOK hH 85 (c_X7_begins l E ST hSF σ sv re ea fa ty li th sz sp wr to v w f85 f86 f87 ) (cwV 0 hts gX7_removeLock_X7_begins rfl rfl rfl (by decide +kernel) ⟨Nat.le_of_ble_eq_true rfl, Nat.le_of_ble_eq_true rfl⟩) (by decide) f85 rfl rfl hl.1 rfl (Nat.le_of_ble_eq_true rfl) dX7_removeLock_1 ⟨Nat.le_of_ble_eq_true rfl, Nat.le_of_ble_eq_true rfl⟩ (fun σ2 H locs hp3 hH => ?_)
  obtain ⟨⟨f85, f86, f87⟩, fr4⟩ := hp3
  have f90 : σ2 90 = aI E 696 hF := (fr4 90 (by omega)).trans f90
  refine lv_aload_n hx hb dX7_removeLock_4 rfl (lv_at hl 0 rfl) ?_
  refine lv_aload_n hx hb dX7_removeLock_5 rfl (lv_at hl 0 rfl) ?_
  refine lv_iload_n hx hb dX7_removeLock_6 rfl (lv_at hl 1 rfl) ?_
  refine lv_iload_n hx hb dX7_removeLock_7 rfl (lv_at hl 2 rfl) ?_
  refine x_cVI (As := [.int (iZ r), .int (iZ c0)]) (rest := [.ref (xad E 85)]) hx hb hml hts hown hK hST hOK hH 85 (c_X7_unlocks l E ST hSF σ2 r c0 op lk kp wc pn nw sh wk sv re ea fa ty li th sz sp wr to v f85 f86 (by assumption) (by omega) (by omega) (by omega)) (cwV 2 hts gX7_removeLock_X7_unlocks rfl rfl rfl (by decide +kernel) ⟨Nat.le_of_ble_eq_true rfl, Nat.le_of_ble_eq_true rfl⟩) (by decide) f85 rfl rfl hl.1 rfl (Nat.le_of_ble_eq_true rfl) dX7_removeLock_8 ⟨Nat.le_of_ble_eq_true rfl, Nat.le_of_ble_eq_true rfl⟩ (fun z9_ σ6 H locs hp7 hH => ?_)
  obtain ⟨hz_, ⟨v1_, f85, f86, hf9⟩, fr8⟩ := hp7
  have f87 : σ6 87 = aI E 87 v := (fr8 87 (by omega)).trans f87
  have f90 : σ6 90 = aI E 696 hF := (fr8 90 (by omega)).trans f90
  have htb : 0 ≤ tT (takeF op lk kp wc pn nw sh wk r c0).1 ∧ tT (takeF op lk kp wc pn nw sh wk r c0).1 ≤ 3 := (by unfold tT; (repeat' split) <;> omega)
  refine x_cVIE (As := [.int (iZ z9_)]) (rest := []) hx hb hml hts hown hK hST hOK hH 85 (c_X7_ends l E ST hSF σ6 z9_ sv re ea fa ty li (tT (takeF op lk kp wc pn nw sh wk r c0).1) sz sp wr to v1_ v hF f85 f86 f87 f90 (by omega) (by omega) (by omega)) (cwV 1 hts gX7_removeLock_X7_ends rfl rfl rfl (by decide +kernel) ⟨Nat.le_of_ble_eq_true rfl, Nat.le_of_ble_eq_true rfl⟩) (by decide) f85 rfl rfl hl.1 rfl (Nat.le_of_ble_eq_true rfl) dX7_removeLock_11 ⟨Nat.le_of_ble_eq_true rfl, Nat.le_of_ble_eq_true rfl⟩ (fun z u h => h) (fun σ11 H locs hp12 hH => ?_)
  obtain ⟨⟨f85, f86, f87, f90⟩, fr13⟩ := hp12
  refine x_i2c hx hb dX7_removeLock_14 ?_
  have hrg9 := i2cZ_rg (if tT (takeF op lk kp wc pn nw sh wk r c0).1 = 0 then z9_ else 0)
  subst hQ
  exact x_cret hx hb hr hlocks hH (Nat.le_of_ble_eq_true rfl) (Nat.le_of_ble_eq_true rfl) (by omega) (by omega) ⟨(by intro h9; rw [if_pos (tT_0 h9), hz_.2 h9]), ⟨v1_, (f85.trans (by first | rfl | omega | simp_all)), (f86.trans (congrArg (fun g => aI E 87 g) (show (if (tT (takeF op lk kp wc pn nw sh wk r c0).1) = 0 then v1_ else v) = (if tT (takeF op lk kp wc pn nw sh wk r c0).1 = 0 then v1_ else v) from (by first | rfl | omega | simp_all)))), f87, (f90.trans (congrArg (fun g => aI E 696 g) (show (if (tT (takeF op lk kp wc pn nw sh wk r c0).1) = 0 then rmF hF v re else hF) = (if tT (takeF op lk kp wc pn nw sh wk r c0).1 = 0 then rmF hF v re else hF) from (by first | rfl | omega | simp_all)))), (by first | assumption | omega | simp_all)⟩, fun j hj0 hj1 => ((fr13 j (by omega) (by omega)).trans ((fr8 j (by omega)).trans (fr4 j (by omega))))⟩ dX7_removeLock_15

def rm_X7_comes : Room := { frames := 0, cells := 0, slots := 0, locals := 0 }
set_option maxRecDepth 100000 in
set_option maxHeartbeats 4000000 in
theorem c_X7_comes (l : Launch) (E : xE) (ST : xST) (hSF : SF ST) (σ : xW) (w : Int) (ce : Int) (sv : Bool) (re : Int) (ea : Int) (fa : Int) (ty : Int) (li : Int) (th : Int) (sz : Int) (sp : Int) (wr : Int) (to : Int) (v : Int → Int) (hr0 : mo E σ sv re ea fa ty li th sz sp wr to) (hr1 : now E σ v) (hw : 0 ≤ w ∧ w ≤ 2) (hc : 0 ≤ ce ∧ ce ≤ 24) (hvR : ∀ j : Int, rg (v j)) : CV l E ST yX7_comes wsX7_comes rm_X7_comes [.ref (xad E 85), .int (iZ w), .int (iZ ce)] σ (fun (u : xW) => (mo E u sv re ea fa ty li th sz sp wr to ∧ now E u (bmK (ui v (9 + w) ce) w ce 6)) ∧ ∀ j : Nat, j ≠ 86 → u j = σ j) := by
  have f85 : σ 85 = oB 5 [.ref (xad E 86), .ref (xad E 87), .ref (xad E 88), .ref (xad E 89), .ref (xad E 90), .int (iZ (b2 sv)), .int (iZ re), .int (iZ ea), .int (iZ fa), .ref (xad E 91), .ref (xad E 92), .ref (xad E 93), .int (iZ ty), .ref (xad E 94), .int (iZ li), .int (iZ th), .int (iZ sz), .int (iZ sp), .int (iZ wr), .int (iZ to), .ref (xad E 95)] := hr0
  have f86 : σ 86 = aI E 87 v := hr1
  refine CV_of (by decide) rfl (Nat.le_of_ble_eq_true rfl) ?_
  intro p e s m args below meth c Q ls G hH hl hQ
  obtain ⟨hx, hb, hml, hown, hts, hK, hST, hlocks, hr, hno⟩ := G
  have hOK := hSF.1
  have hown : s.vm.findClass RX7 = some m.cls := hown
  have hl : lv_has ls 4 [(0, .ref (xad E 85)), (1, .int (iZ w)), (2, .int (iZ ce))] := hl
  have hinX7 : ∀ w ∈ u_ws RX7 TX7 21, w ∈ wsX7_comes := fun w h => (List.mem_cons_of_mem _ (List.mem_append_right _ h))
  have huR : ∀ j : Int, rg (ui v (9 + w) ce j) := ui_rg hvR (by unfold rg; omega)
  refine lv_aload_n hx hb dX7_comes_0 rfl (lv_at hl 0 rfl) ?_
  refine x_get hx hb hts hown hK hH 85 (by decide) f85 hinX7 rfl 0 (by decide) (List.mem_of_getElem? (i := 1) rfl) rfl dX7_comes_1 ?_
  refine x_bipush hx hb dX7_comes_4 (by decide) ?_
  refine lv_iload_n hx hb dX7_comes_6 rfl (lv_at hl 1 rfl) ?_
  refine x_iadd hx hb dX7_comes_7 ?_
  refine lv_iload_n hx hb dX7_comes_8 rfl (lv_at hl 2 rfl) ?_
  refine x_iast hx hb hK hH 86 (by decide) f86 (by omega) (by omega) (by omega) dX7_comes_9 (fun σ1 H locs f86 fr2 hH => ?_)
  have f85 : σ1 85 = oB 5 [.ref (xad E 86), .ref (xad E 87), .ref (xad E 88), .ref (xad E 89), .ref (xad E 90), .int (iZ (b2 sv)), .int (iZ re), .int (iZ ea), .int (iZ fa), .ref (xad E 91), .ref (xad E 92), .ref (xad E 93), .int (iZ ty), .ref (xad E 94), .int (iZ li), .int (iZ th), .int (iZ sz), .int (iZ sp), .int (iZ wr), .int (iZ to), .ref (xad E 95)] := (fr2 85 (by omega)).trans f85
  refine x_iconst hx hb dX7_comes_10 ?_
  refine lv_istore_n (lv' := [(3, .int (iZ 0)), (0, .ref (xad E 85)), (1, .int (iZ w)), (2, .int (iZ ce))]) hx hb dX7_comes_11 rfl hl (by decide) rfl (fun ls hl => ?_)
  have K12 : ∀ (nK : Nat) (i : Int) (h : Int → Int) (σ3 : xW) (H : Heap) (locs : List Loc) (ls : Array Slot), (6 - i).toNat < nK → (0 ≤ i ∧ i ≤ 6) → (h = bmK (ui v (9 + w) ce) w ce i) → (∀ j : Int, rg (h j)) → σ3 85 = oB 5 [.ref (xad E 86), .ref (xad E 87), .ref (xad E 88), .ref (xad E 89), .ref (xad E 90), .int (iZ (b2 sv)), .int (iZ re), .int (iZ ea), .int (iZ fa), .ref (xad E 91), .ref (xad E 92), .ref (xad E 93), .int (iZ ty), .ref (xad E 94), .int (iZ li), .int (iZ th), .int (iZ sz), .int (iZ sp), .int (iZ wr), .int (iZ to), .ref (xad E 95)] → σ3 86 = aI E 87 h → (∀ j : Nat, j ≠ 86 → σ3 j = σ1 j) → Hx E (xA E s.heap.size) s.heap σ3 H locs → lv_has ls 4 [(3, .int (iZ i)), (0, .ref (xad E 85)), (1, .int (iZ w)), (2, .int (iZ ce))] → W p l e rm_X7_comes s m args below meth c H locs 0 0 Q (F0 m 12 ls []) := by
    intro n12
    induction n12 with
    | zero =>
      intro i h σ3 H locs ls hm
      exact absurd hm (by first | exact Nat.not_lt_zero _ | omega)
    | succ n12 ih12 =>
      intro i h σ3 H locs ls hm12 hi hh hhR f85 f86 fr4 hH hl
      refine lv_iload_n hx hb dX7_comes_12 rfl (lv_at hl 0 rfl) ?_
      refine x_bipush hx hb dX7_comes_13 (by decide) ?_
      refine x_icmp_ge (tgt := 59) hx hb dX7_comes_15 (by decide) (by omega) (by decide) (fun c15 => ?_) (fun c15 => ?_)
      · subst hQ
        exact x_vret hx hb hr hlocks hH (Nat.le_of_ble_eq_true rfl) (Nat.le_of_ble_eq_true rfl) ⟨⟨f85, (f86.trans (congrArg (fun g => aI E 87 g) (show h = (bmK (ui v (9 + w) ce) w ce 6) from (by have e9 : i = 6 := (by omega); rw [hh, e9]))))⟩, fun j hj0 => ((fr4 j (by omega)).trans (fr2 j (by omega)))⟩ dX7_comes_59
      · have hgi : h (3 + i) = ui v (9 + w) ce (3 + i) := (by rw [hh]; exact bmK_at)
        refine lv_aload_n hx hb dX7_comes_18 rfl (lv_at hl 1 rfl) ?_
        refine x_get hx hb hts hown hK hH 85 (by decide) f85 hinX7 rfl 0 (by decide) (List.mem_of_getElem? (i := 1) rfl) rfl dX7_comes_19 ?_
        refine x_iconst hx hb dX7_comes_22 ?_
        refine lv_iload_n hx hb dX7_comes_23 rfl (lv_at hl 0 rfl) ?_
        refine x_iadd hx hb dX7_comes_24 ?_
        refine lv_aload_n hx hb dX7_comes_25 rfl (lv_at hl 1 rfl) ?_
        refine x_get hx hb hts hown hK hH 85 (by decide) f85 hinX7 rfl 0 (by decide) (List.mem_of_getElem? (i := 1) rfl) rfl dX7_comes_26 ?_
        refine x_iconst hx hb dX7_comes_29 ?_
        refine lv_iload_n hx hb dX7_comes_30 rfl (lv_at hl 0 rfl) ?_
        refine x_iadd hx hb dX7_comes_31 ?_
        refine x_iald hx hb hK hH 86 (by decide) f86 (by omega) (by omega) (by omega) dX7_comes_32 ?_
        have hv5 := hhR (3 + i)
        refine lv_iload_n hx hb dX7_comes_33 rfl (lv_at hl 3 rfl) ?_
        refine x_icmp_ne (tgt := 44) hx hb dX7_comes_34 (by decide) (by omega) (by omega) (fun c34 => ?_) (fun c34 => ?_)
        · refine lv_aload_n hx hb dX7_comes_44 rfl (lv_at hl 1 rfl) ?_
          refine x_get hx hb hts hown hK hH 85 (by decide) f85 hinX7 rfl 0 (by decide) (List.mem_of_getElem? (i := 1) rfl) rfl dX7_comes_45 ?_
          refine x_iconst hx hb dX7_comes_48 ?_
          refine lv_iload_n hx hb dX7_comes_49 rfl (lv_at hl 0 rfl) ?_
          refine x_iadd hx hb dX7_comes_50 ?_
          refine x_iald hx hb hK hH 86 (by decide) f86 (by omega) (by omega) (by omega) dX7_comes_51 ?_
          have hv6 := hhR (3 + i)
          refine x_iast hx hb hK hH 86 (by decide) f86 (by omega) (by omega) (by omega) dX7_comes_52 (fun σ7 H locs f86 fr8 hH => ?_)
          have f85 : σ7 85 = oB 5 [.ref (xad E 86), .ref (xad E 87), .ref (xad E 88), .ref (xad E 89), .ref (xad E 90), .int (iZ (b2 sv)), .int (iZ re), .int (iZ ea), .int (iZ fa), .ref (xad E 91), .ref (xad E 92), .ref (xad E 93), .int (iZ ty), .ref (xad E 94), .int (iZ li), .int (iZ th), .int (iZ sz), .int (iZ sp), .int (iZ wr), .int (iZ to), .ref (xad E 95)] := (fr8 85 (by omega)).trans f85
          refine x_iinc (lv' := [(3, .int (iZ (i + 1))), (0, .ref (xad E 85)), (1, .int (iZ w)), (2, .int (iZ ce))]) hx hb dX7_comes_53 hl (k := 0) rfl (by decide) rfl (fun ls hl => ?_)
          refine lv_goto (tgt := 12) hx hb dX7_comes_56 (by decide) ?_
          exact ih12 (i + 1) (ui h (3 + i) (h (3 + i))) σ7 _ _ _ (by omega) (by omega) (by rw [hgi] at c34; rw [hh] at hgi; rw [hh]; first | exact bmK_t (by omega) c34 | (rw [hgi]; exact bmK_f (by omega) c34)) (by refine ui_rg hhR ?_; first | exact hhR _ | (unfold rg; omega)) f85 f86 (fun j hj0 => ((fr8 j (by omega)).trans (fr4 j (by omega)))) hH (lv_sub hl [0, 1, 2, 3] rfl)
        · refine x_bipush hx hb dX7_comes_37 (by decide) ?_
          refine lv_iload_n hx hb dX7_comes_39 rfl (lv_at hl 2 rfl) ?_
          refine x_iadd hx hb dX7_comes_40 ?_
          refine lv_goto (tgt := 52) hx hb dX7_comes_41 (by decide) ?_
          refine x_iast hx hb hK hH 86 (by decide) f86 (by omega) (by omega) (by omega) dX7_comes_52 (fun σ9 H locs f86 fr10 hH => ?_)
          have f85 : σ9 85 = oB 5 [.ref (xad E 86), .ref (xad E 87), .ref (xad E 88), .ref (xad E 89), .ref (xad E 90), .int (iZ (b2 sv)), .int (iZ re), .int (iZ ea), .int (iZ fa), .ref (xad E 91), .ref (xad E 92), .ref (xad E 93), .int (iZ ty), .ref (xad E 94), .int (iZ li), .int (iZ th), .int (iZ sz), .int (iZ sp), .int (iZ wr), .int (iZ to), .ref (xad E 95)] := (fr10 85 (by omega)).trans f85
          refine x_iinc (lv' := [(3, .int (iZ (i + 1))), (0, .ref (xad E 85)), (1, .int (iZ w)), (2, .int (iZ ce))]) hx hb dX7_comes_53 hl (k := 0) rfl (by decide) rfl (fun ls hl => ?_)
          refine lv_goto (tgt := 12) hx hb dX7_comes_56 (by decide) ?_
          exact ih12 (i + 1) (ui h (3 + i) (100 + w)) σ9 _ _ _ (by omega) (by omega) (by rw [hgi] at c34; rw [hh] at hgi; rw [hh]; first | exact bmK_t (by omega) c34 | (rw [hgi]; exact bmK_f (by omega) c34)) (by refine ui_rg hhR ?_; first | exact hhR _ | (unfold rg; omega)) f85 f86 (fun j hj0 => ((fr10 j (by omega)).trans (fr4 j (by omega)))) hH (lv_sub hl [0, 1, 2, 3] rfl)
  exact K12 7 0 (ui v (9 + w) ce) σ1 _ _ _ (by first | omega | decide) (by omega) (by exact bmK_0.symm) (by exact huR) f85 f86 (fun j _ => rfl) hH (lv_sub hl [0, 1, 2, 3] rfl)

def rm_X7_enters : Room := { frames := 4, cells := 0, slots := 0, locals := 84 }
set_option maxRecDepth 100000 in
set_option maxHeartbeats 4000000 in
theorem c_X7_enters (l : Launch) (E : xE) (ST : xST) (hSF : SF ST) (σ : xW) (r : Int) (c0 : Int) (op : Int → Int) (lk : Int → Int) (kp : Int → Int) (wc : Int → Int) (pn : Int) (nw : Int) (sh : Int) (wk : Int) (sv : Bool) (re : Int) (ea : Int) (fa : Int) (ty : Int) (li : Int) (th : Int) (sz : Int) (sp : Int) (wr : Int) (to : Int) (v : Int → Int) (hr0 : mo E σ sv re ea fa ty li th sz sp wr to) (hr1 : now E σ v) (hC : Cp v op lk kp wc pn nw sh wk) (hB : BI op lk kp wc pn nw) (hr9 : rg r) (hc9 : rg c0) : CI l E ST yX7_enters wsX7_enters rm_X7_enters [.ref (xad E 85), .int (iZ r), .int (iZ c0)] σ (fun (z : Int) (u : xW) => (rg z ∧ (0 ≤ (enterF op lk kp wc pn nw sh wk r c0).1 → z = (enterF op lk kp wc pn nw sh wk r c0).1)) ∧ (∃ (v1 : Int → Int), mo E u sv re ea fa ty li (tE (enterF op lk kp wc pn nw sh wk r c0).1) sz sp wr to ∧ now E u v1 ∧ (CpT v1 (enterF op lk kp wc pn nw sh wk r c0).2)) ∧ ∀ j : Nat, (j < 85 ∨ 85 + 2 ≤ j) → u j = σ j) := by
  have f85 : σ 85 = oB 5 [.ref (xad E 86), .ref (xad E 87), .ref (xad E 88), .ref (xad E 89), .ref (xad E 90), .int (iZ (b2 sv)), .int (iZ re), .int (iZ ea), .int (iZ fa), .ref (xad E 91), .ref (xad E 92), .ref (xad E 93), .int (iZ ty), .ref (xad E 94), .int (iZ li), .int (iZ th), .int (iZ sz), .int (iZ sp), .int (iZ wr), .int (iZ to), .ref (xad E 95)] := hr0
  have f86 : σ 86 = aI E 87 v := hr1
  refine CI_of (by decide) rfl (Nat.le_of_ble_eq_true rfl) ?_
  intro p e s m args below meth c Q ls G hH hl hQ
  obtain ⟨hx, hb, hml, hown, hts, hK, hST, hlocks, hr, hno⟩ := G
  have hOK := hSF.1
  have hown : s.vm.findClass RX7 = some m.cls := hown
  have hl : lv_has ls 4 [(0, .ref (xad E 85)), (1, .int (iZ r)), (2, .int (iZ c0))] := hl
  have hinX7 : ∀ w ∈ u_ws RX7 TX7 21, w ∈ wsX7_enters := fun w h => (List.mem_cons_of_mem _ (List.mem_append_right _ h))
  obtain ⟨hop, hlk, hkp, hwc, hpn, hnw⟩ := id hB
  have hvR := hC.R
  have hv0 := hC.1.1
  have hcz := cellZ_rg (r := r) (c := c0)
  refine lv_iload_n hx hb dX7_enters_0 rfl (lv_at hl 1 rfl) ?_
  refine lv_iload_n hx hb dX7_enters_1 rfl (lv_at hl 2 rfl) ?_
  refine x_cSID (As := [.int (iZ r), .int (iZ c0)]) (rest := []) hx hb hml hts hown hK hST hOK hH (c_X7_cellAt l E ST hSF σ r c0  (by omega) (by omega)) (va_cwS 2 hts gX7_enters_X7_cellAt rfl rfl rfl (by decide +kernel) ⟨Nat.le_of_ble_eq_true rfl, Nat.le_of_ble_eq_true rfl⟩) rfl hl.1 rfl (Nat.le_of_ble_eq_true rfl) dX7_enters_2 ⟨Nat.le_of_ble_eq_true rfl, Nat.le_of_ble_eq_true rfl⟩ (fun z u h => h) (fun H locs hH => ?_)
  refine lv_istore_n (lv' := [(3, .int (iZ (cellZ r c0))), (0, .ref (xad E 85)), (1, .int (iZ r)), (2, .int (iZ c0))]) hx hb dX7_enters_5 rfl hl (by decide) rfl (fun ls hl => ?_)
  refine lv_aload_n hx hb dX7_enters_6 rfl (lv_at hl 1 rfl) ?_
  refine lv_iload_n hx hb dX7_enters_7 rfl (lv_at hl 2 rfl) ?_
  refine lv_iload_n hx hb dX7_enters_8 rfl (lv_at hl 3 rfl) ?_
  refine x_cSID (As := [.int (iZ r), .int (iZ c0)]) (rest := [.ref (xad E 85)]) hx hb hml hts hown hK hST hOK hH (c_X7_isCell l E ST hSF σ r c0  (by omega) (by omega)) (va_cwS 2 hts gX7_enters_X7_isCell rfl rfl rfl (by decide +kernel) ⟨Nat.le_of_ble_eq_true rfl, Nat.le_of_ble_eq_true rfl⟩) rfl hl.1 rfl (Nat.le_of_ble_eq_true rfl) dX7_enters_9 ⟨Nat.le_of_ble_eq_true rfl, Nat.le_of_ble_eq_true rfl⟩ (fun z u h => h) (fun H locs hH => ?_)
  refine lv_aload_n hx hb dX7_enters_12 rfl (lv_at hl 1 rfl) ?_
  refine x_get hx hb hts hown hK hH 85 (by decide) f85 hinX7 rfl 0 (by decide) (List.mem_of_getElem? (i := 1) rfl) rfl dX7_enters_13 ?_
  refine x_iconst hx hb dX7_enters_16 ?_
  refine x_iald hx hb hK hH 86 (by decide) f86 (by omega) (by omega) (by omega) dX7_enters_17 ?_
  have hv7 := hvR 0
  refine x_iconst hx hb dX7_enters_18 ?_
  refine x_icmp_ge (tgt := 26) hx hb dX7_enters_19 (by decide) (by omega) (by decide) (fun c19 => ?_) (fun c19 => ?_)
  · refine x_iconst hx hb dX7_enters_26 ?_
    refine lv_aload_n hx hb dX7_enters_27 rfl (lv_at hl 1 rfl) ?_
    refine lv_iload_n hx hb dX7_enters_28 rfl (lv_at hl 0 rfl) ?_
    refine x_iconst hx hb dX7_enters_29 ?_
    refine x_cVID (As := [.int (iZ (cellZ r c0)), .int (iZ 2)]) (rest := [.int (iZ 0), .int (iZ (b2 (decide ((0 ≤ r ∧ r ≤ 4) ∧ (0 ≤ c0 ∧ c0 ≤ 4))))), .ref (xad E 85)]) hx hb hml hts hown hK hST hOK hH 85 (c_X7_of l E ST hSF σ (cellZ r c0) 2 sv re ea fa ty li th sz sp wr to v f85 f86 (by omega) (by omega)) (cwV 2 hts gX7_enters_X7_of rfl rfl rfl (by decide +kernel) ⟨Nat.le_of_ble_eq_true rfl, Nat.le_of_ble_eq_true rfl⟩) (by decide) f85 rfl rfl hl.1 rfl (Nat.le_of_ble_eq_true rfl) dX7_enters_30 ⟨Nat.le_of_ble_eq_true rfl, Nat.le_of_ble_eq_true rfl⟩ (fun z u h => h) (fun H locs hH => ?_)
    rw [hC.a2 (c := cellZ r c0) (by omega) (by omega)]
    have hv11 := hlk (cellZ r c0)
    refine x_iconst hx hb dX7_enters_33 ?_
    refine x_icmp_ne (tgt := 41) hx hb dX7_enters_34 (by decide) (by omega) (by decide) (fun c34 => ?_) (fun c34 => ?_)
    · refine x_iconst hx hb dX7_enters_41 ?_
      refine x_cVIE (As := [.int (iZ (b2 (decide ((0 ≤ r ∧ r ≤ 4) ∧ (0 ≤ c0 ∧ c0 ≤ 4))))), .int (iZ 0), .int (iZ 0)]) (rest := []) hx hb hml hts hown hK hST hOK hH 85 (c_X7_holds l E ST hSF σ (decide ((0 ≤ r ∧ r ≤ 4) ∧ (0 ≤ c0 ∧ c0 ≤ 4))) false false sv re ea fa ty li th sz sp wr to f85 ) (cwV 3 hts gX7_enters_X7_holds rfl rfl rfl (by decide +kernel) ⟨Nat.le_of_ble_eq_true rfl, Nat.le_of_ble_eq_true rfl⟩) (by decide) f85 rfl rfl hl.1 rfl (Nat.le_of_ble_eq_true rfl) dX7_enters_42 ⟨Nat.le_of_ble_eq_true rfl, Nat.le_of_ble_eq_true rfl⟩ (fun z u h => h) (fun σ13 H locs hp14 hH => ?_)
      obtain ⟨f85, fr15⟩ := hp14
      have f86 : σ13 86 = aI E 87 v := (fr15 86 (by omega)).trans f86
      refine x_ifb_ne (tgt := 50) hx hb dX7_enters_45 (by decide) (fun c45 => ?_) (fun c45 => ?_)
      · obtain ⟨hn3, hy9⟩ := enter_y (op := op) (lk := lk) (kp := kp) (wc := wc) (pn := pn) (nw := nw) (sh := sh) (wk := wk) (by simp; omega) (by simp [c34]) c45
        have hC2 := Cp_br (w := nw) (cell := cellZ r c0) (Cp_nw hC (x := cellZ r c0) (by omega) (by unfold rg; omega)) (by omega) (by omega) hcz
        refine lv_aload_n hx hb dX7_enters_50 rfl (lv_at hl 1 rfl) ?_
        refine x_get hx hb hts hown hK hH 85 (by decide) f85 hinX7 rfl 0 (by decide) (List.mem_of_getElem? (i := 1) rfl) rfl dX7_enters_51 ?_
        refine x_iconst hx hb dX7_enters_54 ?_
        refine lv_dup2_11 hx hb dX7_enters_55 rfl rfl ?_
        refine x_iald hx hb hK hH 86 (by decide) f86 (by omega) (by omega) (by omega) dX7_enters_56 ?_
        have hv17 := hvR 0
        refine x_iconst hx hb dX7_enters_57 ?_
        refine x_iadd hx hb dX7_enters_58 ?_
        refine x_iast hx hb hK hH 86 (by decide) f86 (by omega) (by omega) (by omega) dX7_enters_59 (fun σ18 H locs f86 fr19 hH => ?_)
        have f85 : σ18 85 = oB 5 [.ref (xad E 86), .ref (xad E 87), .ref (xad E 88), .ref (xad E 89), .ref (xad E 90), .int (iZ (b2 sv)), .int (iZ re), .int (iZ ea), .int (iZ fa), .ref (xad E 91), .ref (xad E 92), .ref (xad E 93), .int (iZ ty), .ref (xad E 94), .int (iZ li), .int (iZ (thZ (decide ((0 ≤ r ∧ r ≤ 4) ∧ (0 ≤ c0 ∧ c0 ≤ 4))) false false)), .int (iZ sz), .int (iZ sp), .int (iZ wr), .int (iZ to), .ref (xad E 95)] := (fr19 85 (by omega)).trans f85
        obtain ⟨σ20, f86, fr21, hH⟩ := x_normE (g := ui v 0 (nw + 1)) 86 (by decide) f86 (by intro j h0 h1; rw [hv0]) hH
        have f85 : σ20 85 = oB 5 [.ref (xad E 86), .ref (xad E 87), .ref (xad E 88), .ref (xad E 89), .ref (xad E 90), .int (iZ (b2 sv)), .int (iZ re), .int (iZ ea), .int (iZ fa), .ref (xad E 91), .ref (xad E 92), .ref (xad E 93), .int (iZ ty), .ref (xad E 94), .int (iZ li), .int (iZ (thZ (decide ((0 ≤ r ∧ r ≤ 4) ∧ (0 ≤ c0 ∧ c0 ≤ 4))) false false)), .int (iZ sz), .int (iZ sp), .int (iZ wr), .int (iZ to), .ref (xad E 95)] := (fr21 85 (by omega)).trans f85
        refine lv_aload_n hx hb dX7_enters_60 rfl (lv_at hl 1 rfl) ?_
        refine lv_aload_n hx hb dX7_enters_61 rfl (lv_at hl 1 rfl) ?_
        refine x_get hx hb hts hown hK hH 85 (by decide) f85 hinX7 rfl 0 (by decide) (List.mem_of_getElem? (i := 1) rfl) rfl dX7_enters_62 ?_
        refine x_iconst hx hb dX7_enters_65 ?_
        refine x_iald hx hb hK hH 86 (by decide) f86 (by omega) (by omega) (by omega) dX7_enters_66 ?_
        rw [show ui v 0 (nw + 1) 0 = nw + 1 from ui_s]
        refine x_iconst hx hb dX7_enters_67 ?_
        refine x_isub hx hb dX7_enters_68 ?_
        refine lv_iload_n hx hb dX7_enters_69 rfl (lv_at hl 0 rfl) ?_
        refine x_cVV (As := [.int (iZ ((nw + 1) - 1)), .int (iZ (cellZ r c0))]) (rest := []) hx hb hml hts hown hK hST hOK hH 85 (c_X7_comes l E ST hSF σ20 ((nw + 1) - 1) (cellZ r c0) sv re ea fa ty li (thZ (decide ((0 ≤ r ∧ r ≤ 4) ∧ (0 ≤ c0 ∧ c0 ≤ 4))) false false) sz sp wr to (ui v 0 (nw + 1)) f85 f86 (by omega) (by omega) (ui_rg hvR (by unfold rg; omega))) (cwV 2 hts gX7_enters_X7_comes rfl rfl rfl (by decide +kernel) ⟨Nat.le_of_ble_eq_true rfl, Nat.le_of_ble_eq_true rfl⟩) (by decide) f85 rfl rfl hl.1 rfl (Nat.le_of_ble_eq_true rfl) dX7_enters_70 ⟨Nat.le_of_ble_eq_true rfl, Nat.le_of_ble_eq_true rfl⟩ (fun σ23 H locs hp24 hH => ?_)
        obtain ⟨⟨f85, f86⟩, fr25⟩ := hp24
        obtain ⟨σ27, f86, fr28, hH⟩ := x_normE (g := bmK (ui (ui v 0 (nw + 1)) (9 + nw) (cellZ r c0)) nw (cellZ r c0) 6) 86 (by decide) f86 (by intro j h0 h1; rw [show nw + 1 - 1 = nw by omega]) hH
        have f85 : σ27 85 = oB 5 [.ref (xad E 86), .ref (xad E 87), .ref (xad E 88), .ref (xad E 89), .ref (xad E 90), .int (iZ (b2 sv)), .int (iZ re), .int (iZ ea), .int (iZ fa), .ref (xad E 91), .ref (xad E 92), .ref (xad E 93), .int (iZ ty), .ref (xad E 94), .int (iZ li), .int (iZ (thZ (decide ((0 ≤ r ∧ r ≤ 4) ∧ (0 ≤ c0 ∧ c0 ≤ 4))) false false)), .int (iZ sz), .int (iZ sp), .int (iZ wr), .int (iZ to), .ref (xad E 95)] := (fr28 85 (by omega)).trans f85
        refine lv_aload_n hx hb dX7_enters_73 rfl (lv_at hl 1 rfl) ?_
        refine x_get hx hb hts hown hK hH 85 (by decide) f85 hinX7 rfl 0 (by decide) (List.mem_of_getElem? (i := 1) rfl) rfl dX7_enters_74 ?_
        refine x_iconst hx hb dX7_enters_77 ?_
        refine x_iald hx hb hK hH 86 (by decide) f86 (by omega) (by omega) (by omega) dX7_enters_78 ?_
        refine x_iconst hx hb dX7_enters_79 ?_
        refine x_isub hx hb dX7_enters_80 ?_
        subst hQ
        exact x_iret hx hb hr hlocks hH (Nat.le_of_ble_eq_true rfl) (Nat.le_of_ble_eq_true rfl) ⟨(by first | exact rs_ok hy9 (by rw [hC2.1.1]; omega) ⟨by omega, by omega⟩ | exact rs_no (enter_n (by simp; omega) (by simp [c34]) c45)), ⟨(bmK (ui (ui v 0 (nw + 1)) (9 + nw) (cellZ r c0)) nw (cellZ r c0) 6), (f85.trans (by rw [enter_th (op := op) (lk := lk) (kp := kp) (wc := wc) (pn := pn) (nw := nw) (sh := sh) (wk := wk) hnw.1 (by simp; omega) (by simp [c34])])), f86, (by first | exact cp_ok hC2 hy9 | exact cp_no hC (enter_n (by simp; omega) (by simp [c34]) c45))⟩, fun j hj0 => ((fr28 j (by omega)).trans ((fr25 j (by omega)).trans ((fr21 j (by omega)).trans ((fr19 j (by omega)).trans (fr15 j (by omega))))))⟩ dX7_enters_81
      · refine x_iconst hx hb dX7_enters_48 ?_
        subst hQ
        exact x_iret hx hb hr hlocks hH (Nat.le_of_ble_eq_true rfl) (Nat.le_of_ble_eq_true rfl) ⟨(by first | exact rs_ok hy9 (by rw [hC2.1.1]; omega) ⟨by omega, by omega⟩ | exact rs_no (enter_n (by simp; omega) (by simp [c34]) c45)), ⟨v, (f85.trans (by rw [enter_th (op := op) (lk := lk) (kp := kp) (wc := wc) (pn := pn) (nw := nw) (sh := sh) (wk := wk) hnw.1 (by simp; omega) (by simp [c34])])), f86, (by first | exact cp_ok hC2 hy9 | exact cp_no hC (enter_n (by simp; omega) (by simp [c34]) c45))⟩, fun j hj0 => (fr15 j (by omega))⟩ dX7_enters_49
    · refine x_iconst hx hb dX7_enters_37 ?_
      refine lv_goto (tgt := 42) hx hb dX7_enters_38 (by decide) ?_
      refine x_cVIE (As := [.int (iZ (b2 (decide ((0 ≤ r ∧ r ≤ 4) ∧ (0 ≤ c0 ∧ c0 ≤ 4))))), .int (iZ 0), .int (iZ 1)]) (rest := []) hx hb hml hts hown hK hST hOK hH 85 (c_X7_holds l E ST hSF σ (decide ((0 ≤ r ∧ r ≤ 4) ∧ (0 ≤ c0 ∧ c0 ≤ 4))) false true sv re ea fa ty li th sz sp wr to f85 ) (cwV 3 hts gX7_enters_X7_holds rfl rfl rfl (by decide +kernel) ⟨Nat.le_of_ble_eq_true rfl, Nat.le_of_ble_eq_true rfl⟩) (by decide) f85 rfl rfl hl.1 rfl (Nat.le_of_ble_eq_true rfl) dX7_enters_42 ⟨Nat.le_of_ble_eq_true rfl, Nat.le_of_ble_eq_true rfl⟩ (fun z u h => h) (fun σ30 H locs hp31 hH => ?_)
      obtain ⟨f85, fr32⟩ := hp31
      have f86 : σ30 86 = aI E 87 v := (fr32 86 (by omega)).trans f86
      refine x_ifb_ne (tgt := 50) hx hb dX7_enters_45 (by decide) (fun c45 => ?_) (fun c45 => ?_)
      · obtain ⟨hn3, hy9⟩ := enter_y (op := op) (lk := lk) (kp := kp) (wc := wc) (pn := pn) (nw := nw) (sh := sh) (wk := wk) (by simp; omega) (by simp [c34]) c45
        have hC2 := Cp_br (w := nw) (cell := cellZ r c0) (Cp_nw hC (x := cellZ r c0) (by omega) (by unfold rg; omega)) (by omega) (by omega) hcz
        refine lv_aload_n hx hb dX7_enters_50 rfl (lv_at hl 1 rfl) ?_
        refine x_get hx hb hts hown hK hH 85 (by decide) f85 hinX7 rfl 0 (by decide) (List.mem_of_getElem? (i := 1) rfl) rfl dX7_enters_51 ?_
        refine x_iconst hx hb dX7_enters_54 ?_
        refine lv_dup2_11 hx hb dX7_enters_55 rfl rfl ?_
        refine x_iald hx hb hK hH 86 (by decide) f86 (by omega) (by omega) (by omega) dX7_enters_56 ?_
        have hv34 := hvR 0
        refine x_iconst hx hb dX7_enters_57 ?_
        refine x_iadd hx hb dX7_enters_58 ?_
        refine x_iast hx hb hK hH 86 (by decide) f86 (by omega) (by omega) (by omega) dX7_enters_59 (fun σ35 H locs f86 fr36 hH => ?_)
        have f85 : σ35 85 = oB 5 [.ref (xad E 86), .ref (xad E 87), .ref (xad E 88), .ref (xad E 89), .ref (xad E 90), .int (iZ (b2 sv)), .int (iZ re), .int (iZ ea), .int (iZ fa), .ref (xad E 91), .ref (xad E 92), .ref (xad E 93), .int (iZ ty), .ref (xad E 94), .int (iZ li), .int (iZ (thZ (decide ((0 ≤ r ∧ r ≤ 4) ∧ (0 ≤ c0 ∧ c0 ≤ 4))) false true)), .int (iZ sz), .int (iZ sp), .int (iZ wr), .int (iZ to), .ref (xad E 95)] := (fr36 85 (by omega)).trans f85
        obtain ⟨σ37, f86, fr38, hH⟩ := x_normE (g := ui v 0 (nw + 1)) 86 (by decide) f86 (by intro j h0 h1; rw [hv0]) hH
        have f85 : σ37 85 = oB 5 [.ref (xad E 86), .ref (xad E 87), .ref (xad E 88), .ref (xad E 89), .ref (xad E 90), .int (iZ (b2 sv)), .int (iZ re), .int (iZ ea), .int (iZ fa), .ref (xad E 91), .ref (xad E 92), .ref (xad E 93), .int (iZ ty), .ref (xad E 94), .int (iZ li), .int (iZ (thZ (decide ((0 ≤ r ∧ r ≤ 4) ∧ (0 ≤ c0 ∧ c0 ≤ 4))) false true)), .int (iZ sz), .int (iZ sp), .int (iZ wr), .int (iZ to), .ref (xad E 95)] := (fr38 85 (by omega)).trans f85
        refine lv_aload_n hx hb dX7_enters_60 rfl (lv_at hl 1 rfl) ?_
        refine lv_aload_n hx hb dX7_enters_61 rfl (lv_at hl 1 rfl) ?_
        refine x_get hx hb hts hown hK hH 85 (by decide) f85 hinX7 rfl 0 (by decide) (List.mem_of_getElem? (i := 1) rfl) rfl dX7_enters_62 ?_
        refine x_iconst hx hb dX7_enters_65 ?_
        refine x_iald hx hb hK hH 86 (by decide) f86 (by omega) (by omega) (by omega) dX7_enters_66 ?_
        rw [show ui v 0 (nw + 1) 0 = nw + 1 from ui_s]
        refine x_iconst hx hb dX7_enters_67 ?_
        refine x_isub hx hb dX7_enters_68 ?_
        refine lv_iload_n hx hb dX7_enters_69 rfl (lv_at hl 0 rfl) ?_
        refine x_cVV (As := [.int (iZ ((nw + 1) - 1)), .int (iZ (cellZ r c0))]) (rest := []) hx hb hml hts hown hK hST hOK hH 85 (c_X7_comes l E ST hSF σ37 ((nw + 1) - 1) (cellZ r c0) sv re ea fa ty li (thZ (decide ((0 ≤ r ∧ r ≤ 4) ∧ (0 ≤ c0 ∧ c0 ≤ 4))) false true) sz sp wr to (ui v 0 (nw + 1)) f85 f86 (by omega) (by omega) (ui_rg hvR (by unfold rg; omega))) (cwV 2 hts gX7_enters_X7_comes rfl rfl rfl (by decide +kernel) ⟨Nat.le_of_ble_eq_true rfl, Nat.le_of_ble_eq_true rfl⟩) (by decide) f85 rfl rfl hl.1 rfl (Nat.le_of_ble_eq_true rfl) dX7_enters_70 ⟨Nat.le_of_ble_eq_true rfl, Nat.le_of_ble_eq_true rfl⟩ (fun σ40 H locs hp41 hH => ?_)
        obtain ⟨⟨f85, f86⟩, fr42⟩ := hp41
        obtain ⟨σ44, f86, fr45, hH⟩ := x_normE (g := bmK (ui (ui v 0 (nw + 1)) (9 + nw) (cellZ r c0)) nw (cellZ r c0) 6) 86 (by decide) f86 (by intro j h0 h1; rw [show nw + 1 - 1 = nw by omega]) hH
        have f85 : σ44 85 = oB 5 [.ref (xad E 86), .ref (xad E 87), .ref (xad E 88), .ref (xad E 89), .ref (xad E 90), .int (iZ (b2 sv)), .int (iZ re), .int (iZ ea), .int (iZ fa), .ref (xad E 91), .ref (xad E 92), .ref (xad E 93), .int (iZ ty), .ref (xad E 94), .int (iZ li), .int (iZ (thZ (decide ((0 ≤ r ∧ r ≤ 4) ∧ (0 ≤ c0 ∧ c0 ≤ 4))) false true)), .int (iZ sz), .int (iZ sp), .int (iZ wr), .int (iZ to), .ref (xad E 95)] := (fr45 85 (by omega)).trans f85
        refine lv_aload_n hx hb dX7_enters_73 rfl (lv_at hl 1 rfl) ?_
        refine x_get hx hb hts hown hK hH 85 (by decide) f85 hinX7 rfl 0 (by decide) (List.mem_of_getElem? (i := 1) rfl) rfl dX7_enters_74 ?_
        refine x_iconst hx hb dX7_enters_77 ?_
        refine x_iald hx hb hK hH 86 (by decide) f86 (by omega) (by omega) (by omega) dX7_enters_78 ?_
        refine x_iconst hx hb dX7_enters_79 ?_
        refine x_isub hx hb dX7_enters_80 ?_
        subst hQ
        exact x_iret hx hb hr hlocks hH (Nat.le_of_ble_eq_true rfl) (Nat.le_of_ble_eq_true rfl) ⟨(by first | exact rs_ok hy9 (by rw [hC2.1.1]; omega) ⟨by omega, by omega⟩ | exact rs_no (enter_n (by simp; omega) (by simp [c34]) c45)), ⟨(bmK (ui (ui v 0 (nw + 1)) (9 + nw) (cellZ r c0)) nw (cellZ r c0) 6), (f85.trans (by rw [enter_th (op := op) (lk := lk) (kp := kp) (wc := wc) (pn := pn) (nw := nw) (sh := sh) (wk := wk) hnw.1 (by simp; omega) (by simp [c34])])), f86, (by first | exact cp_ok hC2 hy9 | exact cp_no hC (enter_n (by simp; omega) (by simp [c34]) c45))⟩, fun j hj0 => ((fr45 j (by omega)).trans ((fr42 j (by omega)).trans ((fr38 j (by omega)).trans ((fr36 j (by omega)).trans (fr32 j (by omega))))))⟩ dX7_enters_81
      · refine x_iconst hx hb dX7_enters_48 ?_
        subst hQ
        exact x_iret hx hb hr hlocks hH (Nat.le_of_ble_eq_true rfl) (Nat.le_of_ble_eq_true rfl) ⟨(by first | exact rs_ok hy9 (by rw [hC2.1.1]; omega) ⟨by omega, by omega⟩ | exact rs_no (enter_n (by simp; omega) (by simp [c34]) c45)), ⟨v, (f85.trans (by rw [enter_th (op := op) (lk := lk) (kp := kp) (wc := wc) (pn := pn) (nw := nw) (sh := sh) (wk := wk) hnw.1 (by simp; omega) (by simp [c34])])), f86, (by first | exact cp_ok hC2 hy9 | exact cp_no hC (enter_n (by simp; omega) (by simp [c34]) c45))⟩, fun j hj0 => (fr32 j (by omega))⟩ dX7_enters_49
  · refine x_iconst hx hb dX7_enters_22 ?_
    refine lv_goto (tgt := 27) hx hb dX7_enters_23 (by decide) ?_
    refine lv_aload_n hx hb dX7_enters_27 rfl (lv_at hl 1 rfl) ?_
    refine lv_iload_n hx hb dX7_enters_28 rfl (lv_at hl 0 rfl) ?_
    refine x_iconst hx hb dX7_enters_29 ?_
    refine x_cVID (As := [.int (iZ (cellZ r c0)), .int (iZ 2)]) (rest := [.int (iZ 1), .int (iZ (b2 (decide ((0 ≤ r ∧ r ≤ 4) ∧ (0 ≤ c0 ∧ c0 ≤ 4))))), .ref (xad E 85)]) hx hb hml hts hown hK hST hOK hH 85 (c_X7_of l E ST hSF σ (cellZ r c0) 2 sv re ea fa ty li th sz sp wr to v f85 f86 (by omega) (by omega)) (cwV 2 hts gX7_enters_X7_of rfl rfl rfl (by decide +kernel) ⟨Nat.le_of_ble_eq_true rfl, Nat.le_of_ble_eq_true rfl⟩) (by decide) f85 rfl rfl hl.1 rfl (Nat.le_of_ble_eq_true rfl) dX7_enters_30 ⟨Nat.le_of_ble_eq_true rfl, Nat.le_of_ble_eq_true rfl⟩ (fun z u h => h) (fun H locs hH => ?_)
    rw [hC.a2 (c := cellZ r c0) (by omega) (by omega)]
    have hv49 := hlk (cellZ r c0)
    refine x_iconst hx hb dX7_enters_33 ?_
    refine x_icmp_ne (tgt := 41) hx hb dX7_enters_34 (by decide) (by omega) (by decide) (fun c34 => ?_) (fun c34 => ?_)
    · refine x_iconst hx hb dX7_enters_41 ?_
      refine x_cVIE (As := [.int (iZ (b2 (decide ((0 ≤ r ∧ r ≤ 4) ∧ (0 ≤ c0 ∧ c0 ≤ 4))))), .int (iZ 1), .int (iZ 0)]) (rest := []) hx hb hml hts hown hK hST hOK hH 85 (c_X7_holds l E ST hSF σ (decide ((0 ≤ r ∧ r ≤ 4) ∧ (0 ≤ c0 ∧ c0 ≤ 4))) true false sv re ea fa ty li th sz sp wr to f85 ) (cwV 3 hts gX7_enters_X7_holds rfl rfl rfl (by decide +kernel) ⟨Nat.le_of_ble_eq_true rfl, Nat.le_of_ble_eq_true rfl⟩) (by decide) f85 rfl rfl hl.1 rfl (Nat.le_of_ble_eq_true rfl) dX7_enters_42 ⟨Nat.le_of_ble_eq_true rfl, Nat.le_of_ble_eq_true rfl⟩ (fun z u h => h) (fun σ51 H locs hp52 hH => ?_)
      obtain ⟨f85, fr53⟩ := hp52
      have f86 : σ51 86 = aI E 87 v := (fr53 86 (by omega)).trans f86
      refine x_ifb_ne (tgt := 50) hx hb dX7_enters_45 (by decide) (fun c45 => ?_) (fun c45 => ?_)
      · obtain ⟨hn3, hy9⟩ := enter_y (op := op) (lk := lk) (kp := kp) (wc := wc) (pn := pn) (nw := nw) (sh := sh) (wk := wk) (by simp; omega) (by simp [c34]) c45
        have hC2 := Cp_br (w := nw) (cell := cellZ r c0) (Cp_nw hC (x := cellZ r c0) (by omega) (by unfold rg; omega)) (by omega) (by omega) hcz
        refine lv_aload_n hx hb dX7_enters_50 rfl (lv_at hl 1 rfl) ?_
        refine x_get hx hb hts hown hK hH 85 (by decide) f85 hinX7 rfl 0 (by decide) (List.mem_of_getElem? (i := 1) rfl) rfl dX7_enters_51 ?_
        refine x_iconst hx hb dX7_enters_54 ?_
        refine lv_dup2_11 hx hb dX7_enters_55 rfl rfl ?_
        refine x_iald hx hb hK hH 86 (by decide) f86 (by omega) (by omega) (by omega) dX7_enters_56 ?_
        have hv55 := hvR 0
        refine x_iconst hx hb dX7_enters_57 ?_
        refine x_iadd hx hb dX7_enters_58 ?_
        refine x_iast hx hb hK hH 86 (by decide) f86 (by omega) (by omega) (by omega) dX7_enters_59 (fun σ56 H locs f86 fr57 hH => ?_)
        have f85 : σ56 85 = oB 5 [.ref (xad E 86), .ref (xad E 87), .ref (xad E 88), .ref (xad E 89), .ref (xad E 90), .int (iZ (b2 sv)), .int (iZ re), .int (iZ ea), .int (iZ fa), .ref (xad E 91), .ref (xad E 92), .ref (xad E 93), .int (iZ ty), .ref (xad E 94), .int (iZ li), .int (iZ (thZ (decide ((0 ≤ r ∧ r ≤ 4) ∧ (0 ≤ c0 ∧ c0 ≤ 4))) true false)), .int (iZ sz), .int (iZ sp), .int (iZ wr), .int (iZ to), .ref (xad E 95)] := (fr57 85 (by omega)).trans f85
        obtain ⟨σ58, f86, fr59, hH⟩ := x_normE (g := ui v 0 (nw + 1)) 86 (by decide) f86 (by intro j h0 h1; rw [hv0]) hH
        have f85 : σ58 85 = oB 5 [.ref (xad E 86), .ref (xad E 87), .ref (xad E 88), .ref (xad E 89), .ref (xad E 90), .int (iZ (b2 sv)), .int (iZ re), .int (iZ ea), .int (iZ fa), .ref (xad E 91), .ref (xad E 92), .ref (xad E 93), .int (iZ ty), .ref (xad E 94), .int (iZ li), .int (iZ (thZ (decide ((0 ≤ r ∧ r ≤ 4) ∧ (0 ≤ c0 ∧ c0 ≤ 4))) true false)), .int (iZ sz), .int (iZ sp), .int (iZ wr), .int (iZ to), .ref (xad E 95)] := (fr59 85 (by omega)).trans f85
        refine lv_aload_n hx hb dX7_enters_60 rfl (lv_at hl 1 rfl) ?_
        refine lv_aload_n hx hb dX7_enters_61 rfl (lv_at hl 1 rfl) ?_
        refine x_get hx hb hts hown hK hH 85 (by decide) f85 hinX7 rfl 0 (by decide) (List.mem_of_getElem? (i := 1) rfl) rfl dX7_enters_62 ?_
        refine x_iconst hx hb dX7_enters_65 ?_
        refine x_iald hx hb hK hH 86 (by decide) f86 (by omega) (by omega) (by omega) dX7_enters_66 ?_
        rw [show ui v 0 (nw + 1) 0 = nw + 1 from ui_s]
        refine x_iconst hx hb dX7_enters_67 ?_
        refine x_isub hx hb dX7_enters_68 ?_
        refine lv_iload_n hx hb dX7_enters_69 rfl (lv_at hl 0 rfl) ?_
        refine x_cVV (As := [.int (iZ ((nw + 1) - 1)), .int (iZ (cellZ r c0))]) (rest := []) hx hb hml hts hown hK hST hOK hH 85 (c_X7_comes l E ST hSF σ58 ((nw + 1) - 1) (cellZ r c0) sv re ea fa ty li (thZ (decide ((0 ≤ r ∧ r ≤ 4) ∧ (0 ≤ c0 ∧ c0 ≤ 4))) true false) sz sp wr to (ui v 0 (nw + 1)) f85 f86 (by omega) (by omega) (ui_rg hvR (by unfold rg; omega))) (cwV 2 hts gX7_enters_X7_comes rfl rfl rfl (by decide +kernel) ⟨Nat.le_of_ble_eq_true rfl, Nat.le_of_ble_eq_true rfl⟩) (by decide) f85 rfl rfl hl.1 rfl (Nat.le_of_ble_eq_true rfl) dX7_enters_70 ⟨Nat.le_of_ble_eq_true rfl, Nat.le_of_ble_eq_true rfl⟩ (fun σ61 H locs hp62 hH => ?_)
        obtain ⟨⟨f85, f86⟩, fr63⟩ := hp62
        obtain ⟨σ65, f86, fr66, hH⟩ := x_normE (g := bmK (ui (ui v 0 (nw + 1)) (9 + nw) (cellZ r c0)) nw (cellZ r c0) 6) 86 (by decide) f86 (by intro j h0 h1; rw [show nw + 1 - 1 = nw by omega]) hH
        have f85 : σ65 85 = oB 5 [.ref (xad E 86), .ref (xad E 87), .ref (xad E 88), .ref (xad E 89), .ref (xad E 90), .int (iZ (b2 sv)), .int (iZ re), .int (iZ ea), .int (iZ fa), .ref (xad E 91), .ref (xad E 92), .ref (xad E 93), .int (iZ ty), .ref (xad E 94), .int (iZ li), .int (iZ (thZ (decide ((0 ≤ r ∧ r ≤ 4) ∧ (0 ≤ c0 ∧ c0 ≤ 4))) true false)), .int (iZ sz), .int (iZ sp), .int (iZ wr), .int (iZ to), .ref (xad E 95)] := (fr66 85 (by omega)).trans f85
        refine lv_aload_n hx hb dX7_enters_73 rfl (lv_at hl 1 rfl) ?_
        refine x_get hx hb hts hown hK hH 85 (by decide) f85 hinX7 rfl 0 (by decide) (List.mem_of_getElem? (i := 1) rfl) rfl dX7_enters_74 ?_
        refine x_iconst hx hb dX7_enters_77 ?_
        refine x_iald hx hb hK hH 86 (by decide) f86 (by omega) (by omega) (by omega) dX7_enters_78 ?_
        refine x_iconst hx hb dX7_enters_79 ?_
        refine x_isub hx hb dX7_enters_80 ?_
        subst hQ
        exact x_iret hx hb hr hlocks hH (Nat.le_of_ble_eq_true rfl) (Nat.le_of_ble_eq_true rfl) ⟨(by first | exact rs_ok hy9 (by rw [hC2.1.1]; omega) ⟨by omega, by omega⟩ | exact rs_no (enter_n (by simp; omega) (by simp [c34]) c45)), ⟨(bmK (ui (ui v 0 (nw + 1)) (9 + nw) (cellZ r c0)) nw (cellZ r c0) 6), (f85.trans (by rw [enter_th (op := op) (lk := lk) (kp := kp) (wc := wc) (pn := pn) (nw := nw) (sh := sh) (wk := wk) hnw.1 (by simp; omega) (by simp [c34])])), f86, (by first | exact cp_ok hC2 hy9 | exact cp_no hC (enter_n (by simp; omega) (by simp [c34]) c45))⟩, fun j hj0 => ((fr66 j (by omega)).trans ((fr63 j (by omega)).trans ((fr59 j (by omega)).trans ((fr57 j (by omega)).trans (fr53 j (by omega))))))⟩ dX7_enters_81
      · refine x_iconst hx hb dX7_enters_48 ?_
        subst hQ
        exact x_iret hx hb hr hlocks hH (Nat.le_of_ble_eq_true rfl) (Nat.le_of_ble_eq_true rfl) ⟨(by first | exact rs_ok hy9 (by rw [hC2.1.1]; omega) ⟨by omega, by omega⟩ | exact rs_no (enter_n (by simp; omega) (by simp [c34]) c45)), ⟨v, (f85.trans (by rw [enter_th (op := op) (lk := lk) (kp := kp) (wc := wc) (pn := pn) (nw := nw) (sh := sh) (wk := wk) hnw.1 (by simp; omega) (by simp [c34])])), f86, (by first | exact cp_ok hC2 hy9 | exact cp_no hC (enter_n (by simp; omega) (by simp [c34]) c45))⟩, fun j hj0 => (fr53 j (by omega))⟩ dX7_enters_49
    · refine x_iconst hx hb dX7_enters_37 ?_
      refine lv_goto (tgt := 42) hx hb dX7_enters_38 (by decide) ?_
      refine x_cVIE (As := [.int (iZ (b2 (decide ((0 ≤ r ∧ r ≤ 4) ∧ (0 ≤ c0 ∧ c0 ≤ 4))))), .int (iZ 1), .int (iZ 1)]) (rest := []) hx hb hml hts hown hK hST hOK hH 85 (c_X7_holds l E ST hSF σ (decide ((0 ≤ r ∧ r ≤ 4) ∧ (0 ≤ c0 ∧ c0 ≤ 4))) true true sv re ea fa ty li th sz sp wr to f85 ) (cwV 3 hts gX7_enters_X7_holds rfl rfl rfl (by decide +kernel) ⟨Nat.le_of_ble_eq_true rfl, Nat.le_of_ble_eq_true rfl⟩) (by decide) f85 rfl rfl hl.1 rfl (Nat.le_of_ble_eq_true rfl) dX7_enters_42 ⟨Nat.le_of_ble_eq_true rfl, Nat.le_of_ble_eq_true rfl⟩ (fun z u h => h) (fun σ68 H locs hp69 hH => ?_)
      obtain ⟨f85, fr70⟩ := hp69
      have f86 : σ68 86 = aI E 87 v := (fr70 86 (by omega)).trans f86
      refine x_ifb_ne (tgt := 50) hx hb dX7_enters_45 (by decide) (fun c45 => ?_) (fun c45 => ?_)
      · obtain ⟨hn3, hy9⟩ := enter_y (op := op) (lk := lk) (kp := kp) (wc := wc) (pn := pn) (nw := nw) (sh := sh) (wk := wk) (by simp; omega) (by simp [c34]) c45
        have hC2 := Cp_br (w := nw) (cell := cellZ r c0) (Cp_nw hC (x := cellZ r c0) (by omega) (by unfold rg; omega)) (by omega) (by omega) hcz
        refine lv_aload_n hx hb dX7_enters_50 rfl (lv_at hl 1 rfl) ?_
        refine x_get hx hb hts hown hK hH 85 (by decide) f85 hinX7 rfl 0 (by decide) (List.mem_of_getElem? (i := 1) rfl) rfl dX7_enters_51 ?_
        refine x_iconst hx hb dX7_enters_54 ?_
        refine lv_dup2_11 hx hb dX7_enters_55 rfl rfl ?_
        refine x_iald hx hb hK hH 86 (by decide) f86 (by omega) (by omega) (by omega) dX7_enters_56 ?_
        have hv72 := hvR 0
        refine x_iconst hx hb dX7_enters_57 ?_
        refine x_iadd hx hb dX7_enters_58 ?_
        refine x_iast hx hb hK hH 86 (by decide) f86 (by omega) (by omega) (by omega) dX7_enters_59 (fun σ73 H locs f86 fr74 hH => ?_)
        have f85 : σ73 85 = oB 5 [.ref (xad E 86), .ref (xad E 87), .ref (xad E 88), .ref (xad E 89), .ref (xad E 90), .int (iZ (b2 sv)), .int (iZ re), .int (iZ ea), .int (iZ fa), .ref (xad E 91), .ref (xad E 92), .ref (xad E 93), .int (iZ ty), .ref (xad E 94), .int (iZ li), .int (iZ (thZ (decide ((0 ≤ r ∧ r ≤ 4) ∧ (0 ≤ c0 ∧ c0 ≤ 4))) true true)), .int (iZ sz), .int (iZ sp), .int (iZ wr), .int (iZ to), .ref (xad E 95)] := (fr74 85 (by omega)).trans f85
        obtain ⟨σ75, f86, fr76, hH⟩ := x_normE (g := ui v 0 (nw + 1)) 86 (by decide) f86 (by intro j h0 h1; rw [hv0]) hH
        have f85 : σ75 85 = oB 5 [.ref (xad E 86), .ref (xad E 87), .ref (xad E 88), .ref (xad E 89), .ref (xad E 90), .int (iZ (b2 sv)), .int (iZ re), .int (iZ ea), .int (iZ fa), .ref (xad E 91), .ref (xad E 92), .ref (xad E 93), .int (iZ ty), .ref (xad E 94), .int (iZ li), .int (iZ (thZ (decide ((0 ≤ r ∧ r ≤ 4) ∧ (0 ≤ c0 ∧ c0 ≤ 4))) true true)), .int (iZ sz), .int (iZ sp), .int (iZ wr), .int (iZ to), .ref (xad E 95)] := (fr76 85 (by omega)).trans f85
        refine lv_aload_n hx hb dX7_enters_60 rfl (lv_at hl 1 rfl) ?_
        refine lv_aload_n hx hb dX7_enters_61 rfl (lv_at hl 1 rfl) ?_
        refine x_get hx hb hts hown hK hH 85 (by decide) f85 hinX7 rfl 0 (by decide) (List.mem_of_getElem? (i := 1) rfl) rfl dX7_enters_62 ?_
        refine x_iconst hx hb dX7_enters_65 ?_
        refine x_iald hx hb hK hH 86 (by decide) f86 (by omega) (by omega) (by omega) dX7_enters_66 ?_
        rw [show ui v 0 (nw + 1) 0 = nw + 1 from ui_s]
        refine x_iconst hx hb dX7_enters_67 ?_
        refine x_isub hx hb dX7_enters_68 ?_
        refine lv_iload_n hx hb dX7_enters_69 rfl (lv_at hl 0 rfl) ?_
        refine x_cVV (As := [.int (iZ ((nw + 1) - 1)), .int (iZ (cellZ r c0))]) (rest := []) hx hb hml hts hown hK hST hOK hH 85 (c_X7_comes l E ST hSF σ75 ((nw + 1) - 1) (cellZ r c0) sv re ea fa ty li (thZ (decide ((0 ≤ r ∧ r ≤ 4) ∧ (0 ≤ c0 ∧ c0 ≤ 4))) true true) sz sp wr to (ui v 0 (nw + 1)) f85 f86 (by omega) (by omega) (ui_rg hvR (by unfold rg; omega))) (cwV 2 hts gX7_enters_X7_comes rfl rfl rfl (by decide +kernel) ⟨Nat.le_of_ble_eq_true rfl, Nat.le_of_ble_eq_true rfl⟩) (by decide) f85 rfl rfl hl.1 rfl (Nat.le_of_ble_eq_true rfl) dX7_enters_70 ⟨Nat.le_of_ble_eq_true rfl, Nat.le_of_ble_eq_true rfl⟩ (fun σ78 H locs hp79 hH => ?_)
        obtain ⟨⟨f85, f86⟩, fr80⟩ := hp79
        obtain ⟨σ82, f86, fr83, hH⟩ := x_normE (g := bmK (ui (ui v 0 (nw + 1)) (9 + nw) (cellZ r c0)) nw (cellZ r c0) 6) 86 (by decide) f86 (by intro j h0 h1; rw [show nw + 1 - 1 = nw by omega]) hH
        have f85 : σ82 85 = oB 5 [.ref (xad E 86), .ref (xad E 87), .ref (xad E 88), .ref (xad E 89), .ref (xad E 90), .int (iZ (b2 sv)), .int (iZ re), .int (iZ ea), .int (iZ fa), .ref (xad E 91), .ref (xad E 92), .ref (xad E 93), .int (iZ ty), .ref (xad E 94), .int (iZ li), .int (iZ (thZ (decide ((0 ≤ r ∧ r ≤ 4) ∧ (0 ≤ c0 ∧ c0 ≤ 4))) true true)), .int (iZ sz), .int (iZ sp), .int (iZ wr), .int (iZ to), .ref (xad E 95)] := (fr83 85 (by omega)).trans f85
        refine lv_aload_n hx hb dX7_enters_73 rfl (lv_at hl 1 rfl) ?_
        refine x_get hx hb hts hown hK hH 85 (by decide) f85 hinX7 rfl 0 (by decide) (List.mem_of_getElem? (i := 1) rfl) rfl dX7_enters_74 ?_
        refine x_iconst hx hb dX7_enters_77 ?_
        refine x_iald hx hb hK hH 86 (by decide) f86 (by omega) (by omega) (by omega) dX7_enters_78 ?_
        refine x_iconst hx hb dX7_enters_79 ?_
        refine x_isub hx hb dX7_enters_80 ?_
        subst hQ
        exact x_iret hx hb hr hlocks hH (Nat.le_of_ble_eq_true rfl) (Nat.le_of_ble_eq_true rfl) ⟨(by first | exact rs_ok hy9 (by rw [hC2.1.1]; omega) ⟨by omega, by omega⟩ | exact rs_no (enter_n (by simp; omega) (by simp [c34]) c45)), ⟨(bmK (ui (ui v 0 (nw + 1)) (9 + nw) (cellZ r c0)) nw (cellZ r c0) 6), (f85.trans (by rw [enter_th (op := op) (lk := lk) (kp := kp) (wc := wc) (pn := pn) (nw := nw) (sh := sh) (wk := wk) hnw.1 (by simp; omega) (by simp [c34])])), f86, (by first | exact cp_ok hC2 hy9 | exact cp_no hC (enter_n (by simp; omega) (by simp [c34]) c45))⟩, fun j hj0 => ((fr83 j (by omega)).trans ((fr80 j (by omega)).trans ((fr76 j (by omega)).trans ((fr74 j (by omega)).trans (fr70 j (by omega))))))⟩ dX7_enters_81
      · refine x_iconst hx hb dX7_enters_48 ?_
        subst hQ
        exact x_iret hx hb hr hlocks hH (Nat.le_of_ble_eq_true rfl) (Nat.le_of_ble_eq_true rfl) ⟨(by first | exact rs_ok hy9 (by rw [hC2.1.1]; omega) ⟨by omega, by omega⟩ | exact rs_no (enter_n (by simp; omega) (by simp [c34]) c45)), ⟨v, (f85.trans (by rw [enter_th (op := op) (lk := lk) (kp := kp) (wc := wc) (pn := pn) (nw := nw) (sh := sh) (wk := wk) hnw.1 (by simp; omega) (by simp [c34])])), f86, (by first | exact cp_ok hC2 hy9 | exact cp_no hC (enter_n (by simp; omega) (by simp [c34]) c45))⟩, fun j hj0 => (fr70 j (by omega))⟩ dX7_enters_49

def rm_X7_addWalker : Room := { frames := 5, cells := 0, slots := 0, locals := 107 }
set_option maxRecDepth 100000 in
set_option maxHeartbeats 4000000 in
theorem c_X7_addWalker (l : Launch) (E : xE) (ST : xST) (hSF : SF ST) (σ : xW) (r : Int) (c0 : Int) (op : Int → Int) (lk : Int → Int) (kp : Int → Int) (wc : Int → Int) (pn : Int) (nw : Int) (sh : Int) (wk : Int) (sv : Bool) (re : Int) (ea : Int) (fa : Int) (ty : Int) (li : Int) (th : Int) (sz : Int) (sp : Int) (wr : Int) (to : Int) (v : Int → Int) (w : Int → Int) (hF : Int → Int) (hr0 : mo E σ sv re ea fa ty li th sz sp wr to) (hr1 : now E σ v) (hr2 : bef E σ w) (hr3 : his E σ hF) (hC : Cp v op lk kp wc pn nw sh wk) (hB : BI op lk kp wc pn nw) (hre : 0 ≤ re ∧ re ≤ 8) (hr9 : rg r) (hc9 : rg c0) : CI l E ST yX7_addWalker wsX7_addWalker rm_X7_addWalker [.ref (xad E 85), .int (iZ r), .int (iZ c0)] σ (fun (z : Int) (u : xW) => (0 ≤ (enterF op lk kp wc pn nw sh wk r c0).1 → z = (enterF op lk kp wc pn nw sh wk r c0).1) ∧ (∃ (v1 : Int → Int), mo E u sv (if tE (enterF op lk kp wc pn nw sh wk r c0).1 = 0 then re8 re else re) ea fa ty li (tE (enterF op lk kp wc pn nw sh wk r c0).1) sz sp wr to ∧ now E u (if tE (enterF op lk kp wc pn nw sh wk r c0).1 = 0 then v1 else v) ∧ bef E u v ∧ his E u (if tE (enterF op lk kp wc pn nw sh wk r c0).1 = 0 then rmF hF v re else hF) ∧ (CpT v1 (enterF op lk kp wc pn nw sh wk r c0).2)) ∧ ∀ j : Nat, (j < 85 ∨ 85 + 3 ≤ j) → j ≠ 90 → u j = σ j) := by
  have f85 : σ 85 = oB 5 [.ref (xad E 86), .ref (xad E 87), .ref (xad E 88), .ref (xad E 89), .ref (xad E 90), .int (iZ (b2 sv)), .int (iZ re), .int (iZ ea), .int (iZ fa), .ref (xad E 91), .ref (xad E 92), .ref (xad E 93), .int (iZ ty), .ref (xad E 94), .int (iZ li), .int (iZ th), .int (iZ sz), .int (iZ sp), .int (iZ wr), .int (iZ to), .ref (xad E 95)] := hr0
  have f86 : σ 86 = aI E 87 v := hr1
  have f87 : σ 87 = aI E 87 w := hr2
  have f90 : σ 90 = aI E 696 hF := hr3
  refine CI_of (by decide) rfl (Nat.le_of_ble_eq_true rfl) ?_
  intro p e s m args below meth c Q ls G hH hl hQ
  obtain ⟨hx, hb, hml, hown, hts, hK, hST, hlocks, hr, hno⟩ := G
  have hOK := hSF.1
  have hown : s.vm.findClass RX7 = some m.cls := hown
  have hl : lv_has ls 3 [(0, .ref (xad E 85)), (1, .int (iZ r)), (2, .int (iZ c0))] := hl
  obtain ⟨hop, hlk, hkp, hwc, hpn, hnw⟩ := id hB
  have hvR := hC.R
  have hv0 := hC.1.1
  refine lv_aload_n hx hb dX7_addWalker_0 rfl (lv_at hl 0 rfl) ?_
  refine x_cVV (As := []) (rest := []) hx hb hml hts hown hK hST hOK hH 85 (c_X7_begins l E ST hSF σ sv re ea fa ty li th sz sp wr to v w f85 f86 f87 ) (cwV 0 hts gX7_addWalker_X7_begins rfl rfl rfl (by decide +kernel) ⟨Nat.le_of_ble_eq_true rfl, Nat.le_of_ble_eq_true rfl⟩) (by decide) f85 rfl rfl hl.1 rfl (Nat.le_of_ble_eq_true rfl) dX7_addWalker_1 ⟨Nat.le_of_ble_eq_true rfl, Nat.le_of_ble_eq_true rfl⟩ (fun σ2 H locs hp3 hH => ?_)
  obtain ⟨⟨f85, f86, f87⟩, fr4⟩ := hp3
  have f90 : σ2 90 = aI E 696 hF := (fr4 90 (by omega)).trans f90
  refine lv_aload_n hx hb dX7_addWalker_4 rfl (lv_at hl 0 rfl) ?_
  refine lv_aload_n hx hb dX7_addWalker_5 rfl (lv_at hl 0 rfl) ?_
  refine lv_iload_n hx hb dX7_addWalker_6 rfl (lv_at hl 1 rfl) ?_
  refine lv_iload_n hx hb dX7_addWalker_7 rfl (lv_at hl 2 rfl) ?_
  refine x_cVI (As := [.int (iZ r), .int (iZ c0)]) (rest := [.ref (xad E 85)]) hx hb hml hts hown hK hST hOK hH 85 (c_X7_enters l E ST hSF σ2 r c0 op lk kp wc pn nw sh wk sv re ea fa ty li th sz sp wr to v f85 f86 (by assumption) (by omega) (by omega) (by omega)) (cwV 2 hts gX7_addWalker_X7_enters rfl rfl rfl (by decide +kernel) ⟨Nat.le_of_ble_eq_true rfl, Nat.le_of_ble_eq_true rfl⟩) (by decide) f85 rfl rfl hl.1 rfl (Nat.le_of_ble_eq_true rfl) dX7_addWalker_8 ⟨Nat.le_of_ble_eq_true rfl, Nat.le_of_ble_eq_true rfl⟩ (fun z6 σ7 H locs hp8 hH => ?_)
  obtain ⟨hz_, ⟨v1_, f85, f86, hf10⟩, fr9⟩ := hp8
  have f87 : σ7 87 = aI E 87 v := (fr9 87 (by omega)).trans f87
  have f90 : σ7 90 = aI E 696 hF := (fr9 90 (by omega)).trans f90
  have htb : 0 ≤ tE (enterF op lk kp wc pn nw sh wk r c0).1 ∧ tE (enterF op lk kp wc pn nw sh wk r c0).1 ≤ 3 := (by unfold tE; (repeat' split) <;> omega)
  refine x_cVIE (As := [.int (iZ z6)]) (rest := []) hx hb hml hts hown hK hST hOK hH 85 (c_X7_ends l E ST hSF σ7 z6 sv re ea fa ty li (tE (enterF op lk kp wc pn nw sh wk r c0).1) sz sp wr to v1_ v hF f85 f86 f87 f90 (by omega) (by omega) (by omega)) (cwV 1 hts gX7_addWalker_X7_ends rfl rfl rfl (by decide +kernel) ⟨Nat.le_of_ble_eq_true rfl, Nat.le_of_ble_eq_true rfl⟩) (by decide) f85 rfl rfl hl.1 rfl (Nat.le_of_ble_eq_true rfl) dX7_addWalker_11 ⟨Nat.le_of_ble_eq_true rfl, Nat.le_of_ble_eq_true rfl⟩ (fun z u h => h) (fun σ12 H locs hp13 hH => ?_)
  obtain ⟨⟨f85, f86, f87, f90⟩, fr14⟩ := hp13
  subst hQ
  exact x_iret hx hb hr hlocks hH (Nat.le_of_ble_eq_true rfl) (Nat.le_of_ble_eq_true rfl) ⟨(by intro h9; rw [if_pos (tE_0 h9)]; exact hz_.2 h9), ⟨v1_, (f85.trans (by first | rfl | omega | simp_all)), (f86.trans (congrArg (fun g => aI E 87 g) (show (if (tE (enterF op lk kp wc pn nw sh wk r c0).1) = 0 then v1_ else v) = (if tE (enterF op lk kp wc pn nw sh wk r c0).1 = 0 then v1_ else v) from (by first | rfl | omega | simp_all)))), f87, (f90.trans (congrArg (fun g => aI E 696 g) (show (if (tE (enterF op lk kp wc pn nw sh wk r c0).1) = 0 then rmF hF v re else hF) = (if tE (enterF op lk kp wc pn nw sh wk r c0).1 = 0 then rmF hF v re else hF) from (by first | rfl | omega | simp_all)))), (by first | assumption | omega | simp_all)⟩, fun j hj0 hj1 => ((fr14 j (by omega) (by omega)).trans ((fr9 j (by omega)).trans (fr4 j (by omega))))⟩ dX7_addWalker_14
