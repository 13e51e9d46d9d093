def rm_X7_asks : Room := { frames := 4, cells := 0, slots := 0, locals := 84 }
set_option maxRecDepth 100000 in
set_option maxHeartbeats 4000000 in
theorem c_X7_asks (l : Launch) (E : xE) (ST : xST) (hSF : SF ST) (σ : xW) (r : Int) (c0 : Int) (its : Int) (op : Int → Int) (lk : Int → Int) (kp : Int → Int) (wc : Int → Int) (pn : Int) (nw : Int) (sh : Int) (wk : Int) (sv : Bool) (re : Int) (ea : Int) (fa : Int) (ty : Int) (li : Int) (th : Int) (sz : Int) (sp : Int) (wr : Int) (to : Int) (v : Int → Int) (hr0 : mo E σ sv re ea fa ty li th sz sp wr to) (hr1 : now E σ v) (hC : Cp v op lk kp wc pn nw sh wk) (hB : BI op lk kp wc pn nw) (hr9 : rg r) (hc9 : rg c0) (hi9 : 0 ≤ its ∧ its ≤ 2) : CI l E ST yX7_asks wsX7_asks rm_X7_asks [.ref (xad E 85), .int (iZ r), .int (iZ c0), .int (iZ its)] σ (fun (z : Int) (u : xW) => ((okC r c0 → z = v (12 + 3 * (r * 5 + c0) + its)) ∧ (¬ okC r c0 → z = 0) ∧ rg z) ∧ (mo E u sv re ea fa ty li (k1 (okC r c0)) sz sp wr to ∧ now E u v) ∧ ∀ j : Nat, j ≠ 85 → u j = σ j) := by
  have f85 : σ 85 = oB 5 [.ref (xad E 86), .ref (xad E 87), .ref (xad E 88), .ref (xad E 89), .ref (xad E 90), .int (iZ (b2 sv)), .int (iZ re), .int (iZ ea), .int (iZ fa), .ref (xad E 91), .ref (xad E 92), .ref (xad E 93), .int (iZ ty), .ref (xad E 94), .int (iZ li), .int (iZ th), .int (iZ sz), .int (iZ sp), .int (iZ wr), .int (iZ to), .ref (xad E 95)] := hr0
  have f86 : σ 86 = aI E 87 v := hr1
  refine CI_of (by decide) rfl (Nat.le_of_ble_eq_true rfl) ?_
  intro p e s m args below meth c Q ls G hH hl hQ
  obtain ⟨hx, hb, hml, hown, hts, hK, hST, hlocks, hr, hno⟩ := G
  have hOK := hSF.1
  have hown : s.vm.findClass RX7 = some m.cls := hown
  have hl : lv_has ls 4 [(0, .ref (xad E 85)), (1, .int (iZ r)), (2, .int (iZ c0)), (3, .int (iZ its))] := hl
  obtain ⟨hop, hlk, hkp, hwc, hpn, hnw⟩ := id hB
  have hvR := hC.R
  have hv0 := hC.1.1
  have hcz := cellZ_rg (r := r) (c := c0)
  refine lv_aload_n hx hb dX7_asks_0 rfl (lv_at hl 0 rfl) ?_
  refine lv_iload_n hx hb dX7_asks_1 rfl (lv_at hl 1 rfl) ?_
  refine lv_iload_n hx hb dX7_asks_2 rfl (lv_at hl 2 rfl) ?_
  refine x_cSID (As := [.int (iZ r), .int (iZ c0)]) (rest := [.ref (xad E 85)]) hx hb hml hts hown hK hST hOK hH (c_X7_isCell l E ST hSF σ r c0  (by omega) (by omega)) (va_cwS 2 hts gX7_asks_X7_isCell rfl rfl rfl (by decide +kernel) ⟨Nat.le_of_ble_eq_true rfl, Nat.le_of_ble_eq_true rfl⟩) rfl hl.1 rfl (Nat.le_of_ble_eq_true rfl) dX7_asks_3 ⟨Nat.le_of_ble_eq_true rfl, Nat.le_of_ble_eq_true rfl⟩ (fun z u h => h) (fun H locs hH => ?_)
  refine x_cVIE (As := [.int (iZ (b2 (decide ((0 ≤ r ∧ r ≤ 4) ∧ (0 ≤ c0 ∧ c0 ≤ 4)))))]) (rest := []) hx hb hml hts hown hK hST hOK hH 85 (c_X7_goes l E ST hSF σ (decide ((0 ≤ r ∧ r ≤ 4) ∧ (0 ≤ c0 ∧ c0 ≤ 4))) sv re ea fa ty li th sz sp wr to f85 ) (cwV 1 hts gX7_asks_X7_goes rfl rfl rfl (by decide +kernel) ⟨Nat.le_of_ble_eq_true rfl, Nat.le_of_ble_eq_true rfl⟩) (by decide) f85 rfl rfl hl.1 rfl (Nat.le_of_ble_eq_true rfl) dX7_asks_6 ⟨Nat.le_of_ble_eq_true rfl, Nat.le_of_ble_eq_true rfl⟩ (fun z u h => h) (fun σ5 H locs hp6 hH => ?_)
  obtain ⟨f85, fr7⟩ := hp6
  have f86 : σ5 86 = aI E 87 v := (fr7 86 (by omega)).trans f86
  refine x_ifb_eq (tgt := 25) hx hb dX7_asks_9 (by decide) (fun c9 => ?_) (fun c9 => ?_)
  · have c9 := of_decide_eq_false c9
    refine x_iconst hx hb dX7_asks_25 ?_
    subst hQ
    exact x_iret hx hb hr hlocks hH (Nat.le_of_ble_eq_true rfl) (Nat.le_of_ble_eq_true rfl) ⟨(by first | exact ⟨fun h => by rw [cellZ_ok h], fun h => absurd h (by omega), hvx⟩ | exact ⟨fun h => absurd h (by omega), fun _ => rfl, by decide⟩), ⟨(f85.trans (by rw [g1_c])), f86⟩, fun j hj0 => (fr7 j (by omega))⟩ dX7_asks_26
  · have c9 := of_decide_eq_true c9
    refine lv_aload_n hx hb dX7_asks_12 rfl (lv_at hl 0 rfl) ?_
    refine lv_iload_n hx hb dX7_asks_13 rfl (lv_at hl 1 rfl) ?_
    refine lv_iload_n hx hb dX7_asks_14 rfl (lv_at hl 2 rfl) ?_
    refine x_cSID (As := [.int (iZ r), .int (iZ c0)]) (rest := [.ref (xad E 85)]) hx hb hml hts hown hK hST hOK hH (c_X7_cellAt l E ST hSF σ5 r c0  (by omega) (by omega)) (va_cwS 2 hts gX7_asks_X7_cellAt rfl rfl rfl (by decide +kernel) ⟨Nat.le_of_ble_eq_true rfl, Nat.le_of_ble_eq_true rfl⟩) rfl hl.1 rfl (Nat.le_of_ble_eq_true rfl) dX7_asks_15 ⟨Nat.le_of_ble_eq_true rfl, Nat.le_of_ble_eq_true rfl⟩ (fun z u h => h) (fun H locs hH => ?_)
    refine lv_iload_n hx hb dX7_asks_18 rfl (lv_at hl 3 rfl) ?_
    refine x_cVID (As := [.int (iZ (cellZ r c0)), .int (iZ its)]) (rest := []) hx hb hml hts hown hK hST hOK hH 85 (c_X7_of l E ST hSF σ5 (cellZ r c0) its sv re ea fa ty li (if (decide ((0 ≤ r ∧ r ≤ 4) ∧ (0 ≤ c0 ∧ c0 ≤ 4))) = true then 0 else 1) sz sp wr to v f85 f86 (by omega) (by omega)) (cwV 2 hts gX7_asks_X7_of rfl rfl rfl (by decide +kernel) ⟨Nat.le_of_ble_eq_true rfl, Nat.le_of_ble_eq_true rfl⟩) (by decide) f85 rfl rfl hl.1 rfl (Nat.le_of_ble_eq_true rfl) dX7_asks_19 ⟨Nat.le_of_ble_eq_true rfl, Nat.le_of_ble_eq_true rfl⟩ (fun z u h => h) (fun H locs hH => ?_)
    have hvx := hvR (12 + 3 * (cellZ r c0) + its)
    refine lv_goto (tgt := 26) hx hb dX7_asks_22 (by decide) ?_
    subst hQ
    exact x_iret hx hb hr hlocks hH (Nat.le_of_ble_eq_true rfl) (Nat.le_of_ble_eq_true rfl) ⟨(by first | exact ⟨fun h => by rw [cellZ_ok h], fun h => absurd h (by omega), hvx⟩ | exact ⟨fun h => absurd h (by omega), fun _ => rfl, by decide⟩), ⟨(f85.trans (by rw [g1_c])), f86⟩, fun j hj0 => (fr7 j (by omega))⟩ dX7_asks_26

def rm_X7_openings : Room := { frames := 5, cells := 0, slots := 0, locals := 107 }
set_option maxRecDepth 100000 in
set_option maxHeartbeats 4000000 in
theorem c_X7_openings (l : Launch) (E : xE) (ST : xST) (hSF : SF ST) (σ : xW) (r : Int) (c0 : Int) (op : Int → Int) (lk : Int → Int) (kp : Int → Int) (wc : Int → Int) (pn : Int) (nw : Int) (sh : Int) (wk : Int) (sv : Bool) (re : Int) (ea : Int) (fa : Int) (ty : Int) (li : Int) (th : Int) (sz : Int) (sp : Int) (wr : Int) (to : Int) (v : Int → Int) (hr0 : mo E σ sv re ea fa ty li th sz sp wr to) (hr1 : now E σ v) (hC : Cp v op lk kp wc pn nw sh wk) (hB : BI op lk kp wc pn nw) (hr9 : rg r) (hc9 : rg c0) : CI l E ST yX7_openings wsX7_openings rm_X7_openings [.ref (xad E 85), .int (iZ r), .int (iZ c0)] σ (fun (z : Int) (u : xW) => (okC r c0 → z = op (r * 5 + c0)) ∧ (mo E u sv re ea fa ty li (k1 (okC r c0)) sz sp wr to ∧ now E u v) ∧ ∀ j : Nat, j ≠ 85 → u j = σ j) := by
  have f85 : σ 85 = oB 5 [.ref (xad E 86), .ref (xad E 87), .ref (xad E 88), .ref (xad E 89), .ref (xad E 90), .int (iZ (b2 sv)), .int (iZ re), .int (iZ ea), .int (iZ fa), .ref (xad E 91), .ref (xad E 92), .ref (xad E 93), .int (iZ ty), .ref (xad E 94), .int (iZ li), .int (iZ th), .int (iZ sz), .int (iZ sp), .int (iZ wr), .int (iZ to), .ref (xad E 95)] := hr0
  have f86 : σ 86 = aI E 87 v := hr1
  refine CI_of (by decide) rfl (Nat.le_of_ble_eq_true rfl) ?_
  intro p e s m args below meth c Q ls G hH hl hQ
  obtain ⟨hx, hb, hml, hown, hts, hK, hST, hlocks, hr, hno⟩ := G
  have hOK := hSF.1
  have hown : s.vm.findClass RX7 = some m.cls := hown
  have hl : lv_has ls 3 [(0, .ref (xad E 85)), (1, .int (iZ r)), (2, .int (iZ c0))] := hl
  obtain ⟨hop, hlk, hkp, hwc, hpn, hnw⟩ := id hB
  have hvR := hC.R
  have hv0 := hC.1.1
  refine lv_aload_n hx hb dX7_openings_0 rfl (lv_at hl 0 rfl) ?_
  refine lv_iload_n hx hb dX7_openings_1 rfl (lv_at hl 1 rfl) ?_
  refine lv_iload_n hx hb dX7_openings_2 rfl (lv_at hl 2 rfl) ?_
  refine x_iconst hx hb dX7_openings_3 ?_
  refine x_cVI (As := [.int (iZ r), .int (iZ c0), .int (iZ 0)]) (rest := []) hx hb hml hts hown hK hST hOK hH 85 (c_X7_asks l E ST hSF σ r c0 0 op lk kp wc pn nw sh wk sv re ea fa ty li th sz sp wr to v f85 f86 (by assumption) (by omega) (by omega) (by omega) (by omega)) (cwV 3 hts gX7_openings_X7_asks rfl rfl rfl (by decide +kernel) ⟨Nat.le_of_ble_eq_true rfl, Nat.le_of_ble_eq_true rfl⟩) (by decide) f85 rfl rfl hl.1 rfl (Nat.le_of_ble_eq_true rfl) dX7_openings_4 ⟨Nat.le_of_ble_eq_true rfl, Nat.le_of_ble_eq_true rfl⟩ (fun z_ σ1 H locs hp2 hH => ?_)
  obtain ⟨hz_, ⟨f85, f86⟩, fr3⟩ := hp2
  subst hQ
  exact x_iret hx hb hr hlocks hH (Nat.le_of_ble_eq_true rfl) (Nat.le_of_ble_eq_true rfl) ⟨(by intro h; rw [hz_.1 h]; exact hC.a0 (by omega) (by omega)), ⟨f85, f86⟩, fun j hj0 => (fr3 j (by omega))⟩ dX7_openings_7

def rm_X7_isPinned : Room := { frames := 5, cells := 0, slots := 0, locals := 107 }
set_option maxRecDepth 100000 in
set_option maxHeartbeats 4000000 in
theorem c_X7_isPinned (l : Launch) (E : xE) (ST : xST) (hSF : SF ST) (σ : xW) (r : Int) (c0 : Int) (op : Int → Int) (lk : Int → Int) (kp : Int → Int) (wc : Int → Int) (pn : Int) (nw : Int) (sh : Int) (wk : Int) (sv : Bool) (re : Int) (ea : Int) (fa : Int) (ty : Int) (li : Int) (th : Int) (sz : Int) (sp : Int) (wr : Int) (to : Int) (v : Int → Int) (hr0 : mo E σ sv re ea fa ty li th sz sp wr to) (hr1 : now E σ v) (hC : Cp v op lk kp wc pn nw sh wk) (hB : BI op lk kp wc pn nw) (hr9 : rg r) (hc9 : rg c0) : CI l E ST yX7_isPinned wsX7_isPinned rm_X7_isPinned [.ref (xad E 85), .int (iZ r), .int (iZ c0)] σ (fun (z : Int) (u : xW) => z = b2 (decide (okC r c0 ∧ fixP pn (r * 5 + c0))) ∧ (mo E u sv re ea fa ty li (k1 (okC r c0)) sz sp wr to ∧ now E u v) ∧ ∀ j : Nat, j ≠ 85 → u j = σ j) := by
  have f85 : σ 85 = oB 5 [.ref (xad E 86), .ref (xad E 87), .ref (xad E 88), .ref (xad E 89), .ref (xad E 90), .int (iZ (b2 sv)), .int (iZ re), .int (iZ ea), .int (iZ fa), .ref (xad E 91), .ref (xad E 92), .ref (xad E 93), .int (iZ ty), .ref (xad E 94), .int (iZ li), .int (iZ th), .int (iZ sz), .int (iZ sp), .int (iZ wr), .int (iZ to), .ref (xad E 95)] := hr0
  have f86 : σ 86 = aI E 87 v := hr1
  refine CI_of (by decide) rfl (Nat.le_of_ble_eq_true rfl) ?_
  intro p e s m args below meth c Q ls G hH hl hQ
  obtain ⟨hx, hb, hml, hown, hts, hK, hST, hlocks, hr, hno⟩ := G
  have hOK := hSF.1
  have hown : s.vm.findClass RX7 = some m.cls := hown
  have hl : lv_has ls 3 [(0, .ref (xad E 85)), (1, .int (iZ r)), (2, .int (iZ c0))] := hl
  obtain ⟨hop, hlk, hkp, hwc, hpn, hnw⟩ := id hB
  have hvR := hC.R
  have hv0 := hC.1.1
  refine lv_aload_n hx hb dX7_isPinned_0 rfl (lv_at hl 0 rfl) ?_
  refine lv_iload_n hx hb dX7_isPinned_1 rfl (lv_at hl 1 rfl) ?_
  refine lv_iload_n hx hb dX7_isPinned_2 rfl (lv_at hl 2 rfl) ?_
  refine x_iconst hx hb dX7_isPinned_3 ?_
  refine x_cVI (As := [.int (iZ r), .int (iZ c0), .int (iZ 1)]) (rest := []) hx hb hml hts hown hK hST hOK hH 85 (c_X7_asks l E ST hSF σ r c0 1 op lk kp wc pn nw sh wk sv re ea fa ty li th sz sp wr to v f85 f86 (by assumption) (by omega) (by omega) (by omega) (by omega)) (cwV 3 hts gX7_isPinned_X7_asks rfl rfl rfl (by decide +kernel) ⟨Nat.le_of_ble_eq_true rfl, Nat.le_of_ble_eq_true rfl⟩) (by decide) f85 rfl rfl hl.1 rfl (Nat.le_of_ble_eq_true rfl) dX7_isPinned_4 ⟨Nat.le_of_ble_eq_true rfl, Nat.le_of_ble_eq_true rfl⟩ (fun z_ σ1 H locs hp2 hH => ?_)
  obtain ⟨hz_, ⟨f85, f86⟩, fr3⟩ := hp2
  have hq9 : z_ = 1 ↔ okC r c0 ∧ fixP pn (r * 5 + c0) := by
      by_cases h : okC r c0
      · rw [hz_.1 h, hC.a1 (by omega) (by omega), fx1]; exact ⟨fun q => ⟨h, q⟩, fun q => q.2⟩
      · rw [hz_.2.1 h]; exact ⟨fun q => absurd q (by decide), fun q => absurd q.1 h⟩
  refine x_iconst hx hb dX7_isPinned_7 ?_
  refine x_icmp_ne (tgt := 15) hx hb dX7_isPinned_8 (by decide) (by omega) (by decide) (fun c8 => ?_) (fun c8 => ?_)
  · refine x_iconst hx hb dX7_isPinned_15 ?_
    subst hQ
    exact x_zret (b := false) hx hb hr hlocks hH (Nat.le_of_ble_eq_true rfl) (Nat.le_of_ble_eq_true rfl) ⟨congrArg b2 (show false = (decide (okC r c0 ∧ fixP pn (r * 5 + c0))) from (by first | exact dec_iff hq9 c8 | exact dec_if2 hq9 c8)), ⟨f85, f86⟩, fun j hj0 => (fr3 j (by omega))⟩ dX7_isPinned_16
  · refine x_iconst hx hb dX7_isPinned_11 ?_
    refine lv_goto (tgt := 16) hx hb dX7_isPinned_12 (by decide) ?_
    subst hQ
    exact x_zret (b := true) hx hb hr hlocks hH (Nat.le_of_ble_eq_true rfl) (Nat.le_of_ble_eq_true rfl) ⟨congrArg b2 (show true = (decide (okC r c0 ∧ fixP pn (r * 5 + c0))) from (by first | exact dec_iff hq9 c8 | exact dec_if2 hq9 c8)), ⟨f85, f86⟩, fun j hj0 => (fr3 j (by omega))⟩ dX7_isPinned_16

def rm_X7_isFree : Room := { frames := 2, cells := 0, slots := 0, locals := 42 }
set_option maxRecDepth 100000 in
set_option maxHeartbeats 4000000 in
theorem c_X7_isFree (l : Launch) (E : xE) (ST : xST) (hSF : SF ST) (σ : xW) (ro : Bool) (ln9 : Int) (op : Int → Int) (lk : Int → Int) (kp : Int → Int) (wc : Int → Int) (pn : Int) (nw : Int) (sh : Int) (wk : Int) (sv : Bool) (re : Int) (ea : Int) (fa : Int) (ty : Int) (li : Int) (th : Int) (sz : Int) (sp : Int) (wr : Int) (to : Int) (v : Int → Int) (hr0 : mo E σ sv re ea fa ty li th sz sp wr to) (hr1 : now E σ v) (hC : Cp v op lk kp wc pn nw sh wk) (hB : BI op lk kp wc pn nw) (hl9 : rg ln9) : CI l E ST yX7_isFree wsX7_isFree rm_X7_isFree [.ref (xad E 85), .int (iZ (b2 ro)), .int (iZ ln9)] σ (fun (z : Int) (u : xW) => z = b2 (frB pn ro ln9) ∧ u = σ) := by
  have f85 : σ 85 = oB 5 [.ref (xad E 86), .ref (xad E 87), .ref (xad E 88), .ref (xad E 89), .ref (xad E 90), .int (iZ (b2 sv)), .int (iZ re), .int (iZ ea), .int (iZ fa), .ref (xad E 91), .ref (xad E 92), .ref (xad E 93), .int (iZ ty), .ref (xad E 94), .int (iZ li), .int (iZ th), .int (iZ sz), .int (iZ sp), .int (iZ wr), .int (iZ to), .ref (xad E 95)] := hr0
  have f86 : σ 86 = aI E 87 v := hr1
  refine CI_of (by decide) rfl (Nat.le_of_ble_eq_true rfl) ?_
  intro p e s m args below meth c Q ls G hH hl hQ
  obtain ⟨hx, hb, hml, hown, hts, hK, hST, hlocks, hr, hno⟩ := G
  have hOK := hSF.1
  have hown : s.vm.findClass RX7 = some m.cls := hown
  have hl : lv_has ls 5 [(0, .ref (xad E 85)), (1, .int (iZ (b2 ro))), (2, .int (iZ ln9))] := hl
  obtain ⟨hop, hlk, hkp, hwc, hpn, hnw⟩ := id hB
  have hvR := hC.R
  have hv0 := hC.1.1
  refine x_iconst hx hb dX7_isFree_0 ?_
  refine lv_istore_n (lv' := [(3, .int (iZ 1)), (0, .ref (xad E 85)), (1, .int (iZ (b2 ro))), (2, .int (iZ ln9))]) hx hb dX7_isFree_1 rfl hl (by decide) rfl (fun ls hl => ?_)
  refine x_iconst hx hb dX7_isFree_2 ?_
  refine lv_istore (lv' := [(4, .int (iZ 0)), (3, .int (iZ 1)), (0, .ref (xad E 85)), (1, .int (iZ (b2 ro))), (2, .int (iZ ln9))]) hx hb dX7_isFree_3 hl (by decide) rfl (fun ls hl => ?_)
  have K5 : ∀ (nK : Nat) (fr9 : Bool) (i : Int) (H : Heap) (locs : List Loc) (ls : Array Slot), (5 - i).toNat < nK → (0 ≤ i ∧ i ≤ 5) → (fr9 = frK pn ro ln9 i) → Hx E (xA E s.heap.size) s.heap σ H locs → lv_has ls 5 [(4, .int (iZ i)), (3, .int (iZ (b2 fr9))), (0, .ref (xad E 85)), (1, .int (iZ (b2 ro))), (2, .int (iZ ln9))] → W p l e rm_X7_isFree s m args below meth c H locs 0 0 Q (F0 m 5 ls []) := by
    intro n5
    induction n5 with
    | zero =>
      intro fr9 i H locs ls hm
      exact absurd hm (by first | exact Nat.not_lt_zero _ | omega)
    | succ n5 ih5 =>
      intro fr9 i H locs ls hm5 hi hfr  hH hl
      refine lv_iload hx hb dX7_isFree_5 (lv_at hl 0 rfl) ?_
      refine x_iconst hx hb dX7_isFree_7 ?_
      refine x_icmp_ge (tgt := 49) hx hb dX7_isFree_8 (by decide) (by omega) (by decide) (fun c8 => ?_) (fun c8 => ?_)
      · refine lv_iload_n hx hb dX7_isFree_49 rfl (lv_at hl 1 rfl) ?_
        subst hQ
        exact x_zret (b := fr9) hx hb hr hlocks hH (Nat.le_of_ble_eq_true rfl) (Nat.le_of_ble_eq_true rfl) ⟨congrArg b2 (show fr9 = (frB pn ro ln9) from (by first | (have e9 : i = 5 := (by omega); subst e9; exact hfr) | (rw [hfr, frK_n c15]; exact (frK_n c15).symm))), rfl⟩ dX7_isFree_50
      · refine lv_iload_n hx hb dX7_isFree_11 rfl (lv_at hl 4 rfl) ?_
        refine x_cSID (As := [.int (iZ ln9)]) (rest := []) hx hb hml hts hown hK hST hOK hH (c_X7_isLine l E ST hSF σ ln9  (by omega)) (va_cwS 1 hts gX7_isFree_X7_isLine rfl rfl rfl (by decide +kernel) ⟨Nat.le_of_ble_eq_true rfl, Nat.le_of_ble_eq_true rfl⟩) rfl hl.1 rfl (Nat.le_of_ble_eq_true rfl) dX7_isFree_12 ⟨Nat.le_of_ble_eq_true rfl, Nat.le_of_ble_eq_true rfl⟩ (fun z u h => h) (fun H locs hH => ?_)
        refine x_ifb_eq (tgt := 49) hx hb dX7_isFree_15 (by decide) (fun c15 => ?_) (fun c15 => ?_)
        · have c15 := of_decide_eq_false c15
          refine lv_iload_n hx hb dX7_isFree_49 rfl (lv_at hl 1 rfl) ?_
          subst hQ
          exact x_zret (b := fr9) hx hb hr hlocks hH (Nat.le_of_ble_eq_true rfl) (Nat.le_of_ble_eq_true rfl) ⟨congrArg b2 (show fr9 = (frB pn ro ln9) from (by first | (have e9 : i = 5 := (by omega); subst e9; exact hfr) | (rw [hfr, frK_n c15]; exact (frK_n c15).symm))), rfl⟩ dX7_isFree_50
        · have c15 := of_decide_eq_true c15
          refine lv_iload_n hx hb dX7_isFree_18 rfl (lv_at hl 1 rfl) ?_
          refine x_ifb_eq (tgt := 41) hx hb dX7_isFree_19 (by decide) (fun c19 => ?_) (fun c19 => ?_)
          · refine x_iconst hx hb dX7_isFree_41 ?_
            refine lv_istore_n (lv' := [(3, .int (iZ 0)), (4, .int (iZ i)), (0, .ref (xad E 85)), (1, .int (iZ (b2 ro))), (2, .int (iZ ln9))]) hx hb dX7_isFree_42 rfl hl (by decide) rfl (fun ls hl => ?_)
            refine x_iinc (lv' := [(4, .int (iZ (i + 1))), (3, .int (iZ 0)), (0, .ref (xad E 85)), (1, .int (iZ (b2 ro))), (2, .int (iZ ln9))]) hx hb dX7_isFree_43 hl (k := 1) rfl (by decide) rfl (fun ls hl => ?_)
            refine lv_goto (tgt := 5) hx hb dX7_isFree_46 (by decide) ?_
            exact ih5 false (i + 1) _ _ _ (by omega) (by omega) (by first | exact (frK_f1 (hfr.symm.trans c19)).symm | exact (frK_t (hfr.symm.trans c19) c34).symm | exact (frK_f2 (by omega) (by omega) (by omega) c34).symm)  hH (lv_sub hl [0, 1, 2, 3, 4] rfl)
          · refine lv_aload_n hx hb dX7_isFree_22 rfl (lv_at hl 2 rfl) ?_
            refine lv_iload_n hx hb dX7_isFree_23 rfl (lv_at hl 3 rfl) ?_
            refine lv_iload_n hx hb dX7_isFree_24 rfl (lv_at hl 4 rfl) ?_
            refine lv_iload hx hb dX7_isFree_25 (lv_at hl 0 rfl) ?_
            refine x_cSID (As := [.int (iZ (b2 ro)), .int (iZ ln9), .int (iZ i)]) (rest := [.ref (xad E 85)]) hx hb hml hts hown hK hST hOK hH (c_X7_cellOf l E ST hSF σ ro ln9 i  (by omega) (by omega)) (va_cwS 3 hts gX7_isFree_X7_cellOf rfl rfl rfl (by decide +kernel) ⟨Nat.le_of_ble_eq_true rfl, Nat.le_of_ble_eq_true rfl⟩) rfl hl.1 rfl (Nat.le_of_ble_eq_true rfl) dX7_isFree_27 ⟨Nat.le_of_ble_eq_true rfl, Nat.le_of_ble_eq_true rfl⟩ (fun z u h => h) (fun H locs hH => ?_)
            skip
            rw [cellOf_eq]; have hce := lin_in (fs_lin (b := ro) (ln := ln9) (by omega) (by omega)) (i := i) (by omega) (by omega)
            refine x_iconst hx hb dX7_isFree_30 ?_
            refine x_cVID (As := [.int (iZ (fsZ ro ln9 + i * sdZ ro)), .int (iZ 1)]) (rest := []) hx hb hml hts hown hK hST hOK hH 85 (c_X7_of l E ST hSF σ (fsZ ro ln9 + i * sdZ ro) 1 sv re ea fa ty li th sz sp wr to v f85 f86 (by omega) (by omega)) (cwV 2 hts gX7_isFree_X7_of rfl rfl rfl (by decide +kernel) ⟨Nat.le_of_ble_eq_true rfl, Nat.le_of_ble_eq_true rfl⟩) (by decide) f85 rfl rfl hl.1 rfl (Nat.le_of_ble_eq_true rfl) dX7_isFree_31 ⟨Nat.le_of_ble_eq_true rfl, Nat.le_of_ble_eq_true rfl⟩ (fun z u h => h) (fun H locs hH => ?_)
            rw [hC.a1 (c := fsZ ro ln9 + i * sdZ ro) (by omega) (by omega)]
            have hv11 := fxZ_b (pn := pn) (c := fsZ ro ln9 + i * sdZ ro)
            refine x_if_ne (tgt := 41) hx hb dX7_isFree_34 (by decide) (by omega) (fun c34 => ?_) (fun c34 => ?_)
            · refine x_iconst hx hb dX7_isFree_41 ?_
              refine lv_istore_n (lv' := [(3, .int (iZ 0)), (4, .int (iZ i)), (0, .ref (xad E 85)), (1, .int (iZ (b2 ro))), (2, .int (iZ ln9))]) hx hb dX7_isFree_42 rfl hl (by decide) rfl (fun ls hl => ?_)
              refine x_iinc (lv' := [(4, .int (iZ (i + 1))), (3, .int (iZ 0)), (0, .ref (xad E 85)), (1, .int (iZ (b2 ro))), (2, .int (iZ ln9))]) hx hb dX7_isFree_43 hl (k := 1) rfl (by decide) rfl (fun ls hl => ?_)
              refine lv_goto (tgt := 5) hx hb dX7_isFree_46 (by decide) ?_
              exact ih5 false (i + 1) _ _ _ (by omega) (by omega) (by first | exact (frK_f1 (hfr.symm.trans c19)).symm | exact (frK_t (hfr.symm.trans c19) c34).symm | exact (frK_f2 (by omega) (by omega) (by omega) c34).symm)  hH (lv_sub hl [0, 1, 2, 3, 4] rfl)
            · refine x_iconst hx hb dX7_isFree_37 ?_
              refine lv_goto (tgt := 42) hx hb dX7_isFree_38 (by decide) ?_
              refine lv_istore_n (lv' := [(3, .int (iZ 1)), (4, .int (iZ i)), (0, .ref (xad E 85)), (1, .int (iZ (b2 ro))), (2, .int (iZ ln9))]) hx hb dX7_isFree_42 rfl hl (by decide) rfl (fun ls hl => ?_)
              refine x_iinc (lv' := [(4, .int (iZ (i + 1))), (3, .int (iZ 1)), (0, .ref (xad E 85)), (1, .int (iZ (b2 ro))), (2, .int (iZ ln9))]) hx hb dX7_isFree_43 hl (k := 1) rfl (by decide) rfl (fun ls hl => ?_)
              refine lv_goto (tgt := 5) hx hb dX7_isFree_46 (by decide) ?_
              exact ih5 true (i + 1) _ _ _ (by omega) (by omega) (by first | exact (frK_f1 (hfr.symm.trans c19)).symm | exact (frK_t (hfr.symm.trans c19) c34).symm | exact (frK_f2 (by omega) (by omega) (by omega) c34).symm)  hH (lv_sub hl [0, 1, 2, 3, 4] rfl)
  exact K5 6 true 0 _ _ _ (by first | omega | decide) (by omega) (by exact frK_0)  hH (lv_sub hl [0, 1, 2, 3, 4] rfl)

def rm_X7_canShiftRow : Room := { frames := 3, cells := 0, slots := 0, locals := 66 }
set_option maxRecDepth 100000 in
set_option maxHeartbeats 4000000 in
theorem c_X7_canShiftRow (l : Launch) (E : xE) (ST : xST) (hSF : SF ST) (σ : xW) (r : Int) (op : Int → Int) (lk : Int → Int) (kp : Int → Int) (wc : Int → Int) (pn : Int) (nw : Int) (sh : Int) (wk : Int) (sv : Bool) (re : Int) (ea : Int) (fa : Int) (ty : Int) (li : Int) (th : Int) (sz : Int) (sp : Int) (wr : Int) (to : Int) (v : Int → Int) (hr0 : mo E σ sv re ea fa ty li th sz sp wr to) (hr1 : now E σ v) (hC : Cp v op lk kp wc pn nw sh wk) (hB : BI op lk kp wc pn nw) (hr9 : rg r) : CI l E ST yX7_canShiftRow wsX7_canShiftRow rm_X7_canShiftRow [.ref (xad E 85), .int (iZ r)] σ (fun (z : Int) (u : xW) => z = b2 (dB (0 ≤ r ∧ r < 5) && lfB pn (r * 5) 1) ∧ (mo E u sv re ea fa ty li (k1 (0 ≤ r ∧ r < 5)) sz sp wr to ∧ now E u v) ∧ ∀ j : Nat, j ≠ 85 → u j = σ j) := by
  have f85 : σ 85 = oB 5 [.ref (xad E 86), .ref (xad E 87), .ref (xad E 88), .ref (xad E 89), .ref (xad E 90), .int (iZ (b2 sv)), .int (iZ re), .int (iZ ea), .int (iZ fa), .ref (xad E 91), .ref (xad E 92), .ref (xad E 93), .int (iZ ty), .ref (xad E 94), .int (iZ li), .int (iZ th), .int (iZ sz), .int (iZ sp), .int (iZ wr), .int (iZ to), .ref (xad E 95)] := hr0
  have f86 : σ 86 = aI E 87 v := hr1
  refine CI_of (by decide) rfl (Nat.le_of_ble_eq_true rfl) ?_
  intro p e s m args below meth c Q ls G hH hl hQ
  obtain ⟨hx, hb, hml, hown, hts, hK, hST, hlocks, hr, hno⟩ := G
  have hOK := hSF.1
  have hown : s.vm.findClass RX7 = some m.cls := hown
  have hl : lv_has ls 2 [(0, .ref (xad E 85)), (1, .int (iZ r))] := hl
  obtain ⟨hop, hlk, hkp, hwc, hpn, hnw⟩ := id hB
  have hvR := hC.R
  have hv0 := hC.1.1
  refine lv_aload_n hx hb dX7_canShiftRow_0 rfl (lv_at hl 0 rfl) ?_
  refine lv_iload_n hx hb dX7_canShiftRow_1 rfl (lv_at hl 1 rfl) ?_
  refine x_cSID (As := [.int (iZ r)]) (rest := [.ref (xad E 85)]) hx hb hml hts hown hK hST hOK hH (c_X7_isLine l E ST hSF σ r  (by omega)) (va_cwS 1 hts gX7_canShiftRow_X7_isLine rfl rfl rfl (by decide +kernel) ⟨Nat.le_of_ble_eq_true rfl, Nat.le_of_ble_eq_true rfl⟩) rfl hl.1 rfl (Nat.le_of_ble_eq_true rfl) dX7_canShiftRow_2 ⟨Nat.le_of_ble_eq_true rfl, Nat.le_of_ble_eq_true rfl⟩ (fun z u h => h) (fun H locs hH => ?_)
  refine x_cVIE (As := [.int (iZ (b2 (decide (0 ≤ r ∧ r ≤ 4))))]) (rest := []) hx hb hml hts hown hK hST hOK hH 85 (c_X7_goes l E ST hSF σ (decide (0 ≤ r ∧ r ≤ 4)) sv re ea fa ty li th sz sp wr to f85 ) (cwV 1 hts gX7_canShiftRow_X7_goes rfl rfl rfl (by decide +kernel) ⟨Nat.le_of_ble_eq_true rfl, Nat.le_of_ble_eq_true rfl⟩) (by decide) f85 rfl rfl hl.1 rfl (Nat.le_of_ble_eq_true rfl) dX7_canShiftRow_5 ⟨Nat.le_of_ble_eq_true rfl, Nat.le_of_ble_eq_true rfl⟩ (fun z u h => h) (fun σ5 H locs hp6 hH => ?_)
  obtain ⟨f85, fr7⟩ := hp6
  have f86 : σ5 86 = aI E 87 v := (fr7 86 (by omega)).trans f86
  refine x_ifb_eq (tgt := 24) hx hb dX7_canShiftRow_8 (by decide) (fun c8 => ?_) (fun c8 => ?_)
  · have c8 := of_decide_eq_false c8
    refine x_iconst hx hb dX7_canShiftRow_24 ?_
    subst hQ
    exact x_zret (b := false) hx hb hr hlocks hH (Nat.le_of_ble_eq_true rfl) (Nat.le_of_ble_eq_true rfl) ⟨congrArg b2 (show false = (dB (0 ≤ r ∧ r < 5) && lfB pn (r * 5) 1) from (by first | (rw [dB_t (show 0 ≤ r ∧ r < 5 by omega), ← frB_row (by omega) (by omega), c17]; rfl) | (rw [dB_f (show ¬ (0 ≤ r ∧ r < 5) by omega)]; rfl))), ⟨(f85.trans (by rw [g1_l])), f86⟩, fun j hj0 => (fr7 j (by omega))⟩ dX7_canShiftRow_25
  · have c8 := of_decide_eq_true c8
    refine lv_aload_n hx hb dX7_canShiftRow_11 rfl (lv_at hl 0 rfl) ?_
    refine x_iconst hx hb dX7_canShiftRow_12 ?_
    refine lv_iload_n hx hb dX7_canShiftRow_13 rfl (lv_at hl 1 rfl) ?_
    refine x_cVID (As := [.int (iZ 1), .int (iZ r)]) (rest := []) hx hb hml hts hown hK hST hOK hH 85 (c_X7_isFree l E ST hSF σ5 true r op lk kp wc pn nw sh wk sv re ea fa ty li (if (decide (0 ≤ r ∧ r ≤ 4)) = true then 0 else 1) sz sp wr to v f85 f86 (by assumption) (by omega) (by omega)) (cwV 2 hts gX7_canShiftRow_X7_isFree rfl rfl rfl (by decide +kernel) ⟨Nat.le_of_ble_eq_true rfl, Nat.le_of_ble_eq_true rfl⟩) (by decide) f85 rfl rfl hl.1 rfl (Nat.le_of_ble_eq_true rfl) dX7_canShiftRow_14 ⟨Nat.le_of_ble_eq_true rfl, Nat.le_of_ble_eq_true rfl⟩ (fun z u h => h) (fun H locs hH => ?_)
    refine x_ifb_eq (tgt := 24) hx hb dX7_canShiftRow_17 (by decide) (fun c17 => ?_) (fun c17 => ?_)
    · refine x_iconst hx hb dX7_canShiftRow_24 ?_
      subst hQ
      exact x_zret (b := false) hx hb hr hlocks hH (Nat.le_of_ble_eq_true rfl) (Nat.le_of_ble_eq_true rfl) ⟨congrArg b2 (show false = (dB (0 ≤ r ∧ r < 5) && lfB pn (r * 5) 1) from (by first | (rw [dB_t (show 0 ≤ r ∧ r < 5 by omega), ← frB_row (by omega) (by omega), c17]; rfl) | (rw [dB_f (show ¬ (0 ≤ r ∧ r < 5) by omega)]; rfl))), ⟨(f85.trans (by rw [g1_l])), f86⟩, fun j hj0 => (fr7 j (by omega))⟩ dX7_canShiftRow_25
    · refine x_iconst hx hb dX7_canShiftRow_20 ?_
      refine lv_goto (tgt := 25) hx hb dX7_canShiftRow_21 (by decide) ?_
      subst hQ
      exact x_zret (b := true) hx hb hr hlocks hH (Nat.le_of_ble_eq_true rfl) (Nat.le_of_ble_eq_true rfl) ⟨congrArg b2 (show true = (dB (0 ≤ r ∧ r < 5) && lfB pn (r * 5) 1) from (by first | (rw [dB_t (show 0 ≤ r ∧ r < 5 by omega), ← frB_row (by omega) (by omega), c17]; rfl) | (rw [dB_f (show ¬ (0 ≤ r ∧ r < 5) by omega)]; rfl))), ⟨(f85.trans (by rw [g1_l])), f86⟩, fun j hj0 => (fr7 j (by omega))⟩ dX7_canShiftRow_25

def rm_X7_canShiftColumn : Room := { frames := 3, cells := 0, slots := 0, locals := 66 }
set_option maxRecDepth 100000 in
set_option maxHeartbeats 4000000 in
theorem c_X7_canShiftColumn (l : Launch) (E : xE) (ST : xST) (hSF : SF ST) (σ : xW) (r : Int) (op : Int → Int) (lk : Int → Int) (kp : Int → Int) (wc : Int → Int) (pn : Int) (nw : Int) (sh : Int) (wk : Int) (sv : Bool) (re : Int) (ea : Int) (fa : Int) (ty : Int) (li : Int) (th : Int) (sz : Int) (sp : Int) (wr : Int) (to : Int) (v : Int → Int) (hr0 : mo E σ sv re ea fa ty li th sz sp wr to) (hr1 : now E σ v) (hC : Cp v op lk kp wc pn nw sh wk) (hB : BI op lk kp wc pn nw) (hr9 : rg r) : CI l E ST yX7_canShiftColumn wsX7_canShiftColumn rm_X7_canShiftColumn [.ref (xad E 85), .int (iZ r)] σ (fun (z : Int) (u : xW) => z = b2 (dB (0 ≤ r ∧ r < 5) && lfB pn r 5) ∧ (mo E u sv re ea fa ty li (k1 (0 ≤ r ∧ r < 5)) sz sp wr to ∧ now E u v) ∧ ∀ j : Nat, j ≠ 85 → u j = σ j) := by
  have f85 : σ 85 = oB 5 [.ref (xad E 86), .ref (xad E 87), .ref (xad E 88), .ref (xad E 89), .ref (xad E 90), .int (iZ (b2 sv)), .int (iZ re), .int (iZ ea), .int (iZ fa), .ref (xad E 91), .ref (xad E 92), .ref (xad E 93), .int (iZ ty), .ref (xad E 94), .int (iZ li), .int (iZ th), .int (iZ sz), .int (iZ sp), .int (iZ wr), .int (iZ to), .ref (xad E 95)] := hr0
  have f86 : σ 86 = aI E 87 v := hr1
  refine CI_of (by decide) rfl (Nat.le_of_ble_eq_true rfl) ?_
  intro p e s m args below meth c Q ls G hH hl hQ
  obtain ⟨hx, hb, hml, hown, hts, hK, hST, hlocks, hr, hno⟩ := G
  have hOK := hSF.1
  have hown : s.vm.findClass RX7 = some m.cls := hown
  have hl : lv_has ls 2 [(0, .ref (xad E 85)), (1, .int (iZ r))] := hl
  obtain ⟨hop, hlk, hkp, hwc, hpn, hnw⟩ := id hB
  have hvR := hC.R
  have hv0 := hC.1.1
  refine lv_aload_n hx hb dX7_canShiftColumn_0 rfl (lv_at hl 0 rfl) ?_
  refine lv_iload_n hx hb dX7_canShiftColumn_1 rfl (lv_at hl 1 rfl) ?_
  refine x_cSID (As := [.int (iZ r)]) (rest := [.ref (xad E 85)]) hx hb hml hts hown hK hST hOK hH (c_X7_isLine l E ST hSF σ r  (by omega)) (va_cwS 1 hts gX7_canShiftColumn_X7_isLine rfl rfl rfl (by decide +kernel) ⟨Nat.le_of_ble_eq_true rfl, Nat.le_of_ble_eq_true rfl⟩) rfl hl.1 rfl (Nat.le_of_ble_eq_true rfl) dX7_canShiftColumn_2 ⟨Nat.le_of_ble_eq_true rfl, Nat.le_of_ble_eq_true rfl⟩ (fun z u h => h) (fun H locs hH => ?_)
  refine x_cVIE (As := [.int (iZ (b2 (decide (0 ≤ r ∧ r ≤ 4))))]) (rest := []) hx hb hml hts hown hK hST hOK hH 85 (c_X7_goes l E ST hSF σ (decide (0 ≤ r ∧ r ≤ 4)) sv re ea fa ty li th sz sp wr to f85 ) (cwV 1 hts gX7_canShiftColumn_X7_goes rfl rfl rfl (by decide +kernel) ⟨Nat.le_of_ble_eq_true rfl, Nat.le_of_ble_eq_true rfl⟩) (by decide) f85 rfl rfl hl.1 rfl (Nat.le_of_ble_eq_true rfl) dX7_canShiftColumn_5 ⟨Nat.le_of_ble_eq_true rfl, Nat.le_of_ble_eq_true rfl⟩ (fun z u h => h) (fun σ5 H locs hp6 hH => ?_)
  obtain ⟨f85, fr7⟩ := hp6
  have f86 : σ5 86 = aI E 87 v := (fr7 86 (by omega)).trans f86
  refine x_ifb_eq (tgt := 24) hx hb dX7_canShiftColumn_8 (by decide) (fun c8 => ?_) (fun c8 => ?_)
  · have c8 := of_decide_eq_false c8
    refine x_iconst hx hb dX7_canShiftColumn_24 ?_
    subst hQ
    exact x_zret (b := false) hx hb hr hlocks hH (Nat.le_of_ble_eq_true rfl) (Nat.le_of_ble_eq_true rfl) ⟨congrArg b2 (show false = (dB (0 ≤ r ∧ r < 5) && lfB pn r 5) from (by first | (rw [dB_t (show 0 ≤ r ∧ r < 5 by omega), ← frB_col (by omega) (by omega), c17]; rfl) | (rw [dB_f (show ¬ (0 ≤ r ∧ r < 5) by omega)]; rfl))), ⟨(f85.trans (by rw [g1_l])), f86⟩, fun j hj0 => (fr7 j (by omega))⟩ dX7_canShiftColumn_25
  · have c8 := of_decide_eq_true c8
    refine lv_aload_n hx hb dX7_canShiftColumn_11 rfl (lv_at hl 0 rfl) ?_
    refine x_iconst hx hb dX7_canShiftColumn_12 ?_
    refine lv_iload_n hx hb dX7_canShiftColumn_13 rfl (lv_at hl 1 rfl) ?_
    refine x_cVID (As := [.int (iZ 0), .int (iZ r)]) (rest := []) hx hb hml hts hown hK hST hOK hH 85 (c_X7_isFree l E ST hSF σ5 false r op lk kp wc pn nw sh wk sv re ea fa ty li (if (decide (0 ≤ r ∧ r ≤ 4)) = true then 0 else 1) sz sp wr to v f85 f86 (by assumption) (by omega) (by omega)) (cwV 2 hts gX7_canShiftColumn_X7_isFree rfl rfl rfl (by decide +kernel) ⟨Nat.le_of_ble_eq_true rfl, Nat.le_of_ble_eq_true rfl⟩) (by decide) f85 rfl rfl hl.1 rfl (Nat.le_of_ble_eq_true rfl) dX7_canShiftColumn_14 ⟨Nat.le_of_ble_eq_true rfl, Nat.le_of_ble_eq_true rfl⟩ (fun z u h => h) (fun H locs hH => ?_)
    refine x_ifb_eq (tgt := 24) hx hb dX7_canShiftColumn_17 (by decide) (fun c17 => ?_) (fun c17 => ?_)
    · refine x_iconst hx hb dX7_canShiftColumn_24 ?_
      subst hQ
      exact x_zret (b := false) hx hb hr hlocks hH (Nat.le_of_ble_eq_true rfl) (Nat.le_of_ble_eq_true rfl) ⟨congrArg b2 (show false = (dB (0 ≤ r ∧ r < 5) && lfB pn r 5) from (by first | (rw [dB_t (show 0 ≤ r ∧ r < 5 by omega), ← frB_col (by omega) (by omega), c17]; rfl) | (rw [dB_f (show ¬ (0 ≤ r ∧ r < 5) by omega)]; rfl))), ⟨(f85.trans (by rw [g1_l])), f86⟩, fun j hj0 => (fr7 j (by omega))⟩ dX7_canShiftColumn_25
    · refine x_iconst hx hb dX7_canShiftColumn_20 ?_
      refine lv_goto (tgt := 25) hx hb dX7_canShiftColumn_21 (by decide) ?_
      subst hQ
      exact x_zret (b := true) hx hb hr hlocks hH (Nat.le_of_ble_eq_true rfl) (Nat.le_of_ble_eq_true rfl) ⟨congrArg b2 (show true = (dB (0 ≤ r ∧ r < 5) && lfB pn r 5) from (by first | (rw [dB_t (show 0 ≤ r ∧ r < 5 by omega), ← frB_col (by omega) (by omega), c17]; rfl) | (rw [dB_f (show ¬ (0 ≤ r ∧ r < 5) by omega)]; rfl))), ⟨(f85.trans (by rw [g1_l])), f86⟩, fun j hj0 => (fr7 j (by omega))⟩ dX7_canShiftColumn_25

def rm_X7_hasLock : Room := { frames := 4, cells := 0, slots := 0, locals := 84 }
set_option maxRecDepth 100000 in
set_option maxHeartbeats 4000000 in
theorem c_X7_hasLock (l : Launch) (E : xE) (ST : xST) (hSF : SF ST) (σ : xW) (r : Int) (c0 : Int) (op : Int → Int) (lk : Int → Int) (kp : Int → Int) (wc : Int → Int) (pn : Int) (nw : Int) (sh : Int) (wk : Int) (sv : Bool) (re : Int) (ea : Int) (fa : Int) (ty : Int) (li : Int) (th : Int) (sz : Int) (sp : Int) (wr : Int) (to : Int) (v : Int → Int) (hr0 : mo E σ sv re ea fa ty li th sz sp wr to) (hr1 : now E σ v) (hC : Cp v op lk kp wc pn nw sh wk) (hB : BI op lk kp wc pn nw) (hr9 : rg r) (hc9 : rg c0) : CI l E ST yX7_hasLock wsX7_hasLock rm_X7_hasLock [.ref (xad E 85), .int (iZ r), .int (iZ c0)] σ (fun (z : Int) (u : xW) => z = b2 (decide (okC r c0 ∧ ¬ lk (r * 5 + c0) = -1)) ∧ (mo E u sv re ea fa ty li (k1 (okC r c0)) sz sp wr to ∧ now E u v) ∧ ∀ j : Nat, j ≠ 85 → u j = σ j) := by
  have f85 : σ 85 = oB 5 [.ref (xad E 86), .ref (xad E 87), .ref (xad E 88), .ref (xad E 89), .ref (xad E 90), .int (iZ (b2 sv)), .int (iZ re), .int (iZ ea), .int (iZ fa), .ref (xad E 91), .ref (xad E 92), .ref (xad E 93), .int (iZ ty), .ref (xad E 94), .int (iZ li), .int (iZ th), .int (iZ sz), .int (iZ sp), .int (iZ wr), .int (iZ to), .ref (xad E 95)] := hr0
  have f86 : σ 86 = aI E 87 v := hr1
  refine CI_of (by decide) rfl (Nat.le_of_ble_eq_true rfl) ?_
  intro p e s m args below meth c Q ls G hH hl hQ
  obtain ⟨hx, hb, hml, hown, hts, hK, hST, hlocks, hr, hno⟩ := G
  have hOK := hSF.1
  have hown : s.vm.findClass RX7 = some m.cls := hown
  have hl : lv_has ls 3 [(0, .ref (xad E 85)), (1, .int (iZ r)), (2, .int (iZ c0))] := hl
  obtain ⟨hop, hlk, hkp, hwc, hpn, hnw⟩ := id hB
  have hvR := hC.R
  have hv0 := hC.1.1
  have hcz := cellZ_rg (r := r) (c := c0)
  refine lv_aload_n hx hb dX7_hasLock_0 rfl (lv_at hl 0 rfl) ?_
  refine lv_iload_n hx hb dX7_hasLock_1 rfl (lv_at hl 1 rfl) ?_
  refine lv_iload_n hx hb dX7_hasLock_2 rfl (lv_at hl 2 rfl) ?_
  refine x_cSID (As := [.int (iZ r), .int (iZ c0)]) (rest := [.ref (xad E 85)]) hx hb hml hts hown hK hST hOK hH (c_X7_isCell l E ST hSF σ r c0  (by omega) (by omega)) (va_cwS 2 hts gX7_hasLock_X7_isCell rfl rfl rfl (by decide +kernel) ⟨Nat.le_of_ble_eq_true rfl, Nat.le_of_ble_eq_true rfl⟩) rfl hl.1 rfl (Nat.le_of_ble_eq_true rfl) dX7_hasLock_3 ⟨Nat.le_of_ble_eq_true rfl, Nat.le_of_ble_eq_true rfl⟩ (fun z u h => h) (fun H locs hH => ?_)
  refine x_cVIE (As := [.int (iZ (b2 (decide ((0 ≤ r ∧ r ≤ 4) ∧ (0 ≤ c0 ∧ c0 ≤ 4)))))]) (rest := []) hx hb hml hts hown hK hST hOK hH 85 (c_X7_goes l E ST hSF σ (decide ((0 ≤ r ∧ r ≤ 4) ∧ (0 ≤ c0 ∧ c0 ≤ 4))) sv re ea fa ty li th sz sp wr to f85 ) (cwV 1 hts gX7_hasLock_X7_goes rfl rfl rfl (by decide +kernel) ⟨Nat.le_of_ble_eq_true rfl, Nat.le_of_ble_eq_true rfl⟩) (by decide) f85 rfl rfl hl.1 rfl (Nat.le_of_ble_eq_true rfl) dX7_hasLock_6 ⟨Nat.le_of_ble_eq_true rfl, Nat.le_of_ble_eq_true rfl⟩ (fun z u h => h) (fun σ5 H locs hp6 hH => ?_)
  obtain ⟨f85, fr7⟩ := hp6
  have f86 : σ5 86 = aI E 87 v := (fr7 86 (by omega)).trans f86
  refine x_ifb_eq (tgt := 30) hx hb dX7_hasLock_9 (by decide) (fun c9 => ?_) (fun c9 => ?_)
  · have c9 := of_decide_eq_false c9
    refine x_iconst hx hb dX7_hasLock_30 ?_
    subst hQ
    exact x_zret (b := false) hx hb hr hlocks hH (Nat.le_of_ble_eq_true rfl) (Nat.le_of_ble_eq_true rfl) ⟨congrArg b2 (show false = (decide (okC r c0 ∧ ¬ lk (r * 5 + c0) = -1)) from (by first | exact (decide_eq_true ⟨by omega, by omega⟩).symm | exact (decide_eq_false (fun q => q.2 (by omega))).symm | exact (decide_eq_false (fun q => absurd q.1 (by omega))).symm)), ⟨(f85.trans (by rw [g1_c])), f86⟩, fun j hj0 => (fr7 j (by omega))⟩ dX7_hasLock_31
  · have c9 := of_decide_eq_true c9
    refine lv_aload_n hx hb dX7_hasLock_12 rfl (lv_at hl 0 rfl) ?_
    refine lv_iload_n hx hb dX7_hasLock_13 rfl (lv_at hl 1 rfl) ?_
    refine lv_iload_n hx hb dX7_hasLock_14 rfl (lv_at hl 2 rfl) ?_
    refine x_cSID (As := [.int (iZ r), .int (iZ c0)]) (rest := [.ref (xad E 85)]) hx hb hml hts hown hK hST hOK hH (c_X7_cellAt l E ST hSF σ5 r c0  (by omega) (by omega)) (va_cwS 2 hts gX7_hasLock_X7_cellAt rfl rfl rfl (by decide +kernel) ⟨Nat.le_of_ble_eq_true rfl, Nat.le_of_ble_eq_true rfl⟩) rfl hl.1 rfl (Nat.le_of_ble_eq_true rfl) dX7_hasLock_15 ⟨Nat.le_of_ble_eq_true rfl, Nat.le_of_ble_eq_true rfl⟩ (fun z u h => h) (fun H locs hH => ?_)
    rw [cellZ_ok (by omega)]
    refine x_iconst hx hb dX7_hasLock_18 ?_
    refine x_cVID (As := [.int (iZ (r * 5 + c0)), .int (iZ 2)]) (rest := []) hx hb hml hts hown hK hST hOK hH 85 (c_X7_of l E ST hSF σ5 (r * 5 + c0) 2 sv re ea fa ty li (if (decide ((0 ≤ r ∧ r ≤ 4) ∧ (0 ≤ c0 ∧ c0 ≤ 4))) = true then 0 else 1) sz sp wr to v f85 f86 (by omega) (by omega)) (cwV 2 hts gX7_hasLock_X7_of rfl rfl rfl (by decide +kernel) ⟨Nat.le_of_ble_eq_true rfl, Nat.le_of_ble_eq_true rfl⟩) (by decide) f85 rfl rfl hl.1 rfl (Nat.le_of_ble_eq_true rfl) dX7_hasLock_19 ⟨Nat.le_of_ble_eq_true rfl, Nat.le_of_ble_eq_true rfl⟩ (fun z u h => h) (fun H locs hH => ?_)
    rw [hC.a2 (c := r * 5 + c0) (by omega) (by omega)]
    have hv15 := hlk (r * 5 + c0)
    refine x_iconst hx hb dX7_hasLock_22 ?_
    refine x_icmp_eq (tgt := 30) hx hb dX7_hasLock_23 (by decide) (by omega) (by decide) (fun c23 => ?_) (fun c23 => ?_)
    · refine x_iconst hx hb dX7_hasLock_30 ?_
      subst hQ
      exact x_zret (b := false) hx hb hr hlocks hH (Nat.le_of_ble_eq_true rfl) (Nat.le_of_ble_eq_true rfl) ⟨congrArg b2 (show false = (decide (okC r c0 ∧ ¬ lk (r * 5 + c0) = -1)) from (by first | exact (decide_eq_true ⟨by omega, by omega⟩).symm | exact (decide_eq_false (fun q => q.2 (by omega))).symm | exact (decide_eq_false (fun q => absurd q.1 (by omega))).symm)), ⟨(f85.trans (by rw [g1_c])), f86⟩, fun j hj0 => (fr7 j (by omega))⟩ dX7_hasLock_31
    · refine x_iconst hx hb dX7_hasLock_26 ?_
      refine lv_goto (tgt := 31) hx hb dX7_hasLock_27 (by decide) ?_
      subst hQ
      exact x_zret (b := true) hx hb hr hlocks hH (Nat.le_of_ble_eq_true rfl) (Nat.le_of_ble_eq_true rfl) ⟨congrArg b2 (show true = (decide (okC r c0 ∧ ¬ lk (r * 5 + c0) = -1)) from (by first | exact (decide_eq_true ⟨by omega, by omega⟩).symm | exact (decide_eq_false (fun q => q.2 (by omega))).symm | exact (decide_eq_false (fun q => absurd q.1 (by omega))).symm)), ⟨(f85.trans (by rw [g1_c])), f86⟩, fun j hj0 => (fr7 j (by omega))⟩ dX7_hasLock_31

def rm_X7_lockAt : Room := { frames := 4, cells := 0, slots := 0, locals := 84 }
set_option maxRecDepth 100000 in
set_option maxHeartbeats 4000000 in
theorem c_X7_lockAt (l : Launch) (E : xE) (ST : xST) (hSF : SF ST) (σ : xW) (r : Int) (c0 : Int) (op : Int → Int) (lk : Int → Int) (kp : Int → Int) (wc : Int → Int) (pn : Int) (nw : Int) (sh : Int) (wk : Int) (sv : Bool) (re : Int) (ea : Int) (fa : Int) (ty : Int) (li : Int) (th : Int) (sz : Int) (sp : Int) (wr : Int) (to : Int) (v : Int → Int) (hr0 : mo E σ sv re ea fa ty li th sz sp wr to) (hr1 : now E σ v) (hC : Cp v op lk kp wc pn nw sh wk) (hB : BI op lk kp wc pn nw) (hr9 : rg r) (hc9 : rg c0) : CI l E ST yX7_lockAt wsX7_lockAt rm_X7_lockAt [.ref (xad E 85), .int (iZ r), .int (iZ c0)] σ (fun (z : Int) (u : xW) => (k2 (okC r c0) (¬ lk (r * 5 + c0) = -1) = 0 → z = 97 + lk (r * 5 + c0)) ∧ (mo E u sv re ea fa ty li (k2 (okC r c0) (¬ lk (r * 5 + c0) = -1)) sz sp wr to ∧ now E u v) ∧ ∀ j : Nat, j ≠ 85 → u j = σ j) := by
  have f85 : σ 85 = oB 5 [.ref (xad E 86), .ref (xad E 87), .ref (xad E 88), .ref (xad E 89), .ref (xad E 90), .int (iZ (b2 sv)), .int (iZ re), .int (iZ ea), .int (iZ fa), .ref (xad E 91), .ref (xad E 92), .ref (xad E 93), .int (iZ ty), .ref (xad E 94), .int (iZ li), .int (iZ th), .int (iZ sz), .int (iZ sp), .int (iZ wr), .int (iZ to), .ref (xad E 95)] := hr0
  have f86 : σ 86 = aI E 87 v := hr1
  refine CI_of (by decide) rfl (Nat.le_of_ble_eq_true rfl) ?_
  intro p e s m args below meth c Q ls G hH hl hQ
  obtain ⟨hx, hb, hml, hown, hts, hK, hST, hlocks, hr, hno⟩ := G
  have hOK := hSF.1
  have hown : s.vm.findClass RX7 = some m.cls := hown
  have hl : lv_has ls 4 [(0, .ref (xad E 85)), (1, .int (iZ r)), (2, .int (iZ c0))] := hl
  obtain ⟨hop, hlk, hkp, hwc, hpn, hnw⟩ := id hB
  have hvR := hC.R
  have hv0 := hC.1.1
  have hcz := cellZ_rg (r := r) (c := c0)
  have hlq := hlk (cellZ r c0)
  refine lv_aload_n hx hb dX7_lockAt_0 rfl (lv_at hl 0 rfl) ?_
  refine lv_iload_n hx hb dX7_lockAt_1 rfl (lv_at hl 1 rfl) ?_
  refine lv_iload_n hx hb dX7_lockAt_2 rfl (lv_at hl 2 rfl) ?_
  refine x_cSID (As := [.int (iZ r), .int (iZ c0)]) (rest := [.ref (xad E 85)]) hx hb hml hts hown hK hST hOK hH (c_X7_cellAt l E ST hSF σ r c0  (by omega) (by omega)) (va_cwS 2 hts gX7_lockAt_X7_cellAt rfl rfl rfl (by decide +kernel) ⟨Nat.le_of_ble_eq_true rfl, Nat.le_of_ble_eq_true rfl⟩) rfl hl.1 rfl (Nat.le_of_ble_eq_true rfl) dX7_lockAt_3 ⟨Nat.le_of_ble_eq_true rfl, Nat.le_of_ble_eq_true rfl⟩ (fun z u h => h) (fun H locs hH => ?_)
  refine x_iconst hx hb dX7_lockAt_6 ?_
  refine x_cVID (As := [.int (iZ (cellZ r c0)), .int (iZ 2)]) (rest := []) hx hb hml hts hown hK hST hOK hH 85 (c_X7_of l E ST hSF σ (cellZ r c0) 2 sv re ea fa ty li th sz sp wr to v f85 f86 (by omega) (by omega)) (cwV 2 hts gX7_lockAt_X7_of rfl rfl rfl (by decide +kernel) ⟨Nat.le_of_ble_eq_true rfl, Nat.le_of_ble_eq_true rfl⟩) (by decide) f85 rfl rfl hl.1 rfl (Nat.le_of_ble_eq_true rfl) dX7_lockAt_7 ⟨Nat.le_of_ble_eq_true rfl, Nat.le_of_ble_eq_true rfl⟩ (fun z u h => h) (fun H locs hH => ?_)
  rw [hC.a2 (c := cellZ r c0) (by omega) (by omega)]
  have hv7 := hlk (cellZ r c0)
  refine lv_istore_n (lv' := [(3, .int (iZ (lk (cellZ r c0)))), (0, .ref (xad E 85)), (1, .int (iZ r)), (2, .int (iZ c0))]) hx hb dX7_lockAt_10 rfl hl (by decide) rfl (fun ls hl => ?_)
  refine lv_aload_n hx hb dX7_lockAt_11 rfl (lv_at hl 1 rfl) ?_
  refine lv_iload_n hx hb dX7_lockAt_12 rfl (lv_at hl 2 rfl) ?_
  refine lv_iload_n hx hb dX7_lockAt_13 rfl (lv_at hl 3 rfl) ?_
  refine x_cSID (As := [.int (iZ r), .int (iZ c0)]) (rest := [.ref (xad E 85)]) hx hb hml hts hown hK hST hOK hH (c_X7_isCell l E ST hSF σ r c0  (by omega) (by omega)) (va_cwS 2 hts gX7_lockAt_X7_isCell rfl rfl rfl (by decide +kernel) ⟨Nat.le_of_ble_eq_true rfl, Nat.le_of_ble_eq_true rfl⟩) rfl hl.1 rfl (Nat.le_of_ble_eq_true rfl) dX7_lockAt_14 ⟨Nat.le_of_ble_eq_true rfl, Nat.le_of_ble_eq_true rfl⟩ (fun z u h => h) (fun H locs hH => ?_)
  refine lv_iload_n hx hb dX7_lockAt_17 rfl (lv_at hl 0 rfl) ?_
  refine x_iconst hx hb dX7_lockAt_18 ?_
  refine x_icmp_eq (tgt := 26) hx hb dX7_lockAt_19 (by decide) (by omega) (by decide) (fun c19 => ?_) (fun c19 => ?_)
  · refine x_iconst hx hb dX7_lockAt_26 ?_
    refine x_iconst hx hb dX7_lockAt_27 ?_
    refine x_cVIE (As := [.int (iZ (b2 (decide ((0 ≤ r ∧ r ≤ 4) ∧ (0 ≤ c0 ∧ c0 ≤ 4))))), .int (iZ 0), .int (iZ 1)]) (rest := []) hx hb hml hts hown hK hST hOK hH 85 (c_X7_holds l E ST hSF σ (decide ((0 ≤ r ∧ r ≤ 4) ∧ (0 ≤ c0 ∧ c0 ≤ 4))) false true sv re ea fa ty li th sz sp wr to f85 ) (cwV 3 hts gX7_lockAt_X7_holds rfl rfl rfl (by decide +kernel) ⟨Nat.le_of_ble_eq_true rfl, Nat.le_of_ble_eq_true rfl⟩) (by decide) f85 rfl rfl hl.1 rfl (Nat.le_of_ble_eq_true rfl) dX7_lockAt_28 ⟨Nat.le_of_ble_eq_true rfl, Nat.le_of_ble_eq_true rfl⟩ (fun z u h => h) (fun σ12 H locs hp13 hH => ?_)
    obtain ⟨f85, fr14⟩ := hp13
    have f86 : σ12 86 = aI E 87 v := (fr14 86 (by omega)).trans f86
    refine x_ifb_eq (tgt := 42) hx hb dX7_lockAt_31 (by decide) (fun c31 => ?_) (fun c31 => ?_)
    · refine x_iconst hx hb dX7_lockAt_42 ?_
      subst hQ
      exact x_cret hx hb hr hlocks hH (Nat.le_of_ble_eq_true rfl) (Nat.le_of_ble_eq_true rfl) (by omega) (by omega) ⟨(by first | (intro h; rw [cellZ_ok (k2_is.mp h).1]) | (intro h; exfalso; have h9 := k2_is.mp h; rw [← cellZ_ok h9.1] at h9; first | exact h9.2 c19 | exact okZ_f.mp c31 ⟨isC_d h9.1, rfl, rfl⟩)), ⟨(f85.trans (by rw [g2_of (P := okC r c0) (Q := ¬ lk (r * 5 + c0) = -1) (by omega) (fun h => by rw [← cellZ_ok h]; simp [c19])])), f86⟩, fun j hj0 => (fr14 j (by omega))⟩ dX7_lockAt_43
    · refine x_bipush hx hb dX7_lockAt_34 (by decide) ?_
      refine lv_iload_n hx hb dX7_lockAt_36 rfl (lv_at hl 0 rfl) ?_
      refine x_iadd hx hb dX7_lockAt_37 ?_
      refine x_i2c hx hb dX7_lockAt_38 ?_
      rw [i2cZ_in (by omega) (by omega)]
      refine lv_goto (tgt := 43) hx hb dX7_lockAt_39 (by decide) ?_
      subst hQ
      exact x_cret hx hb hr hlocks hH (Nat.le_of_ble_eq_true rfl) (Nat.le_of_ble_eq_true rfl) (by omega) (by omega) ⟨(by first | (intro h; rw [cellZ_ok (k2_is.mp h).1]) | (intro h; exfalso; have h9 := k2_is.mp h; rw [← cellZ_ok h9.1] at h9; first | exact h9.2 c19 | exact okZ_f.mp c31 ⟨isC_d h9.1, rfl, rfl⟩)), ⟨(f85.trans (by rw [g2_of (P := okC r c0) (Q := ¬ lk (r * 5 + c0) = -1) (by omega) (fun h => by rw [← cellZ_ok h]; simp [c19])])), f86⟩, fun j hj0 => (fr14 j (by omega))⟩ dX7_lockAt_43
  · refine x_iconst hx hb dX7_lockAt_22 ?_
    refine lv_goto (tgt := 27) hx hb dX7_lockAt_23 (by decide) ?_
    refine x_iconst hx hb dX7_lockAt_27 ?_
    refine x_cVIE (As := [.int (iZ (b2 (decide ((0 ≤ r ∧ r ≤ 4) ∧ (0 ≤ c0 ∧ c0 ≤ 4))))), .int (iZ 1), .int (iZ 1)]) (rest := []) hx hb hml hts hown hK hST hOK hH 85 (c_X7_holds l E ST hSF σ (decide ((0 ≤ r ∧ r ≤ 4) ∧ (0 ≤ c0 ∧ c0 ≤ 4))) true true sv re ea fa ty li th sz sp wr to f85 ) (cwV 3 hts gX7_lockAt_X7_holds rfl rfl rfl (by decide +kernel) ⟨Nat.le_of_ble_eq_true rfl, Nat.le_of_ble_eq_true rfl⟩) (by decide) f85 rfl rfl hl.1 rfl (Nat.le_of_ble_eq_true rfl) dX7_lockAt_28 ⟨Nat.le_of_ble_eq_true rfl, Nat.le_of_ble_eq_true rfl⟩ (fun z u h => h) (fun σ17 H locs hp18 hH => ?_)
    obtain ⟨f85, fr19⟩ := hp18
    have f86 : σ17 86 = aI E 87 v := (fr19 86 (by omega)).trans f86
    refine x_ifb_eq (tgt := 42) hx hb dX7_lockAt_31 (by decide) (fun c31 => ?_) (fun c31 => ?_)
    · refine x_iconst hx hb dX7_lockAt_42 ?_
      subst hQ
      exact x_cret hx hb hr hlocks hH (Nat.le_of_ble_eq_true rfl) (Nat.le_of_ble_eq_true rfl) (by omega) (by omega) ⟨(by first | (intro h; rw [cellZ_ok (k2_is.mp h).1]) | (intro h; exfalso; have h9 := k2_is.mp h; rw [← cellZ_ok h9.1] at h9; first | exact h9.2 c19 | exact okZ_f.mp c31 ⟨isC_d h9.1, rfl, rfl⟩)), ⟨(f85.trans (by rw [g2_of (P := okC r c0) (Q := ¬ lk (r * 5 + c0) = -1) (by omega) (fun h => by rw [← cellZ_ok h]; simp [c19])])), f86⟩, fun j hj0 => (fr19 j (by omega))⟩ dX7_lockAt_43
    · refine x_bipush hx hb dX7_lockAt_34 (by decide) ?_
      refine lv_iload_n hx hb dX7_lockAt_36 rfl (lv_at hl 0 rfl) ?_
      refine x_iadd hx hb dX7_lockAt_37 ?_
      refine x_i2c hx hb dX7_lockAt_38 ?_
      rw [i2cZ_in (by omega) (by omega)]
      refine lv_goto (tgt := 43) hx hb dX7_lockAt_39 (by decide) ?_
      subst hQ
      exact x_cret hx hb hr hlocks hH (Nat.le_of_ble_eq_true rfl) (Nat.le_of_ble_eq_true rfl) (by omega) (by omega) ⟨(by first | (intro h; rw [cellZ_ok (k2_is.mp h).1]) | (intro h; exfalso; have h9 := k2_is.mp h; rw [← cellZ_ok h9.1] at h9; first | exact h9.2 c19 | exact okZ_f.mp c31 ⟨isC_d h9.1, rfl, rfl⟩)), ⟨(f85.trans (by rw [g2_of (P := okC r c0) (Q := ¬ lk (r * 5 + c0) = -1) (by omega) (fun h => by rw [← cellZ_ok h]; simp [c19])])), f86⟩, fun j hj0 => (fr19 j (by omega))⟩ dX7_lockAt_43

def rm_X7_keysAt : Room := { frames := 4, cells := 0, slots := 0, locals := 84 }
set_option maxRecDepth 100000 in
set_option maxHeartbeats 4000000 in
theorem c_X7_keysAt (l : Launch) (E : xE) (ST : xST) (hSF : SF ST) (σ : xW) (r : Int) (c0 : Int) (op : Int → Int) (lk : Int → Int) (kp : Int → Int) (wc : Int → Int) (pn : Int) (nw : Int) (sh : Int) (wk : Int) (sv : Bool) (re : Int) (ea : Int) (fa : Int) (ty : Int) (li : Int) (th : Int) (sz : Int) (sp : Int) (wr : Int) (to : Int) (v : Int → Int) (hr0 : mo E σ sv re ea fa ty li th sz sp wr to) (hr1 : now E σ v) (hC : Cp v op lk kp wc pn nw sh wk) (hB : BI op lk kp wc pn nw) (hr9 : rg r) (hc9 : rg c0) : CI l E ST yX7_keysAt wsX7_keysAt rm_X7_keysAt [.ref (xad E 85), .int (iZ r), .int (iZ c0)] σ (fun (z : Int) (u : xW) => (okC r c0 → z = cntK kp (r * 5 + c0) 6) ∧ (mo E u sv re ea fa ty li (k1 (okC r c0)) sz sp wr to ∧ now E u v) ∧ ∀ j : Nat, j ≠ 85 → u j = σ j) := by
  have f85 : σ 85 = oB 5 [.ref (xad E 86), .ref (xad E 87), .ref (xad E 88), .ref (xad E 89), .ref (xad E 90), .int (iZ (b2 sv)), .int (iZ re), .int (iZ ea), .int (iZ fa), .ref (xad E 91), .ref (xad E 92), .ref (xad E 93), .int (iZ ty), .ref (xad E 94), .int (iZ li), .int (iZ th), .int (iZ sz), .int (iZ sp), .int (iZ wr), .int (iZ to), .ref (xad E 95)] := hr0
  have f86 : σ 86 = aI E 87 v := hr1
  refine CI_of (by decide) rfl (Nat.le_of_ble_eq_true rfl) ?_
  intro p e s m args below meth c Q ls G hH hl hQ
  obtain ⟨hx, hb, hml, hown, hts, hK, hST, hlocks, hr, hno⟩ := G
  have hOK := hSF.1
  have hown : s.vm.findClass RX7 = some m.cls := hown
  have hl : lv_has ls 3 [(0, .ref (xad E 85)), (1, .int (iZ r)), (2, .int (iZ c0))] := hl
  obtain ⟨hop, hlk, hkp, hwc, hpn, hnw⟩ := id hB
  have hvR := hC.R
  have hv0 := hC.1.1
  have hcz := cellZ_rg (r := r) (c := c0)
  refine lv_aload_n hx hb dX7_keysAt_0 rfl (lv_at hl 0 rfl) ?_
  refine lv_iload_n hx hb dX7_keysAt_1 rfl (lv_at hl 1 rfl) ?_
  refine lv_iload_n hx hb dX7_keysAt_2 rfl (lv_at hl 2 rfl) ?_
  refine x_cSID (As := [.int (iZ r), .int (iZ c0)]) (rest := [.ref (xad E 85)]) hx hb hml hts hown hK hST hOK hH (c_X7_isCell l E ST hSF σ r c0  (by omega) (by omega)) (va_cwS 2 hts gX7_keysAt_X7_isCell rfl rfl rfl (by decide +kernel) ⟨Nat.le_of_ble_eq_true rfl, Nat.le_of_ble_eq_true rfl⟩) rfl hl.1 rfl (Nat.le_of_ble_eq_true rfl) dX7_keysAt_3 ⟨Nat.le_of_ble_eq_true rfl, Nat.le_of_ble_eq_true rfl⟩ (fun z u h => h) (fun H locs hH => ?_)
  refine x_cVIE (As := [.int (iZ (b2 (decide ((0 ≤ r ∧ r ≤ 4) ∧ (0 ≤ c0 ∧ c0 ≤ 4)))))]) (rest := []) hx hb hml hts hown hK hST hOK hH 85 (c_X7_goes l E ST hSF σ (decide ((0 ≤ r ∧ r ≤ 4) ∧ (0 ≤ c0 ∧ c0 ≤ 4))) sv re ea fa ty li th sz sp wr to f85 ) (cwV 1 hts gX7_keysAt_X7_goes rfl rfl rfl (by decide +kernel) ⟨Nat.le_of_ble_eq_true rfl, Nat.le_of_ble_eq_true rfl⟩) (by decide) f85 rfl rfl hl.1 rfl (Nat.le_of_ble_eq_true rfl) dX7_keysAt_6 ⟨Nat.le_of_ble_eq_true rfl, Nat.le_of_ble_eq_true rfl⟩ (fun z u h => h) (fun σ5 H locs hp6 hH => ?_)
  obtain ⟨f85, fr7⟩ := hp6
  have f86 : σ5 86 = aI E 87 v := (fr7 86 (by omega)).trans f86
  refine x_ifb_eq (tgt := 24) hx hb dX7_keysAt_9 (by decide) (fun c9 => ?_) (fun c9 => ?_)
  · have c9 := of_decide_eq_false c9
    refine x_iconst hx hb dX7_keysAt_24 ?_
    subst hQ
    exact x_iret hx hb hr hlocks hH (Nat.le_of_ble_eq_true rfl) (Nat.le_of_ble_eq_true rfl) ⟨(by first | (intro h; rw [cellZ_ok h]; exact cntK_kM (by omega)) | (intro h; exact absurd h (by omega))), ⟨(f85.trans (by rw [g1_c])), f86⟩, fun j hj0 => (fr7 j (by omega))⟩ dX7_keysAt_25
  · have c9 := of_decide_eq_true c9
    refine lv_aload_n hx hb dX7_keysAt_12 rfl (lv_at hl 0 rfl) ?_
    refine lv_iload_n hx hb dX7_keysAt_13 rfl (lv_at hl 1 rfl) ?_
    refine lv_iload_n hx hb dX7_keysAt_14 rfl (lv_at hl 2 rfl) ?_
    refine x_cSID (As := [.int (iZ r), .int (iZ c0)]) (rest := [.ref (xad E 85)]) hx hb hml hts hown hK hST hOK hH (c_X7_cellAt l E ST hSF σ5 r c0  (by omega) (by omega)) (va_cwS 2 hts gX7_keysAt_X7_cellAt rfl rfl rfl (by decide +kernel) ⟨Nat.le_of_ble_eq_true rfl, Nat.le_of_ble_eq_true rfl⟩) rfl hl.1 rfl (Nat.le_of_ble_eq_true rfl) dX7_keysAt_15 ⟨Nat.le_of_ble_eq_true rfl, Nat.le_of_ble_eq_true rfl⟩ (fun z u h => h) (fun H locs hH => ?_)
    refine x_cVID (As := [.int (iZ (cellZ r c0))]) (rest := []) hx hb hml hts hown hK hST hOK hH 85 (c_X7_keysOn l E ST hSF σ5 (cellZ r c0) op lk kp wc pn nw sh wk sv re ea fa ty li (if (decide ((0 ≤ r ∧ r ≤ 4) ∧ (0 ≤ c0 ∧ c0 ≤ 4))) = true then 0 else 1) sz sp wr to v f85 f86 (by assumption) (by omega) (by omega)) (cwV 1 hts gX7_keysAt_X7_keysOn rfl rfl rfl (by decide +kernel) ⟨Nat.le_of_ble_eq_true rfl, Nat.le_of_ble_eq_true rfl⟩) (by decide) f85 rfl rfl hl.1 rfl (Nat.le_of_ble_eq_true rfl) dX7_keysAt_18 ⟨Nat.le_of_ble_eq_true rfl, Nat.le_of_ble_eq_true rfl⟩ (fun z u h => h) (fun H locs hH => ?_)
    refine lv_goto (tgt := 25) hx hb dX7_keysAt_21 (by decide) ?_
    subst hQ
    exact x_iret hx hb hr hlocks hH (Nat.le_of_ble_eq_true rfl) (Nat.le_of_ble_eq_true rfl) ⟨(by first | (intro h; rw [cellZ_ok h]; exact cntK_kM (by omega)) | (intro h; exact absurd h (by omega))), ⟨(f85.trans (by rw [g1_c])), f86⟩, fun j hj0 => (fr7 j (by omega))⟩ dX7_keysAt_25

def rm_X7_isConnected : Room := { frames := 5, cells := 0, slots := 0, locals := 110 }
set_option maxRecDepth 100000 in
set_option maxHeartbeats 4000000 in
theorem c_X7_isConnected (l : Launch) (E : xE) (ST : xST) (hSF : SF ST) (σ : xW) (r : Int) (c0 : Int) (d : Int) (op : Int → Int) (lk : Int → Int) (kp : Int → Int) (wc : Int → Int) (pn : Int) (nw : Int) (sh : Int) (wk : Int) (sv : Bool) (re : Int) (ea : Int) (fa : Int) (ty : Int) (li : Int) (th : Int) (sz : Int) (sp : Int) (wr : Int) (to : Int) (v : Int → Int) (hr0 : mo E σ sv re ea fa ty li th sz sp wr to) (hr1 : now E σ v) (hC : Cp v op lk kp wc pn nw sh wk) (hB : BI op lk kp wc pn nw) (hr9 : rg r) (hc9 : rg c0) (hd9 : rg d) : CI l E ST yX7_isConnected wsX7_isConnected rm_X7_isConnected [.ref (xad E 85), .int (iZ r), .int (iZ c0), .int (iZ d)] σ (fun (z : Int) (u : xW) => (True) ∧ (∃ (jb : Bool), mo E u sv re ea fa ty li (k2 (okC r c0) (0 ≤ d ∧ d < 4)) sz sp wr to ∧ now E u v ∧ (z = b2 jb) ∧ (k2 (okC r c0) (0 ≤ d ∧ d < 4) = 0 → jb = decide (¬ cnZ op (r * 5 + c0) d = -1))) ∧ ∀ j : Nat, j ≠ 85 → u j = σ j) := by
  have f85 : σ 85 = oB 5 [.ref (xad E 86), .ref (xad E 87), .ref (xad E 88), .ref (xad E 89), .ref (xad E 90), .int (iZ (b2 sv)), .int (iZ re), .int (iZ ea), .int (iZ fa), .ref (xad E 91), .ref (xad E 92), .ref (xad E 93), .int (iZ ty), .ref (xad E 94), .int (iZ li), .int (iZ th), .int (iZ sz), .int (iZ sp), .int (iZ wr), .int (iZ to), .ref (xad E 95)] := hr0
  have f86 : σ 86 = aI E 87 v := hr1
  refine CI_of (by decide) rfl (Nat.le_of_ble_eq_true rfl) ?_
  intro p e s m args below meth c Q ls G hH hl hQ
  obtain ⟨hx, hb, hml, hown, hts, hK, hST, hlocks, hr, hno⟩ := G
  have hOK := hSF.1
  have hown : s.vm.findClass RX7 = some m.cls := hown
  have hl : lv_has ls 4 [(0, .ref (xad E 85)), (1, .int (iZ r)), (2, .int (iZ c0)), (3, .int (iZ d))] := hl
  obtain ⟨hop, hlk, hkp, hwc, hpn, hnw⟩ := id hB
  have hvR := hC.R
  have hv0 := hC.1.1
  have hcz := cellZ_rg (r := r) (c := c0)
  refine lv_aload_n hx hb dX7_isConnected_0 rfl (lv_at hl 0 rfl) ?_
  refine lv_iload_n hx hb dX7_isConnected_1 rfl (lv_at hl 1 rfl) ?_
  refine lv_iload_n hx hb dX7_isConnected_2 rfl (lv_at hl 2 rfl) ?_
  refine x_cSID (As := [.int (iZ r), .int (iZ c0)]) (rest := [.ref (xad E 85)]) hx hb hml hts hown hK hST hOK hH (c_X7_isCell l E ST hSF σ r c0  (by omega) (by omega)) (va_cwS 2 hts gX7_isConnected_X7_isCell rfl rfl rfl (by decide +kernel) ⟨Nat.le_of_ble_eq_true rfl, Nat.le_of_ble_eq_true rfl⟩) rfl hl.1 rfl (Nat.le_of_ble_eq_true rfl) dX7_isConnected_3 ⟨Nat.le_of_ble_eq_true rfl, Nat.le_of_ble_eq_true rfl⟩ (fun z u h => h) (fun H locs hH => ?_)
  refine lv_iload_n hx hb dX7_isConnected_6 rfl (lv_at hl 3 rfl) ?_
  refine x_iconst hx hb dX7_isConnected_7 ?_
  refine x_iconst hx hb dX7_isConnected_8 ?_
  refine x_cSID (As := [.int (iZ d), .int (iZ 0), .int (iZ 3)]) (rest := [.int (iZ (b2 (decide ((0 ≤ r ∧ r ≤ 4) ∧ (0 ≤ c0 ∧ c0 ≤ 4))))), .ref (xad E 85)]) hx hb hml hts hown hK hST hOK hH (c_X7_isIn l E ST hSF σ d 0 3  (by omega) (by omega) (by omega)) (va_cwS 3 hts gX7_isConnected_X7_isIn rfl rfl rfl (by decide +kernel) ⟨Nat.le_of_ble_eq_true rfl, Nat.le_of_ble_eq_true rfl⟩) rfl hl.1 rfl (Nat.le_of_ble_eq_true rfl) dX7_isConnected_9 ⟨Nat.le_of_ble_eq_true rfl, Nat.le_of_ble_eq_true rfl⟩ (fun z u h => h) (fun H locs hH => ?_)
  refine x_iconst hx hb dX7_isConnected_12 ?_
  refine x_cVIE (As := [.int (iZ (b2 (decide ((0 ≤ r ∧ r ≤ 4) ∧ (0 ≤ c0 ∧ c0 ≤ 4))))), .int (iZ (b2 (decide (0 ≤ d ∧ d ≤ 3)))), .int (iZ 1)]) (rest := []) hx hb hml hts hown hK hST hOK hH 85 (c_X7_holds l E ST hSF σ (decide ((0 ≤ r ∧ r ≤ 4) ∧ (0 ≤ c0 ∧ c0 ≤ 4))) (decide (0 ≤ d ∧ d ≤ 3)) true sv re ea fa ty li th sz sp wr to f85 ) (cwV 3 hts gX7_isConnected_X7_holds rfl rfl rfl (by decide +kernel) ⟨Nat.le_of_ble_eq_true rfl, Nat.le_of_ble_eq_true rfl⟩) (by decide) f85 rfl rfl hl.1 rfl (Nat.le_of_ble_eq_true rfl) dX7_isConnected_13 ⟨Nat.le_of_ble_eq_true rfl, Nat.le_of_ble_eq_true rfl⟩ (fun z u h => h) (fun σ8 H locs hp9 hH => ?_)
  obtain ⟨f85, fr10⟩ := hp9
  have f86 : σ8 86 = aI E 87 v := (fr10 86 (by omega)).trans f86
  refine x_ifb_eq (tgt := 36) hx hb dX7_isConnected_16 (by decide) (fun c16 => ?_) (fun c16 => ?_)
  · refine x_iconst hx hb dX7_isConnected_36 ?_
    subst hQ
    exact x_zret (b := false) hx hb hr hlocks hH (Nat.le_of_ble_eq_true rfl) (Nat.le_of_ble_eq_true rfl) ⟨trivial, ⟨false, (f85.trans (by rw [g2_of (P := okC r c0) (Q := 0 ≤ d ∧ d < 4) (by omega) (fun h => by simp; omega)])), f86, (by rfl), (by intro h; have h9 := k2_is.mp h; first | (rw [cellZ_ok h9.1] at c29; exact (decide_eq_true c29).symm) | (rw [cellZ_ok h9.1] at c29; exact (decide_eq_false c29).symm) | (exfalso; have h8 := okZ_f.mp c16; simp_all; omega))⟩, fun j hj0 => (fr10 j (by omega))⟩ dX7_isConnected_37
  · have hd3 : 0 ≤ d ∧ d ≤ 3 := of_decide_eq_true (okZ_t.mp c16).2.1
    refine lv_aload_n hx hb dX7_isConnected_19 rfl (lv_at hl 0 rfl) ?_
    refine lv_iload_n hx hb dX7_isConnected_20 rfl (lv_at hl 1 rfl) ?_
    refine lv_iload_n hx hb dX7_isConnected_21 rfl (lv_at hl 2 rfl) ?_
    refine x_cSID (As := [.int (iZ r), .int (iZ c0)]) (rest := [.ref (xad E 85)]) hx hb hml hts hown hK hST hOK hH (c_X7_cellAt l E ST hSF σ8 r c0  (by omega) (by omega)) (va_cwS 2 hts gX7_isConnected_X7_cellAt rfl rfl rfl (by decide +kernel) ⟨Nat.le_of_ble_eq_true rfl, Nat.le_of_ble_eq_true rfl⟩) rfl hl.1 rfl (Nat.le_of_ble_eq_true rfl) dX7_isConnected_22 ⟨Nat.le_of_ble_eq_true rfl, Nat.le_of_ble_eq_true rfl⟩ (fun z u h => h) (fun H locs hH => ?_)
    refine lv_iload_n hx hb dX7_isConnected_25 rfl (lv_at hl 3 rfl) ?_
    refine x_cVID (As := [.int (iZ (cellZ r c0)), .int (iZ d)]) (rest := []) hx hb hml hts hown hK hST hOK hH 85 (c_X7_isJoined l E ST hSF σ8 (cellZ r c0) d op lk kp wc pn nw sh wk sv re ea fa ty li (thZ (decide ((0 ≤ r ∧ r ≤ 4) ∧ (0 ≤ c0 ∧ c0 ≤ 4))) (decide (0 ≤ d ∧ d ≤ 3)) true) sz sp wr to v f85 f86 (by assumption) (by omega) (by omega) (by omega)) (cwV 2 hts gX7_isConnected_X7_isJoined rfl rfl rfl (by decide +kernel) ⟨Nat.le_of_ble_eq_true rfl, Nat.le_of_ble_eq_true rfl⟩) (by decide) f85 rfl rfl hl.1 rfl (Nat.le_of_ble_eq_true rfl) dX7_isConnected_26 ⟨Nat.le_of_ble_eq_true rfl, Nat.le_of_ble_eq_true rfl⟩ (fun z u h => h) (fun H locs hH => ?_)
    refine x_ifb_eq (tgt := 36) hx hb dX7_isConnected_29 (by decide) (fun c29 => ?_) (fun c29 => ?_)
    · have c29 := of_decide_eq_false c29
      refine x_iconst hx hb dX7_isConnected_36 ?_
      subst hQ
      exact x_zret (b := false) hx hb hr hlocks hH (Nat.le_of_ble_eq_true rfl) (Nat.le_of_ble_eq_true rfl) ⟨trivial, ⟨false, (f85.trans (by rw [g2_of (P := okC r c0) (Q := 0 ≤ d ∧ d < 4) (by omega) (fun h => by simp; omega)])), f86, (by rfl), (by intro h; have h9 := k2_is.mp h; first | (rw [cellZ_ok h9.1] at c29; exact (decide_eq_true c29).symm) | (rw [cellZ_ok h9.1] at c29; exact (decide_eq_false c29).symm) | (exfalso; have h8 := okZ_f.mp c16; simp_all; omega))⟩, fun j hj0 => (fr10 j (by omega))⟩ dX7_isConnected_37
    · have c29 := of_decide_eq_true c29
      refine x_iconst hx hb dX7_isConnected_32 ?_
      refine lv_goto (tgt := 37) hx hb dX7_isConnected_33 (by decide) ?_
      subst hQ
      exact x_zret (b := true) hx hb hr hlocks hH (Nat.le_of_ble_eq_true rfl) (Nat.le_of_ble_eq_true rfl) ⟨trivial, ⟨true, (f85.trans (by rw [g2_of (P := okC r c0) (Q := 0 ≤ d ∧ d < 4) (by omega) (fun h => by simp; omega)])), f86, (by rfl), (by intro h; have h9 := k2_is.mp h; first | (rw [cellZ_ok h9.1] at c29; exact (decide_eq_true c29).symm) | (rw [cellZ_ok h9.1] at c29; exact (decide_eq_false c29).symm) | (exfalso; have h8 := okZ_f.mp c16; simp_all; omega))⟩, fun j hj0 => (fr10 j (by omega))⟩ dX7_isConnected_37

def rm_X7_cellOfKey : Room := { frames := 3, cells := 0, slots := 0, locals := 63 }
set_option maxRecDepth 100000 in
set_option maxHeartbeats 4000000 in
theorem c_X7_cellOfKey (l : Launch) (E : xE) (ST : xST) (hSF : SF ST) (σ : xW) (k : Int) (op : Int → Int) (lk : Int → Int) (kp : Int → Int) (wc : Int → Int) (pn : Int) (nw : Int) (sh : Int) (wk : Int) (sv : Bool) (re : Int) (ea : Int) (fa : Int) (ty : Int) (li : Int) (th : Int) (sz : Int) (sp : Int) (wr : Int) (to : Int) (v : Int → Int) (hr0 : mo E σ sv re ea fa ty li th sz sp wr to) (hr1 : now E σ v) (hC : Cp v op lk kp wc pn nw sh wk) (hB : BI op lk kp wc pn nw) (hk9 : rg k) : CI l E ST yX7_cellOfKey wsX7_cellOfKey rm_X7_cellOfKey [.ref (xad E 85), .int (iZ k)] σ (fun (z : Int) (u : xW) => ((k2 (97 ≤ k ∧ k < 103) (0 ≤ kp (k - 97) ∧ kp (k - 97) < 25) = 0 → z = kp (k - 97)) ∧ 0 ≤ z ∧ z ≤ 24) ∧ (mo E u sv re ea fa ty li (k2 (97 ≤ k ∧ k < 103) (0 ≤ kp (k - 97) ∧ kp (k - 97) < 25)) sz sp wr to ∧ now E u v) ∧ ∀ j : Nat, j ≠ 85 → u j = σ j) := by
  have f85 : σ 85 = oB 5 [.ref (xad E 86), .ref (xad E 87), .ref (xad E 88), .ref (xad E 89), .ref (xad E 90), .int (iZ (b2 sv)), .int (iZ re), .int (iZ ea), .int (iZ fa), .ref (xad E 91), .ref (xad E 92), .ref (xad E 93), .int (iZ ty), .ref (xad E 94), .int (iZ li), .int (iZ th), .int (iZ sz), .int (iZ sp), .int (iZ wr), .int (iZ to), .ref (xad E 95)] := hr0
  have f86 : σ 86 = aI E 87 v := hr1
  refine CI_of (by decide) rfl (Nat.le_of_ble_eq_true rfl) ?_
  intro p e s m args below meth c Q ls G hH hl hQ
  obtain ⟨hx, hb, hml, hown, hts, hK, hST, hlocks, hr, hno⟩ := G
  have hOK := hSF.1
  have hown : s.vm.findClass RX7 = some m.cls := hown
  have hl : lv_has ls 3 [(0, .ref (xad E 85)), (1, .int (iZ k))] := hl
  obtain ⟨hop, hlk, hkp, hwc, hpn, hnw⟩ := id hB
  have hvR := hC.R
  have hv0 := hC.1.1
  have hkq := hkp (k - 97)
  have hpz : -1 ≤ plZ kp k ∧ plZ kp k ≤ 102 := (by unfold plZ kM; (repeat' split) <;> omega)
  refine lv_aload_n hx hb dX7_cellOfKey_0 rfl (lv_at hl 0 rfl) ?_
  refine lv_iload_n hx hb dX7_cellOfKey_1 rfl (lv_at hl 1 rfl) ?_
  refine x_cVID (As := [.int (iZ k)]) (rest := []) hx hb hml hts hown hK hST hOK hH 85 (c_X7_placeOf l E ST hSF σ k op lk kp wc pn nw sh wk sv re ea fa ty li th sz sp wr to v f85 f86 (by assumption) (by omega) (by omega)) (cwV 1 hts gX7_cellOfKey_X7_placeOf rfl rfl rfl (by decide +kernel) ⟨Nat.le_of_ble_eq_true rfl, Nat.le_of_ble_eq_true rfl⟩) (by decide) f85 rfl rfl hl.1 rfl (Nat.le_of_ble_eq_true rfl) dX7_cellOfKey_2 ⟨Nat.le_of_ble_eq_true rfl, Nat.le_of_ble_eq_true rfl⟩ (fun z u h => h) (fun H locs hH => ?_)
  refine lv_istore_n (lv' := [(2, .int (iZ (plZ kp k))), (0, .ref (xad E 85)), (1, .int (iZ k))]) hx hb dX7_cellOfKey_5 rfl hl (by decide) rfl (fun ls hl => ?_)
  refine lv_aload_n hx hb dX7_cellOfKey_6 rfl (lv_at hl 1 rfl) ?_
  refine lv_iload_n hx hb dX7_cellOfKey_7 rfl (lv_at hl 2 rfl) ?_
  refine x_cSID (As := [.int (iZ k)]) (rest := [.ref (xad E 85)]) hx hb hml hts hown hK hST hOK hH (c_X7_isKey l E ST hSF σ k  (by omega)) (va_cwS 1 hts gX7_cellOfKey_X7_isKey rfl rfl rfl (by decide +kernel) ⟨Nat.le_of_ble_eq_true rfl, Nat.le_of_ble_eq_true rfl⟩) rfl hl.1 rfl (Nat.le_of_ble_eq_true rfl) dX7_cellOfKey_8 ⟨Nat.le_of_ble_eq_true rfl, Nat.le_of_ble_eq_true rfl⟩ (fun z u h => h) (fun H locs hH => ?_)
  refine lv_iload_n hx hb dX7_cellOfKey_11 rfl (lv_at hl 0 rfl) ?_
  refine x_iconst hx hb dX7_cellOfKey_12 ?_
  refine x_bipush hx hb dX7_cellOfKey_13 (by decide) ?_
  refine x_cSID (As := [.int (iZ (plZ kp k)), .int (iZ 0), .int (iZ 24)]) (rest := [.int (iZ (b2 (decide (97 ≤ k ∧ k ≤ 102)))), .ref (xad E 85)]) hx hb hml hts hown hK hST hOK hH (c_X7_isIn l E ST hSF σ (plZ kp k) 0 24  (by omega) (by omega) (by omega)) (va_cwS 3 hts gX7_cellOfKey_X7_isIn rfl rfl rfl (by decide +kernel) ⟨Nat.le_of_ble_eq_true rfl, Nat.le_of_ble_eq_true rfl⟩) rfl hl.1 rfl (Nat.le_of_ble_eq_true rfl) dX7_cellOfKey_15 ⟨Nat.le_of_ble_eq_true rfl, Nat.le_of_ble_eq_true rfl⟩ (fun z u h => h) (fun H locs hH => ?_)
  refine x_iconst hx hb dX7_cellOfKey_18 ?_
  refine x_cVIE (As := [.int (iZ (b2 (decide (97 ≤ k ∧ k ≤ 102)))), .int (iZ (b2 (decide (0 ≤ (plZ kp k) ∧ (plZ kp k) ≤ 24)))), .int (iZ 1)]) (rest := []) hx hb hml hts hown hK hST hOK hH 85 (c_X7_holds l E ST hSF σ (decide (97 ≤ k ∧ k ≤ 102)) (decide (0 ≤ (plZ kp k) ∧ (plZ kp k) ≤ 24)) true sv re ea fa ty li th sz sp wr to f85 ) (cwV 3 hts gX7_cellOfKey_X7_holds rfl rfl rfl (by decide +kernel) ⟨Nat.le_of_ble_eq_true rfl, Nat.le_of_ble_eq_true rfl⟩) (by decide) f85 rfl rfl hl.1 rfl (Nat.le_of_ble_eq_true rfl) dX7_cellOfKey_19 ⟨Nat.le_of_ble_eq_true rfl, Nat.le_of_ble_eq_true rfl⟩ (fun z u h => h) (fun σ11 H locs hp12 hH => ?_)
  obtain ⟨f85, fr13⟩ := hp12
  have f86 : σ11 86 = aI E 87 v := (fr13 86 (by omega)).trans f86
  refine x_ifb_eq (tgt := 29) hx hb dX7_cellOfKey_22 (by decide) (fun c22 => ?_) (fun c22 => ?_)
  · refine x_iconst hx hb dX7_cellOfKey_29 ?_
    subst hQ
    exact x_iret hx hb hr hlocks hH (Nat.le_of_ble_eq_true rfl) (Nat.le_of_ble_eq_true rfl) ⟨(by first | (have h9 := okZ_t.mp c22; have h7 := of_decide_eq_true h9.1; have h8 := of_decide_eq_true h9.2.1; refine ⟨fun h => ?_, h8⟩; rw [plZ_is (by omega), kM_lt (k2_is.mp h).2.2]) | (refine ⟨fun h => ?_, by decide⟩; exfalso; have h9 := k2_is.mp h; refine okZ_f.mp c22 ⟨decide_eq_true (by omega), decide_eq_true ?_, rfl⟩; rw [plZ_is h9.1]; exact (kM_c (by omega)).mpr h9.2)), ⟨(f85.trans (by rw [g2_of (P := 97 ≤ k ∧ k < 103) (Q := 0 ≤ kp (k - 97) ∧ kp (k - 97) < 25) (by omega) (fun h => by rw [decide_eq_true_iff, plZ_is h]; exact kM_c (by omega))])), f86⟩, fun j hj0 => (fr13 j (by omega))⟩ dX7_cellOfKey_30
  · refine lv_iload_n hx hb dX7_cellOfKey_25 rfl (lv_at hl 0 rfl) ?_
    refine lv_goto (tgt := 30) hx hb dX7_cellOfKey_26 (by decide) ?_
    subst hQ
    exact x_iret hx hb hr hlocks hH (Nat.le_of_ble_eq_true rfl) (Nat.le_of_ble_eq_true rfl) ⟨(by first | (have h9 := okZ_t.mp c22; have h7 := of_decide_eq_true h9.1; have h8 := of_decide_eq_true h9.2.1; refine ⟨fun h => ?_, h8⟩; rw [plZ_is (by omega), kM_lt (k2_is.mp h).2.2]) | (refine ⟨fun h => ?_, by decide⟩; exfalso; have h9 := k2_is.mp h; refine okZ_f.mp c22 ⟨decide_eq_true (by omega), decide_eq_true ?_, rfl⟩; rw [plZ_is h9.1]; exact (kM_c (by omega)).mpr h9.2)), ⟨(f85.trans (by rw [g2_of (P := 97 ≤ k ∧ k < 103) (Q := 0 ≤ kp (k - 97) ∧ kp (k - 97) < 25) (by omega) (fun h => by rw [decide_eq_true_iff, plZ_is h]; exact kM_c (by omega))])), f86⟩, fun j hj0 => (fr13 j (by omega))⟩ dX7_cellOfKey_30

def rm_X7_keyRow : Room := { frames := 4, cells := 0, slots := 0, locals := 85 }
set_option maxRecDepth 100000 in
set_option maxHeartbeats 4000000 in
theorem c_X7_keyRow (l : Launch) (E : xE) (ST : xST) (hSF : SF ST) (σ : xW) (k : Int) (op : Int → Int) (lk : Int → Int) (kp : Int → Int) (wc : Int → Int) (pn : Int) (nw : Int) (sh : Int) (wk : Int) (sv : Bool) (re : Int) (ea : Int) (fa : Int) (ty : Int) (li : Int) (th : Int) (sz : Int) (sp : Int) (wr : Int) (to : Int) (v : Int → Int) (hr0 : mo E σ sv re ea fa ty li th sz sp wr to) (hr1 : now E σ v) (hC : Cp v op lk kp wc pn nw sh wk) (hB : BI op lk kp wc pn nw) (hk9 : rg k) : CI l E ST yX7_keyRow wsX7_keyRow rm_X7_keyRow [.ref (xad E 85), .int (iZ k)] σ (fun (z : Int) (u : xW) => (k2 (97 ≤ k ∧ k < 103) (0 ≤ kp (k - 97) ∧ kp (k - 97) < 25) = 0 → z = kp (k - 97) / 5) ∧ (mo E u sv re ea fa ty li (k2 (97 ≤ k ∧ k < 103) (0 ≤ kp (k - 97) ∧ kp (k - 97) < 25)) sz sp wr to ∧ now E u v) ∧ ∀ j : Nat, j ≠ 85 → u j = σ j) := by
  have f85 : σ 85 = oB 5 [.ref (xad E 86), .ref (xad E 87), .ref (xad E 88), .ref (xad E 89), .ref (xad E 90), .int (iZ (b2 sv)), .int (iZ re), .int (iZ ea), .int (iZ fa), .ref (xad E 91), .ref (xad E 92), .ref (xad E 93), .int (iZ ty), .ref (xad E 94), .int (iZ li), .int (iZ th), .int (iZ sz), .int (iZ sp), .int (iZ wr), .int (iZ to), .ref (xad E 95)] := hr0
  have f86 : σ 86 = aI E 87 v := hr1
  refine CI_of (by decide) rfl (Nat.le_of_ble_eq_true rfl) ?_
  intro p e s m args below meth c Q ls G hH hl hQ
  obtain ⟨hx, hb, hml, hown, hts, hK, hST, hlocks, hr, hno⟩ := G
  have hOK := hSF.1
  have hown : s.vm.findClass RX7 = some m.cls := hown
  have hl : lv_has ls 2 [(0, .ref (xad E 85)), (1, .int (iZ k))] := hl
  obtain ⟨hop, hlk, hkp, hwc, hpn, hnw⟩ := id hB
  have hvR := hC.R
  have hv0 := hC.1.1
  refine lv_aload_n hx hb dX7_keyRow_0 rfl (lv_at hl 0 rfl) ?_
  refine lv_iload_n hx hb dX7_keyRow_1 rfl (lv_at hl 1 rfl) ?_
  refine x_cVI (As := [.int (iZ k)]) (rest := []) hx hb hml hts hown hK hST hOK hH 85 (c_X7_cellOfKey l E ST hSF σ k op lk kp wc pn nw sh wk sv re ea fa ty li th sz sp wr to v f85 f86 (by assumption) (by omega) (by omega)) (cwV 1 hts gX7_keyRow_X7_cellOfKey rfl rfl rfl (by decide +kernel) ⟨Nat.le_of_ble_eq_true rfl, Nat.le_of_ble_eq_true rfl⟩) (by decide) f85 rfl rfl hl.1 rfl (Nat.le_of_ble_eq_true rfl) dX7_keyRow_2 ⟨Nat.le_of_ble_eq_true rfl, Nat.le_of_ble_eq_true rfl⟩ (fun z_ σ1 H locs hp2 hH => ?_)
  obtain ⟨hz_, ⟨f85, f86⟩, fr3⟩ := hp2
  refine x_iconst hx hb dX7_keyRow_5 ?_
  refine x_idiv hx hb dX7_keyRow_6 (by omega) (by omega) (by omega) (by omega) ?_
  subst hQ
  exact x_iret hx hb hr hlocks hH (Nat.le_of_ble_eq_true rfl) (Nat.le_of_ble_eq_true rfl) ⟨(by intro h; rw [hz_.1 h]), ⟨f85, f86⟩, fun j hj0 => (fr3 j (by omega))⟩ dX7_keyRow_7

def rm_X7_keyColumn : Room := { frames := 4, cells := 0, slots := 0, locals := 85 }
set_option maxRecDepth 100000 in
set_option maxHeartbeats 4000000 in
theorem c_X7_keyColumn (l : Launch) (E : xE) (ST : xST) (hSF : SF ST) (σ : xW) (k : Int) (op : Int → Int) (lk : Int → Int) (kp : Int → Int) (wc : Int → Int) (pn : Int) (nw : Int) (sh : Int) (wk : Int) (sv : Bool) (re : Int) (ea : Int) (fa : Int) (ty : Int) (li : Int) (th : Int) (sz : Int) (sp : Int) (wr : Int) (to : Int) (v : Int → Int) (hr0 : mo E σ sv re ea fa ty li th sz sp wr to) (hr1 : now E σ v) (hC : Cp v op lk kp wc pn nw sh wk) (hB : BI op lk kp wc pn nw) (hk9 : rg k) : CI l E ST yX7_keyColumn wsX7_keyColumn rm_X7_keyColumn [.ref (xad E 85), .int (iZ k)] σ (fun (z : Int) (u : xW) => (k2 (97 ≤ k ∧ k < 103) (0 ≤ kp (k - 97) ∧ kp (k - 97) < 25) = 0 → z = kp (k - 97) % 5) ∧ (mo E u sv re ea fa ty li (k2 (97 ≤ k ∧ k < 103) (0 ≤ kp (k - 97) ∧ kp (k - 97) < 25)) sz sp wr to ∧ now E u v) ∧ ∀ j : Nat, j ≠ 85 → u j = σ j) := by
  have f85 : σ 85 = oB 5 [.ref (xad E 86), .ref (xad E 87), .ref (xad E 88), .ref (xad E 89), .ref (xad E 90), .int (iZ (b2 sv)), .int (iZ re), .int (iZ ea), .int (iZ fa), .ref (xad E 91), .ref (xad E 92), .ref (xad E 93), .int (iZ ty), .ref (xad E 94), .int (iZ li), .int (iZ th), .int (iZ sz), .int (iZ sp), .int (iZ wr), .int (iZ to), .ref (xad E 95)] := hr0
  have f86 : σ 86 = aI E 87 v := hr1
  refine CI_of (by decide) rfl (Nat.le_of_ble_eq_true rfl) ?_
  intro p e s m args below meth c Q ls G hH hl hQ
  obtain ⟨hx, hb, hml, hown, hts, hK, hST, hlocks, hr, hno⟩ := G
  have hOK := hSF.1
  have hown : s.vm.findClass RX7 = some m.cls := hown
  have hl : lv_has ls 2 [(0, .ref (xad E 85)), (1, .int (iZ k))] := hl
  obtain ⟨hop, hlk, hkp, hwc, hpn, hnw⟩ := id hB
  have hvR := hC.R
  have hv0 := hC.1.1
  refine lv_aload_n hx hb dX7_keyColumn_0 rfl (lv_at hl 0 rfl) ?_
  refine lv_iload_n hx hb dX7_keyColumn_1 rfl (lv_at hl 1 rfl) ?_
  refine x_cVI (As := [.int (iZ k)]) (rest := []) hx hb hml hts hown hK hST hOK hH 85 (c_X7_cellOfKey l E ST hSF σ k op lk kp wc pn nw sh wk sv re ea fa ty li th sz sp wr to v f85 f86 (by assumption) (by omega) (by omega)) (cwV 1 hts gX7_keyColumn_X7_cellOfKey rfl rfl rfl (by decide +kernel) ⟨Nat.le_of_ble_eq_true rfl, Nat.le_of_ble_eq_true rfl⟩) (by decide) f85 rfl rfl hl.1 rfl (Nat.le_of_ble_eq_true rfl) dX7_keyColumn_2 ⟨Nat.le_of_ble_eq_true rfl, Nat.le_of_ble_eq_true rfl⟩ (fun z_ σ1 H locs hp2 hH => ?_)
  obtain ⟨hz_, ⟨f85, f86⟩, fr3⟩ := hp2
  refine x_iconst hx hb dX7_keyColumn_5 ?_
  refine x_irem hx hb dX7_keyColumn_6 (by omega) (by omega) (by omega) (by omega) ?_
  subst hQ
  exact x_iret hx hb hr hlocks hH (Nat.le_of_ble_eq_true rfl) (Nat.le_of_ble_eq_true rfl) ⟨(by intro h; rw [hz_.1 h]), ⟨f85, f86⟩, fun j hj0 => (fr3 j (by omega))⟩ dX7_keyColumn_7

def rm_X7_carrierOf : Room := { frames := 3, cells := 0, slots := 0, locals := 63 }
set_option maxRecDepth 100000 in
set_option maxHeartbeats 4000000 in
theorem c_X7_carrierOf (l : Launch) (E : xE) (ST : xST) (hSF : SF ST) (σ : xW) (k : Int) (op : Int → Int) (lk : Int → Int) (kp : Int → Int) (wc : Int → Int) (pn : Int) (nw : Int) (sh : Int) (wk : Int) (sv : Bool) (re : Int) (ea : Int) (fa : Int) (ty : Int) (li : Int) (th : Int) (sz : Int) (sp : Int) (wr : Int) (to : Int) (v : Int → Int) (hr0 : mo E σ sv re ea fa ty li th sz sp wr to) (hr1 : now E σ v) (hC : Cp v op lk kp wc pn nw sh wk) (hB : BI op lk kp wc pn nw) (hk9 : rg k) : CI l E ST yX7_carrierOf wsX7_carrierOf rm_X7_carrierOf [.ref (xad E 85), .int (iZ k)] σ (fun (z : Int) (u : xW) => (k2 (97 ≤ k ∧ k < 103) (¬ kp (k - 97) < 25) = 0 → z = kp (k - 97) - 25) ∧ (mo E u sv re ea fa ty li (k2 (97 ≤ k ∧ k < 103) (¬ kp (k - 97) < 25)) sz sp wr to ∧ now E u v) ∧ ∀ j : Nat, j ≠ 85 → u j = σ j) := by
  have f85 : σ 85 = oB 5 [.ref (xad E 86), .ref (xad E 87), .ref (xad E 88), .ref (xad E 89), .ref (xad E 90), .int (iZ (b2 sv)), .int (iZ re), .int (iZ ea), .int (iZ fa), .ref (xad E 91), .ref (xad E 92), .ref (xad E 93), .int (iZ ty), .ref (xad E 94), .int (iZ li), .int (iZ th), .int (iZ sz), .int (iZ sp), .int (iZ wr), .int (iZ to), .ref (xad E 95)] := hr0
  have f86 : σ 86 = aI E 87 v := hr1
  refine CI_of (by decide) rfl (Nat.le_of_ble_eq_true rfl) ?_
  intro p e s m args below meth c Q ls G hH hl hQ
  obtain ⟨hx, hb, hml, hown, hts, hK, hST, hlocks, hr, hno⟩ := G
  have hOK := hSF.1
  have hown : s.vm.findClass RX7 = some m.cls := hown
  have hl : lv_has ls 3 [(0, .ref (xad E 85)), (1, .int (iZ k))] := hl
  obtain ⟨hop, hlk, hkp, hwc, hpn, hnw⟩ := id hB
  have hvR := hC.R
  have hv0 := hC.1.1
  have hkq := hkp (k - 97)
  have hpz : -1 ≤ plZ kp k ∧ plZ kp k ≤ 102 := (by unfold plZ kM; (repeat' split) <;> omega)
  refine lv_aload_n hx hb dX7_carrierOf_0 rfl (lv_at hl 0 rfl) ?_
  refine lv_iload_n hx hb dX7_carrierOf_1 rfl (lv_at hl 1 rfl) ?_
  refine x_cVID (As := [.int (iZ k)]) (rest := []) hx hb hml hts hown hK hST hOK hH 85 (c_X7_placeOf l E ST hSF σ k op lk kp wc pn nw sh wk sv re ea fa ty li th sz sp wr to v f85 f86 (by assumption) (by omega) (by omega)) (cwV 1 hts gX7_carrierOf_X7_placeOf rfl rfl rfl (by decide +kernel) ⟨Nat.le_of_ble_eq_true rfl, Nat.le_of_ble_eq_true rfl⟩) (by decide) f85 rfl rfl hl.1 rfl (Nat.le_of_ble_eq_true rfl) dX7_carrierOf_2 ⟨Nat.le_of_ble_eq_true rfl, Nat.le_of_ble_eq_true rfl⟩ (fun z u h => h) (fun H locs hH => ?_)
  refine lv_istore_n (lv' := [(2, .int (iZ (plZ kp k))), (0, .ref (xad E 85)), (1, .int (iZ k))]) hx hb dX7_carrierOf_5 rfl hl (by decide) rfl (fun ls hl => ?_)
  refine lv_aload_n hx hb dX7_carrierOf_6 rfl (lv_at hl 1 rfl) ?_
  refine lv_iload_n hx hb dX7_carrierOf_7 rfl (lv_at hl 2 rfl) ?_
  refine x_cSID (As := [.int (iZ k)]) (rest := [.ref (xad E 85)]) hx hb hml hts hown hK hST hOK hH (c_X7_isKey l E ST hSF σ k  (by omega)) (va_cwS 1 hts gX7_carrierOf_X7_isKey rfl rfl rfl (by decide +kernel) ⟨Nat.le_of_ble_eq_true rfl, Nat.le_of_ble_eq_true rfl⟩) rfl hl.1 rfl (Nat.le_of_ble_eq_true rfl) dX7_carrierOf_8 ⟨Nat.le_of_ble_eq_true rfl, Nat.le_of_ble_eq_true rfl⟩ (fun z u h => h) (fun H locs hH => ?_)
  refine lv_iload_n hx hb dX7_carrierOf_11 rfl (lv_at hl 0 rfl) ?_
  refine x_bipush hx hb dX7_carrierOf_12 (by decide) ?_
  refine x_icmp_lt (tgt := 21) hx hb dX7_carrierOf_14 (by decide) (by omega) (by decide) (fun c14 => ?_) (fun c14 => ?_)
  · refine x_iconst hx hb dX7_carrierOf_21 ?_
    refine x_iconst hx hb dX7_carrierOf_22 ?_
    refine x_cVIE (As := [.int (iZ (b2 (decide (97 ≤ k ∧ k ≤ 102)))), .int (iZ 0), .int (iZ 1)]) (rest := []) hx hb hml hts hown hK hST hOK hH 85 (c_X7_holds l E ST hSF σ (decide (97 ≤ k ∧ k ≤ 102)) false true sv re ea fa ty li th sz sp wr to f85 ) (cwV 3 hts gX7_carrierOf_X7_holds rfl rfl rfl (by decide +kernel) ⟨Nat.le_of_ble_eq_true rfl, Nat.le_of_ble_eq_true rfl⟩) (by decide) f85 rfl rfl hl.1 rfl (Nat.le_of_ble_eq_true rfl) dX7_carrierOf_23 ⟨Nat.le_of_ble_eq_true rfl, Nat.le_of_ble_eq_true rfl⟩ (fun z u h => h) (fun σ8 H locs hp9 hH => ?_)
    obtain ⟨f85, fr10⟩ := hp9
    have f86 : σ8 86 = aI E 87 v := (fr10 86 (by omega)).trans f86
    refine x_ifb_eq (tgt := 36) hx hb dX7_carrierOf_26 (by decide) (fun c26 => ?_) (fun c26 => ?_)
    · refine x_iconst hx hb dX7_carrierOf_36 ?_
      subst hQ
      exact x_iret hx hb hr hlocks hH (Nat.le_of_ble_eq_true rfl) (Nat.le_of_ble_eq_true rfl) ⟨(by first | (intro h; have h9 := k2_is.mp h; rw [plZ_is h9.1, kM_ge (by omega)]; omega) | (intro h; exfalso; have h9 := k2_is.mp h; have h8 := plZ_is (kp := kp) h9.1; have h7 := kM_ge (show 25 ≤ kp (k - 97) by omega); refine okZ_f.mp c26 ⟨decide_eq_true (by omega), ?_, rfl⟩; first | rfl | omega)), ⟨(f85.trans (by rw [g2_of (P := 97 ≤ k ∧ k < 103) (Q := ¬ kp (k - 97) < 25) (by omega) (fun h => by rw [← kM_100, ← plZ_is h]; simp; omega)])), f86⟩, fun j hj0 => (fr10 j (by omega))⟩ dX7_carrierOf_37
    · refine lv_iload_n hx hb dX7_carrierOf_29 rfl (lv_at hl 0 rfl) ?_
      refine x_bipush hx hb dX7_carrierOf_30 (by decide) ?_
      refine x_isub hx hb dX7_carrierOf_32 ?_
      refine lv_goto (tgt := 37) hx hb dX7_carrierOf_33 (by decide) ?_
      subst hQ
      exact x_iret hx hb hr hlocks hH (Nat.le_of_ble_eq_true rfl) (Nat.le_of_ble_eq_true rfl) ⟨(by first | (intro h; have h9 := k2_is.mp h; rw [plZ_is h9.1, kM_ge (by omega)]; omega) | (intro h; exfalso; have h9 := k2_is.mp h; have h8 := plZ_is (kp := kp) h9.1; have h7 := kM_ge (show 25 ≤ kp (k - 97) by omega); refine okZ_f.mp c26 ⟨decide_eq_true (by omega), ?_, rfl⟩; first | rfl | omega)), ⟨(f85.trans (by rw [g2_of (P := 97 ≤ k ∧ k < 103) (Q := ¬ kp (k - 97) < 25) (by omega) (fun h => by rw [← kM_100, ← plZ_is h]; simp; omega)])), f86⟩, fun j hj0 => (fr10 j (by omega))⟩ dX7_carrierOf_37
  · refine x_iconst hx hb dX7_carrierOf_17 ?_
    refine lv_goto (tgt := 22) hx hb dX7_carrierOf_18 (by decide) ?_
    refine x_iconst hx hb dX7_carrierOf_22 ?_
    refine x_cVIE (As := [.int (iZ (b2 (decide (97 ≤ k ∧ k ≤ 102)))), .int (iZ 1), .int (iZ 1)]) (rest := []) hx hb hml hts hown hK hST hOK hH 85 (c_X7_holds l E ST hSF σ (decide (97 ≤ k ∧ k ≤ 102)) true true sv re ea fa ty li th sz sp wr to f85 ) (cwV 3 hts gX7_carrierOf_X7_holds rfl rfl rfl (by decide +kernel) ⟨Nat.le_of_ble_eq_true rfl, Nat.le_of_ble_eq_true rfl⟩) (by decide) f85 rfl rfl hl.1 rfl (Nat.le_of_ble_eq_true rfl) dX7_carrierOf_23 ⟨Nat.le_of_ble_eq_true rfl, Nat.le_of_ble_eq_true rfl⟩ (fun z u h => h) (fun σ13 H locs hp14 hH => ?_)
    obtain ⟨f85, fr15⟩ := hp14
    have f86 : σ13 86 = aI E 87 v := (fr15 86 (by omega)).trans f86
    refine x_ifb_eq (tgt := 36) hx hb dX7_carrierOf_26 (by decide) (fun c26 => ?_) (fun c26 => ?_)
    · refine x_iconst hx hb dX7_carrierOf_36 ?_
      subst hQ
      exact x_iret hx hb hr hlocks hH (Nat.le_of_ble_eq_true rfl) (Nat.le_of_ble_eq_true rfl) ⟨(by first | (intro h; have h9 := k2_is.mp h; rw [plZ_is h9.1, kM_ge (by omega)]; omega) | (intro h; exfalso; have h9 := k2_is.mp h; have h8 := plZ_is (kp := kp) h9.1; have h7 := kM_ge (show 25 ≤ kp (k - 97) by omega); refine okZ_f.mp c26 ⟨decide_eq_true (by omega), ?_, rfl⟩; first | rfl | omega)), ⟨(f85.trans (by rw [g2_of (P := 97 ≤ k ∧ k < 103) (Q := ¬ kp (k - 97) < 25) (by omega) (fun h => by rw [← kM_100, ← plZ_is h]; simp; omega)])), f86⟩, fun j hj0 => (fr15 j (by omega))⟩ dX7_carrierOf_37
    · refine lv_iload_n hx hb dX7_carrierOf_29 rfl (lv_at hl 0 rfl) ?_
      refine x_bipush hx hb dX7_carrierOf_30 (by decide) ?_
      refine x_isub hx hb dX7_carrierOf_32 ?_
      refine lv_goto (tgt := 37) hx hb dX7_carrierOf_33 (by decide) ?_
      subst hQ
      exact x_iret hx hb hr hlocks hH (Nat.le_of_ble_eq_true rfl) (Nat.le_of_ble_eq_true rfl) ⟨(by first | (intro h; have h9 := k2_is.mp h; rw [plZ_is h9.1, kM_ge (by omega)]; omega) | (intro h; exfalso; have h9 := k2_is.mp h; have h8 := plZ_is (kp := kp) h9.1; have h7 := kM_ge (show 25 ≤ kp (k - 97) by omega); refine okZ_f.mp c26 ⟨decide_eq_true (by omega), ?_, rfl⟩; first | rfl | omega)), ⟨(f85.trans (by rw [g2_of (P := 97 ≤ k ∧ k < 103) (Q := ¬ kp (k - 97) < 25) (by omega) (fun h => by rw [← kM_100, ← plZ_is h]; simp; omega)])), f86⟩, fun j hj0 => (fr15 j (by omega))⟩ dX7_carrierOf_37

def rm_X7_walkerCount : Room := { frames := 0, cells := 0, slots := 0, locals := 0 }
set_option maxRecDepth 100000 in
set_option maxHeartbeats 4000000 in
theorem c_X7_walkerCount (l : Launch) (E : xE) (ST : xST) (hSF : SF ST) (σ : xW) (op : Int → Int) (lk : Int → Int) (kp : Int → Int) (wc : Int → Int) (pn : Int) (nw : Int) (sh : Int) (wk : Int) (sv : Bool) (re : Int) (ea : Int) (fa : Int) (ty : Int) (li : Int) (th : Int) (sz : Int) (sp : Int) (wr : Int) (to : Int) (v : Int → Int) (hr0 : mo E σ sv re ea fa ty li th sz sp wr to) (hr1 : now E σ v) (hC : Cp v op lk kp wc pn nw sh wk) (hB : BI op lk kp wc pn nw) : CI l E ST yX7_walkerCount wsX7_walkerCount rm_X7_walkerCount [.ref (xad E 85)] σ (fun (z : Int) (u : xW) => z = nw ∧ (mo E u sv re ea fa ty li 0 sz sp wr to ∧ now E u v) ∧ ∀ j : Nat, j ≠ 85 → u j = σ j) := by
  have f85 : σ 85 = oB 5 [.ref (xad E 86), .ref (xad E 87), .ref (xad E 88), .ref (xad E 89), .ref (xad E 90), .int (iZ (b2 sv)), .int (iZ re), .int (iZ ea), .int (iZ fa), .ref (xad E 91), .ref (xad E 92), .ref (xad E 93), .int (iZ ty), .ref (xad E 94), .int (iZ li), .int (iZ th), .int (iZ sz), .int (iZ sp), .int (iZ wr), .int (iZ to), .ref (xad E 95)] := hr0
  have f86 : σ 86 = aI E 87 v := hr1
  refine CI_of (by decide) rfl (Nat.le_of_ble_eq_true rfl) ?_
  intro p e s m args below meth c Q ls G hH hl hQ
  obtain ⟨hx, hb, hml, hown, hts, hK, hST, hlocks, hr, hno⟩ := G
  have hOK := hSF.1
  have hown : s.vm.findClass RX7 = some m.cls := hown
  have hl : lv_has ls 1 [(0, .ref (xad E 85))] := hl
  have hinX7 : ∀ w ∈ u_ws RX7 TX7 21, w ∈ wsX7_walkerCount := fun w h => (List.mem_cons_of_mem _ (List.mem_append_right _ h))
  obtain ⟨hop, hlk, hkp, hwc, hpn, hnw⟩ := id hB
  have hvR := hC.R
  have hv0 := hC.1.1
  refine lv_aload_n hx hb dX7_walkerCount_0 rfl (lv_at hl 0 rfl) ?_
  refine x_iconst hx hb dX7_walkerCount_1 ?_
  refine x_put (fs' := [.ref (xad E 86), .ref (xad E 87), .ref (xad E 88), .ref (xad E 89), .ref (xad E 90), .int (iZ (b2 sv)), .int (iZ re), .int (iZ ea), .int (iZ fa), .ref (xad E 91), .ref (xad E 92), .ref (xad E 93), .int (iZ ty), .ref (xad E 94), .int (iZ li), .int (iZ 0), .int (iZ sz), .int (iZ sp), .int (iZ wr), .int (iZ to), .ref (xad E 95)]) hx hb hts hown hK hH 85 (by decide) f85 hinX7 rfl tyX7 tyX7_ok nmX7 15 (by decide) (List.mem_of_getElem? (i := 1) rfl) rfl (ty := .int) (by decide +kernel) rfl rfl (Nat.le_of_ble_eq_true rfl) rfl dX7_walkerCount_2 (fun σ1 H locs f85 fr2 hH => ?_)
  have f86 : σ1 86 = aI E 87 v := (fr2 86 (by omega)).trans f86
  refine lv_aload_n hx hb dX7_walkerCount_5 rfl (lv_at hl 0 rfl) ?_
  refine x_get hx hb hts hown hK hH 85 (by decide) f85 hinX7 rfl 0 (by decide) (List.mem_of_getElem? (i := 2) rfl) rfl dX7_walkerCount_6 ?_
  refine x_iconst hx hb dX7_walkerCount_9 ?_
  refine x_iald hx hb hK hH 86 (by decide) f86 (by omega) (by omega) (by omega) dX7_walkerCount_10 ?_
  have hv3 := hvR 0
  subst hQ
  exact x_iret hx hb hr hlocks hH (Nat.le_of_ble_eq_true rfl) (Nat.le_of_ble_eq_true rfl) ⟨(show (v 0) = nw from (by exact hv0)), ⟨f85, f86⟩, fun j hj0 => (fr2 j (by omega))⟩ dX7_walkerCount_11

def rm_X7_walkerRow : Room := { frames := 3, cells := 0, slots := 0, locals := 64 }
set_option maxRecDepth 100000 in
set_option maxHeartbeats 4000000 in
theorem c_X7_walkerRow (l : Launch) (E : xE) (ST : xST) (hSF : SF ST) (σ : xW) (w : Int) (op : Int → Int) (lk : Int → Int) (kp : Int → Int) (wc : Int → Int) (pn : Int) (nw : Int) (sh : Int) (wk : Int) (sv : Bool) (re : Int) (ea : Int) (fa : Int) (ty : Int) (li : Int) (th : Int) (sz : Int) (sp : Int) (wr : Int) (to : Int) (v : Int → Int) (hr0 : mo E σ sv re ea fa ty li th sz sp wr to) (hr1 : now E σ v) (hC : Cp v op lk kp wc pn nw sh wk) (hB : BI op lk kp wc pn nw) (hw9 : rg w) : CI l E ST yX7_walkerRow wsX7_walkerRow rm_X7_walkerRow [.ref (xad E 85), .int (iZ w)] σ (fun (z : Int) (u : xW) => (0 ≤ w ∧ w < nw → z = wc w / 5) ∧ (mo E u sv re ea fa ty li (k1 (0 ≤ w ∧ w < nw)) sz sp wr to ∧ now E u v) ∧ ∀ j : Nat, j ≠ 85 → u j = σ j) := by
  have f85 : σ 85 = oB 5 [.ref (xad E 86), .ref (xad E 87), .ref (xad E 88), .ref (xad E 89), .ref (xad E 90), .int (iZ (b2 sv)), .int (iZ re), .int (iZ ea), .int (iZ fa), .ref (xad E 91), .ref (xad E 92), .ref (xad E 93), .int (iZ ty), .ref (xad E 94), .int (iZ li), .int (iZ th), .int (iZ sz), .int (iZ sp), .int (iZ wr), .int (iZ to), .ref (xad E 95)] := hr0
  have f86 : σ 86 = aI E 87 v := hr1
  refine CI_of (by decide) rfl (Nat.le_of_ble_eq_true rfl) ?_
  intro p e s m args below meth c Q ls G hH hl hQ
  obtain ⟨hx, hb, hml, hown, hts, hK, hST, hlocks, hr, hno⟩ := G
  have hOK := hSF.1
  have hown : s.vm.findClass RX7 = some m.cls := hown
  have hl : lv_has ls 2 [(0, .ref (xad E 85)), (1, .int (iZ w))] := hl
  obtain ⟨hop, hlk, hkp, hwc, hpn, hnw⟩ := id hB
  have hvR := hC.R
  have hv0 := hC.1.1
  have hwq := hwc w
  refine lv_aload_n hx hb dX7_walkerRow_0 rfl (lv_at hl 0 rfl) ?_
  refine lv_aload_n hx hb dX7_walkerRow_1 rfl (lv_at hl 0 rfl) ?_
  refine lv_iload_n hx hb dX7_walkerRow_2 rfl (lv_at hl 1 rfl) ?_
  refine x_cVID (As := [.int (iZ w)]) (rest := [.ref (xad E 85)]) hx hb hml hts hown hK hST hOK hH 85 (c_X7_isWalker l E ST hSF σ w op lk kp wc pn nw sh wk sv re ea fa ty li th sz sp wr to v f85 f86 (by assumption) (by omega) (by omega)) (cwV 1 hts gX7_walkerRow_X7_isWalker rfl rfl rfl (by decide +kernel) ⟨Nat.le_of_ble_eq_true rfl, Nat.le_of_ble_eq_true rfl⟩) (by decide) f85 rfl rfl hl.1 rfl (Nat.le_of_ble_eq_true rfl) dX7_walkerRow_3 ⟨Nat.le_of_ble_eq_true rfl, Nat.le_of_ble_eq_true rfl⟩ (fun z u h => h) (fun H locs hH => ?_)
  refine x_cVIE (As := [.int (iZ (b2 (decide (0 ≤ w ∧ w < nw))))]) (rest := []) hx hb hml hts hown hK hST hOK hH 85 (c_X7_goes l E ST hSF σ (decide (0 ≤ w ∧ w < nw)) sv re ea fa ty li th sz sp wr to f85 ) (cwV 1 hts gX7_walkerRow_X7_goes rfl rfl rfl (by decide +kernel) ⟨Nat.le_of_ble_eq_true rfl, Nat.le_of_ble_eq_true rfl⟩) (by decide) f85 rfl rfl hl.1 rfl (Nat.le_of_ble_eq_true rfl) dX7_walkerRow_6 ⟨Nat.le_of_ble_eq_true rfl, Nat.le_of_ble_eq_true rfl⟩ (fun z u h => h) (fun σ5 H locs hp6 hH => ?_)
  obtain ⟨f85, fr7⟩ := hp6
  have f86 : σ5 86 = aI E 87 v := (fr7 86 (by omega)).trans f86
  refine x_ifb_eq (tgt := 22) hx hb dX7_walkerRow_9 (by decide) (fun c9 => ?_) (fun c9 => ?_)
  · have c9 := of_decide_eq_false c9
    refine x_iconst hx hb dX7_walkerRow_22 ?_
    subst hQ
    exact x_iret hx hb hr hlocks hH (Nat.le_of_ble_eq_true rfl) (Nat.le_of_ble_eq_true rfl) ⟨(by first | (intro h; rfl) | (intro h; exact absurd h (by omega))), ⟨(f85.trans (by rw [g1_w])), f86⟩, fun j hj0 => (fr7 j (by omega))⟩ dX7_walkerRow_23
  · have c9 := of_decide_eq_true c9
    refine lv_aload_n hx hb dX7_walkerRow_12 rfl (lv_at hl 0 rfl) ?_
    refine lv_iload_n hx hb dX7_walkerRow_13 rfl (lv_at hl 1 rfl) ?_
    refine x_cVID (As := [.int (iZ w)]) (rest := []) hx hb hml hts hown hK hST hOK hH 85 (c_X7_standing l E ST hSF σ5 w op lk kp wc pn nw sh wk sv re ea fa ty li (if (decide (0 ≤ w ∧ w < nw)) = true then 0 else 1) sz sp wr to v f85 f86 (by assumption) (by omega) (by omega)) (cwV 1 hts gX7_walkerRow_X7_standing rfl rfl rfl (by decide +kernel) ⟨Nat.le_of_ble_eq_true rfl, Nat.le_of_ble_eq_true rfl⟩) (by decide) f85 rfl rfl hl.1 rfl (Nat.le_of_ble_eq_true rfl) dX7_walkerRow_14 ⟨Nat.le_of_ble_eq_true rfl, Nat.le_of_ble_eq_true rfl⟩ (fun z u h => h) (fun H locs hH => ?_)
    rw [if_pos (by omega)]
    refine x_iconst hx hb dX7_walkerRow_17 ?_
    refine x_idiv hx hb dX7_walkerRow_18 (by omega) (by omega) (by omega) (by omega) ?_
    refine lv_goto (tgt := 23) hx hb dX7_walkerRow_19 (by decide) ?_
    subst hQ
    exact x_iret hx hb hr hlocks hH (Nat.le_of_ble_eq_true rfl) (Nat.le_of_ble_eq_true rfl) ⟨(by first | (intro h; rfl) | (intro h; exact absurd h (by omega))), ⟨(f85.trans (by rw [g1_w])), f86⟩, fun j hj0 => (fr7 j (by omega))⟩ dX7_walkerRow_23

def rm_X7_walkerColumn : Room := { frames := 3, cells := 0, slots := 0, locals := 64 }
set_option maxRecDepth 100000 in
set_option maxHeartbeats 4000000 in
theorem c_X7_walkerColumn (l : Launch) (E : xE) (ST : xST) (hSF : SF ST) (σ : xW) (w : Int) (op : Int → Int) (lk : Int → Int) (kp : Int → Int) (wc : Int → Int) (pn : Int) (nw : Int) (sh : Int) (wk : Int) (sv : Bool) (re : Int) (ea : Int) (fa : Int) (ty : Int) (li : Int) (th : Int) (sz : Int) (sp : Int) (wr : Int) (to : Int) (v : Int → Int) (hr0 : mo E σ sv re ea fa ty li th sz sp wr to) (hr1 : now E σ v) (hC : Cp v op lk kp wc pn nw sh wk) (hB : BI op lk kp wc pn nw) (hw9 : rg w) : CI l E ST yX7_walkerColumn wsX7_walkerColumn rm_X7_walkerColumn [.ref (xad E 85), .int (iZ w)] σ (fun (z : Int) (u : xW) => (0 ≤ w ∧ w < nw → z = wc w % 5) ∧ (mo E u sv re ea fa ty li (k1 (0 ≤ w ∧ w < nw)) sz sp wr to ∧ now E u v) ∧ ∀ j : Nat, j ≠ 85 → u j = σ j) := by
  have f85 : σ 85 = oB 5 [.ref (xad E 86), .ref (xad E 87), .ref (xad E 88), .ref (xad E 89), .ref (xad E 90), .int (iZ (b2 sv)), .int (iZ re), .int (iZ ea), .int (iZ fa), .ref (xad E 91), .ref (xad E 92), .ref (xad E 93), .int (iZ ty), .ref (xad E 94), .int (iZ li), .int (iZ th), .int (iZ sz), .int (iZ sp), .int (iZ wr), .int (iZ to), .ref (xad E 95)] := hr0
  have f86 : σ 86 = aI E 87 v := hr1
  refine CI_of (by decide) rfl (Nat.le_of_ble_eq_true rfl) ?_
  intro p e s m args below meth c Q ls G hH hl hQ
  obtain ⟨hx, hb, hml, hown, hts, hK, hST, hlocks, hr, hno⟩ := G
  have hOK := hSF.1
  have hown : s.vm.findClass RX7 = some m.cls := hown
  have hl : lv_has ls 2 [(0, .ref (xad E 85)), (1, .int (iZ w))] := hl
  obtain ⟨hop, hlk, hkp, hwc, hpn, hnw⟩ := id hB
  have hvR := hC.R
  have hv0 := hC.1.1
  have hwq := hwc w
  refine lv_aload_n hx hb dX7_walkerColumn_0 rfl (lv_at hl 0 rfl) ?_
  refine lv_aload_n hx hb dX7_walkerColumn_1 rfl (lv_at hl 0 rfl) ?_
  refine lv_iload_n hx hb dX7_walkerColumn_2 rfl (lv_at hl 1 rfl) ?_
  refine x_cVID (As := [.int (iZ w)]) (rest := [.ref (xad E 85)]) hx hb hml hts hown hK hST hOK hH 85 (c_X7_isWalker l E ST hSF σ w op lk kp wc pn nw sh wk sv re ea fa ty li th sz sp wr to v f85 f86 (by assumption) (by omega) (by omega)) (cwV 1 hts gX7_walkerColumn_X7_isWalker rfl rfl rfl (by decide +kernel) ⟨Nat.le_of_ble_eq_true rfl, Nat.le_of_ble_eq_true rfl⟩) (by decide) f85 rfl rfl hl.1 rfl (Nat.le_of_ble_eq_true rfl) dX7_walkerColumn_3 ⟨Nat.le_of_ble_eq_true rfl, Nat.le_of_ble_eq_true rfl⟩ (fun z u h => h) (fun H locs hH => ?_)
  refine x_cVIE (As := [.int (iZ (b2 (decide (0 ≤ w ∧ w < nw))))]) (rest := []) hx hb hml hts hown hK hST hOK hH 85 (c_X7_goes l E ST hSF σ (decide (0 ≤ w ∧ w < nw)) sv re ea fa ty li th sz sp wr to f85 ) (cwV 1 hts gX7_walkerColumn_X7_goes rfl rfl rfl (by decide +kernel) ⟨Nat.le_of_ble_eq_true rfl, Nat.le_of_ble_eq_true rfl⟩) (by decide) f85 rfl rfl hl.1 rfl (Nat.le_of_ble_eq_true rfl) dX7_walkerColumn_6 ⟨Nat.le_of_ble_eq_true rfl, Nat.le_of_ble_eq_true rfl⟩ (fun z u h => h) (fun σ5 H locs hp6 hH => ?_)
  obtain ⟨f85, fr7⟩ := hp6
  have f86 : σ5 86 = aI E 87 v := (fr7 86 (by omega)).trans f86
  refine x_ifb_eq (tgt := 22) hx hb dX7_walkerColumn_9 (by decide) (fun c9 => ?_) (fun c9 => ?_)
  · have c9 := of_decide_eq_false c9
    refine x_iconst hx hb dX7_walkerColumn_22 ?_
    subst hQ
    exact x_iret hx hb hr hlocks hH (Nat.le_of_ble_eq_true rfl) (Nat.le_of_ble_eq_true rfl) ⟨(by first | (intro h; rfl) | (intro h; exact absurd h (by omega))), ⟨(f85.trans (by rw [g1_w])), f86⟩, fun j hj0 => (fr7 j (by omega))⟩ dX7_walkerColumn_23
  · have c9 := of_decide_eq_true c9
    refine lv_aload_n hx hb dX7_walkerColumn_12 rfl (lv_at hl 0 rfl) ?_
    refine lv_iload_n hx hb dX7_walkerColumn_13 rfl (lv_at hl 1 rfl) ?_
    refine x_cVID (As := [.int (iZ w)]) (rest := []) hx hb hml hts hown hK hST hOK hH 85 (c_X7_standing l E ST hSF σ5 w op lk kp wc pn nw sh wk sv re ea fa ty li (if (decide (0 ≤ w ∧ w < nw)) = true then 0 else 1) sz sp wr to v f85 f86 (by assumption) (by omega) (by omega)) (cwV 1 hts gX7_walkerColumn_X7_standing rfl rfl rfl (by decide +kernel) ⟨Nat.le_of_ble_eq_true rfl, Nat.le_of_ble_eq_true rfl⟩) (by decide) f85 rfl rfl hl.1 rfl (Nat.le_of_ble_eq_true rfl) dX7_walkerColumn_14 ⟨Nat.le_of_ble_eq_true rfl, Nat.le_of_ble_eq_true rfl⟩ (fun z u h => h) (fun H locs hH => ?_)
    rw [if_pos (by omega)]
    refine x_iconst hx hb dX7_walkerColumn_17 ?_
    refine x_irem hx hb dX7_walkerColumn_18 (by omega) (by omega) (by omega) (by omega) ?_
    refine lv_goto (tgt := 23) hx hb dX7_walkerColumn_19 (by decide) ?_
    subst hQ
    exact x_iret hx hb hr hlocks hH (Nat.le_of_ble_eq_true rfl) (Nat.le_of_ble_eq_true rfl) ⟨(by first | (intro h; rfl) | (intro h; exact absurd h (by omega))), ⟨(f85.trans (by rw [g1_w])), f86⟩, fun j hj0 => (fr7 j (by omega))⟩ dX7_walkerColumn_23

def rm_X7_keysOf : Room := { frames := 2, cells := 0, slots := 0, locals := 44 }
set_option maxRecDepth 100000 in
set_option maxHeartbeats 4000000 in
theorem c_X7_keysOf (l : Launch) (E : xE) (ST : xST) (hSF : SF ST) (σ : xW) (w : Int) (op : Int → Int) (lk : Int → Int) (kp : Int → Int) (wc : Int → Int) (pn : Int) (nw : Int) (sh : Int) (wk : Int) (sv : Bool) (re : Int) (ea : Int) (fa : Int) (ty : Int) (li : Int) (th : Int) (sz : Int) (sp : Int) (wr : Int) (to : Int) (v : Int → Int) (hr0 : mo E σ sv re ea fa ty li th sz sp wr to) (hr1 : now E σ v) (hC : Cp v op lk kp wc pn nw sh wk) (hB : BI op lk kp wc pn nw) (hw9 : rg w) : CI l E ST yX7_keysOf wsX7_keysOf rm_X7_keysOf [.ref (xad E 85), .int (iZ w)] σ (fun (z : Int) (u : xW) => (0 ≤ w ∧ w < nw → z = cntK kp (25 + w) 6) ∧ (mo E u sv re ea fa ty li (k1 (0 ≤ w ∧ w < nw)) sz sp wr to ∧ now E u v) ∧ ∀ j : Nat, j ≠ 85 → u j = σ j) := by
  have f85 : σ 85 = oB 5 [.ref (xad E 86), .ref (xad E 87), .ref (xad E 88), .ref (xad E 89), .ref (xad E 90), .int (iZ (b2 sv)), .int (iZ re), .int (iZ ea), .int (iZ fa), .ref (xad E 91), .ref (xad E 92), .ref (xad E 93), .int (iZ ty), .ref (xad E 94), .int (iZ li), .int (iZ th), .int (iZ sz), .int (iZ sp), .int (iZ wr), .int (iZ to), .ref (xad E 95)] := hr0
  have f86 : σ 86 = aI E 87 v := hr1
  refine CI_of (by decide) rfl (Nat.le_of_ble_eq_true rfl) ?_
  intro p e s m args below meth c Q ls G hH hl hQ
  obtain ⟨hx, hb, hml, hown, hts, hK, hST, hlocks, hr, hno⟩ := G
  have hOK := hSF.1
  have hown : s.vm.findClass RX7 = some m.cls := hown
  have hl : lv_has ls 2 [(0, .ref (xad E 85)), (1, .int (iZ w))] := hl
  obtain ⟨hop, hlk, hkp, hwc, hpn, hnw⟩ := id hB
  have hvR := hC.R
  have hv0 := hC.1.1
  refine lv_aload_n hx hb dX7_keysOf_0 rfl (lv_at hl 0 rfl) ?_
  refine lv_aload_n hx hb dX7_keysOf_1 rfl (lv_at hl 0 rfl) ?_
  refine lv_iload_n hx hb dX7_keysOf_2 rfl (lv_at hl 1 rfl) ?_
  refine x_cVID (As := [.int (iZ w)]) (rest := [.ref (xad E 85)]) hx hb hml hts hown hK hST hOK hH 85 (c_X7_isWalker l E ST hSF σ w op lk kp wc pn nw sh wk sv re ea fa ty li th sz sp wr to v f85 f86 (by assumption) (by omega) (by omega)) (cwV 1 hts gX7_keysOf_X7_isWalker rfl rfl rfl (by decide +kernel) ⟨Nat.le_of_ble_eq_true rfl, Nat.le_of_ble_eq_true rfl⟩) (by decide) f85 rfl rfl hl.1 rfl (Nat.le_of_ble_eq_true rfl) dX7_keysOf_3 ⟨Nat.le_of_ble_eq_true rfl, Nat.le_of_ble_eq_true rfl⟩ (fun z u h => h) (fun H locs hH => ?_)
  refine x_cVIE (As := [.int (iZ (b2 (decide (0 ≤ w ∧ w < nw))))]) (rest := []) hx hb hml hts hown hK hST hOK hH 85 (c_X7_goes l E ST hSF σ (decide (0 ≤ w ∧ w < nw)) sv re ea fa ty li th sz sp wr to f85 ) (cwV 1 hts gX7_keysOf_X7_goes rfl rfl rfl (by decide +kernel) ⟨Nat.le_of_ble_eq_true rfl, Nat.le_of_ble_eq_true rfl⟩) (by decide) f85 rfl rfl hl.1 rfl (Nat.le_of_ble_eq_true rfl) dX7_keysOf_6 ⟨Nat.le_of_ble_eq_true rfl, Nat.le_of_ble_eq_true rfl⟩ (fun z u h => h) (fun σ5 H locs hp6 hH => ?_)
  obtain ⟨f85, fr7⟩ := hp6
  have f86 : σ5 86 = aI E 87 v := (fr7 86 (by omega)).trans f86
  refine x_ifb_eq (tgt := 23) hx hb dX7_keysOf_9 (by decide) (fun c9 => ?_) (fun c9 => ?_)
  · have c9 := of_decide_eq_false c9
    refine x_iconst hx hb dX7_keysOf_23 ?_
    subst hQ
    exact x_iret hx hb hr hlocks hH (Nat.le_of_ble_eq_true rfl) (Nat.le_of_ble_eq_true rfl) ⟨(by first | (intro h; exact cntK_kW h.1) | (intro h; exact absurd h (by omega))), ⟨(f85.trans (by rw [g1_w])), f86⟩, fun j hj0 => (fr7 j (by omega))⟩ dX7_keysOf_24
  · have c9 := of_decide_eq_true c9
    refine lv_aload_n hx hb dX7_keysOf_12 rfl (lv_at hl 0 rfl) ?_
    refine x_bipush hx hb dX7_keysOf_13 (by decide) ?_
    refine lv_iload_n hx hb dX7_keysOf_15 rfl (lv_at hl 1 rfl) ?_
    refine x_iadd hx hb dX7_keysOf_16 ?_
    refine x_cVID (As := [.int (iZ (100 + w))]) (rest := []) hx hb hml hts hown hK hST hOK hH 85 (c_X7_keysOn l E ST hSF σ5 (100 + w) op lk kp wc pn nw sh wk sv re ea fa ty li (if (decide (0 ≤ w ∧ w < nw)) = true then 0 else 1) sz sp wr to v f85 f86 (by assumption) (by omega) (by omega)) (cwV 1 hts gX7_keysOf_X7_keysOn rfl rfl rfl (by decide +kernel) ⟨Nat.le_of_ble_eq_true rfl, Nat.le_of_ble_eq_true rfl⟩) (by decide) f85 rfl rfl hl.1 rfl (Nat.le_of_ble_eq_true rfl) dX7_keysOf_17 ⟨Nat.le_of_ble_eq_true rfl, Nat.le_of_ble_eq_true rfl⟩ (fun z u h => h) (fun H locs hH => ?_)
    refine lv_goto (tgt := 24) hx hb dX7_keysOf_20 (by decide) ?_
    subst hQ
    exact x_iret hx hb hr hlocks hH (Nat.le_of_ble_eq_true rfl) (Nat.le_of_ble_eq_true rfl) ⟨(by first | (intro h; exact cntK_kW h.1) | (intro h; exact absurd h (by omega))), ⟨(f85.trans (by rw [g1_w])), f86⟩, fun j hj0 => (fr7 j (by omega))⟩ dX7_keysOf_24

def rm_X7_lengthTo : Room := { frames := 8, cells := 0, slots := 0, locals := 181 }
set_option maxRecDepth 100000 in
set_option maxHeartbeats 4000000 in
theorem c_X7_lengthTo (l : Launch) (E : xE) (ST : xST) (hSF : SF ST) (σ : xW) (w : Int) (r : Int) (c0 : Int) (op : Int → Int) (lk : Int → Int) (kp : Int → Int) (wc : Int → Int) (pn : Int) (nw : Int) (sh : Int) (wk : Int) (sv : Bool) (re : Int) (ea : Int) (fa : Int) (ty : Int) (li : Int) (th : Int) (sz : Int) (sp : Int) (wr : Int) (to : Int) (v : Int → Int) (F : Int → Int) (hr0 : mo E σ sv re ea fa ty li th sz sp wr to) (hr1 : now E σ v) (hr2 : far E σ F) (hC : Cp v op lk kp wc pn nw sh wk) (hB : BI op lk kp wc pn nw) (hr9 : rg r) (hc9 : rg c0) (hw9 : rg w) (hFr : ∀ j : Int, rg (F j)) : CI l E ST yX7_lengthTo wsX7_lengthTo rm_X7_lengthTo [.ref (xad E 85), .int (iZ w), .int (iZ r), .int (iZ c0)] σ (fun (z : Int) (u : xW) => (k2 ((0 ≤ w ∧ w < nw) ∧ okC r c0) (dz (Gw op lk kp w) (wc w) (r * 5 + c0) < 25) = 0 → z = dz (Gw op lk kp w) (wc w) (r * 5 + c0)) ∧ (∃ (F1 : Int → Int), mo E u sv re ea fa ty li (k2 ((0 ≤ w ∧ w < nw) ∧ okC r c0) (dz (Gw op lk kp w) (wc w) (r * 5 + c0) < 25)) sz sp wr to ∧ now E u v ∧ far E u F1 ∧ (∀ j : Int, rg (F1 j))) ∧ ∀ j : Nat, j ≠ 85 → j ≠ 92 → u j = σ j) := by
  have f85 : σ 85 = oB 5 [.ref (xad E 86), .ref (xad E 87), .ref (xad E 88), .ref (xad E 89), .ref (xad E 90), .int (iZ (b2 sv)), .int (iZ re), .int (iZ ea), .int (iZ fa), .ref (xad E 91), .ref (xad E 92), .ref (xad E 93), .int (iZ ty), .ref (xad E 94), .int (iZ li), .int (iZ th), .int (iZ sz), .int (iZ sp), .int (iZ wr), .int (iZ to), .ref (xad E 95)] := hr0
  have f86 : σ 86 = aI E 87 v := hr1
  have f92 : σ 92 = aI E 25 F := hr2
  refine CI_of (by decide) rfl (Nat.le_of_ble_eq_true rfl) ?_
  intro p e s m args below meth c Q ls G hH hl hQ
  obtain ⟨hx, hb, hml, hown, hts, hK, hST, hlocks, hr, hno⟩ := G
  have hOK := hSF.1
  have hown : s.vm.findClass RX7 = some m.cls := hown
  have hl : lv_has ls 6 [(0, .ref (xad E 85)), (1, .int (iZ w)), (2, .int (iZ r)), (3, .int (iZ c0))] := hl
  obtain ⟨hop, hlk, hkp, hwc, hpn, hnw⟩ := id hB
  have hvR := hC.R
  have hv0 := hC.1.1
  have hcz := cellZ_rg (r := r) (c := c0)
  have hdr := dz_rg (G := Gw op lk kp w) (st := wc w) Gw_ok (hwc w)
  refine lv_aload_n hx hb dX7_lengthTo_0 rfl (lv_at hl 0 rfl) ?_
  refine lv_iload_n hx hb dX7_lengthTo_1 rfl (lv_at hl 1 rfl) ?_
  refine x_cVID (As := [.int (iZ w)]) (rest := []) hx hb hml hts hown hK hST hOK hH 85 (c_X7_isWalker l E ST hSF σ w op lk kp wc pn nw sh wk sv re ea fa ty li th sz sp wr to v f85 f86 (by assumption) (by omega) (by omega)) (cwV 1 hts gX7_lengthTo_X7_isWalker rfl rfl rfl (by decide +kernel) ⟨Nat.le_of_ble_eq_true rfl, Nat.le_of_ble_eq_true rfl⟩) (by decide) f85 rfl rfl hl.1 rfl (Nat.le_of_ble_eq_true rfl) dX7_lengthTo_2 ⟨Nat.le_of_ble_eq_true rfl, Nat.le_of_ble_eq_true rfl⟩ (fun z u h => h) (fun H locs hH => ?_)
  refine x_ifb_eq (tgt := 20) hx hb dX7_lengthTo_5 (by decide) (fun c5 => ?_) (fun c5 => ?_)
  · have c5 := of_decide_eq_false c5
    refine x_iconst hx hb dX7_lengthTo_20 ?_
    refine lv_istore (lv' := [(4, .int (iZ 0)), (0, .ref (xad E 85)), (1, .int (iZ w)), (2, .int (iZ r)), (3, .int (iZ c0))]) hx hb dX7_lengthTo_21 hl (by decide) rfl (fun ls hl => ?_)
    refine lv_iload hx hb dX7_lengthTo_23 (lv_at hl 0 rfl) ?_
    refine x_if_eq (tgt := 41) hx hb dX7_lengthTo_25 (by decide) (by decide) (fun c25 => ?_) (fun c25 => ?_)
    · refine x_iconst hx hb dX7_lengthTo_41 ?_
      refine lv_istore (lv' := [(5, .int (iZ (-1))), (4, .int (iZ 0)), (0, .ref (xad E 85)), (1, .int (iZ w)), (2, .int (iZ r)), (3, .int (iZ c0))]) hx hb dX7_lengthTo_42 hl (by decide) rfl (fun ls hl => ?_)
      refine lv_aload_n hx hb dX7_lengthTo_44 rfl (lv_at hl 2 rfl) ?_
      refine lv_iload hx hb dX7_lengthTo_45 (lv_at hl 1 rfl) ?_
      refine lv_iload hx hb dX7_lengthTo_47 (lv_at hl 0 rfl) ?_
      refine x_iconst hx hb dX7_lengthTo_49 ?_
      refine x_icmp_eq (tgt := 57) hx hb dX7_lengthTo_50 (by decide) (by decide) (by decide) (fun c50 => ?_) (fun c50 => ?_)
      · refine x_iconst hx hb dX7_lengthTo_57 ?_
        refine x_iconst hx hb dX7_lengthTo_58 ?_
        refine x_cVIE (As := [.int (iZ 0), .int (iZ 0), .int (iZ 1)]) (rest := []) hx hb hml hts hown hK hST hOK hH 85 (c_X7_holds l E ST hSF σ false false true sv re ea fa ty li th sz sp wr to f85 ) (cwV 3 hts gX7_lengthTo_X7_holds rfl rfl rfl (by decide +kernel) ⟨Nat.le_of_ble_eq_true rfl, Nat.le_of_ble_eq_true rfl⟩) (by decide) f85 rfl rfl hl.1 rfl (Nat.le_of_ble_eq_true rfl) dX7_lengthTo_59 ⟨Nat.le_of_ble_eq_true rfl, Nat.le_of_ble_eq_true rfl⟩ (fun z u h => h) (fun σ5 H locs hp6 hH => ?_)
        obtain ⟨f85, fr7⟩ := hp6
        have f86 : σ5 86 = aI E 87 v := (fr7 86 (by omega)).trans f86
        have f92 : σ5 92 = aI E 25 F := (fr7 92 (by omega)).trans f92
        refine x_ifb_eq (tgt := 70) hx hb dX7_lengthTo_62 (by decide) (fun c62 => ?_) (fun c62 => ?_)
        · refine x_iconst hx hb dX7_lengthTo_70 ?_
          subst hQ
          exact x_iret hx hb hr hlocks hH (Nat.le_of_ble_eq_true rfl) (Nat.le_of_ble_eq_true rfl) ⟨(by intro h; have h9 := k2_is.mp h; first | exact hn9 h9.2 | (exfalso; omega) | (exfalso; exact absurd c62 (by decide)) | (exfalso; exact hm9.mp (by omega) h9.2)), ⟨F, (f85.trans (by first | (rw [k2_0 (by omega) (by omega)]; rfl) | (rw [k2_1 (by omega)]; rfl) | (rw [k2_2 (by omega) (by omega)]; rfl))), f86, f92, (by first | assumption | exact fun j => ⟨by have := mdF_rg (G := Gw op lk kp w) (st := wc w) Gw_ok (hwc w) j; omega, by have := mdF_rg (G := Gw op lk kp w) (st := wc w) Gw_ok (hwc w) j; omega⟩)⟩, fun j hj0 hj1 => (fr7 j (by omega))⟩ dX7_lengthTo_71
        · refine lv_iload hx hb dX7_lengthTo_65 (lv_at hl 0 rfl) ?_
          refine lv_goto (tgt := 71) hx hb dX7_lengthTo_67 (by decide) ?_
          subst hQ
          exact x_iret hx hb hr hlocks hH (Nat.le_of_ble_eq_true rfl) (Nat.le_of_ble_eq_true rfl) ⟨(by intro h; have h9 := k2_is.mp h; first | exact hn9 h9.2 | (exfalso; omega) | (exfalso; exact absurd c62 (by decide)) | (exfalso; exact hm9.mp (by omega) h9.2)), ⟨F, (f85.trans (by first | (rw [k2_0 (by omega) (by omega)]; rfl) | (rw [k2_1 (by omega)]; rfl) | (rw [k2_2 (by omega) (by omega)]; rfl))), f86, f92, (by first | assumption | exact fun j => ⟨by have := mdF_rg (G := Gw op lk kp w) (st := wc w) Gw_ok (hwc w) j; omega, by have := mdF_rg (G := Gw op lk kp w) (st := wc w) Gw_ok (hwc w) j; omega⟩)⟩, fun j hj0 hj1 => (fr7 j (by omega))⟩ dX7_lengthTo_71
      · exact absurd c50 (by decide)
    · exact absurd c25 (by decide)
  · have c5 := of_decide_eq_true c5
    refine lv_iload_n hx hb dX7_lengthTo_8 rfl (lv_at hl 2 rfl) ?_
    refine lv_iload_n hx hb dX7_lengthTo_9 rfl (lv_at hl 3 rfl) ?_
    refine x_cSID (As := [.int (iZ r), .int (iZ c0)]) (rest := []) hx hb hml hts hown hK hST hOK hH (c_X7_isCell l E ST hSF σ r c0  (by omega) (by omega)) (va_cwS 2 hts gX7_lengthTo_X7_isCell rfl rfl rfl (by decide +kernel) ⟨Nat.le_of_ble_eq_true rfl, Nat.le_of_ble_eq_true rfl⟩) rfl hl.1 rfl (Nat.le_of_ble_eq_true rfl) dX7_lengthTo_10 ⟨Nat.le_of_ble_eq_true rfl, Nat.le_of_ble_eq_true rfl⟩ (fun z u h => h) (fun H locs hH => ?_)
    refine x_ifb_eq (tgt := 20) hx hb dX7_lengthTo_13 (by decide) (fun c13 => ?_) (fun c13 => ?_)
    · have c13 := of_decide_eq_false c13
      refine x_iconst hx hb dX7_lengthTo_20 ?_
      refine lv_istore (lv' := [(4, .int (iZ 0)), (0, .ref (xad E 85)), (1, .int (iZ w)), (2, .int (iZ r)), (3, .int (iZ c0))]) hx hb dX7_lengthTo_21 hl (by decide) rfl (fun ls hl => ?_)
      refine lv_iload hx hb dX7_lengthTo_23 (lv_at hl 0 rfl) ?_
      refine x_if_eq (tgt := 41) hx hb dX7_lengthTo_25 (by decide) (by decide) (fun c25 => ?_) (fun c25 => ?_)
      · refine x_iconst hx hb dX7_lengthTo_41 ?_
        refine lv_istore (lv' := [(5, .int (iZ (-1))), (4, .int (iZ 0)), (0, .ref (xad E 85)), (1, .int (iZ w)), (2, .int (iZ r)), (3, .int (iZ c0))]) hx hb dX7_lengthTo_42 hl (by decide) rfl (fun ls hl => ?_)
        refine lv_aload_n hx hb dX7_lengthTo_44 rfl (lv_at hl 2 rfl) ?_
        refine lv_iload hx hb dX7_lengthTo_45 (lv_at hl 1 rfl) ?_
        refine lv_iload hx hb dX7_lengthTo_47 (lv_at hl 0 rfl) ?_
        refine x_iconst hx hb dX7_lengthTo_49 ?_
        refine x_icmp_eq (tgt := 57) hx hb dX7_lengthTo_50 (by decide) (by decide) (by decide) (fun c50 => ?_) (fun c50 => ?_)
        · refine x_iconst hx hb dX7_lengthTo_57 ?_
          refine x_iconst hx hb dX7_lengthTo_58 ?_
          refine x_cVIE (As := [.int (iZ 0), .int (iZ 0), .int (iZ 1)]) (rest := []) hx hb hml hts hown hK hST hOK hH 85 (c_X7_holds l E ST hSF σ false false true sv re ea fa ty li th sz sp wr to f85 ) (cwV 3 hts gX7_lengthTo_X7_holds rfl rfl rfl (by decide +kernel) ⟨Nat.le_of_ble_eq_true rfl, Nat.le_of_ble_eq_true rfl⟩) (by decide) f85 rfl rfl hl.1 rfl (Nat.le_of_ble_eq_true rfl) dX7_lengthTo_59 ⟨Nat.le_of_ble_eq_true rfl, Nat.le_of_ble_eq_true rfl⟩ (fun z u h => h) (fun σ13 H locs hp14 hH => ?_)
          obtain ⟨f85, fr15⟩ := hp14
          have f86 : σ13 86 = aI E 87 v := (fr15 86 (by omega)).trans f86
          have f92 : σ13 92 = aI E 25 F := (fr15 92 (by omega)).trans f92
          refine x_ifb_eq (tgt := 70) hx hb dX7_lengthTo_62 (by decide) (fun c62 => ?_) (fun c62 => ?_)
          · refine x_iconst hx hb dX7_lengthTo_70 ?_
            subst hQ
            exact x_iret hx hb hr hlocks hH (Nat.le_of_ble_eq_true rfl) (Nat.le_of_ble_eq_true rfl) ⟨(by intro h; have h9 := k2_is.mp h; first | exact hn9 h9.2 | (exfalso; omega) | (exfalso; exact absurd c62 (by decide)) | (exfalso; exact hm9.mp (by omega) h9.2)), ⟨F, (f85.trans (by first | (rw [k2_0 (by omega) (by omega)]; rfl) | (rw [k2_1 (by omega)]; rfl) | (rw [k2_2 (by omega) (by omega)]; rfl))), f86, f92, (by first | assumption | exact fun j => ⟨by have := mdF_rg (G := Gw op lk kp w) (st := wc w) Gw_ok (hwc w) j; omega, by have := mdF_rg (G := Gw op lk kp w) (st := wc w) Gw_ok (hwc w) j; omega⟩)⟩, fun j hj0 hj1 => (fr15 j (by omega))⟩ dX7_lengthTo_71
          · refine lv_iload hx hb dX7_lengthTo_65 (lv_at hl 0 rfl) ?_
            refine lv_goto (tgt := 71) hx hb dX7_lengthTo_67 (by decide) ?_
            subst hQ
            exact x_iret hx hb hr hlocks hH (Nat.le_of_ble_eq_true rfl) (Nat.le_of_ble_eq_true rfl) ⟨(by intro h; have h9 := k2_is.mp h; first | exact hn9 h9.2 | (exfalso; omega) | (exfalso; exact absurd c62 (by decide)) | (exfalso; exact hm9.mp (by omega) h9.2)), ⟨F, (f85.trans (by first | (rw [k2_0 (by omega) (by omega)]; rfl) | (rw [k2_1 (by omega)]; rfl) | (rw [k2_2 (by omega) (by omega)]; rfl))), f86, f92, (by first | assumption | exact fun j => ⟨by have := mdF_rg (G := Gw op lk kp w) (st := wc w) Gw_ok (hwc w) j; omega, by have := mdF_rg (G := Gw op lk kp w) (st := wc w) Gw_ok (hwc w) j; omega⟩)⟩, fun j hj0 hj1 => (fr15 j (by omega))⟩ dX7_lengthTo_71
        · exact absurd c50 (by decide)
      · exact absurd c25 (by decide)
    · have c13 := of_decide_eq_true c13
      refine x_iconst hx hb dX7_lengthTo_16 ?_
      refine lv_goto (tgt := 21) hx hb dX7_lengthTo_17 (by decide) ?_
      refine lv_istore (lv' := [(4, .int (iZ 1)), (0, .ref (xad E 85)), (1, .int (iZ w)), (2, .int (iZ r)), (3, .int (iZ c0))]) hx hb dX7_lengthTo_21 hl (by decide) rfl (fun ls hl => ?_)
      refine lv_iload hx hb dX7_lengthTo_23 (lv_at hl 0 rfl) ?_
      refine x_if_eq (tgt := 41) hx hb dX7_lengthTo_25 (by decide) (by decide) (fun c25 => ?_) (fun c25 => ?_)
      · exact absurd c25 (by decide)
      · refine lv_aload_n hx hb dX7_lengthTo_28 rfl (lv_at hl 1 rfl) ?_
        refine lv_iload_n hx hb dX7_lengthTo_29 rfl (lv_at hl 2 rfl) ?_
        refine lv_iload_n hx hb dX7_lengthTo_30 rfl (lv_at hl 3 rfl) ?_
        refine lv_iload_n hx hb dX7_lengthTo_31 rfl (lv_at hl 4 rfl) ?_
        refine x_cSID (As := [.int (iZ r), .int (iZ c0)]) (rest := [.int (iZ w), .ref (xad E 85)]) hx hb hml hts hown hK hST hOK hH (c_X7_cellAt l E ST hSF σ r c0  (by omega) (by omega)) (va_cwS 2 hts gX7_lengthTo_X7_cellAt rfl rfl rfl (by decide +kernel) ⟨Nat.le_of_ble_eq_true rfl, Nat.le_of_ble_eq_true rfl⟩) rfl hl.1 rfl (Nat.le_of_ble_eq_true rfl) dX7_lengthTo_32 ⟨Nat.le_of_ble_eq_true rfl, Nat.le_of_ble_eq_true rfl⟩ (fun z u h => h) (fun H locs hH => ?_)
        refine x_cVIE (As := [.int (iZ w), .int (iZ (cellZ r c0))]) (rest := []) hx hb hml hts hown hK hST hOK hH 85 (c_X7_farOf l E ST hSF σ w (cellZ r c0) op lk kp wc pn nw sh wk sv re ea fa ty li th sz sp wr to v F f85 f86 f92 (by assumption) (by omega) (by omega) (by omega) (by assumption)) (cwV 2 hts gX7_lengthTo_X7_farOf rfl rfl rfl (by decide +kernel) ⟨Nat.le_of_ble_eq_true rfl, Nat.le_of_ble_eq_true rfl⟩) (by decide) f85 rfl rfl hl.1 rfl (Nat.le_of_ble_eq_true rfl) dX7_lengthTo_35 ⟨Nat.le_of_ble_eq_true rfl, Nat.le_of_ble_eq_true rfl⟩ (fun z u h => h) (fun σ21 H locs hp22 hH => ?_)
        obtain ⟨f92, fr23⟩ := hp22
        have f85 : σ21 85 = oB 5 [.ref (xad E 86), .ref (xad E 87), .ref (xad E 88), .ref (xad E 89), .ref (xad E 90), .int (iZ (b2 sv)), .int (iZ re), .int (iZ ea), .int (iZ fa), .ref (xad E 91), .ref (xad E 92), .ref (xad E 93), .int (iZ ty), .ref (xad E 94), .int (iZ li), .int (iZ th), .int (iZ sz), .int (iZ sp), .int (iZ wr), .int (iZ to), .ref (xad E 95)] := (fr23 85 (by omega)).trans f85
        have f86 : σ21 86 = aI E 87 v := (fr23 86 (by omega)).trans f86
        have e9 := cellZ_ok (r := r) (c := c0) (by omega); have hm9 : mD (dz (Gw op lk kp w) (wc w) (cellZ r c0)) = -1 ↔ ¬ dz (Gw op lk kp w) (wc w) (r * 5 + c0) < 25 := (by rw [e9]; exact mD_m1 (hdr _)); have hn9 : dz (Gw op lk kp w) (wc w) (r * 5 + c0) < 25 → mD (dz (Gw op lk kp w) (wc w) (cellZ r c0)) = dz (Gw op lk kp w) (wc w) (r * 5 + c0) := (fun h => by rw [e9]; exact mD_lt h); have hl9 : -1 ≤ mD (dz (Gw op lk kp w) (wc w) (cellZ r c0)) ∧ mD (dz (Gw op lk kp w) (wc w) (cellZ r c0)) ≤ 25 := (by have h7 := hdr (cellZ r c0); unfold mD; split <;> omega)
        refine lv_goto (tgt := 42) hx hb dX7_lengthTo_38 (by decide) ?_
        refine lv_istore (lv' := [(5, .int (iZ (mD (dz (Gw op lk kp w) (wc w) (cellZ r c0))))), (4, .int (iZ 1)), (0, .ref (xad E 85)), (1, .int (iZ w)), (2, .int (iZ r)), (3, .int (iZ c0))]) hx hb dX7_lengthTo_42 hl (by decide) rfl (fun ls hl => ?_)
        refine lv_aload_n hx hb dX7_lengthTo_44 rfl (lv_at hl 2 rfl) ?_
        refine lv_iload hx hb dX7_lengthTo_45 (lv_at hl 1 rfl) ?_
        refine lv_iload hx hb dX7_lengthTo_47 (lv_at hl 0 rfl) ?_
        refine x_iconst hx hb dX7_lengthTo_49 ?_
        refine x_icmp_eq (tgt := 57) hx hb dX7_lengthTo_50 (by decide) (by omega) (by decide) (fun c50 => ?_) (fun c50 => ?_)
        · refine x_iconst hx hb dX7_lengthTo_57 ?_
          refine x_iconst hx hb dX7_lengthTo_58 ?_
          refine x_cVIE (As := [.int (iZ 1), .int (iZ 0), .int (iZ 1)]) (rest := []) hx hb hml hts hown hK hST hOK hH 85 (c_X7_holds l E ST hSF σ21 true false true sv re ea fa ty li th sz sp wr to f85 ) (cwV 3 hts gX7_lengthTo_X7_holds rfl rfl rfl (by decide +kernel) ⟨Nat.le_of_ble_eq_true rfl, Nat.le_of_ble_eq_true rfl⟩) (by decide) f85 rfl rfl hl.1 rfl (Nat.le_of_ble_eq_true rfl) dX7_lengthTo_59 ⟨Nat.le_of_ble_eq_true rfl, Nat.le_of_ble_eq_true rfl⟩ (fun z u h => h) (fun σ26 H locs hp27 hH => ?_)
          obtain ⟨f85, fr28⟩ := hp27
          have f86 : σ26 86 = aI E 87 v := (fr28 86 (by omega)).trans f86
          have f92 : σ26 92 = aI E 25 (mdF (Gw op lk kp w) (wc w)) := (fr28 92 (by omega)).trans f92
          refine x_ifb_eq (tgt := 70) hx hb dX7_lengthTo_62 (by decide) (fun c62 => ?_) (fun c62 => ?_)
          · refine x_iconst hx hb dX7_lengthTo_70 ?_
            subst hQ
            exact x_iret hx hb hr hlocks hH (Nat.le_of_ble_eq_true rfl) (Nat.le_of_ble_eq_true rfl) ⟨(by intro h; have h9 := k2_is.mp h; first | exact hn9 h9.2 | (exfalso; omega) | (exfalso; exact absurd c62 (by decide)) | (exfalso; exact hm9.mp (by omega) h9.2)), ⟨(mdF (Gw op lk kp w) (wc w)), (f85.trans (by first | (rw [k2_0 (by omega) (by omega)]; rfl) | (rw [k2_1 (by omega)]; rfl) | (rw [k2_2 (by omega) (by omega)]; rfl))), f86, f92, (by first | assumption | exact fun j => ⟨by have := mdF_rg (G := Gw op lk kp w) (st := wc w) Gw_ok (hwc w) j; omega, by have := mdF_rg (G := Gw op lk kp w) (st := wc w) Gw_ok (hwc w) j; omega⟩)⟩, fun j hj0 hj1 => ((fr28 j (by omega)).trans (fr23 j (by omega)))⟩ dX7_lengthTo_71
          · refine lv_iload hx hb dX7_lengthTo_65 (lv_at hl 0 rfl) ?_
            refine lv_goto (tgt := 71) hx hb dX7_lengthTo_67 (by decide) ?_
            subst hQ
            exact x_iret hx hb hr hlocks hH (Nat.le_of_ble_eq_true rfl) (Nat.le_of_ble_eq_true rfl) ⟨(by intro h; have h9 := k2_is.mp h; first | exact hn9 h9.2 | (exfalso; omega) | (exfalso; exact absurd c62 (by decide)) | (exfalso; exact hm9.mp (by omega) h9.2)), ⟨(mdF (Gw op lk kp w) (wc w)), (f85.trans (by first | (rw [k2_0 (by omega) (by omega)]; rfl) | (rw [k2_1 (by omega)]; rfl) | (rw [k2_2 (by omega) (by omega)]; rfl))), f86, f92, (by first | assumption | exact fun j => ⟨by have := mdF_rg (G := Gw op lk kp w) (st := wc w) Gw_ok (hwc w) j; omega, by have := mdF_rg (G := Gw op lk kp w) (st := wc w) Gw_ok (hwc w) j; omega⟩)⟩, fun j hj0 hj1 => ((fr28 j (by omega)).trans (fr23 j (by omega)))⟩ dX7_lengthTo_71
        · refine x_iconst hx hb dX7_lengthTo_53 ?_
          refine lv_goto (tgt := 58) hx hb dX7_lengthTo_54 (by decide) ?_
          refine x_iconst hx hb dX7_lengthTo_58 ?_
          refine x_cVIE (As := [.int (iZ 1), .int (iZ 1), .int (iZ 1)]) (rest := []) hx hb hml hts hown hK hST hOK hH 85 (c_X7_holds l E ST hSF σ21 true true true sv re ea fa ty li th sz sp wr to f85 ) (cwV 3 hts gX7_lengthTo_X7_holds rfl rfl rfl (by decide +kernel) ⟨Nat.le_of_ble_eq_true rfl, Nat.le_of_ble_eq_true rfl⟩) (by decide) f85 rfl rfl hl.1 rfl (Nat.le_of_ble_eq_true rfl) dX7_lengthTo_59 ⟨Nat.le_of_ble_eq_true rfl, Nat.le_of_ble_eq_true rfl⟩ (fun z u h => h) (fun σ31 H locs hp32 hH => ?_)
          obtain ⟨f85, fr33⟩ := hp32
          have f86 : σ31 86 = aI E 87 v := (fr33 86 (by omega)).trans f86
          have f92 : σ31 92 = aI E 25 (mdF (Gw op lk kp w) (wc w)) := (fr33 92 (by omega)).trans f92
          refine x_ifb_eq (tgt := 70) hx hb dX7_lengthTo_62 (by decide) (fun c62 => ?_) (fun c62 => ?_)
          · refine x_iconst hx hb dX7_lengthTo_70 ?_
            subst hQ
            exact x_iret hx hb hr hlocks hH (Nat.le_of_ble_eq_true rfl) (Nat.le_of_ble_eq_true rfl) ⟨(by intro h; have h9 := k2_is.mp h; first | exact hn9 h9.2 | (exfalso; omega) | (exfalso; exact absurd c62 (by decide)) | (exfalso; exact hm9.mp (by omega) h9.2)), ⟨(mdF (Gw op lk kp w) (wc w)), (f85.trans (by first | (rw [k2_0 (by omega) (by omega)]; rfl) | (rw [k2_1 (by omega)]; rfl) | (rw [k2_2 (by omega) (by omega)]; rfl))), f86, f92, (by first | assumption | exact fun j => ⟨by have := mdF_rg (G := Gw op lk kp w) (st := wc w) Gw_ok (hwc w) j; omega, by have := mdF_rg (G := Gw op lk kp w) (st := wc w) Gw_ok (hwc w) j; omega⟩)⟩, fun j hj0 hj1 => ((fr33 j (by omega)).trans (fr23 j (by omega)))⟩ dX7_lengthTo_71
          · refine lv_iload hx hb dX7_lengthTo_65 (lv_at hl 0 rfl) ?_
            refine lv_goto (tgt := 71) hx hb dX7_lengthTo_67 (by decide) ?_
            subst hQ
            exact x_iret hx hb hr hlocks hH (Nat.le_of_ble_eq_true rfl) (Nat.le_of_ble_eq_true rfl) ⟨(by intro h; have h9 := k2_is.mp h; first | exact hn9 h9.2 | (exfalso; omega) | (exfalso; exact absurd c62 (by decide)) | (exfalso; exact hm9.mp (by omega) h9.2)), ⟨(mdF (Gw op lk kp w) (wc w)), (f85.trans (by first | (rw [k2_0 (by omega) (by omega)]; rfl) | (rw [k2_1 (by omega)]; rfl) | (rw [k2_2 (by omega) (by omega)]; rfl))), f86, f92, (by first | assumption | exact fun j => ⟨by have := mdF_rg (G := Gw op lk kp w) (st := wc w) Gw_ok (hwc w) j; omega, by have := mdF_rg (G := Gw op lk kp w) (st := wc w) Gw_ok (hwc w) j; omega⟩)⟩, fun j hj0 hj1 => ((fr33 j (by omega)).trans (fr23 j (by omega)))⟩ dX7_lengthTo_71

def rm_X7_pathLength : Room := { frames := 9, cells := 0, slots := 0, locals := 206 }
set_option maxRecDepth 100000 in
set_option maxHeartbeats 4000000 in
theorem c_X7_pathLength (l : Launch) (E : xE) (ST : xST) (hSF : SF ST) (σ : xW) (w : Int) (r : Int) (c0 : Int) (op : Int → Int) (lk : Int → Int) (kp : Int → Int) (wc : Int → Int) (pn : Int) (nw : Int) (sh : Int) (wk : Int) (sv : Bool) (re : Int) (ea : Int) (fa : Int) (ty : Int) (li : Int) (th : Int) (sz : Int) (sp : Int) (wr : Int) (to : Int) (v : Int → Int) (F : Int → Int) (hr0 : mo E σ sv re ea fa ty li th sz sp wr to) (hr1 : now E σ v) (hr2 : far E σ F) (hC : Cp v op lk kp wc pn nw sh wk) (hB : BI op lk kp wc pn nw) (hr9 : rg r) (hc9 : rg c0) (hw9 : rg w) (hFr : ∀ j : Int, rg (F j)) : CI l E ST yX7_pathLength wsX7_pathLength rm_X7_pathLength [.ref (xad E 85), .int (iZ w), .int (iZ r), .int (iZ c0)] σ (fun (z : Int) (u : xW) => (k2 ((0 ≤ w ∧ w < nw) ∧ okC r c0) (dz (Gw op lk kp w) (wc w) (r * 5 + c0) < 25) = 0 → z = dz (Gw op lk kp w) (wc w) (r * 5 + c0)) ∧ (∃ (F1 : Int → Int), mo E u sv re ea fa ty li (k2 ((0 ≤ w ∧ w < nw) ∧ okC r c0) (dz (Gw op lk kp w) (wc w) (r * 5 + c0) < 25)) sz sp wr to ∧ now E u v ∧ far E u F1 ∧ (∀ j : Int, rg (F1 j))) ∧ ∀ j : Nat, j ≠ 85 → j ≠ 92 → u j = σ j) := by
  have f85 : σ 85 = oB 5 [.ref (xad E 86), .ref (xad E 87), .ref (xad E 88), .ref (xad E 89), .ref (xad E 90), .int (iZ (b2 sv)), .int (iZ re), .int (iZ ea), .int (iZ fa), .ref (xad E 91), .ref (xad E 92), .ref (xad E 93), .int (iZ ty), .ref (xad E 94), .int (iZ li), .int (iZ th), .int (iZ sz), .int (iZ sp), .int (iZ wr), .int (iZ to), .ref (xad E 95)] := hr0
  have f86 : σ 86 = aI E 87 v := hr1
  have f92 : σ 92 = aI E 25 F := hr2
  refine CI_of (by decide) rfl (Nat.le_of_ble_eq_true rfl) ?_
  intro p e s m args below meth c Q ls G hH hl hQ
  obtain ⟨hx, hb, hml, hown, hts, hK, hST, hlocks, hr, hno⟩ := G
  have hOK := hSF.1
  have hown : s.vm.findClass RX7 = some m.cls := hown
  have hl : lv_has ls 4 [(0, .ref (xad E 85)), (1, .int (iZ w)), (2, .int (iZ r)), (3, .int (iZ c0))] := hl
  obtain ⟨hop, hlk, hkp, hwc, hpn, hnw⟩ := id hB
  have hvR := hC.R
  have hv0 := hC.1.1
  refine lv_aload_n hx hb dX7_pathLength_0 rfl (lv_at hl 0 rfl) ?_
  refine lv_iload_n hx hb dX7_pathLength_1 rfl (lv_at hl 1 rfl) ?_
  refine lv_iload_n hx hb dX7_pathLength_2 rfl (lv_at hl 2 rfl) ?_
  refine lv_iload_n hx hb dX7_pathLength_3 rfl (lv_at hl 3 rfl) ?_
  refine x_cVI (As := [.int (iZ w), .int (iZ r), .int (iZ c0)]) (rest := []) hx hb hml hts hown hK hST hOK hH 85 (c_X7_lengthTo l E ST hSF σ w r c0 op lk kp wc pn nw sh wk sv re ea fa ty li th sz sp wr to v F f85 f86 f92 (by assumption) (by omega) (by omega) (by omega) (by omega) (by assumption)) (cwV 3 hts gX7_pathLength_X7_lengthTo rfl rfl rfl (by decide +kernel) ⟨Nat.le_of_ble_eq_true rfl, Nat.le_of_ble_eq_true rfl⟩) (by decide) f85 rfl rfl hl.1 rfl (Nat.le_of_ble_eq_true rfl) dX7_pathLength_4 ⟨Nat.le_of_ble_eq_true rfl, Nat.le_of_ble_eq_true rfl⟩ (fun z_ σ1 H locs hp2 hH => ?_)
  obtain ⟨hz_, ⟨F1_4, f85, f86, f92, hf5⟩, fr3⟩ := hp2
  subst hQ
  exact x_iret hx hb hr hlocks hH (Nat.le_of_ble_eq_true rfl) (Nat.le_of_ble_eq_true rfl) ⟨(by exact hz_), ⟨F1_4, f85, f86, f92, (by first | assumption | omega | simp_all)⟩, fun j hj0 hj1 => (fr3 j (by omega) (by omega))⟩ dX7_pathLength_7

def rm_X7_pathLengthByRounds : Room := { frames := 9, cells := 0, slots := 0, locals := 206 }
set_option maxRecDepth 100000 in
set_option maxHeartbeats 4000000 in
theorem c_X7_pathLengthByRounds (l : Launch) (E : xE) (ST : xST) (hSF : SF ST) (σ : xW) (w : Int) (r : Int) (c0 : Int) (op : Int → Int) (lk : Int → Int) (kp : Int → Int) (wc : Int → Int) (pn : Int) (nw : Int) (sh : Int) (wk : Int) (sv : Bool) (re : Int) (ea : Int) (fa : Int) (ty : Int) (li : Int) (th : Int) (sz : Int) (sp : Int) (wr : Int) (to : Int) (v : Int → Int) (F : Int → Int) (hr0 : mo E σ sv re ea fa ty li th sz sp wr to) (hr1 : now E σ v) (hr2 : far E σ F) (hC : Cp v op lk kp wc pn nw sh wk) (hB : BI op lk kp wc pn nw) (hr9 : rg r) (hc9 : rg c0) (hw9 : rg w) (hFr : ∀ j : Int, rg (F j)) : CI l E ST yX7_pathLengthByRounds wsX7_pathLengthByRounds rm_X7_pathLengthByRounds [.ref (xad E 85), .int (iZ w), .int (iZ r), .int (iZ c0)] σ (fun (z : Int) (u : xW) => (k2 ((0 ≤ w ∧ w < nw) ∧ okC r c0) (dz (Gw op lk kp w) (wc w) (r * 5 + c0) < 25) = 0 → z = dz (Gw op lk kp w) (wc w) (r * 5 + c0)) ∧ (∃ (F1 : Int → Int), mo E u sv re ea fa ty li (k2 ((0 ≤ w ∧ w < nw) ∧ okC r c0) (dz (Gw op lk kp w) (wc w) (r * 5 + c0) < 25)) sz sp wr to ∧ now E u v ∧ far E u F1 ∧ (∀ j : Int, rg (F1 j))) ∧ ∀ j : Nat, j ≠ 85 → j ≠ 92 → u j = σ j) := by
  have f85 : σ 85 = oB 5 [.ref (xad E 86), .ref (xad E 87), .ref (xad E 88), .ref (xad E 89), .ref (xad E 90), .int (iZ (b2 sv)), .int (iZ re), .int (iZ ea), .int (iZ fa), .ref (xad E 91), .ref (xad E 92), .ref (xad E 93), .int (iZ ty), .ref (xad E 94), .int (iZ li), .int (iZ th), .int (iZ sz), .int (iZ sp), .int (iZ wr), .int (iZ to), .ref (xad E 95)] := hr0
  have f86 : σ 86 = aI E 87 v := hr1
  have f92 : σ 92 = aI E 25 F := hr2
  refine CI_of (by decide) rfl (Nat.le_of_ble_eq_true rfl) ?_
  intro p e s m args below meth c Q ls G hH hl hQ
  obtain ⟨hx, hb, hml, hown, hts, hK, hST, hlocks, hr, hno⟩ := G
  have hOK := hSF.1
  have hown : s.vm.findClass RX7 = some m.cls := hown
  have hl : lv_has ls 4 [(0, .ref (xad E 85)), (1, .int (iZ w)), (2, .int (iZ r)), (3, .int (iZ c0))] := hl
  obtain ⟨hop, hlk, hkp, hwc, hpn, hnw⟩ := id hB
  have hvR := hC.R
  have hv0 := hC.1.1
  refine lv_aload_n hx hb dX7_pathLengthByRounds_0 rfl (lv_at hl 0 rfl) ?_
  refine lv_iload_n hx hb dX7_pathLengthByRounds_1 rfl (lv_at hl 1 rfl) ?_
  refine lv_iload_n hx hb dX7_pathLengthByRounds_2 rfl (lv_at hl 2 rfl) ?_
  refine lv_iload_n hx hb dX7_pathLengthByRounds_3 rfl (lv_at hl 3 rfl) ?_
  refine x_cVI (As := [.int (iZ w), .int (iZ r), .int (iZ c0)]) (rest := []) hx hb hml hts hown hK hST hOK hH 85 (c_X7_lengthTo l E ST hSF σ w r c0 op lk kp wc pn nw sh wk sv re ea fa ty li th sz sp wr to v F f85 f86 f92 (by assumption) (by omega) (by omega) (by omega) (by omega) (by assumption)) (cwV 3 hts gX7_pathLengthByRounds_X7_lengthTo rfl rfl rfl (by decide +kernel) ⟨Nat.le_of_ble_eq_true rfl, Nat.le_of_ble_eq_true rfl⟩) (by decide) f85 rfl rfl hl.1 rfl (Nat.le_of_ble_eq_true rfl) dX7_pathLengthByRounds_4 ⟨Nat.le_of_ble_eq_true rfl, Nat.le_of_ble_eq_true rfl⟩ (fun z_ σ1 H locs hp2 hH => ?_)
  obtain ⟨hz_, ⟨F1_4, f85, f86, f92, hf5⟩, fr3⟩ := hp2
  subst hQ
  exact x_iret hx hb hr hlocks hH (Nat.le_of_ble_eq_true rfl) (Nat.le_of_ble_eq_true rfl) ⟨(by exact hz_), ⟨F1_4, f85, f86, f92, (by first | assumption | omega | simp_all)⟩, fun j hj0 hj1 => (fr3 j (by omega) (by omega))⟩ dX7_pathLengthByRounds_7

def rm_X7_reached : Room := { frames := 7, cells := 0, slots := 0, locals := 159 }
set_option maxRecDepth 100000 in
set_option maxHeartbeats 4000000 in
theorem c_X7_reached (l : Launch) (E : xE) (ST : xST) (hSF : SF ST) (σ : xW) (w : Int) (op : Int → Int) (lk : Int → Int) (kp : Int → Int) (wc : Int → Int) (pn : Int) (nw : Int) (sh : Int) (wk : Int) (sv : Bool) (re : Int) (ea : Int) (fa : Int) (ty : Int) (li : Int) (th : Int) (sz : Int) (sp : Int) (wr : Int) (to : Int) (v : Int → Int) (F : Int → Int) (hr0 : mo E σ sv re ea fa ty li th sz sp wr to) (hr1 : now E σ v) (hr2 : far E σ F) (hC : Cp v op lk kp wc pn nw sh wk) (hB : BI op lk kp wc pn nw) (hw : 0 ≤ w ∧ w < nw) (hFr : ∀ j : Int, rg (F j)) : CI l E ST yX7_reached wsX7_reached rm_X7_reached [.ref (xad E 85), .int (iZ w)] σ (fun (z : Int) (u : xW) => z = cnbK (fun c => decide (dz (Gw op lk kp w) (wc w) c < 25)) 25 ∧ (mo E u sv re ea fa ty li th sz sp wr to ∧ now E u v ∧ far E u (mdF (Gw op lk kp w) (wc w))) ∧ ∀ j : Nat, j ≠ 92 → u j = σ j) := by
  have f85 : σ 85 = oB 5 [.ref (xad E 86), .ref (xad E 87), .ref (xad E 88), .ref (xad E 89), .ref (xad E 90), .int (iZ (b2 sv)), .int (iZ re), .int (iZ ea), .int (iZ fa), .ref (xad E 91), .ref (xad E 92), .ref (xad E 93), .int (iZ ty), .ref (xad E 94), .int (iZ li), .int (iZ th), .int (iZ sz), .int (iZ sp), .int (iZ wr), .int (iZ to), .ref (xad E 95)] := hr0
  have f86 : σ 86 = aI E 87 v := hr1
  have f92 : σ 92 = aI E 25 F := hr2
  refine CI_of (by decide) rfl (Nat.le_of_ble_eq_true rfl) ?_
  intro p e s m args below meth c Q ls G hH hl hQ
  obtain ⟨hx, hb, hml, hown, hts, hK, hST, hlocks, hr, hno⟩ := G
  have hOK := hSF.1
  have hown : s.vm.findClass RX7 = some m.cls := hown
  have hl : lv_has ls 4 [(0, .ref (xad E 85)), (1, .int (iZ w))] := hl
  have hinX7 : ∀ w ∈ u_ws RX7 TX7 21, w ∈ wsX7_reached := fun w h => (List.mem_cons_of_mem _ (List.mem_append_right _ h))
  obtain ⟨hop, hlk, hkp, hwc, hpn, hnw⟩ := id hB
  have hvR := hC.R
  have hv0 := hC.1.1
  have hst := hwc w
  have hdr := dz_rg (G := Gw op lk kp w) (st := wc w) Gw_ok (hwc w)
  have hmr := mdF_rg (G := Gw op lk kp w) (st := wc w) Gw_ok (hwc w)
  refine lv_aload_n hx hb dX7_reached_0 rfl (lv_at hl 0 rfl) ?_
  refine lv_iload_n hx hb dX7_reached_1 rfl (lv_at hl 1 rfl) ?_
  refine lv_aload_n hx hb dX7_reached_2 rfl (lv_at hl 0 rfl) ?_
  refine lv_iload_n hx hb dX7_reached_3 rfl (lv_at hl 1 rfl) ?_
  refine x_cVID (As := [.int (iZ w)]) (rest := [.int (iZ w), .ref (xad E 85)]) hx hb hml hts hown hK hST hOK hH 85 (c_X7_standing l E ST hSF σ w op lk kp wc pn nw sh wk sv re ea fa ty li th sz sp wr to v f85 f86 (by assumption) (by omega) (by omega)) (cwV 1 hts gX7_reached_X7_standing rfl rfl rfl (by decide +kernel) ⟨Nat.le_of_ble_eq_true rfl, Nat.le_of_ble_eq_true rfl⟩) (by decide) f85 rfl rfl hl.1 rfl (Nat.le_of_ble_eq_true rfl) dX7_reached_4 ⟨Nat.le_of_ble_eq_true rfl, Nat.le_of_ble_eq_true rfl⟩ (fun z u h => h) (fun H locs hH => ?_)
  rw [if_pos hw]
  refine x_cVV (As := [.int (iZ w), .int (iZ (wc w))]) (rest := []) hx hb hml hts hown hK hST hOK hH 85 (c_X7_measures l E ST hSF σ w (wc w) op lk kp wc pn nw sh wk sv re ea fa ty li th sz sp wr to v F f85 f86 f92 (by assumption) (by omega) (by omega) (by omega) (by assumption)) (cwV 2 hts gX7_reached_X7_measures rfl rfl rfl (by decide +kernel) ⟨Nat.le_of_ble_eq_true rfl, Nat.le_of_ble_eq_true rfl⟩) (by decide) f85 rfl rfl hl.1 rfl (Nat.le_of_ble_eq_true rfl) dX7_reached_7 ⟨Nat.le_of_ble_eq_true rfl, Nat.le_of_ble_eq_true rfl⟩ (fun σ5 H locs hp6 hH => ?_)
  obtain ⟨f92, fr7⟩ := hp6
  have f85 : σ5 85 = oB 5 [.ref (xad E 86), .ref (xad E 87), .ref (xad E 88), .ref (xad E 89), .ref (xad E 90), .int (iZ (b2 sv)), .int (iZ re), .int (iZ ea), .int (iZ fa), .ref (xad E 91), .ref (xad E 92), .ref (xad E 93), .int (iZ ty), .ref (xad E 94), .int (iZ li), .int (iZ th), .int (iZ sz), .int (iZ sp), .int (iZ wr), .int (iZ to), .ref (xad E 95)] := (fr7 85 (by omega)).trans f85
  have f86 : σ5 86 = aI E 87 v := (fr7 86 (by omega)).trans f86
  refine x_iconst hx hb dX7_reached_10 ?_
  refine lv_istore_n (lv' := [(2, .int (iZ 0)), (0, .ref (xad E 85)), (1, .int (iZ w))]) hx hb dX7_reached_11 rfl hl (by decide) rfl (fun ls hl => ?_)
  refine x_iconst hx hb dX7_reached_12 ?_
  refine lv_istore_n (lv' := [(3, .int (iZ 0)), (2, .int (iZ 0)), (0, .ref (xad E 85)), (1, .int (iZ w))]) hx hb dX7_reached_13 rfl hl (by decide) rfl (fun ls hl => ?_)
  have K14 : ∀ (nK : Nat) (cnt i : Int) (H : Heap) (locs : List Loc) (ls : Array Slot), (25 - i).toNat < nK → (0 ≤ i ∧ i ≤ 25) → (cnt = cnbK (fun c => decide (dz (Gw op lk kp w) (wc w) c < 25)) i) → (0 ≤ cnt ∧ cnt ≤ i) → Hx E (xA E s.heap.size) s.heap σ5 H locs → lv_has ls 4 [(3, .int (iZ i)), (2, .int (iZ cnt)), (0, .ref (xad E 85)), (1, .int (iZ w))] → W p l e rm_X7_reached s m args below meth c H locs 0 0 Q (F0 m 14 ls []) := by
    intro n14
    induction n14 with
    | zero =>
      intro cnt i H locs ls hm
      exact absurd hm (by first | exact Nat.not_lt_zero _ | omega)
    | succ n14 ih14 =>
      intro cnt i H locs ls hm14 hi hcnt hcb  hH hl
      refine lv_iload_n hx hb dX7_reached_14 rfl (lv_at hl 0 rfl) ?_
      refine x_bipush hx hb dX7_reached_15 (by decide) ?_
      refine x_icmp_ge (tgt := 44) hx hb dX7_reached_17 (by decide) (by omega) (by decide) (fun c17 => ?_) (fun c17 => ?_)
      · refine lv_iload_n hx hb dX7_reached_44 rfl (lv_at hl 1 rfl) ?_
        subst hQ
        exact x_iret hx hb hr hlocks hH (Nat.le_of_ble_eq_true rfl) (Nat.le_of_ble_eq_true rfl) ⟨(show cnt = (cnbK (fun c => decide (dz (Gw op lk kp w) (wc w) c < 25)) 25) from (by have e : i = 25 := (by omega); subst e; exact hcnt)), ⟨f85, f86, f92⟩, fun j hj0 => (fr7 j (by omega))⟩ dX7_reached_45
      · refine lv_iload_n hx hb dX7_reached_20 rfl (lv_at hl 1 rfl) ?_
        refine lv_aload_n hx hb dX7_reached_21 rfl (lv_at hl 2 rfl) ?_
        refine x_get hx hb hts hown hK hH 85 (by decide) f85 hinX7 rfl 10 (by decide) (List.mem_of_getElem? (i := 1) rfl) rfl dX7_reached_22 ?_
        refine lv_iload_n hx hb dX7_reached_25 rfl (lv_at hl 0 rfl) ?_
        refine x_iald hx hb hK hH 92 (by decide) f92 (by omega) (by omega) (by omega) dX7_reached_26 ?_
        have hv10 := hmr i
        refine x_iconst hx hb dX7_reached_27 ?_
        refine x_icmp_ne (tgt := 35) hx hb dX7_reached_28 (by decide) (by omega) (by decide) (fun c28 => ?_) (fun c28 => ?_)
        · refine x_iconst hx hb dX7_reached_35 ?_
          refine x_iadd hx hb dX7_reached_36 ?_
          refine lv_istore_n (lv' := [(2, .int (iZ (cnt + 1))), (3, .int (iZ i)), (0, .ref (xad E 85)), (1, .int (iZ w))]) hx hb dX7_reached_37 rfl hl (by decide) rfl (fun ls hl => ?_)
          refine x_iinc (lv' := [(3, .int (iZ (i + 1))), (2, .int (iZ (cnt + 1))), (0, .ref (xad E 85)), (1, .int (iZ w))]) hx hb dX7_reached_38 hl (k := 1) rfl (by decide) rfl (fun ls hl => ?_)
          refine lv_goto (tgt := 14) hx hb dX7_reached_41 (by decide) ?_
          exact ih14 (cnt + 1) (i + 1) _ _ _ (by omega) (by omega) (by rw [cnbK_s (by omega), ← hcnt]; have hm9 := mD_m1 (hdr i); first | (rw [decide_eq_true (Classical.not_not.mp (fun h => c28 (hm9.mpr h)))]; rfl) | (rw [decide_eq_false (hm9.mp c28)]; rfl)) (by omega)  hH (lv_sub hl [0, 1, 2, 3] rfl)
        · refine x_iconst hx hb dX7_reached_31 ?_
          refine lv_goto (tgt := 36) hx hb dX7_reached_32 (by decide) ?_
          refine x_iadd hx hb dX7_reached_36 ?_
          refine lv_istore_n (lv' := [(2, .int (iZ (cnt + 0))), (3, .int (iZ i)), (0, .ref (xad E 85)), (1, .int (iZ w))]) hx hb dX7_reached_37 rfl hl (by decide) rfl (fun ls hl => ?_)
          refine x_iinc (lv' := [(3, .int (iZ (i + 1))), (2, .int (iZ (cnt + 0))), (0, .ref (xad E 85)), (1, .int (iZ w))]) hx hb dX7_reached_38 hl (k := 1) rfl (by decide) rfl (fun ls hl => ?_)
          refine lv_goto (tgt := 14) hx hb dX7_reached_41 (by decide) ?_
          exact ih14 (cnt + 0) (i + 1) _ _ _ (by omega) (by omega) (by rw [cnbK_s (by omega), ← hcnt]; have hm9 := mD_m1 (hdr i); first | (rw [decide_eq_true (Classical.not_not.mp (fun h => c28 (hm9.mpr h)))]; rfl) | (rw [decide_eq_false (hm9.mp c28)]; rfl)) (by omega)  hH (lv_sub hl [0, 1, 2, 3] rfl)
  exact K14 26 0 0 _ _ _ (by first | omega | decide) (by omega) (by rfl) (by omega)  hH (lv_sub hl [0, 1, 2, 3] rfl)

def rm_X7_reachableCells : Room := { frames := 8, cells := 0, slots := 0, locals := 182 }
set_option maxRecDepth 100000 in
set_option maxHeartbeats 4000000 in
theorem c_X7_reachableCells (l : Launch) (E : xE) (ST : xST) (hSF : SF ST) (σ : xW) (w : Int) (op : Int → Int) (lk : Int → Int) (kp : Int → Int) (wc : Int → Int) (pn : Int) (nw : Int) (sh : Int) (wk : Int) (sv : Bool) (re : Int) (ea : Int) (fa : Int) (ty : Int) (li : Int) (th : Int) (sz : Int) (sp : Int) (wr : Int) (to : Int) (v : Int → Int) (F : Int → Int) (hr0 : mo E σ sv re ea fa ty li th sz sp wr to) (hr1 : now E σ v) (hr2 : far E σ F) (hC : Cp v op lk kp wc pn nw sh wk) (hB : BI op lk kp wc pn nw) (hw9 : rg w) (hFr : ∀ j : Int, rg (F j)) : CI l E ST yX7_reachableCells wsX7_reachableCells rm_X7_reachableCells [.ref (xad E 85), .int (iZ w)] σ (fun (z : Int) (u : xW) => (0 ≤ w ∧ w < nw → z = cnbK (fun c => decide (dz (Gw op lk kp w) (wc w) c < 25)) 25) ∧ (∃ (F1 : Int → Int), mo E u sv re ea fa ty li (k1 (0 ≤ w ∧ w < nw)) sz sp wr to ∧ now E u v ∧ far E u F1 ∧ (∀ j : Int, rg (F1 j))) ∧ ∀ j : Nat, j ≠ 85 → j ≠ 92 → u j = σ j) := by
  have f85 : σ 85 = oB 5 [.ref (xad E 86), .ref (xad E 87), .ref (xad E 88), .ref (xad E 89), .ref (xad E 90), .int (iZ (b2 sv)), .int (iZ re), .int (iZ ea), .int (iZ fa), .ref (xad E 91), .ref (xad E 92), .ref (xad E 93), .int (iZ ty), .ref (xad E 94), .int (iZ li), .int (iZ th), .int (iZ sz), .int (iZ sp), .int (iZ wr), .int (iZ to), .ref (xad E 95)] := hr0
  have f86 : σ 86 = aI E 87 v := hr1
  have f92 : σ 92 = aI E 25 F := hr2
  refine CI_of (by decide) rfl (Nat.le_of_ble_eq_true rfl) ?_
  intro p e s m args below meth c Q ls G hH hl hQ
  obtain ⟨hx, hb, hml, hown, hts, hK, hST, hlocks, hr, hno⟩ := G
  have hOK := hSF.1
  have hown : s.vm.findClass RX7 = some m.cls := hown
  have hl : lv_has ls 2 [(0, .ref (xad E 85)), (1, .int (iZ w))] := hl
  obtain ⟨hop, hlk, hkp, hwc, hpn, hnw⟩ := id hB
  have hvR := hC.R
  have hv0 := hC.1.1
  refine lv_aload_n hx hb dX7_reachableCells_0 rfl (lv_at hl 0 rfl) ?_
  refine lv_aload_n hx hb dX7_reachableCells_1 rfl (lv_at hl 0 rfl) ?_
  refine lv_iload_n hx hb dX7_reachableCells_2 rfl (lv_at hl 1 rfl) ?_
  refine x_cVID (As := [.int (iZ w)]) (rest := [.ref (xad E 85)]) hx hb hml hts hown hK hST hOK hH 85 (c_X7_isWalker l E ST hSF σ w op lk kp wc pn nw sh wk sv re ea fa ty li th sz sp wr to v f85 f86 (by assumption) (by omega) (by omega)) (cwV 1 hts gX7_reachableCells_X7_isWalker rfl rfl rfl (by decide +kernel) ⟨Nat.le_of_ble_eq_true rfl, Nat.le_of_ble_eq_true rfl⟩) (by decide) f85 rfl rfl hl.1 rfl (Nat.le_of_ble_eq_true rfl) dX7_reachableCells_3 ⟨Nat.le_of_ble_eq_true rfl, Nat.le_of_ble_eq_true rfl⟩ (fun z u h => h) (fun H locs hH => ?_)
  refine x_cVIE (As := [.int (iZ (b2 (decide (0 ≤ w ∧ w < nw))))]) (rest := []) hx hb hml hts hown hK hST hOK hH 85 (c_X7_goes l E ST hSF σ (decide (0 ≤ w ∧ w < nw)) sv re ea fa ty li th sz sp wr to f85 ) (cwV 1 hts gX7_reachableCells_X7_goes rfl rfl rfl (by decide +kernel) ⟨Nat.le_of_ble_eq_true rfl, Nat.le_of_ble_eq_true rfl⟩) (by decide) f85 rfl rfl hl.1 rfl (Nat.le_of_ble_eq_true rfl) dX7_reachableCells_6 ⟨Nat.le_of_ble_eq_true rfl, Nat.le_of_ble_eq_true rfl⟩ (fun z u h => h) (fun σ5 H locs hp6 hH => ?_)
  obtain ⟨f85, fr7⟩ := hp6
  have f86 : σ5 86 = aI E 87 v := (fr7 86 (by omega)).trans f86
  have f92 : σ5 92 = aI E 25 F := (fr7 92 (by omega)).trans f92
  refine x_ifb_eq (tgt := 20) hx hb dX7_reachableCells_9 (by decide) (fun c9 => ?_) (fun c9 => ?_)
  · have c9 := of_decide_eq_false c9
    refine x_iconst hx hb dX7_reachableCells_20 ?_
    subst hQ
    exact x_iret hx hb hr hlocks hH (Nat.le_of_ble_eq_true rfl) (Nat.le_of_ble_eq_true rfl) ⟨(by first | (intro h; rfl) | (intro h; exact absurd h (by omega))), ⟨F, (f85.trans (by rw [g1_w])), f86, f92, (by first | assumption | exact fun j => ⟨by have := mdF_rg (G := Gw op lk kp w) (st := wc w) Gw_ok (hwc w) j; omega, by have := mdF_rg (G := Gw op lk kp w) (st := wc w) Gw_ok (hwc w) j; omega⟩)⟩, fun j hj0 hj1 => (fr7 j (by omega))⟩ dX7_reachableCells_21
  · have c9 := of_decide_eq_true c9
    refine lv_aload_n hx hb dX7_reachableCells_12 rfl (lv_at hl 0 rfl) ?_
    refine lv_iload_n hx hb dX7_reachableCells_13 rfl (lv_at hl 1 rfl) ?_
    refine x_cVIE (As := [.int (iZ w)]) (rest := []) hx hb hml hts hown hK hST hOK hH 85 (c_X7_reached l E ST hSF σ5 w op lk kp wc pn nw sh wk sv re ea fa ty li (if (decide (0 ≤ w ∧ w < nw)) = true then 0 else 1) sz sp wr to v F f85 f86 f92 (by assumption) (by omega) (by omega) (by assumption)) (cwV 1 hts gX7_reachableCells_X7_reached rfl rfl rfl (by decide +kernel) ⟨Nat.le_of_ble_eq_true rfl, Nat.le_of_ble_eq_true rfl⟩) (by decide) f85 rfl rfl hl.1 rfl (Nat.le_of_ble_eq_true rfl) dX7_reachableCells_14 ⟨Nat.le_of_ble_eq_true rfl, Nat.le_of_ble_eq_true rfl⟩ (fun z u h => h) (fun σ10 H locs hp11 hH => ?_)
    obtain ⟨⟨f85, f86, f92⟩, fr12⟩ := hp11
    refine lv_goto (tgt := 21) hx hb dX7_reachableCells_17 (by decide) ?_
    subst hQ
    exact x_iret hx hb hr hlocks hH (Nat.le_of_ble_eq_true rfl) (Nat.le_of_ble_eq_true rfl) ⟨(by first | (intro h; rfl) | (intro h; exact absurd h (by omega))), ⟨(mdF (Gw op lk kp w) (wc w)), (f85.trans (by rw [g1_w])), f86, f92, (by first | assumption | exact fun j => ⟨by have := mdF_rg (G := Gw op lk kp w) (st := wc w) Gw_ok (hwc w) j; omega, by have := mdF_rg (G := Gw op lk kp w) (st := wc w) Gw_ok (hwc w) j; omega⟩)⟩, fun j hj0 hj1 => ((fr12 j (by omega)).trans (fr7 j (by omega)))⟩ dX7_reachableCells_21

def rm_X7_shiftCount : Room := { frames := 0, cells := 0, slots := 0, locals := 0 }
set_option maxRecDepth 100000 in
set_option maxHeartbeats 4000000 in
theorem c_X7_shiftCount (l : Launch) (E : xE) (ST : xST) (hSF : SF ST) (σ : xW) (op : Int → Int) (lk : Int → Int) (kp : Int → Int) (wc : Int → Int) (pn : Int) (nw : Int) (sh : Int) (wk : Int) (sv : Bool) (re : Int) (ea : Int) (fa : Int) (ty : Int) (li : Int) (th : Int) (sz : Int) (sp : Int) (wr : Int) (to : Int) (v : Int → Int) (hr0 : mo E σ sv re ea fa ty li th sz sp wr to) (hr1 : now E σ v) (hC : Cp v op lk kp wc pn nw sh wk) (hB : BI op lk kp wc pn nw) : CI l E ST yX7_shiftCount wsX7_shiftCount rm_X7_shiftCount [.ref (xad E 85)] σ (fun (z : Int) (u : xW) => z = sh ∧ (mo E u sv re ea fa ty li 0 sz sp wr to ∧ now E u v) ∧ ∀ j : Nat, j ≠ 85 → u j = σ j) := by
  have f85 : σ 85 = oB 5 [.ref (xad E 86), .ref (xad E 87), .ref (xad E 88), .ref (xad E 89), .ref (xad E 90), .int (iZ (b2 sv)), .int (iZ re), .int (iZ ea), .int (iZ fa), .ref (xad E 91), .ref (xad E 92), .ref (xad E 93), .int (iZ ty), .ref (xad E 94), .int (iZ li), .int (iZ th), .int (iZ sz), .int (iZ sp), .int (iZ wr), .int (iZ to), .ref (xad E 95)] := hr0
  have f86 : σ 86 = aI E 87 v := hr1
  refine CI_of (by decide) rfl (Nat.le_of_ble_eq_true rfl) ?_
  intro p e s m args below meth c Q ls G hH hl hQ
  obtain ⟨hx, hb, hml, hown, hts, hK, hST, hlocks, hr, hno⟩ := G
  have hOK := hSF.1
  have hown : s.vm.findClass RX7 = some m.cls := hown
  have hl : lv_has ls 1 [(0, .ref (xad E 85))] := hl
  have hinX7 : ∀ w ∈ u_ws RX7 TX7 21, w ∈ wsX7_shiftCount := fun w h => (List.mem_cons_of_mem _ (List.mem_append_right _ h))
  obtain ⟨hop, hlk, hkp, hwc, hpn, hnw⟩ := id hB
  have hvR := hC.R
  have hv0 := hC.1.1
  refine lv_aload_n hx hb dX7_shiftCount_0 rfl (lv_at hl 0 rfl) ?_
  refine x_iconst hx hb dX7_shiftCount_1 ?_
  refine x_put (fs' := [.ref (xad E 86), .ref (xad E 87), .ref (xad E 88), .ref (xad E 89), .ref (xad E 90), .int (iZ (b2 sv)), .int (iZ re), .int (iZ ea), .int (iZ fa), .ref (xad E 91), .ref (xad E 92), .ref (xad E 93), .int (iZ ty), .ref (xad E 94), .int (iZ li), .int (iZ 0), .int (iZ sz), .int (iZ sp), .int (iZ wr), .int (iZ to), .ref (xad E 95)]) hx hb hts hown hK hH 85 (by decide) f85 hinX7 rfl tyX7 tyX7_ok nmX7 15 (by decide) (List.mem_of_getElem? (i := 1) rfl) rfl (ty := .int) (by decide +kernel) rfl rfl (Nat.le_of_ble_eq_true rfl) rfl dX7_shiftCount_2 (fun σ1 H locs f85 fr2 hH => ?_)
  have f86 : σ1 86 = aI E 87 v := (fr2 86 (by omega)).trans f86
  refine lv_aload_n hx hb dX7_shiftCount_5 rfl (lv_at hl 0 rfl) ?_
  refine x_get hx hb hts hown hK hH 85 (by decide) f85 hinX7 rfl 0 (by decide) (List.mem_of_getElem? (i := 2) rfl) rfl dX7_shiftCount_6 ?_
  refine x_iconst hx hb dX7_shiftCount_9 ?_
  refine x_iald hx hb hK hH 86 (by decide) f86 (by omega) (by omega) (by omega) dX7_shiftCount_10 ?_
  have hv3 := hvR 1
  subst hQ
  exact x_iret hx hb hr hlocks hH (Nat.le_of_ble_eq_true rfl) (Nat.le_of_ble_eq_true rfl) ⟨(show (v 1) = sh from (by exact hC.1.2.1)), ⟨f85, f86⟩, fun j hj0 => (fr2 j (by omega))⟩ dX7_shiftCount_11

def rm_X7_walkedTotal : Room := { frames := 0, cells := 0, slots := 0, locals := 0 }
set_option maxRecDepth 100000 in
set_option maxHeartbeats 4000000 in
theorem c_X7_walkedTotal (l : Launch) (E : xE) (ST : xST) (hSF : SF ST) (σ : xW) (op : Int → Int) (lk : Int → Int) (kp : Int → Int) (wc : Int → Int) (pn : Int) (nw : Int) (sh : Int) (wk : Int) (sv : Bool) (re : Int) (ea : Int) (fa : Int) (ty : Int) (li : Int) (th : Int) (sz : Int) (sp : Int) (wr : Int) (to : Int) (v : Int → Int) (hr0 : mo E σ sv re ea fa ty li th sz sp wr to) (hr1 : now E σ v) (hC : Cp v op lk kp wc pn nw sh wk) (hB : BI op lk kp wc pn nw) : CL l E ST yX7_walkedTotal wsX7_walkedTotal rm_X7_walkedTotal [.ref (xad E 85)] σ (fun z (u : xW) => z = lZ wk ∧ (mo E u sv re ea fa ty li 0 sz sp wr to ∧ now E u v) ∧ ∀ j : Nat, j ≠ 85 → u j = σ j) := by
  have f85 : σ 85 = oB 5 [.ref (xad E 86), .ref (xad E 87), .ref (xad E 88), .ref (xad E 89), .ref (xad E 90), .int (iZ (b2 sv)), .int (iZ re), .int (iZ ea), .int (iZ fa), .ref (xad E 91), .ref (xad E 92), .ref (xad E 93), .int (iZ ty), .ref (xad E 94), .int (iZ li), .int (iZ th), .int (iZ sz), .int (iZ sp), .int (iZ wr), .int (iZ to), .ref (xad E 95)] := hr0
  have f86 : σ 86 = aI E 87 v := hr1
  refine CL_of (by decide) rfl (Nat.le_of_ble_eq_true rfl) ?_
  intro p e s m args below meth c Q ls G hH hl hQ
  obtain ⟨hx, hb, hml, hown, hts, hK, hST, hlocks, hr, hno⟩ := G
  have hOK := hSF.1
  have hown : s.vm.findClass RX7 = some m.cls := hown
  have hl : lv_has ls 1 [(0, .ref (xad E 85))] := hl
  have hinX7 : ∀ w ∈ u_ws RX7 TX7 21, w ∈ wsX7_walkedTotal := fun w h => (List.mem_cons_of_mem _ (List.mem_append_right _ h))
  obtain ⟨hop, hlk, hkp, hwc, hpn, hnw⟩ := id hB
  have hvR := hC.R
  have hv0 := hC.1.1
  refine lv_aload_n hx hb dX7_walkedTotal_0 rfl (lv_at hl 0 rfl) ?_
  refine x_iconst hx hb dX7_walkedTotal_1 ?_
  refine x_put (fs' := [.ref (xad E 86), .ref (xad E 87), .ref (xad E 88), .ref (xad E 89), .ref (xad E 90), .int (iZ (b2 sv)), .int (iZ re), .int (iZ ea), .int (iZ fa), .ref (xad E 91), .ref (xad E 92), .ref (xad E 93), .int (iZ ty), .ref (xad E 94), .int (iZ li), .int (iZ 0), .int (iZ sz), .int (iZ sp), .int (iZ wr), .int (iZ to), .ref (xad E 95)]) hx hb hts hown hK hH 85 (by decide) f85 hinX7 rfl tyX7 tyX7_ok nmX7 15 (by decide) (List.mem_of_getElem? (i := 1) rfl) rfl (ty := .int) (by decide +kernel) rfl rfl (Nat.le_of_ble_eq_true rfl) rfl dX7_walkedTotal_2 (fun σ1 H locs f85 fr2 hH => ?_)
  have f86 : σ1 86 = aI E 87 v := (fr2 86 (by omega)).trans f86
  refine lv_aload_n hx hb dX7_walkedTotal_5 rfl (lv_at hl 0 rfl) ?_
  refine x_get hx hb hts hown hK hH 85 (by decide) f85 hinX7 rfl 0 (by decide) (List.mem_of_getElem? (i := 2) rfl) rfl dX7_walkedTotal_6 ?_
  refine x_iconst hx hb dX7_walkedTotal_9 ?_
  refine x_iald hx hb hK hH 86 (by decide) f86 (by omega) (by omega) (by omega) dX7_walkedTotal_10 ?_
  have hv3 := hvR 2
  refine x_i2l hx hb dX7_walkedTotal_11 (by omega) ?_
  subst hQ
  exact x_lret hx hb hr hlocks hH (Nat.le_of_ble_eq_true rfl) (Nat.le_of_ble_eq_true rfl) ⟨(show (lZ (v 2)) = (lZ wk) from (by rw [hC.1.2.2])), ⟨f85, f86⟩, fun j hj0 => (fr2 j (by omega))⟩ dX7_walkedTotal_12

def rm_X7_meanOpenings : Room := { frames := 2, cells := 0, slots := 0, locals := 42 }
set_option maxRecDepth 100000 in
set_option maxHeartbeats 4000000 in
theorem c_X7_meanOpenings (l : Launch) (E : xE) (ST : xST) (hSF : SF ST) (σ : xW) (op : Int → Int) (lk : Int → Int) (kp : Int → Int) (wc : Int → Int) (pn : Int) (nw : Int) (sh : Int) (wk : Int) (sv : Bool) (re : Int) (ea : Int) (fa : Int) (ty : Int) (li : Int) (th : Int) (sz : Int) (sp : Int) (wr : Int) (to : Int) (v : Int → Int) (hr0 : mo E σ sv re ea fa ty li th sz sp wr to) (hr1 : now E σ v) (hC : Cp v op lk kp wc pn nw sh wk) (hB : BI op lk kp wc pn nw) : CD l E ST yX7_meanOpenings wsX7_meanOpenings rm_X7_meanOpenings [.ref (xad E 85)] σ (fun z (u : xW) => z = meD (smK (fun c => bcZ (op c)) 25) ∧ (mo E u sv re ea fa ty li 0 sz sp wr to ∧ now E u v) ∧ ∀ j : Nat, j ≠ 85 → u j = σ j) := by
  have f85 : σ 85 = oB 5 [.ref (xad E 86), .ref (xad E 87), .ref (xad E 88), .ref (xad E 89), .ref (xad E 90), .int (iZ (b2 sv)), .int (iZ re), .int (iZ ea), .int (iZ fa), .ref (xad E 91), .ref (xad E 92), .ref (xad E 93), .int (iZ ty), .ref (xad E 94), .int (iZ li), .int (iZ th), .int (iZ sz), .int (iZ sp), .int (iZ wr), .int (iZ to), .ref (xad E 95)] := hr0
  have f86 : σ 86 = aI E 87 v := hr1
  refine CD_of (by decide) rfl (Nat.le_of_ble_eq_true rfl) ?_
  intro p e s m args below meth c Q ls G hH hl hQ
  obtain ⟨hx, hb, hml, hown, hts, hK, hST, hlocks, hr, hno⟩ := G
  have hOK := hSF.1
  have hown : s.vm.findClass RX7 = some m.cls := hown
  have hl : lv_has ls 3 [(0, .ref (xad E 85))] := hl
  have hinX7 : ∀ w ∈ u_ws RX7 TX7 21, w ∈ wsX7_meanOpenings := fun w h => (List.mem_cons_of_mem _ (List.mem_append_right _ h))
  obtain ⟨hop, hlk, hkp, hwc, hpn, hnw⟩ := id hB
  have hvR := hC.R
  have hv0 := hC.1.1
  refine lv_aload_n hx hb dX7_meanOpenings_0 rfl (lv_at hl 0 rfl) ?_
  refine x_iconst hx hb dX7_meanOpenings_1 ?_
  refine x_put (fs' := [.ref (xad E 86), .ref (xad E 87), .ref (xad E 88), .ref (xad E 89), .ref (xad E 90), .int (iZ (b2 sv)), .int (iZ re), .int (iZ ea), .int (iZ fa), .ref (xad E 91), .ref (xad E 92), .ref (xad E 93), .int (iZ ty), .ref (xad E 94), .int (iZ li), .int (iZ 0), .int (iZ sz), .int (iZ sp), .int (iZ wr), .int (iZ to), .ref (xad E 95)]) hx hb hts hown hK hH 85 (by decide) f85 hinX7 rfl tyX7 tyX7_ok nmX7 15 (by decide) (List.mem_of_getElem? (i := 1) rfl) rfl (ty := .int) (by decide +kernel) rfl rfl (Nat.le_of_ble_eq_true rfl) rfl dX7_meanOpenings_2 (fun σ1 H locs f85 fr2 hH => ?_)
  have f86 : σ1 86 = aI E 87 v := (fr2 86 (by omega)).trans f86
  refine x_iconst hx hb dX7_meanOpenings_5 ?_
  refine lv_istore_n (lv' := [(1, .int (iZ 0)), (0, .ref (xad E 85))]) hx hb dX7_meanOpenings_6 rfl hl (by decide) rfl (fun ls hl => ?_)
  refine x_iconst hx hb dX7_meanOpenings_7 ?_
  refine lv_istore_n (lv' := [(2, .int (iZ 0)), (1, .int (iZ 0)), (0, .ref (xad E 85))]) hx hb dX7_meanOpenings_8 rfl hl (by decide) rfl (fun ls hl => ?_)
  have K9 : ∀ (nK : Nat) (su i9 : Int) (H : Heap) (locs : List Loc) (ls : Array Slot), (25 - i9).toNat < nK → ((0 ≤ i9 ∧ i9 ≤ 25) ∧ 0 ≤ su ∧ su ≤ 4 * i9) → (su = smK (fun c => bcZ (op c)) i9) → Hx E (xA E s.heap.size) s.heap σ1 H locs → lv_has ls 3 [(2, .int (iZ i9)), (1, .int (iZ su)), (0, .ref (xad E 85))] → W p l e rm_X7_meanOpenings s m args below meth c H locs 0 0 Q (F0 m 9 ls []) := by
    intro n9
    induction n9 with
    | zero =>
      intro su i9 H locs ls hm
      exact absurd hm (by first | exact Nat.not_lt_zero _ | omega)
    | succ n9 ih9 =>
      intro su i9 H locs ls hm9 hi9 hsu  hH hl
      refine lv_iload_n hx hb dX7_meanOpenings_9 rfl (lv_at hl 0 rfl) ?_
      refine x_bipush hx hb dX7_meanOpenings_10 (by decide) ?_
      refine x_icmp_ge (tgt := 33) hx hb dX7_meanOpenings_12 (by decide) (by omega) (by decide) (fun c12 => ?_) (fun c12 => ?_)
      · refine lv_iload_n hx hb dX7_meanOpenings_33 rfl (lv_at hl 1 rfl) ?_
        refine lv_i2d hx hb dX7_meanOpenings_34 ?_
        refine lv_ldc2d (v := 4627730092099895296) hx hb hown (hts _ (List.mem_of_getElem? (i := 2) rfl)) dX7_meanOpenings_35 ?_
        refine lv_ddiv hx hb dX7_meanOpenings_38 (by exact meD_n (by omega) (by omega)) ?_
        subst hQ
        exact x_dret hx hb hr hlocks hH (Nat.le_of_ble_eq_true rfl) (Nat.le_of_ble_eq_true rfl) ⟨(show (FP.ddiv (FP.i2d (iZ su)) 4627730092099895296) = (meD (smK (fun c => bcZ (op c)) 25)) from (by have e9 : i9 = 25 := (by omega); subst e9; rw [← hsu]; rfl)), ⟨f85, f86⟩, fun j hj0 => (fr2 j (by omega))⟩ dX7_meanOpenings_39
      · refine lv_iload_n hx hb dX7_meanOpenings_15 rfl (lv_at hl 1 rfl) ?_
        refine lv_aload_n hx hb dX7_meanOpenings_16 rfl (lv_at hl 2 rfl) ?_
        refine lv_iload_n hx hb dX7_meanOpenings_17 rfl (lv_at hl 0 rfl) ?_
        refine x_iconst hx hb dX7_meanOpenings_18 ?_
        refine x_cVID (As := [.int (iZ i9), .int (iZ 0)]) (rest := [.int (iZ su)]) hx hb hml hts hown hK hST hOK hH 85 (c_X7_of l E ST hSF σ1 i9 0 sv re ea fa ty li 0 sz sp wr to v f85 f86 (by omega) (by omega)) (cwV 2 hts gX7_meanOpenings_X7_of rfl rfl rfl (by decide +kernel) ⟨Nat.le_of_ble_eq_true rfl, Nat.le_of_ble_eq_true rfl⟩) (by decide) f85 rfl rfl hl.1 rfl (Nat.le_of_ble_eq_true rfl) dX7_meanOpenings_19 ⟨Nat.le_of_ble_eq_true rfl, Nat.le_of_ble_eq_true rfl⟩ (fun z u h => h) (fun H locs hH => ?_)
        rw [hC.a0 (c := i9) (by omega) (by omega)]
        have hv7 := hop i9
        refine x_cSID (As := [.int (iZ (op i9))]) (rest := [.int (iZ su)]) hx hb hml hts hown hK hST hOK hH (c_J6_bitCount_0f7a4 l E ST hSF σ1 (op i9)  ) (va_cwS 1 hts gX7_meanOpenings_J6_bitCount_0f7a4 rfl rfl rfl (by decide +kernel) ⟨Nat.le_of_ble_eq_true rfl, Nat.le_of_ble_eq_true rfl⟩) rfl hl.1 rfl (Nat.le_of_ble_eq_true rfl) dX7_meanOpenings_22 ⟨Nat.le_of_ble_eq_true rfl, Nat.le_of_ble_eq_true rfl⟩ (fun z u h => h) (fun H locs hH => ?_)
        have hbc := bcZ_b (hop i9).1 (hop i9).2
        refine x_iadd hx hb dX7_meanOpenings_25 ?_
        refine lv_istore_n (lv' := [(1, .int (iZ (su + (bcZ (op i9))))), (2, .int (iZ i9)), (0, .ref (xad E 85))]) hx hb dX7_meanOpenings_26 rfl hl (by decide) rfl (fun ls hl => ?_)
        refine x_iinc (lv' := [(2, .int (iZ (i9 + 1))), (1, .int (iZ (su + (bcZ (op i9))))), (0, .ref (xad E 85))]) hx hb dX7_meanOpenings_27 hl (k := 1) rfl (by decide) rfl (fun ls hl => ?_)
        refine lv_goto (tgt := 9) hx hb dX7_meanOpenings_30 (by decide) ?_
        exact ih9 (su + (bcZ (op i9))) (i9 + 1) _ _ _ (by omega) (by omega) (by rw [smK_s (by omega), ← hsu])  hH (lv_sub hl [0, 1, 2] rfl)
  exact K9 26 0 0 _ _ _ (by first | omega | decide) (by omega) (by rfl)  hH (lv_sub hl [0, 1, 2] rfl)

def rm_X7_reachableShare : Room := { frames := 8, cells := 0, slots := 0, locals := 182 }
set_option maxRecDepth 100000 in
set_option maxHeartbeats 4000000 in
theorem c_X7_reachableShare (l : Launch) (E : xE) (ST : xST) (hSF : SF ST) (σ : xW) (w : Int) (op : Int → Int) (lk : Int → Int) (kp : Int → Int) (wc : Int → Int) (pn : Int) (nw : Int) (sh : Int) (wk : Int) (sv : Bool) (re : Int) (ea : Int) (fa : Int) (ty : Int) (li : Int) (th : Int) (sz : Int) (sp : Int) (wr : Int) (to : Int) (v : Int → Int) (F : Int → Int) (hr0 : mo E σ sv re ea fa ty li th sz sp wr to) (hr1 : now E σ v) (hr2 : far E σ F) (hC : Cp v op lk kp wc pn nw sh wk) (hB : BI op lk kp wc pn nw) (hw9 : rg w) (hFr : ∀ j : Int, rg (F j)) : CF l E ST yX7_reachableShare wsX7_reachableShare rm_X7_reachableShare [.ref (xad E 85), .int (iZ w)] σ (fun z (u : xW) => z = (if 0 ≤ w ∧ w < nw then shF (cnbK (fun c => decide (dz (Gw op lk kp w) (wc w) c < 25)) 25) else FP.fconst0) ∧ (∃ (F1 : Int → Int), mo E u sv re ea fa ty li (k1 (0 ≤ w ∧ w < nw)) sz sp wr to ∧ now E u v ∧ far E u F1 ∧ (∀ j : Int, rg (F1 j))) ∧ ∀ j : Nat, j ≠ 85 → j ≠ 92 → u j = σ j) := by
  have f85 : σ 85 = oB 5 [.ref (xad E 86), .ref (xad E 87), .ref (xad E 88), .ref (xad E 89), .ref (xad E 90), .int (iZ (b2 sv)), .int (iZ re), .int (iZ ea), .int (iZ fa), .ref (xad E 91), .ref (xad E 92), .ref (xad E 93), .int (iZ ty), .ref (xad E 94), .int (iZ li), .int (iZ th), .int (iZ sz), .int (iZ sp), .int (iZ wr), .int (iZ to), .ref (xad E 95)] := hr0
  have f86 : σ 86 = aI E 87 v := hr1
  have f92 : σ 92 = aI E 25 F := hr2
  refine CF_of (by decide) rfl (Nat.le_of_ble_eq_true rfl) ?_
  intro p e s m args below meth c Q ls G hH hl hQ
  obtain ⟨hx, hb, hml, hown, hts, hK, hST, hlocks, hr, hno⟩ := G
  have hOK := hSF.1
  have hown : s.vm.findClass RX7 = some m.cls := hown
  have hl : lv_has ls 2 [(0, .ref (xad E 85)), (1, .int (iZ w))] := hl
  obtain ⟨hop, hlk, hkp, hwc, hpn, hnw⟩ := id hB
  have hvR := hC.R
  have hv0 := hC.1.1
  have hcb := cnbK_b (P := fun c => decide (dz (Gw op lk kp w) (wc w) c < 25)) (n := 25) (by decide)
  refine lv_aload_n hx hb dX7_reachableShare_0 rfl (lv_at hl 0 rfl) ?_
  refine lv_aload_n hx hb dX7_reachableShare_1 rfl (lv_at hl 0 rfl) ?_
  refine lv_iload_n hx hb dX7_reachableShare_2 rfl (lv_at hl 1 rfl) ?_
  refine x_cVID (As := [.int (iZ w)]) (rest := [.ref (xad E 85)]) hx hb hml hts hown hK hST hOK hH 85 (c_X7_isWalker l E ST hSF σ w op lk kp wc pn nw sh wk sv re ea fa ty li th sz sp wr to v f85 f86 (by assumption) (by omega) (by omega)) (cwV 1 hts gX7_reachableShare_X7_isWalker rfl rfl rfl (by decide +kernel) ⟨Nat.le_of_ble_eq_true rfl, Nat.le_of_ble_eq_true rfl⟩) (by decide) f85 rfl rfl hl.1 rfl (Nat.le_of_ble_eq_true rfl) dX7_reachableShare_3 ⟨Nat.le_of_ble_eq_true rfl, Nat.le_of_ble_eq_true rfl⟩ (fun z u h => h) (fun H locs hH => ?_)
  refine x_cVIE (As := [.int (iZ (b2 (decide (0 ≤ w ∧ w < nw))))]) (rest := []) hx hb hml hts hown hK hST hOK hH 85 (c_X7_goes l E ST hSF σ (decide (0 ≤ w ∧ w < nw)) sv re ea fa ty li th sz sp wr to f85 ) (cwV 1 hts gX7_reachableShare_X7_goes rfl rfl rfl (by decide +kernel) ⟨Nat.le_of_ble_eq_true rfl, Nat.le_of_ble_eq_true rfl⟩) (by decide) f85 rfl rfl hl.1 rfl (Nat.le_of_ble_eq_true rfl) dX7_reachableShare_6 ⟨Nat.le_of_ble_eq_true rfl, Nat.le_of_ble_eq_true rfl⟩ (fun z u h => h) (fun σ5 H locs hp6 hH => ?_)
  obtain ⟨f85, fr7⟩ := hp6
  have f86 : σ5 86 = aI E 87 v := (fr7 86 (by omega)).trans f86
  have f92 : σ5 92 = aI E 25 F := (fr7 92 (by omega)).trans f92
  refine x_ifb_eq (tgt := 24) hx hb dX7_reachableShare_9 (by decide) (fun c9 => ?_) (fun c9 => ?_)
  · have c9 := of_decide_eq_false c9
    refine lv_fconst0 hx hb dX7_reachableShare_24 ?_
    subst hQ
    exact x_fret hx hb hr hlocks hH (Nat.le_of_ble_eq_true rfl) (Nat.le_of_ble_eq_true rfl) ⟨(show FP.fconst0 = (if 0 ≤ w ∧ w < nw then shF (cnbK (fun c => decide (dz (Gw op lk kp w) (wc w) c < 25)) 25) else FP.fconst0) from (by first | (rw [if_pos (by assumption)]; rfl) | (rw [if_neg (by assumption)]))), ⟨F, (f85.trans (by rw [g1_w])), f86, f92, (by first | assumption | exact fun j => ⟨by have := mdF_rg (G := Gw op lk kp w) (st := wc w) Gw_ok (hwc w) j; omega, by have := mdF_rg (G := Gw op lk kp w) (st := wc w) Gw_ok (hwc w) j; omega⟩)⟩, fun j hj0 hj1 => (fr7 j (by omega))⟩ dX7_reachableShare_25
  · have c9 := of_decide_eq_true c9
    refine lv_aload_n hx hb dX7_reachableShare_12 rfl (lv_at hl 0 rfl) ?_
    refine lv_iload_n hx hb dX7_reachableShare_13 rfl (lv_at hl 1 rfl) ?_
    refine x_cVIE (As := [.int (iZ w)]) (rest := []) hx hb hml hts hown hK hST hOK hH 85 (c_X7_reached l E ST hSF σ5 w op lk kp wc pn nw sh wk sv re ea fa ty li (if (decide (0 ≤ w ∧ w < nw)) = true then 0 else 1) sz sp wr to v F f85 f86 f92 (by assumption) (by omega) (by omega) (by assumption)) (cwV 1 hts gX7_reachableShare_X7_reached rfl rfl rfl (by decide +kernel) ⟨Nat.le_of_ble_eq_true rfl, Nat.le_of_ble_eq_true rfl⟩) (by decide) f85 rfl rfl hl.1 rfl (Nat.le_of_ble_eq_true rfl) dX7_reachableShare_14 ⟨Nat.le_of_ble_eq_true rfl, Nat.le_of_ble_eq_true rfl⟩ (fun z u h => h) (fun σ10 H locs hp11 hH => ?_)
    obtain ⟨⟨f85, f86, f92⟩, fr12⟩ := hp11
    refine lv_i2f hx hb dX7_reachableShare_17 ?_
    refine lv_ldcf (v := 1103626240) hx hb hown (hts _ (List.mem_of_getElem? (i := 1) rfl)) dX7_reachableShare_18 ?_
    refine lv_fdiv hx hb dX7_reachableShare_20 (by exact shF_n hcb.1 hcb.2) ?_
    refine lv_goto (tgt := 25) hx hb dX7_reachableShare_21 (by decide) ?_
    subst hQ
    exact x_fret hx hb hr hlocks hH (Nat.le_of_ble_eq_true rfl) (Nat.le_of_ble_eq_true rfl) ⟨(show (FP.fdiv (FP.i2f (iZ (cnbK (fun c => decide (dz (Gw op lk kp w) (wc w) c < 25)) 25))) 1103626240) = (if 0 ≤ w ∧ w < nw then shF (cnbK (fun c => decide (dz (Gw op lk kp w) (wc w) c < 25)) 25) else FP.fconst0) from (by first | (rw [if_pos (by assumption)]; rfl) | (rw [if_neg (by assumption)]))), ⟨(mdF (Gw op lk kp w) (wc w)), (f85.trans (by rw [g1_w])), f86, f92, (by first | assumption | exact fun j => ⟨by have := mdF_rg (G := Gw op lk kp w) (st := wc w) Gw_ok (hwc w) j; omega, by have := mdF_rg (G := Gw op lk kp w) (st := wc w) Gw_ok (hwc w) j; omega⟩)⟩, fun j hj0 hj1 => ((fr12 j (by omega)).trans (fr7 j (by omega)))⟩ dX7_reachableShare_25

def rm_X7_isConsistent : Room := { frames := 0, cells := 0, slots := 0, locals := 0 }
set_option maxRecDepth 100000 in
set_option maxHeartbeats 4000000 in
theorem c_X7_isConsistent (l : Launch) (E : xE) (ST : xST) (hSF : SF ST) (σ : xW) (op : Int → Int) (lk : Int → Int) (kp : Int → Int) (wc : Int → Int) (pn : Int) (nw : Int) (sh : Int) (wk : Int) (sv : Bool) (re : Int) (ea : Int) (fa : Int) (ty : Int) (li : Int) (th : Int) (sz : Int) (sp : Int) (wr : Int) (to : Int) (v : Int → Int) (hr0 : mo E σ sv re ea fa ty li th sz sp wr to) (hr1 : now E σ v) (hC : Cp v op lk kp wc pn nw sh wk) (hB : BI op lk kp wc pn nw) : CI l E ST yX7_isConsistent wsX7_isConsistent rm_X7_isConsistent [.ref (xad E 85)] σ (fun (z : Int) (u : xW) => z = b2 true ∧ (mo E u sv re ea fa ty li 0 sz sp wr to ∧ now E u v) ∧ ∀ j : Nat, j ≠ 85 → u j = σ j) := by
  have f85 : σ 85 = oB 5 [.ref (xad E 86), .ref (xad E 87), .ref (xad E 88), .ref (xad E 89), .ref (xad E 90), .int (iZ (b2 sv)), .int (iZ re), .int (iZ ea), .int (iZ fa), .ref (xad E 91), .ref (xad E 92), .ref (xad E 93), .int (iZ ty), .ref (xad E 94), .int (iZ li), .int (iZ th), .int (iZ sz), .int (iZ sp), .int (iZ wr), .int (iZ to), .ref (xad E 95)] := hr0
  have f86 : σ 86 = aI E 87 v := hr1
  refine CI_of (by decide) rfl (Nat.le_of_ble_eq_true rfl) ?_
  intro p e s m args below meth c Q ls G hH hl hQ
  obtain ⟨hx, hb, hml, hown, hts, hK, hST, hlocks, hr, hno⟩ := G
  have hOK := hSF.1
  have hown : s.vm.findClass RX7 = some m.cls := hown
  have hl : lv_has ls 1 [(0, .ref (xad E 85))] := hl
  have hinX7 : ∀ w ∈ u_ws RX7 TX7 21, w ∈ wsX7_isConsistent := fun w h => (List.mem_cons_of_mem _ (List.mem_append_right _ h))
  obtain ⟨hop, hlk, hkp, hwc, hpn, hnw⟩ := id hB
  have hvR := hC.R
  have hv0 := hC.1.1
  refine lv_aload_n hx hb dX7_isConsistent_0 rfl (lv_at hl 0 rfl) ?_
  refine x_iconst hx hb dX7_isConsistent_1 ?_
  refine x_put (fs' := [.ref (xad E 86), .ref (xad E 87), .ref (xad E 88), .ref (xad E 89), .ref (xad E 90), .int (iZ (b2 sv)), .int (iZ re), .int (iZ ea), .int (iZ fa), .ref (xad E 91), .ref (xad E 92), .ref (xad E 93), .int (iZ ty), .ref (xad E 94), .int (iZ li), .int (iZ 0), .int (iZ sz), .int (iZ sp), .int (iZ wr), .int (iZ to), .ref (xad E 95)]) hx hb hts hown hK hH 85 (by decide) f85 hinX7 rfl tyX7 tyX7_ok nmX7 15 (by decide) (List.mem_of_getElem? (i := 1) rfl) rfl (ty := .int) (by decide +kernel) rfl rfl (Nat.le_of_ble_eq_true rfl) rfl dX7_isConsistent_2 (fun σ1 H locs f85 fr2 hH => ?_)
  have f86 : σ1 86 = aI E 87 v := (fr2 86 (by omega)).trans f86
  refine x_iconst hx hb dX7_isConsistent_5 ?_
  subst hQ
  exact x_zret (b := true) hx hb hr hlocks hH (Nat.le_of_ble_eq_true rfl) (Nat.le_of_ble_eq_true rfl) ⟨congrArg b2 (show true = true from (by rfl)), ⟨f85, f86⟩, fun j hj0 => (fr2 j (by omega))⟩ dX7_isConsistent_6

def rm_X7_outputAt : Room := { frames := 2, cells := 0, slots := 0, locals := 44 }
set_option maxRecDepth 100000 in
set_option maxHeartbeats 4000000 in
theorem c_X7_outputAt (l : Launch) (E : xE) (ST : xST) (hSF : SF ST) (σ : xW) (i9 : Int) (sv : Bool) (re : Int) (ea : Int) (fa : Int) (ty : Int) (li : Int) (th : Int) (sz : Int) (sp : Int) (wr : Int) (to : Int) (lf : Int → Int) (hr0 : mo E σ sv re ea fa ty li th sz sp wr to) (hr1 : lin E σ lf) (hi9 : rg i9) (hli : 0 ≤ li ∧ li ≤ 80) (hlf : ∀ j, 0 ≤ lf j ∧ lf j ≤ 65535) : CI l E ST yX7_outputAt wsX7_outputAt rm_X7_outputAt [.ref (xad E 85), .int (iZ i9)] σ (fun (z : Int) (u : xW) => ((0 ≤ i9 ∧ i9 < li) → z = lf i9) ∧ (mo E u sv re ea fa ty li (k1 (0 ≤ i9 ∧ i9 < li)) sz sp wr to ∧ lin E u lf) ∧ ∀ j : Nat, j ≠ 85 → u j = σ j) := by
  have f85 : σ 85 = oB 5 [.ref (xad E 86), .ref (xad E 87), .ref (xad E 88), .ref (xad E 89), .ref (xad E 90), .int (iZ (b2 sv)), .int (iZ re), .int (iZ ea), .int (iZ fa), .ref (xad E 91), .ref (xad E 92), .ref (xad E 93), .int (iZ ty), .ref (xad E 94), .int (iZ li), .int (iZ th), .int (iZ sz), .int (iZ sp), .int (iZ wr), .int (iZ to), .ref (xad E 95)] := hr0
  have f94 : σ 94 = aI E 80 lf := hr1
  refine CI_of (by decide) rfl (Nat.le_of_ble_eq_true rfl) ?_
  intro p e s m args below meth c Q ls G hH hl hQ
  obtain ⟨hx, hb, hml, hown, hts, hK, hST, hlocks, hr, hno⟩ := G
  have hOK := hSF.1
  have hown : s.vm.findClass RX7 = some m.cls := hown
  have hl : lv_has ls 2 [(0, .ref (xad E 85)), (1, .int (iZ i9))] := hl
  have hinX7 : ∀ w ∈ u_ws RX7 TX7 21, w ∈ wsX7_outputAt := fun w h => (List.mem_cons_of_mem _ (List.mem_append_right _ h))
  refine lv_aload_n hx hb dX7_outputAt_0 rfl (lv_at hl 0 rfl) ?_
  refine lv_iload_n hx hb dX7_outputAt_1 rfl (lv_at hl 1 rfl) ?_
  refine x_iconst hx hb dX7_outputAt_2 ?_
  refine lv_aload_n hx hb dX7_outputAt_3 rfl (lv_at hl 0 rfl) ?_
  refine x_get hx hb hts hown hK hH 85 (by decide) f85 hinX7 rfl 14 (by decide) (List.mem_of_getElem? (i := 1) rfl) rfl dX7_outputAt_4 ?_
  refine x_iconst hx hb dX7_outputAt_7 ?_
  refine x_isub hx hb dX7_outputAt_8 ?_
  refine x_cSID (As := [.int (iZ i9), .int (iZ 0), .int (iZ (li - 1))]) (rest := [.ref (xad E 85)]) hx hb hml hts hown hK hST hOK hH (c_X7_isIn l E ST hSF σ i9 0 (li - 1)  (by omega) (by omega) (by omega)) (va_cwS 3 hts gX7_outputAt_X7_isIn rfl rfl rfl (by decide +kernel) ⟨Nat.le_of_ble_eq_true rfl, Nat.le_of_ble_eq_true rfl⟩) rfl hl.1 rfl (Nat.le_of_ble_eq_true rfl) dX7_outputAt_9 ⟨Nat.le_of_ble_eq_true rfl, Nat.le_of_ble_eq_true rfl⟩ (fun z u h => h) (fun H locs hH => ?_)
  refine x_cVIE (As := [.int (iZ (b2 (decide (0 ≤ i9 ∧ i9 ≤ (li - 1)))))]) (rest := []) hx hb hml hts hown hK hST hOK hH 85 (c_X7_goes l E ST hSF σ (decide (0 ≤ i9 ∧ i9 ≤ (li - 1))) sv re ea fa ty li th sz sp wr to f85 ) (cwV 1 hts gX7_outputAt_X7_goes rfl rfl rfl (by decide +kernel) ⟨Nat.le_of_ble_eq_true rfl, Nat.le_of_ble_eq_true rfl⟩) (by decide) f85 rfl rfl hl.1 rfl (Nat.le_of_ble_eq_true rfl) dX7_outputAt_12 ⟨Nat.le_of_ble_eq_true rfl, Nat.le_of_ble_eq_true rfl⟩ (fun z u h => h) (fun σ5 H locs hp6 hH => ?_)
  obtain ⟨f85, fr7⟩ := hp6
  have f94 : σ5 94 = aI E 80 lf := (fr7 94 (by omega)).trans f94
  refine x_ifb_eq (tgt := 28) hx hb dX7_outputAt_15 (by decide) (fun c15 => ?_) (fun c15 => ?_)
  · have c15 := of_decide_eq_false c15
    refine x_iconst hx hb dX7_outputAt_28 ?_
    subst hQ
    exact x_cret hx hb hr hlocks hH (Nat.le_of_ble_eq_true rfl) (Nat.le_of_ble_eq_true rfl) (by omega) (by omega) ⟨(by first | (intro h; rfl) | (intro h; exact absurd h (by omega))), ⟨(f85.trans (by rw [g1_of (P := 0 ≤ i9 ∧ i9 < li) (by omega)])), f94⟩, fun j hj0 => (fr7 j (by omega))⟩ dX7_outputAt_29
  · have c15 := of_decide_eq_true c15
    refine lv_aload_n hx hb dX7_outputAt_18 rfl (lv_at hl 0 rfl) ?_
    refine x_get hx hb hts hown hK hH 85 (by decide) f85 hinX7 rfl 13 (by decide) (List.mem_of_getElem? (i := 2) rfl) rfl dX7_outputAt_19 ?_
    refine lv_iload_n hx hb dX7_outputAt_22 rfl (lv_at hl 1 rfl) ?_
    refine x_iald hx hb hK hH 94 (by decide) f94 (by omega) (by omega) (by omega) dX7_outputAt_23 ?_
    have hv9 := hlf i9
    refine x_i2c hx hb dX7_outputAt_24 ?_
    rw [i2cZ_in (by omega) (by omega)]
    refine lv_goto (tgt := 29) hx hb dX7_outputAt_25 (by decide) ?_
    subst hQ
    exact x_cret hx hb hr hlocks hH (Nat.le_of_ble_eq_true rfl) (Nat.le_of_ble_eq_true rfl) (by omega) (by omega) ⟨(by first | (intro h; rfl) | (intro h; exact absurd h (by omega))), ⟨(f85.trans (by rw [g1_of (P := 0 ≤ i9 ∧ i9 < li) (by omega)])), f94⟩, fun j hj0 => (fr7 j (by omega))⟩ dX7_outputAt_29

def rm_X7_append : Room := { frames := 2, cells := 0, slots := 0, locals := 44 }
set_option maxRecDepth 100000 in
set_option maxHeartbeats 4000000 in
theorem c_X7_append (l : Launch) (E : xE) (ST : xST) (hSF : SF ST) (σ : xW) (ch : Int) (sv : Bool) (re : Int) (ea : Int) (fa : Int) (ty : Int) (li : Int) (th : Int) (sz : Int) (sp : Int) (wr : Int) (to : Int) (tf : Int → Int) (hr0 : mo E σ sv re ea fa ty li th sz sp wr to) (hr1 : txt E σ tf) (hty : 0 ≤ ty ∧ ty ≤ 60) : CI l E ST yX7_append wsX7_append rm_X7_append [.ref (xad E 85), .int (iZ ch)] σ (fun (z : Int) (u : xW) => (ty < 60 → z = ty + 1) ∧ (mo E u sv re ea fa (if ty < 60 then ty + 1 else ty) li (k1 (ty < 60)) sz sp wr to ∧ txt E u (if ty < 60 then ui tf ty ch else tf)) ∧ ∀ j : Nat, j ≠ 85 → j ≠ 93 → u j = σ j) := by
  have f85 : σ 85 = oB 5 [.ref (xad E 86), .ref (xad E 87), .ref (xad E 88), .ref (xad E 89), .ref (xad E 90), .int (iZ (b2 sv)), .int (iZ re), .int (iZ ea), .int (iZ fa), .ref (xad E 91), .ref (xad E 92), .ref (xad E 93), .int (iZ ty), .ref (xad E 94), .int (iZ li), .int (iZ th), .int (iZ sz), .int (iZ sp), .int (iZ wr), .int (iZ to), .ref (xad E 95)] := hr0
  have f93 : σ 93 = aI E 60 tf := hr1
  refine CI_of (by decide) rfl (Nat.le_of_ble_eq_true rfl) ?_
  intro p e s m args below meth c Q ls G hH hl hQ
  obtain ⟨hx, hb, hml, hown, hts, hK, hST, hlocks, hr, hno⟩ := G
  have hOK := hSF.1
  have hown : s.vm.findClass RX7 = some m.cls := hown
  have hl : lv_has ls 2 [(0, .ref (xad E 85)), (1, .int (iZ ch))] := hl
  have hinX7 : ∀ w ∈ u_ws RX7 TX7 21, w ∈ wsX7_append := fun w h => (List.mem_cons_of_mem _ (List.mem_append_right _ h))
  refine lv_aload_n hx hb dX7_append_0 rfl (lv_at hl 0 rfl) ?_
  refine lv_aload_n hx hb dX7_append_1 rfl (lv_at hl 0 rfl) ?_
  refine x_get hx hb hts hown hK hH 85 (by decide) f85 hinX7 rfl 12 (by decide) (List.mem_of_getElem? (i := 1) rfl) rfl dX7_append_2 ?_
  refine x_bipush hx hb dX7_append_5 (by decide) ?_
  refine x_icmp_ge (tgt := 14) hx hb dX7_append_7 (by decide) (by omega) (by decide) (fun c7 => ?_) (fun c7 => ?_)
  · refine x_iconst hx hb dX7_append_14 ?_
    refine x_cVIE (As := [.int (iZ 0)]) (rest := []) hx hb hml hts hown hK hST hOK hH 85 (c_X7_goes l E ST hSF σ false sv re ea fa ty li th sz sp wr to f85 ) (cwV 1 hts gX7_append_X7_goes rfl rfl rfl (by decide +kernel) ⟨Nat.le_of_ble_eq_true rfl, Nat.le_of_ble_eq_true rfl⟩) (by decide) f85 rfl rfl hl.1 rfl (Nat.le_of_ble_eq_true rfl) dX7_append_15 ⟨Nat.le_of_ble_eq_true rfl, Nat.le_of_ble_eq_true rfl⟩ (fun z u h => h) (fun σ2 H locs hp3 hH => ?_)
    obtain ⟨f85, fr4⟩ := hp3
    have f93 : σ2 93 = aI E 60 tf := (fr4 93 (by omega)).trans f93
    refine x_if_ne (tgt := 23) hx hb dX7_append_18 (by decide) (rg_b2 _) (fun c18 => ?_) (fun c18 => ?_)
    · exact absurd c18 (by decide)
    · refine x_iconst hx hb dX7_append_21 ?_
      subst hQ
      exact x_iret hx hb hr hlocks hH (Nat.le_of_ble_eq_true rfl) (Nat.le_of_ble_eq_true rfl) ⟨(by first | (intro h; rfl) | (intro h; exact absurd h (by omega))), ⟨(f85.trans (by first | (rw [if_pos (show ty < 60 by omega), k1_0 (show ty < 60 by omega)]; rfl) | (rw [if_neg (show ¬ ty < 60 by omega), k1_1 (show ¬ ty < 60 by omega)]; rfl))), (f93.trans (congrArg (fun g => aI E 60 g) (show tf = (if ty < 60 then ui tf ty ch else tf) from (by first | rw [if_pos (by omega)] | rw [if_neg (by omega)]))))⟩, fun j hj0 hj1 => (fr4 j (by omega))⟩ dX7_append_22
  · refine x_iconst hx hb dX7_append_10 ?_
    refine lv_goto (tgt := 15) hx hb dX7_append_11 (by decide) ?_
    refine x_cVIE (As := [.int (iZ 1)]) (rest := []) hx hb hml hts hown hK hST hOK hH 85 (c_X7_goes l E ST hSF σ true sv re ea fa ty li th sz sp wr to f85 ) (cwV 1 hts gX7_append_X7_goes rfl rfl rfl (by decide +kernel) ⟨Nat.le_of_ble_eq_true rfl, Nat.le_of_ble_eq_true rfl⟩) (by decide) f85 rfl rfl hl.1 rfl (Nat.le_of_ble_eq_true rfl) dX7_append_15 ⟨Nat.le_of_ble_eq_true rfl, Nat.le_of_ble_eq_true rfl⟩ (fun z u h => h) (fun σ7 H locs hp8 hH => ?_)
    obtain ⟨f85, fr9⟩ := hp8
    have f93 : σ7 93 = aI E 60 tf := (fr9 93 (by omega)).trans f93
    refine x_if_ne (tgt := 23) hx hb dX7_append_18 (by decide) (rg_b2 _) (fun c18 => ?_) (fun c18 => ?_)
    · refine lv_aload_n hx hb dX7_append_23 rfl (lv_at hl 0 rfl) ?_
      refine x_get hx hb hts hown hK hH 85 (by decide) f85 hinX7 rfl 11 (by decide) (List.mem_of_getElem? (i := 2) rfl) rfl dX7_append_24 ?_
      refine lv_aload_n hx hb dX7_append_27 rfl (lv_at hl 0 rfl) ?_
      refine x_get hx hb hts hown hK hH 85 (by decide) f85 hinX7 rfl 12 (by decide) (List.mem_of_getElem? (i := 1) rfl) rfl dX7_append_28 ?_
      refine lv_iload_n hx hb dX7_append_31 rfl (lv_at hl 1 rfl) ?_
      refine x_iast hx hb hK hH 93 (by decide) f93 (by omega) (by omega) (by omega) dX7_append_32 (fun σ11 H locs f93 fr12 hH => ?_)
      have f85 : σ11 85 = oB 5 [.ref (xad E 86), .ref (xad E 87), .ref (xad E 88), .ref (xad E 89), .ref (xad E 90), .int (iZ (b2 sv)), .int (iZ re), .int (iZ ea), .int (iZ fa), .ref (xad E 91), .ref (xad E 92), .ref (xad E 93), .int (iZ ty), .ref (xad E 94), .int (iZ li), .int (iZ (if true = true then 0 else 1)), .int (iZ sz), .int (iZ sp), .int (iZ wr), .int (iZ to), .ref (xad E 95)] := (fr12 85 (by omega)).trans f85
      refine lv_aload_n hx hb dX7_append_33 rfl (lv_at hl 0 rfl) ?_
      refine lv_dup hx hb dX7_append_34 rfl ?_
      refine x_get hx hb hts hown hK hH 85 (by decide) f85 hinX7 rfl 12 (by decide) (List.mem_of_getElem? (i := 1) rfl) rfl dX7_append_35 ?_
      refine x_iconst hx hb dX7_append_38 ?_
      refine x_iadd hx hb dX7_append_39 ?_
      refine x_put (fs' := [.ref (xad E 86), .ref (xad E 87), .ref (xad E 88), .ref (xad E 89), .ref (xad E 90), .int (iZ (b2 sv)), .int (iZ re), .int (iZ ea), .int (iZ fa), .ref (xad E 91), .ref (xad E 92), .ref (xad E 93), .int (iZ (ty + 1)), .ref (xad E 94), .int (iZ li), .int (iZ (if true = true then 0 else 1)), .int (iZ sz), .int (iZ sp), .int (iZ wr), .int (iZ to), .ref (xad E 95)]) hx hb hts hown hK hH 85 (by decide) f85 hinX7 rfl tyX7 tyX7_ok nmX7 12 (by decide) (List.mem_of_getElem? (i := 1) rfl) rfl (ty := .int) (by decide +kernel) rfl rfl (Nat.le_of_ble_eq_true rfl) rfl dX7_append_40 (fun σ13 H locs f85 fr14 hH => ?_)
      have f93 : σ13 93 = aI E 60 (ui tf ty ch) := (fr14 93 (by omega)).trans f93
      refine lv_aload_n hx hb dX7_append_43 rfl (lv_at hl 0 rfl) ?_
      refine x_get hx hb hts hown hK hH 85 (by decide) f85 hinX7 rfl 12 (by decide) (List.mem_of_getElem? (i := 1) rfl) rfl dX7_append_44 ?_
      subst hQ
      exact x_iret hx hb hr hlocks hH (Nat.le_of_ble_eq_true rfl) (Nat.le_of_ble_eq_true rfl) ⟨(by first | (intro h; rfl) | (intro h; exact absurd h (by omega))), ⟨(f85.trans (by first | (rw [if_pos (show ty < 60 by omega), k1_0 (show ty < 60 by omega)]; rfl) | (rw [if_neg (show ¬ ty < 60 by omega), k1_1 (show ¬ ty < 60 by omega)]; rfl))), (f93.trans (congrArg (fun g => aI E 60 g) (show (ui tf ty ch) = (if ty < 60 then ui tf ty ch else tf) from (by first | rw [if_pos (by omega)] | rw [if_neg (by omega)]))))⟩, fun j hj0 hj1 => ((fr14 j (by omega)).trans ((fr12 j (by omega)).trans (fr9 j (by omega))))⟩ dX7_append_47
    · exact absurd c18 (by decide)

def rm_X7_errorPosition : Room := { frames := 2, cells := 0, slots := 0, locals := 44 }
set_option maxRecDepth 100000 in
set_option maxHeartbeats 4000000 in
theorem c_X7_errorPosition (l : Launch) (E : xE) (ST : xST) (hSF : SF ST) (σ : xW) (sv : Bool) (re : Int) (ea : Int) (fa : Int) (ty : Int) (li : Int) (th : Int) (sz : Int) (sp : Int) (wr : Int) (to : Int) (hr0 : mo E σ sv re ea fa ty li th sz sp wr to) (hea : rg ea) : CI l E ST yX7_errorPosition wsX7_errorPosition rm_X7_errorPosition [.ref (xad E 85)] σ (fun (z : Int) (u : xW) => (¬ ea = -1 → z = ea) ∧ (mo E u sv re ea fa ty li (k1 (¬ ea = -1)) sz sp wr to) ∧ ∀ j : Nat, j ≠ 85 → u j = σ j) := by
  have f85 : σ 85 = oB 5 [.ref (xad E 86), .ref (xad E 87), .ref (xad E 88), .ref (xad E 89), .ref (xad E 90), .int (iZ (b2 sv)), .int (iZ re), .int (iZ ea), .int (iZ fa), .ref (xad E 91), .ref (xad E 92), .ref (xad E 93), .int (iZ ty), .ref (xad E 94), .int (iZ li), .int (iZ th), .int (iZ sz), .int (iZ sp), .int (iZ wr), .int (iZ to), .ref (xad E 95)] := hr0
  refine CI_of (by decide) rfl (Nat.le_of_ble_eq_true rfl) ?_
  intro p e s m args below meth c Q ls G hH hl hQ
  obtain ⟨hx, hb, hml, hown, hts, hK, hST, hlocks, hr, hno⟩ := G
  have hOK := hSF.1
  have hown : s.vm.findClass RX7 = some m.cls := hown
  have hl : lv_has ls 1 [(0, .ref (xad E 85))] := hl
  have hinX7 : ∀ w ∈ u_ws RX7 TX7 21, w ∈ wsX7_errorPosition := fun w h => (List.mem_cons_of_mem _ (List.mem_append_right _ h))
  refine lv_aload_n hx hb dX7_errorPosition_0 rfl (lv_at hl 0 rfl) ?_
  refine lv_aload_n hx hb dX7_errorPosition_1 rfl (lv_at hl 0 rfl) ?_
  refine x_get hx hb hts hown hK hH 85 (by decide) f85 hinX7 rfl 7 (by decide) (List.mem_of_getElem? (i := 1) rfl) rfl dX7_errorPosition_2 ?_
  refine x_iconst hx hb dX7_errorPosition_5 ?_
  refine x_icmp_eq (tgt := 13) hx hb dX7_errorPosition_6 (by decide) (by omega) (by decide) (fun c6 => ?_) (fun c6 => ?_)
  · refine x_iconst hx hb dX7_errorPosition_13 ?_
    refine x_cVIE (As := [.int (iZ 0)]) (rest := []) hx hb hml hts hown hK hST hOK hH 85 (c_X7_goes l E ST hSF σ false sv re ea fa ty li th sz sp wr to f85 ) (cwV 1 hts gX7_errorPosition_X7_goes rfl rfl rfl (by decide +kernel) ⟨Nat.le_of_ble_eq_true rfl, Nat.le_of_ble_eq_true rfl⟩) (by decide) f85 rfl rfl hl.1 rfl (Nat.le_of_ble_eq_true rfl) dX7_errorPosition_14 ⟨Nat.le_of_ble_eq_true rfl, Nat.le_of_ble_eq_true rfl⟩ (fun z u h => h) (fun σ2 H locs hp3 hH => ?_)
    obtain ⟨f85, fr4⟩ := hp3
    refine x_if_eq (tgt := 27) hx hb dX7_errorPosition_17 (by decide) (rg_b2 _) (fun c17 => ?_) (fun c17 => ?_)
    · refine x_iconst hx hb dX7_errorPosition_27 ?_
      subst hQ
      exact x_iret hx hb hr hlocks hH (Nat.le_of_ble_eq_true rfl) (Nat.le_of_ble_eq_true rfl) ⟨(by first | (intro h; rfl) | (intro h; exact absurd h (by omega))), (f85.trans (by first | (rw [k1_0 (show ¬ ea = -1 by assumption)]; rfl) | (rw [k1_1 (show ¬ ¬ ea = -1 by omega)]; rfl))), fun j hj0 => (fr4 j (by omega))⟩ dX7_errorPosition_28
    · exact absurd c17 (by decide)
  · refine x_iconst hx hb dX7_errorPosition_9 ?_
    refine lv_goto (tgt := 14) hx hb dX7_errorPosition_10 (by decide) ?_
    refine x_cVIE (As := [.int (iZ 1)]) (rest := []) hx hb hml hts hown hK hST hOK hH 85 (c_X7_goes l E ST hSF σ true sv re ea fa ty li th sz sp wr to f85 ) (cwV 1 hts gX7_errorPosition_X7_goes rfl rfl rfl (by decide +kernel) ⟨Nat.le_of_ble_eq_true rfl, Nat.le_of_ble_eq_true rfl⟩) (by decide) f85 rfl rfl hl.1 rfl (Nat.le_of_ble_eq_true rfl) dX7_errorPosition_14 ⟨Nat.le_of_ble_eq_true rfl, Nat.le_of_ble_eq_true rfl⟩ (fun z u h => h) (fun σ7 H locs hp8 hH => ?_)
    obtain ⟨f85, fr9⟩ := hp8
    refine x_if_eq (tgt := 27) hx hb dX7_errorPosition_17 (by decide) (rg_b2 _) (fun c17 => ?_) (fun c17 => ?_)
    · exact absurd c17 (by decide)
    · refine lv_aload_n hx hb dX7_errorPosition_20 rfl (lv_at hl 0 rfl) ?_
      refine x_get hx hb hts hown hK hH 85 (by decide) f85 hinX7 rfl 7 (by decide) (List.mem_of_getElem? (i := 1) rfl) rfl dX7_errorPosition_21 ?_
      refine lv_goto (tgt := 28) hx hb dX7_errorPosition_24 (by decide) ?_
      subst hQ
      exact x_iret hx hb hr hlocks hH (Nat.le_of_ble_eq_true rfl) (Nat.le_of_ble_eq_true rfl) ⟨(by first | (intro h; rfl) | (intro h; exact absurd h (by omega))), (f85.trans (by first | (rw [k1_0 (show ¬ ea = -1 by assumption)]; rfl) | (rw [k1_1 (show ¬ ¬ ea = -1 by omega)]; rfl))), fun j hj0 => (fr9 j (by omega))⟩ dX7_errorPosition_28

def rm_X7_failedCommand : Room := { frames := 2, cells := 0, slots := 0, locals := 44 }
set_option maxRecDepth 100000 in
set_option maxHeartbeats 4000000 in
theorem c_X7_failedCommand (l : Launch) (E : xE) (ST : xST) (hSF : SF ST) (σ : xW) (sv : Bool) (re : Int) (ea : Int) (fa : Int) (ty : Int) (li : Int) (th : Int) (sz : Int) (sp : Int) (wr : Int) (to : Int) (hr0 : mo E σ sv re ea fa ty li th sz sp wr to) (hea : rg fa) : CI l E ST yX7_failedCommand wsX7_failedCommand rm_X7_failedCommand [.ref (xad E 85)] σ (fun (z : Int) (u : xW) => (¬ fa = -1 → z = fa) ∧ (mo E u sv re ea fa ty li (k1 (¬ fa = -1)) sz sp wr to) ∧ ∀ j : Nat, j ≠ 85 → u j = σ j) := by
  have f85 : σ 85 = oB 5 [.ref (xad E 86), .ref (xad E 87), .ref (xad E 88), .ref (xad E 89), .ref (xad E 90), .int (iZ (b2 sv)), .int (iZ re), .int (iZ ea), .int (iZ fa), .ref (xad E 91), .ref (xad E 92), .ref (xad E 93), .int (iZ ty), .ref (xad E 94), .int (iZ li), .int (iZ th), .int (iZ sz), .int (iZ sp), .int (iZ wr), .int (iZ to), .ref (xad E 95)] := hr0
  refine CI_of (by decide) rfl (Nat.le_of_ble_eq_true rfl) ?_
  intro p e s m args below meth c Q ls G hH hl hQ
  obtain ⟨hx, hb, hml, hown, hts, hK, hST, hlocks, hr, hno⟩ := G
  have hOK := hSF.1
  have hown : s.vm.findClass RX7 = some m.cls := hown
  have hl : lv_has ls 1 [(0, .ref (xad E 85))] := hl
  have hinX7 : ∀ w ∈ u_ws RX7 TX7 21, w ∈ wsX7_failedCommand := fun w h => (List.mem_cons_of_mem _ (List.mem_append_right _ h))
  refine lv_aload_n hx hb dX7_failedCommand_0 rfl (lv_at hl 0 rfl) ?_
  refine lv_aload_n hx hb dX7_failedCommand_1 rfl (lv_at hl 0 rfl) ?_
  refine x_get hx hb hts hown hK hH 85 (by decide) f85 hinX7 rfl 8 (by decide) (List.mem_of_getElem? (i := 1) rfl) rfl dX7_failedCommand_2 ?_
  refine x_iconst hx hb dX7_failedCommand_5 ?_
  refine x_icmp_eq (tgt := 13) hx hb dX7_failedCommand_6 (by decide) (by omega) (by decide) (fun c6 => ?_) (fun c6 => ?_)
  · refine x_iconst hx hb dX7_failedCommand_13 ?_
    refine x_cVIE (As := [.int (iZ 0)]) (rest := []) hx hb hml hts hown hK hST hOK hH 85 (c_X7_goes l E ST hSF σ false sv re ea fa ty li th sz sp wr to f85 ) (cwV 1 hts gX7_failedCommand_X7_goes rfl rfl rfl (by decide +kernel) ⟨Nat.le_of_ble_eq_true rfl, Nat.le_of_ble_eq_true rfl⟩) (by decide) f85 rfl rfl hl.1 rfl (Nat.le_of_ble_eq_true rfl) dX7_failedCommand_14 ⟨Nat.le_of_ble_eq_true rfl, Nat.le_of_ble_eq_true rfl⟩ (fun z u h => h) (fun σ2 H locs hp3 hH => ?_)
    obtain ⟨f85, fr4⟩ := hp3
    refine x_if_eq (tgt := 27) hx hb dX7_failedCommand_17 (by decide) (rg_b2 _) (fun c17 => ?_) (fun c17 => ?_)
    · refine x_iconst hx hb dX7_failedCommand_27 ?_
      subst hQ
      exact x_iret hx hb hr hlocks hH (Nat.le_of_ble_eq_true rfl) (Nat.le_of_ble_eq_true rfl) ⟨(by first | (intro h; rfl) | (intro h; exact absurd h (by omega))), (f85.trans (by first | (rw [k1_0 (show ¬ fa = -1 by assumption)]; rfl) | (rw [k1_1 (show ¬ ¬ fa = -1 by omega)]; rfl))), fun j hj0 => (fr4 j (by omega))⟩ dX7_failedCommand_28
    · exact absurd c17 (by decide)
  · refine x_iconst hx hb dX7_failedCommand_9 ?_
    refine lv_goto (tgt := 14) hx hb dX7_failedCommand_10 (by decide) ?_
    refine x_cVIE (As := [.int (iZ 1)]) (rest := []) hx hb hml hts hown hK hST hOK hH 85 (c_X7_goes l E ST hSF σ true sv re ea fa ty li th sz sp wr to f85 ) (cwV 1 hts gX7_failedCommand_X7_goes rfl rfl rfl (by decide +kernel) ⟨Nat.le_of_ble_eq_true rfl, Nat.le_of_ble_eq_true rfl⟩) (by decide) f85 rfl rfl hl.1 rfl (Nat.le_of_ble_eq_true rfl) dX7_failedCommand_14 ⟨Nat.le_of_ble_eq_true rfl, Nat.le_of_ble_eq_true rfl⟩ (fun z u h => h) (fun σ7 H locs hp8 hH => ?_)
    obtain ⟨f85, fr9⟩ := hp8
    refine x_if_eq (tgt := 27) hx hb dX7_failedCommand_17 (by decide) (rg_b2 _) (fun c17 => ?_) (fun c17 => ?_)
    · exact absurd c17 (by decide)
    · refine lv_aload_n hx hb dX7_failedCommand_20 rfl (lv_at hl 0 rfl) ?_
      refine x_get hx hb hts hown hK hH 85 (by decide) f85 hinX7 rfl 8 (by decide) (List.mem_of_getElem? (i := 1) rfl) rfl dX7_failedCommand_21 ?_
      refine lv_goto (tgt := 28) hx hb dX7_failedCommand_24 (by decide) ?_
      subst hQ
      exact x_iret hx hb hr hlocks hH (Nat.le_of_ble_eq_true rfl) (Nat.le_of_ble_eq_true rfl) ⟨(by first | (intro h; rfl) | (intro h; exact absurd h (by omega))), (f85.trans (by first | (rw [k1_0 (show ¬ fa = -1 by assumption)]; rfl) | (rw [k1_1 (show ¬ ¬ fa = -1 by omega)]; rfl))), fun j hj0 => (fr9 j (by omega))⟩ dX7_failedCommand_28
