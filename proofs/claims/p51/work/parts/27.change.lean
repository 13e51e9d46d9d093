def rm_X6_setTile : Room := { frames := 7, cells := 1, slots := 6, locals := 111 }
set_option maxRecDepth 100000 in
set_option maxHeartbeats 4000000 in
theorem c_X6_setTile (l : Launch) (E : xE) (ST : xST) (hSF : SF ST) (htr : l.stackTraces = false) (σ : xW) (r : Int) (c0 : Int) (o : Int) (hv : Bool) (se : Int) (sf : Int) (ll : Int) (nx : Int) (ct : Int) (yop : Int → Int) (ylk : Int → Int) (ykp : Int → Int) (ywc : Int → Int) (ypn : Int) (ynw : Int) (ysh : Int) (ywk : Int) (op : Int → Int) (lk : Int → Int) (kp : Int → Int) (wc : Int → Int) (pn : Int) (nw : Int) (sh : Int) (wk : Int) (xop : Int → Int) (xlk : Int → Int) (xkp : Int → Int) (xwc : Int → Int) (xpn : Int) (xnw : Int) (xsh : Int) (xwk : Int) (hr0 : mn E σ hv se sf ll) (hr1 : hi E σ nx ct) (hr2 : bd E σ (hsl nx) yop ylk ykp ywc ypn ynw ysh ywk) (hr3 : bd E σ 1 op lk kp wc pn nw sh wk) (hr4 : bd E σ 7 xop xlk xkp xwc xpn xnw xsh xwk) (hnx : 0 ≤ nx ∧ nx < 8) (hct : 0 ≤ ct ∧ ct ≤ 8) (hB : BI op lk kp wc pn nw) (hr9 : rg r) (hc9 : rg c0) (ho : rg o) (hrz : rg (setF op lk kp wc pn nw sh wk r c0 o).1) : XI l E ST yX6_setTile wsX6_setTile rm_X6_setTile [.ref (xad E 0), .int (iZ r), .int (iZ c0), .int (iZ o)] σ (fun (z : Int) (u : xW) => z = (setF op lk kp wc pn nw sh wk r c0 o).1 ∧ (∃ (op1 lk1 kp1 wc1 : Int → Int) (pn1 nw1 sh1 wk1 : Int), mn E u hv se sf ll ∧ hi E u ((nx + 1) % 8) (if 8 < (ct + 1) then 8 else (ct + 1)) ∧ bd E u (hsl nx) op lk kp wc pn nw sh wk ∧ bd E u 1 op1 lk1 kp1 wc1 pn1 nw1 sh1 wk1 ∧ bd E u 7 op lk kp wc pn nw sh wk ∧ ((op1, lk1, kp1, wc1, pn1, nw1, sh1, wk1) = (setF op lk kp wc pn nw sh wk r c0 o).2) ∧ ((setF op lk kp wc pn nw sh wk r c0 o).1 < -5 ∨ -1 < (setF op lk kp wc pn nw sh wk r c0 o).1)) ∧ ∀ j : Nat, j ≠ 73 → (j < hsl nx ∨ hsl nx + 6 ≤ j) → (j < 1 ∨ 1 + 12 ≤ j) → u j = σ j) (fun (n : String) (u : xW) => ((n = "java/lang/IndexOutOfBoundsException" ∧ (setF op lk kp wc pn nw sh wk r c0 o).1 = -1) ∨ (n = "java/lang/IllegalArgumentException" ∧ (setF op lk kp wc pn nw sh wk r c0 o).1 = -2) ∨ (n = "java/lang/IllegalStateException" ∧ (setF op lk kp wc pn nw sh wk r c0 o).1 = -3) ∨ (n = "java/lang/UnsupportedOperationException" ∧ (setF op lk kp wc pn nw sh wk r c0 o).1 = -4) ∨ (n = "java/util/NoSuchElementException" ∧ (setF op lk kp wc pn nw sh wk r c0 o).1 = -5)) ∧ (∃ (op1 lk1 kp1 wc1 : Int → Int) (pn1 nw1 sh1 wk1 : Int), mn E u hv se sf ll ∧ hi E u nx ct ∧ bd E u (hsl nx) yop ylk ykp ywc ypn ynw ysh ywk ∧ bd E u 1 op1 lk1 kp1 wc1 pn1 nw1 sh1 wk1 ∧ bd E u 7 op lk kp wc pn nw sh wk ∧ ((op1, lk1, kp1, wc1, pn1, nw1, sh1, wk1) = (setF op lk kp wc pn nw sh wk r c0 o).2)) ∧ ∀ j : Nat, (j < 1 ∨ 1 + 12 ≤ j) → u j = σ j) := by
  have f0 : σ 0 = oB 4 [.ref (xad E 1), .ref (xad E 7), .ref (xad E 13), .ref (xad E 19), .int (iZ (b2 hv)), .ref (xad E 73), .ref (xad E 75), .ref (xad E 81), .int (iZ se), .int (iZ sf), .ref (xad E 84), .int (iZ ll)] := hr0
  obtain ⟨f73, f74⟩ := hr1
  obtain ⟨fhsl_nx_0, fhsl_nx_1, fhsl_nx_2, fhsl_nx_3, fhsl_nx_4, ro2, fhsl_nx_5⟩ := hr2
  obtain ⟨f1, f2, f3, f4, f5, ro3, f6⟩ := hr3
  obtain ⟨f7, f8, f9, f10, f11, ro4, f12⟩ := hr4
  refine XI_of (by decide) rfl (Nat.le_of_ble_eq_true rfl) ?_
  intro p e s m args below meth c Q ls G hH hl hQ
  obtain ⟨hx, hb, hml, hown, hts, hK, hST, hlocks, hr, hno⟩ := G
  have hOK := hSF.1
  have hown : s.vm.findClass RX6 = some m.cls := hown
  have hl : lv_has ls 4 [(0, .ref (xad E 0)), (1, .int (iZ r)), (2, .int (iZ c0)), (3, .int (iZ o))] := hl
  have hinX6 : ∀ w ∈ u_ws RX6 TX6 12, w ∈ wsX6_setTile := fun w h => (List.mem_cons_of_mem _ (List.mem_append_left _ (List.mem_append_left _ (List.mem_append_left _ (List.mem_append_left _ (List.mem_append_left _ (List.mem_append_left _ (List.mem_append_left _ (List.mem_append_right _ h)))))))))
  have hhb := hsl_rg hnx.1 hnx.2
  refine lv_aload_n hx hb dX6_setTile_0 rfl (lv_at hl 0 rfl) ?_
  refine x_get hx hb hts hown hK hH 0 (ltw (by decide)) f0 hinX6 rfl 1 (by decide) (List.mem_of_getElem? (i := 1) rfl) rfl dX6_setTile_1 ?_
  refine lv_aload_n hx hb dX6_setTile_4 rfl (lv_at hl 0 rfl) ?_
  refine x_get hx hb hts hown hK hH 0 (ltw (by decide)) f0 hinX6 rfl 0 (by decide) (List.mem_of_getElem? (i := 2) rfl) rfl dX6_setTile_5 ?_
  refine x_cVV (As := [.ref (xad E 1)]) (rest := []) hx hb hml hts hown hK hST hOK hH 7 (c_X1_copyFrom l E ST hSF σ 7 1 xop xlk xkp xwc xpn xnw xsh xwk op lk kp wc pn nw sh wk ⟨f7, f8, f9, f10, f11, _, f12⟩ ⟨f1, f2, f3, f4, f5, _, f6⟩ (by omega) (by omega) (by omega)) (cwV 1 hts gX6_setTile_X1_copyFrom rfl rfl rfl (by decide +kernel) ⟨Nat.le_of_ble_eq_true rfl, Nat.le_of_ble_eq_true rfl⟩) (ltw (by decide)) f7 rfl rfl hl.1 rfl (Nat.le_of_ble_eq_true rfl) dX6_setTile_8 ⟨Nat.le_of_ble_eq_true rfl, Nat.le_of_ble_eq_true rfl⟩ (fun σ2 H locs hp3 hH => ?_)
  obtain ⟨⟨⟨f7, f8, f9, f10, f11, ro5, f12⟩, ⟨f1, f2, f3, f4, f5, ro6, f6⟩⟩, fr4⟩ := hp3
  have f0 : σ2 0 = oB 4 [.ref (xad E 1), .ref (xad E 7), .ref (xad E 13), .ref (xad E 19), .int (iZ (b2 hv)), .ref (xad E 73), .ref (xad E 75), .ref (xad E 81), .int (iZ se), .int (iZ sf), .ref (xad E 84), .int (iZ ll)] := (fr4 0 (by omega)).trans f0
  have f73 : σ2 73 = oB 1 [.ref (xad E 74), .int (iZ nx), .int (iZ ct)] := (fr4 73 (by omega)).trans f73
  have f74 : σ2 74 = hRow E := (fr4 74 (by omega)).trans f74
  have fhsl_nx_0 : σ2 (hsl nx) = oB 0 [.ref (xad E ((hsl nx) + 1)), .ref (xad E ((hsl nx) + 2)), .ref (xad E ((hsl nx) + 3)), .ref (xad E ((hsl nx) + 4)), .ref (xad E ((hsl nx) + 5)), .int (iZ ypn), .int (iZ ynw), .int (iZ ysh), .long (lZ ywk)] := (fr4 (hsl nx) (by omega)).trans fhsl_nx_0
  have fhsl_nx_1 : σ2 ((hsl nx) + 1) = aI E 25 yop := (fr4 ((hsl nx) + 1) (by omega)).trans fhsl_nx_1
  have fhsl_nx_2 : σ2 ((hsl nx) + 2) = aI E 25 ylk := (fr4 ((hsl nx) + 2) (by omega)).trans fhsl_nx_2
  have fhsl_nx_3 : σ2 ((hsl nx) + 3) = aI E 6 ykp := (fr4 ((hsl nx) + 3) (by omega)).trans fhsl_nx_3
  have fhsl_nx_4 : σ2 ((hsl nx) + 4) = aI E 3 ywc := (fr4 ((hsl nx) + 4) (by omega)).trans fhsl_nx_4
  have fhsl_nx_5 : σ2 ((hsl nx) + 5) = aI E 5 ro2 := (fr4 ((hsl nx) + 5) (by omega)).trans fhsl_nx_5
  refine lv_aload_n hx hb dX6_setTile_11 rfl (lv_at hl 0 rfl) ?_
  refine lv_aload_n hx hb dX6_setTile_12 rfl (lv_at hl 0 rfl) ?_
  refine x_get hx hb hts hown hK hH 0 (ltw (by decide)) f0 hinX6 rfl 0 (by decide) (List.mem_of_getElem? (i := 2) rfl) rfl dX6_setTile_13 ?_
  refine lv_iload_n hx hb dX6_setTile_16 rfl (lv_at hl 1 rfl) ?_
  refine lv_iload_n hx hb dX6_setTile_17 rfl (lv_at hl 2 rfl) ?_
  refine lv_iload_n hx hb dX6_setTile_18 rfl (lv_at hl 3 rfl) ?_
  refine x_cVIE (As := [.int (iZ r), .int (iZ c0), .int (iZ o)]) (rest := [.ref (xad E 0)]) hx hb hml hts hown hK hST hOK hH 1 (c_X1_replaceOpenings l E ST hSF σ2 1 r c0 o op lk kp wc pn nw sh wk ⟨f1, f2, f3, f4, f5, _, f6⟩ (by omega) (by omega) (by omega) (by omega) (by omega)) (cwV 3 hts gX6_setTile_X1_replaceOpenings rfl rfl rfl (by decide +kernel) ⟨Nat.le_of_ble_eq_true rfl, Nat.le_of_ble_eq_true rfl⟩) (ltw (by decide)) f1 rfl rfl hl.1 rfl (Nat.le_of_ble_eq_true rfl) dX6_setTile_19 ⟨Nat.le_of_ble_eq_true rfl, Nat.le_of_ble_eq_true rfl⟩ (fun z u h => h) (fun σ9 H locs hp10 hH => ?_)
  obtain ⟨⟨op1_12, lk1_13, kp1_14, wc1_15, pn1_16, nw1_17, sh1_18, wk1_19, ⟨f1, f2, f3, f4, f5, ro20, f6⟩, hf21⟩, fr11⟩ := hp10
  have f0 : σ9 0 = oB 4 [.ref (xad E 1), .ref (xad E 7), .ref (xad E 13), .ref (xad E 19), .int (iZ (b2 hv)), .ref (xad E 73), .ref (xad E 75), .ref (xad E 81), .int (iZ se), .int (iZ sf), .ref (xad E 84), .int (iZ ll)] := (fr11 0 (by omega)).trans f0
  have f73 : σ9 73 = oB 1 [.ref (xad E 74), .int (iZ nx), .int (iZ ct)] := (fr11 73 (by omega)).trans f73
  have f74 : σ9 74 = hRow E := (fr11 74 (by omega)).trans f74
  have fhsl_nx_0 : σ9 (hsl nx) = oB 0 [.ref (xad E ((hsl nx) + 1)), .ref (xad E ((hsl nx) + 2)), .ref (xad E ((hsl nx) + 3)), .ref (xad E ((hsl nx) + 4)), .ref (xad E ((hsl nx) + 5)), .int (iZ ypn), .int (iZ ynw), .int (iZ ysh), .long (lZ ywk)] := (fr11 (hsl nx) (by omega)).trans fhsl_nx_0
  have fhsl_nx_1 : σ9 ((hsl nx) + 1) = aI E 25 yop := (fr11 ((hsl nx) + 1) (by omega)).trans fhsl_nx_1
  have fhsl_nx_2 : σ9 ((hsl nx) + 2) = aI E 25 ylk := (fr11 ((hsl nx) + 2) (by omega)).trans fhsl_nx_2
  have fhsl_nx_3 : σ9 ((hsl nx) + 3) = aI E 6 ykp := (fr11 ((hsl nx) + 3) (by omega)).trans fhsl_nx_3
  have fhsl_nx_4 : σ9 ((hsl nx) + 4) = aI E 3 ywc := (fr11 ((hsl nx) + 4) (by omega)).trans fhsl_nx_4
  have fhsl_nx_5 : σ9 ((hsl nx) + 5) = aI E 5 ro2 := (fr11 ((hsl nx) + 5) (by omega)).trans fhsl_nx_5
  have f7 : σ9 7 = oB 0 [.ref (xad E 8), .ref (xad E 9), .ref (xad E 10), .ref (xad E 11), .ref (xad E 12), .int (iZ pn), .int (iZ nw), .int (iZ sh), .long (lZ wk)] := (fr11 7 (by omega)).trans f7
  have f8 : σ9 8 = aI E 25 op := (fr11 8 (by omega)).trans f8
  have f9 : σ9 9 = aI E 25 lk := (fr11 9 (by omega)).trans f9
  have f10 : σ9 10 = aI E 6 kp := (fr11 10 (by omega)).trans f10
  have f11 : σ9 11 = aI E 3 wc := (fr11 11 (by omega)).trans f11
  have f12 : σ9 12 = aI E 5 ro5 := (fr11 12 (by omega)).trans f12
  refine x_cXVIE (As := [.int (iZ ((setF op lk kp wc pn nw sh wk r c0 o).1))]) (rest := []) hx hb hml hts hown hK hST hOK hH 0 (c_X6_settle l E ST hSF htr σ9 ((setF op lk kp wc pn nw sh wk r c0 o).1) hv se sf ll nx ct yop ylk ykp ywc ypn ynw ysh ywk op lk kp wc pn nw sh wk f0 ⟨f73, f74⟩ ⟨fhsl_nx_0, fhsl_nx_1, fhsl_nx_2, fhsl_nx_3, fhsl_nx_4, _, fhsl_nx_5⟩ ⟨f7, f8, f9, f10, f11, _, f12⟩ (by omega) (by omega) (by omega)) (cwV 1 hts gX6_setTile_X6_settle rfl rfl rfl (by decide +kernel) ⟨Nat.le_of_ble_eq_true rfl, Nat.le_of_ble_eq_true rfl⟩) (ltw (by decide)) f0 rfl rfl hl.1 rfl (Nat.le_of_ble_eq_true rfl) dX6_setTile_22 ⟨Nat.le_of_ble_eq_true rfl, Nat.le_of_ble_eq_true rfl⟩ ?_ (fun z u h => h) (fun σ24 H locs hp25 hH => ?_)
  · intro nx ce q9 σ24 H locs hp25 hH hce hcv hcl
    subst hQ
    obtain ⟨hn, hu⟩ := hp25
    rw [hu] at hH
    exact x_out hno hlocks hH hce hcv hcl ⟨(by first | exact hn | simp_all | omega), ⟨op1_12, lk1_13, kp1_14, wc1_15, pn1_16, nw1_17, sh1_18, wk1_19, f0, ⟨f73, f74⟩, ⟨fhsl_nx_0, fhsl_nx_1, fhsl_nx_2, fhsl_nx_3, fhsl_nx_4, _, fhsl_nx_5⟩, ⟨f1, f2, f3, f4, f5, _, f6⟩, ⟨f7, f8, f9, f10, f11, _, f12⟩, (by first | assumption | omega | simp_all)⟩, fun j hj0 => ((fr11 j (by omega)).trans (fr4 j (by omega)))⟩ (Nat.le_of_ble_eq_true rfl) (Nat.le_of_ble_eq_true rfl)
  · obtain ⟨⟨f0, ⟨f73, f74⟩, ⟨fhsl_nx_0, fhsl_nx_1, fhsl_nx_2, fhsl_nx_3, fhsl_nx_4, ro27, fhsl_nx_5⟩, ⟨f7, f8, f9, f10, f11, ro28, f12⟩, hf29⟩, fr26⟩ := hp25
    have f1 : σ24 1 = oB 0 [.ref (xad E 2), .ref (xad E 3), .ref (xad E 4), .ref (xad E 5), .ref (xad E 6), .int (iZ pn1_16), .int (iZ nw1_17), .int (iZ sh1_18), .long (lZ wk1_19)] := (fr26 1 (by omega) (by omega)).trans f1
    have f2 : σ24 2 = aI E 25 op1_12 := (fr26 2 (by omega) (by omega)).trans f2
    have f3 : σ24 3 = aI E 25 lk1_13 := (fr26 3 (by omega) (by omega)).trans f3
    have f4 : σ24 4 = aI E 6 kp1_14 := (fr26 4 (by omega) (by omega)).trans f4
    have f5 : σ24 5 = aI E 3 wc1_15 := (fr26 5 (by omega) (by omega)).trans f5
    have f6 : σ24 6 = aI E 5 ro20 := (fr26 6 (by omega) (by omega)).trans f6
    subst hQ
    exact x_ireX hx hb hr hlocks hH (Nat.le_of_ble_eq_true rfl) (Nat.le_of_ble_eq_true rfl) ⟨(show ((setF op lk kp wc pn nw sh wk r c0 o).1) = ((setF op lk kp wc pn nw sh wk r c0 o).1) from (by first | rfl | omega | simp_all)), ⟨op1_12, lk1_13, kp1_14, wc1_15, pn1_16, nw1_17, sh1_18, wk1_19, f0, ⟨f73, f74⟩, ⟨fhsl_nx_0, fhsl_nx_1, fhsl_nx_2, fhsl_nx_3, fhsl_nx_4, _, fhsl_nx_5⟩, ⟨f1, f2, f3, f4, f5, _, f6⟩, ⟨f7, f8, f9, f10, f11, _, f12⟩, (by first | assumption | omega | simp_all), (by first | assumption | omega | simp_all)⟩, fun j hj0 hj1 hj2 => ((fr26 j (by omega) (by omega)).trans ((fr11 j (by omega)).trans (fr4 j (by omega))))⟩ dX6_setTile_25

def rm_X6_turnTile : Room := { frames := 7, cells := 1, slots := 6, locals := 111 }
set_option maxRecDepth 100000 in
set_option maxHeartbeats 4000000 in
theorem c_X6_turnTile (l : Launch) (E : xE) (ST : xST) (hSF : SF ST) (htr : l.stackTraces = false) (σ : xW) (r : Int) (c0 : Int) (q : Int) (hv : Bool) (se : Int) (sf : Int) (ll : Int) (nx : Int) (ct : Int) (yop : Int → Int) (ylk : Int → Int) (ykp : Int → Int) (ywc : Int → Int) (ypn : Int) (ynw : Int) (ysh : Int) (ywk : Int) (op : Int → Int) (lk : Int → Int) (kp : Int → Int) (wc : Int → Int) (pn : Int) (nw : Int) (sh : Int) (wk : Int) (xop : Int → Int) (xlk : Int → Int) (xkp : Int → Int) (xwc : Int → Int) (xpn : Int) (xnw : Int) (xsh : Int) (xwk : Int) (hr0 : mn E σ hv se sf ll) (hr1 : hi E σ nx ct) (hr2 : bd E σ (hsl nx) yop ylk ykp ywc ypn ynw ysh ywk) (hr3 : bd E σ 1 op lk kp wc pn nw sh wk) (hr4 : bd E σ 7 xop xlk xkp xwc xpn xnw xsh xwk) (hnx : 0 ≤ nx ∧ nx < 8) (hct : 0 ≤ ct ∧ ct ≤ 8) (hB : BI op lk kp wc pn nw) (hr9 : rg r) (hc9 : rg c0) (ho : rg q) (hrz : rg (turnF op lk kp wc pn nw sh wk r c0 q).1) : XI l E ST yX6_turnTile wsX6_turnTile rm_X6_turnTile [.ref (xad E 0), .int (iZ r), .int (iZ c0), .int (iZ q)] σ (fun (z : Int) (u : xW) => z = (turnF op lk kp wc pn nw sh wk r c0 q).1 ∧ (∃ (op1 lk1 kp1 wc1 : Int → Int) (pn1 nw1 sh1 wk1 : Int), mn E u hv se sf ll ∧ hi E u ((nx + 1) % 8) (if 8 < (ct + 1) then 8 else (ct + 1)) ∧ bd E u (hsl nx) op lk kp wc pn nw sh wk ∧ bd E u 1 op1 lk1 kp1 wc1 pn1 nw1 sh1 wk1 ∧ bd E u 7 op lk kp wc pn nw sh wk ∧ ((op1, lk1, kp1, wc1, pn1, nw1, sh1, wk1) = (turnF op lk kp wc pn nw sh wk r c0 q).2) ∧ ((turnF op lk kp wc pn nw sh wk r c0 q).1 < -5 ∨ -1 < (turnF op lk kp wc pn nw sh wk r c0 q).1)) ∧ ∀ j : Nat, j ≠ 73 → (j < hsl nx ∨ hsl nx + 6 ≤ j) → (j < 1 ∨ 1 + 12 ≤ j) → u j = σ j) (fun (n : String) (u : xW) => ((n = "java/lang/IndexOutOfBoundsException" ∧ (turnF op lk kp wc pn nw sh wk r c0 q).1 = -1) ∨ (n = "java/lang/IllegalArgumentException" ∧ (turnF op lk kp wc pn nw sh wk r c0 q).1 = -2) ∨ (n = "java/lang/IllegalStateException" ∧ (turnF op lk kp wc pn nw sh wk r c0 q).1 = -3) ∨ (n = "java/lang/UnsupportedOperationException" ∧ (turnF op lk kp wc pn nw sh wk r c0 q).1 = -4) ∨ (n = "java/util/NoSuchElementException" ∧ (turnF op lk kp wc pn nw sh wk r c0 q).1 = -5)) ∧ (∃ (op1 lk1 kp1 wc1 : Int → Int) (pn1 nw1 sh1 wk1 : Int), mn E u hv se sf ll ∧ hi E u nx ct ∧ bd E u (hsl nx) yop ylk ykp ywc ypn ynw ysh ywk ∧ bd E u 1 op1 lk1 kp1 wc1 pn1 nw1 sh1 wk1 ∧ bd E u 7 op lk kp wc pn nw sh wk ∧ ((op1, lk1, kp1, wc1, pn1, nw1, sh1, wk1) = (turnF op lk kp wc pn nw sh wk r c0 q).2)) ∧ ∀ j : Nat, (j < 1 ∨ 1 + 12 ≤ j) → u j = σ j) := by
  have f0 : σ 0 = oB 4 [.ref (xad E 1), .ref (xad E 7), .ref (xad E 13), .ref (xad E 19), .int (iZ (b2 hv)), .ref (xad E 73), .ref (xad E 75), .ref (xad E 81), .int (iZ se), .int (iZ sf), .ref (xad E 84), .int (iZ ll)] := hr0
  obtain ⟨f73, f74⟩ := hr1
  obtain ⟨fhsl_nx_0, fhsl_nx_1, fhsl_nx_2, fhsl_nx_3, fhsl_nx_4, ro2, fhsl_nx_5⟩ := hr2
  obtain ⟨f1, f2, f3, f4, f5, ro3, f6⟩ := hr3
  obtain ⟨f7, f8, f9, f10, f11, ro4, f12⟩ := hr4
  refine XI_of (by decide) rfl (Nat.le_of_ble_eq_true rfl) ?_
  intro p e s m args below meth c Q ls G hH hl hQ
  obtain ⟨hx, hb, hml, hown, hts, hK, hST, hlocks, hr, hno⟩ := G
  have hOK := hSF.1
  have hown : s.vm.findClass RX6 = some m.cls := hown
  have hl : lv_has ls 4 [(0, .ref (xad E 0)), (1, .int (iZ r)), (2, .int (iZ c0)), (3, .int (iZ q))] := hl
  have hinX6 : ∀ w ∈ u_ws RX6 TX6 12, w ∈ wsX6_turnTile := fun w h => (List.mem_cons_of_mem _ (List.mem_append_left _ (List.mem_append_left _ (List.mem_append_left _ (List.mem_append_left _ (List.mem_append_left _ (List.mem_append_left _ (List.mem_append_left _ (List.mem_append_right _ h)))))))))
  have hhb := hsl_rg hnx.1 hnx.2
  refine lv_aload_n hx hb dX6_turnTile_0 rfl (lv_at hl 0 rfl) ?_
  refine x_get hx hb hts hown hK hH 0 (ltw (by decide)) f0 hinX6 rfl 1 (by decide) (List.mem_of_getElem? (i := 1) rfl) rfl dX6_turnTile_1 ?_
  refine lv_aload_n hx hb dX6_turnTile_4 rfl (lv_at hl 0 rfl) ?_
  refine x_get hx hb hts hown hK hH 0 (ltw (by decide)) f0 hinX6 rfl 0 (by decide) (List.mem_of_getElem? (i := 2) rfl) rfl dX6_turnTile_5 ?_
  refine x_cVV (As := [.ref (xad E 1)]) (rest := []) hx hb hml hts hown hK hST hOK hH 7 (c_X1_copyFrom l E ST hSF σ 7 1 xop xlk xkp xwc xpn xnw xsh xwk op lk kp wc pn nw sh wk ⟨f7, f8, f9, f10, f11, _, f12⟩ ⟨f1, f2, f3, f4, f5, _, f6⟩ (by omega) (by omega) (by omega)) (cwV 1 hts gX6_turnTile_X1_copyFrom rfl rfl rfl (by decide +kernel) ⟨Nat.le_of_ble_eq_true rfl, Nat.le_of_ble_eq_true rfl⟩) (ltw (by decide)) f7 rfl rfl hl.1 rfl (Nat.le_of_ble_eq_true rfl) dX6_turnTile_8 ⟨Nat.le_of_ble_eq_true rfl, Nat.le_of_ble_eq_true rfl⟩ (fun σ2 H locs hp3 hH => ?_)
  obtain ⟨⟨⟨f7, f8, f9, f10, f11, ro5, f12⟩, ⟨f1, f2, f3, f4, f5, ro6, f6⟩⟩, fr4⟩ := hp3
  have f0 : σ2 0 = oB 4 [.ref (xad E 1), .ref (xad E 7), .ref (xad E 13), .ref (xad E 19), .int (iZ (b2 hv)), .ref (xad E 73), .ref (xad E 75), .ref (xad E 81), .int (iZ se), .int (iZ sf), .ref (xad E 84), .int (iZ ll)] := (fr4 0 (by omega)).trans f0
  have f73 : σ2 73 = oB 1 [.ref (xad E 74), .int (iZ nx), .int (iZ ct)] := (fr4 73 (by omega)).trans f73
  have f74 : σ2 74 = hRow E := (fr4 74 (by omega)).trans f74
  have fhsl_nx_0 : σ2 (hsl nx) = oB 0 [.ref (xad E ((hsl nx) + 1)), .ref (xad E ((hsl nx) + 2)), .ref (xad E ((hsl nx) + 3)), .ref (xad E ((hsl nx) + 4)), .ref (xad E ((hsl nx) + 5)), .int (iZ ypn), .int (iZ ynw), .int (iZ ysh), .long (lZ ywk)] := (fr4 (hsl nx) (by omega)).trans fhsl_nx_0
  have fhsl_nx_1 : σ2 ((hsl nx) + 1) = aI E 25 yop := (fr4 ((hsl nx) + 1) (by omega)).trans fhsl_nx_1
  have fhsl_nx_2 : σ2 ((hsl nx) + 2) = aI E 25 ylk := (fr4 ((hsl nx) + 2) (by omega)).trans fhsl_nx_2
  have fhsl_nx_3 : σ2 ((hsl nx) + 3) = aI E 6 ykp := (fr4 ((hsl nx) + 3) (by omega)).trans fhsl_nx_3
  have fhsl_nx_4 : σ2 ((hsl nx) + 4) = aI E 3 ywc := (fr4 ((hsl nx) + 4) (by omega)).trans fhsl_nx_4
  have fhsl_nx_5 : σ2 ((hsl nx) + 5) = aI E 5 ro2 := (fr4 ((hsl nx) + 5) (by omega)).trans fhsl_nx_5
  refine lv_aload_n hx hb dX6_turnTile_11 rfl (lv_at hl 0 rfl) ?_
  refine lv_aload_n hx hb dX6_turnTile_12 rfl (lv_at hl 0 rfl) ?_
  refine x_get hx hb hts hown hK hH 0 (ltw (by decide)) f0 hinX6 rfl 0 (by decide) (List.mem_of_getElem? (i := 2) rfl) rfl dX6_turnTile_13 ?_
  refine lv_iload_n hx hb dX6_turnTile_16 rfl (lv_at hl 1 rfl) ?_
  refine lv_iload_n hx hb dX6_turnTile_17 rfl (lv_at hl 2 rfl) ?_
  refine lv_iload_n hx hb dX6_turnTile_18 rfl (lv_at hl 3 rfl) ?_
  refine x_cVIE (As := [.int (iZ r), .int (iZ c0), .int (iZ q)]) (rest := [.ref (xad E 0)]) hx hb hml hts hown hK hST hOK hH 1 (c_X1_turnOpenings l E ST hSF σ2 1 r c0 q op lk kp wc pn nw sh wk ⟨f1, f2, f3, f4, f5, _, f6⟩ (by omega) (by omega) (by omega) (by omega) (by omega)) (cwV 3 hts gX6_turnTile_X1_turnOpenings rfl rfl rfl (by decide +kernel) ⟨Nat.le_of_ble_eq_true rfl, Nat.le_of_ble_eq_true rfl⟩) (ltw (by decide)) f1 rfl rfl hl.1 rfl (Nat.le_of_ble_eq_true rfl) dX6_turnTile_19 ⟨Nat.le_of_ble_eq_true rfl, Nat.le_of_ble_eq_true rfl⟩ (fun z u h => h) (fun σ9 H locs hp10 hH => ?_)
  obtain ⟨⟨op1_12, lk1_13, kp1_14, wc1_15, pn1_16, nw1_17, sh1_18, wk1_19, ⟨f1, f2, f3, f4, f5, ro20, f6⟩, hf21⟩, fr11⟩ := hp10
  have f0 : σ9 0 = oB 4 [.ref (xad E 1), .ref (xad E 7), .ref (xad E 13), .ref (xad E 19), .int (iZ (b2 hv)), .ref (xad E 73), .ref (xad E 75), .ref (xad E 81), .int (iZ se), .int (iZ sf), .ref (xad E 84), .int (iZ ll)] := (fr11 0 (by omega)).trans f0
  have f73 : σ9 73 = oB 1 [.ref (xad E 74), .int (iZ nx), .int (iZ ct)] := (fr11 73 (by omega)).trans f73
  have f74 : σ9 74 = hRow E := (fr11 74 (by omega)).trans f74
  have fhsl_nx_0 : σ9 (hsl nx) = oB 0 [.ref (xad E ((hsl nx) + 1)), .ref (xad E ((hsl nx) + 2)), .ref (xad E ((hsl nx) + 3)), .ref (xad E ((hsl nx) + 4)), .ref (xad E ((hsl nx) + 5)), .int (iZ ypn), .int (iZ ynw), .int (iZ ysh), .long (lZ ywk)] := (fr11 (hsl nx) (by omega)).trans fhsl_nx_0
  have fhsl_nx_1 : σ9 ((hsl nx) + 1) = aI E 25 yop := (fr11 ((hsl nx) + 1) (by omega)).trans fhsl_nx_1
  have fhsl_nx_2 : σ9 ((hsl nx) + 2) = aI E 25 ylk := (fr11 ((hsl nx) + 2) (by omega)).trans fhsl_nx_2
  have fhsl_nx_3 : σ9 ((hsl nx) + 3) = aI E 6 ykp := (fr11 ((hsl nx) + 3) (by omega)).trans fhsl_nx_3
  have fhsl_nx_4 : σ9 ((hsl nx) + 4) = aI E 3 ywc := (fr11 ((hsl nx) + 4) (by omega)).trans fhsl_nx_4
  have fhsl_nx_5 : σ9 ((hsl nx) + 5) = aI E 5 ro2 := (fr11 ((hsl nx) + 5) (by omega)).trans fhsl_nx_5
  have f7 : σ9 7 = oB 0 [.ref (xad E 8), .ref (xad E 9), .ref (xad E 10), .ref (xad E 11), .ref (xad E 12), .int (iZ pn), .int (iZ nw), .int (iZ sh), .long (lZ wk)] := (fr11 7 (by omega)).trans f7
  have f8 : σ9 8 = aI E 25 op := (fr11 8 (by omega)).trans f8
  have f9 : σ9 9 = aI E 25 lk := (fr11 9 (by omega)).trans f9
  have f10 : σ9 10 = aI E 6 kp := (fr11 10 (by omega)).trans f10
  have f11 : σ9 11 = aI E 3 wc := (fr11 11 (by omega)).trans f11
  have f12 : σ9 12 = aI E 5 ro5 := (fr11 12 (by omega)).trans f12
  refine x_cXVIE (As := [.int (iZ ((turnF op lk kp wc pn nw sh wk r c0 q).1))]) (rest := []) hx hb hml hts hown hK hST hOK hH 0 (c_X6_settle l E ST hSF htr σ9 ((turnF op lk kp wc pn nw sh wk r c0 q).1) hv se sf ll nx ct yop ylk ykp ywc ypn ynw ysh ywk op lk kp wc pn nw sh wk f0 ⟨f73, f74⟩ ⟨fhsl_nx_0, fhsl_nx_1, fhsl_nx_2, fhsl_nx_3, fhsl_nx_4, _, fhsl_nx_5⟩ ⟨f7, f8, f9, f10, f11, _, f12⟩ (by omega) (by omega) (by omega)) (cwV 1 hts gX6_turnTile_X6_settle rfl rfl rfl (by decide +kernel) ⟨Nat.le_of_ble_eq_true rfl, Nat.le_of_ble_eq_true rfl⟩) (ltw (by decide)) f0 rfl rfl hl.1 rfl (Nat.le_of_ble_eq_true rfl) dX6_turnTile_22 ⟨Nat.le_of_ble_eq_true rfl, Nat.le_of_ble_eq_true rfl⟩ ?_ (fun z u h => h) (fun σ24 H locs hp25 hH => ?_)
  · intro nx ce q9 σ24 H locs hp25 hH hce hcv hcl
    subst hQ
    obtain ⟨hn, hu⟩ := hp25
    rw [hu] at hH
    exact x_out hno hlocks hH hce hcv hcl ⟨(by first | exact hn | simp_all | omega), ⟨op1_12, lk1_13, kp1_14, wc1_15, pn1_16, nw1_17, sh1_18, wk1_19, f0, ⟨f73, f74⟩, ⟨fhsl_nx_0, fhsl_nx_1, fhsl_nx_2, fhsl_nx_3, fhsl_nx_4, _, fhsl_nx_5⟩, ⟨f1, f2, f3, f4, f5, _, f6⟩, ⟨f7, f8, f9, f10, f11, _, f12⟩, (by first | assumption | omega | simp_all)⟩, fun j hj0 => ((fr11 j (by omega)).trans (fr4 j (by omega)))⟩ (Nat.le_of_ble_eq_true rfl) (Nat.le_of_ble_eq_true rfl)
  · obtain ⟨⟨f0, ⟨f73, f74⟩, ⟨fhsl_nx_0, fhsl_nx_1, fhsl_nx_2, fhsl_nx_3, fhsl_nx_4, ro27, fhsl_nx_5⟩, ⟨f7, f8, f9, f10, f11, ro28, f12⟩, hf29⟩, fr26⟩ := hp25
    have f1 : σ24 1 = oB 0 [.ref (xad E 2), .ref (xad E 3), .ref (xad E 4), .ref (xad E 5), .ref (xad E 6), .int (iZ pn1_16), .int (iZ nw1_17), .int (iZ sh1_18), .long (lZ wk1_19)] := (fr26 1 (by omega) (by omega)).trans f1
    have f2 : σ24 2 = aI E 25 op1_12 := (fr26 2 (by omega) (by omega)).trans f2
    have f3 : σ24 3 = aI E 25 lk1_13 := (fr26 3 (by omega) (by omega)).trans f3
    have f4 : σ24 4 = aI E 6 kp1_14 := (fr26 4 (by omega) (by omega)).trans f4
    have f5 : σ24 5 = aI E 3 wc1_15 := (fr26 5 (by omega) (by omega)).trans f5
    have f6 : σ24 6 = aI E 5 ro20 := (fr26 6 (by omega) (by omega)).trans f6
    subst hQ
    exact x_ireX hx hb hr hlocks hH (Nat.le_of_ble_eq_true rfl) (Nat.le_of_ble_eq_true rfl) ⟨(show ((turnF op lk kp wc pn nw sh wk r c0 q).1) = ((turnF op lk kp wc pn nw sh wk r c0 q).1) from (by first | rfl | omega | simp_all)), ⟨op1_12, lk1_13, kp1_14, wc1_15, pn1_16, nw1_17, sh1_18, wk1_19, f0, ⟨f73, f74⟩, ⟨fhsl_nx_0, fhsl_nx_1, fhsl_nx_2, fhsl_nx_3, fhsl_nx_4, _, fhsl_nx_5⟩, ⟨f1, f2, f3, f4, f5, _, f6⟩, ⟨f7, f8, f9, f10, f11, _, f12⟩, (by first | assumption | omega | simp_all), (by first | assumption | omega | simp_all)⟩, fun j hj0 hj1 hj2 => ((fr26 j (by omega) (by omega)).trans ((fr11 j (by omega)).trans (fr4 j (by omega))))⟩ dX6_turnTile_25

def rm_X6_pin : Room := { frames := 7, cells := 1, slots := 6, locals := 111 }
set_option maxRecDepth 100000 in
set_option maxHeartbeats 4000000 in
theorem c_X6_pin (l : Launch) (E : xE) (ST : xST) (hSF : SF ST) (htr : l.stackTraces = false) (σ : xW) (r : Int) (c0 : Int) (hv : Bool) (se : Int) (sf : Int) (ll : Int) (nx : Int) (ct : Int) (yop : Int → Int) (ylk : Int → Int) (ykp : Int → Int) (ywc : Int → Int) (ypn : Int) (ynw : Int) (ysh : Int) (ywk : Int) (op : Int → Int) (lk : Int → Int) (kp : Int → Int) (wc : Int → Int) (pn : Int) (nw : Int) (sh : Int) (wk : Int) (xop : Int → Int) (xlk : Int → Int) (xkp : Int → Int) (xwc : Int → Int) (xpn : Int) (xnw : Int) (xsh : Int) (xwk : Int) (hr0 : mn E σ hv se sf ll) (hr1 : hi E σ nx ct) (hr2 : bd E σ (hsl nx) yop ylk ykp ywc ypn ynw ysh ywk) (hr3 : bd E σ 1 op lk kp wc pn nw sh wk) (hr4 : bd E σ 7 xop xlk xkp xwc xpn xnw xsh xwk) (hnx : 0 ≤ nx ∧ nx < 8) (hct : 0 ≤ ct ∧ ct ≤ 8) (hB : BI op lk kp wc pn nw) (hr9 : rg r) (hc9 : rg c0) (hrz : rg (fixF op lk kp wc pn nw sh wk r c0).1) : XI l E ST yX6_pin wsX6_pin rm_X6_pin [.ref (xad E 0), .int (iZ r), .int (iZ c0)] σ (fun (z : Int) (u : xW) => z = (fixF op lk kp wc pn nw sh wk r c0).1 ∧ (∃ (op1 lk1 kp1 wc1 : Int → Int) (pn1 nw1 sh1 wk1 : Int), mn E u hv se sf ll ∧ hi E u ((nx + 1) % 8) (if 8 < (ct + 1) then 8 else (ct + 1)) ∧ bd E u (hsl nx) op lk kp wc pn nw sh wk ∧ bd E u 1 op1 lk1 kp1 wc1 pn1 nw1 sh1 wk1 ∧ bd E u 7 op lk kp wc pn nw sh wk ∧ ((op1, lk1, kp1, wc1, pn1, nw1, sh1, wk1) = (fixF op lk kp wc pn nw sh wk r c0).2) ∧ ((fixF op lk kp wc pn nw sh wk r c0).1 < -5 ∨ -1 < (fixF op lk kp wc pn nw sh wk r c0).1)) ∧ ∀ j : Nat, j ≠ 73 → (j < hsl nx ∨ hsl nx + 6 ≤ j) → (j < 1 ∨ 1 + 12 ≤ j) → u j = σ j) (fun (n : String) (u : xW) => ((n = "java/lang/IndexOutOfBoundsException" ∧ (fixF op lk kp wc pn nw sh wk r c0).1 = -1) ∨ (n = "java/lang/IllegalArgumentException" ∧ (fixF op lk kp wc pn nw sh wk r c0).1 = -2) ∨ (n = "java/lang/IllegalStateException" ∧ (fixF op lk kp wc pn nw sh wk r c0).1 = -3) ∨ (n = "java/lang/UnsupportedOperationException" ∧ (fixF op lk kp wc pn nw sh wk r c0).1 = -4) ∨ (n = "java/util/NoSuchElementException" ∧ (fixF op lk kp wc pn nw sh wk r c0).1 = -5)) ∧ (∃ (op1 lk1 kp1 wc1 : Int → Int) (pn1 nw1 sh1 wk1 : Int), mn E u hv se sf ll ∧ hi E u nx ct ∧ bd E u (hsl nx) yop ylk ykp ywc ypn ynw ysh ywk ∧ bd E u 1 op1 lk1 kp1 wc1 pn1 nw1 sh1 wk1 ∧ bd E u 7 op lk kp wc pn nw sh wk ∧ ((op1, lk1, kp1, wc1, pn1, nw1, sh1, wk1) = (fixF op lk kp wc pn nw sh wk r c0).2)) ∧ ∀ j : Nat, (j < 1 ∨ 1 + 12 ≤ j) → u j = σ j) := by
  have f0 : σ 0 = oB 4 [.ref (xad E 1), .ref (xad E 7), .ref (xad E 13), .ref (xad E 19), .int (iZ (b2 hv)), .ref (xad E 73), .ref (xad E 75), .ref (xad E 81), .int (iZ se), .int (iZ sf), .ref (xad E 84), .int (iZ ll)] := hr0
  obtain ⟨f73, f74⟩ := hr1
  obtain ⟨fhsl_nx_0, fhsl_nx_1, fhsl_nx_2, fhsl_nx_3, fhsl_nx_4, ro2, fhsl_nx_5⟩ := hr2
  obtain ⟨f1, f2, f3, f4, f5, ro3, f6⟩ := hr3
  obtain ⟨f7, f8, f9, f10, f11, ro4, f12⟩ := hr4
  refine XI_of (by decide) rfl (Nat.le_of_ble_eq_true rfl) ?_
  intro p e s m args below meth c Q ls G hH hl hQ
  obtain ⟨hx, hb, hml, hown, hts, hK, hST, hlocks, hr, hno⟩ := G
  have hOK := hSF.1
  have hown : s.vm.findClass RX6 = some m.cls := hown
  have hl : lv_has ls 3 [(0, .ref (xad E 0)), (1, .int (iZ r)), (2, .int (iZ c0))] := hl
  have hinX6 : ∀ w ∈ u_ws RX6 TX6 12, w ∈ wsX6_pin := fun w h => (List.mem_cons_of_mem _ (List.mem_append_left _ (List.mem_append_left _ (List.mem_append_left _ (List.mem_append_left _ (List.mem_append_left _ (List.mem_append_left _ (List.mem_append_left _ (List.mem_append_right _ h)))))))))
  have hhb := hsl_rg hnx.1 hnx.2
  refine lv_aload_n hx hb dX6_pin_0 rfl (lv_at hl 0 rfl) ?_
  refine x_get hx hb hts hown hK hH 0 (ltw (by decide)) f0 hinX6 rfl 1 (by decide) (List.mem_of_getElem? (i := 1) rfl) rfl dX6_pin_1 ?_
  refine lv_aload_n hx hb dX6_pin_4 rfl (lv_at hl 0 rfl) ?_
  refine x_get hx hb hts hown hK hH 0 (ltw (by decide)) f0 hinX6 rfl 0 (by decide) (List.mem_of_getElem? (i := 2) rfl) rfl dX6_pin_5 ?_
  refine x_cVV (As := [.ref (xad E 1)]) (rest := []) hx hb hml hts hown hK hST hOK hH 7 (c_X1_copyFrom l E ST hSF σ 7 1 xop xlk xkp xwc xpn xnw xsh xwk op lk kp wc pn nw sh wk ⟨f7, f8, f9, f10, f11, _, f12⟩ ⟨f1, f2, f3, f4, f5, _, f6⟩ (by omega) (by omega) (by omega)) (cwV 1 hts gX6_pin_X1_copyFrom rfl rfl rfl (by decide +kernel) ⟨Nat.le_of_ble_eq_true rfl, Nat.le_of_ble_eq_true rfl⟩) (ltw (by decide)) f7 rfl rfl hl.1 rfl (Nat.le_of_ble_eq_true rfl) dX6_pin_8 ⟨Nat.le_of_ble_eq_true rfl, Nat.le_of_ble_eq_true rfl⟩ (fun σ2 H locs hp3 hH => ?_)
  obtain ⟨⟨⟨f7, f8, f9, f10, f11, ro5, f12⟩, ⟨f1, f2, f3, f4, f5, ro6, f6⟩⟩, fr4⟩ := hp3
  have f0 : σ2 0 = oB 4 [.ref (xad E 1), .ref (xad E 7), .ref (xad E 13), .ref (xad E 19), .int (iZ (b2 hv)), .ref (xad E 73), .ref (xad E 75), .ref (xad E 81), .int (iZ se), .int (iZ sf), .ref (xad E 84), .int (iZ ll)] := (fr4 0 (by omega)).trans f0
  have f73 : σ2 73 = oB 1 [.ref (xad E 74), .int (iZ nx), .int (iZ ct)] := (fr4 73 (by omega)).trans f73
  have f74 : σ2 74 = hRow E := (fr4 74 (by omega)).trans f74
  have fhsl_nx_0 : σ2 (hsl nx) = oB 0 [.ref (xad E ((hsl nx) + 1)), .ref (xad E ((hsl nx) + 2)), .ref (xad E ((hsl nx) + 3)), .ref (xad E ((hsl nx) + 4)), .ref (xad E ((hsl nx) + 5)), .int (iZ ypn), .int (iZ ynw), .int (iZ ysh), .long (lZ ywk)] := (fr4 (hsl nx) (by omega)).trans fhsl_nx_0
  have fhsl_nx_1 : σ2 ((hsl nx) + 1) = aI E 25 yop := (fr4 ((hsl nx) + 1) (by omega)).trans fhsl_nx_1
  have fhsl_nx_2 : σ2 ((hsl nx) + 2) = aI E 25 ylk := (fr4 ((hsl nx) + 2) (by omega)).trans fhsl_nx_2
  have fhsl_nx_3 : σ2 ((hsl nx) + 3) = aI E 6 ykp := (fr4 ((hsl nx) + 3) (by omega)).trans fhsl_nx_3
  have fhsl_nx_4 : σ2 ((hsl nx) + 4) = aI E 3 ywc := (fr4 ((hsl nx) + 4) (by omega)).trans fhsl_nx_4
  have fhsl_nx_5 : σ2 ((hsl nx) + 5) = aI E 5 ro2 := (fr4 ((hsl nx) + 5) (by omega)).trans fhsl_nx_5
  refine lv_aload_n hx hb dX6_pin_11 rfl (lv_at hl 0 rfl) ?_
  refine lv_aload_n hx hb dX6_pin_12 rfl (lv_at hl 0 rfl) ?_
  refine x_get hx hb hts hown hK hH 0 (ltw (by decide)) f0 hinX6 rfl 0 (by decide) (List.mem_of_getElem? (i := 2) rfl) rfl dX6_pin_13 ?_
  refine lv_iload_n hx hb dX6_pin_16 rfl (lv_at hl 1 rfl) ?_
  refine lv_iload_n hx hb dX6_pin_17 rfl (lv_at hl 2 rfl) ?_
  refine x_cVIE (As := [.int (iZ r), .int (iZ c0)]) (rest := [.ref (xad E 0)]) hx hb hml hts hown hK hST hOK hH 1 (c_X1_fixTile l E ST hSF σ2 1 r c0 op lk kp wc pn nw sh wk ⟨f1, f2, f3, f4, f5, _, f6⟩ (by omega) (by omega) (by omega) (by omega)) (cwV 2 hts gX6_pin_X1_fixTile rfl rfl rfl (by decide +kernel) ⟨Nat.le_of_ble_eq_true rfl, Nat.le_of_ble_eq_true rfl⟩) (ltw (by decide)) f1 rfl rfl hl.1 rfl (Nat.le_of_ble_eq_true rfl) dX6_pin_18 ⟨Nat.le_of_ble_eq_true rfl, Nat.le_of_ble_eq_true rfl⟩ (fun z u h => h) (fun σ9 H locs hp10 hH => ?_)
  obtain ⟨⟨op1_12, lk1_13, kp1_14, wc1_15, pn1_16, nw1_17, sh1_18, wk1_19, ⟨f1, f2, f3, f4, f5, ro20, f6⟩, hf21⟩, fr11⟩ := hp10
  have f0 : σ9 0 = oB 4 [.ref (xad E 1), .ref (xad E 7), .ref (xad E 13), .ref (xad E 19), .int (iZ (b2 hv)), .ref (xad E 73), .ref (xad E 75), .ref (xad E 81), .int (iZ se), .int (iZ sf), .ref (xad E 84), .int (iZ ll)] := (fr11 0 (by omega)).trans f0
  have f73 : σ9 73 = oB 1 [.ref (xad E 74), .int (iZ nx), .int (iZ ct)] := (fr11 73 (by omega)).trans f73
  have f74 : σ9 74 = hRow E := (fr11 74 (by omega)).trans f74
  have fhsl_nx_0 : σ9 (hsl nx) = oB 0 [.ref (xad E ((hsl nx) + 1)), .ref (xad E ((hsl nx) + 2)), .ref (xad E ((hsl nx) + 3)), .ref (xad E ((hsl nx) + 4)), .ref (xad E ((hsl nx) + 5)), .int (iZ ypn), .int (iZ ynw), .int (iZ ysh), .long (lZ ywk)] := (fr11 (hsl nx) (by omega)).trans fhsl_nx_0
  have fhsl_nx_1 : σ9 ((hsl nx) + 1) = aI E 25 yop := (fr11 ((hsl nx) + 1) (by omega)).trans fhsl_nx_1
  have fhsl_nx_2 : σ9 ((hsl nx) + 2) = aI E 25 ylk := (fr11 ((hsl nx) + 2) (by omega)).trans fhsl_nx_2
  have fhsl_nx_3 : σ9 ((hsl nx) + 3) = aI E 6 ykp := (fr11 ((hsl nx) + 3) (by omega)).trans fhsl_nx_3
  have fhsl_nx_4 : σ9 ((hsl nx) + 4) = aI E 3 ywc := (fr11 ((hsl nx) + 4) (by omega)).trans fhsl_nx_4
  have fhsl_nx_5 : σ9 ((hsl nx) + 5) = aI E 5 ro2 := (fr11 ((hsl nx) + 5) (by omega)).trans fhsl_nx_5
  have f7 : σ9 7 = oB 0 [.ref (xad E 8), .ref (xad E 9), .ref (xad E 10), .ref (xad E 11), .ref (xad E 12), .int (iZ pn), .int (iZ nw), .int (iZ sh), .long (lZ wk)] := (fr11 7 (by omega)).trans f7
  have f8 : σ9 8 = aI E 25 op := (fr11 8 (by omega)).trans f8
  have f9 : σ9 9 = aI E 25 lk := (fr11 9 (by omega)).trans f9
  have f10 : σ9 10 = aI E 6 kp := (fr11 10 (by omega)).trans f10
  have f11 : σ9 11 = aI E 3 wc := (fr11 11 (by omega)).trans f11
  have f12 : σ9 12 = aI E 5 ro5 := (fr11 12 (by omega)).trans f12
  refine x_cXVIE (As := [.int (iZ ((fixF op lk kp wc pn nw sh wk r c0).1))]) (rest := []) hx hb hml hts hown hK hST hOK hH 0 (c_X6_settle l E ST hSF htr σ9 ((fixF op lk kp wc pn nw sh wk r c0).1) hv se sf ll nx ct yop ylk ykp ywc ypn ynw ysh ywk op lk kp wc pn nw sh wk f0 ⟨f73, f74⟩ ⟨fhsl_nx_0, fhsl_nx_1, fhsl_nx_2, fhsl_nx_3, fhsl_nx_4, _, fhsl_nx_5⟩ ⟨f7, f8, f9, f10, f11, _, f12⟩ (by omega) (by omega) (by omega)) (cwV 1 hts gX6_pin_X6_settle rfl rfl rfl (by decide +kernel) ⟨Nat.le_of_ble_eq_true rfl, Nat.le_of_ble_eq_true rfl⟩) (ltw (by decide)) f0 rfl rfl hl.1 rfl (Nat.le_of_ble_eq_true rfl) dX6_pin_21 ⟨Nat.le_of_ble_eq_true rfl, Nat.le_of_ble_eq_true rfl⟩ ?_ (fun z u h => h) (fun σ24 H locs hp25 hH => ?_)
  · intro nx ce q9 σ24 H locs hp25 hH hce hcv hcl
    subst hQ
    obtain ⟨hn, hu⟩ := hp25
    rw [hu] at hH
    exact x_out hno hlocks hH hce hcv hcl ⟨(by first | exact hn | simp_all | omega), ⟨op1_12, lk1_13, kp1_14, wc1_15, pn1_16, nw1_17, sh1_18, wk1_19, f0, ⟨f73, f74⟩, ⟨fhsl_nx_0, fhsl_nx_1, fhsl_nx_2, fhsl_nx_3, fhsl_nx_4, _, fhsl_nx_5⟩, ⟨f1, f2, f3, f4, f5, _, f6⟩, ⟨f7, f8, f9, f10, f11, _, f12⟩, (by first | assumption | omega | simp_all)⟩, fun j hj0 => ((fr11 j (by omega)).trans (fr4 j (by omega)))⟩ (Nat.le_of_ble_eq_true rfl) (Nat.le_of_ble_eq_true rfl)
  · obtain ⟨⟨f0, ⟨f73, f74⟩, ⟨fhsl_nx_0, fhsl_nx_1, fhsl_nx_2, fhsl_nx_3, fhsl_nx_4, ro27, fhsl_nx_5⟩, ⟨f7, f8, f9, f10, f11, ro28, f12⟩, hf29⟩, fr26⟩ := hp25
    have f1 : σ24 1 = oB 0 [.ref (xad E 2), .ref (xad E 3), .ref (xad E 4), .ref (xad E 5), .ref (xad E 6), .int (iZ pn1_16), .int (iZ nw1_17), .int (iZ sh1_18), .long (lZ wk1_19)] := (fr26 1 (by omega) (by omega)).trans f1
    have f2 : σ24 2 = aI E 25 op1_12 := (fr26 2 (by omega) (by omega)).trans f2
    have f3 : σ24 3 = aI E 25 lk1_13 := (fr26 3 (by omega) (by omega)).trans f3
    have f4 : σ24 4 = aI E 6 kp1_14 := (fr26 4 (by omega) (by omega)).trans f4
    have f5 : σ24 5 = aI E 3 wc1_15 := (fr26 5 (by omega) (by omega)).trans f5
    have f6 : σ24 6 = aI E 5 ro20 := (fr26 6 (by omega) (by omega)).trans f6
    subst hQ
    exact x_ireX hx hb hr hlocks hH (Nat.le_of_ble_eq_true rfl) (Nat.le_of_ble_eq_true rfl) ⟨(show ((fixF op lk kp wc pn nw sh wk r c0).1) = ((fixF op lk kp wc pn nw sh wk r c0).1) from (by first | rfl | omega | simp_all)), ⟨op1_12, lk1_13, kp1_14, wc1_15, pn1_16, nw1_17, sh1_18, wk1_19, f0, ⟨f73, f74⟩, ⟨fhsl_nx_0, fhsl_nx_1, fhsl_nx_2, fhsl_nx_3, fhsl_nx_4, _, fhsl_nx_5⟩, ⟨f1, f2, f3, f4, f5, _, f6⟩, ⟨f7, f8, f9, f10, f11, _, f12⟩, (by first | assumption | omega | simp_all), (by first | assumption | omega | simp_all)⟩, fun j hj0 hj1 hj2 => ((fr26 j (by omega) (by omega)).trans ((fr11 j (by omega)).trans (fr4 j (by omega))))⟩ dX6_pin_24

def rm_X6_unpin : Room := { frames := 7, cells := 1, slots := 6, locals := 111 }
set_option maxRecDepth 100000 in
set_option maxHeartbeats 4000000 in
theorem c_X6_unpin (l : Launch) (E : xE) (ST : xST) (hSF : SF ST) (htr : l.stackTraces = false) (σ : xW) (r : Int) (c0 : Int) (hv : Bool) (se : Int) (sf : Int) (ll : Int) (nx : Int) (ct : Int) (yop : Int → Int) (ylk : Int → Int) (ykp : Int → Int) (ywc : Int → Int) (ypn : Int) (ynw : Int) (ysh : Int) (ywk : Int) (op : Int → Int) (lk : Int → Int) (kp : Int → Int) (wc : Int → Int) (pn : Int) (nw : Int) (sh : Int) (wk : Int) (xop : Int → Int) (xlk : Int → Int) (xkp : Int → Int) (xwc : Int → Int) (xpn : Int) (xnw : Int) (xsh : Int) (xwk : Int) (hr0 : mn E σ hv se sf ll) (hr1 : hi E σ nx ct) (hr2 : bd E σ (hsl nx) yop ylk ykp ywc ypn ynw ysh ywk) (hr3 : bd E σ 1 op lk kp wc pn nw sh wk) (hr4 : bd E σ 7 xop xlk xkp xwc xpn xnw xsh xwk) (hnx : 0 ≤ nx ∧ nx < 8) (hct : 0 ≤ ct ∧ ct ≤ 8) (hB : BI op lk kp wc pn nw) (hr9 : rg r) (hc9 : rg c0) (hrz : rg (freeF op lk kp wc pn nw sh wk r c0).1) : XI l E ST yX6_unpin wsX6_unpin rm_X6_unpin [.ref (xad E 0), .int (iZ r), .int (iZ c0)] σ (fun (z : Int) (u : xW) => z = (freeF op lk kp wc pn nw sh wk r c0).1 ∧ (∃ (op1 lk1 kp1 wc1 : Int → Int) (pn1 nw1 sh1 wk1 : Int), mn E u hv se sf ll ∧ hi E u ((nx + 1) % 8) (if 8 < (ct + 1) then 8 else (ct + 1)) ∧ bd E u (hsl nx) op lk kp wc pn nw sh wk ∧ bd E u 1 op1 lk1 kp1 wc1 pn1 nw1 sh1 wk1 ∧ bd E u 7 op lk kp wc pn nw sh wk ∧ ((op1, lk1, kp1, wc1, pn1, nw1, sh1, wk1) = (freeF op lk kp wc pn nw sh wk r c0).2) ∧ ((freeF op lk kp wc pn nw sh wk r c0).1 < -5 ∨ -1 < (freeF op lk kp wc pn nw sh wk r c0).1)) ∧ ∀ j : Nat, j ≠ 73 → (j < hsl nx ∨ hsl nx + 6 ≤ j) → (j < 1 ∨ 1 + 12 ≤ j) → u j = σ j) (fun (n : String) (u : xW) => ((n = "java/lang/IndexOutOfBoundsException" ∧ (freeF op lk kp wc pn nw sh wk r c0).1 = -1) ∨ (n = "java/lang/IllegalArgumentException" ∧ (freeF op lk kp wc pn nw sh wk r c0).1 = -2) ∨ (n = "java/lang/IllegalStateException" ∧ (freeF op lk kp wc pn nw sh wk r c0).1 = -3) ∨ (n = "java/lang/UnsupportedOperationException" ∧ (freeF op lk kp wc pn nw sh wk r c0).1 = -4) ∨ (n = "java/util/NoSuchElementException" ∧ (freeF op lk kp wc pn nw sh wk r c0).1 = -5)) ∧ (∃ (op1 lk1 kp1 wc1 : Int → Int) (pn1 nw1 sh1 wk1 : Int), mn E u hv se sf ll ∧ hi E u nx ct ∧ bd E u (hsl nx) yop ylk ykp ywc ypn ynw ysh ywk ∧ bd E u 1 op1 lk1 kp1 wc1 pn1 nw1 sh1 wk1 ∧ bd E u 7 op lk kp wc pn nw sh wk ∧ ((op1, lk1, kp1, wc1, pn1, nw1, sh1, wk1) = (freeF op lk kp wc pn nw sh wk r c0).2)) ∧ ∀ j : Nat, (j < 1 ∨ 1 + 12 ≤ j) → u j = σ j) := by
  have f0 : σ 0 = oB 4 [.ref (xad E 1), .ref (xad E 7), .ref (xad E 13), .ref (xad E 19), .int (iZ (b2 hv)), .ref (xad E 73), .ref (xad E 75), .ref (xad E 81), .int (iZ se), .int (iZ sf), .ref (xad E 84), .int (iZ ll)] := hr0
  obtain ⟨f73, f74⟩ := hr1
  obtain ⟨fhsl_nx_0, fhsl_nx_1, fhsl_nx_2, fhsl_nx_3, fhsl_nx_4, ro2, fhsl_nx_5⟩ := hr2
  obtain ⟨f1, f2, f3, f4, f5, ro3, f6⟩ := hr3
  obtain ⟨f7, f8, f9, f10, f11, ro4, f12⟩ := hr4
  refine XI_of (by decide) rfl (Nat.le_of_ble_eq_true rfl) ?_
  intro p e s m args below meth c Q ls G hH hl hQ
  obtain ⟨hx, hb, hml, hown, hts, hK, hST, hlocks, hr, hno⟩ := G
  have hOK := hSF.1
  have hown : s.vm.findClass RX6 = some m.cls := hown
  have hl : lv_has ls 3 [(0, .ref (xad E 0)), (1, .int (iZ r)), (2, .int (iZ c0))] := hl
  have hinX6 : ∀ w ∈ u_ws RX6 TX6 12, w ∈ wsX6_unpin := fun w h => (List.mem_cons_of_mem _ (List.mem_append_left _ (List.mem_append_left _ (List.mem_append_left _ (List.mem_append_left _ (List.mem_append_left _ (List.mem_append_left _ (List.mem_append_left _ (List.mem_append_right _ h)))))))))
  have hhb := hsl_rg hnx.1 hnx.2
  refine lv_aload_n hx hb dX6_unpin_0 rfl (lv_at hl 0 rfl) ?_
  refine x_get hx hb hts hown hK hH 0 (ltw (by decide)) f0 hinX6 rfl 1 (by decide) (List.mem_of_getElem? (i := 1) rfl) rfl dX6_unpin_1 ?_
  refine lv_aload_n hx hb dX6_unpin_4 rfl (lv_at hl 0 rfl) ?_
  refine x_get hx hb hts hown hK hH 0 (ltw (by decide)) f0 hinX6 rfl 0 (by decide) (List.mem_of_getElem? (i := 2) rfl) rfl dX6_unpin_5 ?_
  refine x_cVV (As := [.ref (xad E 1)]) (rest := []) hx hb hml hts hown hK hST hOK hH 7 (c_X1_copyFrom l E ST hSF σ 7 1 xop xlk xkp xwc xpn xnw xsh xwk op lk kp wc pn nw sh wk ⟨f7, f8, f9, f10, f11, _, f12⟩ ⟨f1, f2, f3, f4, f5, _, f6⟩ (by omega) (by omega) (by omega)) (cwV 1 hts gX6_unpin_X1_copyFrom rfl rfl rfl (by decide +kernel) ⟨Nat.le_of_ble_eq_true rfl, Nat.le_of_ble_eq_true rfl⟩) (ltw (by decide)) f7 rfl rfl hl.1 rfl (Nat.le_of_ble_eq_true rfl) dX6_unpin_8 ⟨Nat.le_of_ble_eq_true rfl, Nat.le_of_ble_eq_true rfl⟩ (fun σ2 H locs hp3 hH => ?_)
  obtain ⟨⟨⟨f7, f8, f9, f10, f11, ro5, f12⟩, ⟨f1, f2, f3, f4, f5, ro6, f6⟩⟩, fr4⟩ := hp3
  have f0 : σ2 0 = oB 4 [.ref (xad E 1), .ref (xad E 7), .ref (xad E 13), .ref (xad E 19), .int (iZ (b2 hv)), .ref (xad E 73), .ref (xad E 75), .ref (xad E 81), .int (iZ se), .int (iZ sf), .ref (xad E 84), .int (iZ ll)] := (fr4 0 (by omega)).trans f0
  have f73 : σ2 73 = oB 1 [.ref (xad E 74), .int (iZ nx), .int (iZ ct)] := (fr4 73 (by omega)).trans f73
  have f74 : σ2 74 = hRow E := (fr4 74 (by omega)).trans f74
  have fhsl_nx_0 : σ2 (hsl nx) = oB 0 [.ref (xad E ((hsl nx) + 1)), .ref (xad E ((hsl nx) + 2)), .ref (xad E ((hsl nx) + 3)), .ref (xad E ((hsl nx) + 4)), .ref (xad E ((hsl nx) + 5)), .int (iZ ypn), .int (iZ ynw), .int (iZ ysh), .long (lZ ywk)] := (fr4 (hsl nx) (by omega)).trans fhsl_nx_0
  have fhsl_nx_1 : σ2 ((hsl nx) + 1) = aI E 25 yop := (fr4 ((hsl nx) + 1) (by omega)).trans fhsl_nx_1
  have fhsl_nx_2 : σ2 ((hsl nx) + 2) = aI E 25 ylk := (fr4 ((hsl nx) + 2) (by omega)).trans fhsl_nx_2
  have fhsl_nx_3 : σ2 ((hsl nx) + 3) = aI E 6 ykp := (fr4 ((hsl nx) + 3) (by omega)).trans fhsl_nx_3
  have fhsl_nx_4 : σ2 ((hsl nx) + 4) = aI E 3 ywc := (fr4 ((hsl nx) + 4) (by omega)).trans fhsl_nx_4
  have fhsl_nx_5 : σ2 ((hsl nx) + 5) = aI E 5 ro2 := (fr4 ((hsl nx) + 5) (by omega)).trans fhsl_nx_5
  refine lv_aload_n hx hb dX6_unpin_11 rfl (lv_at hl 0 rfl) ?_
  refine lv_aload_n hx hb dX6_unpin_12 rfl (lv_at hl 0 rfl) ?_
  refine x_get hx hb hts hown hK hH 0 (ltw (by decide)) f0 hinX6 rfl 0 (by decide) (List.mem_of_getElem? (i := 2) rfl) rfl dX6_unpin_13 ?_
  refine lv_iload_n hx hb dX6_unpin_16 rfl (lv_at hl 1 rfl) ?_
  refine lv_iload_n hx hb dX6_unpin_17 rfl (lv_at hl 2 rfl) ?_
  refine x_cVIE (As := [.int (iZ r), .int (iZ c0)]) (rest := [.ref (xad E 0)]) hx hb hml hts hown hK hST hOK hH 1 (c_X1_freeTile l E ST hSF σ2 1 r c0 op lk kp wc pn nw sh wk ⟨f1, f2, f3, f4, f5, _, f6⟩ (by omega) (by omega) (by omega) (by omega)) (cwV 2 hts gX6_unpin_X1_freeTile rfl rfl rfl (by decide +kernel) ⟨Nat.le_of_ble_eq_true rfl, Nat.le_of_ble_eq_true rfl⟩) (ltw (by decide)) f1 rfl rfl hl.1 rfl (Nat.le_of_ble_eq_true rfl) dX6_unpin_18 ⟨Nat.le_of_ble_eq_true rfl, Nat.le_of_ble_eq_true rfl⟩ (fun z u h => h) (fun σ9 H locs hp10 hH => ?_)
  obtain ⟨⟨op1_12, lk1_13, kp1_14, wc1_15, pn1_16, nw1_17, sh1_18, wk1_19, ⟨f1, f2, f3, f4, f5, ro20, f6⟩, hf21⟩, fr11⟩ := hp10
  have f0 : σ9 0 = oB 4 [.ref (xad E 1), .ref (xad E 7), .ref (xad E 13), .ref (xad E 19), .int (iZ (b2 hv)), .ref (xad E 73), .ref (xad E 75), .ref (xad E 81), .int (iZ se), .int (iZ sf), .ref (xad E 84), .int (iZ ll)] := (fr11 0 (by omega)).trans f0
  have f73 : σ9 73 = oB 1 [.ref (xad E 74), .int (iZ nx), .int (iZ ct)] := (fr11 73 (by omega)).trans f73
  have f74 : σ9 74 = hRow E := (fr11 74 (by omega)).trans f74
  have fhsl_nx_0 : σ9 (hsl nx) = oB 0 [.ref (xad E ((hsl nx) + 1)), .ref (xad E ((hsl nx) + 2)), .ref (xad E ((hsl nx) + 3)), .ref (xad E ((hsl nx) + 4)), .ref (xad E ((hsl nx) + 5)), .int (iZ ypn), .int (iZ ynw), .int (iZ ysh), .long (lZ ywk)] := (fr11 (hsl nx) (by omega)).trans fhsl_nx_0
  have fhsl_nx_1 : σ9 ((hsl nx) + 1) = aI E 25 yop := (fr11 ((hsl nx) + 1) (by omega)).trans fhsl_nx_1
  have fhsl_nx_2 : σ9 ((hsl nx) + 2) = aI E 25 ylk := (fr11 ((hsl nx) + 2) (by omega)).trans fhsl_nx_2
  have fhsl_nx_3 : σ9 ((hsl nx) + 3) = aI E 6 ykp := (fr11 ((hsl nx) + 3) (by omega)).trans fhsl_nx_3
  have fhsl_nx_4 : σ9 ((hsl nx) + 4) = aI E 3 ywc := (fr11 ((hsl nx) + 4) (by omega)).trans fhsl_nx_4
  have fhsl_nx_5 : σ9 ((hsl nx) + 5) = aI E 5 ro2 := (fr11 ((hsl nx) + 5) (by omega)).trans fhsl_nx_5
  have f7 : σ9 7 = oB 0 [.ref (xad E 8), .ref (xad E 9), .ref (xad E 10), .ref (xad E 11), .ref (xad E 12), .int (iZ pn), .int (iZ nw), .int (iZ sh), .long (lZ wk)] := (fr11 7 (by omega)).trans f7
  have f8 : σ9 8 = aI E 25 op := (fr11 8 (by omega)).trans f8
  have f9 : σ9 9 = aI E 25 lk := (fr11 9 (by omega)).trans f9
  have f10 : σ9 10 = aI E 6 kp := (fr11 10 (by omega)).trans f10
  have f11 : σ9 11 = aI E 3 wc := (fr11 11 (by omega)).trans f11
  have f12 : σ9 12 = aI E 5 ro5 := (fr11 12 (by omega)).trans f12
  refine x_cXVIE (As := [.int (iZ ((freeF op lk kp wc pn nw sh wk r c0).1))]) (rest := []) hx hb hml hts hown hK hST hOK hH 0 (c_X6_settle l E ST hSF htr σ9 ((freeF op lk kp wc pn nw sh wk r c0).1) hv se sf ll nx ct yop ylk ykp ywc ypn ynw ysh ywk op lk kp wc pn nw sh wk f0 ⟨f73, f74⟩ ⟨fhsl_nx_0, fhsl_nx_1, fhsl_nx_2, fhsl_nx_3, fhsl_nx_4, _, fhsl_nx_5⟩ ⟨f7, f8, f9, f10, f11, _, f12⟩ (by omega) (by omega) (by omega)) (cwV 1 hts gX6_unpin_X6_settle rfl rfl rfl (by decide +kernel) ⟨Nat.le_of_ble_eq_true rfl, Nat.le_of_ble_eq_true rfl⟩) (ltw (by decide)) f0 rfl rfl hl.1 rfl (Nat.le_of_ble_eq_true rfl) dX6_unpin_21 ⟨Nat.le_of_ble_eq_true rfl, Nat.le_of_ble_eq_true rfl⟩ ?_ (fun z u h => h) (fun σ24 H locs hp25 hH => ?_)
  · intro nx ce q9 σ24 H locs hp25 hH hce hcv hcl
    subst hQ
    obtain ⟨hn, hu⟩ := hp25
    rw [hu] at hH
    exact x_out hno hlocks hH hce hcv hcl ⟨(by first | exact hn | simp_all | omega), ⟨op1_12, lk1_13, kp1_14, wc1_15, pn1_16, nw1_17, sh1_18, wk1_19, f0, ⟨f73, f74⟩, ⟨fhsl_nx_0, fhsl_nx_1, fhsl_nx_2, fhsl_nx_3, fhsl_nx_4, _, fhsl_nx_5⟩, ⟨f1, f2, f3, f4, f5, _, f6⟩, ⟨f7, f8, f9, f10, f11, _, f12⟩, (by first | assumption | omega | simp_all)⟩, fun j hj0 => ((fr11 j (by omega)).trans (fr4 j (by omega)))⟩ (Nat.le_of_ble_eq_true rfl) (Nat.le_of_ble_eq_true rfl)
  · obtain ⟨⟨f0, ⟨f73, f74⟩, ⟨fhsl_nx_0, fhsl_nx_1, fhsl_nx_2, fhsl_nx_3, fhsl_nx_4, ro27, fhsl_nx_5⟩, ⟨f7, f8, f9, f10, f11, ro28, f12⟩, hf29⟩, fr26⟩ := hp25
    have f1 : σ24 1 = oB 0 [.ref (xad E 2), .ref (xad E 3), .ref (xad E 4), .ref (xad E 5), .ref (xad E 6), .int (iZ pn1_16), .int (iZ nw1_17), .int (iZ sh1_18), .long (lZ wk1_19)] := (fr26 1 (by omega) (by omega)).trans f1
    have f2 : σ24 2 = aI E 25 op1_12 := (fr26 2 (by omega) (by omega)).trans f2
    have f3 : σ24 3 = aI E 25 lk1_13 := (fr26 3 (by omega) (by omega)).trans f3
    have f4 : σ24 4 = aI E 6 kp1_14 := (fr26 4 (by omega) (by omega)).trans f4
    have f5 : σ24 5 = aI E 3 wc1_15 := (fr26 5 (by omega) (by omega)).trans f5
    have f6 : σ24 6 = aI E 5 ro20 := (fr26 6 (by omega) (by omega)).trans f6
    subst hQ
    exact x_ireX hx hb hr hlocks hH (Nat.le_of_ble_eq_true rfl) (Nat.le_of_ble_eq_true rfl) ⟨(show ((freeF op lk kp wc pn nw sh wk r c0).1) = ((freeF op lk kp wc pn nw sh wk r c0).1) from (by first | rfl | omega | simp_all)), ⟨op1_12, lk1_13, kp1_14, wc1_15, pn1_16, nw1_17, sh1_18, wk1_19, f0, ⟨f73, f74⟩, ⟨fhsl_nx_0, fhsl_nx_1, fhsl_nx_2, fhsl_nx_3, fhsl_nx_4, _, fhsl_nx_5⟩, ⟨f1, f2, f3, f4, f5, _, f6⟩, ⟨f7, f8, f9, f10, f11, _, f12⟩, (by first | assumption | omega | simp_all), (by first | assumption | omega | simp_all)⟩, fun j hj0 hj1 hj2 => ((fr26 j (by omega) (by omega)).trans ((fr11 j (by omega)).trans (fr4 j (by omega))))⟩ dX6_unpin_24

def rm_X6_shiftRow : Room := { frames := 7, cells := 1, slots := 6, locals := 118 }
set_option maxRecDepth 100000 in
set_option maxHeartbeats 4000000 in
theorem c_X6_shiftRow (l : Launch) (E : xE) (ST : xST) (hSF : SF ST) (htr : l.stackTraces = false) (σ : xW) (r : Int) (sp9 : Int) (hv : Bool) (se : Int) (sf : Int) (ll : Int) (nx : Int) (ct : Int) (yop : Int → Int) (ylk : Int → Int) (ykp : Int → Int) (ywc : Int → Int) (ypn : Int) (ynw : Int) (ysh : Int) (ywk : Int) (op : Int → Int) (lk : Int → Int) (kp : Int → Int) (wc : Int → Int) (pn : Int) (nw : Int) (sh : Int) (wk : Int) (xop : Int → Int) (xlk : Int → Int) (xkp : Int → Int) (xwc : Int → Int) (xpn : Int) (xnw : Int) (xsh : Int) (xwk : Int) (hr0 : mn E σ hv se sf ll) (hr1 : hi E σ nx ct) (hr2 : bd E σ (hsl nx) yop ylk ykp ywc ypn ynw ysh ywk) (hr3 : bd E σ 1 op lk kp wc pn nw sh wk) (hr4 : bd E σ 7 xop xlk xkp xwc xpn xnw xsh xwk) (hnx : 0 ≤ nx ∧ nx < 8) (hct : 0 ≤ ct ∧ ct ≤ 8) (hB : BI op lk kp wc pn nw) (hr9 : rg r) (hst : rg sp9) (hrz : rg (rowF op lk kp wc pn nw sh wk r sp9).1) : XI l E ST yX6_shiftRow wsX6_shiftRow rm_X6_shiftRow [.ref (xad E 0), .int (iZ r), .int (iZ sp9)] σ (fun (z : Int) (u : xW) => z = (rowF op lk kp wc pn nw sh wk r sp9).1 ∧ (∃ (op1 lk1 kp1 wc1 : Int → Int) (pn1 nw1 sh1 wk1 : Int), mn E u hv se sf ll ∧ hi E u ((nx + 1) % 8) (if 8 < (ct + 1) then 8 else (ct + 1)) ∧ bd E u (hsl nx) op lk kp wc pn nw sh wk ∧ bd E u 1 op1 lk1 kp1 wc1 pn1 nw1 sh1 wk1 ∧ bd E u 7 op lk kp wc pn nw sh wk ∧ ((op1, lk1, kp1, wc1, pn1, nw1, sh1, wk1) = (rowF op lk kp wc pn nw sh wk r sp9).2) ∧ ((rowF op lk kp wc pn nw sh wk r sp9).1 < -5 ∨ -1 < (rowF op lk kp wc pn nw sh wk r sp9).1)) ∧ ∀ j : Nat, j ≠ 73 → (j < hsl nx ∨ hsl nx + 6 ≤ j) → (j < 1 ∨ 1 + 12 ≤ j) → u j = σ j) (fun (n : String) (u : xW) => ((n = "java/lang/IndexOutOfBoundsException" ∧ (rowF op lk kp wc pn nw sh wk r sp9).1 = -1) ∨ (n = "java/lang/IllegalArgumentException" ∧ (rowF op lk kp wc pn nw sh wk r sp9).1 = -2) ∨ (n = "java/lang/IllegalStateException" ∧ (rowF op lk kp wc pn nw sh wk r sp9).1 = -3) ∨ (n = "java/lang/UnsupportedOperationException" ∧ (rowF op lk kp wc pn nw sh wk r sp9).1 = -4) ∨ (n = "java/util/NoSuchElementException" ∧ (rowF op lk kp wc pn nw sh wk r sp9).1 = -5)) ∧ (∃ (op1 lk1 kp1 wc1 : Int → Int) (pn1 nw1 sh1 wk1 : Int), mn E u hv se sf ll ∧ hi E u nx ct ∧ bd E u (hsl nx) yop ylk ykp ywc ypn ynw ysh ywk ∧ bd E u 1 op1 lk1 kp1 wc1 pn1 nw1 sh1 wk1 ∧ bd E u 7 op lk kp wc pn nw sh wk ∧ ((op1, lk1, kp1, wc1, pn1, nw1, sh1, wk1) = (rowF op lk kp wc pn nw sh wk r sp9).2)) ∧ ∀ j : Nat, (j < 1 ∨ 1 + 12 ≤ j) → u j = σ j) := by
  have f0 : σ 0 = oB 4 [.ref (xad E 1), .ref (xad E 7), .ref (xad E 13), .ref (xad E 19), .int (iZ (b2 hv)), .ref (xad E 73), .ref (xad E 75), .ref (xad E 81), .int (iZ se), .int (iZ sf), .ref (xad E 84), .int (iZ ll)] := hr0
  obtain ⟨f73, f74⟩ := hr1
  obtain ⟨fhsl_nx_0, fhsl_nx_1, fhsl_nx_2, fhsl_nx_3, fhsl_nx_4, ro2, fhsl_nx_5⟩ := hr2
  obtain ⟨f1, f2, f3, f4, f5, ro3, f6⟩ := hr3
  obtain ⟨f7, f8, f9, f10, f11, ro4, f12⟩ := hr4
  refine XI_of (by decide) rfl (Nat.le_of_ble_eq_true rfl) ?_
  intro p e s m args below meth c Q ls G hH hl hQ
  obtain ⟨hx, hb, hml, hown, hts, hK, hST, hlocks, hr, hno⟩ := G
  have hOK := hSF.1
  have hown : s.vm.findClass RX6 = some m.cls := hown
  have hl : lv_has ls 3 [(0, .ref (xad E 0)), (1, .int (iZ r)), (2, .int (iZ sp9))] := hl
  have hinX6 : ∀ w ∈ u_ws RX6 TX6 12, w ∈ wsX6_shiftRow := fun w h => (List.mem_cons_of_mem _ (List.mem_append_left _ (List.mem_append_left _ (List.mem_append_left _ (List.mem_append_left _ (List.mem_append_left _ (List.mem_append_left _ (List.mem_append_left _ (List.mem_append_right _ h)))))))))
  have hhb := hsl_rg hnx.1 hnx.2
  refine lv_aload_n hx hb dX6_shiftRow_0 rfl (lv_at hl 0 rfl) ?_
  refine x_get hx hb hts hown hK hH 0 (ltw (by decide)) f0 hinX6 rfl 1 (by decide) (List.mem_of_getElem? (i := 1) rfl) rfl dX6_shiftRow_1 ?_
  refine lv_aload_n hx hb dX6_shiftRow_4 rfl (lv_at hl 0 rfl) ?_
  refine x_get hx hb hts hown hK hH 0 (ltw (by decide)) f0 hinX6 rfl 0 (by decide) (List.mem_of_getElem? (i := 2) rfl) rfl dX6_shiftRow_5 ?_
  refine x_cVV (As := [.ref (xad E 1)]) (rest := []) hx hb hml hts hown hK hST hOK hH 7 (c_X1_copyFrom l E ST hSF σ 7 1 xop xlk xkp xwc xpn xnw xsh xwk op lk kp wc pn nw sh wk ⟨f7, f8, f9, f10, f11, _, f12⟩ ⟨f1, f2, f3, f4, f5, _, f6⟩ (by omega) (by omega) (by omega)) (cwV 1 hts gX6_shiftRow_X1_copyFrom rfl rfl rfl (by decide +kernel) ⟨Nat.le_of_ble_eq_true rfl, Nat.le_of_ble_eq_true rfl⟩) (ltw (by decide)) f7 rfl rfl hl.1 rfl (Nat.le_of_ble_eq_true rfl) dX6_shiftRow_8 ⟨Nat.le_of_ble_eq_true rfl, Nat.le_of_ble_eq_true rfl⟩ (fun σ2 H locs hp3 hH => ?_)
  obtain ⟨⟨⟨f7, f8, f9, f10, f11, ro5, f12⟩, ⟨f1, f2, f3, f4, f5, ro6, f6⟩⟩, fr4⟩ := hp3
  have f0 : σ2 0 = oB 4 [.ref (xad E 1), .ref (xad E 7), .ref (xad E 13), .ref (xad E 19), .int (iZ (b2 hv)), .ref (xad E 73), .ref (xad E 75), .ref (xad E 81), .int (iZ se), .int (iZ sf), .ref (xad E 84), .int (iZ ll)] := (fr4 0 (by omega)).trans f0
  have f73 : σ2 73 = oB 1 [.ref (xad E 74), .int (iZ nx), .int (iZ ct)] := (fr4 73 (by omega)).trans f73
  have f74 : σ2 74 = hRow E := (fr4 74 (by omega)).trans f74
  have fhsl_nx_0 : σ2 (hsl nx) = oB 0 [.ref (xad E ((hsl nx) + 1)), .ref (xad E ((hsl nx) + 2)), .ref (xad E ((hsl nx) + 3)), .ref (xad E ((hsl nx) + 4)), .ref (xad E ((hsl nx) + 5)), .int (iZ ypn), .int (iZ ynw), .int (iZ ysh), .long (lZ ywk)] := (fr4 (hsl nx) (by omega)).trans fhsl_nx_0
  have fhsl_nx_1 : σ2 ((hsl nx) + 1) = aI E 25 yop := (fr4 ((hsl nx) + 1) (by omega)).trans fhsl_nx_1
  have fhsl_nx_2 : σ2 ((hsl nx) + 2) = aI E 25 ylk := (fr4 ((hsl nx) + 2) (by omega)).trans fhsl_nx_2
  have fhsl_nx_3 : σ2 ((hsl nx) + 3) = aI E 6 ykp := (fr4 ((hsl nx) + 3) (by omega)).trans fhsl_nx_3
  have fhsl_nx_4 : σ2 ((hsl nx) + 4) = aI E 3 ywc := (fr4 ((hsl nx) + 4) (by omega)).trans fhsl_nx_4
  have fhsl_nx_5 : σ2 ((hsl nx) + 5) = aI E 5 ro2 := (fr4 ((hsl nx) + 5) (by omega)).trans fhsl_nx_5
  refine lv_aload_n hx hb dX6_shiftRow_11 rfl (lv_at hl 0 rfl) ?_
  refine lv_aload_n hx hb dX6_shiftRow_12 rfl (lv_at hl 0 rfl) ?_
  refine x_get hx hb hts hown hK hH 0 (ltw (by decide)) f0 hinX6 rfl 0 (by decide) (List.mem_of_getElem? (i := 2) rfl) rfl dX6_shiftRow_13 ?_
  refine lv_iload_n hx hb dX6_shiftRow_16 rfl (lv_at hl 1 rfl) ?_
  refine lv_iload_n hx hb dX6_shiftRow_17 rfl (lv_at hl 2 rfl) ?_
  refine x_cVIE (As := [.int (iZ r), .int (iZ sp9)]) (rest := [.ref (xad E 0)]) hx hb hml hts hown hK hST hOK hH 1 (c_X1_moveRow l E ST hSF σ2 1 r sp9 op lk kp wc pn nw sh wk ⟨f1, f2, f3, f4, f5, _, f6⟩ (by omega) (by omega) (by omega) (by omega)) (cwV 2 hts gX6_shiftRow_X1_moveRow rfl rfl rfl (by decide +kernel) ⟨Nat.le_of_ble_eq_true rfl, Nat.le_of_ble_eq_true rfl⟩) (ltw (by decide)) f1 rfl rfl hl.1 rfl (Nat.le_of_ble_eq_true rfl) dX6_shiftRow_18 ⟨Nat.le_of_ble_eq_true rfl, Nat.le_of_ble_eq_true rfl⟩ (fun z u h => h) (fun σ9 H locs hp10 hH => ?_)
  obtain ⟨⟨op1_12, lk1_13, kp1_14, wc1_15, pn1_16, nw1_17, sh1_18, wk1_19, ⟨f1, f2, f3, f4, f5, ro20, f6⟩, hf21⟩, fr11⟩ := hp10
  have f0 : σ9 0 = oB 4 [.ref (xad E 1), .ref (xad E 7), .ref (xad E 13), .ref (xad E 19), .int (iZ (b2 hv)), .ref (xad E 73), .ref (xad E 75), .ref (xad E 81), .int (iZ se), .int (iZ sf), .ref (xad E 84), .int (iZ ll)] := (fr11 0 (by omega)).trans f0
  have f73 : σ9 73 = oB 1 [.ref (xad E 74), .int (iZ nx), .int (iZ ct)] := (fr11 73 (by omega)).trans f73
  have f74 : σ9 74 = hRow E := (fr11 74 (by omega)).trans f74
  have fhsl_nx_0 : σ9 (hsl nx) = oB 0 [.ref (xad E ((hsl nx) + 1)), .ref (xad E ((hsl nx) + 2)), .ref (xad E ((hsl nx) + 3)), .ref (xad E ((hsl nx) + 4)), .ref (xad E ((hsl nx) + 5)), .int (iZ ypn), .int (iZ ynw), .int (iZ ysh), .long (lZ ywk)] := (fr11 (hsl nx) (by omega)).trans fhsl_nx_0
  have fhsl_nx_1 : σ9 ((hsl nx) + 1) = aI E 25 yop := (fr11 ((hsl nx) + 1) (by omega)).trans fhsl_nx_1
  have fhsl_nx_2 : σ9 ((hsl nx) + 2) = aI E 25 ylk := (fr11 ((hsl nx) + 2) (by omega)).trans fhsl_nx_2
  have fhsl_nx_3 : σ9 ((hsl nx) + 3) = aI E 6 ykp := (fr11 ((hsl nx) + 3) (by omega)).trans fhsl_nx_3
  have fhsl_nx_4 : σ9 ((hsl nx) + 4) = aI E 3 ywc := (fr11 ((hsl nx) + 4) (by omega)).trans fhsl_nx_4
  have fhsl_nx_5 : σ9 ((hsl nx) + 5) = aI E 5 ro2 := (fr11 ((hsl nx) + 5) (by omega)).trans fhsl_nx_5
  have f7 : σ9 7 = oB 0 [.ref (xad E 8), .ref (xad E 9), .ref (xad E 10), .ref (xad E 11), .ref (xad E 12), .int (iZ pn), .int (iZ nw), .int (iZ sh), .long (lZ wk)] := (fr11 7 (by omega)).trans f7
  have f8 : σ9 8 = aI E 25 op := (fr11 8 (by omega)).trans f8
  have f9 : σ9 9 = aI E 25 lk := (fr11 9 (by omega)).trans f9
  have f10 : σ9 10 = aI E 6 kp := (fr11 10 (by omega)).trans f10
  have f11 : σ9 11 = aI E 3 wc := (fr11 11 (by omega)).trans f11
  have f12 : σ9 12 = aI E 5 ro5 := (fr11 12 (by omega)).trans f12
  refine x_cXVIE (As := [.int (iZ ((rowF op lk kp wc pn nw sh wk r sp9).1))]) (rest := []) hx hb hml hts hown hK hST hOK hH 0 (c_X6_settle l E ST hSF htr σ9 ((rowF op lk kp wc pn nw sh wk r sp9).1) hv se sf ll nx ct yop ylk ykp ywc ypn ynw ysh ywk op lk kp wc pn nw sh wk f0 ⟨f73, f74⟩ ⟨fhsl_nx_0, fhsl_nx_1, fhsl_nx_2, fhsl_nx_3, fhsl_nx_4, _, fhsl_nx_5⟩ ⟨f7, f8, f9, f10, f11, _, f12⟩ (by omega) (by omega) (by omega)) (cwV 1 hts gX6_shiftRow_X6_settle rfl rfl rfl (by decide +kernel) ⟨Nat.le_of_ble_eq_true rfl, Nat.le_of_ble_eq_true rfl⟩) (ltw (by decide)) f0 rfl rfl hl.1 rfl (Nat.le_of_ble_eq_true rfl) dX6_shiftRow_21 ⟨Nat.le_of_ble_eq_true rfl, Nat.le_of_ble_eq_true rfl⟩ ?_ (fun z u h => h) (fun σ24 H locs hp25 hH => ?_)
  · intro nx ce q9 σ24 H locs hp25 hH hce hcv hcl
    subst hQ
    obtain ⟨hn, hu⟩ := hp25
    rw [hu] at hH
    exact x_out hno hlocks hH hce hcv hcl ⟨(by first | exact hn | simp_all | omega), ⟨op1_12, lk1_13, kp1_14, wc1_15, pn1_16, nw1_17, sh1_18, wk1_19, f0, ⟨f73, f74⟩, ⟨fhsl_nx_0, fhsl_nx_1, fhsl_nx_2, fhsl_nx_3, fhsl_nx_4, _, fhsl_nx_5⟩, ⟨f1, f2, f3, f4, f5, _, f6⟩, ⟨f7, f8, f9, f10, f11, _, f12⟩, (by first | assumption | omega | simp_all)⟩, fun j hj0 => ((fr11 j (by omega)).trans (fr4 j (by omega)))⟩ (Nat.le_of_ble_eq_true rfl) (Nat.le_of_ble_eq_true rfl)
  · obtain ⟨⟨f0, ⟨f73, f74⟩, ⟨fhsl_nx_0, fhsl_nx_1, fhsl_nx_2, fhsl_nx_3, fhsl_nx_4, ro27, fhsl_nx_5⟩, ⟨f7, f8, f9, f10, f11, ro28, f12⟩, hf29⟩, fr26⟩ := hp25
    have f1 : σ24 1 = oB 0 [.ref (xad E 2), .ref (xad E 3), .ref (xad E 4), .ref (xad E 5), .ref (xad E 6), .int (iZ pn1_16), .int (iZ nw1_17), .int (iZ sh1_18), .long (lZ wk1_19)] := (fr26 1 (by omega) (by omega)).trans f1
    have f2 : σ24 2 = aI E 25 op1_12 := (fr26 2 (by omega) (by omega)).trans f2
    have f3 : σ24 3 = aI E 25 lk1_13 := (fr26 3 (by omega) (by omega)).trans f3
    have f4 : σ24 4 = aI E 6 kp1_14 := (fr26 4 (by omega) (by omega)).trans f4
    have f5 : σ24 5 = aI E 3 wc1_15 := (fr26 5 (by omega) (by omega)).trans f5
    have f6 : σ24 6 = aI E 5 ro20 := (fr26 6 (by omega) (by omega)).trans f6
    subst hQ
    exact x_ireX hx hb hr hlocks hH (Nat.le_of_ble_eq_true rfl) (Nat.le_of_ble_eq_true rfl) ⟨(show ((rowF op lk kp wc pn nw sh wk r sp9).1) = ((rowF op lk kp wc pn nw sh wk r sp9).1) from (by first | rfl | omega | simp_all)), ⟨op1_12, lk1_13, kp1_14, wc1_15, pn1_16, nw1_17, sh1_18, wk1_19, f0, ⟨f73, f74⟩, ⟨fhsl_nx_0, fhsl_nx_1, fhsl_nx_2, fhsl_nx_3, fhsl_nx_4, _, fhsl_nx_5⟩, ⟨f1, f2, f3, f4, f5, _, f6⟩, ⟨f7, f8, f9, f10, f11, _, f12⟩, (by first | assumption | omega | simp_all), (by first | assumption | omega | simp_all)⟩, fun j hj0 hj1 hj2 => ((fr26 j (by omega) (by omega)).trans ((fr11 j (by omega)).trans (fr4 j (by omega))))⟩ dX6_shiftRow_24

def rm_X6_shiftColumn : Room := { frames := 7, cells := 1, slots := 6, locals := 118 }
set_option maxRecDepth 100000 in
set_option maxHeartbeats 4000000 in
theorem c_X6_shiftColumn (l : Launch) (E : xE) (ST : xST) (hSF : SF ST) (htr : l.stackTraces = false) (σ : xW) (r : Int) (sp9 : Int) (hv : Bool) (se : Int) (sf : Int) (ll : Int) (nx : Int) (ct : Int) (yop : Int → Int) (ylk : Int → Int) (ykp : Int → Int) (ywc : Int → Int) (ypn : Int) (ynw : Int) (ysh : Int) (ywk : Int) (op : Int → Int) (lk : Int → Int) (kp : Int → Int) (wc : Int → Int) (pn : Int) (nw : Int) (sh : Int) (wk : Int) (xop : Int → Int) (xlk : Int → Int) (xkp : Int → Int) (xwc : Int → Int) (xpn : Int) (xnw : Int) (xsh : Int) (xwk : Int) (hr0 : mn E σ hv se sf ll) (hr1 : hi E σ nx ct) (hr2 : bd E σ (hsl nx) yop ylk ykp ywc ypn ynw ysh ywk) (hr3 : bd E σ 1 op lk kp wc pn nw sh wk) (hr4 : bd E σ 7 xop xlk xkp xwc xpn xnw xsh xwk) (hnx : 0 ≤ nx ∧ nx < 8) (hct : 0 ≤ ct ∧ ct ≤ 8) (hB : BI op lk kp wc pn nw) (hr9 : rg r) (hst : rg sp9) (hrz : rg (colF op lk kp wc pn nw sh wk r sp9).1) : XI l E ST yX6_shiftColumn wsX6_shiftColumn rm_X6_shiftColumn [.ref (xad E 0), .int (iZ r), .int (iZ sp9)] σ (fun (z : Int) (u : xW) => z = (colF op lk kp wc pn nw sh wk r sp9).1 ∧ (∃ (op1 lk1 kp1 wc1 : Int → Int) (pn1 nw1 sh1 wk1 : Int), mn E u hv se sf ll ∧ hi E u ((nx + 1) % 8) (if 8 < (ct + 1) then 8 else (ct + 1)) ∧ bd E u (hsl nx) op lk kp wc pn nw sh wk ∧ bd E u 1 op1 lk1 kp1 wc1 pn1 nw1 sh1 wk1 ∧ bd E u 7 op lk kp wc pn nw sh wk ∧ ((op1, lk1, kp1, wc1, pn1, nw1, sh1, wk1) = (colF op lk kp wc pn nw sh wk r sp9).2) ∧ ((colF op lk kp wc pn nw sh wk r sp9).1 < -5 ∨ -1 < (colF op lk kp wc pn nw sh wk r sp9).1)) ∧ ∀ j : Nat, j ≠ 73 → (j < hsl nx ∨ hsl nx + 6 ≤ j) → (j < 1 ∨ 1 + 12 ≤ j) → u j = σ j) (fun (n : String) (u : xW) => ((n = "java/lang/IndexOutOfBoundsException" ∧ (colF op lk kp wc pn nw sh wk r sp9).1 = -1) ∨ (n = "java/lang/IllegalArgumentException" ∧ (colF op lk kp wc pn nw sh wk r sp9).1 = -2) ∨ (n = "java/lang/IllegalStateException" ∧ (colF op lk kp wc pn nw sh wk r sp9).1 = -3) ∨ (n = "java/lang/UnsupportedOperationException" ∧ (colF op lk kp wc pn nw sh wk r sp9).1 = -4) ∨ (n = "java/util/NoSuchElementException" ∧ (colF op lk kp wc pn nw sh wk r sp9).1 = -5)) ∧ (∃ (op1 lk1 kp1 wc1 : Int → Int) (pn1 nw1 sh1 wk1 : Int), mn E u hv se sf ll ∧ hi E u nx ct ∧ bd E u (hsl nx) yop ylk ykp ywc ypn ynw ysh ywk ∧ bd E u 1 op1 lk1 kp1 wc1 pn1 nw1 sh1 wk1 ∧ bd E u 7 op lk kp wc pn nw sh wk ∧ ((op1, lk1, kp1, wc1, pn1, nw1, sh1, wk1) = (colF op lk kp wc pn nw sh wk r sp9).2)) ∧ ∀ j : Nat, (j < 1 ∨ 1 + 12 ≤ j) → u j = σ j) := by
  have f0 : σ 0 = oB 4 [.ref (xad E 1), .ref (xad E 7), .ref (xad E 13), .ref (xad E 19), .int (iZ (b2 hv)), .ref (xad E 73), .ref (xad E 75), .ref (xad E 81), .int (iZ se), .int (iZ sf), .ref (xad E 84), .int (iZ ll)] := hr0
  obtain ⟨f73, f74⟩ := hr1
  obtain ⟨fhsl_nx_0, fhsl_nx_1, fhsl_nx_2, fhsl_nx_3, fhsl_nx_4, ro2, fhsl_nx_5⟩ := hr2
  obtain ⟨f1, f2, f3, f4, f5, ro3, f6⟩ := hr3
  obtain ⟨f7, f8, f9, f10, f11, ro4, f12⟩ := hr4
  refine XI_of (by decide) rfl (Nat.le_of_ble_eq_true rfl) ?_
  intro p e s m args below meth c Q ls G hH hl hQ
  obtain ⟨hx, hb, hml, hown, hts, hK, hST, hlocks, hr, hno⟩ := G
  have hOK := hSF.1
  have hown : s.vm.findClass RX6 = some m.cls := hown
  have hl : lv_has ls 3 [(0, .ref (xad E 0)), (1, .int (iZ r)), (2, .int (iZ sp9))] := hl
  have hinX6 : ∀ w ∈ u_ws RX6 TX6 12, w ∈ wsX6_shiftColumn := fun w h => (List.mem_cons_of_mem _ (List.mem_append_left _ (List.mem_append_left _ (List.mem_append_left _ (List.mem_append_left _ (List.mem_append_left _ (List.mem_append_left _ (List.mem_append_left _ (List.mem_append_right _ h)))))))))
  have hhb := hsl_rg hnx.1 hnx.2
  refine lv_aload_n hx hb dX6_shiftColumn_0 rfl (lv_at hl 0 rfl) ?_
  refine x_get hx hb hts hown hK hH 0 (ltw (by decide)) f0 hinX6 rfl 1 (by decide) (List.mem_of_getElem? (i := 1) rfl) rfl dX6_shiftColumn_1 ?_
  refine lv_aload_n hx hb dX6_shiftColumn_4 rfl (lv_at hl 0 rfl) ?_
  refine x_get hx hb hts hown hK hH 0 (ltw (by decide)) f0 hinX6 rfl 0 (by decide) (List.mem_of_getElem? (i := 2) rfl) rfl dX6_shiftColumn_5 ?_
  refine x_cVV (As := [.ref (xad E 1)]) (rest := []) hx hb hml hts hown hK hST hOK hH 7 (c_X1_copyFrom l E ST hSF σ 7 1 xop xlk xkp xwc xpn xnw xsh xwk op lk kp wc pn nw sh wk ⟨f7, f8, f9, f10, f11, _, f12⟩ ⟨f1, f2, f3, f4, f5, _, f6⟩ (by omega) (by omega) (by omega)) (cwV 1 hts gX6_shiftColumn_X1_copyFrom rfl rfl rfl (by decide +kernel) ⟨Nat.le_of_ble_eq_true rfl, Nat.le_of_ble_eq_true rfl⟩) (ltw (by decide)) f7 rfl rfl hl.1 rfl (Nat.le_of_ble_eq_true rfl) dX6_shiftColumn_8 ⟨Nat.le_of_ble_eq_true rfl, Nat.le_of_ble_eq_true rfl⟩ (fun σ2 H locs hp3 hH => ?_)
  obtain ⟨⟨⟨f7, f8, f9, f10, f11, ro5, f12⟩, ⟨f1, f2, f3, f4, f5, ro6, f6⟩⟩, fr4⟩ := hp3
  have f0 : σ2 0 = oB 4 [.ref (xad E 1), .ref (xad E 7), .ref (xad E 13), .ref (xad E 19), .int (iZ (b2 hv)), .ref (xad E 73), .ref (xad E 75), .ref (xad E 81), .int (iZ se), .int (iZ sf), .ref (xad E 84), .int (iZ ll)] := (fr4 0 (by omega)).trans f0
  have f73 : σ2 73 = oB 1 [.ref (xad E 74), .int (iZ nx), .int (iZ ct)] := (fr4 73 (by omega)).trans f73
  have f74 : σ2 74 = hRow E := (fr4 74 (by omega)).trans f74
  have fhsl_nx_0 : σ2 (hsl nx) = oB 0 [.ref (xad E ((hsl nx) + 1)), .ref (xad E ((hsl nx) + 2)), .ref (xad E ((hsl nx) + 3)), .ref (xad E ((hsl nx) + 4)), .ref (xad E ((hsl nx) + 5)), .int (iZ ypn), .int (iZ ynw), .int (iZ ysh), .long (lZ ywk)] := (fr4 (hsl nx) (by omega)).trans fhsl_nx_0
  have fhsl_nx_1 : σ2 ((hsl nx) + 1) = aI E 25 yop := (fr4 ((hsl nx) + 1) (by omega)).trans fhsl_nx_1
  have fhsl_nx_2 : σ2 ((hsl nx) + 2) = aI E 25 ylk := (fr4 ((hsl nx) + 2) (by omega)).trans fhsl_nx_2
  have fhsl_nx_3 : σ2 ((hsl nx) + 3) = aI E 6 ykp := (fr4 ((hsl nx) + 3) (by omega)).trans fhsl_nx_3
  have fhsl_nx_4 : σ2 ((hsl nx) + 4) = aI E 3 ywc := (fr4 ((hsl nx) + 4) (by omega)).trans fhsl_nx_4
  have fhsl_nx_5 : σ2 ((hsl nx) + 5) = aI E 5 ro2 := (fr4 ((hsl nx) + 5) (by omega)).trans fhsl_nx_5
  refine lv_aload_n hx hb dX6_shiftColumn_11 rfl (lv_at hl 0 rfl) ?_
  refine lv_aload_n hx hb dX6_shiftColumn_12 rfl (lv_at hl 0 rfl) ?_
  refine x_get hx hb hts hown hK hH 0 (ltw (by decide)) f0 hinX6 rfl 0 (by decide) (List.mem_of_getElem? (i := 2) rfl) rfl dX6_shiftColumn_13 ?_
  refine lv_iload_n hx hb dX6_shiftColumn_16 rfl (lv_at hl 1 rfl) ?_
  refine lv_iload_n hx hb dX6_shiftColumn_17 rfl (lv_at hl 2 rfl) ?_
  refine x_cVIE (As := [.int (iZ r), .int (iZ sp9)]) (rest := [.ref (xad E 0)]) hx hb hml hts hown hK hST hOK hH 1 (c_X1_moveColumn l E ST hSF σ2 1 r sp9 op lk kp wc pn nw sh wk ⟨f1, f2, f3, f4, f5, _, f6⟩ (by omega) (by omega) (by omega) (by omega)) (cwV 2 hts gX6_shiftColumn_X1_moveColumn rfl rfl rfl (by decide +kernel) ⟨Nat.le_of_ble_eq_true rfl, Nat.le_of_ble_eq_true rfl⟩) (ltw (by decide)) f1 rfl rfl hl.1 rfl (Nat.le_of_ble_eq_true rfl) dX6_shiftColumn_18 ⟨Nat.le_of_ble_eq_true rfl, Nat.le_of_ble_eq_true rfl⟩ (fun z u h => h) (fun σ9 H locs hp10 hH => ?_)
  obtain ⟨⟨op1_12, lk1_13, kp1_14, wc1_15, pn1_16, nw1_17, sh1_18, wk1_19, ⟨f1, f2, f3, f4, f5, ro20, f6⟩, hf21⟩, fr11⟩ := hp10
  have f0 : σ9 0 = oB 4 [.ref (xad E 1), .ref (xad E 7), .ref (xad E 13), .ref (xad E 19), .int (iZ (b2 hv)), .ref (xad E 73), .ref (xad E 75), .ref (xad E 81), .int (iZ se), .int (iZ sf), .ref (xad E 84), .int (iZ ll)] := (fr11 0 (by omega)).trans f0
  have f73 : σ9 73 = oB 1 [.ref (xad E 74), .int (iZ nx), .int (iZ ct)] := (fr11 73 (by omega)).trans f73
  have f74 : σ9 74 = hRow E := (fr11 74 (by omega)).trans f74
  have fhsl_nx_0 : σ9 (hsl nx) = oB 0 [.ref (xad E ((hsl nx) + 1)), .ref (xad E ((hsl nx) + 2)), .ref (xad E ((hsl nx) + 3)), .ref (xad E ((hsl nx) + 4)), .ref (xad E ((hsl nx) + 5)), .int (iZ ypn), .int (iZ ynw), .int (iZ ysh), .long (lZ ywk)] := (fr11 (hsl nx) (by omega)).trans fhsl_nx_0
  have fhsl_nx_1 : σ9 ((hsl nx) + 1) = aI E 25 yop := (fr11 ((hsl nx) + 1) (by omega)).trans fhsl_nx_1
  have fhsl_nx_2 : σ9 ((hsl nx) + 2) = aI E 25 ylk := (fr11 ((hsl nx) + 2) (by omega)).trans fhsl_nx_2
  have fhsl_nx_3 : σ9 ((hsl nx) + 3) = aI E 6 ykp := (fr11 ((hsl nx) + 3) (by omega)).trans fhsl_nx_3
  have fhsl_nx_4 : σ9 ((hsl nx) + 4) = aI E 3 ywc := (fr11 ((hsl nx) + 4) (by omega)).trans fhsl_nx_4
  have fhsl_nx_5 : σ9 ((hsl nx) + 5) = aI E 5 ro2 := (fr11 ((hsl nx) + 5) (by omega)).trans fhsl_nx_5
  have f7 : σ9 7 = oB 0 [.ref (xad E 8), .ref (xad E 9), .ref (xad E 10), .ref (xad E 11), .ref (xad E 12), .int (iZ pn), .int (iZ nw), .int (iZ sh), .long (lZ wk)] := (fr11 7 (by omega)).trans f7
  have f8 : σ9 8 = aI E 25 op := (fr11 8 (by omega)).trans f8
  have f9 : σ9 9 = aI E 25 lk := (fr11 9 (by omega)).trans f9
  have f10 : σ9 10 = aI E 6 kp := (fr11 10 (by omega)).trans f10
  have f11 : σ9 11 = aI E 3 wc := (fr11 11 (by omega)).trans f11
  have f12 : σ9 12 = aI E 5 ro5 := (fr11 12 (by omega)).trans f12
  refine x_cXVIE (As := [.int (iZ ((colF op lk kp wc pn nw sh wk r sp9).1))]) (rest := []) hx hb hml hts hown hK hST hOK hH 0 (c_X6_settle l E ST hSF htr σ9 ((colF op lk kp wc pn nw sh wk r sp9).1) hv se sf ll nx ct yop ylk ykp ywc ypn ynw ysh ywk op lk kp wc pn nw sh wk f0 ⟨f73, f74⟩ ⟨fhsl_nx_0, fhsl_nx_1, fhsl_nx_2, fhsl_nx_3, fhsl_nx_4, _, fhsl_nx_5⟩ ⟨f7, f8, f9, f10, f11, _, f12⟩ (by omega) (by omega) (by omega)) (cwV 1 hts gX6_shiftColumn_X6_settle rfl rfl rfl (by decide +kernel) ⟨Nat.le_of_ble_eq_true rfl, Nat.le_of_ble_eq_true rfl⟩) (ltw (by decide)) f0 rfl rfl hl.1 rfl (Nat.le_of_ble_eq_true rfl) dX6_shiftColumn_21 ⟨Nat.le_of_ble_eq_true rfl, Nat.le_of_ble_eq_true rfl⟩ ?_ (fun z u h => h) (fun σ24 H locs hp25 hH => ?_)
  · intro nx ce q9 σ24 H locs hp25 hH hce hcv hcl
    subst hQ
    obtain ⟨hn, hu⟩ := hp25
    rw [hu] at hH
    exact x_out hno hlocks hH hce hcv hcl ⟨(by first | exact hn | simp_all | omega), ⟨op1_12, lk1_13, kp1_14, wc1_15, pn1_16, nw1_17, sh1_18, wk1_19, f0, ⟨f73, f74⟩, ⟨fhsl_nx_0, fhsl_nx_1, fhsl_nx_2, fhsl_nx_3, fhsl_nx_4, _, fhsl_nx_5⟩, ⟨f1, f2, f3, f4, f5, _, f6⟩, ⟨f7, f8, f9, f10, f11, _, f12⟩, (by first | assumption | omega | simp_all)⟩, fun j hj0 => ((fr11 j (by omega)).trans (fr4 j (by omega)))⟩ (Nat.le_of_ble_eq_true rfl) (Nat.le_of_ble_eq_true rfl)
  · obtain ⟨⟨f0, ⟨f73, f74⟩, ⟨fhsl_nx_0, fhsl_nx_1, fhsl_nx_2, fhsl_nx_3, fhsl_nx_4, ro27, fhsl_nx_5⟩, ⟨f7, f8, f9, f10, f11, ro28, f12⟩, hf29⟩, fr26⟩ := hp25
    have f1 : σ24 1 = oB 0 [.ref (xad E 2), .ref (xad E 3), .ref (xad E 4), .ref (xad E 5), .ref (xad E 6), .int (iZ pn1_16), .int (iZ nw1_17), .int (iZ sh1_18), .long (lZ wk1_19)] := (fr26 1 (by omega) (by omega)).trans f1
    have f2 : σ24 2 = aI E 25 op1_12 := (fr26 2 (by omega) (by omega)).trans f2
    have f3 : σ24 3 = aI E 25 lk1_13 := (fr26 3 (by omega) (by omega)).trans f3
    have f4 : σ24 4 = aI E 6 kp1_14 := (fr26 4 (by omega) (by omega)).trans f4
    have f5 : σ24 5 = aI E 3 wc1_15 := (fr26 5 (by omega) (by omega)).trans f5
    have f6 : σ24 6 = aI E 5 ro20 := (fr26 6 (by omega) (by omega)).trans f6
    subst hQ
    exact x_ireX hx hb hr hlocks hH (Nat.le_of_ble_eq_true rfl) (Nat.le_of_ble_eq_true rfl) ⟨(show ((colF op lk kp wc pn nw sh wk r sp9).1) = ((colF op lk kp wc pn nw sh wk r sp9).1) from (by first | rfl | omega | simp_all)), ⟨op1_12, lk1_13, kp1_14, wc1_15, pn1_16, nw1_17, sh1_18, wk1_19, f0, ⟨f73, f74⟩, ⟨fhsl_nx_0, fhsl_nx_1, fhsl_nx_2, fhsl_nx_3, fhsl_nx_4, _, fhsl_nx_5⟩, ⟨f1, f2, f3, f4, f5, _, f6⟩, ⟨f7, f8, f9, f10, f11, _, f12⟩, (by first | assumption | omega | simp_all), (by first | assumption | omega | simp_all)⟩, fun j hj0 hj1 hj2 => ((fr26 j (by omega) (by omega)).trans ((fr11 j (by omega)).trans (fr4 j (by omega))))⟩ dX6_shiftColumn_24

def rm_X6_placeKey : Room := { frames := 7, cells := 1, slots := 6, locals := 111 }
set_option maxRecDepth 100000 in
set_option maxHeartbeats 4000000 in
theorem c_X6_placeKey (l : Launch) (E : xE) (ST : xST) (hSF : SF ST) (htr : l.stackTraces = false) (σ : xW) (k : Int) (r : Int) (c0 : Int) (hv : Bool) (se : Int) (sf : Int) (ll : Int) (nx : Int) (ct : Int) (yop : Int → Int) (ylk : Int → Int) (ykp : Int → Int) (ywc : Int → Int) (ypn : Int) (ynw : Int) (ysh : Int) (ywk : Int) (op : Int → Int) (lk : Int → Int) (kp : Int → Int) (wc : Int → Int) (pn : Int) (nw : Int) (sh : Int) (wk : Int) (xop : Int → Int) (xlk : Int → Int) (xkp : Int → Int) (xwc : Int → Int) (xpn : Int) (xnw : Int) (xsh : Int) (xwk : Int) (hr0 : mn E σ hv se sf ll) (hr1 : hi E σ nx ct) (hr2 : bd E σ (hsl nx) yop ylk ykp ywc ypn ynw ysh ywk) (hr3 : bd E σ 1 op lk kp wc pn nw sh wk) (hr4 : bd E σ 7 xop xlk xkp xwc xpn xnw xsh xwk) (hnx : 0 ≤ nx ∧ nx < 8) (hct : 0 ≤ ct ∧ ct ≤ 8) (hB : BI op lk kp wc pn nw) (hr9 : rg r) (hc9 : rg c0) (hk9 : rg k) (hrz : rg (layF op lk kp wc pn nw sh wk k r c0).1) : XI l E ST yX6_placeKey wsX6_placeKey rm_X6_placeKey [.ref (xad E 0), .int (iZ k), .int (iZ r), .int (iZ c0)] σ (fun (z : Int) (u : xW) => z = (layF op lk kp wc pn nw sh wk k r c0).1 ∧ (∃ (op1 lk1 kp1 wc1 : Int → Int) (pn1 nw1 sh1 wk1 : Int), mn E u hv se sf ll ∧ hi E u ((nx + 1) % 8) (if 8 < (ct + 1) then 8 else (ct + 1)) ∧ bd E u (hsl nx) op lk kp wc pn nw sh wk ∧ bd E u 1 op1 lk1 kp1 wc1 pn1 nw1 sh1 wk1 ∧ bd E u 7 op lk kp wc pn nw sh wk ∧ ((op1, lk1, kp1, wc1, pn1, nw1, sh1, wk1) = (layF op lk kp wc pn nw sh wk k r c0).2) ∧ ((layF op lk kp wc pn nw sh wk k r c0).1 < -5 ∨ -1 < (layF op lk kp wc pn nw sh wk k r c0).1)) ∧ ∀ j : Nat, j ≠ 73 → (j < hsl nx ∨ hsl nx + 6 ≤ j) → (j < 1 ∨ 1 + 12 ≤ j) → u j = σ j) (fun (n : String) (u : xW) => ((n = "java/lang/IndexOutOfBoundsException" ∧ (layF op lk kp wc pn nw sh wk k r c0).1 = -1) ∨ (n = "java/lang/IllegalArgumentException" ∧ (layF op lk kp wc pn nw sh wk k r c0).1 = -2) ∨ (n = "java/lang/IllegalStateException" ∧ (layF op lk kp wc pn nw sh wk k r c0).1 = -3) ∨ (n = "java/lang/UnsupportedOperationException" ∧ (layF op lk kp wc pn nw sh wk k r c0).1 = -4) ∨ (n = "java/util/NoSuchElementException" ∧ (layF op lk kp wc pn nw sh wk k r c0).1 = -5)) ∧ (∃ (op1 lk1 kp1 wc1 : Int → Int) (pn1 nw1 sh1 wk1 : Int), mn E u hv se sf ll ∧ hi E u nx ct ∧ bd E u (hsl nx) yop ylk ykp ywc ypn ynw ysh ywk ∧ bd E u 1 op1 lk1 kp1 wc1 pn1 nw1 sh1 wk1 ∧ bd E u 7 op lk kp wc pn nw sh wk ∧ ((op1, lk1, kp1, wc1, pn1, nw1, sh1, wk1) = (layF op lk kp wc pn nw sh wk k r c0).2)) ∧ ∀ j : Nat, (j < 1 ∨ 1 + 12 ≤ j) → u j = σ j) := by
  have f0 : σ 0 = oB 4 [.ref (xad E 1), .ref (xad E 7), .ref (xad E 13), .ref (xad E 19), .int (iZ (b2 hv)), .ref (xad E 73), .ref (xad E 75), .ref (xad E 81), .int (iZ se), .int (iZ sf), .ref (xad E 84), .int (iZ ll)] := hr0
  obtain ⟨f73, f74⟩ := hr1
  obtain ⟨fhsl_nx_0, fhsl_nx_1, fhsl_nx_2, fhsl_nx_3, fhsl_nx_4, ro2, fhsl_nx_5⟩ := hr2
  obtain ⟨f1, f2, f3, f4, f5, ro3, f6⟩ := hr3
  obtain ⟨f7, f8, f9, f10, f11, ro4, f12⟩ := hr4
  refine XI_of (by decide) rfl (Nat.le_of_ble_eq_true rfl) ?_
  intro p e s m args below meth c Q ls G hH hl hQ
  obtain ⟨hx, hb, hml, hown, hts, hK, hST, hlocks, hr, hno⟩ := G
  have hOK := hSF.1
  have hown : s.vm.findClass RX6 = some m.cls := hown
  have hl : lv_has ls 4 [(0, .ref (xad E 0)), (1, .int (iZ k)), (2, .int (iZ r)), (3, .int (iZ c0))] := hl
  have hinX6 : ∀ w ∈ u_ws RX6 TX6 12, w ∈ wsX6_placeKey := fun w h => (List.mem_cons_of_mem _ (List.mem_append_left _ (List.mem_append_left _ (List.mem_append_left _ (List.mem_append_left _ (List.mem_append_left _ (List.mem_append_left _ (List.mem_append_left _ (List.mem_append_right _ h)))))))))
  have hhb := hsl_rg hnx.1 hnx.2
  refine lv_aload_n hx hb dX6_placeKey_0 rfl (lv_at hl 0 rfl) ?_
  refine x_get hx hb hts hown hK hH 0 (ltw (by decide)) f0 hinX6 rfl 1 (by decide) (List.mem_of_getElem? (i := 1) rfl) rfl dX6_placeKey_1 ?_
  refine lv_aload_n hx hb dX6_placeKey_4 rfl (lv_at hl 0 rfl) ?_
  refine x_get hx hb hts hown hK hH 0 (ltw (by decide)) f0 hinX6 rfl 0 (by decide) (List.mem_of_getElem? (i := 2) rfl) rfl dX6_placeKey_5 ?_
  refine x_cVV (As := [.ref (xad E 1)]) (rest := []) hx hb hml hts hown hK hST hOK hH 7 (c_X1_copyFrom l E ST hSF σ 7 1 xop xlk xkp xwc xpn xnw xsh xwk op lk kp wc pn nw sh wk ⟨f7, f8, f9, f10, f11, _, f12⟩ ⟨f1, f2, f3, f4, f5, _, f6⟩ (by omega) (by omega) (by omega)) (cwV 1 hts gX6_placeKey_X1_copyFrom rfl rfl rfl (by decide +kernel) ⟨Nat.le_of_ble_eq_true rfl, Nat.le_of_ble_eq_true rfl⟩) (ltw (by decide)) f7 rfl rfl hl.1 rfl (Nat.le_of_ble_eq_true rfl) dX6_placeKey_8 ⟨Nat.le_of_ble_eq_true rfl, Nat.le_of_ble_eq_true rfl⟩ (fun σ2 H locs hp3 hH => ?_)
  obtain ⟨⟨⟨f7, f8, f9, f10, f11, ro5, f12⟩, ⟨f1, f2, f3, f4, f5, ro6, f6⟩⟩, fr4⟩ := hp3
  have f0 : σ2 0 = oB 4 [.ref (xad E 1), .ref (xad E 7), .ref (xad E 13), .ref (xad E 19), .int (iZ (b2 hv)), .ref (xad E 73), .ref (xad E 75), .ref (xad E 81), .int (iZ se), .int (iZ sf), .ref (xad E 84), .int (iZ ll)] := (fr4 0 (by omega)).trans f0
  have f73 : σ2 73 = oB 1 [.ref (xad E 74), .int (iZ nx), .int (iZ ct)] := (fr4 73 (by omega)).trans f73
  have f74 : σ2 74 = hRow E := (fr4 74 (by omega)).trans f74
  have fhsl_nx_0 : σ2 (hsl nx) = oB 0 [.ref (xad E ((hsl nx) + 1)), .ref (xad E ((hsl nx) + 2)), .ref (xad E ((hsl nx) + 3)), .ref (xad E ((hsl nx) + 4)), .ref (xad E ((hsl nx) + 5)), .int (iZ ypn), .int (iZ ynw), .int (iZ ysh), .long (lZ ywk)] := (fr4 (hsl nx) (by omega)).trans fhsl_nx_0
  have fhsl_nx_1 : σ2 ((hsl nx) + 1) = aI E 25 yop := (fr4 ((hsl nx) + 1) (by omega)).trans fhsl_nx_1
  have fhsl_nx_2 : σ2 ((hsl nx) + 2) = aI E 25 ylk := (fr4 ((hsl nx) + 2) (by omega)).trans fhsl_nx_2
  have fhsl_nx_3 : σ2 ((hsl nx) + 3) = aI E 6 ykp := (fr4 ((hsl nx) + 3) (by omega)).trans fhsl_nx_3
  have fhsl_nx_4 : σ2 ((hsl nx) + 4) = aI E 3 ywc := (fr4 ((hsl nx) + 4) (by omega)).trans fhsl_nx_4
  have fhsl_nx_5 : σ2 ((hsl nx) + 5) = aI E 5 ro2 := (fr4 ((hsl nx) + 5) (by omega)).trans fhsl_nx_5
  refine lv_aload_n hx hb dX6_placeKey_11 rfl (lv_at hl 0 rfl) ?_
  refine lv_aload_n hx hb dX6_placeKey_12 rfl (lv_at hl 0 rfl) ?_
  refine x_get hx hb hts hown hK hH 0 (ltw (by decide)) f0 hinX6 rfl 0 (by decide) (List.mem_of_getElem? (i := 2) rfl) rfl dX6_placeKey_13 ?_
  refine lv_iload_n hx hb dX6_placeKey_16 rfl (lv_at hl 1 rfl) ?_
  refine lv_iload_n hx hb dX6_placeKey_17 rfl (lv_at hl 2 rfl) ?_
  refine lv_iload_n hx hb dX6_placeKey_18 rfl (lv_at hl 3 rfl) ?_
  refine x_cVIE (As := [.int (iZ k), .int (iZ r), .int (iZ c0)]) (rest := [.ref (xad E 0)]) hx hb hml hts hown hK hST hOK hH 1 (c_X1_layKey l E ST hSF σ2 1 k r c0 op lk kp wc pn nw sh wk ⟨f1, f2, f3, f4, f5, _, f6⟩ (by omega) (by omega) (by omega) (by omega) (by omega)) (cwV 3 hts gX6_placeKey_X1_layKey rfl rfl rfl (by decide +kernel) ⟨Nat.le_of_ble_eq_true rfl, Nat.le_of_ble_eq_true rfl⟩) (ltw (by decide)) f1 rfl rfl hl.1 rfl (Nat.le_of_ble_eq_true rfl) dX6_placeKey_19 ⟨Nat.le_of_ble_eq_true rfl, Nat.le_of_ble_eq_true rfl⟩ (fun z u h => h) (fun σ9 H locs hp10 hH => ?_)
  obtain ⟨⟨op1_12, lk1_13, kp1_14, wc1_15, pn1_16, nw1_17, sh1_18, wk1_19, ⟨f1, f2, f3, f4, f5, ro20, f6⟩, hf21⟩, fr11⟩ := hp10
  have f0 : σ9 0 = oB 4 [.ref (xad E 1), .ref (xad E 7), .ref (xad E 13), .ref (xad E 19), .int (iZ (b2 hv)), .ref (xad E 73), .ref (xad E 75), .ref (xad E 81), .int (iZ se), .int (iZ sf), .ref (xad E 84), .int (iZ ll)] := (fr11 0 (by omega)).trans f0
  have f73 : σ9 73 = oB 1 [.ref (xad E 74), .int (iZ nx), .int (iZ ct)] := (fr11 73 (by omega)).trans f73
  have f74 : σ9 74 = hRow E := (fr11 74 (by omega)).trans f74
  have fhsl_nx_0 : σ9 (hsl nx) = oB 0 [.ref (xad E ((hsl nx) + 1)), .ref (xad E ((hsl nx) + 2)), .ref (xad E ((hsl nx) + 3)), .ref (xad E ((hsl nx) + 4)), .ref (xad E ((hsl nx) + 5)), .int (iZ ypn), .int (iZ ynw), .int (iZ ysh), .long (lZ ywk)] := (fr11 (hsl nx) (by omega)).trans fhsl_nx_0
  have fhsl_nx_1 : σ9 ((hsl nx) + 1) = aI E 25 yop := (fr11 ((hsl nx) + 1) (by omega)).trans fhsl_nx_1
  have fhsl_nx_2 : σ9 ((hsl nx) + 2) = aI E 25 ylk := (fr11 ((hsl nx) + 2) (by omega)).trans fhsl_nx_2
  have fhsl_nx_3 : σ9 ((hsl nx) + 3) = aI E 6 ykp := (fr11 ((hsl nx) + 3) (by omega)).trans fhsl_nx_3
  have fhsl_nx_4 : σ9 ((hsl nx) + 4) = aI E 3 ywc := (fr11 ((hsl nx) + 4) (by omega)).trans fhsl_nx_4
  have fhsl_nx_5 : σ9 ((hsl nx) + 5) = aI E 5 ro2 := (fr11 ((hsl nx) + 5) (by omega)).trans fhsl_nx_5
  have f7 : σ9 7 = oB 0 [.ref (xad E 8), .ref (xad E 9), .ref (xad E 10), .ref (xad E 11), .ref (xad E 12), .int (iZ pn), .int (iZ nw), .int (iZ sh), .long (lZ wk)] := (fr11 7 (by omega)).trans f7
  have f8 : σ9 8 = aI E 25 op := (fr11 8 (by omega)).trans f8
  have f9 : σ9 9 = aI E 25 lk := (fr11 9 (by omega)).trans f9
  have f10 : σ9 10 = aI E 6 kp := (fr11 10 (by omega)).trans f10
  have f11 : σ9 11 = aI E 3 wc := (fr11 11 (by omega)).trans f11
  have f12 : σ9 12 = aI E 5 ro5 := (fr11 12 (by omega)).trans f12
  refine x_cXVIE (As := [.int (iZ ((layF op lk kp wc pn nw sh wk k r c0).1))]) (rest := []) hx hb hml hts hown hK hST hOK hH 0 (c_X6_settle l E ST hSF htr σ9 ((layF op lk kp wc pn nw sh wk k r c0).1) hv se sf ll nx ct yop ylk ykp ywc ypn ynw ysh ywk op lk kp wc pn nw sh wk f0 ⟨f73, f74⟩ ⟨fhsl_nx_0, fhsl_nx_1, fhsl_nx_2, fhsl_nx_3, fhsl_nx_4, _, fhsl_nx_5⟩ ⟨f7, f8, f9, f10, f11, _, f12⟩ (by omega) (by omega) (by omega)) (cwV 1 hts gX6_placeKey_X6_settle rfl rfl rfl (by decide +kernel) ⟨Nat.le_of_ble_eq_true rfl, Nat.le_of_ble_eq_true rfl⟩) (ltw (by decide)) f0 rfl rfl hl.1 rfl (Nat.le_of_ble_eq_true rfl) dX6_placeKey_22 ⟨Nat.le_of_ble_eq_true rfl, Nat.le_of_ble_eq_true rfl⟩ ?_ (fun z u h => h) (fun σ24 H locs hp25 hH => ?_)
  · intro nx ce q9 σ24 H locs hp25 hH hce hcv hcl
    subst hQ
    obtain ⟨hn, hu⟩ := hp25
    rw [hu] at hH
    exact x_out hno hlocks hH hce hcv hcl ⟨(by first | exact hn | simp_all | omega), ⟨op1_12, lk1_13, kp1_14, wc1_15, pn1_16, nw1_17, sh1_18, wk1_19, f0, ⟨f73, f74⟩, ⟨fhsl_nx_0, fhsl_nx_1, fhsl_nx_2, fhsl_nx_3, fhsl_nx_4, _, fhsl_nx_5⟩, ⟨f1, f2, f3, f4, f5, _, f6⟩, ⟨f7, f8, f9, f10, f11, _, f12⟩, (by first | assumption | omega | simp_all)⟩, fun j hj0 => ((fr11 j (by omega)).trans (fr4 j (by omega)))⟩ (Nat.le_of_ble_eq_true rfl) (Nat.le_of_ble_eq_true rfl)
  · obtain ⟨⟨f0, ⟨f73, f74⟩, ⟨fhsl_nx_0, fhsl_nx_1, fhsl_nx_2, fhsl_nx_3, fhsl_nx_4, ro27, fhsl_nx_5⟩, ⟨f7, f8, f9, f10, f11, ro28, f12⟩, hf29⟩, fr26⟩ := hp25
    have f1 : σ24 1 = oB 0 [.ref (xad E 2), .ref (xad E 3), .ref (xad E 4), .ref (xad E 5), .ref (xad E 6), .int (iZ pn1_16), .int (iZ nw1_17), .int (iZ sh1_18), .long (lZ wk1_19)] := (fr26 1 (by omega) (by omega)).trans f1
    have f2 : σ24 2 = aI E 25 op1_12 := (fr26 2 (by omega) (by omega)).trans f2
    have f3 : σ24 3 = aI E 25 lk1_13 := (fr26 3 (by omega) (by omega)).trans f3
    have f4 : σ24 4 = aI E 6 kp1_14 := (fr26 4 (by omega) (by omega)).trans f4
    have f5 : σ24 5 = aI E 3 wc1_15 := (fr26 5 (by omega) (by omega)).trans f5
    have f6 : σ24 6 = aI E 5 ro20 := (fr26 6 (by omega) (by omega)).trans f6
    subst hQ
    exact x_ireX hx hb hr hlocks hH (Nat.le_of_ble_eq_true rfl) (Nat.le_of_ble_eq_true rfl) ⟨(show ((layF op lk kp wc pn nw sh wk k r c0).1) = ((layF op lk kp wc pn nw sh wk k r c0).1) from (by first | rfl | omega | simp_all)), ⟨op1_12, lk1_13, kp1_14, wc1_15, pn1_16, nw1_17, sh1_18, wk1_19, f0, ⟨f73, f74⟩, ⟨fhsl_nx_0, fhsl_nx_1, fhsl_nx_2, fhsl_nx_3, fhsl_nx_4, _, fhsl_nx_5⟩, ⟨f1, f2, f3, f4, f5, _, f6⟩, ⟨f7, f8, f9, f10, f11, _, f12⟩, (by first | assumption | omega | simp_all), (by first | assumption | omega | simp_all)⟩, fun j hj0 hj1 hj2 => ((fr26 j (by omega) (by omega)).trans ((fr11 j (by omega)).trans (fr4 j (by omega))))⟩ dX6_placeKey_25

def rm_X6_addLock : Room := { frames := 7, cells := 1, slots := 6, locals := 111 }
set_option maxRecDepth 100000 in
set_option maxHeartbeats 4000000 in
theorem c_X6_addLock (l : Launch) (E : xE) (ST : xST) (hSF : SF ST) (htr : l.stackTraces = false) (σ : xW) (r : Int) (c0 : Int) (k : Int) (hv : Bool) (se : Int) (sf : Int) (ll : Int) (nx : Int) (ct : Int) (yop : Int → Int) (ylk : Int → Int) (ykp : Int → Int) (ywc : Int → Int) (ypn : Int) (ynw : Int) (ysh : Int) (ywk : Int) (op : Int → Int) (lk : Int → Int) (kp : Int → Int) (wc : Int → Int) (pn : Int) (nw : Int) (sh : Int) (wk : Int) (xop : Int → Int) (xlk : Int → Int) (xkp : Int → Int) (xwc : Int → Int) (xpn : Int) (xnw : Int) (xsh : Int) (xwk : Int) (hr0 : mn E σ hv se sf ll) (hr1 : hi E σ nx ct) (hr2 : bd E σ (hsl nx) yop ylk ykp ywc ypn ynw ysh ywk) (hr3 : bd E σ 1 op lk kp wc pn nw sh wk) (hr4 : bd E σ 7 xop xlk xkp xwc xpn xnw xsh xwk) (hnx : 0 ≤ nx ∧ nx < 8) (hct : 0 ≤ ct ∧ ct ≤ 8) (hB : BI op lk kp wc pn nw) (hr9 : rg r) (hc9 : rg c0) (hk9 : rg k) (hrz : rg (hangF op lk kp wc pn nw sh wk r c0 k).1) : XI l E ST yX6_addLock wsX6_addLock rm_X6_addLock [.ref (xad E 0), .int (iZ r), .int (iZ c0), .int (iZ k)] σ (fun (z : Int) (u : xW) => z = (hangF op lk kp wc pn nw sh wk r c0 k).1 ∧ (∃ (op1 lk1 kp1 wc1 : Int → Int) (pn1 nw1 sh1 wk1 : Int), mn E u hv se sf ll ∧ hi E u ((nx + 1) % 8) (if 8 < (ct + 1) then 8 else (ct + 1)) ∧ bd E u (hsl nx) op lk kp wc pn nw sh wk ∧ bd E u 1 op1 lk1 kp1 wc1 pn1 nw1 sh1 wk1 ∧ bd E u 7 op lk kp wc pn nw sh wk ∧ ((op1, lk1, kp1, wc1, pn1, nw1, sh1, wk1) = (hangF op lk kp wc pn nw sh wk r c0 k).2) ∧ ((hangF op lk kp wc pn nw sh wk r c0 k).1 < -5 ∨ -1 < (hangF op lk kp wc pn nw sh wk r c0 k).1)) ∧ ∀ j : Nat, j ≠ 73 → (j < hsl nx ∨ hsl nx + 6 ≤ j) → (j < 1 ∨ 1 + 12 ≤ j) → u j = σ j) (fun (n : String) (u : xW) => ((n = "java/lang/IndexOutOfBoundsException" ∧ (hangF op lk kp wc pn nw sh wk r c0 k).1 = -1) ∨ (n = "java/lang/IllegalArgumentException" ∧ (hangF op lk kp wc pn nw sh wk r c0 k).1 = -2) ∨ (n = "java/lang/IllegalStateException" ∧ (hangF op lk kp wc pn nw sh wk r c0 k).1 = -3) ∨ (n = "java/lang/UnsupportedOperationException" ∧ (hangF op lk kp wc pn nw sh wk r c0 k).1 = -4) ∨ (n = "java/util/NoSuchElementException" ∧ (hangF op lk kp wc pn nw sh wk r c0 k).1 = -5)) ∧ (∃ (op1 lk1 kp1 wc1 : Int → Int) (pn1 nw1 sh1 wk1 : Int), mn E u hv se sf ll ∧ hi E u nx ct ∧ bd E u (hsl nx) yop ylk ykp ywc ypn ynw ysh ywk ∧ bd E u 1 op1 lk1 kp1 wc1 pn1 nw1 sh1 wk1 ∧ bd E u 7 op lk kp wc pn nw sh wk ∧ ((op1, lk1, kp1, wc1, pn1, nw1, sh1, wk1) = (hangF op lk kp wc pn nw sh wk r c0 k).2)) ∧ ∀ j : Nat, (j < 1 ∨ 1 + 12 ≤ j) → u j = σ j) := by
  have f0 : σ 0 = oB 4 [.ref (xad E 1), .ref (xad E 7), .ref (xad E 13), .ref (xad E 19), .int (iZ (b2 hv)), .ref (xad E 73), .ref (xad E 75), .ref (xad E 81), .int (iZ se), .int (iZ sf), .ref (xad E 84), .int (iZ ll)] := hr0
  obtain ⟨f73, f74⟩ := hr1
  obtain ⟨fhsl_nx_0, fhsl_nx_1, fhsl_nx_2, fhsl_nx_3, fhsl_nx_4, ro2, fhsl_nx_5⟩ := hr2
  obtain ⟨f1, f2, f3, f4, f5, ro3, f6⟩ := hr3
  obtain ⟨f7, f8, f9, f10, f11, ro4, f12⟩ := hr4
  refine XI_of (by decide) rfl (Nat.le_of_ble_eq_true rfl) ?_
  intro p e s m args below meth c Q ls G hH hl hQ
  obtain ⟨hx, hb, hml, hown, hts, hK, hST, hlocks, hr, hno⟩ := G
  have hOK := hSF.1
  have hown : s.vm.findClass RX6 = some m.cls := hown
  have hl : lv_has ls 4 [(0, .ref (xad E 0)), (1, .int (iZ r)), (2, .int (iZ c0)), (3, .int (iZ k))] := hl
  have hinX6 : ∀ w ∈ u_ws RX6 TX6 12, w ∈ wsX6_addLock := fun w h => (List.mem_cons_of_mem _ (List.mem_append_left _ (List.mem_append_left _ (List.mem_append_left _ (List.mem_append_left _ (List.mem_append_left _ (List.mem_append_left _ (List.mem_append_left _ (List.mem_append_right _ h)))))))))
  have hhb := hsl_rg hnx.1 hnx.2
  refine lv_aload_n hx hb dX6_addLock_0 rfl (lv_at hl 0 rfl) ?_
  refine x_get hx hb hts hown hK hH 0 (ltw (by decide)) f0 hinX6 rfl 1 (by decide) (List.mem_of_getElem? (i := 1) rfl) rfl dX6_addLock_1 ?_
  refine lv_aload_n hx hb dX6_addLock_4 rfl (lv_at hl 0 rfl) ?_
  refine x_get hx hb hts hown hK hH 0 (ltw (by decide)) f0 hinX6 rfl 0 (by decide) (List.mem_of_getElem? (i := 2) rfl) rfl dX6_addLock_5 ?_
  refine x_cVV (As := [.ref (xad E 1)]) (rest := []) hx hb hml hts hown hK hST hOK hH 7 (c_X1_copyFrom l E ST hSF σ 7 1 xop xlk xkp xwc xpn xnw xsh xwk op lk kp wc pn nw sh wk ⟨f7, f8, f9, f10, f11, _, f12⟩ ⟨f1, f2, f3, f4, f5, _, f6⟩ (by omega) (by omega) (by omega)) (cwV 1 hts gX6_addLock_X1_copyFrom rfl rfl rfl (by decide +kernel) ⟨Nat.le_of_ble_eq_true rfl, Nat.le_of_ble_eq_true rfl⟩) (ltw (by decide)) f7 rfl rfl hl.1 rfl (Nat.le_of_ble_eq_true rfl) dX6_addLock_8 ⟨Nat.le_of_ble_eq_true rfl, Nat.le_of_ble_eq_true rfl⟩ (fun σ2 H locs hp3 hH => ?_)
  obtain ⟨⟨⟨f7, f8, f9, f10, f11, ro5, f12⟩, ⟨f1, f2, f3, f4, f5, ro6, f6⟩⟩, fr4⟩ := hp3
  have f0 : σ2 0 = oB 4 [.ref (xad E 1), .ref (xad E 7), .ref (xad E 13), .ref (xad E 19), .int (iZ (b2 hv)), .ref (xad E 73), .ref (xad E 75), .ref (xad E 81), .int (iZ se), .int (iZ sf), .ref (xad E 84), .int (iZ ll)] := (fr4 0 (by omega)).trans f0
  have f73 : σ2 73 = oB 1 [.ref (xad E 74), .int (iZ nx), .int (iZ ct)] := (fr4 73 (by omega)).trans f73
  have f74 : σ2 74 = hRow E := (fr4 74 (by omega)).trans f74
  have fhsl_nx_0 : σ2 (hsl nx) = oB 0 [.ref (xad E ((hsl nx) + 1)), .ref (xad E ((hsl nx) + 2)), .ref (xad E ((hsl nx) + 3)), .ref (xad E ((hsl nx) + 4)), .ref (xad E ((hsl nx) + 5)), .int (iZ ypn), .int (iZ ynw), .int (iZ ysh), .long (lZ ywk)] := (fr4 (hsl nx) (by omega)).trans fhsl_nx_0
  have fhsl_nx_1 : σ2 ((hsl nx) + 1) = aI E 25 yop := (fr4 ((hsl nx) + 1) (by omega)).trans fhsl_nx_1
  have fhsl_nx_2 : σ2 ((hsl nx) + 2) = aI E 25 ylk := (fr4 ((hsl nx) + 2) (by omega)).trans fhsl_nx_2
  have fhsl_nx_3 : σ2 ((hsl nx) + 3) = aI E 6 ykp := (fr4 ((hsl nx) + 3) (by omega)).trans fhsl_nx_3
  have fhsl_nx_4 : σ2 ((hsl nx) + 4) = aI E 3 ywc := (fr4 ((hsl nx) + 4) (by omega)).trans fhsl_nx_4
  have fhsl_nx_5 : σ2 ((hsl nx) + 5) = aI E 5 ro2 := (fr4 ((hsl nx) + 5) (by omega)).trans fhsl_nx_5
  refine lv_aload_n hx hb dX6_addLock_11 rfl (lv_at hl 0 rfl) ?_
  refine lv_aload_n hx hb dX6_addLock_12 rfl (lv_at hl 0 rfl) ?_
  refine x_get hx hb hts hown hK hH 0 (ltw (by decide)) f0 hinX6 rfl 0 (by decide) (List.mem_of_getElem? (i := 2) rfl) rfl dX6_addLock_13 ?_
  refine lv_iload_n hx hb dX6_addLock_16 rfl (lv_at hl 1 rfl) ?_
  refine lv_iload_n hx hb dX6_addLock_17 rfl (lv_at hl 2 rfl) ?_
  refine lv_iload_n hx hb dX6_addLock_18 rfl (lv_at hl 3 rfl) ?_
  refine x_cVIE (As := [.int (iZ r), .int (iZ c0), .int (iZ k)]) (rest := [.ref (xad E 0)]) hx hb hml hts hown hK hST hOK hH 1 (c_X1_hangLock l E ST hSF σ2 1 r c0 k op lk kp wc pn nw sh wk ⟨f1, f2, f3, f4, f5, _, f6⟩ (by omega) (by omega) (by omega) (by omega) (by omega)) (cwV 3 hts gX6_addLock_X1_hangLock rfl rfl rfl (by decide +kernel) ⟨Nat.le_of_ble_eq_true rfl, Nat.le_of_ble_eq_true rfl⟩) (ltw (by decide)) f1 rfl rfl hl.1 rfl (Nat.le_of_ble_eq_true rfl) dX6_addLock_19 ⟨Nat.le_of_ble_eq_true rfl, Nat.le_of_ble_eq_true rfl⟩ (fun z u h => h) (fun σ9 H locs hp10 hH => ?_)
  obtain ⟨⟨op1_12, lk1_13, kp1_14, wc1_15, pn1_16, nw1_17, sh1_18, wk1_19, ⟨f1, f2, f3, f4, f5, ro20, f6⟩, hf21⟩, fr11⟩ := hp10
  have f0 : σ9 0 = oB 4 [.ref (xad E 1), .ref (xad E 7), .ref (xad E 13), .ref (xad E 19), .int (iZ (b2 hv)), .ref (xad E 73), .ref (xad E 75), .ref (xad E 81), .int (iZ se), .int (iZ sf), .ref (xad E 84), .int (iZ ll)] := (fr11 0 (by omega)).trans f0
  have f73 : σ9 73 = oB 1 [.ref (xad E 74), .int (iZ nx), .int (iZ ct)] := (fr11 73 (by omega)).trans f73
  have f74 : σ9 74 = hRow E := (fr11 74 (by omega)).trans f74
  have fhsl_nx_0 : σ9 (hsl nx) = oB 0 [.ref (xad E ((hsl nx) + 1)), .ref (xad E ((hsl nx) + 2)), .ref (xad E ((hsl nx) + 3)), .ref (xad E ((hsl nx) + 4)), .ref (xad E ((hsl nx) + 5)), .int (iZ ypn), .int (iZ ynw), .int (iZ ysh), .long (lZ ywk)] := (fr11 (hsl nx) (by omega)).trans fhsl_nx_0
  have fhsl_nx_1 : σ9 ((hsl nx) + 1) = aI E 25 yop := (fr11 ((hsl nx) + 1) (by omega)).trans fhsl_nx_1
  have fhsl_nx_2 : σ9 ((hsl nx) + 2) = aI E 25 ylk := (fr11 ((hsl nx) + 2) (by omega)).trans fhsl_nx_2
  have fhsl_nx_3 : σ9 ((hsl nx) + 3) = aI E 6 ykp := (fr11 ((hsl nx) + 3) (by omega)).trans fhsl_nx_3
  have fhsl_nx_4 : σ9 ((hsl nx) + 4) = aI E 3 ywc := (fr11 ((hsl nx) + 4) (by omega)).trans fhsl_nx_4
  have fhsl_nx_5 : σ9 ((hsl nx) + 5) = aI E 5 ro2 := (fr11 ((hsl nx) + 5) (by omega)).trans fhsl_nx_5
  have f7 : σ9 7 = oB 0 [.ref (xad E 8), .ref (xad E 9), .ref (xad E 10), .ref (xad E 11), .ref (xad E 12), .int (iZ pn), .int (iZ nw), .int (iZ sh), .long (lZ wk)] := (fr11 7 (by omega)).trans f7
  have f8 : σ9 8 = aI E 25 op := (fr11 8 (by omega)).trans f8
  have f9 : σ9 9 = aI E 25 lk := (fr11 9 (by omega)).trans f9
  have f10 : σ9 10 = aI E 6 kp := (fr11 10 (by omega)).trans f10
  have f11 : σ9 11 = aI E 3 wc := (fr11 11 (by omega)).trans f11
  have f12 : σ9 12 = aI E 5 ro5 := (fr11 12 (by omega)).trans f12
  refine x_cXVIE (As := [.int (iZ ((hangF op lk kp wc pn nw sh wk r c0 k).1))]) (rest := []) hx hb hml hts hown hK hST hOK hH 0 (c_X6_settle l E ST hSF htr σ9 ((hangF op lk kp wc pn nw sh wk r c0 k).1) hv se sf ll nx ct yop ylk ykp ywc ypn ynw ysh ywk op lk kp wc pn nw sh wk f0 ⟨f73, f74⟩ ⟨fhsl_nx_0, fhsl_nx_1, fhsl_nx_2, fhsl_nx_3, fhsl_nx_4, _, fhsl_nx_5⟩ ⟨f7, f8, f9, f10, f11, _, f12⟩ (by omega) (by omega) (by omega)) (cwV 1 hts gX6_addLock_X6_settle rfl rfl rfl (by decide +kernel) ⟨Nat.le_of_ble_eq_true rfl, Nat.le_of_ble_eq_true rfl⟩) (ltw (by decide)) f0 rfl rfl hl.1 rfl (Nat.le_of_ble_eq_true rfl) dX6_addLock_22 ⟨Nat.le_of_ble_eq_true rfl, Nat.le_of_ble_eq_true rfl⟩ ?_ (fun z u h => h) (fun σ24 H locs hp25 hH => ?_)
  · intro nx ce q9 σ24 H locs hp25 hH hce hcv hcl
    subst hQ
    obtain ⟨hn, hu⟩ := hp25
    rw [hu] at hH
    exact x_out hno hlocks hH hce hcv hcl ⟨(by first | exact hn | simp_all | omega), ⟨op1_12, lk1_13, kp1_14, wc1_15, pn1_16, nw1_17, sh1_18, wk1_19, f0, ⟨f73, f74⟩, ⟨fhsl_nx_0, fhsl_nx_1, fhsl_nx_2, fhsl_nx_3, fhsl_nx_4, _, fhsl_nx_5⟩, ⟨f1, f2, f3, f4, f5, _, f6⟩, ⟨f7, f8, f9, f10, f11, _, f12⟩, (by first | assumption | omega | simp_all)⟩, fun j hj0 => ((fr11 j (by omega)).trans (fr4 j (by omega)))⟩ (Nat.le_of_ble_eq_true rfl) (Nat.le_of_ble_eq_true rfl)
  · obtain ⟨⟨f0, ⟨f73, f74⟩, ⟨fhsl_nx_0, fhsl_nx_1, fhsl_nx_2, fhsl_nx_3, fhsl_nx_4, ro27, fhsl_nx_5⟩, ⟨f7, f8, f9, f10, f11, ro28, f12⟩, hf29⟩, fr26⟩ := hp25
    have f1 : σ24 1 = oB 0 [.ref (xad E 2), .ref (xad E 3), .ref (xad E 4), .ref (xad E 5), .ref (xad E 6), .int (iZ pn1_16), .int (iZ nw1_17), .int (iZ sh1_18), .long (lZ wk1_19)] := (fr26 1 (by omega) (by omega)).trans f1
    have f2 : σ24 2 = aI E 25 op1_12 := (fr26 2 (by omega) (by omega)).trans f2
    have f3 : σ24 3 = aI E 25 lk1_13 := (fr26 3 (by omega) (by omega)).trans f3
    have f4 : σ24 4 = aI E 6 kp1_14 := (fr26 4 (by omega) (by omega)).trans f4
    have f5 : σ24 5 = aI E 3 wc1_15 := (fr26 5 (by omega) (by omega)).trans f5
    have f6 : σ24 6 = aI E 5 ro20 := (fr26 6 (by omega) (by omega)).trans f6
    subst hQ
    exact x_ireX hx hb hr hlocks hH (Nat.le_of_ble_eq_true rfl) (Nat.le_of_ble_eq_true rfl) ⟨(show ((hangF op lk kp wc pn nw sh wk r c0 k).1) = ((hangF op lk kp wc pn nw sh wk r c0 k).1) from (by first | rfl | omega | simp_all)), ⟨op1_12, lk1_13, kp1_14, wc1_15, pn1_16, nw1_17, sh1_18, wk1_19, f0, ⟨f73, f74⟩, ⟨fhsl_nx_0, fhsl_nx_1, fhsl_nx_2, fhsl_nx_3, fhsl_nx_4, _, fhsl_nx_5⟩, ⟨f1, f2, f3, f4, f5, _, f6⟩, ⟨f7, f8, f9, f10, f11, _, f12⟩, (by first | assumption | omega | simp_all), (by first | assumption | omega | simp_all)⟩, fun j hj0 hj1 hj2 => ((fr26 j (by omega) (by omega)).trans ((fr11 j (by omega)).trans (fr4 j (by omega))))⟩ dX6_addLock_25

def rm_X6_removeLock : Room := { frames := 7, cells := 1, slots := 6, locals := 111 }
set_option maxRecDepth 100000 in
set_option maxHeartbeats 4000000 in
theorem c_X6_removeLock (l : Launch) (E : xE) (ST : xST) (hSF : SF ST) (htr : l.stackTraces = false) (σ : xW) (r : Int) (c0 : Int) (hv : Bool) (se : Int) (sf : Int) (ll : Int) (nx : Int) (ct : Int) (yop : Int → Int) (ylk : Int → Int) (ykp : Int → Int) (ywc : Int → Int) (ypn : Int) (ynw : Int) (ysh : Int) (ywk : Int) (op : Int → Int) (lk : Int → Int) (kp : Int → Int) (wc : Int → Int) (pn : Int) (nw : Int) (sh : Int) (wk : Int) (xop : Int → Int) (xlk : Int → Int) (xkp : Int → Int) (xwc : Int → Int) (xpn : Int) (xnw : Int) (xsh : Int) (xwk : Int) (hr0 : mn E σ hv se sf ll) (hr1 : hi E σ nx ct) (hr2 : bd E σ (hsl nx) yop ylk ykp ywc ypn ynw ysh ywk) (hr3 : bd E σ 1 op lk kp wc pn nw sh wk) (hr4 : bd E σ 7 xop xlk xkp xwc xpn xnw xsh xwk) (hnx : 0 ≤ nx ∧ nx < 8) (hct : 0 ≤ ct ∧ ct ≤ 8) (hB : BI op lk kp wc pn nw) (hr9 : rg r) (hc9 : rg c0) (hrz : rg (takeF op lk kp wc pn nw sh wk r c0).1) : XI l E ST yX6_removeLock wsX6_removeLock rm_X6_removeLock [.ref (xad E 0), .int (iZ r), .int (iZ c0)] σ (fun (z : Int) (u : xW) => z = i2cZ (takeF op lk kp wc pn nw sh wk r c0).1 ∧ (∃ (op1 lk1 kp1 wc1 : Int → Int) (pn1 nw1 sh1 wk1 : Int), mn E u hv se sf ll ∧ hi E u ((nx + 1) % 8) (if 8 < (ct + 1) then 8 else (ct + 1)) ∧ bd E u (hsl nx) op lk kp wc pn nw sh wk ∧ bd E u 1 op1 lk1 kp1 wc1 pn1 nw1 sh1 wk1 ∧ bd E u 7 op lk kp wc pn nw sh wk ∧ ((op1, lk1, kp1, wc1, pn1, nw1, sh1, wk1) = (takeF op lk kp wc pn nw sh wk r c0).2) ∧ ((takeF op lk kp wc pn nw sh wk r c0).1 < -5 ∨ -1 < (takeF op lk kp wc pn nw sh wk r c0).1)) ∧ ∀ j : Nat, j ≠ 73 → (j < hsl nx ∨ hsl nx + 6 ≤ j) → (j < 1 ∨ 1 + 12 ≤ j) → u j = σ j) (fun (n : String) (u : xW) => ((n = "java/lang/IndexOutOfBoundsException" ∧ (takeF op lk kp wc pn nw sh wk r c0).1 = -1) ∨ (n = "java/lang/IllegalArgumentException" ∧ (takeF op lk kp wc pn nw sh wk r c0).1 = -2) ∨ (n = "java/lang/IllegalStateException" ∧ (takeF op lk kp wc pn nw sh wk r c0).1 = -3) ∨ (n = "java/lang/UnsupportedOperationException" ∧ (takeF op lk kp wc pn nw sh wk r c0).1 = -4) ∨ (n = "java/util/NoSuchElementException" ∧ (takeF op lk kp wc pn nw sh wk r c0).1 = -5)) ∧ (∃ (op1 lk1 kp1 wc1 : Int → Int) (pn1 nw1 sh1 wk1 : Int), mn E u hv se sf ll ∧ hi E u nx ct ∧ bd E u (hsl nx) yop ylk ykp ywc ypn ynw ysh ywk ∧ bd E u 1 op1 lk1 kp1 wc1 pn1 nw1 sh1 wk1 ∧ bd E u 7 op lk kp wc pn nw sh wk ∧ ((op1, lk1, kp1, wc1, pn1, nw1, sh1, wk1) = (takeF op lk kp wc pn nw sh wk r c0).2)) ∧ ∀ j : Nat, (j < 1 ∨ 1 + 12 ≤ j) → u j = σ j) := by
  have f0 : σ 0 = oB 4 [.ref (xad E 1), .ref (xad E 7), .ref (xad E 13), .ref (xad E 19), .int (iZ (b2 hv)), .ref (xad E 73), .ref (xad E 75), .ref (xad E 81), .int (iZ se), .int (iZ sf), .ref (xad E 84), .int (iZ ll)] := hr0
  obtain ⟨f73, f74⟩ := hr1
  obtain ⟨fhsl_nx_0, fhsl_nx_1, fhsl_nx_2, fhsl_nx_3, fhsl_nx_4, ro2, fhsl_nx_5⟩ := hr2
  obtain ⟨f1, f2, f3, f4, f5, ro3, f6⟩ := hr3
  obtain ⟨f7, f8, f9, f10, f11, ro4, f12⟩ := hr4
  refine XI_of (by decide) rfl (Nat.le_of_ble_eq_true rfl) ?_
  intro p e s m args below meth c Q ls G hH hl hQ
  obtain ⟨hx, hb, hml, hown, hts, hK, hST, hlocks, hr, hno⟩ := G
  have hOK := hSF.1
  have hown : s.vm.findClass RX6 = some m.cls := hown
  have hl : lv_has ls 3 [(0, .ref (xad E 0)), (1, .int (iZ r)), (2, .int (iZ c0))] := hl
  have hinX6 : ∀ w ∈ u_ws RX6 TX6 12, w ∈ wsX6_removeLock := fun w h => (List.mem_cons_of_mem _ (List.mem_append_left _ (List.mem_append_left _ (List.mem_append_left _ (List.mem_append_left _ (List.mem_append_left _ (List.mem_append_left _ (List.mem_append_left _ (List.mem_append_right _ h)))))))))
  have hhb := hsl_rg hnx.1 hnx.2
  refine lv_aload_n hx hb dX6_removeLock_0 rfl (lv_at hl 0 rfl) ?_
  refine x_get hx hb hts hown hK hH 0 (ltw (by decide)) f0 hinX6 rfl 1 (by decide) (List.mem_of_getElem? (i := 1) rfl) rfl dX6_removeLock_1 ?_
  refine lv_aload_n hx hb dX6_removeLock_4 rfl (lv_at hl 0 rfl) ?_
  refine x_get hx hb hts hown hK hH 0 (ltw (by decide)) f0 hinX6 rfl 0 (by decide) (List.mem_of_getElem? (i := 2) rfl) rfl dX6_removeLock_5 ?_
  refine x_cVV (As := [.ref (xad E 1)]) (rest := []) hx hb hml hts hown hK hST hOK hH 7 (c_X1_copyFrom l E ST hSF σ 7 1 xop xlk xkp xwc xpn xnw xsh xwk op lk kp wc pn nw sh wk ⟨f7, f8, f9, f10, f11, _, f12⟩ ⟨f1, f2, f3, f4, f5, _, f6⟩ (by omega) (by omega) (by omega)) (cwV 1 hts gX6_removeLock_X1_copyFrom rfl rfl rfl (by decide +kernel) ⟨Nat.le_of_ble_eq_true rfl, Nat.le_of_ble_eq_true rfl⟩) (ltw (by decide)) f7 rfl rfl hl.1 rfl (Nat.le_of_ble_eq_true rfl) dX6_removeLock_8 ⟨Nat.le_of_ble_eq_true rfl, Nat.le_of_ble_eq_true rfl⟩ (fun σ2 H locs hp3 hH => ?_)
  obtain ⟨⟨⟨f7, f8, f9, f10, f11, ro5, f12⟩, ⟨f1, f2, f3, f4, f5, ro6, f6⟩⟩, fr4⟩ := hp3
  have f0 : σ2 0 = oB 4 [.ref (xad E 1), .ref (xad E 7), .ref (xad E 13), .ref (xad E 19), .int (iZ (b2 hv)), .ref (xad E 73), .ref (xad E 75), .ref (xad E 81), .int (iZ se), .int (iZ sf), .ref (xad E 84), .int (iZ ll)] := (fr4 0 (by omega)).trans f0
  have f73 : σ2 73 = oB 1 [.ref (xad E 74), .int (iZ nx), .int (iZ ct)] := (fr4 73 (by omega)).trans f73
  have f74 : σ2 74 = hRow E := (fr4 74 (by omega)).trans f74
  have fhsl_nx_0 : σ2 (hsl nx) = oB 0 [.ref (xad E ((hsl nx) + 1)), .ref (xad E ((hsl nx) + 2)), .ref (xad E ((hsl nx) + 3)), .ref (xad E ((hsl nx) + 4)), .ref (xad E ((hsl nx) + 5)), .int (iZ ypn), .int (iZ ynw), .int (iZ ysh), .long (lZ ywk)] := (fr4 (hsl nx) (by omega)).trans fhsl_nx_0
  have fhsl_nx_1 : σ2 ((hsl nx) + 1) = aI E 25 yop := (fr4 ((hsl nx) + 1) (by omega)).trans fhsl_nx_1
  have fhsl_nx_2 : σ2 ((hsl nx) + 2) = aI E 25 ylk := (fr4 ((hsl nx) + 2) (by omega)).trans fhsl_nx_2
  have fhsl_nx_3 : σ2 ((hsl nx) + 3) = aI E 6 ykp := (fr4 ((hsl nx) + 3) (by omega)).trans fhsl_nx_3
  have fhsl_nx_4 : σ2 ((hsl nx) + 4) = aI E 3 ywc := (fr4 ((hsl nx) + 4) (by omega)).trans fhsl_nx_4
  have fhsl_nx_5 : σ2 ((hsl nx) + 5) = aI E 5 ro2 := (fr4 ((hsl nx) + 5) (by omega)).trans fhsl_nx_5
  refine lv_aload_n hx hb dX6_removeLock_11 rfl (lv_at hl 0 rfl) ?_
  refine lv_aload_n hx hb dX6_removeLock_12 rfl (lv_at hl 0 rfl) ?_
  refine x_get hx hb hts hown hK hH 0 (ltw (by decide)) f0 hinX6 rfl 0 (by decide) (List.mem_of_getElem? (i := 2) rfl) rfl dX6_removeLock_13 ?_
  refine lv_iload_n hx hb dX6_removeLock_16 rfl (lv_at hl 1 rfl) ?_
  refine lv_iload_n hx hb dX6_removeLock_17 rfl (lv_at hl 2 rfl) ?_
  refine x_cVIE (As := [.int (iZ r), .int (iZ c0)]) (rest := [.ref (xad E 0)]) hx hb hml hts hown hK hST hOK hH 1 (c_X1_takeLock l E ST hSF σ2 1 r c0 op lk kp wc pn nw sh wk ⟨f1, f2, f3, f4, f5, _, f6⟩ (by omega) (by omega) (by omega) (by omega)) (cwV 2 hts gX6_removeLock_X1_takeLock rfl rfl rfl (by decide +kernel) ⟨Nat.le_of_ble_eq_true rfl, Nat.le_of_ble_eq_true rfl⟩) (ltw (by decide)) f1 rfl rfl hl.1 rfl (Nat.le_of_ble_eq_true rfl) dX6_removeLock_18 ⟨Nat.le_of_ble_eq_true rfl, Nat.le_of_ble_eq_true rfl⟩ (fun z u h => h) (fun σ9 H locs hp10 hH => ?_)
  obtain ⟨⟨op1_12, lk1_13, kp1_14, wc1_15, pn1_16, nw1_17, sh1_18, wk1_19, ⟨f1, f2, f3, f4, f5, ro20, f6⟩, hf21⟩, fr11⟩ := hp10
  have f0 : σ9 0 = oB 4 [.ref (xad E 1), .ref (xad E 7), .ref (xad E 13), .ref (xad E 19), .int (iZ (b2 hv)), .ref (xad E 73), .ref (xad E 75), .ref (xad E 81), .int (iZ se), .int (iZ sf), .ref (xad E 84), .int (iZ ll)] := (fr11 0 (by omega)).trans f0
  have f73 : σ9 73 = oB 1 [.ref (xad E 74), .int (iZ nx), .int (iZ ct)] := (fr11 73 (by omega)).trans f73
  have f74 : σ9 74 = hRow E := (fr11 74 (by omega)).trans f74
  have fhsl_nx_0 : σ9 (hsl nx) = oB 0 [.ref (xad E ((hsl nx) + 1)), .ref (xad E ((hsl nx) + 2)), .ref (xad E ((hsl nx) + 3)), .ref (xad E ((hsl nx) + 4)), .ref (xad E ((hsl nx) + 5)), .int (iZ ypn), .int (iZ ynw), .int (iZ ysh), .long (lZ ywk)] := (fr11 (hsl nx) (by omega)).trans fhsl_nx_0
  have fhsl_nx_1 : σ9 ((hsl nx) + 1) = aI E 25 yop := (fr11 ((hsl nx) + 1) (by omega)).trans fhsl_nx_1
  have fhsl_nx_2 : σ9 ((hsl nx) + 2) = aI E 25 ylk := (fr11 ((hsl nx) + 2) (by omega)).trans fhsl_nx_2
  have fhsl_nx_3 : σ9 ((hsl nx) + 3) = aI E 6 ykp := (fr11 ((hsl nx) + 3) (by omega)).trans fhsl_nx_3
  have fhsl_nx_4 : σ9 ((hsl nx) + 4) = aI E 3 ywc := (fr11 ((hsl nx) + 4) (by omega)).trans fhsl_nx_4
  have fhsl_nx_5 : σ9 ((hsl nx) + 5) = aI E 5 ro2 := (fr11 ((hsl nx) + 5) (by omega)).trans fhsl_nx_5
  have f7 : σ9 7 = oB 0 [.ref (xad E 8), .ref (xad E 9), .ref (xad E 10), .ref (xad E 11), .ref (xad E 12), .int (iZ pn), .int (iZ nw), .int (iZ sh), .long (lZ wk)] := (fr11 7 (by omega)).trans f7
  have f8 : σ9 8 = aI E 25 op := (fr11 8 (by omega)).trans f8
  have f9 : σ9 9 = aI E 25 lk := (fr11 9 (by omega)).trans f9
  have f10 : σ9 10 = aI E 6 kp := (fr11 10 (by omega)).trans f10
  have f11 : σ9 11 = aI E 3 wc := (fr11 11 (by omega)).trans f11
  have f12 : σ9 12 = aI E 5 ro5 := (fr11 12 (by omega)).trans f12
  refine x_cXVIE (As := [.int (iZ ((takeF op lk kp wc pn nw sh wk r c0).1))]) (rest := []) hx hb hml hts hown hK hST hOK hH 0 (c_X6_settle l E ST hSF htr σ9 ((takeF op lk kp wc pn nw sh wk r c0).1) hv se sf ll nx ct yop ylk ykp ywc ypn ynw ysh ywk op lk kp wc pn nw sh wk f0 ⟨f73, f74⟩ ⟨fhsl_nx_0, fhsl_nx_1, fhsl_nx_2, fhsl_nx_3, fhsl_nx_4, _, fhsl_nx_5⟩ ⟨f7, f8, f9, f10, f11, _, f12⟩ (by omega) (by omega) (by omega)) (cwV 1 hts gX6_removeLock_X6_settle rfl rfl rfl (by decide +kernel) ⟨Nat.le_of_ble_eq_true rfl, Nat.le_of_ble_eq_true rfl⟩) (ltw (by decide)) f0 rfl rfl hl.1 rfl (Nat.le_of_ble_eq_true rfl) dX6_removeLock_21 ⟨Nat.le_of_ble_eq_true rfl, Nat.le_of_ble_eq_true rfl⟩ ?_ (fun z u h => h) (fun σ24 H locs hp25 hH => ?_)
  · intro nx ce q9 σ24 H locs hp25 hH hce hcv hcl
    subst hQ
    obtain ⟨hn, hu⟩ := hp25
    rw [hu] at hH
    exact x_out hno hlocks hH hce hcv hcl ⟨(by first | exact hn | simp_all | omega), ⟨op1_12, lk1_13, kp1_14, wc1_15, pn1_16, nw1_17, sh1_18, wk1_19, f0, ⟨f73, f74⟩, ⟨fhsl_nx_0, fhsl_nx_1, fhsl_nx_2, fhsl_nx_3, fhsl_nx_4, _, fhsl_nx_5⟩, ⟨f1, f2, f3, f4, f5, _, f6⟩, ⟨f7, f8, f9, f10, f11, _, f12⟩, (by first | assumption | omega | simp_all)⟩, fun j hj0 => ((fr11 j (by omega)).trans (fr4 j (by omega)))⟩ (Nat.le_of_ble_eq_true rfl) (Nat.le_of_ble_eq_true rfl)
  · obtain ⟨⟨f0, ⟨f73, f74⟩, ⟨fhsl_nx_0, fhsl_nx_1, fhsl_nx_2, fhsl_nx_3, fhsl_nx_4, ro27, fhsl_nx_5⟩, ⟨f7, f8, f9, f10, f11, ro28, f12⟩, hf29⟩, fr26⟩ := hp25
    have f1 : σ24 1 = oB 0 [.ref (xad E 2), .ref (xad E 3), .ref (xad E 4), .ref (xad E 5), .ref (xad E 6), .int (iZ pn1_16), .int (iZ nw1_17), .int (iZ sh1_18), .long (lZ wk1_19)] := (fr26 1 (by omega) (by omega)).trans f1
    have f2 : σ24 2 = aI E 25 op1_12 := (fr26 2 (by omega) (by omega)).trans f2
    have f3 : σ24 3 = aI E 25 lk1_13 := (fr26 3 (by omega) (by omega)).trans f3
    have f4 : σ24 4 = aI E 6 kp1_14 := (fr26 4 (by omega) (by omega)).trans f4
    have f5 : σ24 5 = aI E 3 wc1_15 := (fr26 5 (by omega) (by omega)).trans f5
    have f6 : σ24 6 = aI E 5 ro20 := (fr26 6 (by omega) (by omega)).trans f6
    refine x_i2c hx hb dX6_removeLock_24 ?_
    have hrg9 := i2cZ_rg (takeF op lk kp wc pn nw sh wk r c0).1
    subst hQ
    exact x_creX hx hb hr hlocks hH (Nat.le_of_ble_eq_true rfl) (Nat.le_of_ble_eq_true rfl) (by omega) (by omega) ⟨(show (i2cZ ((takeF op lk kp wc pn nw sh wk r c0).1)) = (i2cZ (takeF op lk kp wc pn nw sh wk r c0).1) from (by first | rfl | omega | simp_all)), ⟨op1_12, lk1_13, kp1_14, wc1_15, pn1_16, nw1_17, sh1_18, wk1_19, f0, ⟨f73, f74⟩, ⟨fhsl_nx_0, fhsl_nx_1, fhsl_nx_2, fhsl_nx_3, fhsl_nx_4, _, fhsl_nx_5⟩, ⟨f1, f2, f3, f4, f5, _, f6⟩, ⟨f7, f8, f9, f10, f11, _, f12⟩, (by first | assumption | omega | simp_all), (by first | assumption | omega | simp_all)⟩, fun j hj0 hj1 hj2 => ((fr26 j (by omega) (by omega)).trans ((fr11 j (by omega)).trans (fr4 j (by omega))))⟩ dX6_removeLock_25

def rm_X6_addWalker : Room := { frames := 7, cells := 1, slots := 6, locals := 111 }
set_option maxRecDepth 100000 in
set_option maxHeartbeats 4000000 in
theorem c_X6_addWalker (l : Launch) (E : xE) (ST : xST) (hSF : SF ST) (htr : l.stackTraces = false) (σ : xW) (r : Int) (c0 : Int) (hv : Bool) (se : Int) (sf : Int) (ll : Int) (nx : Int) (ct : Int) (yop : Int → Int) (ylk : Int → Int) (ykp : Int → Int) (ywc : Int → Int) (ypn : Int) (ynw : Int) (ysh : Int) (ywk : Int) (op : Int → Int) (lk : Int → Int) (kp : Int → Int) (wc : Int → Int) (pn : Int) (nw : Int) (sh : Int) (wk : Int) (xop : Int → Int) (xlk : Int → Int) (xkp : Int → Int) (xwc : Int → Int) (xpn : Int) (xnw : Int) (xsh : Int) (xwk : Int) (hr0 : mn E σ hv se sf ll) (hr1 : hi E σ nx ct) (hr2 : bd E σ (hsl nx) yop ylk ykp ywc ypn ynw ysh ywk) (hr3 : bd E σ 1 op lk kp wc pn nw sh wk) (hr4 : bd E σ 7 xop xlk xkp xwc xpn xnw xsh xwk) (hnx : 0 ≤ nx ∧ nx < 8) (hct : 0 ≤ ct ∧ ct ≤ 8) (hB : BI op lk kp wc pn nw) (hr9 : rg r) (hc9 : rg c0) (hrz : rg (enterF op lk kp wc pn nw sh wk r c0).1) : XI l E ST yX6_addWalker wsX6_addWalker rm_X6_addWalker [.ref (xad E 0), .int (iZ r), .int (iZ c0)] σ (fun (z : Int) (u : xW) => z = (enterF op lk kp wc pn nw sh wk r c0).1 ∧ (∃ (op1 lk1 kp1 wc1 : Int → Int) (pn1 nw1 sh1 wk1 : Int), mn E u hv se sf ll ∧ hi E u ((nx + 1) % 8) (if 8 < (ct + 1) then 8 else (ct + 1)) ∧ bd E u (hsl nx) op lk kp wc pn nw sh wk ∧ bd E u 1 op1 lk1 kp1 wc1 pn1 nw1 sh1 wk1 ∧ bd E u 7 op lk kp wc pn nw sh wk ∧ ((op1, lk1, kp1, wc1, pn1, nw1, sh1, wk1) = (enterF op lk kp wc pn nw sh wk r c0).2) ∧ ((enterF op lk kp wc pn nw sh wk r c0).1 < -5 ∨ -1 < (enterF op lk kp wc pn nw sh wk r c0).1)) ∧ ∀ j : Nat, j ≠ 73 → (j < hsl nx ∨ hsl nx + 6 ≤ j) → (j < 1 ∨ 1 + 12 ≤ j) → u j = σ j) (fun (n : String) (u : xW) => ((n = "java/lang/IndexOutOfBoundsException" ∧ (enterF op lk kp wc pn nw sh wk r c0).1 = -1) ∨ (n = "java/lang/IllegalArgumentException" ∧ (enterF op lk kp wc pn nw sh wk r c0).1 = -2) ∨ (n = "java/lang/IllegalStateException" ∧ (enterF op lk kp wc pn nw sh wk r c0).1 = -3) ∨ (n = "java/lang/UnsupportedOperationException" ∧ (enterF op lk kp wc pn nw sh wk r c0).1 = -4) ∨ (n = "java/util/NoSuchElementException" ∧ (enterF op lk kp wc pn nw sh wk r c0).1 = -5)) ∧ (∃ (op1 lk1 kp1 wc1 : Int → Int) (pn1 nw1 sh1 wk1 : Int), mn E u hv se sf ll ∧ hi E u nx ct ∧ bd E u (hsl nx) yop ylk ykp ywc ypn ynw ysh ywk ∧ bd E u 1 op1 lk1 kp1 wc1 pn1 nw1 sh1 wk1 ∧ bd E u 7 op lk kp wc pn nw sh wk ∧ ((op1, lk1, kp1, wc1, pn1, nw1, sh1, wk1) = (enterF op lk kp wc pn nw sh wk r c0).2)) ∧ ∀ j : Nat, (j < 1 ∨ 1 + 12 ≤ j) → u j = σ j) := by
  have f0 : σ 0 = oB 4 [.ref (xad E 1), .ref (xad E 7), .ref (xad E 13), .ref (xad E 19), .int (iZ (b2 hv)), .ref (xad E 73), .ref (xad E 75), .ref (xad E 81), .int (iZ se), .int (iZ sf), .ref (xad E 84), .int (iZ ll)] := hr0
  obtain ⟨f73, f74⟩ := hr1
  obtain ⟨fhsl_nx_0, fhsl_nx_1, fhsl_nx_2, fhsl_nx_3, fhsl_nx_4, ro2, fhsl_nx_5⟩ := hr2
  obtain ⟨f1, f2, f3, f4, f5, ro3, f6⟩ := hr3
  obtain ⟨f7, f8, f9, f10, f11, ro4, f12⟩ := hr4
  refine XI_of (by decide) rfl (Nat.le_of_ble_eq_true rfl) ?_
  intro p e s m args below meth c Q ls G hH hl hQ
  obtain ⟨hx, hb, hml, hown, hts, hK, hST, hlocks, hr, hno⟩ := G
  have hOK := hSF.1
  have hown : s.vm.findClass RX6 = some m.cls := hown
  have hl : lv_has ls 3 [(0, .ref (xad E 0)), (1, .int (iZ r)), (2, .int (iZ c0))] := hl
  have hinX6 : ∀ w ∈ u_ws RX6 TX6 12, w ∈ wsX6_addWalker := fun w h => (List.mem_cons_of_mem _ (List.mem_append_left _ (List.mem_append_left _ (List.mem_append_left _ (List.mem_append_left _ (List.mem_append_left _ (List.mem_append_left _ (List.mem_append_left _ (List.mem_append_right _ h)))))))))
  have hhb := hsl_rg hnx.1 hnx.2
  refine lv_aload_n hx hb dX6_addWalker_0 rfl (lv_at hl 0 rfl) ?_
  refine x_get hx hb hts hown hK hH 0 (ltw (by decide)) f0 hinX6 rfl 1 (by decide) (List.mem_of_getElem? (i := 1) rfl) rfl dX6_addWalker_1 ?_
  refine lv_aload_n hx hb dX6_addWalker_4 rfl (lv_at hl 0 rfl) ?_
  refine x_get hx hb hts hown hK hH 0 (ltw (by decide)) f0 hinX6 rfl 0 (by decide) (List.mem_of_getElem? (i := 2) rfl) rfl dX6_addWalker_5 ?_
  refine x_cVV (As := [.ref (xad E 1)]) (rest := []) hx hb hml hts hown hK hST hOK hH 7 (c_X1_copyFrom l E ST hSF σ 7 1 xop xlk xkp xwc xpn xnw xsh xwk op lk kp wc pn nw sh wk ⟨f7, f8, f9, f10, f11, _, f12⟩ ⟨f1, f2, f3, f4, f5, _, f6⟩ (by omega) (by omega) (by omega)) (cwV 1 hts gX6_addWalker_X1_copyFrom rfl rfl rfl (by decide +kernel) ⟨Nat.le_of_ble_eq_true rfl, Nat.le_of_ble_eq_true rfl⟩) (ltw (by decide)) f7 rfl rfl hl.1 rfl (Nat.le_of_ble_eq_true rfl) dX6_addWalker_8 ⟨Nat.le_of_ble_eq_true rfl, Nat.le_of_ble_eq_true rfl⟩ (fun σ2 H locs hp3 hH => ?_)
  obtain ⟨⟨⟨f7, f8, f9, f10, f11, ro5, f12⟩, ⟨f1, f2, f3, f4, f5, ro6, f6⟩⟩, fr4⟩ := hp3
  have f0 : σ2 0 = oB 4 [.ref (xad E 1), .ref (xad E 7), .ref (xad E 13), .ref (xad E 19), .int (iZ (b2 hv)), .ref (xad E 73), .ref (xad E 75), .ref (xad E 81), .int (iZ se), .int (iZ sf), .ref (xad E 84), .int (iZ ll)] := (fr4 0 (by omega)).trans f0
  have f73 : σ2 73 = oB 1 [.ref (xad E 74), .int (iZ nx), .int (iZ ct)] := (fr4 73 (by omega)).trans f73
  have f74 : σ2 74 = hRow E := (fr4 74 (by omega)).trans f74
  have fhsl_nx_0 : σ2 (hsl nx) = oB 0 [.ref (xad E ((hsl nx) + 1)), .ref (xad E ((hsl nx) + 2)), .ref (xad E ((hsl nx) + 3)), .ref (xad E ((hsl nx) + 4)), .ref (xad E ((hsl nx) + 5)), .int (iZ ypn), .int (iZ ynw), .int (iZ ysh), .long (lZ ywk)] := (fr4 (hsl nx) (by omega)).trans fhsl_nx_0
  have fhsl_nx_1 : σ2 ((hsl nx) + 1) = aI E 25 yop := (fr4 ((hsl nx) + 1) (by omega)).trans fhsl_nx_1
  have fhsl_nx_2 : σ2 ((hsl nx) + 2) = aI E 25 ylk := (fr4 ((hsl nx) + 2) (by omega)).trans fhsl_nx_2
  have fhsl_nx_3 : σ2 ((hsl nx) + 3) = aI E 6 ykp := (fr4 ((hsl nx) + 3) (by omega)).trans fhsl_nx_3
  have fhsl_nx_4 : σ2 ((hsl nx) + 4) = aI E 3 ywc := (fr4 ((hsl nx) + 4) (by omega)).trans fhsl_nx_4
  have fhsl_nx_5 : σ2 ((hsl nx) + 5) = aI E 5 ro2 := (fr4 ((hsl nx) + 5) (by omega)).trans fhsl_nx_5
  refine lv_aload_n hx hb dX6_addWalker_11 rfl (lv_at hl 0 rfl) ?_
  refine lv_aload_n hx hb dX6_addWalker_12 rfl (lv_at hl 0 rfl) ?_
  refine x_get hx hb hts hown hK hH 0 (ltw (by decide)) f0 hinX6 rfl 0 (by decide) (List.mem_of_getElem? (i := 2) rfl) rfl dX6_addWalker_13 ?_
  refine lv_iload_n hx hb dX6_addWalker_16 rfl (lv_at hl 1 rfl) ?_
  refine lv_iload_n hx hb dX6_addWalker_17 rfl (lv_at hl 2 rfl) ?_
  refine x_cVIE (As := [.int (iZ r), .int (iZ c0)]) (rest := [.ref (xad E 0)]) hx hb hml hts hown hK hST hOK hH 1 (c_X1_enterWalker l E ST hSF σ2 1 r c0 op lk kp wc pn nw sh wk ⟨f1, f2, f3, f4, f5, _, f6⟩ (by omega) (by omega) (by omega) (by omega)) (cwV 2 hts gX6_addWalker_X1_enterWalker rfl rfl rfl (by decide +kernel) ⟨Nat.le_of_ble_eq_true rfl, Nat.le_of_ble_eq_true rfl⟩) (ltw (by decide)) f1 rfl rfl hl.1 rfl (Nat.le_of_ble_eq_true rfl) dX6_addWalker_18 ⟨Nat.le_of_ble_eq_true rfl, Nat.le_of_ble_eq_true rfl⟩ (fun z u h => h) (fun σ9 H locs hp10 hH => ?_)
  obtain ⟨⟨op1_12, lk1_13, kp1_14, wc1_15, pn1_16, nw1_17, sh1_18, wk1_19, ⟨f1, f2, f3, f4, f5, ro20, f6⟩, hf21⟩, fr11⟩ := hp10
  have f0 : σ9 0 = oB 4 [.ref (xad E 1), .ref (xad E 7), .ref (xad E 13), .ref (xad E 19), .int (iZ (b2 hv)), .ref (xad E 73), .ref (xad E 75), .ref (xad E 81), .int (iZ se), .int (iZ sf), .ref (xad E 84), .int (iZ ll)] := (fr11 0 (by omega)).trans f0
  have f73 : σ9 73 = oB 1 [.ref (xad E 74), .int (iZ nx), .int (iZ ct)] := (fr11 73 (by omega)).trans f73
  have f74 : σ9 74 = hRow E := (fr11 74 (by omega)).trans f74
  have fhsl_nx_0 : σ9 (hsl nx) = oB 0 [.ref (xad E ((hsl nx) + 1)), .ref (xad E ((hsl nx) + 2)), .ref (xad E ((hsl nx) + 3)), .ref (xad E ((hsl nx) + 4)), .ref (xad E ((hsl nx) + 5)), .int (iZ ypn), .int (iZ ynw), .int (iZ ysh), .long (lZ ywk)] := (fr11 (hsl nx) (by omega)).trans fhsl_nx_0
  have fhsl_nx_1 : σ9 ((hsl nx) + 1) = aI E 25 yop := (fr11 ((hsl nx) + 1) (by omega)).trans fhsl_nx_1
  have fhsl_nx_2 : σ9 ((hsl nx) + 2) = aI E 25 ylk := (fr11 ((hsl nx) + 2) (by omega)).trans fhsl_nx_2
  have fhsl_nx_3 : σ9 ((hsl nx) + 3) = aI E 6 ykp := (fr11 ((hsl nx) + 3) (by omega)).trans fhsl_nx_3
  have fhsl_nx_4 : σ9 ((hsl nx) + 4) = aI E 3 ywc := (fr11 ((hsl nx) + 4) (by omega)).trans fhsl_nx_4
  have fhsl_nx_5 : σ9 ((hsl nx) + 5) = aI E 5 ro2 := (fr11 ((hsl nx) + 5) (by omega)).trans fhsl_nx_5
  have f7 : σ9 7 = oB 0 [.ref (xad E 8), .ref (xad E 9), .ref (xad E 10), .ref (xad E 11), .ref (xad E 12), .int (iZ pn), .int (iZ nw), .int (iZ sh), .long (lZ wk)] := (fr11 7 (by omega)).trans f7
  have f8 : σ9 8 = aI E 25 op := (fr11 8 (by omega)).trans f8
  have f9 : σ9 9 = aI E 25 lk := (fr11 9 (by omega)).trans f9
  have f10 : σ9 10 = aI E 6 kp := (fr11 10 (by omega)).trans f10
  have f11 : σ9 11 = aI E 3 wc := (fr11 11 (by omega)).trans f11
  have f12 : σ9 12 = aI E 5 ro5 := (fr11 12 (by omega)).trans f12
  refine x_cXVIE (As := [.int (iZ ((enterF op lk kp wc pn nw sh wk r c0).1))]) (rest := []) hx hb hml hts hown hK hST hOK hH 0 (c_X6_settle l E ST hSF htr σ9 ((enterF op lk kp wc pn nw sh wk r c0).1) hv se sf ll nx ct yop ylk ykp ywc ypn ynw ysh ywk op lk kp wc pn nw sh wk f0 ⟨f73, f74⟩ ⟨fhsl_nx_0, fhsl_nx_1, fhsl_nx_2, fhsl_nx_3, fhsl_nx_4, _, fhsl_nx_5⟩ ⟨f7, f8, f9, f10, f11, _, f12⟩ (by omega) (by omega) (by omega)) (cwV 1 hts gX6_addWalker_X6_settle rfl rfl rfl (by decide +kernel) ⟨Nat.le_of_ble_eq_true rfl, Nat.le_of_ble_eq_true rfl⟩) (ltw (by decide)) f0 rfl rfl hl.1 rfl (Nat.le_of_ble_eq_true rfl) dX6_addWalker_21 ⟨Nat.le_of_ble_eq_true rfl, Nat.le_of_ble_eq_true rfl⟩ ?_ (fun z u h => h) (fun σ24 H locs hp25 hH => ?_)
  · intro nx ce q9 σ24 H locs hp25 hH hce hcv hcl
    subst hQ
    obtain ⟨hn, hu⟩ := hp25
    rw [hu] at hH
    exact x_out hno hlocks hH hce hcv hcl ⟨(by first | exact hn | simp_all | omega), ⟨op1_12, lk1_13, kp1_14, wc1_15, pn1_16, nw1_17, sh1_18, wk1_19, f0, ⟨f73, f74⟩, ⟨fhsl_nx_0, fhsl_nx_1, fhsl_nx_2, fhsl_nx_3, fhsl_nx_4, _, fhsl_nx_5⟩, ⟨f1, f2, f3, f4, f5, _, f6⟩, ⟨f7, f8, f9, f10, f11, _, f12⟩, (by first | assumption | omega | simp_all)⟩, fun j hj0 => ((fr11 j (by omega)).trans (fr4 j (by omega)))⟩ (Nat.le_of_ble_eq_true rfl) (Nat.le_of_ble_eq_true rfl)
  · obtain ⟨⟨f0, ⟨f73, f74⟩, ⟨fhsl_nx_0, fhsl_nx_1, fhsl_nx_2, fhsl_nx_3, fhsl_nx_4, ro27, fhsl_nx_5⟩, ⟨f7, f8, f9, f10, f11, ro28, f12⟩, hf29⟩, fr26⟩ := hp25
    have f1 : σ24 1 = oB 0 [.ref (xad E 2), .ref (xad E 3), .ref (xad E 4), .ref (xad E 5), .ref (xad E 6), .int (iZ pn1_16), .int (iZ nw1_17), .int (iZ sh1_18), .long (lZ wk1_19)] := (fr26 1 (by omega) (by omega)).trans f1
    have f2 : σ24 2 = aI E 25 op1_12 := (fr26 2 (by omega) (by omega)).trans f2
    have f3 : σ24 3 = aI E 25 lk1_13 := (fr26 3 (by omega) (by omega)).trans f3
    have f4 : σ24 4 = aI E 6 kp1_14 := (fr26 4 (by omega) (by omega)).trans f4
    have f5 : σ24 5 = aI E 3 wc1_15 := (fr26 5 (by omega) (by omega)).trans f5
    have f6 : σ24 6 = aI E 5 ro20 := (fr26 6 (by omega) (by omega)).trans f6
    subst hQ
    exact x_ireX hx hb hr hlocks hH (Nat.le_of_ble_eq_true rfl) (Nat.le_of_ble_eq_true rfl) ⟨(show ((enterF op lk kp wc pn nw sh wk r c0).1) = ((enterF op lk kp wc pn nw sh wk r c0).1) from (by first | rfl | omega | simp_all)), ⟨op1_12, lk1_13, kp1_14, wc1_15, pn1_16, nw1_17, sh1_18, wk1_19, f0, ⟨f73, f74⟩, ⟨fhsl_nx_0, fhsl_nx_1, fhsl_nx_2, fhsl_nx_3, fhsl_nx_4, _, fhsl_nx_5⟩, ⟨f1, f2, f3, f4, f5, _, f6⟩, ⟨f7, f8, f9, f10, f11, _, f12⟩, (by first | assumption | omega | simp_all), (by first | assumption | omega | simp_all)⟩, fun j hj0 hj1 hj2 => ((fr26 j (by omega) (by omega)).trans ((fr11 j (by omega)).trans (fr4 j (by omega))))⟩ dX6_addWalker_24

def rm_X6_walk : Room := { frames := 7, cells := 1, slots := 6, locals := 111 }
set_option maxRecDepth 100000 in
set_option maxHeartbeats 4000000 in
theorem c_X6_walk (l : Launch) (E : xE) (ST : xST) (hSF : SF ST) (htr : l.stackTraces = false) (σ : xW) (w : Int) (r : Int) (c0 : Int) (hv : Bool) (se : Int) (sf : Int) (ll : Int) (nx : Int) (ct : Int) (yop : Int → Int) (ylk : Int → Int) (ykp : Int → Int) (ywc : Int → Int) (ypn : Int) (ynw : Int) (ysh : Int) (ywk : Int) (op : Int → Int) (lk : Int → Int) (kp : Int → Int) (wc : Int → Int) (pn : Int) (nw : Int) (sh : Int) (wk : Int) (xop : Int → Int) (xlk : Int → Int) (xkp : Int → Int) (xwc : Int → Int) (xpn : Int) (xnw : Int) (xsh : Int) (xwk : Int) (le : Int → Int) (rl : Int → Int) (fs : Int → Int) (qu : Int → Int) (gr : Int → Int) (hr0 : mn E σ hv se sf ll) (hr1 : hi E σ nx ct) (hr2 : bd E σ (hsl nx) yop ylk ykp ywc ypn ynw ysh ywk) (hr3 : bd E σ 1 op lk kp wc pn nw sh wk) (hr4 : bd E σ 7 xop xlk xkp xwc xpn xnw xsh xwk) (hr5 : sr E σ le rl fs qu gr) (hnx : 0 ≤ nx ∧ nx < 8) (hct : 0 ≤ ct ∧ ct ≤ 8) (hB : BI op lk kp wc pn nw) (hr9 : rg r) (hc9 : rg c0) (hw9 : rg w) (hrz : rg (walkF op lk kp wc pn nw sh wk w r c0).1) : XI l E ST yX6_walk wsX6_walk rm_X6_walk [.ref (xad E 0), .int (iZ w), .int (iZ r), .int (iZ c0)] σ (fun (z : Int) (u : xW) => z = (walkF op lk kp wc pn nw sh wk w r c0).1 ∧ (∃ (op1 lk1 kp1 wc1 : Int → Int) (pn1 nw1 sh1 wk1 : Int) (le1 rl1 fs1 qu1 gr1 : Int → Int), mn E u hv se sf ll ∧ hi E u ((nx + 1) % 8) (if 8 < (ct + 1) then 8 else (ct + 1)) ∧ bd E u (hsl nx) op lk kp wc pn nw sh wk ∧ bd E u 1 op1 lk1 kp1 wc1 pn1 nw1 sh1 wk1 ∧ bd E u 7 op lk kp wc pn nw sh wk ∧ sr E u le1 rl1 fs1 qu1 gr1 ∧ ((op1, lk1, kp1, wc1, pn1, nw1, sh1, wk1) = (walkF op lk kp wc pn nw sh wk w r c0).2) ∧ ((walkF op lk kp wc pn nw sh wk w r c0).1 < -5 ∨ -1 < (walkF op lk kp wc pn nw sh wk w r c0).1)) ∧ ∀ j : Nat, j ≠ 73 → (j < hsl nx ∨ hsl nx + 6 ≤ j) → (j < 1 ∨ 1 + 12 ≤ j) → (j < 75 ∨ 75 + 6 ≤ j) → u j = σ j) (fun (n : String) (u : xW) => ((n = "java/lang/IndexOutOfBoundsException" ∧ (walkF op lk kp wc pn nw sh wk w r c0).1 = -1) ∨ (n = "java/lang/IllegalArgumentException" ∧ (walkF op lk kp wc pn nw sh wk w r c0).1 = -2) ∨ (n = "java/lang/IllegalStateException" ∧ (walkF op lk kp wc pn nw sh wk w r c0).1 = -3) ∨ (n = "java/lang/UnsupportedOperationException" ∧ (walkF op lk kp wc pn nw sh wk w r c0).1 = -4) ∨ (n = "java/util/NoSuchElementException" ∧ (walkF op lk kp wc pn nw sh wk w r c0).1 = -5)) ∧ (∃ (op1 lk1 kp1 wc1 : Int → Int) (pn1 nw1 sh1 wk1 : Int) (le1 rl1 fs1 qu1 gr1 : Int → Int), mn E u hv se sf ll ∧ hi E u nx ct ∧ bd E u (hsl nx) yop ylk ykp ywc ypn ynw ysh ywk ∧ bd E u 1 op1 lk1 kp1 wc1 pn1 nw1 sh1 wk1 ∧ bd E u 7 op lk kp wc pn nw sh wk ∧ sr E u le1 rl1 fs1 qu1 gr1 ∧ ((op1, lk1, kp1, wc1, pn1, nw1, sh1, wk1) = (walkF op lk kp wc pn nw sh wk w r c0).2)) ∧ ∀ j : Nat, (j < 1 ∨ 1 + 12 ≤ j) → (j < 75 ∨ 75 + 6 ≤ j) → u j = σ j) := by
  have f0 : σ 0 = oB 4 [.ref (xad E 1), .ref (xad E 7), .ref (xad E 13), .ref (xad E 19), .int (iZ (b2 hv)), .ref (xad E 73), .ref (xad E 75), .ref (xad E 81), .int (iZ se), .int (iZ sf), .ref (xad E 84), .int (iZ ll)] := hr0
  obtain ⟨f73, f74⟩ := hr1
  obtain ⟨fhsl_nx_0, fhsl_nx_1, fhsl_nx_2, fhsl_nx_3, fhsl_nx_4, ro2, fhsl_nx_5⟩ := hr2
  obtain ⟨f1, f2, f3, f4, f5, ro3, f6⟩ := hr3
  obtain ⟨f7, f8, f9, f10, f11, ro4, f12⟩ := hr4
  obtain ⟨f75, f76, f77, f78, f79, f80⟩ := hr5
  refine XI_of (by decide) rfl (Nat.le_of_ble_eq_true rfl) ?_
  intro p e s m args below meth c Q ls G hH hl hQ
  obtain ⟨hx, hb, hml, hown, hts, hK, hST, hlocks, hr, hno⟩ := G
  have hOK := hSF.1
  have hown : s.vm.findClass RX6 = some m.cls := hown
  have hl : lv_has ls 4 [(0, .ref (xad E 0)), (1, .int (iZ w)), (2, .int (iZ r)), (3, .int (iZ c0))] := hl
  have hinX6 : ∀ w ∈ u_ws RX6 TX6 12, w ∈ wsX6_walk := fun w h => (List.mem_cons_of_mem _ (List.mem_append_left _ (List.mem_append_left _ (List.mem_append_left _ (List.mem_append_left _ (List.mem_append_left _ (List.mem_append_left _ (List.mem_append_left _ (List.mem_append_left _ (List.mem_append_right _ h))))))))))
  have hhb := hsl_rg hnx.1 hnx.2
  refine lv_aload_n hx hb dX6_walk_0 rfl (lv_at hl 0 rfl) ?_
  refine x_get hx hb hts hown hK hH 0 (ltw (by decide)) f0 hinX6 rfl 1 (by decide) (List.mem_of_getElem? (i := 1) rfl) rfl dX6_walk_1 ?_
  refine lv_aload_n hx hb dX6_walk_4 rfl (lv_at hl 0 rfl) ?_
  refine x_get hx hb hts hown hK hH 0 (ltw (by decide)) f0 hinX6 rfl 0 (by decide) (List.mem_of_getElem? (i := 2) rfl) rfl dX6_walk_5 ?_
  refine x_cVV (As := [.ref (xad E 1)]) (rest := []) hx hb hml hts hown hK hST hOK hH 7 (c_X1_copyFrom l E ST hSF σ 7 1 xop xlk xkp xwc xpn xnw xsh xwk op lk kp wc pn nw sh wk ⟨f7, f8, f9, f10, f11, _, f12⟩ ⟨f1, f2, f3, f4, f5, _, f6⟩ (by omega) (by omega) (by omega)) (cwV 1 hts gX6_walk_X1_copyFrom rfl rfl rfl (by decide +kernel) ⟨Nat.le_of_ble_eq_true rfl, Nat.le_of_ble_eq_true rfl⟩) (ltw (by decide)) f7 rfl rfl hl.1 rfl (Nat.le_of_ble_eq_true rfl) dX6_walk_8 ⟨Nat.le_of_ble_eq_true rfl, Nat.le_of_ble_eq_true rfl⟩ (fun σ2 H locs hp3 hH => ?_)
  obtain ⟨⟨⟨f7, f8, f9, f10, f11, ro5, f12⟩, ⟨f1, f2, f3, f4, f5, ro6, f6⟩⟩, fr4⟩ := hp3
  have f0 : σ2 0 = oB 4 [.ref (xad E 1), .ref (xad E 7), .ref (xad E 13), .ref (xad E 19), .int (iZ (b2 hv)), .ref (xad E 73), .ref (xad E 75), .ref (xad E 81), .int (iZ se), .int (iZ sf), .ref (xad E 84), .int (iZ ll)] := (fr4 0 (by omega)).trans f0
  have f73 : σ2 73 = oB 1 [.ref (xad E 74), .int (iZ nx), .int (iZ ct)] := (fr4 73 (by omega)).trans f73
  have f74 : σ2 74 = hRow E := (fr4 74 (by omega)).trans f74
  have fhsl_nx_0 : σ2 (hsl nx) = oB 0 [.ref (xad E ((hsl nx) + 1)), .ref (xad E ((hsl nx) + 2)), .ref (xad E ((hsl nx) + 3)), .ref (xad E ((hsl nx) + 4)), .ref (xad E ((hsl nx) + 5)), .int (iZ ypn), .int (iZ ynw), .int (iZ ysh), .long (lZ ywk)] := (fr4 (hsl nx) (by omega)).trans fhsl_nx_0
  have fhsl_nx_1 : σ2 ((hsl nx) + 1) = aI E 25 yop := (fr4 ((hsl nx) + 1) (by omega)).trans fhsl_nx_1
  have fhsl_nx_2 : σ2 ((hsl nx) + 2) = aI E 25 ylk := (fr4 ((hsl nx) + 2) (by omega)).trans fhsl_nx_2
  have fhsl_nx_3 : σ2 ((hsl nx) + 3) = aI E 6 ykp := (fr4 ((hsl nx) + 3) (by omega)).trans fhsl_nx_3
  have fhsl_nx_4 : σ2 ((hsl nx) + 4) = aI E 3 ywc := (fr4 ((hsl nx) + 4) (by omega)).trans fhsl_nx_4
  have fhsl_nx_5 : σ2 ((hsl nx) + 5) = aI E 5 ro2 := (fr4 ((hsl nx) + 5) (by omega)).trans fhsl_nx_5
  have f75 : σ2 75 = oB 3 [.ref (xad E 76), .ref (xad E 77), .ref (xad E 78), .ref (xad E 79), .ref (xad E 80)] := (fr4 75 (by omega)).trans f75
  have f76 : σ2 76 = aI E 25 le := (fr4 76 (by omega)).trans f76
  have f77 : σ2 77 = aI E 25 rl := (fr4 77 (by omega)).trans f77
  have f78 : σ2 78 = aI E 25 fs := (fr4 78 (by omega)).trans f78
  have f79 : σ2 79 = aI E 25 qu := (fr4 79 (by omega)).trans f79
  have f80 : σ2 80 = aI E 25 gr := (fr4 80 (by omega)).trans f80
  refine lv_aload_n hx hb dX6_walk_11 rfl (lv_at hl 0 rfl) ?_
  refine lv_aload_n hx hb dX6_walk_12 rfl (lv_at hl 0 rfl) ?_
  refine x_get hx hb hts hown hK hH 0 (ltw (by decide)) f0 hinX6 rfl 0 (by decide) (List.mem_of_getElem? (i := 2) rfl) rfl dX6_walk_13 ?_
  refine lv_aload_n hx hb dX6_walk_16 rfl (lv_at hl 0 rfl) ?_
  refine x_get hx hb hts hown hK hH 0 (ltw (by decide)) f0 hinX6 rfl 6 (by decide) (List.mem_of_getElem? (i := 3) rfl) rfl dX6_walk_17 ?_
  refine lv_iload_n hx hb dX6_walk_20 rfl (lv_at hl 1 rfl) ?_
  refine lv_iload_n hx hb dX6_walk_21 rfl (lv_at hl 2 rfl) ?_
  refine lv_iload_n hx hb dX6_walk_22 rfl (lv_at hl 3 rfl) ?_
  refine x_cVIE (As := [.ref (xad E 75), .int (iZ w), .int (iZ r), .int (iZ c0)]) (rest := [.ref (xad E 0)]) hx hb hml hts hown hK hST hOK hH 1 (c_X1_moveWalker l E ST hSF σ2 1 w r c0 op lk kp wc pn nw sh wk le rl fs qu gr ⟨f1, f2, f3, f4, f5, _, f6⟩ ⟨f75, f76, f77, f78, f79, f80⟩ (by omega) (by omega) (by omega) (by omega) (by omega)) (cwV 4 hts gX6_walk_X1_moveWalker rfl rfl rfl (by decide +kernel) ⟨Nat.le_of_ble_eq_true rfl, Nat.le_of_ble_eq_true rfl⟩) (ltw (by decide)) f1 rfl rfl hl.1 rfl (Nat.le_of_ble_eq_true rfl) dX6_walk_23 ⟨Nat.le_of_ble_eq_true rfl, Nat.le_of_ble_eq_true rfl⟩ (fun z u h => h) (fun σ9 H locs hp10 hH => ?_)
  obtain ⟨⟨op1_12, lk1_13, kp1_14, wc1_15, pn1_16, nw1_17, sh1_18, wk1_19, le1_20, fs1_21, qu1_22, ⟨f1, f2, f3, f4, f5, ro23, f6⟩, ⟨f75, f76, f77, f78, f79, f80⟩, hf24⟩, fr11⟩ := hp10
  have f0 : σ9 0 = oB 4 [.ref (xad E 1), .ref (xad E 7), .ref (xad E 13), .ref (xad E 19), .int (iZ (b2 hv)), .ref (xad E 73), .ref (xad E 75), .ref (xad E 81), .int (iZ se), .int (iZ sf), .ref (xad E 84), .int (iZ ll)] := (fr11 0 (by omega) (by omega) (by omega) (by omega)).trans f0
  have f73 : σ9 73 = oB 1 [.ref (xad E 74), .int (iZ nx), .int (iZ ct)] := (fr11 73 (by omega) (by omega) (by omega) (by omega)).trans f73
  have f74 : σ9 74 = hRow E := (fr11 74 (by omega) (by omega) (by omega) (by omega)).trans f74
  have fhsl_nx_0 : σ9 (hsl nx) = oB 0 [.ref (xad E ((hsl nx) + 1)), .ref (xad E ((hsl nx) + 2)), .ref (xad E ((hsl nx) + 3)), .ref (xad E ((hsl nx) + 4)), .ref (xad E ((hsl nx) + 5)), .int (iZ ypn), .int (iZ ynw), .int (iZ ysh), .long (lZ ywk)] := (fr11 (hsl nx) (by omega) (by omega) (by omega) (by omega)).trans fhsl_nx_0
  have fhsl_nx_1 : σ9 ((hsl nx) + 1) = aI E 25 yop := (fr11 ((hsl nx) + 1) (by omega) (by omega) (by omega) (by omega)).trans fhsl_nx_1
  have fhsl_nx_2 : σ9 ((hsl nx) + 2) = aI E 25 ylk := (fr11 ((hsl nx) + 2) (by omega) (by omega) (by omega) (by omega)).trans fhsl_nx_2
  have fhsl_nx_3 : σ9 ((hsl nx) + 3) = aI E 6 ykp := (fr11 ((hsl nx) + 3) (by omega) (by omega) (by omega) (by omega)).trans fhsl_nx_3
  have fhsl_nx_4 : σ9 ((hsl nx) + 4) = aI E 3 ywc := (fr11 ((hsl nx) + 4) (by omega) (by omega) (by omega) (by omega)).trans fhsl_nx_4
  have fhsl_nx_5 : σ9 ((hsl nx) + 5) = aI E 5 ro2 := (fr11 ((hsl nx) + 5) (by omega) (by omega) (by omega) (by omega)).trans fhsl_nx_5
  have f7 : σ9 7 = oB 0 [.ref (xad E 8), .ref (xad E 9), .ref (xad E 10), .ref (xad E 11), .ref (xad E 12), .int (iZ pn), .int (iZ nw), .int (iZ sh), .long (lZ wk)] := (fr11 7 (by omega) (by omega) (by omega) (by omega)).trans f7
  have f8 : σ9 8 = aI E 25 op := (fr11 8 (by omega) (by omega) (by omega) (by omega)).trans f8
  have f9 : σ9 9 = aI E 25 lk := (fr11 9 (by omega) (by omega) (by omega) (by omega)).trans f9
  have f10 : σ9 10 = aI E 6 kp := (fr11 10 (by omega) (by omega) (by omega) (by omega)).trans f10
  have f11 : σ9 11 = aI E 3 wc := (fr11 11 (by omega) (by omega) (by omega) (by omega)).trans f11
  have f12 : σ9 12 = aI E 5 ro5 := (fr11 12 (by omega) (by omega) (by omega) (by omega)).trans f12
  refine x_cXVIE (As := [.int (iZ ((walkF op lk kp wc pn nw sh wk w r c0).1))]) (rest := []) hx hb hml hts hown hK hST hOK hH 0 (c_X6_settle l E ST hSF htr σ9 ((walkF op lk kp wc pn nw sh wk w r c0).1) hv se sf ll nx ct yop ylk ykp ywc ypn ynw ysh ywk op lk kp wc pn nw sh wk f0 ⟨f73, f74⟩ ⟨fhsl_nx_0, fhsl_nx_1, fhsl_nx_2, fhsl_nx_3, fhsl_nx_4, _, fhsl_nx_5⟩ ⟨f7, f8, f9, f10, f11, _, f12⟩ (by omega) (by omega) (by omega)) (cwV 1 hts gX6_walk_X6_settle rfl rfl rfl (by decide +kernel) ⟨Nat.le_of_ble_eq_true rfl, Nat.le_of_ble_eq_true rfl⟩) (ltw (by decide)) f0 rfl rfl hl.1 rfl (Nat.le_of_ble_eq_true rfl) dX6_walk_26 ⟨Nat.le_of_ble_eq_true rfl, Nat.le_of_ble_eq_true rfl⟩ ?_ (fun z u h => h) (fun σ27 H locs hp28 hH => ?_)
  · intro nx ce q9 σ27 H locs hp28 hH hce hcv hcl
    subst hQ
    obtain ⟨hn, hu⟩ := hp28
    rw [hu] at hH
    exact x_out hno hlocks hH hce hcv hcl ⟨(by first | exact hn | simp_all | omega), ⟨op1_12, lk1_13, kp1_14, wc1_15, pn1_16, nw1_17, sh1_18, wk1_19, le1_20, rl, fs1_21, qu1_22, gr, f0, ⟨f73, f74⟩, ⟨fhsl_nx_0, fhsl_nx_1, fhsl_nx_2, fhsl_nx_3, fhsl_nx_4, _, fhsl_nx_5⟩, ⟨f1, f2, f3, f4, f5, _, f6⟩, ⟨f7, f8, f9, f10, f11, _, f12⟩, ⟨f75, f76, f77, f78, f79, f80⟩, (by first | assumption | omega | simp_all)⟩, fun j hj0 hj1 => ((fr11 j (by omega) (by omega) (by omega) (by omega)).trans (fr4 j (by omega)))⟩ (Nat.le_of_ble_eq_true rfl) (Nat.le_of_ble_eq_true rfl)
  · obtain ⟨⟨f0, ⟨f73, f74⟩, ⟨fhsl_nx_0, fhsl_nx_1, fhsl_nx_2, fhsl_nx_3, fhsl_nx_4, ro30, fhsl_nx_5⟩, ⟨f7, f8, f9, f10, f11, ro31, f12⟩, hf32⟩, fr29⟩ := hp28
    have f1 : σ27 1 = oB 0 [.ref (xad E 2), .ref (xad E 3), .ref (xad E 4), .ref (xad E 5), .ref (xad E 6), .int (iZ pn1_16), .int (iZ nw1_17), .int (iZ sh1_18), .long (lZ wk1_19)] := (fr29 1 (by omega) (by omega)).trans f1
    have f2 : σ27 2 = aI E 25 op1_12 := (fr29 2 (by omega) (by omega)).trans f2
    have f3 : σ27 3 = aI E 25 lk1_13 := (fr29 3 (by omega) (by omega)).trans f3
    have f4 : σ27 4 = aI E 6 kp1_14 := (fr29 4 (by omega) (by omega)).trans f4
    have f5 : σ27 5 = aI E 3 wc1_15 := (fr29 5 (by omega) (by omega)).trans f5
    have f6 : σ27 6 = aI E 5 ro23 := (fr29 6 (by omega) (by omega)).trans f6
    have f75 : σ27 75 = oB 3 [.ref (xad E 76), .ref (xad E 77), .ref (xad E 78), .ref (xad E 79), .ref (xad E 80)] := (fr29 75 (by omega) (by omega)).trans f75
    have f76 : σ27 76 = aI E 25 le1_20 := (fr29 76 (by omega) (by omega)).trans f76
    have f77 : σ27 77 = aI E 25 rl := (fr29 77 (by omega) (by omega)).trans f77
    have f78 : σ27 78 = aI E 25 fs1_21 := (fr29 78 (by omega) (by omega)).trans f78
    have f79 : σ27 79 = aI E 25 qu1_22 := (fr29 79 (by omega) (by omega)).trans f79
    have f80 : σ27 80 = aI E 25 gr := (fr29 80 (by omega) (by omega)).trans f80
    subst hQ
    exact x_ireX hx hb hr hlocks hH (Nat.le_of_ble_eq_true rfl) (Nat.le_of_ble_eq_true rfl) ⟨(show ((walkF op lk kp wc pn nw sh wk w r c0).1) = ((walkF op lk kp wc pn nw sh wk w r c0).1) from (by first | rfl | omega | simp_all)), ⟨op1_12, lk1_13, kp1_14, wc1_15, pn1_16, nw1_17, sh1_18, wk1_19, le1_20, rl, fs1_21, qu1_22, gr, f0, ⟨f73, f74⟩, ⟨fhsl_nx_0, fhsl_nx_1, fhsl_nx_2, fhsl_nx_3, fhsl_nx_4, _, fhsl_nx_5⟩, ⟨f1, f2, f3, f4, f5, _, f6⟩, ⟨f7, f8, f9, f10, f11, _, f12⟩, ⟨f75, f76, f77, f78, f79, f80⟩, (by first | assumption | omega | simp_all), (by first | assumption | omega | simp_all)⟩, fun j hj0 hj1 hj2 hj3 => ((fr29 j (by omega) (by omega)).trans ((fr11 j (by omega) (by omega) (by omega) (by omega)).trans (fr4 j (by omega))))⟩ dX6_walk_29
