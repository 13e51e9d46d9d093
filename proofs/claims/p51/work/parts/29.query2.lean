def rm_X6_pathLength : Room := { frames := 7, cells := 3, slots := 18, locals := 111 }
set_option maxRecDepth 100000 in
set_option maxHeartbeats 4000000 in
theorem c_X6_pathLength (l : Launch) (E : xE) (ST : xST) (hSF : SF ST) (htr : l.stackTraces = false) (σ : xW) (w : Int) (r : Int) (c0 : Int) (hv : Bool) (se : Int) (sf : Int) (ll : Int) (op : Int → Int) (lk : Int → Int) (kp : Int → Int) (wc : Int → Int) (pn : Int) (nw : Int) (sh : Int) (wk : Int) (le : Int → Int) (rl : Int → Int) (fs : Int → Int) (qu : Int → Int) (gr : Int → Int) (hr0 : mn E σ hv se sf ll) (hr1 : bd E σ 1 op lk kp wc pn nw sh wk) (hr2 : sr E σ le rl fs qu gr) (hB : BI op lk kp wc pn nw) (hr9 : rg r) (hc9 : rg c0) (hw9 : rg w) : XI l E ST yX6_pathLength wsX6_pathLength rm_X6_pathLength [.ref (xad E 0), .int (iZ w), .int (iZ r), .int (iZ c0)] σ (fun (z : Int) (u : xW) => z = dz (Gw op lk kp w) (wc w) (r * 5 + c0) ∧ (∃ (le1 rl1 fs1 qu1 gr1 : Int → Int), mn E u hv se sf ll ∧ bd E u 1 op lk kp wc pn nw sh wk ∧ sr E u le1 rl1 fs1 qu1 gr1 ∧ (0 ≤ w ∧ w < nw) ∧ (okC r c0) ∧ (dz (Gw op lk kp w) (wc w) (r * 5 + c0) < 25)) ∧ ∀ j : Nat, (j < 75 ∨ 75 + 6 ≤ j) → u j = σ j) (fun (n : String) (u : xW) => ((n = "java/lang/IndexOutOfBoundsException" ∧ ¬ ((0 ≤ w ∧ w < nw) ∧ okC r c0)) ∨ (n = "java/util/NoSuchElementException" ∧ ((0 ≤ w ∧ w < nw) ∧ okC r c0) ∧ 25 ≤ dz (Gw op lk kp w) (wc w) (r * 5 + c0))) ∧ (∃ (le1 rl1 fs1 qu1 gr1 : Int → Int), mn E u hv se sf ll ∧ bd E u 1 op lk kp wc pn nw sh wk ∧ sr E u le1 rl1 fs1 qu1 gr1) ∧ ∀ j : Nat, (j < 75 ∨ 75 + 6 ≤ j) → u j = σ j) := by
  have f0 : σ 0 = oB 4 [.ref (xad E 1), .ref (xad E 7), .ref (xad E 13), .ref (xad E 19), .int (iZ (b2 hv)), .ref (xad E 73), .ref (xad E 75), .ref (xad E 81), .int (iZ se), .int (iZ sf), .ref (xad E 84), .int (iZ ll)] := hr0
  obtain ⟨f1, f2, f3, f4, f5, ro1, f6⟩ := hr1
  obtain ⟨f75, f76, f77, f78, f79, f80⟩ := hr2
  refine XI_of (by decide) rfl (Nat.le_of_ble_eq_true rfl) ?_
  intro p e s m args below meth c Q ls G hH hl hQ
  obtain ⟨hx, hb, hml, hown, hts, hK, hST, hlocks, hr, hno⟩ := G
  have hOK := hSF.1
  have hown : s.vm.findClass RX6 = some m.cls := hown
  have hl : lv_has ls 5 [(0, .ref (xad E 0)), (1, .int (iZ w)), (2, .int (iZ r)), (3, .int (iZ c0))] := hl
  have hinX5 : ∀ w ∈ u_ws RX5 TX5 5, w ∈ wsX6_pathLength := fun w h => (List.mem_cons_of_mem _ (List.mem_append_left _ (List.mem_append_left _ (List.mem_append_left _ (List.mem_append_right _ h)))))
  have hinX6 : ∀ w ∈ u_ws RX6 TX6 12, w ∈ wsX6_pathLength := fun w h => (List.mem_cons_of_mem _ (List.mem_append_left _ (List.mem_append_left _ (List.mem_append_left _ (List.mem_append_left _ (List.mem_append_right _ h))))))
  obtain ⟨hop, hlk, hkp, hwc, hpn, hnw⟩ := id hB
  have hdr := dz_rg (G := Gw op lk kp w) (st := wc w) Gw_ok (hwc w)
  refine lv_aload_n hx hb dX6_pathLength_0 rfl (lv_at hl 0 rfl) ?_
  refine lv_iload_n hx hb dX6_pathLength_1 rfl (lv_at hl 1 rfl) ?_
  refine x_cXVIE (As := [.int (iZ w)]) (rest := []) hx hb hml hts hown hK hST hOK hH 0 (c_X6_needWalker l E ST hSF htr σ w hv se sf ll op lk kp wc pn nw sh wk f0 ⟨f1, f2, f3, f4, f5, _, f6⟩ (by omega) (by omega)) (cwV 1 hts gX6_pathLength_X6_needWalker rfl rfl rfl (by decide +kernel) ⟨Nat.le_of_ble_eq_true rfl, Nat.le_of_ble_eq_true rfl⟩) (ltw (by decide)) f0 rfl rfl hl.1 rfl (Nat.le_of_ble_eq_true rfl) dX6_pathLength_2 ⟨Nat.le_of_ble_eq_true rfl, Nat.le_of_ble_eq_true rfl⟩ ?_ (fun z u h => h) (fun σ2 H locs hp3 hH => ?_)
  · intro nx ce q9 σ2 H locs hp3 hH hce hcv hcl
    subst hQ
    obtain ⟨hn, hu⟩ := hp3
    rw [hu] at hH
    exact x_out hno hlocks hH hce hcv hcl ⟨(by simp_all <;> omega), ⟨le, rl, fs, qu, gr, f0, ⟨f1, f2, f3, f4, f5, _, f6⟩, ⟨f75, f76, f77, f78, f79, f80⟩⟩, fun j hj0 => rfl⟩ (Nat.le_of_ble_eq_true rfl) (Nat.le_of_ble_eq_true rfl)
  · obtain ⟨hf4, hu5⟩ := hp3
    rw [hu5] at hH
    refine lv_pop hx hb dX6_pathLength_5 rfl ?_
    refine lv_iload_n hx hb dX6_pathLength_6 rfl (lv_at hl 2 rfl) ?_
    refine lv_iload_n hx hb dX6_pathLength_7 rfl (lv_at hl 3 rfl) ?_
    refine x_cXSIE (As := [.int (iZ r), .int (iZ c0)]) (rest := []) hx hb hml hts hown hK hST hOK hH (c_X6_needCell l E ST hSF htr σ r c0  (by omega) (by omega)) (va_cwS 2 hts gX6_pathLength_X6_needCell rfl rfl rfl (by decide +kernel) ⟨Nat.le_of_ble_eq_true rfl, Nat.le_of_ble_eq_true rfl⟩) rfl hl.1 rfl (Nat.le_of_ble_eq_true rfl) dX6_pathLength_8 ⟨Nat.le_of_ble_eq_true rfl, Nat.le_of_ble_eq_true rfl⟩ ?_ (fun z u h => h) (fun σ7 H locs hp8 hH => ?_)
    · intro nx ce q9 σ7 H locs hp8 hH hce hcv hcl
      subst hQ
      obtain ⟨hn, hu⟩ := hp8
      rw [hu] at hH
      exact x_out hno hlocks hH hce hcv hcl ⟨(by simp_all <;> omega), ⟨le, rl, fs, qu, gr, f0, ⟨f1, f2, f3, f4, f5, _, f6⟩, ⟨f75, f76, f77, f78, f79, f80⟩⟩, fun j hj0 => rfl⟩ (Nat.le_of_ble_eq_true rfl) (Nat.le_of_ble_eq_true rfl)
    · obtain ⟨hf9, hu10⟩ := hp8
      rw [hu10] at hH
      refine lv_istore (lv' := [(4, .int (iZ (r * 5 + c0))), (0, .ref (xad E 0)), (1, .int (iZ w)), (2, .int (iZ r)), (3, .int (iZ c0))]) hx hb dX6_pathLength_11 hl (by decide) rfl (fun ls hl => ?_)
      refine lv_aload_n hx hb dX6_pathLength_13 rfl (lv_at hl 1 rfl) ?_
      refine x_get hx hb hts hown hK hH 0 (ltw (by decide)) f0 hinX6 rfl 6 (by decide) (List.mem_of_getElem? (i := 1) rfl) rfl dX6_pathLength_14 ?_
      refine lv_aload_n hx hb dX6_pathLength_17 rfl (lv_at hl 1 rfl) ?_
      refine x_get hx hb hts hown hK hH 0 (ltw (by decide)) f0 hinX6 rfl 0 (by decide) (List.mem_of_getElem? (i := 2) rfl) rfl dX6_pathLength_18 ?_
      refine lv_iload_n hx hb dX6_pathLength_21 rfl (lv_at hl 2 rfl) ?_
      refine x_cVV (As := [.ref (xad E 1), .int (iZ w)]) (rest := []) hx hb hml hts hown hK hST hOK hH 75 (c_X5_findPaths l E ST hSF σ 1 w op lk kp wc pn nw sh wk le rl fs qu gr ⟨f1, f2, f3, f4, f5, _, f6⟩ ⟨f75, f76, f77, f78, f79, f80⟩ (by omega) (by omega) (by omega)) (cwV 2 hts gX6_pathLength_X5_findPaths rfl rfl rfl (by decide +kernel) ⟨Nat.le_of_ble_eq_true rfl, Nat.le_of_ble_eq_true rfl⟩) (ltw (by decide)) f75 rfl rfl hl.1 rfl (Nat.le_of_ble_eq_true rfl) dX6_pathLength_22 ⟨Nat.le_of_ble_eq_true rfl, Nat.le_of_ble_eq_true rfl⟩ (fun σ12 H locs hp13 hH => ?_)
      obtain ⟨⟨fs1_15, qu1_16, ⟨f75, f76, f77, f78, f79, f80⟩, hf17⟩, fr14⟩ := hp13
      have f0 : σ12 0 = oB 4 [.ref (xad E 1), .ref (xad E 7), .ref (xad E 13), .ref (xad E 19), .int (iZ (b2 hv)), .ref (xad E 73), .ref (xad E 75), .ref (xad E 81), .int (iZ se), .int (iZ sf), .ref (xad E 84), .int (iZ ll)] := (fr14 0 (by omega) (by omega) (by omega)).trans f0
      have f1 : σ12 1 = oB 0 [.ref (xad E 2), .ref (xad E 3), .ref (xad E 4), .ref (xad E 5), .ref (xad E 6), .int (iZ pn), .int (iZ nw), .int (iZ sh), .long (lZ wk)] := (fr14 1 (by omega) (by omega) (by omega)).trans f1
      have f2 : σ12 2 = aI E 25 op := (fr14 2 (by omega) (by omega) (by omega)).trans f2
      have f3 : σ12 3 = aI E 25 lk := (fr14 3 (by omega) (by omega) (by omega)).trans f3
      have f4 : σ12 4 = aI E 6 kp := (fr14 4 (by omega) (by omega) (by omega)).trans f4
      have f5 : σ12 5 = aI E 3 wc := (fr14 5 (by omega) (by omega) (by omega)).trans f5
      have f6 : σ12 6 = aI E 5 ro1 := (fr14 6 (by omega) (by omega) (by omega)).trans f6
      refine lv_aload_n hx hb dX6_pathLength_25 rfl (lv_at hl 1 rfl) ?_
      refine x_get hx hb hts hown hK hH 0 (ltw (by decide)) f0 hinX6 rfl 6 (by decide) (List.mem_of_getElem? (i := 1) rfl) rfl dX6_pathLength_26 ?_
      refine x_get hx hb hts hown hK hH 75 (ltw (by decide)) f75 hinX5 rfl 0 (by decide) (List.mem_of_getElem? (i := 3) rfl) rfl dX6_pathLength_29 ?_
      refine lv_iload hx hb dX6_pathLength_32 (lv_at hl 0 rfl) ?_
      refine x_iald hx hb hK hH 76 (ltw (by decide)) f76 (by omega) (by omega) (by omega) dX6_pathLength_34 ?_
      have hv19 := hdr (r * 5 + c0)
      refine x_cXSIE (As := [.int (iZ ((dz (Gw op lk kp w) (wc w)) (r * 5 + c0)))]) (rest := []) hx hb hml hts hown hK hST hOK hH (c_X6_needPath l E ST hSF htr σ12 ((dz (Gw op lk kp w) (wc w)) (r * 5 + c0))  (by omega)) (va_cwS 1 hts gX6_pathLength_X6_needPath rfl rfl rfl (by decide +kernel) ⟨Nat.le_of_ble_eq_true rfl, Nat.le_of_ble_eq_true rfl⟩) rfl hl.1 rfl (Nat.le_of_ble_eq_true rfl) dX6_pathLength_35 ⟨Nat.le_of_ble_eq_true rfl, Nat.le_of_ble_eq_true rfl⟩ ?_ (fun z u h => h) (fun σ21 H locs hp22 hH => ?_)
      · intro nx ce q9 σ21 H locs hp22 hH hce hcv hcl
        subst hQ
        obtain ⟨hn, hu⟩ := hp22
        rw [hu] at hH
        exact x_out hno hlocks hH hce hcv hcl ⟨(by simp_all <;> omega), ⟨(dz (Gw op lk kp w) (wc w)), rl, fs1_15, qu1_16, gr, f0, ⟨f1, f2, f3, f4, f5, _, f6⟩, ⟨f75, f76, f77, f78, f79, f80⟩⟩, fun j hj0 => (fr14 j (by omega) (by omega) (by omega))⟩ (Nat.le_of_ble_eq_true rfl) (Nat.le_of_ble_eq_true rfl)
      · obtain ⟨hf23, hu24⟩ := hp22
        rw [hu24] at hH
        subst hQ
        exact x_ireX hx hb hr hlocks hH (Nat.le_of_ble_eq_true rfl) (Nat.le_of_ble_eq_true rfl) ⟨(show ((dz (Gw op lk kp w) (wc w)) (r * 5 + c0)) = (dz (Gw op lk kp w) (wc w) (r * 5 + c0)) from (by first | rfl | omega | simp_all)), ⟨(dz (Gw op lk kp w) (wc w)), rl, fs1_15, qu1_16, gr, f0, ⟨f1, f2, f3, f4, f5, _, f6⟩, ⟨f75, f76, f77, f78, f79, f80⟩, (by first | assumption | omega | simp_all), (by first | assumption | omega | simp_all), (by first | assumption | omega | simp_all)⟩, fun j hj0 => (fr14 j (by omega) (by omega) (by omega))⟩ dX6_pathLength_38

def rm_X6_pathLengthByRounds : Room := { frames := 7, cells := 3, slots := 18, locals := 111 }
set_option maxRecDepth 100000 in
set_option maxHeartbeats 4000000 in
theorem c_X6_pathLengthByRounds (l : Launch) (E : xE) (ST : xST) (hSF : SF ST) (htr : l.stackTraces = false) (σ : xW) (w : Int) (r : Int) (c0 : Int) (hv : Bool) (se : Int) (sf : Int) (ll : Int) (op : Int → Int) (lk : Int → Int) (kp : Int → Int) (wc : Int → Int) (pn : Int) (nw : Int) (sh : Int) (wk : Int) (le : Int → Int) (rl : Int → Int) (fs : Int → Int) (qu : Int → Int) (gr : Int → Int) (hr0 : mn E σ hv se sf ll) (hr1 : bd E σ 1 op lk kp wc pn nw sh wk) (hr2 : sr E σ le rl fs qu gr) (hB : BI op lk kp wc pn nw) (hr9 : rg r) (hc9 : rg c0) (hw9 : rg w) : XI l E ST yX6_pathLengthByRounds wsX6_pathLengthByRounds rm_X6_pathLengthByRounds [.ref (xad E 0), .int (iZ w), .int (iZ r), .int (iZ c0)] σ (fun (z : Int) (u : xW) => z = dz (Gw op lk kp w) (wc w) (r * 5 + c0) ∧ (∃ (le1 rl1 fs1 qu1 gr1 : Int → Int), mn E u hv se sf ll ∧ bd E u 1 op lk kp wc pn nw sh wk ∧ sr E u le1 rl1 fs1 qu1 gr1 ∧ (0 ≤ w ∧ w < nw) ∧ (okC r c0) ∧ (dz (Gw op lk kp w) (wc w) (r * 5 + c0) < 25)) ∧ ∀ j : Nat, (j < 75 ∨ 75 + 6 ≤ j) → u j = σ j) (fun (n : String) (u : xW) => ((n = "java/lang/IndexOutOfBoundsException" ∧ ¬ ((0 ≤ w ∧ w < nw) ∧ okC r c0)) ∨ (n = "java/util/NoSuchElementException" ∧ ((0 ≤ w ∧ w < nw) ∧ okC r c0) ∧ 25 ≤ dz (Gw op lk kp w) (wc w) (r * 5 + c0))) ∧ (∃ (le1 rl1 fs1 qu1 gr1 : Int → Int), mn E u hv se sf ll ∧ bd E u 1 op lk kp wc pn nw sh wk ∧ sr E u le1 rl1 fs1 qu1 gr1) ∧ ∀ j : Nat, (j < 75 ∨ 75 + 6 ≤ j) → u j = σ j) := by
  have f0 : σ 0 = oB 4 [.ref (xad E 1), .ref (xad E 7), .ref (xad E 13), .ref (xad E 19), .int (iZ (b2 hv)), .ref (xad E 73), .ref (xad E 75), .ref (xad E 81), .int (iZ se), .int (iZ sf), .ref (xad E 84), .int (iZ ll)] := hr0
  obtain ⟨f1, f2, f3, f4, f5, ro1, f6⟩ := hr1
  obtain ⟨f75, f76, f77, f78, f79, f80⟩ := hr2
  refine XI_of (by decide) rfl (Nat.le_of_ble_eq_true rfl) ?_
  intro p e s m args below meth c Q ls G hH hl hQ
  obtain ⟨hx, hb, hml, hown, hts, hK, hST, hlocks, hr, hno⟩ := G
  have hOK := hSF.1
  have hown : s.vm.findClass RX6 = some m.cls := hown
  have hl : lv_has ls 5 [(0, .ref (xad E 0)), (1, .int (iZ w)), (2, .int (iZ r)), (3, .int (iZ c0))] := hl
  have hinX5 : ∀ w ∈ u_ws RX5 TX5 5, w ∈ wsX6_pathLengthByRounds := fun w h => (List.mem_cons_of_mem _ (List.mem_append_left _ (List.mem_append_left _ (List.mem_append_left _ (List.mem_append_right _ h)))))
  have hinX6 : ∀ w ∈ u_ws RX6 TX6 12, w ∈ wsX6_pathLengthByRounds := fun w h => (List.mem_cons_of_mem _ (List.mem_append_left _ (List.mem_append_left _ (List.mem_append_left _ (List.mem_append_left _ (List.mem_append_right _ h))))))
  obtain ⟨hop, hlk, hkp, hwc, hpn, hnw⟩ := id hB
  have hdr := dz_rg (G := Gw op lk kp w) (st := wc w) Gw_ok (hwc w)
  refine lv_aload_n hx hb dX6_pathLengthByRounds_0 rfl (lv_at hl 0 rfl) ?_
  refine lv_iload_n hx hb dX6_pathLengthByRounds_1 rfl (lv_at hl 1 rfl) ?_
  refine x_cXVIE (As := [.int (iZ w)]) (rest := []) hx hb hml hts hown hK hST hOK hH 0 (c_X6_needWalker l E ST hSF htr σ w hv se sf ll op lk kp wc pn nw sh wk f0 ⟨f1, f2, f3, f4, f5, _, f6⟩ (by omega) (by omega)) (cwV 1 hts gX6_pathLengthByRounds_X6_needWalker rfl rfl rfl (by decide +kernel) ⟨Nat.le_of_ble_eq_true rfl, Nat.le_of_ble_eq_true rfl⟩) (ltw (by decide)) f0 rfl rfl hl.1 rfl (Nat.le_of_ble_eq_true rfl) dX6_pathLengthByRounds_2 ⟨Nat.le_of_ble_eq_true rfl, Nat.le_of_ble_eq_true rfl⟩ ?_ (fun z u h => h) (fun σ2 H locs hp3 hH => ?_)
  · intro nx ce q9 σ2 H locs hp3 hH hce hcv hcl
    subst hQ
    obtain ⟨hn, hu⟩ := hp3
    rw [hu] at hH
    exact x_out hno hlocks hH hce hcv hcl ⟨(by simp_all <;> omega), ⟨le, rl, fs, qu, gr, f0, ⟨f1, f2, f3, f4, f5, _, f6⟩, ⟨f75, f76, f77, f78, f79, f80⟩⟩, fun j hj0 => rfl⟩ (Nat.le_of_ble_eq_true rfl) (Nat.le_of_ble_eq_true rfl)
  · obtain ⟨hf4, hu5⟩ := hp3
    rw [hu5] at hH
    refine lv_pop hx hb dX6_pathLengthByRounds_5 rfl ?_
    refine lv_iload_n hx hb dX6_pathLengthByRounds_6 rfl (lv_at hl 2 rfl) ?_
    refine lv_iload_n hx hb dX6_pathLengthByRounds_7 rfl (lv_at hl 3 rfl) ?_
    refine x_cXSIE (As := [.int (iZ r), .int (iZ c0)]) (rest := []) hx hb hml hts hown hK hST hOK hH (c_X6_needCell l E ST hSF htr σ r c0  (by omega) (by omega)) (va_cwS 2 hts gX6_pathLengthByRounds_X6_needCell rfl rfl rfl (by decide +kernel) ⟨Nat.le_of_ble_eq_true rfl, Nat.le_of_ble_eq_true rfl⟩) rfl hl.1 rfl (Nat.le_of_ble_eq_true rfl) dX6_pathLengthByRounds_8 ⟨Nat.le_of_ble_eq_true rfl, Nat.le_of_ble_eq_true rfl⟩ ?_ (fun z u h => h) (fun σ7 H locs hp8 hH => ?_)
    · intro nx ce q9 σ7 H locs hp8 hH hce hcv hcl
      subst hQ
      obtain ⟨hn, hu⟩ := hp8
      rw [hu] at hH
      exact x_out hno hlocks hH hce hcv hcl ⟨(by simp_all <;> omega), ⟨le, rl, fs, qu, gr, f0, ⟨f1, f2, f3, f4, f5, _, f6⟩, ⟨f75, f76, f77, f78, f79, f80⟩⟩, fun j hj0 => rfl⟩ (Nat.le_of_ble_eq_true rfl) (Nat.le_of_ble_eq_true rfl)
    · obtain ⟨hf9, hu10⟩ := hp8
      rw [hu10] at hH
      refine lv_istore (lv' := [(4, .int (iZ (r * 5 + c0))), (0, .ref (xad E 0)), (1, .int (iZ w)), (2, .int (iZ r)), (3, .int (iZ c0))]) hx hb dX6_pathLengthByRounds_11 hl (by decide) rfl (fun ls hl => ?_)
      refine lv_aload_n hx hb dX6_pathLengthByRounds_13 rfl (lv_at hl 1 rfl) ?_
      refine x_get hx hb hts hown hK hH 0 (ltw (by decide)) f0 hinX6 rfl 6 (by decide) (List.mem_of_getElem? (i := 1) rfl) rfl dX6_pathLengthByRounds_14 ?_
      refine lv_aload_n hx hb dX6_pathLengthByRounds_17 rfl (lv_at hl 1 rfl) ?_
      refine x_get hx hb hts hown hK hH 0 (ltw (by decide)) f0 hinX6 rfl 0 (by decide) (List.mem_of_getElem? (i := 2) rfl) rfl dX6_pathLengthByRounds_18 ?_
      refine lv_iload_n hx hb dX6_pathLengthByRounds_21 rfl (lv_at hl 2 rfl) ?_
      refine x_cVV (As := [.ref (xad E 1), .int (iZ w)]) (rest := []) hx hb hml hts hown hK hST hOK hH 75 (c_X5_findLengthsByRounds l E ST hSF σ 1 w op lk kp wc pn nw sh wk le rl fs qu gr ⟨f1, f2, f3, f4, f5, _, f6⟩ ⟨f75, f76, f77, f78, f79, f80⟩ (by omega) (by omega) (by omega)) (cwV 2 hts gX6_pathLengthByRounds_X5_findLengthsByRounds rfl rfl rfl (by decide +kernel) ⟨Nat.le_of_ble_eq_true rfl, Nat.le_of_ble_eq_true rfl⟩) (ltw (by decide)) f75 rfl rfl hl.1 rfl (Nat.le_of_ble_eq_true rfl) dX6_pathLengthByRounds_22 ⟨Nat.le_of_ble_eq_true rfl, Nat.le_of_ble_eq_true rfl⟩ (fun σ12 H locs hp13 hH => ?_)
      obtain ⟨⟨f75, f76, f77, f78, f79, f80⟩, fr14⟩ := hp13
      have f0 : σ12 0 = oB 4 [.ref (xad E 1), .ref (xad E 7), .ref (xad E 13), .ref (xad E 19), .int (iZ (b2 hv)), .ref (xad E 73), .ref (xad E 75), .ref (xad E 81), .int (iZ se), .int (iZ sf), .ref (xad E 84), .int (iZ ll)] := (fr14 0 (by omega)).trans f0
      have f1 : σ12 1 = oB 0 [.ref (xad E 2), .ref (xad E 3), .ref (xad E 4), .ref (xad E 5), .ref (xad E 6), .int (iZ pn), .int (iZ nw), .int (iZ sh), .long (lZ wk)] := (fr14 1 (by omega)).trans f1
      have f2 : σ12 2 = aI E 25 op := (fr14 2 (by omega)).trans f2
      have f3 : σ12 3 = aI E 25 lk := (fr14 3 (by omega)).trans f3
      have f4 : σ12 4 = aI E 6 kp := (fr14 4 (by omega)).trans f4
      have f5 : σ12 5 = aI E 3 wc := (fr14 5 (by omega)).trans f5
      have f6 : σ12 6 = aI E 5 ro1 := (fr14 6 (by omega)).trans f6
      refine lv_aload_n hx hb dX6_pathLengthByRounds_25 rfl (lv_at hl 1 rfl) ?_
      refine x_get hx hb hts hown hK hH 0 (ltw (by decide)) f0 hinX6 rfl 6 (by decide) (List.mem_of_getElem? (i := 1) rfl) rfl dX6_pathLengthByRounds_26 ?_
      refine x_get hx hb hts hown hK hH 75 (ltw (by decide)) f75 hinX5 rfl 1 (by decide) (List.mem_of_getElem? (i := 3) rfl) rfl dX6_pathLengthByRounds_29 ?_
      refine lv_iload hx hb dX6_pathLengthByRounds_32 (lv_at hl 0 rfl) ?_
      refine x_iald hx hb hK hH 77 (ltw (by decide)) f77 (by omega) (by omega) (by omega) dX6_pathLengthByRounds_34 ?_
      have hv16 := hdr (r * 5 + c0)
      refine x_cXSIE (As := [.int (iZ ((dz (Gw op lk kp w) (wc w)) (r * 5 + c0)))]) (rest := []) hx hb hml hts hown hK hST hOK hH (c_X6_needPath l E ST hSF htr σ12 ((dz (Gw op lk kp w) (wc w)) (r * 5 + c0))  (by omega)) (va_cwS 1 hts gX6_pathLengthByRounds_X6_needPath rfl rfl rfl (by decide +kernel) ⟨Nat.le_of_ble_eq_true rfl, Nat.le_of_ble_eq_true rfl⟩) rfl hl.1 rfl (Nat.le_of_ble_eq_true rfl) dX6_pathLengthByRounds_35 ⟨Nat.le_of_ble_eq_true rfl, Nat.le_of_ble_eq_true rfl⟩ ?_ (fun z u h => h) (fun σ18 H locs hp19 hH => ?_)
      · intro nx ce q9 σ18 H locs hp19 hH hce hcv hcl
        subst hQ
        obtain ⟨hn, hu⟩ := hp19
        rw [hu] at hH
        exact x_out hno hlocks hH hce hcv hcl ⟨(by simp_all <;> omega), ⟨le, (dz (Gw op lk kp w) (wc w)), fs, qu, gr, f0, ⟨f1, f2, f3, f4, f5, _, f6⟩, ⟨f75, f76, f77, f78, f79, f80⟩⟩, fun j hj0 => (fr14 j (by omega))⟩ (Nat.le_of_ble_eq_true rfl) (Nat.le_of_ble_eq_true rfl)
      · obtain ⟨hf20, hu21⟩ := hp19
        rw [hu21] at hH
        subst hQ
        exact x_ireX hx hb hr hlocks hH (Nat.le_of_ble_eq_true rfl) (Nat.le_of_ble_eq_true rfl) ⟨(show ((dz (Gw op lk kp w) (wc w)) (r * 5 + c0)) = (dz (Gw op lk kp w) (wc w) (r * 5 + c0)) from (by first | rfl | omega | simp_all)), ⟨le, (dz (Gw op lk kp w) (wc w)), fs, qu, gr, f0, ⟨f1, f2, f3, f4, f5, _, f6⟩, ⟨f75, f76, f77, f78, f79, f80⟩, (by first | assumption | omega | simp_all), (by first | assumption | omega | simp_all), (by first | assumption | omega | simp_all)⟩, fun j hj0 => (fr14 j (by omega))⟩ dX6_pathLengthByRounds_38

def rm_X6_firstStep : Room := { frames := 7, cells := 4, slots := 24, locals := 111 }
set_option maxRecDepth 100000 in
set_option maxHeartbeats 4000000 in
theorem c_X6_firstStep (l : Launch) (E : xE) (ST : xST) (hSF : SF ST) (htr : l.stackTraces = false) (σ : xW) (w : Int) (r : Int) (c0 : Int) (hv : Bool) (se : Int) (sf : Int) (ll : Int) (op : Int → Int) (lk : Int → Int) (kp : Int → Int) (wc : Int → Int) (pn : Int) (nw : Int) (sh : Int) (wk : Int) (le : Int → Int) (rl : Int → Int) (fs : Int → Int) (qu : Int → Int) (gr : Int → Int) (hr0 : mn E σ hv se sf ll) (hr1 : bd E σ 1 op lk kp wc pn nw sh wk) (hr2 : sr E σ le rl fs qu gr) (hB : BI op lk kp wc pn nw) (hr9 : rg r) (hc9 : rg c0) (hw9 : rg w) : XI l E ST yX6_firstStep wsX6_firstStep rm_X6_firstStep [.ref (xad E 0), .int (iZ w), .int (iZ r), .int (iZ c0)] σ (fun (z : Int) (u : xW) => z = fz (Gw op lk kp w) (wc w) (r * 5 + c0) ∧ (∃ (le1 rl1 fs1 qu1 gr1 : Int → Int), mn E u hv se sf ll ∧ bd E u 1 op lk kp wc pn nw sh wk ∧ sr E u le1 rl1 fs1 qu1 gr1 ∧ (0 ≤ w ∧ w < nw) ∧ (okC r c0) ∧ (dz (Gw op lk kp w) (wc w) (r * 5 + c0) < 25) ∧ (¬ dz (Gw op lk kp w) (wc w) (r * 5 + c0) = 0)) ∧ ∀ j : Nat, (j < 75 ∨ 75 + 6 ≤ j) → u j = σ j) (fun (n : String) (u : xW) => ((n = "java/lang/IndexOutOfBoundsException" ∧ ¬ ((0 ≤ w ∧ w < nw) ∧ okC r c0)) ∨ (n = "java/util/NoSuchElementException" ∧ ((0 ≤ w ∧ w < nw) ∧ okC r c0) ∧ (25 ≤ dz (Gw op lk kp w) (wc w) (r * 5 + c0) ∨ dz (Gw op lk kp w) (wc w) (r * 5 + c0) = 0))) ∧ (∃ (le1 rl1 fs1 qu1 gr1 : Int → Int), mn E u hv se sf ll ∧ bd E u 1 op lk kp wc pn nw sh wk ∧ sr E u le1 rl1 fs1 qu1 gr1) ∧ ∀ j : Nat, (j < 75 ∨ 75 + 6 ≤ j) → u j = σ j) := by
  have f0 : σ 0 = oB 4 [.ref (xad E 1), .ref (xad E 7), .ref (xad E 13), .ref (xad E 19), .int (iZ (b2 hv)), .ref (xad E 73), .ref (xad E 75), .ref (xad E 81), .int (iZ se), .int (iZ sf), .ref (xad E 84), .int (iZ ll)] := hr0
  obtain ⟨f1, f2, f3, f4, f5, ro1, f6⟩ := hr1
  obtain ⟨f75, f76, f77, f78, f79, f80⟩ := hr2
  refine XI_of (by decide) rfl (Nat.le_of_ble_eq_true rfl) ?_
  intro p e s m args below meth c Q ls G hH hl hQ
  obtain ⟨hx, hb, hml, hown, hts, hK, hST, hlocks, hr, hno⟩ := G
  have hOK := hSF.1
  have hown : s.vm.findClass RX6 = some m.cls := hown
  have hl : lv_has ls 5 [(0, .ref (xad E 0)), (1, .int (iZ w)), (2, .int (iZ r)), (3, .int (iZ c0))] := hl
  have hinX5 : ∀ w ∈ u_ws RX5 TX5 5, w ∈ wsX6_firstStep := fun w h => (List.mem_cons_of_mem _ (List.mem_append_left _ (List.mem_append_left _ (List.mem_append_left _ (List.mem_append_right _ h)))))
  have hinX6 : ∀ w ∈ u_ws RX6 TX6 12, w ∈ wsX6_firstStep := fun w h => (List.mem_cons_of_mem _ (List.mem_append_left _ (List.mem_append_left _ (List.mem_append_left _ (List.mem_append_left _ (List.mem_append_right _ h))))))
  obtain ⟨hop, hlk, hkp, hwc, hpn, hnw⟩ := id hB
  have hdr := dz_rg (G := Gw op lk kp w) (st := wc w) Gw_ok (hwc w)
  refine lv_aload_n hx hb dX6_firstStep_0 rfl (lv_at hl 0 rfl) ?_
  refine lv_iload_n hx hb dX6_firstStep_1 rfl (lv_at hl 1 rfl) ?_
  refine x_cXVIE (As := [.int (iZ w)]) (rest := []) hx hb hml hts hown hK hST hOK hH 0 (c_X6_needWalker l E ST hSF htr σ w hv se sf ll op lk kp wc pn nw sh wk f0 ⟨f1, f2, f3, f4, f5, _, f6⟩ (by omega) (by omega)) (cwV 1 hts gX6_firstStep_X6_needWalker rfl rfl rfl (by decide +kernel) ⟨Nat.le_of_ble_eq_true rfl, Nat.le_of_ble_eq_true rfl⟩) (ltw (by decide)) f0 rfl rfl hl.1 rfl (Nat.le_of_ble_eq_true rfl) dX6_firstStep_2 ⟨Nat.le_of_ble_eq_true rfl, Nat.le_of_ble_eq_true rfl⟩ ?_ (fun z u h => h) (fun σ2 H locs hp3 hH => ?_)
  · intro nx ce q9 σ2 H locs hp3 hH hce hcv hcl
    subst hQ
    obtain ⟨hn, hu⟩ := hp3
    rw [hu] at hH
    exact x_out hno hlocks hH hce hcv hcl ⟨(by simp_all <;> omega), ⟨le, rl, fs, qu, gr, f0, ⟨f1, f2, f3, f4, f5, _, f6⟩, ⟨f75, f76, f77, f78, f79, f80⟩⟩, fun j hj0 => rfl⟩ (Nat.le_of_ble_eq_true rfl) (Nat.le_of_ble_eq_true rfl)
  · obtain ⟨hf4, hu5⟩ := hp3
    rw [hu5] at hH
    refine lv_pop hx hb dX6_firstStep_5 rfl ?_
    refine lv_iload_n hx hb dX6_firstStep_6 rfl (lv_at hl 2 rfl) ?_
    refine lv_iload_n hx hb dX6_firstStep_7 rfl (lv_at hl 3 rfl) ?_
    refine x_cXSIE (As := [.int (iZ r), .int (iZ c0)]) (rest := []) hx hb hml hts hown hK hST hOK hH (c_X6_needCell l E ST hSF htr σ r c0  (by omega) (by omega)) (va_cwS 2 hts gX6_firstStep_X6_needCell rfl rfl rfl (by decide +kernel) ⟨Nat.le_of_ble_eq_true rfl, Nat.le_of_ble_eq_true rfl⟩) rfl hl.1 rfl (Nat.le_of_ble_eq_true rfl) dX6_firstStep_8 ⟨Nat.le_of_ble_eq_true rfl, Nat.le_of_ble_eq_true rfl⟩ ?_ (fun z u h => h) (fun σ7 H locs hp8 hH => ?_)
    · intro nx ce q9 σ7 H locs hp8 hH hce hcv hcl
      subst hQ
      obtain ⟨hn, hu⟩ := hp8
      rw [hu] at hH
      exact x_out hno hlocks hH hce hcv hcl ⟨(by simp_all <;> omega), ⟨le, rl, fs, qu, gr, f0, ⟨f1, f2, f3, f4, f5, _, f6⟩, ⟨f75, f76, f77, f78, f79, f80⟩⟩, fun j hj0 => rfl⟩ (Nat.le_of_ble_eq_true rfl) (Nat.le_of_ble_eq_true rfl)
    · obtain ⟨hf9, hu10⟩ := hp8
      rw [hu10] at hH
      refine lv_istore (lv' := [(4, .int (iZ (r * 5 + c0))), (0, .ref (xad E 0)), (1, .int (iZ w)), (2, .int (iZ r)), (3, .int (iZ c0))]) hx hb dX6_firstStep_11 hl (by decide) rfl (fun ls hl => ?_)
      refine lv_aload_n hx hb dX6_firstStep_13 rfl (lv_at hl 1 rfl) ?_
      refine x_get hx hb hts hown hK hH 0 (ltw (by decide)) f0 hinX6 rfl 6 (by decide) (List.mem_of_getElem? (i := 3) rfl) rfl dX6_firstStep_14 ?_
      refine lv_aload_n hx hb dX6_firstStep_17 rfl (lv_at hl 1 rfl) ?_
      refine x_get hx hb hts hown hK hH 0 (ltw (by decide)) f0 hinX6 rfl 0 (by decide) (List.mem_of_getElem? (i := 4) rfl) rfl dX6_firstStep_18 ?_
      refine lv_iload_n hx hb dX6_firstStep_21 rfl (lv_at hl 2 rfl) ?_
      refine x_cVV (As := [.ref (xad E 1), .int (iZ w)]) (rest := []) hx hb hml hts hown hK hST hOK hH 75 (c_X5_findPaths l E ST hSF σ 1 w op lk kp wc pn nw sh wk le rl fs qu gr ⟨f1, f2, f3, f4, f5, _, f6⟩ ⟨f75, f76, f77, f78, f79, f80⟩ (by omega) (by omega) (by omega)) (cwV 2 hts gX6_firstStep_X5_findPaths rfl rfl rfl (by decide +kernel) ⟨Nat.le_of_ble_eq_true rfl, Nat.le_of_ble_eq_true rfl⟩) (ltw (by decide)) f75 rfl rfl hl.1 rfl (Nat.le_of_ble_eq_true rfl) dX6_firstStep_22 ⟨Nat.le_of_ble_eq_true rfl, Nat.le_of_ble_eq_true rfl⟩ (fun σ12 H locs hp13 hH => ?_)
      obtain ⟨⟨fs1_15, qu1_16, ⟨f75, f76, f77, f78, f79, f80⟩, hisF⟩, fr14⟩ := hp13
      have f0 : σ12 0 = oB 4 [.ref (xad E 1), .ref (xad E 7), .ref (xad E 13), .ref (xad E 19), .int (iZ (b2 hv)), .ref (xad E 73), .ref (xad E 75), .ref (xad E 81), .int (iZ se), .int (iZ sf), .ref (xad E 84), .int (iZ ll)] := (fr14 0 (by omega) (by omega) (by omega)).trans f0
      have f1 : σ12 1 = oB 0 [.ref (xad E 2), .ref (xad E 3), .ref (xad E 4), .ref (xad E 5), .ref (xad E 6), .int (iZ pn), .int (iZ nw), .int (iZ sh), .long (lZ wk)] := (fr14 1 (by omega) (by omega) (by omega)).trans f1
      have f2 : σ12 2 = aI E 25 op := (fr14 2 (by omega) (by omega) (by omega)).trans f2
      have f3 : σ12 3 = aI E 25 lk := (fr14 3 (by omega) (by omega) (by omega)).trans f3
      have f4 : σ12 4 = aI E 6 kp := (fr14 4 (by omega) (by omega) (by omega)).trans f4
      have f5 : σ12 5 = aI E 3 wc := (fr14 5 (by omega) (by omega) (by omega)).trans f5
      have f6 : σ12 6 = aI E 5 ro1 := (fr14 6 (by omega) (by omega) (by omega)).trans f6
      refine lv_aload_n hx hb dX6_firstStep_25 rfl (lv_at hl 1 rfl) ?_
      refine x_get hx hb hts hown hK hH 0 (ltw (by decide)) f0 hinX6 rfl 6 (by decide) (List.mem_of_getElem? (i := 3) rfl) rfl dX6_firstStep_26 ?_
      refine x_get hx hb hts hown hK hH 75 (ltw (by decide)) f75 hinX5 rfl 0 (by decide) (List.mem_of_getElem? (i := 5) rfl) rfl dX6_firstStep_29 ?_
      refine lv_iload hx hb dX6_firstStep_32 (lv_at hl 0 rfl) ?_
      refine x_iald hx hb hK hH 76 (ltw (by decide)) f76 (by omega) (by omega) (by omega) dX6_firstStep_34 ?_
      have hv18 := hdr (r * 5 + c0)
      refine x_cXSIE (As := [.int (iZ ((dz (Gw op lk kp w) (wc w)) (r * 5 + c0)))]) (rest := []) hx hb hml hts hown hK hST hOK hH (c_X6_needPath l E ST hSF htr σ12 ((dz (Gw op lk kp w) (wc w)) (r * 5 + c0))  (by omega)) (va_cwS 1 hts gX6_firstStep_X6_needPath rfl rfl rfl (by decide +kernel) ⟨Nat.le_of_ble_eq_true rfl, Nat.le_of_ble_eq_true rfl⟩) rfl hl.1 rfl (Nat.le_of_ble_eq_true rfl) dX6_firstStep_35 ⟨Nat.le_of_ble_eq_true rfl, Nat.le_of_ble_eq_true rfl⟩ ?_ (fun z u h => h) (fun σ20 H locs hp21 hH => ?_)
      · intro nx ce q9 σ20 H locs hp21 hH hce hcv hcl
        subst hQ
        obtain ⟨hn, hu⟩ := hp21
        rw [hu] at hH
        exact x_out hno hlocks hH hce hcv hcl ⟨(by simp_all <;> omega), ⟨(dz (Gw op lk kp w) (wc w)), rl, fs1_15, qu1_16, gr, f0, ⟨f1, f2, f3, f4, f5, _, f6⟩, ⟨f75, f76, f77, f78, f79, f80⟩⟩, fun j hj0 => (fr14 j (by omega) (by omega) (by omega))⟩ (Nat.le_of_ble_eq_true rfl) (Nat.le_of_ble_eq_true rfl)
      · obtain ⟨hf22, hu23⟩ := hp21
        rw [hu23] at hH
        refine x_if_ne (tgt := 51) hx hb dX6_firstStep_38 (by decide) (by omega) (fun c38 => ?_) (fun c38 => ?_)
        · refine lv_aload_n hx hb dX6_firstStep_51 rfl (lv_at hl 1 rfl) ?_
          refine x_get hx hb hts hown hK hH 0 (ltw (by decide)) f0 hinX6 rfl 6 (by decide) (List.mem_of_getElem? (i := 3) rfl) rfl dX6_firstStep_52 ?_
          refine x_get hx hb hts hown hK hH 75 (ltw (by decide)) f75 hinX5 rfl 2 (by decide) (List.mem_of_getElem? (i := 6) rfl) rfl dX6_firstStep_55 ?_
          refine lv_iload hx hb dX6_firstStep_58 (lv_at hl 0 rfl) ?_
          refine x_iald hx hb hK hH 78 (ltw (by decide)) f78 (by omega) (by omega) (by omega) dX6_firstStep_60 ?_
          subst hQ
          exact x_ireX hx hb hr hlocks hH (Nat.le_of_ble_eq_true rfl) (Nat.le_of_ble_eq_true rfl) ⟨(show (fs1_15 (r * 5 + c0)) = (fz (Gw op lk kp w) (wc w) (r * 5 + c0)) from (by exact fz_of hisF (by omega) (by omega) (by omega) (fun e9 => c38 ((dz_0 Gw_ok (hwc w) (by omega) (by omega)).mpr e9.symm)))), ⟨(dz (Gw op lk kp w) (wc w)), rl, fs1_15, qu1_16, gr, f0, ⟨f1, f2, f3, f4, f5, _, f6⟩, ⟨f75, f76, f77, f78, f79, f80⟩, (by first | assumption | omega | simp_all), (by first | assumption | omega | simp_all), (by first | assumption | omega | simp_all), (by first | assumption | omega | simp_all)⟩, fun j hj0 => (fr14 j (by omega) (by omega) (by omega))⟩ dX6_firstStep_61
        · subst hQ
          exact x_throwSN (text := "the walker stands in this cell") hx hb hml htr hts hown hST hSF hno hlocks hH xExc_4 (List.mem_of_getElem? (i := 1) rfl) (List.mem_of_getElem? (i := 2) rfl) (fun w h => (List.mem_cons_of_mem _ (List.mem_append_left _ (List.mem_append_right _ h)))) (List.mem_of_getElem? (i := 17) rfl) hl.1 dX6_firstStep_41 dX6_firstStep_44 dX6_firstStep_45 dX6_firstStep_47 dX6_firstStep_50 (Nat.le_of_ble_eq_true rfl) (Nat.le_of_ble_eq_true rfl) (Nat.le_of_ble_eq_true rfl) (Nat.le_of_ble_eq_true rfl) ⟨Or.inr (⟨rfl, (by omega)⟩), ⟨(dz (Gw op lk kp w) (wc w)), rl, fs1_15, qu1_16, gr, f0, ⟨f1, f2, f3, f4, f5, _, f6⟩, ⟨f75, f76, f77, f78, f79, f80⟩⟩, fun j hj0 => (fr14 j (by omega) (by omega) (by omega))⟩ (Nat.le_of_ble_eq_true rfl) (Nat.le_of_ble_eq_true rfl)

def rm_X6_reachableCells : Room := { frames := 7, cells := 1, slots := 6, locals := 111 }
set_option maxRecDepth 100000 in
set_option maxHeartbeats 4000000 in
theorem c_X6_reachableCells (l : Launch) (E : xE) (ST : xST) (hSF : SF ST) (htr : l.stackTraces = false) (σ : xW) (w : Int) (hv : Bool) (se : Int) (sf : Int) (ll : Int) (op : Int → Int) (lk : Int → Int) (kp : Int → Int) (wc : Int → Int) (pn : Int) (nw : Int) (sh : Int) (wk : Int) (le : Int → Int) (rl : Int → Int) (fs : Int → Int) (qu : Int → Int) (gr : Int → Int) (hr0 : mn E σ hv se sf ll) (hr1 : bd E σ 1 op lk kp wc pn nw sh wk) (hr2 : sr E σ le rl fs qu gr) (hB : BI op lk kp wc pn nw) (hw9 : rg w) : XI l E ST yX6_reachableCells wsX6_reachableCells rm_X6_reachableCells [.ref (xad E 0), .int (iZ w)] σ (fun (z : Int) (u : xW) => z = cnbK (fun c => decide (dz (Gw op lk kp w) (wc w) c < 25)) 25 ∧ (∃ (le1 rl1 fs1 qu1 gr1 : Int → Int), mn E u hv se sf ll ∧ bd E u 1 op lk kp wc pn nw sh wk ∧ sr E u le1 rl1 fs1 qu1 gr1 ∧ (0 ≤ w ∧ w < nw)) ∧ ∀ j : Nat, (j < 75 ∨ 75 + 6 ≤ j) → u j = σ j) (fun (n : String) (u : xW) => ((n = "java/lang/IndexOutOfBoundsException" ∧ ¬ (0 ≤ w ∧ w < nw))) ∧ (∃ (le1 rl1 fs1 qu1 gr1 : Int → Int), mn E u hv se sf ll ∧ bd E u 1 op lk kp wc pn nw sh wk ∧ sr E u le1 rl1 fs1 qu1 gr1) ∧ ∀ j : Nat, (j < 75 ∨ 75 + 6 ≤ j) → u j = σ j) := by
  have f0 : σ 0 = oB 4 [.ref (xad E 1), .ref (xad E 7), .ref (xad E 13), .ref (xad E 19), .int (iZ (b2 hv)), .ref (xad E 73), .ref (xad E 75), .ref (xad E 81), .int (iZ se), .int (iZ sf), .ref (xad E 84), .int (iZ ll)] := hr0
  obtain ⟨f1, f2, f3, f4, f5, ro1, f6⟩ := hr1
  obtain ⟨f75, f76, f77, f78, f79, f80⟩ := hr2
  refine XI_of (by decide) rfl (Nat.le_of_ble_eq_true rfl) ?_
  intro p e s m args below meth c Q ls G hH hl hQ
  obtain ⟨hx, hb, hml, hown, hts, hK, hST, hlocks, hr, hno⟩ := G
  have hOK := hSF.1
  have hown : s.vm.findClass RX6 = some m.cls := hown
  have hl : lv_has ls 2 [(0, .ref (xad E 0)), (1, .int (iZ w))] := hl
  have hinX6 : ∀ w ∈ u_ws RX6 TX6 12, w ∈ wsX6_reachableCells := fun w h => (List.mem_cons_of_mem _ (List.mem_append_left _ (List.mem_append_left _ (List.mem_append_left _ (List.mem_append_right _ h)))))
  obtain ⟨hop, hlk, hkp, hwc, hpn, hnw⟩ := id hB
  have hdr := dz_rg (G := Gw op lk kp w) (st := wc w) Gw_ok (hwc w)
  refine lv_aload_n hx hb dX6_reachableCells_0 rfl (lv_at hl 0 rfl) ?_
  refine x_get hx hb hts hown hK hH 0 (ltw (by decide)) f0 hinX6 rfl 6 (by decide) (List.mem_of_getElem? (i := 1) rfl) rfl dX6_reachableCells_1 ?_
  refine lv_aload_n hx hb dX6_reachableCells_4 rfl (lv_at hl 0 rfl) ?_
  refine x_get hx hb hts hown hK hH 0 (ltw (by decide)) f0 hinX6 rfl 0 (by decide) (List.mem_of_getElem? (i := 2) rfl) rfl dX6_reachableCells_5 ?_
  refine lv_aload_n hx hb dX6_reachableCells_8 rfl (lv_at hl 0 rfl) ?_
  refine lv_iload_n hx hb dX6_reachableCells_9 rfl (lv_at hl 1 rfl) ?_
  refine x_cXVIE (As := [.int (iZ w)]) (rest := [.ref (xad E 1), .ref (xad E 75)]) hx hb hml hts hown hK hST hOK hH 0 (c_X6_needWalker l E ST hSF htr σ w hv se sf ll op lk kp wc pn nw sh wk f0 ⟨f1, f2, f3, f4, f5, _, f6⟩ (by omega) (by omega)) (cwV 1 hts gX6_reachableCells_X6_needWalker rfl rfl rfl (by decide +kernel) ⟨Nat.le_of_ble_eq_true rfl, Nat.le_of_ble_eq_true rfl⟩) (ltw (by decide)) f0 rfl rfl hl.1 rfl (Nat.le_of_ble_eq_true rfl) dX6_reachableCells_10 ⟨Nat.le_of_ble_eq_true rfl, Nat.le_of_ble_eq_true rfl⟩ ?_ (fun z u h => h) (fun σ2 H locs hp3 hH => ?_)
  · intro nx ce q9 σ2 H locs hp3 hH hce hcv hcl
    subst hQ
    obtain ⟨hn, hu⟩ := hp3
    rw [hu] at hH
    exact x_out hno hlocks hH hce hcv hcl ⟨(by simp_all <;> omega), ⟨le, rl, fs, qu, gr, f0, ⟨f1, f2, f3, f4, f5, _, f6⟩, ⟨f75, f76, f77, f78, f79, f80⟩⟩, fun j hj0 => rfl⟩ (Nat.le_of_ble_eq_true rfl) (Nat.le_of_ble_eq_true rfl)
  · obtain ⟨hf4, hu5⟩ := hp3
    rw [hu5] at hH
    refine x_cVV (As := [.ref (xad E 1), .int (iZ w)]) (rest := []) hx hb hml hts hown hK hST hOK hH 75 (c_X5_findPaths l E ST hSF σ 1 w op lk kp wc pn nw sh wk le rl fs qu gr ⟨f1, f2, f3, f4, f5, _, f6⟩ ⟨f75, f76, f77, f78, f79, f80⟩ (by omega) (by omega) (by omega)) (cwV 2 hts gX6_reachableCells_X5_findPaths rfl rfl rfl (by decide +kernel) ⟨Nat.le_of_ble_eq_true rfl, Nat.le_of_ble_eq_true rfl⟩) (ltw (by decide)) f75 rfl rfl hl.1 rfl (Nat.le_of_ble_eq_true rfl) dX6_reachableCells_13 ⟨Nat.le_of_ble_eq_true rfl, Nat.le_of_ble_eq_true rfl⟩ (fun σ7 H locs hp8 hH => ?_)
    obtain ⟨⟨fs1_10, qu1_11, ⟨f75, f76, f77, f78, f79, f80⟩, hf12⟩, fr9⟩ := hp8
    have f0 : σ7 0 = oB 4 [.ref (xad E 1), .ref (xad E 7), .ref (xad E 13), .ref (xad E 19), .int (iZ (b2 hv)), .ref (xad E 73), .ref (xad E 75), .ref (xad E 81), .int (iZ se), .int (iZ sf), .ref (xad E 84), .int (iZ ll)] := (fr9 0 (by omega) (by omega) (by omega)).trans f0
    have f1 : σ7 1 = oB 0 [.ref (xad E 2), .ref (xad E 3), .ref (xad E 4), .ref (xad E 5), .ref (xad E 6), .int (iZ pn), .int (iZ nw), .int (iZ sh), .long (lZ wk)] := (fr9 1 (by omega) (by omega) (by omega)).trans f1
    have f2 : σ7 2 = aI E 25 op := (fr9 2 (by omega) (by omega) (by omega)).trans f2
    have f3 : σ7 3 = aI E 25 lk := (fr9 3 (by omega) (by omega) (by omega)).trans f3
    have f4 : σ7 4 = aI E 6 kp := (fr9 4 (by omega) (by omega) (by omega)).trans f4
    have f5 : σ7 5 = aI E 3 wc := (fr9 5 (by omega) (by omega) (by omega)).trans f5
    have f6 : σ7 6 = aI E 5 ro1 := (fr9 6 (by omega) (by omega) (by omega)).trans f6
    refine lv_aload_n hx hb dX6_reachableCells_16 rfl (lv_at hl 0 rfl) ?_
    refine x_get hx hb hts hown hK hH 0 (ltw (by decide)) f0 hinX6 rfl 6 (by decide) (List.mem_of_getElem? (i := 1) rfl) rfl dX6_reachableCells_17 ?_
    refine x_cVID (As := []) (rest := []) hx hb hml hts hown hK hST hOK hH 75 (c_X5_countReached l E ST hSF σ7 (dz (Gw op lk kp w) (wc w)) rl fs1_10 qu1_11 gr ⟨f75, f76, f77, f78, f79, f80⟩ (by assumption)) (cwV 0 hts gX6_reachableCells_X5_countReached rfl rfl rfl (by decide +kernel) ⟨Nat.le_of_ble_eq_true rfl, Nat.le_of_ble_eq_true rfl⟩) (ltw (by decide)) f75 rfl rfl hl.1 rfl (Nat.le_of_ble_eq_true rfl) dX6_reachableCells_20 ⟨Nat.le_of_ble_eq_true rfl, Nat.le_of_ble_eq_true rfl⟩ (fun z u h => h) (fun H locs hH => ?_)
    subst hQ
    exact x_ireX hx hb hr hlocks hH (Nat.le_of_ble_eq_true rfl) (Nat.le_of_ble_eq_true rfl) ⟨(show (cnbK (fun c => decide ((dz (Gw op lk kp w) (wc w)) c < 25)) 25) = (cnbK (fun c => decide (dz (Gw op lk kp w) (wc w) c < 25)) 25) from (by first | rfl | omega | simp_all)), ⟨(dz (Gw op lk kp w) (wc w)), rl, fs1_10, qu1_11, gr, f0, ⟨f1, f2, f3, f4, f5, _, f6⟩, ⟨f75, f76, f77, f78, f79, f80⟩, (by first | assumption | omega | simp_all)⟩, fun j hj0 => (fr9 j (by omega) (by omega) (by omega))⟩ dX6_reachableCells_23

def rm_X6_save : Room := { frames := 2, cells := 0, slots := 0, locals := 61 }
set_option maxRecDepth 100000 in
set_option maxHeartbeats 4000000 in
theorem c_X6_save (l : Launch) (E : xE) (ST : xST) (hSF : SF ST) (σ : xW) (hv : Bool) (se : Int) (sf : Int) (ll : Int) (op : Int → Int) (lk : Int → Int) (kp : Int → Int) (wc : Int → Int) (pn : Int) (nw : Int) (sh : Int) (wk : Int) (sop : Int → Int) (slk : Int → Int) (skp : Int → Int) (swc : Int → Int) (spn : Int) (snw : Int) (ssh : Int) (swk : Int) (hr0 : mn E σ hv se sf ll) (hr1 : bd E σ 1 op lk kp wc pn nw sh wk) (hr2 : bd E σ 19 sop slk skp swc spn snw ssh swk) : CV l E ST yX6_save wsX6_save rm_X6_save [.ref (xad E 0)] σ (fun (u : xW) => (mn E u true se sf ll ∧ bd E u 1 op lk kp wc pn nw sh wk ∧ bd E u 19 op lk kp wc pn nw sh wk) ∧ ∀ j : Nat, j ≠ 0 → (j < 19 ∨ 19 + 6 ≤ j) → u j = σ j) := by
  have f0 : σ 0 = oB 4 [.ref (xad E 1), .ref (xad E 7), .ref (xad E 13), .ref (xad E 19), .int (iZ (b2 hv)), .ref (xad E 73), .ref (xad E 75), .ref (xad E 81), .int (iZ se), .int (iZ sf), .ref (xad E 84), .int (iZ ll)] := hr0
  obtain ⟨f1, f2, f3, f4, f5, ro1, f6⟩ := hr1
  obtain ⟨f19, f20, f21, f22, f23, ro2, f24⟩ := hr2
  refine CV_of (by decide) rfl (Nat.le_of_ble_eq_true rfl) ?_
  intro p e s m args below meth c Q ls G hH hl hQ
  obtain ⟨hx, hb, hml, hown, hts, hK, hST, hlocks, hr, hno⟩ := G
  have hOK := hSF.1
  have hown : s.vm.findClass RX6 = some m.cls := hown
  have hl : lv_has ls 1 [(0, .ref (xad E 0))] := hl
  have hinX6 : ∀ w ∈ u_ws RX6 TX6 12, w ∈ wsX6_save := fun w h => (List.mem_cons_of_mem _ (List.mem_append_left _ (List.mem_append_right _ h)))
  refine lv_aload_n hx hb dX6_save_0 rfl (lv_at hl 0 rfl) ?_
  refine x_get hx hb hts hown hK hH 0 (ltw (by decide)) f0 hinX6 rfl 3 (by decide) (List.mem_of_getElem? (i := 1) rfl) rfl dX6_save_1 ?_
  refine lv_aload_n hx hb dX6_save_4 rfl (lv_at hl 0 rfl) ?_
  refine x_get hx hb hts hown hK hH 0 (ltw (by decide)) f0 hinX6 rfl 0 (by decide) (List.mem_of_getElem? (i := 2) rfl) rfl dX6_save_5 ?_
  refine x_cVV (As := [.ref (xad E 1)]) (rest := []) hx hb hml hts hown hK hST hOK hH 19 (c_X1_copyFrom l E ST hSF σ 19 1 sop slk skp swc spn snw ssh swk op lk kp wc pn nw sh wk ⟨f19, f20, f21, f22, f23, _, f24⟩ ⟨f1, f2, f3, f4, f5, _, f6⟩ (by omega) (by omega) (by omega)) (cwV 1 hts gX6_save_X1_copyFrom rfl rfl rfl (by decide +kernel) ⟨Nat.le_of_ble_eq_true rfl, Nat.le_of_ble_eq_true rfl⟩) (ltw (by decide)) f19 rfl rfl hl.1 rfl (Nat.le_of_ble_eq_true rfl) dX6_save_8 ⟨Nat.le_of_ble_eq_true rfl, Nat.le_of_ble_eq_true rfl⟩ (fun σ2 H locs hp3 hH => ?_)
  obtain ⟨⟨⟨f19, f20, f21, f22, f23, ro5, f24⟩, ⟨f1, f2, f3, f4, f5, ro6, f6⟩⟩, fr4⟩ := hp3
  have f0 : σ2 0 = oB 4 [.ref (xad E 1), .ref (xad E 7), .ref (xad E 13), .ref (xad E 19), .int (iZ (b2 hv)), .ref (xad E 73), .ref (xad E 75), .ref (xad E 81), .int (iZ se), .int (iZ sf), .ref (xad E 84), .int (iZ ll)] := (fr4 0 (by omega)).trans f0
  refine lv_aload_n hx hb dX6_save_11 rfl (lv_at hl 0 rfl) ?_
  refine x_iconst hx hb dX6_save_12 ?_
  refine x_put (fs' := [.ref (xad E 1), .ref (xad E 7), .ref (xad E 13), .ref (xad E 19), .int (iZ (b2 true)), .ref (xad E 73), .ref (xad E 75), .ref (xad E 81), .int (iZ se), .int (iZ sf), .ref (xad E 84), .int (iZ ll)]) hx hb hts hown hK hH 0 (ltw (by decide)) f0 hinX6 rfl tyX6 tyX6_ok nmX6 4 (by decide) (List.mem_of_getElem? (i := 3) rfl) rfl (ty := .boolean) (by decide +kernel) (by decide) (by decide) (Nat.le_of_ble_eq_true rfl) rfl dX6_save_13 (fun σ8 H locs f0 fr9 hH => ?_)
  have f1 : σ8 1 = oB 0 [.ref (xad E 2), .ref (xad E 3), .ref (xad E 4), .ref (xad E 5), .ref (xad E 6), .int (iZ pn), .int (iZ nw), .int (iZ sh), .long (lZ wk)] := (fr9 1 (by omega)).trans f1
  have f2 : σ8 2 = aI E 25 op := (fr9 2 (by omega)).trans f2
  have f3 : σ8 3 = aI E 25 lk := (fr9 3 (by omega)).trans f3
  have f4 : σ8 4 = aI E 6 kp := (fr9 4 (by omega)).trans f4
  have f5 : σ8 5 = aI E 3 wc := (fr9 5 (by omega)).trans f5
  have f6 : σ8 6 = aI E 5 ro6 := (fr9 6 (by omega)).trans f6
  have f19 : σ8 19 = oB 0 [.ref (xad E 20), .ref (xad E 21), .ref (xad E 22), .ref (xad E 23), .ref (xad E 24), .int (iZ pn), .int (iZ nw), .int (iZ sh), .long (lZ wk)] := (fr9 19 (by omega)).trans f19
  have f20 : σ8 20 = aI E 25 op := (fr9 20 (by omega)).trans f20
  have f21 : σ8 21 = aI E 25 lk := (fr9 21 (by omega)).trans f21
  have f22 : σ8 22 = aI E 6 kp := (fr9 22 (by omega)).trans f22
  have f23 : σ8 23 = aI E 3 wc := (fr9 23 (by omega)).trans f23
  have f24 : σ8 24 = aI E 5 ro5 := (fr9 24 (by omega)).trans f24
  subst hQ
  exact x_vret hx hb hr hlocks hH (Nat.le_of_ble_eq_true rfl) (Nat.le_of_ble_eq_true rfl) ⟨⟨f0, ⟨f1, f2, f3, f4, f5, _, f6⟩, ⟨f19, f20, f21, f22, f23, _, f24⟩⟩, fun j hj0 hj1 => ((fr9 j (by omega)).trans (fr4 j (by omega)))⟩ dX6_save_16

def rm_X6_restore : Room := { frames := 6, cells := 1, slots := 6, locals := 90 }
set_option maxRecDepth 100000 in
set_option maxHeartbeats 4000000 in
theorem c_X6_restore (l : Launch) (E : xE) (ST : xST) (hSF : SF ST) (htr : l.stackTraces = false) (σ : xW) (hv : Bool) (se : Int) (sf : Int) (ll : Int) (nx : Int) (ct : Int) (op : Int → Int) (lk : Int → Int) (kp : Int → Int) (wc : Int → Int) (pn : Int) (nw : Int) (sh : Int) (wk : Int) (sop : Int → Int) (slk : Int → Int) (skp : Int → Int) (swc : Int → Int) (spn : Int) (snw : Int) (ssh : Int) (swk : Int) (hr0 : mn E σ hv se sf ll) (hr1 : hi E σ nx ct) (hr2 : bd E σ 1 op lk kp wc pn nw sh wk) (hr3 : bd E σ 19 sop slk skp swc spn snw ssh swk) : XV l E ST yX6_restore wsX6_restore rm_X6_restore [.ref (xad E 0)] σ (fun (u : xW) => (mn E u hv se sf ll ∧ hi E u nx 0 ∧ bd E u 1 sop slk skp swc spn snw ssh swk ∧ bd E u 19 sop slk skp swc spn snw ssh swk ∧ (hv = true)) ∧ ∀ j : Nat, (j < 1 ∨ 1 + 6 ≤ j) → j ≠ 73 → u j = σ j) (fun (n : String) (u : xW) => ((n = "java/lang/IllegalStateException" ∧ hv = false)) ∧ u = σ) := by
  have f0 : σ 0 = oB 4 [.ref (xad E 1), .ref (xad E 7), .ref (xad E 13), .ref (xad E 19), .int (iZ (b2 hv)), .ref (xad E 73), .ref (xad E 75), .ref (xad E 81), .int (iZ se), .int (iZ sf), .ref (xad E 84), .int (iZ ll)] := hr0
  obtain ⟨f73, f74⟩ := hr1
  obtain ⟨f1, f2, f3, f4, f5, ro2, f6⟩ := hr2
  obtain ⟨f19, f20, f21, f22, f23, ro3, f24⟩ := hr3
  refine XV_of (by decide) rfl (Nat.le_of_ble_eq_true rfl) ?_
  intro p e s m args below meth c Q ls G hH hl hQ
  obtain ⟨hx, hb, hml, hown, hts, hK, hST, hlocks, hr, hno⟩ := G
  have hOK := hSF.1
  have hown : s.vm.findClass RX6 = some m.cls := hown
  have hl : lv_has ls 1 [(0, .ref (xad E 0))] := hl
  have hinX6 : ∀ w ∈ u_ws RX6 TX6 12, w ∈ wsX6_restore := fun w h => (List.mem_cons_of_mem _ (List.mem_append_left _ (List.mem_append_left _ (List.mem_append_left _ (List.mem_append_right _ h)))))
  refine lv_aload_n hx hb dX6_restore_0 rfl (lv_at hl 0 rfl) ?_
  refine x_get hx hb hts hown hK hH 0 (ltw (by decide)) f0 hinX6 rfl 4 (by decide) (List.mem_of_getElem? (i := 3) rfl) rfl dX6_restore_1 ?_
  refine x_ifb_ne (tgt := 18) hx hb dX6_restore_4 (by decide) (fun c4 => ?_) (fun c4 => ?_)
  · refine lv_aload_n hx hb dX6_restore_18 rfl (lv_at hl 0 rfl) ?_
    refine x_get hx hb hts hown hK hH 0 (ltw (by decide)) f0 hinX6 rfl 0 (by decide) (List.mem_of_getElem? (i := 4) rfl) rfl dX6_restore_19 ?_
    refine lv_aload_n hx hb dX6_restore_22 rfl (lv_at hl 0 rfl) ?_
    refine x_get hx hb hts hown hK hH 0 (ltw (by decide)) f0 hinX6 rfl 3 (by decide) (List.mem_of_getElem? (i := 5) rfl) rfl dX6_restore_23 ?_
    refine x_cVV (As := [.ref (xad E 19)]) (rest := []) hx hb hml hts hown hK hST hOK hH 1 (c_X1_copyFrom l E ST hSF σ 1 19 op lk kp wc pn nw sh wk sop slk skp swc spn snw ssh swk ⟨f1, f2, f3, f4, f5, _, f6⟩ ⟨f19, f20, f21, f22, f23, _, f24⟩ (by omega) (by omega) (by omega)) (cwV 1 hts gX6_restore_X1_copyFrom rfl rfl rfl (by decide +kernel) ⟨Nat.le_of_ble_eq_true rfl, Nat.le_of_ble_eq_true rfl⟩) (ltw (by decide)) f1 rfl rfl hl.1 rfl (Nat.le_of_ble_eq_true rfl) dX6_restore_26 ⟨Nat.le_of_ble_eq_true rfl, Nat.le_of_ble_eq_true rfl⟩ (fun σ2 H locs hp3 hH => ?_)
    obtain ⟨⟨⟨f1, f2, f3, f4, f5, ro5, f6⟩, ⟨f19, f20, f21, f22, f23, ro6, f24⟩⟩, fr4⟩ := hp3
    have f0 : σ2 0 = oB 4 [.ref (xad E 1), .ref (xad E 7), .ref (xad E 13), .ref (xad E 19), .int (iZ (b2 hv)), .ref (xad E 73), .ref (xad E 75), .ref (xad E 81), .int (iZ se), .int (iZ sf), .ref (xad E 84), .int (iZ ll)] := (fr4 0 (by omega)).trans f0
    have f73 : σ2 73 = oB 1 [.ref (xad E 74), .int (iZ nx), .int (iZ ct)] := (fr4 73 (by omega)).trans f73
    have f74 : σ2 74 = hRow E := (fr4 74 (by omega)).trans f74
    refine lv_aload_n hx hb dX6_restore_29 rfl (lv_at hl 0 rfl) ?_
    refine x_get hx hb hts hown hK hH 0 (ltw (by decide)) f0 hinX6 rfl 5 (by decide) (List.mem_of_getElem? (i := 6) rfl) rfl dX6_restore_30 ?_
    refine x_cVV (As := []) (rest := []) hx hb hml hts hown hK hST hOK hH 73 (c_X3_clear l E ST hSF σ2 nx ct ⟨f73, f74⟩ ) (cwV 0 hts gX6_restore_X3_clear rfl rfl rfl (by decide +kernel) ⟨Nat.le_of_ble_eq_true rfl, Nat.le_of_ble_eq_true rfl⟩) (ltw (by decide)) f73 rfl rfl hl.1 rfl (Nat.le_of_ble_eq_true rfl) dX6_restore_33 ⟨Nat.le_of_ble_eq_true rfl, Nat.le_of_ble_eq_true rfl⟩ (fun σ9 H locs hp10 hH => ?_)
    obtain ⟨⟨f73, f74⟩, fr11⟩ := hp10
    have f0 : σ9 0 = oB 4 [.ref (xad E 1), .ref (xad E 7), .ref (xad E 13), .ref (xad E 19), .int (iZ (b2 hv)), .ref (xad E 73), .ref (xad E 75), .ref (xad E 81), .int (iZ se), .int (iZ sf), .ref (xad E 84), .int (iZ ll)] := (fr11 0 (by omega)).trans f0
    have f1 : σ9 1 = oB 0 [.ref (xad E 2), .ref (xad E 3), .ref (xad E 4), .ref (xad E 5), .ref (xad E 6), .int (iZ spn), .int (iZ snw), .int (iZ ssh), .long (lZ swk)] := (fr11 1 (by omega)).trans f1
    have f2 : σ9 2 = aI E 25 sop := (fr11 2 (by omega)).trans f2
    have f3 : σ9 3 = aI E 25 slk := (fr11 3 (by omega)).trans f3
    have f4 : σ9 4 = aI E 6 skp := (fr11 4 (by omega)).trans f4
    have f5 : σ9 5 = aI E 3 swc := (fr11 5 (by omega)).trans f5
    have f6 : σ9 6 = aI E 5 ro5 := (fr11 6 (by omega)).trans f6
    have f19 : σ9 19 = oB 0 [.ref (xad E 20), .ref (xad E 21), .ref (xad E 22), .ref (xad E 23), .ref (xad E 24), .int (iZ spn), .int (iZ snw), .int (iZ ssh), .long (lZ swk)] := (fr11 19 (by omega)).trans f19
    have f20 : σ9 20 = aI E 25 sop := (fr11 20 (by omega)).trans f20
    have f21 : σ9 21 = aI E 25 slk := (fr11 21 (by omega)).trans f21
    have f22 : σ9 22 = aI E 6 skp := (fr11 22 (by omega)).trans f22
    have f23 : σ9 23 = aI E 3 swc := (fr11 23 (by omega)).trans f23
    have f24 : σ9 24 = aI E 5 ro6 := (fr11 24 (by omega)).trans f24
    subst hQ
    exact x_vreX hx hb hr hlocks hH (Nat.le_of_ble_eq_true rfl) (Nat.le_of_ble_eq_true rfl) ⟨⟨f0, ⟨f73, f74⟩, ⟨f1, f2, f3, f4, f5, _, f6⟩, ⟨f19, f20, f21, f22, f23, _, f24⟩, (by first | assumption | omega | simp_all)⟩, fun j hj0 hj1 => ((fr11 j (by omega)).trans (fr4 j (by omega)))⟩ dX6_restore_36
  · subst hQ
    exact x_throwSW (text := "no state was saved") hx hb hml htr hts hown hST hSF hno hlocks hH xExc_2 (List.mem_of_getElem? (i := 1) rfl) (List.mem_of_getElem? (i := 2) rfl) (fun w h => (List.mem_cons_of_mem _ (List.mem_append_right _ h))) (List.mem_of_getElem? (i := 1) rfl) hl.1 dX6_restore_7 dX6_restore_10 dX6_restore_11 dX6_restore_14 dX6_restore_17 (Nat.le_of_ble_eq_true rfl) (Nat.le_of_ble_eq_true rfl) (Nat.le_of_ble_eq_true rfl) (Nat.le_of_ble_eq_true rfl) ⟨⟨rfl, (by simp_all)⟩, rfl⟩ (Nat.le_of_ble_eq_true rfl) (Nat.le_of_ble_eq_true rfl)

def rm_X6_errorPosition : Room := { frames := 6, cells := 1, slots := 6, locals := 90 }
set_option maxRecDepth 100000 in
set_option maxHeartbeats 4000000 in
theorem c_X6_errorPosition (l : Launch) (E : xE) (ST : xST) (hSF : SF ST) (htr : l.stackTraces = false) (σ : xW) (hv : Bool) (se : Int) (sf : Int) (ll : Int) (hr0 : mn E σ hv se sf ll) (hse : rg se) : XI l E ST yX6_errorPosition wsX6_errorPosition rm_X6_errorPosition [.ref (xad E 0)] σ (fun (z : Int) (u : xW) => z = se ∧ (¬ se = -1) ∧ u = σ) (fun (n : String) (u : xW) => ((n = "java/util/NoSuchElementException" ∧ se = -1)) ∧ u = σ) := by
  have f0 : σ 0 = oB 4 [.ref (xad E 1), .ref (xad E 7), .ref (xad E 13), .ref (xad E 19), .int (iZ (b2 hv)), .ref (xad E 73), .ref (xad E 75), .ref (xad E 81), .int (iZ se), .int (iZ sf), .ref (xad E 84), .int (iZ ll)] := hr0
  refine XI_of (by decide) rfl (Nat.le_of_ble_eq_true rfl) ?_
  intro p e s m args below meth c Q ls G hH hl hQ
  obtain ⟨hx, hb, hml, hown, hts, hK, hST, hlocks, hr, hno⟩ := G
  have hOK := hSF.1
  have hown : s.vm.findClass RX6 = some m.cls := hown
  have hl : lv_has ls 1 [(0, .ref (xad E 0))] := hl
  have hinX6 : ∀ w ∈ u_ws RX6 TX6 12, w ∈ wsX6_errorPosition := fun w h => (List.mem_cons_of_mem _ (List.mem_append_left _ (List.mem_append_right _ h)))
  refine lv_aload_n hx hb dX6_errorPosition_0 rfl (lv_at hl 0 rfl) ?_
  refine x_get hx hb hts hown hK hH 0 (ltw (by decide)) f0 hinX6 rfl 8 (by decide) (List.mem_of_getElem? (i := 3) rfl) rfl dX6_errorPosition_1 ?_
  refine x_iconst hx hb dX6_errorPosition_4 ?_
  refine x_icmp_ne (tgt := 19) hx hb dX6_errorPosition_5 (by decide) (by omega) (by decide) (fun c5 => ?_) (fun c5 => ?_)
  · refine lv_aload_n hx hb dX6_errorPosition_19 rfl (lv_at hl 0 rfl) ?_
    refine x_get hx hb hts hown hK hH 0 (ltw (by decide)) f0 hinX6 rfl 8 (by decide) (List.mem_of_getElem? (i := 3) rfl) rfl dX6_errorPosition_20 ?_
    subst hQ
    exact x_ireX hx hb hr hlocks hH (Nat.le_of_ble_eq_true rfl) (Nat.le_of_ble_eq_true rfl) ⟨(show se = se from (by first | rfl | omega | simp_all)), (by first | assumption | omega | simp_all), rfl⟩ dX6_errorPosition_23
  · subst hQ
    exact x_throwSWN (text := "no error position was stored") hx hb hml htr hts hown hST hSF hno hlocks hH xExc_4 (List.mem_of_getElem? (i := 1) rfl) (List.mem_of_getElem? (i := 2) rfl) (fun w h => (List.mem_cons_of_mem _ (List.mem_append_right _ h))) (List.mem_of_getElem? (i := 4) rfl) hl.1 dX6_errorPosition_8 dX6_errorPosition_11 dX6_errorPosition_12 dX6_errorPosition_15 dX6_errorPosition_18 (Nat.le_of_ble_eq_true rfl) (Nat.le_of_ble_eq_true rfl) (Nat.le_of_ble_eq_true rfl) (Nat.le_of_ble_eq_true rfl) ⟨⟨rfl, (by first | omega | simp_all)⟩, rfl⟩ (Nat.le_of_ble_eq_true rfl) (Nat.le_of_ble_eq_true rfl)

def rm_X6_failedCommand : Room := { frames := 6, cells := 1, slots := 6, locals := 90 }
set_option maxRecDepth 100000 in
set_option maxHeartbeats 4000000 in
theorem c_X6_failedCommand (l : Launch) (E : xE) (ST : xST) (hSF : SF ST) (htr : l.stackTraces = false) (σ : xW) (hv : Bool) (se : Int) (sf : Int) (ll : Int) (hr0 : mn E σ hv se sf ll) (hsf : rg sf) : XI l E ST yX6_failedCommand wsX6_failedCommand rm_X6_failedCommand [.ref (xad E 0)] σ (fun (z : Int) (u : xW) => z = sf ∧ (¬ sf = -1) ∧ u = σ) (fun (n : String) (u : xW) => ((n = "java/util/NoSuchElementException" ∧ sf = -1)) ∧ u = σ) := by
  have f0 : σ 0 = oB 4 [.ref (xad E 1), .ref (xad E 7), .ref (xad E 13), .ref (xad E 19), .int (iZ (b2 hv)), .ref (xad E 73), .ref (xad E 75), .ref (xad E 81), .int (iZ se), .int (iZ sf), .ref (xad E 84), .int (iZ ll)] := hr0
  refine XI_of (by decide) rfl (Nat.le_of_ble_eq_true rfl) ?_
  intro p e s m args below meth c Q ls G hH hl hQ
  obtain ⟨hx, hb, hml, hown, hts, hK, hST, hlocks, hr, hno⟩ := G
  have hOK := hSF.1
  have hown : s.vm.findClass RX6 = some m.cls := hown
  have hl : lv_has ls 1 [(0, .ref (xad E 0))] := hl
  have hinX6 : ∀ w ∈ u_ws RX6 TX6 12, w ∈ wsX6_failedCommand := fun w h => (List.mem_cons_of_mem _ (List.mem_append_left _ (List.mem_append_right _ h)))
  refine lv_aload_n hx hb dX6_failedCommand_0 rfl (lv_at hl 0 rfl) ?_
  refine x_get hx hb hts hown hK hH 0 (ltw (by decide)) f0 hinX6 rfl 9 (by decide) (List.mem_of_getElem? (i := 3) rfl) rfl dX6_failedCommand_1 ?_
  refine x_iconst hx hb dX6_failedCommand_4 ?_
  refine x_icmp_ne (tgt := 19) hx hb dX6_failedCommand_5 (by decide) (by omega) (by decide) (fun c5 => ?_) (fun c5 => ?_)
  · refine lv_aload_n hx hb dX6_failedCommand_19 rfl (lv_at hl 0 rfl) ?_
    refine x_get hx hb hts hown hK hH 0 (ltw (by decide)) f0 hinX6 rfl 9 (by decide) (List.mem_of_getElem? (i := 3) rfl) rfl dX6_failedCommand_20 ?_
    subst hQ
    exact x_ireX hx hb hr hlocks hH (Nat.le_of_ble_eq_true rfl) (Nat.le_of_ble_eq_true rfl) ⟨(show sf = sf from (by first | rfl | omega | simp_all)), (by first | assumption | omega | simp_all), rfl⟩ dX6_failedCommand_23
  · subst hQ
    exact x_throwSWN (text := "no failed command was stored") hx hb hml htr hts hown hST hSF hno hlocks hH xExc_4 (List.mem_of_getElem? (i := 1) rfl) (List.mem_of_getElem? (i := 2) rfl) (fun w h => (List.mem_cons_of_mem _ (List.mem_append_right _ h))) (List.mem_of_getElem? (i := 5) rfl) hl.1 dX6_failedCommand_8 dX6_failedCommand_11 dX6_failedCommand_12 dX6_failedCommand_15 dX6_failedCommand_18 (Nat.le_of_ble_eq_true rfl) (Nat.le_of_ble_eq_true rfl) (Nat.le_of_ble_eq_true rfl) (Nat.le_of_ble_eq_true rfl) ⟨⟨rfl, (by first | omega | simp_all)⟩, rfl⟩ (Nat.le_of_ble_eq_true rfl) (Nat.le_of_ble_eq_true rfl)

def rm_X6_outputAt : Room := { frames := 6, cells := 1, slots := 6, locals := 90 }
set_option maxRecDepth 100000 in
set_option maxHeartbeats 4000000 in
theorem c_X6_outputAt (l : Launch) (E : xE) (ST : xST) (hSF : SF ST) (htr : l.stackTraces = false) (σ : xW) (i9 : Int) (hv : Bool) (se : Int) (sf : Int) (ll : Int) (ln : Int → Int) (hr0 : mn E σ hv se sf ll) (hr1 : cln E σ ln) (hi9 : rg i9) (hll : 0 ≤ ll ∧ ll ≤ 35) (hln : ∀ j, 0 ≤ ln j ∧ ln j ≤ 65535) : XI l E ST yX6_outputAt wsX6_outputAt rm_X6_outputAt [.ref (xad E 0), .int (iZ i9)] σ (fun (z : Int) (u : xW) => z = ln i9 ∧ (0 ≤ i9 ∧ i9 < ll) ∧ u = σ) (fun (n : String) (u : xW) => ((n = "java/lang/IndexOutOfBoundsException" ∧ ¬ (0 ≤ i9 ∧ i9 < ll))) ∧ u = σ) := by
  have f0 : σ 0 = oB 4 [.ref (xad E 1), .ref (xad E 7), .ref (xad E 13), .ref (xad E 19), .int (iZ (b2 hv)), .ref (xad E 73), .ref (xad E 75), .ref (xad E 81), .int (iZ se), .int (iZ sf), .ref (xad E 84), .int (iZ ll)] := hr0
  have f84 : σ 84 = aC E 35 ln := hr1
  refine XI_of (by decide) rfl (Nat.le_of_ble_eq_true rfl) ?_
  intro p e s m args below meth c Q ls G hH hl hQ
  obtain ⟨hx, hb, hml, hown, hts, hK, hST, hlocks, hr, hno⟩ := G
  have hOK := hSF.1
  have hown : s.vm.findClass RX6 = some m.cls := hown
  have hl : lv_has ls 2 [(0, .ref (xad E 0)), (1, .int (iZ i9))] := hl
  have hinX6 : ∀ w ∈ u_ws RX6 TX6 12, w ∈ wsX6_outputAt := fun w h => (List.mem_cons_of_mem _ (List.mem_append_left _ (List.mem_append_right _ h)))
  refine lv_iload_n hx hb dX6_outputAt_0 rfl (lv_at hl 1 rfl) ?_
  refine x_if_lt (tgt := 12) hx hb dX6_outputAt_1 (by decide) (by omega) (fun c1 => ?_) (fun c1 => ?_)
  · subst hQ
    exact x_throwSW (text := "no such character of the output line") hx hb hml htr hts hown hST hSF hno hlocks hH xExc_0 (List.mem_of_getElem? (i := 1) rfl) (List.mem_of_getElem? (i := 2) rfl) (fun w h => (List.mem_cons_of_mem _ (List.mem_append_right _ h))) (List.mem_of_getElem? (i := 9) rfl) hl.1 dX6_outputAt_12 dX6_outputAt_15 dX6_outputAt_16 dX6_outputAt_19 dX6_outputAt_22 (Nat.le_of_ble_eq_true rfl) (Nat.le_of_ble_eq_true rfl) (Nat.le_of_ble_eq_true rfl) (Nat.le_of_ble_eq_true rfl) ⟨⟨rfl, (by first | omega | simp_all)⟩, rfl⟩ (Nat.le_of_ble_eq_true rfl) (Nat.le_of_ble_eq_true rfl)
  · refine lv_iload_n hx hb dX6_outputAt_4 rfl (lv_at hl 1 rfl) ?_
    refine lv_aload_n hx hb dX6_outputAt_5 rfl (lv_at hl 0 rfl) ?_
    refine x_get hx hb hts hown hK hH 0 (ltw (by decide)) f0 hinX6 rfl 11 (by decide) (List.mem_of_getElem? (i := 3) rfl) rfl dX6_outputAt_6 ?_
    refine x_icmp_lt (tgt := 23) hx hb dX6_outputAt_9 (by decide) (by omega) (by omega) (fun c9 => ?_) (fun c9 => ?_)
    · refine lv_aload_n hx hb dX6_outputAt_23 rfl (lv_at hl 0 rfl) ?_
      refine x_get hx hb hts hown hK hH 0 (ltw (by decide)) f0 hinX6 rfl 10 (by decide) (List.mem_of_getElem? (i := 4) rfl) rfl dX6_outputAt_24 ?_
      refine lv_iload_n hx hb dX6_outputAt_27 rfl (lv_at hl 1 rfl) ?_
      refine x_cald hx hb hK hH 84 (ltw (by decide)) f84 (by omega) (by omega) (by omega) dX6_outputAt_28 ?_
      have hv1 := hln i9
      subst hQ
      exact x_creX hx hb hr hlocks hH (Nat.le_of_ble_eq_true rfl) (Nat.le_of_ble_eq_true rfl) (by omega) (by omega) ⟨(show (ln i9) = (ln i9) from (by first | rfl | omega | simp_all)), (by first | assumption | omega | simp_all), rfl⟩ dX6_outputAt_29
    · subst hQ
      exact x_throwSW (text := "no such character of the output line") hx hb hml htr hts hown hST hSF hno hlocks hH xExc_0 (List.mem_of_getElem? (i := 1) rfl) (List.mem_of_getElem? (i := 2) rfl) (fun w h => (List.mem_cons_of_mem _ (List.mem_append_right _ h))) (List.mem_of_getElem? (i := 9) rfl) hl.1 dX6_outputAt_12 dX6_outputAt_15 dX6_outputAt_16 dX6_outputAt_19 dX6_outputAt_22 (Nat.le_of_ble_eq_true rfl) (Nat.le_of_ble_eq_true rfl) (Nat.le_of_ble_eq_true rfl) (Nat.le_of_ble_eq_true rfl) ⟨⟨rfl, (by first | omega | simp_all)⟩, rfl⟩ (Nat.le_of_ble_eq_true rfl) (Nat.le_of_ble_eq_true rfl)

def rm_X6_shiftCount : Room := { frames := 0, cells := 0, slots := 0, locals := 0 }
set_option maxRecDepth 100000 in
set_option maxHeartbeats 4000000 in
theorem c_X6_shiftCount (l : Launch) (E : xE) (ST : xST) (hSF : SF ST) (σ : xW) (hv : Bool) (se : Int) (sf : Int) (ll : Int) (op : Int → Int) (lk : Int → Int) (kp : Int → Int) (wc : Int → Int) (pn : Int) (nw : Int) (sh : Int) (wk : Int) (hr0 : mn E σ hv se sf ll) (hr1 : bd E σ 1 op lk kp wc pn nw sh wk) : CI l E ST yX6_shiftCount wsX6_shiftCount rm_X6_shiftCount [.ref (xad E 0)] σ (fun (z : Int) (u : xW) => z = sh ∧ u = σ) := by
  have f0 : σ 0 = oB 4 [.ref (xad E 1), .ref (xad E 7), .ref (xad E 13), .ref (xad E 19), .int (iZ (b2 hv)), .ref (xad E 73), .ref (xad E 75), .ref (xad E 81), .int (iZ se), .int (iZ sf), .ref (xad E 84), .int (iZ ll)] := hr0
  obtain ⟨f1, f2, f3, f4, f5, ro1, f6⟩ := hr1
  refine CI_of (by decide) rfl (Nat.le_of_ble_eq_true rfl) ?_
  intro p e s m args below meth c Q ls G hH hl hQ
  obtain ⟨hx, hb, hml, hown, hts, hK, hST, hlocks, hr, hno⟩ := G
  have hOK := hSF.1
  have hown : s.vm.findClass RX6 = some m.cls := hown
  have hl : lv_has ls 1 [(0, .ref (xad E 0))] := hl
  have hinX1 : ∀ w ∈ u_ws RX1 TX1 9, w ∈ wsX6_shiftCount := fun w h => (List.mem_cons_of_mem _ (List.mem_append_right _ h))
  have hinX6 : ∀ w ∈ u_ws RX6 TX6 12, w ∈ wsX6_shiftCount := fun w h => (List.mem_cons_of_mem _ (List.mem_append_left _ (List.mem_append_right _ h)))
  refine lv_aload_n hx hb dX6_shiftCount_0 rfl (lv_at hl 0 rfl) ?_
  refine x_get hx hb hts hown hK hH 0 (ltw (by decide)) f0 hinX6 rfl 0 (by decide) (List.mem_of_getElem? (i := 1) rfl) rfl dX6_shiftCount_1 ?_
  refine x_get hx hb hts hown hK hH 1 (ltw (by decide)) f1 hinX1 rfl 7 (by decide) (List.mem_of_getElem? (i := 2) rfl) rfl dX6_shiftCount_4 ?_
  subst hQ
  exact x_iret hx hb hr hlocks hH (Nat.le_of_ble_eq_true rfl) (Nat.le_of_ble_eq_true rfl) ⟨(show sh = sh from (by first | rfl | omega | simp_all)), rfl⟩ dX6_shiftCount_7
