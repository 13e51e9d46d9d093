def rm_X6_needCell : Room := { frames := 6, cells := 1, slots := 6, locals := 90 }
set_option maxRecDepth 100000 in
set_option maxHeartbeats 4000000 in
theorem c_X6_needCell (l : Launch) (E : xE) (ST : xST) (hSF : SF ST) (htr : l.stackTraces = false) (σ : xW) (r : Int) (c0 : Int) (hr9 : rg r) (hc9 : rg c0) : XI l E ST yX6_needCell wsX6_needCell rm_X6_needCell [.int (iZ r), .int (iZ c0)] σ (fun (z : Int) (u : xW) => z = r * 5 + c0 ∧ (okC r c0) ∧ u = σ) (fun (n : String) (u : xW) => ((n = "java/lang/IndexOutOfBoundsException" ∧ ¬ okC r c0)) ∧ u = σ) := by
  refine XI_of (by decide) rfl (Nat.le_of_ble_eq_true rfl) ?_
  intro p e s m args below meth c Q ls G hH hl hQ
  obtain ⟨hx, hb, hml, hown, hts, hK, hST, hlocks, hr, hno⟩ := G
  have hOK := hSF.1
  have hown : s.vm.findClass RX6 = some m.cls := hown
  have hl : lv_has ls 2 [(0, .int (iZ r)), (1, .int (iZ c0))] := hl
  refine lv_iload_n hx hb dX6_needCell_0 rfl (lv_at hl 0 rfl) ?_
  refine x_cSID (As := [.int (iZ r)]) (rest := []) hx hb hml hts hown hK hST hOK hH (c_X6_isLine l E ST hSF σ r  (by omega)) (va_cwS 1 hts gX6_needCell_X6_isLine rfl rfl rfl (by decide +kernel) ⟨Nat.le_of_ble_eq_true rfl, Nat.le_of_ble_eq_true rfl⟩) rfl hl.1 rfl (Nat.le_of_ble_eq_true rfl) dX6_needCell_1 ⟨Nat.le_of_ble_eq_true rfl, Nat.le_of_ble_eq_true rfl⟩ (fun z u h => h) (fun H locs hH => ?_)
  refine x_ifb_eq (tgt := 14) hx hb dX6_needCell_4 (by decide) (fun c4 => ?_) (fun c4 => ?_)
  · have c4 := of_decide_eq_false c4
    subst hQ
    exact x_throwSW (text := "no such cell") hx hb hml htr hts hown hST hSF hno hlocks hH xExc_0 (List.mem_of_getElem? (i := 1) rfl) (List.mem_of_getElem? (i := 2) rfl) (fun w h => (List.mem_cons_of_mem _ (List.mem_append_right _ h))) (List.mem_of_getElem? (i := 10) rfl) hl.1 dX6_needCell_14 dX6_needCell_17 dX6_needCell_18 dX6_needCell_21 dX6_needCell_24 (Nat.le_of_ble_eq_true rfl) (Nat.le_of_ble_eq_true rfl) (Nat.le_of_ble_eq_true rfl) (Nat.le_of_ble_eq_true rfl) ⟨⟨rfl, (by first | omega | simp_all)⟩, rfl⟩ (Nat.le_of_ble_eq_true rfl) (Nat.le_of_ble_eq_true rfl)
  · have c4 := of_decide_eq_true c4
    refine lv_iload_n hx hb dX6_needCell_7 rfl (lv_at hl 1 rfl) ?_
    refine x_cSID (As := [.int (iZ c0)]) (rest := []) hx hb hml hts hown hK hST hOK hH (c_X6_isLine l E ST hSF σ c0  (by omega)) (va_cwS 1 hts gX6_needCell_X6_isLine rfl rfl rfl (by decide +kernel) ⟨Nat.le_of_ble_eq_true rfl, Nat.le_of_ble_eq_true rfl⟩) rfl hl.1 rfl (Nat.le_of_ble_eq_true rfl) dX6_needCell_8 ⟨Nat.le_of_ble_eq_true rfl, Nat.le_of_ble_eq_true rfl⟩ (fun z u h => h) (fun H locs hH => ?_)
    refine x_ifb_ne (tgt := 25) hx hb dX6_needCell_11 (by decide) (fun c11 => ?_) (fun c11 => ?_)
    · have c11 := of_decide_eq_true c11
      refine lv_iload_n hx hb dX6_needCell_25 rfl (lv_at hl 0 rfl) ?_
      refine x_iconst hx hb dX6_needCell_26 ?_
      refine x_imul hx hb dX6_needCell_27 ?_
      refine lv_iload_n hx hb dX6_needCell_28 rfl (lv_at hl 1 rfl) ?_
      refine x_iadd hx hb dX6_needCell_29 ?_
      subst hQ
      exact x_ireX hx hb hr hlocks hH (Nat.le_of_ble_eq_true rfl) (Nat.le_of_ble_eq_true rfl) ⟨(show ((r * 5) + c0) = (r * 5 + c0) from (by first | rfl | omega | simp_all)), (by first | assumption | omega | simp_all), rfl⟩ dX6_needCell_30
    · have c11 := of_decide_eq_false c11
      subst hQ
      exact x_throwSW (text := "no such cell") hx hb hml htr hts hown hST hSF hno hlocks hH xExc_0 (List.mem_of_getElem? (i := 1) rfl) (List.mem_of_getElem? (i := 2) rfl) (fun w h => (List.mem_cons_of_mem _ (List.mem_append_right _ h))) (List.mem_of_getElem? (i := 10) rfl) hl.1 dX6_needCell_14 dX6_needCell_17 dX6_needCell_18 dX6_needCell_21 dX6_needCell_24 (Nat.le_of_ble_eq_true rfl) (Nat.le_of_ble_eq_true rfl) (Nat.le_of_ble_eq_true rfl) (Nat.le_of_ble_eq_true rfl) ⟨⟨rfl, (by first | omega | simp_all)⟩, rfl⟩ (Nat.le_of_ble_eq_true rfl) (Nat.le_of_ble_eq_true rfl)

def rm_X6_needLine : Room := { frames := 6, cells := 1, slots := 6, locals := 90 }
set_option maxRecDepth 100000 in
set_option maxHeartbeats 4000000 in
theorem c_X6_needLine (l : Launch) (E : xE) (ST : xST) (hSF : SF ST) (htr : l.stackTraces = false) (σ : xW) (a : Int) (ha : rg a) : XI l E ST yX6_needLine wsX6_needLine rm_X6_needLine [.int (iZ a)] σ (fun (z : Int) (u : xW) => z = a ∧ (0 ≤ a ∧ a < 5) ∧ u = σ) (fun (n : String) (u : xW) => ((n = "java/lang/IndexOutOfBoundsException" ∧ ¬ (0 ≤ a ∧ a < 5))) ∧ u = σ) := by
  refine XI_of (by decide) rfl (Nat.le_of_ble_eq_true rfl) ?_
  intro p e s m args below meth c Q ls G hH hl hQ
  obtain ⟨hx, hb, hml, hown, hts, hK, hST, hlocks, hr, hno⟩ := G
  have hOK := hSF.1
  have hown : s.vm.findClass RX6 = some m.cls := hown
  have hl : lv_has ls 1 [(0, .int (iZ a))] := hl
  refine lv_iload_n hx hb dX6_needLine_0 rfl (lv_at hl 0 rfl) ?_
  refine x_cSID (As := [.int (iZ a)]) (rest := []) hx hb hml hts hown hK hST hOK hH (c_X6_isLine l E ST hSF σ a  (by omega)) (va_cwS 1 hts gX6_needLine_X6_isLine rfl rfl rfl (by decide +kernel) ⟨Nat.le_of_ble_eq_true rfl, Nat.le_of_ble_eq_true rfl⟩) rfl hl.1 rfl (Nat.le_of_ble_eq_true rfl) dX6_needLine_1 ⟨Nat.le_of_ble_eq_true rfl, Nat.le_of_ble_eq_true rfl⟩ (fun z u h => h) (fun H locs hH => ?_)
  refine x_ifb_ne (tgt := 18) hx hb dX6_needLine_4 (by decide) (fun c4 => ?_) (fun c4 => ?_)
  · have c4 := of_decide_eq_true c4
    refine lv_iload_n hx hb dX6_needLine_18 rfl (lv_at hl 0 rfl) ?_
    subst hQ
    exact x_ireX hx hb hr hlocks hH (Nat.le_of_ble_eq_true rfl) (Nat.le_of_ble_eq_true rfl) ⟨(show a = a from (by first | rfl | omega | simp_all)), (by first | assumption | omega | simp_all), rfl⟩ dX6_needLine_19
  · have c4 := of_decide_eq_false c4
    subst hQ
    exact x_throwSW (text := "no such row or column") hx hb hml htr hts hown hST hSF hno hlocks hH xExc_0 (List.mem_of_getElem? (i := 1) rfl) (List.mem_of_getElem? (i := 2) rfl) (fun w h => (List.mem_cons_of_mem _ (List.mem_append_right _ h))) (List.mem_of_getElem? (i := 2) rfl) hl.1 dX6_needLine_7 dX6_needLine_10 dX6_needLine_11 dX6_needLine_14 dX6_needLine_17 (Nat.le_of_ble_eq_true rfl) (Nat.le_of_ble_eq_true rfl) (Nat.le_of_ble_eq_true rfl) (Nat.le_of_ble_eq_true rfl) ⟨⟨rfl, (by first | omega | simp_all)⟩, rfl⟩ (Nat.le_of_ble_eq_true rfl) (Nat.le_of_ble_eq_true rfl)

def rm_X6_needWalker : Room := { frames := 6, cells := 1, slots := 6, locals := 90 }
set_option maxRecDepth 100000 in
set_option maxHeartbeats 4000000 in
theorem c_X6_needWalker (l : Launch) (E : xE) (ST : xST) (hSF : SF ST) (htr : l.stackTraces = false) (σ : xW) (w : Int) (hv : Bool) (se : Int) (sf : Int) (ll : Int) (op : Int → Int) (lk : Int → Int) (kp : Int → Int) (wc : Int → Int) (pn : Int) (nw : Int) (sh : Int) (wk : Int) (hr0 : mn E σ hv se sf ll) (hr1 : bd E σ 1 op lk kp wc pn nw sh wk) (hw9 : rg w) (hnw : 0 ≤ nw ∧ nw ≤ 3) : XI l E ST yX6_needWalker wsX6_needWalker rm_X6_needWalker [.ref (xad E 0), .int (iZ w)] σ (fun (z : Int) (u : xW) => z = w ∧ (0 ≤ w ∧ w < nw) ∧ u = σ) (fun (n : String) (u : xW) => ((n = "java/lang/IndexOutOfBoundsException" ∧ ¬ (0 ≤ w ∧ w < nw))) ∧ u = σ) := by
  have f0 : σ 0 = oB 4 [.ref (xad E 1), .ref (xad E 7), .ref (xad E 13), .ref (xad E 19), .int (iZ (b2 hv)), .ref (xad E 73), .ref (xad E 75), .ref (xad E 81), .int (iZ se), .int (iZ sf), .ref (xad E 84), .int (iZ ll)] := hr0
  obtain ⟨f1, f2, f3, f4, f5, ro1, f6⟩ := hr1
  refine XI_of (by decide) rfl (Nat.le_of_ble_eq_true rfl) ?_
  intro p e s m args below meth c Q ls G hH hl hQ
  obtain ⟨hx, hb, hml, hown, hts, hK, hST, hlocks, hr, hno⟩ := G
  have hOK := hSF.1
  have hown : s.vm.findClass RX6 = some m.cls := hown
  have hl : lv_has ls 2 [(0, .ref (xad E 0)), (1, .int (iZ w))] := hl
  have hinX6 : ∀ w ∈ u_ws RX6 TX6 12, w ∈ wsX6_needWalker := fun w h => (List.mem_cons_of_mem _ (List.mem_append_left _ (List.mem_append_left _ (List.mem_append_right _ h))))
  refine lv_aload_n hx hb dX6_needWalker_0 rfl (lv_at hl 0 rfl) ?_
  refine x_get hx hb hts hown hK hH 0 (ltw (by decide)) f0 hinX6 rfl 0 (by decide) (List.mem_of_getElem? (i := 3) rfl) rfl dX6_needWalker_1 ?_
  refine lv_iload_n hx hb dX6_needWalker_4 rfl (lv_at hl 1 rfl) ?_
  refine x_cVID (As := [.int (iZ w)]) (rest := []) hx hb hml hts hown hK hST hOK hH 1 (c_X1_isWalker l E ST hSF σ 1 w op lk kp wc pn nw sh wk ⟨f1, f2, f3, f4, f5, _, f6⟩ (by omega) (by omega) (by omega)) (cwV 1 hts gX6_needWalker_X1_isWalker rfl rfl rfl (by decide +kernel) ⟨Nat.le_of_ble_eq_true rfl, Nat.le_of_ble_eq_true rfl⟩) (ltw (by decide)) f1 rfl rfl hl.1 rfl (Nat.le_of_ble_eq_true rfl) dX6_needWalker_5 ⟨Nat.le_of_ble_eq_true rfl, Nat.le_of_ble_eq_true rfl⟩ (fun z u h => h) (fun H locs hH => ?_)
  refine x_ifb_ne (tgt := 22) hx hb dX6_needWalker_8 (by decide) (fun c8 => ?_) (fun c8 => ?_)
  · have c8 := of_decide_eq_true c8
    refine lv_iload_n hx hb dX6_needWalker_22 rfl (lv_at hl 1 rfl) ?_
    subst hQ
    exact x_ireX hx hb hr hlocks hH (Nat.le_of_ble_eq_true rfl) (Nat.le_of_ble_eq_true rfl) ⟨(show w = w from (by first | rfl | omega | simp_all)), (by first | assumption | omega | simp_all), rfl⟩ dX6_needWalker_23
  · have c8 := of_decide_eq_false c8
    subst hQ
    exact x_throwSW (text := "no such walker") hx hb hml htr hts hown hST hSF hno hlocks hH xExc_0 (List.mem_of_getElem? (i := 1) rfl) (List.mem_of_getElem? (i := 2) rfl) (fun w h => (List.mem_cons_of_mem _ (List.mem_append_right _ h))) (List.mem_of_getElem? (i := 8) rfl) hl.1 dX6_needWalker_11 dX6_needWalker_14 dX6_needWalker_15 dX6_needWalker_18 dX6_needWalker_21 (Nat.le_of_ble_eq_true rfl) (Nat.le_of_ble_eq_true rfl) (Nat.le_of_ble_eq_true rfl) (Nat.le_of_ble_eq_true rfl) ⟨⟨rfl, (by first | omega | simp_all)⟩, rfl⟩ (Nat.le_of_ble_eq_true rfl) (Nat.le_of_ble_eq_true rfl)

def rm_X6_needKey : Room := { frames := 6, cells := 1, slots := 6, locals := 90 }
set_option maxRecDepth 100000 in
set_option maxHeartbeats 4000000 in
theorem c_X6_needKey (l : Launch) (E : xE) (ST : xST) (hSF : SF ST) (htr : l.stackTraces = false) (σ : xW) (k : Int) (hk9 : rg k) : XI l E ST yX6_needKey wsX6_needKey rm_X6_needKey [.int (iZ k)] σ (fun (z : Int) (u : xW) => z = k - 97 ∧ (97 ≤ k ∧ k < 103) ∧ u = σ) (fun (n : String) (u : xW) => ((n = "java/lang/IllegalArgumentException" ∧ ¬ (97 ≤ k ∧ k < 103))) ∧ u = σ) := by
  refine XI_of (by decide) rfl (Nat.le_of_ble_eq_true rfl) ?_
  intro p e s m args below meth c Q ls G hH hl hQ
  obtain ⟨hx, hb, hml, hown, hts, hK, hST, hlocks, hr, hno⟩ := G
  have hOK := hSF.1
  have hown : s.vm.findClass RX6 = some m.cls := hown
  have hl : lv_has ls 1 [(0, .int (iZ k))] := hl
  refine lv_iload_n hx hb dX6_needKey_0 rfl (lv_at hl 0 rfl) ?_
  refine x_cSID (As := [.int (iZ k)]) (rest := []) hx hb hml hts hown hK hST hOK hH (c_X6_isKey l E ST hSF σ k  (by omega)) (va_cwS 1 hts gX6_needKey_X6_isKey rfl rfl rfl (by decide +kernel) ⟨Nat.le_of_ble_eq_true rfl, Nat.le_of_ble_eq_true rfl⟩) rfl hl.1 rfl (Nat.le_of_ble_eq_true rfl) dX6_needKey_1 ⟨Nat.le_of_ble_eq_true rfl, Nat.le_of_ble_eq_true rfl⟩ (fun z u h => h) (fun H locs hH => ?_)
  refine x_ifb_ne (tgt := 18) hx hb dX6_needKey_4 (by decide) (fun c4 => ?_) (fun c4 => ?_)
  · have c4 := of_decide_eq_true c4
    refine lv_iload_n hx hb dX6_needKey_18 rfl (lv_at hl 0 rfl) ?_
    refine x_bipush hx hb dX6_needKey_19 (by decide) ?_
    refine x_isub hx hb dX6_needKey_21 ?_
    subst hQ
    exact x_ireX hx hb hr hlocks hH (Nat.le_of_ble_eq_true rfl) (Nat.le_of_ble_eq_true rfl) ⟨(show (k - 97) = (k - 97) from (by first | rfl | omega | simp_all)), (by first | assumption | omega | simp_all), rfl⟩ dX6_needKey_22
  · have c4 := of_decide_eq_false c4
    subst hQ
    exact x_throwSW (text := "no such key") hx hb hml htr hts hown hST hSF hno hlocks hH xExc_1 (List.mem_of_getElem? (i := 1) rfl) (List.mem_of_getElem? (i := 2) rfl) (fun w h => (List.mem_cons_of_mem _ (List.mem_append_right _ h))) (List.mem_of_getElem? (i := 3) rfl) hl.1 dX6_needKey_7 dX6_needKey_10 dX6_needKey_11 dX6_needKey_14 dX6_needKey_17 (Nat.le_of_ble_eq_true rfl) (Nat.le_of_ble_eq_true rfl) (Nat.le_of_ble_eq_true rfl) (Nat.le_of_ble_eq_true rfl) ⟨⟨rfl, (by first | omega | simp_all)⟩, rfl⟩ (Nat.le_of_ble_eq_true rfl) (Nat.le_of_ble_eq_true rfl)

def rm_X6_needKeyCell : Room := { frames := 7, cells := 2, slots := 12, locals := 110 }
set_option maxRecDepth 100000 in
set_option maxHeartbeats 4000000 in
theorem c_X6_needKeyCell (l : Launch) (E : xE) (ST : xST) (hSF : SF ST) (htr : l.stackTraces = false) (σ : xW) (k : Int) (hv : Bool) (se : Int) (sf : Int) (ll : Int) (op : Int → Int) (lk : Int → Int) (kp : Int → Int) (wc : Int → Int) (pn : Int) (nw : Int) (sh : Int) (wk : Int) (hr0 : mn E σ hv se sf ll) (hr1 : bd E σ 1 op lk kp wc pn nw sh wk) (hk9 : rg k) (hB : BI op lk kp wc pn nw) : XI l E ST yX6_needKeyCell wsX6_needKeyCell rm_X6_needKeyCell [.ref (xad E 0), .int (iZ k)] σ (fun (z : Int) (u : xW) => z = kp (k - 97) ∧ (97 ≤ k ∧ k < 103) ∧ (0 ≤ kp (k - 97) ∧ kp (k - 97) < 25) ∧ u = σ) (fun (n : String) (u : xW) => ((n = "java/lang/IllegalArgumentException" ∧ ¬ (97 ≤ k ∧ k < 103)) ∨ (n = "java/util/NoSuchElementException" ∧ (97 ≤ k ∧ k < 103) ∧ ¬ (0 ≤ kp (k - 97) ∧ kp (k - 97) < 25))) ∧ u = σ) := by
  have f0 : σ 0 = oB 4 [.ref (xad E 1), .ref (xad E 7), .ref (xad E 13), .ref (xad E 19), .int (iZ (b2 hv)), .ref (xad E 73), .ref (xad E 75), .ref (xad E 81), .int (iZ se), .int (iZ sf), .ref (xad E 84), .int (iZ ll)] := hr0
  obtain ⟨f1, f2, f3, f4, f5, ro1, f6⟩ := hr1
  refine XI_of (by decide) rfl (Nat.le_of_ble_eq_true rfl) ?_
  intro p e s m args below meth c Q ls G hH hl hQ
  obtain ⟨hx, hb, hml, hown, hts, hK, hST, hlocks, hr, hno⟩ := G
  have hOK := hSF.1
  have hown : s.vm.findClass RX6 = some m.cls := hown
  have hl : lv_has ls 3 [(0, .ref (xad E 0)), (1, .int (iZ k))] := hl
  have hinX1 : ∀ w ∈ u_ws RX1 TX1 9, w ∈ wsX6_needKeyCell := fun w h => (List.mem_cons_of_mem _ (List.mem_append_left _ (List.mem_append_left _ (List.mem_append_right _ h))))
  have hinX6 : ∀ w ∈ u_ws RX6 TX6 12, w ∈ wsX6_needKeyCell := fun w h => (List.mem_cons_of_mem _ (List.mem_append_left _ (List.mem_append_left _ (List.mem_append_left _ (List.mem_append_right _ h)))))
  obtain ⟨hop, hlk, hkp, hwc, hpn, hnw⟩ := id hB
  refine lv_aload_n hx hb dX6_needKeyCell_0 rfl (lv_at hl 0 rfl) ?_
  refine x_get hx hb hts hown hK hH 0 (ltw (by decide)) f0 hinX6 rfl 0 (by decide) (List.mem_of_getElem? (i := 3) rfl) rfl dX6_needKeyCell_1 ?_
  refine x_get hx hb hts hown hK hH 1 (ltw (by decide)) f1 hinX1 rfl 2 (by decide) (List.mem_of_getElem? (i := 4) rfl) rfl dX6_needKeyCell_4 ?_
  refine lv_iload_n hx hb dX6_needKeyCell_7 rfl (lv_at hl 1 rfl) ?_
  refine x_cXSIE (As := [.int (iZ k)]) (rest := [.ref (xad E 4)]) hx hb hml hts hown hK hST hOK hH (c_X6_needKey l E ST hSF htr σ k  (by omega)) (va_cwS 1 hts gX6_needKeyCell_X6_needKey rfl rfl rfl (by decide +kernel) ⟨Nat.le_of_ble_eq_true rfl, Nat.le_of_ble_eq_true rfl⟩) rfl hl.1 rfl (Nat.le_of_ble_eq_true rfl) dX6_needKeyCell_8 ⟨Nat.le_of_ble_eq_true rfl, Nat.le_of_ble_eq_true rfl⟩ ?_ (fun z u h => h) (fun σ2 H locs hp3 hH => ?_)
  · intro nx ce q9 σ2 H locs hp3 hH hce hcv hcl
    subst hQ
    obtain ⟨hn, hu⟩ := hp3
    rw [hu] at hH
    exact x_out hno hlocks hH hce hcv hcl ⟨(by simp_all <;> omega), rfl⟩ (Nat.le_of_ble_eq_true rfl) (Nat.le_of_ble_eq_true rfl)
  · obtain ⟨hf4, hu5⟩ := hp3
    rw [hu5] at hH
    refine x_iald hx hb hK hH 4 (ltw (by decide)) f4 (by omega) (by omega) (by omega) dX6_needKeyCell_11 ?_
    have hv6 := hkp (k - 97)
    refine lv_istore_n (lv' := [(2, .int (iZ (kp (k - 97)))), (0, .ref (xad E 0)), (1, .int (iZ k))]) hx hb dX6_needKeyCell_12 rfl hl (by decide) rfl (fun ls hl => ?_)
    refine lv_iload_n hx hb dX6_needKeyCell_13 rfl (lv_at hl 0 rfl) ?_
    refine x_cSID (As := [.int (iZ (kp (k - 97)))]) (rest := []) hx hb hml hts hown hK hST hOK hH (c_X6_isCell l E ST hSF σ (kp (k - 97))  (by omega)) (va_cwS 1 hts gX6_needKeyCell_X6_isCell rfl rfl rfl (by decide +kernel) ⟨Nat.le_of_ble_eq_true rfl, Nat.le_of_ble_eq_true rfl⟩) rfl hl.1 rfl (Nat.le_of_ble_eq_true rfl) dX6_needKeyCell_14 ⟨Nat.le_of_ble_eq_true rfl, Nat.le_of_ble_eq_true rfl⟩ (fun z u h => h) (fun H locs hH => ?_)
    refine x_ifb_ne (tgt := 31) hx hb dX6_needKeyCell_17 (by decide) (fun c17 => ?_) (fun c17 => ?_)
    · have c17 := of_decide_eq_true c17
      refine lv_iload_n hx hb dX6_needKeyCell_31 rfl (lv_at hl 0 rfl) ?_
      subst hQ
      exact x_ireX hx hb hr hlocks hH (Nat.le_of_ble_eq_true rfl) (Nat.le_of_ble_eq_true rfl) ⟨(show (kp (k - 97)) = (kp (k - 97)) from (by first | rfl | omega | simp_all)), (by first | assumption | omega | simp_all), (by first | assumption | omega | simp_all), rfl⟩ dX6_needKeyCell_32
    · have c17 := of_decide_eq_false c17
      subst hQ
      exact x_throwSWN (text := "the key does not lie on a tile") hx hb hml htr hts hown hST hSF hno hlocks hH xExc_4 (List.mem_of_getElem? (i := 1) rfl) (List.mem_of_getElem? (i := 2) rfl) (fun w h => (List.mem_cons_of_mem _ (List.mem_append_left _ (List.mem_append_right _ h)))) (List.mem_of_getElem? (i := 14) rfl) hl.1 dX6_needKeyCell_20 dX6_needKeyCell_23 dX6_needKeyCell_24 dX6_needKeyCell_27 dX6_needKeyCell_30 (Nat.le_of_ble_eq_true rfl) (Nat.le_of_ble_eq_true rfl) (Nat.le_of_ble_eq_true rfl) (Nat.le_of_ble_eq_true rfl) ⟨Or.inr (⟨rfl, (by first | omega | simp_all)⟩), rfl⟩ (Nat.le_of_ble_eq_true rfl) (Nat.le_of_ble_eq_true rfl)

def rm_X6_needPath : Room := { frames := 6, cells := 1, slots := 6, locals := 90 }
set_option maxRecDepth 100000 in
set_option maxHeartbeats 4000000 in
theorem c_X6_needPath (l : Launch) (E : xE) (ST : xST) (hSF : SF ST) (htr : l.stackTraces = false) (σ : xW) (a : Int) (ha : rg a) : XI l E ST yX6_needPath wsX6_needPath rm_X6_needPath [.int (iZ a)] σ (fun (z : Int) (u : xW) => z = a ∧ (a < 25) ∧ u = σ) (fun (n : String) (u : xW) => ((n = "java/util/NoSuchElementException" ∧ 25 ≤ a)) ∧ u = σ) := by
  refine XI_of (by decide) rfl (Nat.le_of_ble_eq_true rfl) ?_
  intro p e s m args below meth c Q ls G hH hl hQ
  obtain ⟨hx, hb, hml, hown, hts, hK, hST, hlocks, hr, hno⟩ := G
  have hOK := hSF.1
  have hown : s.vm.findClass RX6 = some m.cls := hown
  have hl : lv_has ls 1 [(0, .int (iZ a))] := hl
  refine lv_iload_n hx hb dX6_needPath_0 rfl (lv_at hl 0 rfl) ?_
  refine x_bipush hx hb dX6_needPath_1 (by decide) ?_
  refine x_icmp_lt (tgt := 17) hx hb dX6_needPath_3 (by decide) (by omega) (by decide) (fun c3 => ?_) (fun c3 => ?_)
  · refine lv_iload_n hx hb dX6_needPath_17 rfl (lv_at hl 0 rfl) ?_
    subst hQ
    exact x_ireX hx hb hr hlocks hH (Nat.le_of_ble_eq_true rfl) (Nat.le_of_ble_eq_true rfl) ⟨(show a = a from (by first | rfl | omega | simp_all)), (by first | assumption | omega | simp_all), rfl⟩ dX6_needPath_18
  · subst hQ
    exact x_throwSWN (text := "there is no path") hx hb hml htr hts hown hST hSF hno hlocks hH xExc_4 (List.mem_of_getElem? (i := 1) rfl) (List.mem_of_getElem? (i := 2) rfl) (fun w h => (List.mem_cons_of_mem _ (List.mem_append_right _ h))) (List.mem_of_getElem? (i := 0) rfl) hl.1 dX6_needPath_6 dX6_needPath_9 dX6_needPath_10 dX6_needPath_13 dX6_needPath_16 (Nat.le_of_ble_eq_true rfl) (Nat.le_of_ble_eq_true rfl) (Nat.le_of_ble_eq_true rfl) (Nat.le_of_ble_eq_true rfl) ⟨⟨rfl, (by first | omega | simp_all)⟩, rfl⟩ (Nat.le_of_ble_eq_true rfl) (Nat.le_of_ble_eq_true rfl)

def rm_X6_openings : Room := { frames := 7, cells := 1, slots := 6, locals := 111 }
set_option maxRecDepth 100000 in
set_option maxHeartbeats 4000000 in
theorem c_X6_openings (l : Launch) (E : xE) (ST : xST) (hSF : SF ST) (htr : l.stackTraces = false) (σ : xW) (r : Int) (c0 : Int) (hv : Bool) (se : Int) (sf : Int) (ll : Int) (op : Int → Int) (lk : Int → Int) (kp : Int → Int) (wc : Int → Int) (pn : Int) (nw : Int) (sh : Int) (wk : Int) (hr0 : mn E σ hv se sf ll) (hr1 : bd E σ 1 op lk kp wc pn nw sh wk) (hB : BI op lk kp wc pn nw) (hr9 : rg r) (hc9 : rg c0) : XI l E ST yX6_openings wsX6_openings rm_X6_openings [.ref (xad E 0), .int (iZ r), .int (iZ c0)] σ (fun (z : Int) (u : xW) => z = op (r * 5 + c0) ∧ (okC r c0) ∧ u = σ) (fun (n : String) (u : xW) => ((n = "java/lang/IndexOutOfBoundsException" ∧ ¬ okC r c0)) ∧ u = σ) := by
  have f0 : σ 0 = oB 4 [.ref (xad E 1), .ref (xad E 7), .ref (xad E 13), .ref (xad E 19), .int (iZ (b2 hv)), .ref (xad E 73), .ref (xad E 75), .ref (xad E 81), .int (iZ se), .int (iZ sf), .ref (xad E 84), .int (iZ ll)] := hr0
  obtain ⟨f1, f2, f3, f4, f5, ro1, f6⟩ := hr1
  refine XI_of (by decide) rfl (Nat.le_of_ble_eq_true rfl) ?_
  intro p e s m args below meth c Q ls G hH hl hQ
  obtain ⟨hx, hb, hml, hown, hts, hK, hST, hlocks, hr, hno⟩ := G
  have hOK := hSF.1
  have hown : s.vm.findClass RX6 = some m.cls := hown
  have hl : lv_has ls 3 [(0, .ref (xad E 0)), (1, .int (iZ r)), (2, .int (iZ c0))] := hl
  have hinX1 : ∀ w ∈ u_ws RX1 TX1 9, w ∈ wsX6_openings := fun w h => (List.mem_cons_of_mem _ (List.mem_append_left _ (List.mem_append_right _ h)))
  have hinX6 : ∀ w ∈ u_ws RX6 TX6 12, w ∈ wsX6_openings := fun w h => (List.mem_cons_of_mem _ (List.mem_append_left _ (List.mem_append_left _ (List.mem_append_right _ h))))
  obtain ⟨hop, hlk, hkp, hwc, hpn, hnw⟩ := id hB
  refine lv_aload_n hx hb dX6_openings_0 rfl (lv_at hl 0 rfl) ?_
  refine x_get hx hb hts hown hK hH 0 (ltw (by decide)) f0 hinX6 rfl 0 (by decide) (List.mem_of_getElem? (i := 1) rfl) rfl dX6_openings_1 ?_
  refine x_get hx hb hts hown hK hH 1 (ltw (by decide)) f1 hinX1 rfl 0 (by decide) (List.mem_of_getElem? (i := 2) rfl) rfl dX6_openings_4 ?_
  refine lv_iload_n hx hb dX6_openings_7 rfl (lv_at hl 1 rfl) ?_
  refine lv_iload_n hx hb dX6_openings_8 rfl (lv_at hl 2 rfl) ?_
  refine x_cXSIE (As := [.int (iZ r), .int (iZ c0)]) (rest := [.ref (xad E 2)]) hx hb hml hts hown hK hST hOK hH (c_X6_needCell l E ST hSF htr σ r c0  (by omega) (by omega)) (va_cwS 2 hts gX6_openings_X6_needCell rfl rfl rfl (by decide +kernel) ⟨Nat.le_of_ble_eq_true rfl, Nat.le_of_ble_eq_true rfl⟩) rfl hl.1 rfl (Nat.le_of_ble_eq_true rfl) dX6_openings_9 ⟨Nat.le_of_ble_eq_true rfl, Nat.le_of_ble_eq_true rfl⟩ ?_ (fun z u h => h) (fun σ2 H locs hp3 hH => ?_)
  · intro nx ce q9 σ2 H locs hp3 hH hce hcv hcl
    subst hQ
    obtain ⟨hn, hu⟩ := hp3
    rw [hu] at hH
    exact x_out hno hlocks hH hce hcv hcl ⟨(by first | exact hn | simp_all | omega), rfl⟩ (Nat.le_of_ble_eq_true rfl) (Nat.le_of_ble_eq_true rfl)
  · obtain ⟨hf4, hu5⟩ := hp3
    rw [hu5] at hH
    refine x_iald hx hb hK hH 2 (ltw (by decide)) f2 (by omega) (by omega) (by omega) dX6_openings_12 ?_
    have hv6 := hop (r * 5 + c0)
    subst hQ
    exact x_ireX hx hb hr hlocks hH (Nat.le_of_ble_eq_true rfl) (Nat.le_of_ble_eq_true rfl) ⟨(show (op (r * 5 + c0)) = (op (r * 5 + c0)) from (by first | rfl | omega | simp_all)), (by first | assumption | omega | simp_all), rfl⟩ dX6_openings_13

def rm_X6_isPinned : Room := { frames := 7, cells := 1, slots := 6, locals := 111 }
set_option maxRecDepth 100000 in
set_option maxHeartbeats 4000000 in
theorem c_X6_isPinned (l : Launch) (E : xE) (ST : xST) (hSF : SF ST) (htr : l.stackTraces = false) (σ : xW) (r : Int) (c0 : Int) (hv : Bool) (se : Int) (sf : Int) (ll : Int) (op : Int → Int) (lk : Int → Int) (kp : Int → Int) (wc : Int → Int) (pn : Int) (nw : Int) (sh : Int) (wk : Int) (hr0 : mn E σ hv se sf ll) (hr1 : bd E σ 1 op lk kp wc pn nw sh wk) (hB : BI op lk kp wc pn nw) (hr9 : rg r) (hc9 : rg c0) : XI l E ST yX6_isPinned wsX6_isPinned rm_X6_isPinned [.ref (xad E 0), .int (iZ r), .int (iZ c0)] σ (fun (z : Int) (u : xW) => z = b2 (decide (iandZ (ishrZ pn (r * 5 + c0)) 1 = 1)) ∧ (okC r c0) ∧ u = σ) (fun (n : String) (u : xW) => ((n = "java/lang/IndexOutOfBoundsException" ∧ ¬ okC r c0)) ∧ u = σ) := by
  have f0 : σ 0 = oB 4 [.ref (xad E 1), .ref (xad E 7), .ref (xad E 13), .ref (xad E 19), .int (iZ (b2 hv)), .ref (xad E 73), .ref (xad E 75), .ref (xad E 81), .int (iZ se), .int (iZ sf), .ref (xad E 84), .int (iZ ll)] := hr0
  obtain ⟨f1, f2, f3, f4, f5, ro1, f6⟩ := hr1
  refine XI_of (by decide) rfl (Nat.le_of_ble_eq_true rfl) ?_
  intro p e s m args below meth c Q ls G hH hl hQ
  obtain ⟨hx, hb, hml, hown, hts, hK, hST, hlocks, hr, hno⟩ := G
  have hOK := hSF.1
  have hown : s.vm.findClass RX6 = some m.cls := hown
  have hl : lv_has ls 3 [(0, .ref (xad E 0)), (1, .int (iZ r)), (2, .int (iZ c0))] := hl
  have hinX6 : ∀ w ∈ u_ws RX6 TX6 12, w ∈ wsX6_isPinned := fun w h => (List.mem_cons_of_mem _ (List.mem_append_left _ (List.mem_append_left _ (List.mem_append_right _ h))))
  obtain ⟨hop, hlk, hkp, hwc, hpn, hnw⟩ := id hB
  refine lv_aload_n hx hb dX6_isPinned_0 rfl (lv_at hl 0 rfl) ?_
  refine x_get hx hb hts hown hK hH 0 (ltw (by decide)) f0 hinX6 rfl 0 (by decide) (List.mem_of_getElem? (i := 1) rfl) rfl dX6_isPinned_1 ?_
  refine lv_iload_n hx hb dX6_isPinned_4 rfl (lv_at hl 1 rfl) ?_
  refine lv_iload_n hx hb dX6_isPinned_5 rfl (lv_at hl 2 rfl) ?_
  refine x_cXSIE (As := [.int (iZ r), .int (iZ c0)]) (rest := [.ref (xad E 1)]) hx hb hml hts hown hK hST hOK hH (c_X6_needCell l E ST hSF htr σ r c0  (by omega) (by omega)) (va_cwS 2 hts gX6_isPinned_X6_needCell rfl rfl rfl (by decide +kernel) ⟨Nat.le_of_ble_eq_true rfl, Nat.le_of_ble_eq_true rfl⟩) rfl hl.1 rfl (Nat.le_of_ble_eq_true rfl) dX6_isPinned_6 ⟨Nat.le_of_ble_eq_true rfl, Nat.le_of_ble_eq_true rfl⟩ ?_ (fun z u h => h) (fun σ2 H locs hp3 hH => ?_)
  · intro nx ce q9 σ2 H locs hp3 hH hce hcv hcl
    subst hQ
    obtain ⟨hn, hu⟩ := hp3
    rw [hu] at hH
    exact x_out hno hlocks hH hce hcv hcl ⟨(by first | exact hn | simp_all | omega), rfl⟩ (Nat.le_of_ble_eq_true rfl) (Nat.le_of_ble_eq_true rfl)
  · obtain ⟨hf4, hu5⟩ := hp3
    rw [hu5] at hH
    refine x_cVID (As := [.int (iZ (r * 5 + c0))]) (rest := []) hx hb hml hts hown hK hST hOK hH 1 (c_X1_isFixed l E ST hSF σ 1 (r * 5 + c0) op lk kp wc pn nw sh wk ⟨f1, f2, f3, f4, f5, _, f6⟩ (by omega) (by omega)) (cwV 1 hts gX6_isPinned_X1_isFixed rfl rfl rfl (by decide +kernel) ⟨Nat.le_of_ble_eq_true rfl, Nat.le_of_ble_eq_true rfl⟩) (ltw (by decide)) f1 rfl rfl hl.1 rfl (Nat.le_of_ble_eq_true rfl) dX6_isPinned_9 ⟨Nat.le_of_ble_eq_true rfl, Nat.le_of_ble_eq_true rfl⟩ (fun z u h => h) (fun H locs hH => ?_)
    subst hQ
    exact x_zreX (b := (decide (iandZ (ishrZ pn (r * 5 + c0)) 1 = 1))) hx hb hr hlocks hH (Nat.le_of_ble_eq_true rfl) (Nat.le_of_ble_eq_true rfl) ⟨congrArg b2 (show (decide (iandZ (ishrZ pn (r * 5 + c0)) 1 = 1)) = (decide (iandZ (ishrZ pn (r * 5 + c0)) 1 = 1)) from (by rfl)), (by first | assumption | omega | simp_all), rfl⟩ dX6_isPinned_12

def rm_X6_canShiftRow : Room := { frames := 7, cells := 1, slots := 6, locals := 110 }
set_option maxRecDepth 100000 in
set_option maxHeartbeats 4000000 in
theorem c_X6_canShiftRow (l : Launch) (E : xE) (ST : xST) (hSF : SF ST) (htr : l.stackTraces = false) (σ : xW) (r : Int) (hv : Bool) (se : Int) (sf : Int) (ll : Int) (op : Int → Int) (lk : Int → Int) (kp : Int → Int) (wc : Int → Int) (pn : Int) (nw : Int) (sh : Int) (wk : Int) (hr0 : mn E σ hv se sf ll) (hr1 : bd E σ 1 op lk kp wc pn nw sh wk) (hB : BI op lk kp wc pn nw) (hr9 : rg r) : XI l E ST yX6_canShiftRow wsX6_canShiftRow rm_X6_canShiftRow [.ref (xad E 0), .int (iZ r)] σ (fun (z : Int) (u : xW) => z = b2 (lfB pn (r * 5) 1) ∧ (0 ≤ r ∧ r < 5) ∧ u = σ) (fun (n : String) (u : xW) => ((n = "java/lang/IndexOutOfBoundsException" ∧ ¬ (0 ≤ r ∧ r < 5))) ∧ u = σ) := by
  have f0 : σ 0 = oB 4 [.ref (xad E 1), .ref (xad E 7), .ref (xad E 13), .ref (xad E 19), .int (iZ (b2 hv)), .ref (xad E 73), .ref (xad E 75), .ref (xad E 81), .int (iZ se), .int (iZ sf), .ref (xad E 84), .int (iZ ll)] := hr0
  obtain ⟨f1, f2, f3, f4, f5, ro1, f6⟩ := hr1
  refine XI_of (by decide) rfl (Nat.le_of_ble_eq_true rfl) ?_
  intro p e s m args below meth c Q ls G hH hl hQ
  obtain ⟨hx, hb, hml, hown, hts, hK, hST, hlocks, hr, hno⟩ := G
  have hOK := hSF.1
  have hown : s.vm.findClass RX6 = some m.cls := hown
  have hl : lv_has ls 2 [(0, .ref (xad E 0)), (1, .int (iZ r))] := hl
  have hinX6 : ∀ w ∈ u_ws RX6 TX6 12, w ∈ wsX6_canShiftRow := fun w h => (List.mem_cons_of_mem _ (List.mem_append_left _ (List.mem_append_left _ (List.mem_append_right _ h))))
  obtain ⟨hop, hlk, hkp, hwc, hpn, hnw⟩ := id hB
  refine lv_aload_n hx hb dX6_canShiftRow_0 rfl (lv_at hl 0 rfl) ?_
  refine x_get hx hb hts hown hK hH 0 (ltw (by decide)) f0 hinX6 rfl 0 (by decide) (List.mem_of_getElem? (i := 1) rfl) rfl dX6_canShiftRow_1 ?_
  refine lv_iload_n hx hb dX6_canShiftRow_4 rfl (lv_at hl 1 rfl) ?_
  refine x_cXSIE (As := [.int (iZ r)]) (rest := [.ref (xad E 1)]) hx hb hml hts hown hK hST hOK hH (c_X6_needLine l E ST hSF htr σ r  (by omega)) (va_cwS 1 hts gX6_canShiftRow_X6_needLine rfl rfl rfl (by decide +kernel) ⟨Nat.le_of_ble_eq_true rfl, Nat.le_of_ble_eq_true rfl⟩) rfl hl.1 rfl (Nat.le_of_ble_eq_true rfl) dX6_canShiftRow_5 ⟨Nat.le_of_ble_eq_true rfl, Nat.le_of_ble_eq_true rfl⟩ ?_ (fun z u h => h) (fun σ2 H locs hp3 hH => ?_)
  · intro nx ce q9 σ2 H locs hp3 hH hce hcv hcl
    subst hQ
    obtain ⟨hn, hu⟩ := hp3
    rw [hu] at hH
    exact x_out hno hlocks hH hce hcv hcl ⟨(by first | exact hn | simp_all | omega), rfl⟩ (Nat.le_of_ble_eq_true rfl) (Nat.le_of_ble_eq_true rfl)
  · obtain ⟨hf4, hu5⟩ := hp3
    rw [hu5] at hH
    refine x_iconst hx hb dX6_canShiftRow_8 ?_
    refine x_imul hx hb dX6_canShiftRow_9 ?_
    refine x_iconst hx hb dX6_canShiftRow_10 ?_
    refine x_cVID (As := [.int (iZ (r * 5)), .int (iZ 1)]) (rest := []) hx hb hml hts hown hK hST hOK hH 1 (c_X1_isLineFree l E ST hSF σ 1 (r * 5) 1 op lk kp wc pn nw sh wk ⟨f1, f2, f3, f4, f5, _, f6⟩ (by omega) (Or.inl ⟨rfl, by omega, by omega⟩)) (cwV 2 hts gX6_canShiftRow_X1_isLineFree rfl rfl rfl (by decide +kernel) ⟨Nat.le_of_ble_eq_true rfl, Nat.le_of_ble_eq_true rfl⟩) (ltw (by decide)) f1 rfl rfl hl.1 rfl (Nat.le_of_ble_eq_true rfl) dX6_canShiftRow_11 ⟨Nat.le_of_ble_eq_true rfl, Nat.le_of_ble_eq_true rfl⟩ (fun z u h => h) (fun H locs hH => ?_)
    subst hQ
    exact x_zreX (b := (lfB pn (r * 5) 1)) hx hb hr hlocks hH (Nat.le_of_ble_eq_true rfl) (Nat.le_of_ble_eq_true rfl) ⟨congrArg b2 (show (lfB pn (r * 5) 1) = (lfB pn (r * 5) 1) from (by rfl)), (by first | assumption | omega | simp_all), rfl⟩ dX6_canShiftRow_14

def rm_X6_canShiftColumn : Room := { frames := 7, cells := 1, slots := 6, locals := 110 }
set_option maxRecDepth 100000 in
set_option maxHeartbeats 4000000 in
theorem c_X6_canShiftColumn (l : Launch) (E : xE) (ST : xST) (hSF : SF ST) (htr : l.stackTraces = false) (σ : xW) (r : Int) (hv : Bool) (se : Int) (sf : Int) (ll : Int) (op : Int → Int) (lk : Int → Int) (kp : Int → Int) (wc : Int → Int) (pn : Int) (nw : Int) (sh : Int) (wk : Int) (hr0 : mn E σ hv se sf ll) (hr1 : bd E σ 1 op lk kp wc pn nw sh wk) (hB : BI op lk kp wc pn nw) (hr9 : rg r) : XI l E ST yX6_canShiftColumn wsX6_canShiftColumn rm_X6_canShiftColumn [.ref (xad E 0), .int (iZ r)] σ (fun (z : Int) (u : xW) => z = b2 (lfB pn r 5) ∧ (0 ≤ r ∧ r < 5) ∧ u = σ) (fun (n : String) (u : xW) => ((n = "java/lang/IndexOutOfBoundsException" ∧ ¬ (0 ≤ r ∧ r < 5))) ∧ u = σ) := by
  have f0 : σ 0 = oB 4 [.ref (xad E 1), .ref (xad E 7), .ref (xad E 13), .ref (xad E 19), .int (iZ (b2 hv)), .ref (xad E 73), .ref (xad E 75), .ref (xad E 81), .int (iZ se), .int (iZ sf), .ref (xad E 84), .int (iZ ll)] := hr0
  obtain ⟨f1, f2, f3, f4, f5, ro1, f6⟩ := hr1
  refine XI_of (by decide) rfl (Nat.le_of_ble_eq_true rfl) ?_
  intro p e s m args below meth c Q ls G hH hl hQ
  obtain ⟨hx, hb, hml, hown, hts, hK, hST, hlocks, hr, hno⟩ := G
  have hOK := hSF.1
  have hown : s.vm.findClass RX6 = some m.cls := hown
  have hl : lv_has ls 2 [(0, .ref (xad E 0)), (1, .int (iZ r))] := hl
  have hinX6 : ∀ w ∈ u_ws RX6 TX6 12, w ∈ wsX6_canShiftColumn := fun w h => (List.mem_cons_of_mem _ (List.mem_append_left _ (List.mem_append_left _ (List.mem_append_right _ h))))
  obtain ⟨hop, hlk, hkp, hwc, hpn, hnw⟩ := id hB
  refine lv_aload_n hx hb dX6_canShiftColumn_0 rfl (lv_at hl 0 rfl) ?_
  refine x_get hx hb hts hown hK hH 0 (ltw (by decide)) f0 hinX6 rfl 0 (by decide) (List.mem_of_getElem? (i := 1) rfl) rfl dX6_canShiftColumn_1 ?_
  refine lv_iload_n hx hb dX6_canShiftColumn_4 rfl (lv_at hl 1 rfl) ?_
  refine x_cXSIE (As := [.int (iZ r)]) (rest := [.ref (xad E 1)]) hx hb hml hts hown hK hST hOK hH (c_X6_needLine l E ST hSF htr σ r  (by omega)) (va_cwS 1 hts gX6_canShiftColumn_X6_needLine rfl rfl rfl (by decide +kernel) ⟨Nat.le_of_ble_eq_true rfl, Nat.le_of_ble_eq_true rfl⟩) rfl hl.1 rfl (Nat.le_of_ble_eq_true rfl) dX6_canShiftColumn_5 ⟨Nat.le_of_ble_eq_true rfl, Nat.le_of_ble_eq_true rfl⟩ ?_ (fun z u h => h) (fun σ2 H locs hp3 hH => ?_)
  · intro nx ce q9 σ2 H locs hp3 hH hce hcv hcl
    subst hQ
    obtain ⟨hn, hu⟩ := hp3
    rw [hu] at hH
    exact x_out hno hlocks hH hce hcv hcl ⟨(by first | exact hn | simp_all | omega), rfl⟩ (Nat.le_of_ble_eq_true rfl) (Nat.le_of_ble_eq_true rfl)
  · obtain ⟨hf4, hu5⟩ := hp3
    rw [hu5] at hH
    refine x_iconst hx hb dX6_canShiftColumn_8 ?_
    refine x_cVID (As := [.int (iZ r), .int (iZ 5)]) (rest := []) hx hb hml hts hown hK hST hOK hH 1 (c_X1_isLineFree l E ST hSF σ 1 r 5 op lk kp wc pn nw sh wk ⟨f1, f2, f3, f4, f5, _, f6⟩ (by omega) (Or.inr ⟨rfl, by omega, by omega⟩)) (cwV 2 hts gX6_canShiftColumn_X1_isLineFree rfl rfl rfl (by decide +kernel) ⟨Nat.le_of_ble_eq_true rfl, Nat.le_of_ble_eq_true rfl⟩) (ltw (by decide)) f1 rfl rfl hl.1 rfl (Nat.le_of_ble_eq_true rfl) dX6_canShiftColumn_9 ⟨Nat.le_of_ble_eq_true rfl, Nat.le_of_ble_eq_true rfl⟩ (fun z u h => h) (fun H locs hH => ?_)
    subst hQ
    exact x_zreX (b := (lfB pn r 5)) hx hb hr hlocks hH (Nat.le_of_ble_eq_true rfl) (Nat.le_of_ble_eq_true rfl) ⟨congrArg b2 (show (lfB pn r 5) = (lfB pn r 5) from (by rfl)), (by first | assumption | omega | simp_all), rfl⟩ dX6_canShiftColumn_12

def rm_X6_hasLock : Room := { frames := 7, cells := 1, slots := 6, locals := 111 }
set_option maxRecDepth 100000 in
set_option maxHeartbeats 4000000 in
theorem c_X6_hasLock (l : Launch) (E : xE) (ST : xST) (hSF : SF ST) (htr : l.stackTraces = false) (σ : xW) (r : Int) (c0 : Int) (hv : Bool) (se : Int) (sf : Int) (ll : Int) (op : Int → Int) (lk : Int → Int) (kp : Int → Int) (wc : Int → Int) (pn : Int) (nw : Int) (sh : Int) (wk : Int) (hr0 : mn E σ hv se sf ll) (hr1 : bd E σ 1 op lk kp wc pn nw sh wk) (hB : BI op lk kp wc pn nw) (hr9 : rg r) (hc9 : rg c0) : XI l E ST yX6_hasLock wsX6_hasLock rm_X6_hasLock [.ref (xad E 0), .int (iZ r), .int (iZ c0)] σ (fun (z : Int) (u : xW) => z = b2 (decide (¬ lk (r * 5 + c0) = -1)) ∧ (okC r c0) ∧ u = σ) (fun (n : String) (u : xW) => ((n = "java/lang/IndexOutOfBoundsException" ∧ ¬ okC r c0)) ∧ u = σ) := by
  have f0 : σ 0 = oB 4 [.ref (xad E 1), .ref (xad E 7), .ref (xad E 13), .ref (xad E 19), .int (iZ (b2 hv)), .ref (xad E 73), .ref (xad E 75), .ref (xad E 81), .int (iZ se), .int (iZ sf), .ref (xad E 84), .int (iZ ll)] := hr0
  obtain ⟨f1, f2, f3, f4, f5, ro1, f6⟩ := hr1
  refine XI_of (by decide) rfl (Nat.le_of_ble_eq_true rfl) ?_
  intro p e s m args below meth c Q ls G hH hl hQ
  obtain ⟨hx, hb, hml, hown, hts, hK, hST, hlocks, hr, hno⟩ := G
  have hOK := hSF.1
  have hown : s.vm.findClass RX6 = some m.cls := hown
  have hl : lv_has ls 3 [(0, .ref (xad E 0)), (1, .int (iZ r)), (2, .int (iZ c0))] := hl
  have hinX1 : ∀ w ∈ u_ws RX1 TX1 9, w ∈ wsX6_hasLock := fun w h => (List.mem_cons_of_mem _ (List.mem_append_left _ (List.mem_append_right _ h)))
  have hinX6 : ∀ w ∈ u_ws RX6 TX6 12, w ∈ wsX6_hasLock := fun w h => (List.mem_cons_of_mem _ (List.mem_append_left _ (List.mem_append_left _ (List.mem_append_right _ h))))
  obtain ⟨hop, hlk, hkp, hwc, hpn, hnw⟩ := id hB
  refine lv_aload_n hx hb dX6_hasLock_0 rfl (lv_at hl 0 rfl) ?_
  refine x_get hx hb hts hown hK hH 0 (ltw (by decide)) f0 hinX6 rfl 0 (by decide) (List.mem_of_getElem? (i := 1) rfl) rfl dX6_hasLock_1 ?_
  refine x_get hx hb hts hown hK hH 1 (ltw (by decide)) f1 hinX1 rfl 1 (by decide) (List.mem_of_getElem? (i := 2) rfl) rfl dX6_hasLock_4 ?_
  refine lv_iload_n hx hb dX6_hasLock_7 rfl (lv_at hl 1 rfl) ?_
  refine lv_iload_n hx hb dX6_hasLock_8 rfl (lv_at hl 2 rfl) ?_
  refine x_cXSIE (As := [.int (iZ r), .int (iZ c0)]) (rest := [.ref (xad E 3)]) hx hb hml hts hown hK hST hOK hH (c_X6_needCell l E ST hSF htr σ r c0  (by omega) (by omega)) (va_cwS 2 hts gX6_hasLock_X6_needCell rfl rfl rfl (by decide +kernel) ⟨Nat.le_of_ble_eq_true rfl, Nat.le_of_ble_eq_true rfl⟩) rfl hl.1 rfl (Nat.le_of_ble_eq_true rfl) dX6_hasLock_9 ⟨Nat.le_of_ble_eq_true rfl, Nat.le_of_ble_eq_true rfl⟩ ?_ (fun z u h => h) (fun σ2 H locs hp3 hH => ?_)
  · intro nx ce q9 σ2 H locs hp3 hH hce hcv hcl
    subst hQ
    obtain ⟨hn, hu⟩ := hp3
    rw [hu] at hH
    exact x_out hno hlocks hH hce hcv hcl ⟨(by first | exact hn | simp_all | omega), rfl⟩ (Nat.le_of_ble_eq_true rfl) (Nat.le_of_ble_eq_true rfl)
  · obtain ⟨hf4, hu5⟩ := hp3
    rw [hu5] at hH
    refine x_iald hx hb hK hH 3 (ltw (by decide)) f3 (by omega) (by omega) (by omega) dX6_hasLock_12 ?_
    have hv6 := hlk (r * 5 + c0)
    refine x_iconst hx hb dX6_hasLock_13 ?_
    refine x_icmp_eq (tgt := 21) hx hb dX6_hasLock_14 (by decide) (by omega) (by decide) (fun c14 => ?_) (fun c14 => ?_)
    · refine x_iconst hx hb dX6_hasLock_21 ?_
      subst hQ
      exact x_zreX (b := false) hx hb hr hlocks hH (Nat.le_of_ble_eq_true rfl) (Nat.le_of_ble_eq_true rfl) ⟨congrArg b2 (show false = (decide (¬ lk (r * 5 + c0) = -1)) from (by exact (decide_eq_false (by omega)).symm)), (by first | assumption | omega | simp_all), rfl⟩ dX6_hasLock_22
    · refine x_iconst hx hb dX6_hasLock_17 ?_
      refine lv_goto (tgt := 22) hx hb dX6_hasLock_18 (by decide) ?_
      subst hQ
      exact x_zreX (b := true) hx hb hr hlocks hH (Nat.le_of_ble_eq_true rfl) (Nat.le_of_ble_eq_true rfl) ⟨congrArg b2 (show true = (decide (¬ lk (r * 5 + c0) = -1)) from (by exact (decide_eq_true (by omega)).symm)), (by first | assumption | omega | simp_all), rfl⟩ dX6_hasLock_22

def rm_X6_lockAt : Room := { frames := 7, cells := 2, slots := 12, locals := 111 }
set_option maxRecDepth 100000 in
set_option maxHeartbeats 4000000 in
theorem c_X6_lockAt (l : Launch) (E : xE) (ST : xST) (hSF : SF ST) (htr : l.stackTraces = false) (σ : xW) (r : Int) (c0 : Int) (hv : Bool) (se : Int) (sf : Int) (ll : Int) (op : Int → Int) (lk : Int → Int) (kp : Int → Int) (wc : Int → Int) (pn : Int) (nw : Int) (sh : Int) (wk : Int) (hr0 : mn E σ hv se sf ll) (hr1 : bd E σ 1 op lk kp wc pn nw sh wk) (hB : BI op lk kp wc pn nw) (hr9 : rg r) (hc9 : rg c0) : XI l E ST yX6_lockAt wsX6_lockAt rm_X6_lockAt [.ref (xad E 0), .int (iZ r), .int (iZ c0)] σ (fun (z : Int) (u : xW) => z = 97 + lk (r * 5 + c0) ∧ (okC r c0) ∧ (¬ lk (r * 5 + c0) = -1) ∧ u = σ) (fun (n : String) (u : xW) => ((n = "java/lang/IndexOutOfBoundsException" ∧ ¬ okC r c0) ∨ (n = "java/util/NoSuchElementException" ∧ okC r c0 ∧ lk (r * 5 + c0) = -1)) ∧ u = σ) := by
  have f0 : σ 0 = oB 4 [.ref (xad E 1), .ref (xad E 7), .ref (xad E 13), .ref (xad E 19), .int (iZ (b2 hv)), .ref (xad E 73), .ref (xad E 75), .ref (xad E 81), .int (iZ se), .int (iZ sf), .ref (xad E 84), .int (iZ ll)] := hr0
  obtain ⟨f1, f2, f3, f4, f5, ro1, f6⟩ := hr1
  refine XI_of (by decide) rfl (Nat.le_of_ble_eq_true rfl) ?_
  intro p e s m args below meth c Q ls G hH hl hQ
  obtain ⟨hx, hb, hml, hown, hts, hK, hST, hlocks, hr, hno⟩ := G
  have hOK := hSF.1
  have hown : s.vm.findClass RX6 = some m.cls := hown
  have hl : lv_has ls 4 [(0, .ref (xad E 0)), (1, .int (iZ r)), (2, .int (iZ c0))] := hl
  have hinX1 : ∀ w ∈ u_ws RX1 TX1 9, w ∈ wsX6_lockAt := fun w h => (List.mem_cons_of_mem _ (List.mem_append_left _ (List.mem_append_left _ (List.mem_append_right _ h))))
  have hinX6 : ∀ w ∈ u_ws RX6 TX6 12, w ∈ wsX6_lockAt := fun w h => (List.mem_cons_of_mem _ (List.mem_append_left _ (List.mem_append_left _ (List.mem_append_left _ (List.mem_append_right _ h)))))
  obtain ⟨hop, hlk, hkp, hwc, hpn, hnw⟩ := id hB
  refine lv_aload_n hx hb dX6_lockAt_0 rfl (lv_at hl 0 rfl) ?_
  refine x_get hx hb hts hown hK hH 0 (ltw (by decide)) f0 hinX6 rfl 0 (by decide) (List.mem_of_getElem? (i := 3) rfl) rfl dX6_lockAt_1 ?_
  refine x_get hx hb hts hown hK hH 1 (ltw (by decide)) f1 hinX1 rfl 1 (by decide) (List.mem_of_getElem? (i := 4) rfl) rfl dX6_lockAt_4 ?_
  refine lv_iload_n hx hb dX6_lockAt_7 rfl (lv_at hl 1 rfl) ?_
  refine lv_iload_n hx hb dX6_lockAt_8 rfl (lv_at hl 2 rfl) ?_
  refine x_cXSIE (As := [.int (iZ r), .int (iZ c0)]) (rest := [.ref (xad E 3)]) hx hb hml hts hown hK hST hOK hH (c_X6_needCell l E ST hSF htr σ r c0  (by omega) (by omega)) (va_cwS 2 hts gX6_lockAt_X6_needCell rfl rfl rfl (by decide +kernel) ⟨Nat.le_of_ble_eq_true rfl, Nat.le_of_ble_eq_true rfl⟩) rfl hl.1 rfl (Nat.le_of_ble_eq_true rfl) dX6_lockAt_9 ⟨Nat.le_of_ble_eq_true rfl, Nat.le_of_ble_eq_true rfl⟩ ?_ (fun z u h => h) (fun σ2 H locs hp3 hH => ?_)
  · intro nx ce q9 σ2 H locs hp3 hH hce hcv hcl
    subst hQ
    obtain ⟨hn, hu⟩ := hp3
    rw [hu] at hH
    exact x_out hno hlocks hH hce hcv hcl ⟨(by first | exact hn | simp_all | omega), rfl⟩ (Nat.le_of_ble_eq_true rfl) (Nat.le_of_ble_eq_true rfl)
  · obtain ⟨hf4, hu5⟩ := hp3
    rw [hu5] at hH
    refine x_iald hx hb hK hH 3 (ltw (by decide)) f3 (by omega) (by omega) (by omega) dX6_lockAt_12 ?_
    have hv6 := hlk (r * 5 + c0)
    refine lv_istore_n (lv' := [(3, .int (iZ (lk (r * 5 + c0)))), (0, .ref (xad E 0)), (1, .int (iZ r)), (2, .int (iZ c0))]) hx hb dX6_lockAt_13 rfl hl (by decide) rfl (fun ls hl => ?_)
    refine lv_iload_n hx hb dX6_lockAt_14 rfl (lv_at hl 0 rfl) ?_
    refine x_iconst hx hb dX6_lockAt_15 ?_
    refine x_icmp_ne (tgt := 29) hx hb dX6_lockAt_16 (by decide) (by omega) (by decide) (fun c16 => ?_) (fun c16 => ?_)
    · refine lv_iload_n hx hb dX6_lockAt_29 rfl (lv_at hl 0 rfl) ?_
      refine x_cSID (As := [.int (iZ (lk (r * 5 + c0)))]) (rest := []) hx hb hml hts hown hK hST hOK hH (c_X6_keyName l E ST hSF σ (lk (r * 5 + c0))  (by omega) (by omega)) (va_cwS 1 hts gX6_lockAt_X6_keyName rfl rfl rfl (by decide +kernel) ⟨Nat.le_of_ble_eq_true rfl, Nat.le_of_ble_eq_true rfl⟩) rfl hl.1 rfl (Nat.le_of_ble_eq_true rfl) dX6_lockAt_30 ⟨Nat.le_of_ble_eq_true rfl, Nat.le_of_ble_eq_true rfl⟩ (fun z u h => h) (fun H locs hH => ?_)
      subst hQ
      exact x_creX hx hb hr hlocks hH (Nat.le_of_ble_eq_true rfl) (Nat.le_of_ble_eq_true rfl) (by omega) (by omega) ⟨(show (97 + (lk (r * 5 + c0))) = (97 + lk (r * 5 + c0)) from (by first | rfl | omega | simp_all)), (by first | assumption | omega | simp_all), (by first | assumption | omega | simp_all), rfl⟩ dX6_lockAt_33
    · subst hQ
      exact x_throwSN (text := "the tile has no lock") hx hb hml htr hts hown hST hSF hno hlocks hH xExc_4 (List.mem_of_getElem? (i := 1) rfl) (List.mem_of_getElem? (i := 2) rfl) (fun w h => (List.mem_cons_of_mem _ (List.mem_append_left _ (List.mem_append_right _ h)))) (List.mem_of_getElem? (i := 12) rfl) hl.1 dX6_lockAt_19 dX6_lockAt_22 dX6_lockAt_23 dX6_lockAt_25 dX6_lockAt_28 (Nat.le_of_ble_eq_true rfl) (Nat.le_of_ble_eq_true rfl) (Nat.le_of_ble_eq_true rfl) (Nat.le_of_ble_eq_true rfl) ⟨Or.inr (⟨rfl, (by first | omega | simp_all)⟩), rfl⟩ (Nat.le_of_ble_eq_true rfl) (Nat.le_of_ble_eq_true rfl)

def rm_X6_keysAt : Room := { frames := 7, cells := 1, slots := 6, locals := 111 }
set_option maxRecDepth 100000 in
set_option maxHeartbeats 4000000 in
theorem c_X6_keysAt (l : Launch) (E : xE) (ST : xST) (hSF : SF ST) (htr : l.stackTraces = false) (σ : xW) (r : Int) (c0 : Int) (hv : Bool) (se : Int) (sf : Int) (ll : Int) (op : Int → Int) (lk : Int → Int) (kp : Int → Int) (wc : Int → Int) (pn : Int) (nw : Int) (sh : Int) (wk : Int) (hr0 : mn E σ hv se sf ll) (hr1 : bd E σ 1 op lk kp wc pn nw sh wk) (hB : BI op lk kp wc pn nw) (hr9 : rg r) (hc9 : rg c0) : XI l E ST yX6_keysAt wsX6_keysAt rm_X6_keysAt [.ref (xad E 0), .int (iZ r), .int (iZ c0)] σ (fun (z : Int) (u : xW) => z = cntK kp (r * 5 + c0) 6 ∧ (okC r c0) ∧ u = σ) (fun (n : String) (u : xW) => ((n = "java/lang/IndexOutOfBoundsException" ∧ ¬ okC r c0)) ∧ u = σ) := by
  have f0 : σ 0 = oB 4 [.ref (xad E 1), .ref (xad E 7), .ref (xad E 13), .ref (xad E 19), .int (iZ (b2 hv)), .ref (xad E 73), .ref (xad E 75), .ref (xad E 81), .int (iZ se), .int (iZ sf), .ref (xad E 84), .int (iZ ll)] := hr0
  obtain ⟨f1, f2, f3, f4, f5, ro1, f6⟩ := hr1
  refine XI_of (by decide) rfl (Nat.le_of_ble_eq_true rfl) ?_
  intro p e s m args below meth c Q ls G hH hl hQ
  obtain ⟨hx, hb, hml, hown, hts, hK, hST, hlocks, hr, hno⟩ := G
  have hOK := hSF.1
  have hown : s.vm.findClass RX6 = some m.cls := hown
  have hl : lv_has ls 3 [(0, .ref (xad E 0)), (1, .int (iZ r)), (2, .int (iZ c0))] := hl
  have hinX6 : ∀ w ∈ u_ws RX6 TX6 12, w ∈ wsX6_keysAt := fun w h => (List.mem_cons_of_mem _ (List.mem_append_left _ (List.mem_append_left _ (List.mem_append_right _ h))))
  obtain ⟨hop, hlk, hkp, hwc, hpn, hnw⟩ := id hB
  refine lv_aload_n hx hb dX6_keysAt_0 rfl (lv_at hl 0 rfl) ?_
  refine x_get hx hb hts hown hK hH 0 (ltw (by decide)) f0 hinX6 rfl 0 (by decide) (List.mem_of_getElem? (i := 1) rfl) rfl dX6_keysAt_1 ?_
  refine lv_iload_n hx hb dX6_keysAt_4 rfl (lv_at hl 1 rfl) ?_
  refine lv_iload_n hx hb dX6_keysAt_5 rfl (lv_at hl 2 rfl) ?_
  refine x_cXSIE (As := [.int (iZ r), .int (iZ c0)]) (rest := [.ref (xad E 1)]) hx hb hml hts hown hK hST hOK hH (c_X6_needCell l E ST hSF htr σ r c0  (by omega) (by omega)) (va_cwS 2 hts gX6_keysAt_X6_needCell rfl rfl rfl (by decide +kernel) ⟨Nat.le_of_ble_eq_true rfl, Nat.le_of_ble_eq_true rfl⟩) rfl hl.1 rfl (Nat.le_of_ble_eq_true rfl) dX6_keysAt_6 ⟨Nat.le_of_ble_eq_true rfl, Nat.le_of_ble_eq_true rfl⟩ ?_ (fun z u h => h) (fun σ2 H locs hp3 hH => ?_)
  · intro nx ce q9 σ2 H locs hp3 hH hce hcv hcl
    subst hQ
    obtain ⟨hn, hu⟩ := hp3
    rw [hu] at hH
    exact x_out hno hlocks hH hce hcv hcl ⟨(by first | exact hn | simp_all | omega), rfl⟩ (Nat.le_of_ble_eq_true rfl) (Nat.le_of_ble_eq_true rfl)
  · obtain ⟨hf4, hu5⟩ := hp3
    rw [hu5] at hH
    refine x_cVID (As := [.int (iZ (r * 5 + c0))]) (rest := []) hx hb hml hts hown hK hST hOK hH 1 (c_X1_countKeys l E ST hSF σ 1 (r * 5 + c0) op lk kp wc pn nw sh wk ⟨f1, f2, f3, f4, f5, _, f6⟩ (by omega) (by omega) (fun j => by have := hkp j; omega)) (cwV 1 hts gX6_keysAt_X1_countKeys rfl rfl rfl (by decide +kernel) ⟨Nat.le_of_ble_eq_true rfl, Nat.le_of_ble_eq_true rfl⟩) (ltw (by decide)) f1 rfl rfl hl.1 rfl (Nat.le_of_ble_eq_true rfl) dX6_keysAt_9 ⟨Nat.le_of_ble_eq_true rfl, Nat.le_of_ble_eq_true rfl⟩ (fun z u h => h) (fun H locs hH => ?_)
    subst hQ
    exact x_ireX hx hb hr hlocks hH (Nat.le_of_ble_eq_true rfl) (Nat.le_of_ble_eq_true rfl) ⟨(show (cntK kp (r * 5 + c0) 6) = (cntK kp (r * 5 + c0) 6) from (by first | rfl | omega | simp_all)), (by first | assumption | omega | simp_all), rfl⟩ dX6_keysAt_12

def rm_X6_isConnected : Room := { frames := 7, cells := 2, slots := 12, locals := 111 }
set_option maxRecDepth 100000 in
set_option maxHeartbeats 4000000 in
theorem c_X6_isConnected (l : Launch) (E : xE) (ST : xST) (hSF : SF ST) (htr : l.stackTraces = false) (σ : xW) (r : Int) (c0 : Int) (d : Int) (hv : Bool) (se : Int) (sf : Int) (ll : Int) (op : Int → Int) (lk : Int → Int) (kp : Int → Int) (wc : Int → Int) (pn : Int) (nw : Int) (sh : Int) (wk : Int) (hr0 : mn E σ hv se sf ll) (hr1 : bd E σ 1 op lk kp wc pn nw sh wk) (hB : BI op lk kp wc pn nw) (hr9 : rg r) (hc9 : rg c0) (hd9 : rg d) : XI l E ST yX6_isConnected wsX6_isConnected rm_X6_isConnected [.ref (xad E 0), .int (iZ r), .int (iZ c0), .int (iZ d)] σ (fun (z : Int) (u : xW) => z = b2 (decide (¬ cnZ op (r * 5 + c0) d = -1)) ∧ (okC r c0) ∧ (0 ≤ d ∧ d < 4) ∧ u = σ) (fun (n : String) (u : xW) => ((n = "java/lang/IndexOutOfBoundsException" ∧ ¬ okC r c0) ∨ (n = "java/lang/IllegalArgumentException" ∧ okC r c0 ∧ ¬ (0 ≤ d ∧ d < 4))) ∧ u = σ) := by
  have f0 : σ 0 = oB 4 [.ref (xad E 1), .ref (xad E 7), .ref (xad E 13), .ref (xad E 19), .int (iZ (b2 hv)), .ref (xad E 73), .ref (xad E 75), .ref (xad E 81), .int (iZ se), .int (iZ sf), .ref (xad E 84), .int (iZ ll)] := hr0
  obtain ⟨f1, f2, f3, f4, f5, ro1, f6⟩ := hr1
  refine XI_of (by decide) rfl (Nat.le_of_ble_eq_true rfl) ?_
  intro p e s m args below meth c Q ls G hH hl hQ
  obtain ⟨hx, hb, hml, hown, hts, hK, hST, hlocks, hr, hno⟩ := G
  have hOK := hSF.1
  have hown : s.vm.findClass RX6 = some m.cls := hown
  have hl : lv_has ls 5 [(0, .ref (xad E 0)), (1, .int (iZ r)), (2, .int (iZ c0)), (3, .int (iZ d))] := hl
  have hinX6 : ∀ w ∈ u_ws RX6 TX6 12, w ∈ wsX6_isConnected := fun w h => (List.mem_cons_of_mem _ (List.mem_append_left _ (List.mem_append_left _ (List.mem_append_left _ (List.mem_append_right _ h)))))
  obtain ⟨hop, hlk, hkp, hwc, hpn, hnw⟩ := id hB
  refine lv_iload_n hx hb dX6_isConnected_0 rfl (lv_at hl 1 rfl) ?_
  refine lv_iload_n hx hb dX6_isConnected_1 rfl (lv_at hl 2 rfl) ?_
  refine x_cXSIE (As := [.int (iZ r), .int (iZ c0)]) (rest := []) hx hb hml hts hown hK hST hOK hH (c_X6_needCell l E ST hSF htr σ r c0  (by omega) (by omega)) (va_cwS 2 hts gX6_isConnected_X6_needCell rfl rfl rfl (by decide +kernel) ⟨Nat.le_of_ble_eq_true rfl, Nat.le_of_ble_eq_true rfl⟩) rfl hl.1 rfl (Nat.le_of_ble_eq_true rfl) dX6_isConnected_2 ⟨Nat.le_of_ble_eq_true rfl, Nat.le_of_ble_eq_true rfl⟩ ?_ (fun z u h => h) (fun σ2 H locs hp3 hH => ?_)
  · intro nx ce q9 σ2 H locs hp3 hH hce hcv hcl
    subst hQ
    obtain ⟨hn, hu⟩ := hp3
    rw [hu] at hH
    exact x_out hno hlocks hH hce hcv hcl ⟨(by first | exact hn | simp_all | omega), rfl⟩ (Nat.le_of_ble_eq_true rfl) (Nat.le_of_ble_eq_true rfl)
  · obtain ⟨hf4, hu5⟩ := hp3
    rw [hu5] at hH
    refine lv_istore (lv' := [(4, .int (iZ (r * 5 + c0))), (0, .ref (xad E 0)), (1, .int (iZ r)), (2, .int (iZ c0)), (3, .int (iZ d))]) hx hb dX6_isConnected_5 hl (by decide) rfl (fun ls hl => ?_)
    refine lv_iload_n hx hb dX6_isConnected_7 rfl (lv_at hl 4 rfl) ?_
    refine x_if_lt (tgt := 16) hx hb dX6_isConnected_8 (by decide) (by omega) (fun c8 => ?_) (fun c8 => ?_)
    · subst hQ
      exact x_throwS (text := "no such direction") hx hb hml htr hts hown hST hSF hno hlocks hH xExc_1 (List.mem_of_getElem? (i := 1) rfl) (List.mem_of_getElem? (i := 2) rfl) (fun w h => (List.mem_cons_of_mem _ (List.mem_append_left _ (List.mem_append_right _ h)))) (List.mem_of_getElem? (i := 11) rfl) hl.1 dX6_isConnected_16 dX6_isConnected_19 dX6_isConnected_20 dX6_isConnected_22 dX6_isConnected_25 (Nat.le_of_ble_eq_true rfl) (Nat.le_of_ble_eq_true rfl) (Nat.le_of_ble_eq_true rfl) (Nat.le_of_ble_eq_true rfl) ⟨Or.inr (⟨rfl, (by first | omega | simp_all)⟩), rfl⟩ (Nat.le_of_ble_eq_true rfl) (Nat.le_of_ble_eq_true rfl)
    · refine lv_iload_n hx hb dX6_isConnected_11 rfl (lv_at hl 4 rfl) ?_
      refine x_iconst hx hb dX6_isConnected_12 ?_
      refine x_icmp_lt (tgt := 26) hx hb dX6_isConnected_13 (by decide) (by omega) (by decide) (fun c13 => ?_) (fun c13 => ?_)
      · refine lv_aload_n hx hb dX6_isConnected_26 rfl (lv_at hl 1 rfl) ?_
        refine x_get hx hb hts hown hK hH 0 (ltw (by decide)) f0 hinX6 rfl 0 (by decide) (List.mem_of_getElem? (i := 3) rfl) rfl dX6_isConnected_27 ?_
        refine lv_iload hx hb dX6_isConnected_30 (lv_at hl 0 rfl) ?_
        refine lv_iload_n hx hb dX6_isConnected_32 rfl (lv_at hl 4 rfl) ?_
        refine x_cVID (As := [.int (iZ (r * 5 + c0)), .int (iZ d)]) (rest := []) hx hb hml hts hown hK hST hOK hH 1 (c_X1_connectedNeighbour l E ST hSF σ 1 (r * 5 + c0) d op lk kp wc pn nw sh wk ⟨f1, f2, f3, f4, f5, _, f6⟩ (by omega) (by omega) (by omega) (by omega)) (cwV 2 hts gX6_isConnected_X1_connectedNeighbour rfl rfl rfl (by decide +kernel) ⟨Nat.le_of_ble_eq_true rfl, Nat.le_of_ble_eq_true rfl⟩) (ltw (by decide)) f1 rfl rfl hl.1 rfl (Nat.le_of_ble_eq_true rfl) dX6_isConnected_33 ⟨Nat.le_of_ble_eq_true rfl, Nat.le_of_ble_eq_true rfl⟩ (fun z u h => h) (fun H locs hH => ?_)
        have hcr := cnZ_rg (op := op) (c := r * 5 + c0) (d := d) (by omega) (by omega)
        refine x_iconst hx hb dX6_isConnected_36 ?_
        refine x_icmp_eq (tgt := 44) hx hb dX6_isConnected_37 (by decide) (by omega) (by decide) (fun c37 => ?_) (fun c37 => ?_)
        · refine x_iconst hx hb dX6_isConnected_44 ?_
          subst hQ
          exact x_zreX (b := false) hx hb hr hlocks hH (Nat.le_of_ble_eq_true rfl) (Nat.le_of_ble_eq_true rfl) ⟨congrArg b2 (show false = (decide (¬ cnZ op (r * 5 + c0) d = -1)) from (by exact (decide_eq_false (by omega)).symm)), (by first | assumption | omega | simp_all), (by first | assumption | omega | simp_all), rfl⟩ dX6_isConnected_45
        · refine x_iconst hx hb dX6_isConnected_40 ?_
          refine lv_goto (tgt := 45) hx hb dX6_isConnected_41 (by decide) ?_
          subst hQ
          exact x_zreX (b := true) hx hb hr hlocks hH (Nat.le_of_ble_eq_true rfl) (Nat.le_of_ble_eq_true rfl) ⟨congrArg b2 (show true = (decide (¬ cnZ op (r * 5 + c0) d = -1)) from (by exact (decide_eq_true (by omega)).symm)), (by first | assumption | omega | simp_all), (by first | assumption | omega | simp_all), rfl⟩ dX6_isConnected_45
      · subst hQ
        exact x_throwS (text := "no such direction") hx hb hml htr hts hown hST hSF hno hlocks hH xExc_1 (List.mem_of_getElem? (i := 1) rfl) (List.mem_of_getElem? (i := 2) rfl) (fun w h => (List.mem_cons_of_mem _ (List.mem_append_left _ (List.mem_append_right _ h)))) (List.mem_of_getElem? (i := 11) rfl) hl.1 dX6_isConnected_16 dX6_isConnected_19 dX6_isConnected_20 dX6_isConnected_22 dX6_isConnected_25 (Nat.le_of_ble_eq_true rfl) (Nat.le_of_ble_eq_true rfl) (Nat.le_of_ble_eq_true rfl) (Nat.le_of_ble_eq_true rfl) ⟨Or.inr (⟨rfl, (by first | omega | simp_all)⟩), rfl⟩ (Nat.le_of_ble_eq_true rfl) (Nat.le_of_ble_eq_true rfl)

def rm_X6_regionCount : Room := { frames := 4, cells := 0, slots := 0, locals := 96 }
set_option maxRecDepth 100000 in
set_option maxHeartbeats 4000000 in
theorem c_X6_regionCount (l : Launch) (E : xE) (ST : xST) (hSF : SF ST) (σ : xW) (hv : Bool) (se : Int) (sf : Int) (ll : Int) (op : Int → Int) (lk : Int → Int) (kp : Int → Int) (wc : Int → Int) (pn : Int) (nw : Int) (sh : Int) (wk : Int) (le : Int → Int) (rl : Int → Int) (fs : Int → Int) (qu : Int → Int) (gr : Int → Int) (hr0 : mn E σ hv se sf ll) (hr1 : bd E σ 1 op lk kp wc pn nw sh wk) (hr2 : sr E σ le rl fs qu gr) (hB : BI op lk kp wc pn nw) : CI l E ST yX6_regionCount wsX6_regionCount rm_X6_regionCount [.ref (xad E 0)] σ (fun (z : Int) (u : xW) => z = ngZ op ∧ (∃ (le1 rl1 fs1 qu1 gr1 : Int → Int), mn E u hv se sf ll ∧ bd E u 1 op lk kp wc pn nw sh wk ∧ sr E u le1 rl1 fs1 qu1 gr1) ∧ ∀ j : Nat, (j < 75 ∨ 75 + 6 ≤ j) → u j = σ j) := by
  have f0 : σ 0 = oB 4 [.ref (xad E 1), .ref (xad E 7), .ref (xad E 13), .ref (xad E 19), .int (iZ (b2 hv)), .ref (xad E 73), .ref (xad E 75), .ref (xad E 81), .int (iZ se), .int (iZ sf), .ref (xad E 84), .int (iZ ll)] := hr0
  obtain ⟨f1, f2, f3, f4, f5, ro1, f6⟩ := hr1
  obtain ⟨f75, f76, f77, f78, f79, f80⟩ := hr2
  refine CI_of (by decide) rfl (Nat.le_of_ble_eq_true rfl) ?_
  intro p e s m args below meth c Q ls G hH hl hQ
  obtain ⟨hx, hb, hml, hown, hts, hK, hST, hlocks, hr, hno⟩ := G
  have hOK := hSF.1
  have hown : s.vm.findClass RX6 = some m.cls := hown
  have hl : lv_has ls 1 [(0, .ref (xad E 0))] := hl
  have hinX6 : ∀ w ∈ u_ws RX6 TX6 12, w ∈ wsX6_regionCount := fun w h => (List.mem_cons_of_mem _ (List.mem_append_left _ (List.mem_append_left _ (List.mem_append_right _ h))))
  refine lv_aload_n hx hb dX6_regionCount_0 rfl (lv_at hl 0 rfl) ?_
  refine x_get hx hb hts hown hK hH 0 (ltw (by decide)) f0 hinX6 rfl 6 (by decide) (List.mem_of_getElem? (i := 1) rfl) rfl dX6_regionCount_1 ?_
  refine lv_aload_n hx hb dX6_regionCount_4 rfl (lv_at hl 0 rfl) ?_
  refine x_get hx hb hts hown hK hH 0 (ltw (by decide)) f0 hinX6 rfl 0 (by decide) (List.mem_of_getElem? (i := 2) rfl) rfl dX6_regionCount_5 ?_
  refine x_cVIE (As := [.ref (xad E 1)]) (rest := []) hx hb hml hts hown hK hST hOK hH 75 (c_X5_countGroups l E ST hSF σ 1 op lk kp wc pn nw sh wk le rl fs qu gr ⟨f1, f2, f3, f4, f5, _, f6⟩ ⟨f75, f76, f77, f78, f79, f80⟩ (by omega) (by omega)) (cwV 1 hts gX6_regionCount_X5_countGroups rfl rfl rfl (by decide +kernel) ⟨Nat.le_of_ble_eq_true rfl, Nat.le_of_ble_eq_true rfl⟩) (ltw (by decide)) f75 rfl rfl hl.1 rfl (Nat.le_of_ble_eq_true rfl) dX6_regionCount_8 ⟨Nat.le_of_ble_eq_true rfl, Nat.le_of_ble_eq_true rfl⟩ (fun z u h => h) (fun σ2 H locs hp3 hH => ?_)
  obtain ⟨⟨gr1_5, qu1_6, ⟨f75, f76, f77, f78, f79, f80⟩⟩, fr4⟩ := hp3
  have f0 : σ2 0 = oB 4 [.ref (xad E 1), .ref (xad E 7), .ref (xad E 13), .ref (xad E 19), .int (iZ (b2 hv)), .ref (xad E 73), .ref (xad E 75), .ref (xad E 81), .int (iZ se), .int (iZ sf), .ref (xad E 84), .int (iZ ll)] := (fr4 0 (by omega) (by omega)).trans f0
  have f1 : σ2 1 = oB 0 [.ref (xad E 2), .ref (xad E 3), .ref (xad E 4), .ref (xad E 5), .ref (xad E 6), .int (iZ pn), .int (iZ nw), .int (iZ sh), .long (lZ wk)] := (fr4 1 (by omega) (by omega)).trans f1
  have f2 : σ2 2 = aI E 25 op := (fr4 2 (by omega) (by omega)).trans f2
  have f3 : σ2 3 = aI E 25 lk := (fr4 3 (by omega) (by omega)).trans f3
  have f4 : σ2 4 = aI E 6 kp := (fr4 4 (by omega) (by omega)).trans f4
  have f5 : σ2 5 = aI E 3 wc := (fr4 5 (by omega) (by omega)).trans f5
  have f6 : σ2 6 = aI E 5 ro1 := (fr4 6 (by omega) (by omega)).trans f6
  subst hQ
  exact x_iret hx hb hr hlocks hH (Nat.le_of_ble_eq_true rfl) (Nat.le_of_ble_eq_true rfl) ⟨(show (ngZ op) = (ngZ op) from (by first | rfl | omega | simp_all)), ⟨le, rl, fs, qu1_6, gr1_5, f0, ⟨f1, f2, f3, f4, f5, _, f6⟩, ⟨f75, f76, f77, f78, f79, f80⟩⟩, fun j hj0 => (fr4 j (by omega) (by omega))⟩ dX6_regionCount_11

def rm_X6_regionCountByMerging : Room := { frames := 3, cells := 0, slots := 0, locals := 71 }
set_option maxRecDepth 100000 in
set_option maxHeartbeats 4000000 in
theorem c_X6_regionCountByMerging (l : Launch) (E : xE) (ST : xST) (hSF : SF ST) (σ : xW) (hv : Bool) (se : Int) (sf : Int) (ll : Int) (op : Int → Int) (lk : Int → Int) (kp : Int → Int) (wc : Int → Int) (pn : Int) (nw : Int) (sh : Int) (wk : Int) (le : Int → Int) (rl : Int → Int) (fs : Int → Int) (qu : Int → Int) (gr : Int → Int) (hr0 : mn E σ hv se sf ll) (hr1 : bd E σ 1 op lk kp wc pn nw sh wk) (hr2 : sr E σ le rl fs qu gr) (hB : BI op lk kp wc pn nw) : CI l E ST yX6_regionCountByMerging wsX6_regionCountByMerging rm_X6_regionCountByMerging [.ref (xad E 0)] σ (fun (z : Int) (u : xW) => z = ngZ op ∧ (∃ (le1 rl1 fs1 qu1 gr1 : Int → Int), mn E u hv se sf ll ∧ bd E u 1 op lk kp wc pn nw sh wk ∧ sr E u le1 rl1 fs1 qu1 gr1) ∧ ∀ j : Nat, (j < 75 ∨ 75 + 6 ≤ j) → u j = σ j) := by
  have f0 : σ 0 = oB 4 [.ref (xad E 1), .ref (xad E 7), .ref (xad E 13), .ref (xad E 19), .int (iZ (b2 hv)), .ref (xad E 73), .ref (xad E 75), .ref (xad E 81), .int (iZ se), .int (iZ sf), .ref (xad E 84), .int (iZ ll)] := hr0
  obtain ⟨f1, f2, f3, f4, f5, ro1, f6⟩ := hr1
  obtain ⟨f75, f76, f77, f78, f79, f80⟩ := hr2
  refine CI_of (by decide) rfl (Nat.le_of_ble_eq_true rfl) ?_
  intro p e s m args below meth c Q ls G hH hl hQ
  obtain ⟨hx, hb, hml, hown, hts, hK, hST, hlocks, hr, hno⟩ := G
  have hOK := hSF.1
  have hown : s.vm.findClass RX6 = some m.cls := hown
  have hl : lv_has ls 1 [(0, .ref (xad E 0))] := hl
  have hinX6 : ∀ w ∈ u_ws RX6 TX6 12, w ∈ wsX6_regionCountByMerging := fun w h => (List.mem_cons_of_mem _ (List.mem_append_left _ (List.mem_append_left _ (List.mem_append_right _ h))))
  refine lv_aload_n hx hb dX6_regionCountByMerging_0 rfl (lv_at hl 0 rfl) ?_
  refine x_get hx hb hts hown hK hH 0 (ltw (by decide)) f0 hinX6 rfl 6 (by decide) (List.mem_of_getElem? (i := 1) rfl) rfl dX6_regionCountByMerging_1 ?_
  refine lv_aload_n hx hb dX6_regionCountByMerging_4 rfl (lv_at hl 0 rfl) ?_
  refine x_get hx hb hts hown hK hH 0 (ltw (by decide)) f0 hinX6 rfl 0 (by decide) (List.mem_of_getElem? (i := 2) rfl) rfl dX6_regionCountByMerging_5 ?_
  refine x_cVIE (As := [.ref (xad E 1)]) (rest := []) hx hb hml hts hown hK hST hOK hH 75 (c_X5_countGroupsByMerging l E ST hSF σ 1 op lk kp wc pn nw sh wk le rl fs qu gr ⟨f1, f2, f3, f4, f5, _, f6⟩ ⟨f75, f76, f77, f78, f79, f80⟩ (by omega) (by omega)) (cwV 1 hts gX6_regionCountByMerging_X5_countGroupsByMerging rfl rfl rfl (by decide +kernel) ⟨Nat.le_of_ble_eq_true rfl, Nat.le_of_ble_eq_true rfl⟩) (ltw (by decide)) f75 rfl rfl hl.1 rfl (Nat.le_of_ble_eq_true rfl) dX6_regionCountByMerging_8 ⟨Nat.le_of_ble_eq_true rfl, Nat.le_of_ble_eq_true rfl⟩ (fun z u h => h) (fun σ2 H locs hp3 hH => ?_)
  obtain ⟨⟨gr1_5, ⟨f75, f76, f77, f78, f79, f80⟩⟩, fr4⟩ := hp3
  have f0 : σ2 0 = oB 4 [.ref (xad E 1), .ref (xad E 7), .ref (xad E 13), .ref (xad E 19), .int (iZ (b2 hv)), .ref (xad E 73), .ref (xad E 75), .ref (xad E 81), .int (iZ se), .int (iZ sf), .ref (xad E 84), .int (iZ ll)] := (fr4 0 (by omega)).trans f0
  have f1 : σ2 1 = oB 0 [.ref (xad E 2), .ref (xad E 3), .ref (xad E 4), .ref (xad E 5), .ref (xad E 6), .int (iZ pn), .int (iZ nw), .int (iZ sh), .long (lZ wk)] := (fr4 1 (by omega)).trans f1
  have f2 : σ2 2 = aI E 25 op := (fr4 2 (by omega)).trans f2
  have f3 : σ2 3 = aI E 25 lk := (fr4 3 (by omega)).trans f3
  have f4 : σ2 4 = aI E 6 kp := (fr4 4 (by omega)).trans f4
  have f5 : σ2 5 = aI E 3 wc := (fr4 5 (by omega)).trans f5
  have f6 : σ2 6 = aI E 5 ro1 := (fr4 6 (by omega)).trans f6
  subst hQ
  exact x_iret hx hb hr hlocks hH (Nat.le_of_ble_eq_true rfl) (Nat.le_of_ble_eq_true rfl) ⟨(show (ngZ op) = (ngZ op) from (by first | rfl | omega | simp_all)), ⟨le, rl, fs, qu, gr1_5, f0, ⟨f1, f2, f3, f4, f5, _, f6⟩, ⟨f75, f76, f77, f78, f79, f80⟩⟩, fun j hj0 => (fr4 j (by omega))⟩ dX6_regionCountByMerging_11

def rm_X6_keyRow : Room := { frames := 8, cells := 2, slots := 12, locals := 132 }
set_option maxRecDepth 100000 in
set_option maxHeartbeats 4000000 in
theorem c_X6_keyRow (l : Launch) (E : xE) (ST : xST) (hSF : SF ST) (htr : l.stackTraces = false) (σ : xW) (k : Int) (hv : Bool) (se : Int) (sf : Int) (ll : Int) (op : Int → Int) (lk : Int → Int) (kp : Int → Int) (wc : Int → Int) (pn : Int) (nw : Int) (sh : Int) (wk : Int) (hr0 : mn E σ hv se sf ll) (hr1 : bd E σ 1 op lk kp wc pn nw sh wk) (hB : BI op lk kp wc pn nw) (hk9 : rg k) : XI l E ST yX6_keyRow wsX6_keyRow rm_X6_keyRow [.ref (xad E 0), .int (iZ k)] σ (fun (z : Int) (u : xW) => z = kp (k - 97) / 5 ∧ (97 ≤ k ∧ k < 103) ∧ (0 ≤ kp (k - 97) ∧ kp (k - 97) < 25) ∧ u = σ) (fun (n : String) (u : xW) => ((n = "java/lang/IllegalArgumentException" ∧ ¬ (97 ≤ k ∧ k < 103)) ∨ (n = "java/util/NoSuchElementException" ∧ (97 ≤ k ∧ k < 103) ∧ ¬ (0 ≤ kp (k - 97) ∧ kp (k - 97) < 25))) ∧ u = σ) := by
  have f0 : σ 0 = oB 4 [.ref (xad E 1), .ref (xad E 7), .ref (xad E 13), .ref (xad E 19), .int (iZ (b2 hv)), .ref (xad E 73), .ref (xad E 75), .ref (xad E 81), .int (iZ se), .int (iZ sf), .ref (xad E 84), .int (iZ ll)] := hr0
  obtain ⟨f1, f2, f3, f4, f5, ro1, f6⟩ := hr1
  refine XI_of (by decide) rfl (Nat.le_of_ble_eq_true rfl) ?_
  intro p e s m args below meth c Q ls G hH hl hQ
  obtain ⟨hx, hb, hml, hown, hts, hK, hST, hlocks, hr, hno⟩ := G
  have hOK := hSF.1
  have hown : s.vm.findClass RX6 = some m.cls := hown
  have hl : lv_has ls 2 [(0, .ref (xad E 0)), (1, .int (iZ k))] := hl
  obtain ⟨hop, hlk, hkp, hwc, hpn, hnw⟩ := id hB
  refine lv_aload_n hx hb dX6_keyRow_0 rfl (lv_at hl 0 rfl) ?_
  refine lv_iload_n hx hb dX6_keyRow_1 rfl (lv_at hl 1 rfl) ?_
  refine x_cXVIE (As := [.int (iZ k)]) (rest := []) hx hb hml hts hown hK hST hOK hH 0 (c_X6_needKeyCell l E ST hSF htr σ k hv se sf ll op lk kp wc pn nw sh wk f0 ⟨f1, f2, f3, f4, f5, _, f6⟩ (by omega) (by omega)) (cwV 1 hts gX6_keyRow_X6_needKeyCell rfl rfl rfl (by decide +kernel) ⟨Nat.le_of_ble_eq_true rfl, Nat.le_of_ble_eq_true rfl⟩) (ltw (by decide)) f0 rfl rfl hl.1 rfl (Nat.le_of_ble_eq_true rfl) dX6_keyRow_2 ⟨Nat.le_of_ble_eq_true rfl, Nat.le_of_ble_eq_true rfl⟩ ?_ (fun z u h => h) (fun σ2 H locs hp3 hH => ?_)
  · intro nx ce q9 σ2 H locs hp3 hH hce hcv hcl
    subst hQ
    obtain ⟨hn, hu⟩ := hp3
    rw [hu] at hH
    exact x_out hno hlocks hH hce hcv hcl ⟨(by first | exact hn | simp_all | omega), rfl⟩ (Nat.le_of_ble_eq_true rfl) (Nat.le_of_ble_eq_true rfl)
  · obtain ⟨hf4, hf5, hu6⟩ := hp3
    rw [hu6] at hH
    refine x_iconst hx hb dX6_keyRow_5 ?_
    refine x_idiv hx hb dX6_keyRow_6 (by omega) (by omega) (by omega) (by omega) ?_
    subst hQ
    exact x_ireX hx hb hr hlocks hH (Nat.le_of_ble_eq_true rfl) (Nat.le_of_ble_eq_true rfl) ⟨(show ((kp (k - 97)) / 5) = (kp (k - 97) / 5) from (by first | rfl | omega | simp_all)), (by first | assumption | omega | simp_all), (by first | assumption | omega | simp_all), rfl⟩ dX6_keyRow_7

def rm_X6_keyColumn : Room := { frames := 8, cells := 2, slots := 12, locals := 132 }
set_option maxRecDepth 100000 in
set_option maxHeartbeats 4000000 in
theorem c_X6_keyColumn (l : Launch) (E : xE) (ST : xST) (hSF : SF ST) (htr : l.stackTraces = false) (σ : xW) (k : Int) (hv : Bool) (se : Int) (sf : Int) (ll : Int) (op : Int → Int) (lk : Int → Int) (kp : Int → Int) (wc : Int → Int) (pn : Int) (nw : Int) (sh : Int) (wk : Int) (hr0 : mn E σ hv se sf ll) (hr1 : bd E σ 1 op lk kp wc pn nw sh wk) (hB : BI op lk kp wc pn nw) (hk9 : rg k) : XI l E ST yX6_keyColumn wsX6_keyColumn rm_X6_keyColumn [.ref (xad E 0), .int (iZ k)] σ (fun (z : Int) (u : xW) => z = kp (k - 97) % 5 ∧ (97 ≤ k ∧ k < 103) ∧ (0 ≤ kp (k - 97) ∧ kp (k - 97) < 25) ∧ u = σ) (fun (n : String) (u : xW) => ((n = "java/lang/IllegalArgumentException" ∧ ¬ (97 ≤ k ∧ k < 103)) ∨ (n = "java/util/NoSuchElementException" ∧ (97 ≤ k ∧ k < 103) ∧ ¬ (0 ≤ kp (k - 97) ∧ kp (k - 97) < 25))) ∧ u = σ) := by
  have f0 : σ 0 = oB 4 [.ref (xad E 1), .ref (xad E 7), .ref (xad E 13), .ref (xad E 19), .int (iZ (b2 hv)), .ref (xad E 73), .ref (xad E 75), .ref (xad E 81), .int (iZ se), .int (iZ sf), .ref (xad E 84), .int (iZ ll)] := hr0
  obtain ⟨f1, f2, f3, f4, f5, ro1, f6⟩ := hr1
  refine XI_of (by decide) rfl (Nat.le_of_ble_eq_true rfl) ?_
  intro p e s m args below meth c Q ls G hH hl hQ
  obtain ⟨hx, hb, hml, hown, hts, hK, hST, hlocks, hr, hno⟩ := G
  have hOK := hSF.1
  have hown : s.vm.findClass RX6 = some m.cls := hown
  have hl : lv_has ls 2 [(0, .ref (xad E 0)), (1, .int (iZ k))] := hl
  obtain ⟨hop, hlk, hkp, hwc, hpn, hnw⟩ := id hB
  refine lv_aload_n hx hb dX6_keyColumn_0 rfl (lv_at hl 0 rfl) ?_
  refine lv_iload_n hx hb dX6_keyColumn_1 rfl (lv_at hl 1 rfl) ?_
  refine x_cXVIE (As := [.int (iZ k)]) (rest := []) hx hb hml hts hown hK hST hOK hH 0 (c_X6_needKeyCell l E ST hSF htr σ k hv se sf ll op lk kp wc pn nw sh wk f0 ⟨f1, f2, f3, f4, f5, _, f6⟩ (by omega) (by omega)) (cwV 1 hts gX6_keyColumn_X6_needKeyCell rfl rfl rfl (by decide +kernel) ⟨Nat.le_of_ble_eq_true rfl, Nat.le_of_ble_eq_true rfl⟩) (ltw (by decide)) f0 rfl rfl hl.1 rfl (Nat.le_of_ble_eq_true rfl) dX6_keyColumn_2 ⟨Nat.le_of_ble_eq_true rfl, Nat.le_of_ble_eq_true rfl⟩ ?_ (fun z u h => h) (fun σ2 H locs hp3 hH => ?_)
  · intro nx ce q9 σ2 H locs hp3 hH hce hcv hcl
    subst hQ
    obtain ⟨hn, hu⟩ := hp3
    rw [hu] at hH
    exact x_out hno hlocks hH hce hcv hcl ⟨(by first | exact hn | simp_all | omega), rfl⟩ (Nat.le_of_ble_eq_true rfl) (Nat.le_of_ble_eq_true rfl)
  · obtain ⟨hf4, hf5, hu6⟩ := hp3
    rw [hu6] at hH
    refine x_iconst hx hb dX6_keyColumn_5 ?_
    refine x_irem hx hb dX6_keyColumn_6 (by omega) (by omega) (by omega) (by omega) ?_
    subst hQ
    exact x_ireX hx hb hr hlocks hH (Nat.le_of_ble_eq_true rfl) (Nat.le_of_ble_eq_true rfl) ⟨(show ((kp (k - 97)) % 5) = (kp (k - 97) % 5) from (by first | rfl | omega | simp_all)), (by first | assumption | omega | simp_all), (by first | assumption | omega | simp_all), rfl⟩ dX6_keyColumn_7

def rm_X6_carrierOf : Room := { frames := 7, cells := 2, slots := 12, locals := 110 }
set_option maxRecDepth 100000 in
set_option maxHeartbeats 4000000 in
theorem c_X6_carrierOf (l : Launch) (E : xE) (ST : xST) (hSF : SF ST) (htr : l.stackTraces = false) (σ : xW) (k : Int) (hv : Bool) (se : Int) (sf : Int) (ll : Int) (op : Int → Int) (lk : Int → Int) (kp : Int → Int) (wc : Int → Int) (pn : Int) (nw : Int) (sh : Int) (wk : Int) (hr0 : mn E σ hv se sf ll) (hr1 : bd E σ 1 op lk kp wc pn nw sh wk) (hB : BI op lk kp wc pn nw) (hk9 : rg k) : XI l E ST yX6_carrierOf wsX6_carrierOf rm_X6_carrierOf [.ref (xad E 0), .int (iZ k)] σ (fun (z : Int) (u : xW) => z = kp (k - 97) - 25 ∧ (97 ≤ k ∧ k < 103) ∧ (25 ≤ kp (k - 97)) ∧ u = σ) (fun (n : String) (u : xW) => ((n = "java/lang/IllegalArgumentException" ∧ ¬ (97 ≤ k ∧ k < 103)) ∨ (n = "java/util/NoSuchElementException" ∧ (97 ≤ k ∧ k < 103) ∧ kp (k - 97) < 25)) ∧ u = σ) := by
  have f0 : σ 0 = oB 4 [.ref (xad E 1), .ref (xad E 7), .ref (xad E 13), .ref (xad E 19), .int (iZ (b2 hv)), .ref (xad E 73), .ref (xad E 75), .ref (xad E 81), .int (iZ se), .int (iZ sf), .ref (xad E 84), .int (iZ ll)] := hr0
  obtain ⟨f1, f2, f3, f4, f5, ro1, f6⟩ := hr1
  refine XI_of (by decide) rfl (Nat.le_of_ble_eq_true rfl) ?_
  intro p e s m args below meth c Q ls G hH hl hQ
  obtain ⟨hx, hb, hml, hown, hts, hK, hST, hlocks, hr, hno⟩ := G
  have hOK := hSF.1
  have hown : s.vm.findClass RX6 = some m.cls := hown
  have hl : lv_has ls 3 [(0, .ref (xad E 0)), (1, .int (iZ k))] := hl
  have hinX1 : ∀ w ∈ u_ws RX1 TX1 9, w ∈ wsX6_carrierOf := fun w h => (List.mem_cons_of_mem _ (List.mem_append_left _ (List.mem_append_left _ (List.mem_append_right _ h))))
  have hinX6 : ∀ w ∈ u_ws RX6 TX6 12, w ∈ wsX6_carrierOf := fun w h => (List.mem_cons_of_mem _ (List.mem_append_left _ (List.mem_append_left _ (List.mem_append_left _ (List.mem_append_right _ h)))))
  obtain ⟨hop, hlk, hkp, hwc, hpn, hnw⟩ := id hB
  refine lv_aload_n hx hb dX6_carrierOf_0 rfl (lv_at hl 0 rfl) ?_
  refine x_get hx hb hts hown hK hH 0 (ltw (by decide)) f0 hinX6 rfl 0 (by decide) (List.mem_of_getElem? (i := 3) rfl) rfl dX6_carrierOf_1 ?_
  refine x_get hx hb hts hown hK hH 1 (ltw (by decide)) f1 hinX1 rfl 2 (by decide) (List.mem_of_getElem? (i := 4) rfl) rfl dX6_carrierOf_4 ?_
  refine lv_iload_n hx hb dX6_carrierOf_7 rfl (lv_at hl 1 rfl) ?_
  refine x_cXSIE (As := [.int (iZ k)]) (rest := [.ref (xad E 4)]) hx hb hml hts hown hK hST hOK hH (c_X6_needKey l E ST hSF htr σ k  (by omega)) (va_cwS 1 hts gX6_carrierOf_X6_needKey rfl rfl rfl (by decide +kernel) ⟨Nat.le_of_ble_eq_true rfl, Nat.le_of_ble_eq_true rfl⟩) rfl hl.1 rfl (Nat.le_of_ble_eq_true rfl) dX6_carrierOf_8 ⟨Nat.le_of_ble_eq_true rfl, Nat.le_of_ble_eq_true rfl⟩ ?_ (fun z u h => h) (fun σ2 H locs hp3 hH => ?_)
  · intro nx ce q9 σ2 H locs hp3 hH hce hcv hcl
    subst hQ
    obtain ⟨hn, hu⟩ := hp3
    rw [hu] at hH
    exact x_out hno hlocks hH hce hcv hcl ⟨(by simp_all <;> omega), rfl⟩ (Nat.le_of_ble_eq_true rfl) (Nat.le_of_ble_eq_true rfl)
  · obtain ⟨hf4, hu5⟩ := hp3
    rw [hu5] at hH
    refine x_iald hx hb hK hH 4 (ltw (by decide)) f4 (by omega) (by omega) (by omega) dX6_carrierOf_11 ?_
    have hv6 := hkp (k - 97)
    refine lv_istore_n (lv' := [(2, .int (iZ (kp (k - 97)))), (0, .ref (xad E 0)), (1, .int (iZ k))]) hx hb dX6_carrierOf_12 rfl hl (by decide) rfl (fun ls hl => ?_)
    refine lv_iload_n hx hb dX6_carrierOf_13 rfl (lv_at hl 0 rfl) ?_
    refine x_bipush hx hb dX6_carrierOf_14 (by decide) ?_
    refine x_icmp_ge (tgt := 29) hx hb dX6_carrierOf_16 (by decide) (by omega) (by decide) (fun c16 => ?_) (fun c16 => ?_)
    · refine lv_iload_n hx hb dX6_carrierOf_29 rfl (lv_at hl 0 rfl) ?_
      refine x_bipush hx hb dX6_carrierOf_30 (by decide) ?_
      refine x_isub hx hb dX6_carrierOf_32 ?_
      subst hQ
      exact x_ireX hx hb hr hlocks hH (Nat.le_of_ble_eq_true rfl) (Nat.le_of_ble_eq_true rfl) ⟨(show ((kp (k - 97)) - 25) = (kp (k - 97) - 25) from (by first | rfl | omega | simp_all)), (by first | assumption | omega | simp_all), (by first | assumption | omega | simp_all), rfl⟩ dX6_carrierOf_33
    · subst hQ
      exact x_throwSN (text := "no walker carries the key") hx hb hml htr hts hown hST hSF hno hlocks hH xExc_4 (List.mem_of_getElem? (i := 1) rfl) (List.mem_of_getElem? (i := 2) rfl) (fun w h => (List.mem_cons_of_mem _ (List.mem_append_left _ (List.mem_append_right _ h)))) (List.mem_of_getElem? (i := 13) rfl) hl.1 dX6_carrierOf_19 dX6_carrierOf_22 dX6_carrierOf_23 dX6_carrierOf_25 dX6_carrierOf_28 (Nat.le_of_ble_eq_true rfl) (Nat.le_of_ble_eq_true rfl) (Nat.le_of_ble_eq_true rfl) (Nat.le_of_ble_eq_true rfl) ⟨Or.inr (⟨rfl, (by first | omega | simp_all)⟩), rfl⟩ (Nat.le_of_ble_eq_true rfl) (Nat.le_of_ble_eq_true rfl)

def rm_X6_walkerCount : Room := { frames := 0, cells := 0, slots := 0, locals := 0 }
set_option maxRecDepth 100000 in
set_option maxHeartbeats 4000000 in
theorem c_X6_walkerCount (l : Launch) (E : xE) (ST : xST) (hSF : SF ST) (σ : xW) (hv : Bool) (se : Int) (sf : Int) (ll : Int) (op : Int → Int) (lk : Int → Int) (kp : Int → Int) (wc : Int → Int) (pn : Int) (nw : Int) (sh : Int) (wk : Int) (hr0 : mn E σ hv se sf ll) (hr1 : bd E σ 1 op lk kp wc pn nw sh wk) : CI l E ST yX6_walkerCount wsX6_walkerCount rm_X6_walkerCount [.ref (xad E 0)] σ (fun (z : Int) (u : xW) => z = nw ∧ u = σ) := by
  have f0 : σ 0 = oB 4 [.ref (xad E 1), .ref (xad E 7), .ref (xad E 13), .ref (xad E 19), .int (iZ (b2 hv)), .ref (xad E 73), .ref (xad E 75), .ref (xad E 81), .int (iZ se), .int (iZ sf), .ref (xad E 84), .int (iZ ll)] := hr0
  obtain ⟨f1, f2, f3, f4, f5, ro1, f6⟩ := hr1
  refine CI_of (by decide) rfl (Nat.le_of_ble_eq_true rfl) ?_
  intro p e s m args below meth c Q ls G hH hl hQ
  obtain ⟨hx, hb, hml, hown, hts, hK, hST, hlocks, hr, hno⟩ := G
  have hOK := hSF.1
  have hown : s.vm.findClass RX6 = some m.cls := hown
  have hl : lv_has ls 1 [(0, .ref (xad E 0))] := hl
  have hinX1 : ∀ w ∈ u_ws RX1 TX1 9, w ∈ wsX6_walkerCount := fun w h => (List.mem_cons_of_mem _ (List.mem_append_right _ h))
  have hinX6 : ∀ w ∈ u_ws RX6 TX6 12, w ∈ wsX6_walkerCount := fun w h => (List.mem_cons_of_mem _ (List.mem_append_left _ (List.mem_append_right _ h)))
  refine lv_aload_n hx hb dX6_walkerCount_0 rfl (lv_at hl 0 rfl) ?_
  refine x_get hx hb hts hown hK hH 0 (ltw (by decide)) f0 hinX6 rfl 0 (by decide) (List.mem_of_getElem? (i := 1) rfl) rfl dX6_walkerCount_1 ?_
  refine x_get hx hb hts hown hK hH 1 (ltw (by decide)) f1 hinX1 rfl 6 (by decide) (List.mem_of_getElem? (i := 2) rfl) rfl dX6_walkerCount_4 ?_
  subst hQ
  exact x_iret hx hb hr hlocks hH (Nat.le_of_ble_eq_true rfl) (Nat.le_of_ble_eq_true rfl) ⟨(show nw = nw from (by first | rfl | omega | simp_all)), rfl⟩ dX6_walkerCount_7

def rm_X6_walkerRow : Room := { frames := 7, cells := 1, slots := 6, locals := 111 }
set_option maxRecDepth 100000 in
set_option maxHeartbeats 4000000 in
theorem c_X6_walkerRow (l : Launch) (E : xE) (ST : xST) (hSF : SF ST) (htr : l.stackTraces = false) (σ : xW) (w : Int) (hv : Bool) (se : Int) (sf : Int) (ll : Int) (op : Int → Int) (lk : Int → Int) (kp : Int → Int) (wc : Int → Int) (pn : Int) (nw : Int) (sh : Int) (wk : Int) (hr0 : mn E σ hv se sf ll) (hr1 : bd E σ 1 op lk kp wc pn nw sh wk) (hB : BI op lk kp wc pn nw) (hw9 : rg w) : XI l E ST yX6_walkerRow wsX6_walkerRow rm_X6_walkerRow [.ref (xad E 0), .int (iZ w)] σ (fun (z : Int) (u : xW) => z = wc w / 5 ∧ (0 ≤ w ∧ w < nw) ∧ u = σ) (fun (n : String) (u : xW) => ((n = "java/lang/IndexOutOfBoundsException" ∧ ¬ (0 ≤ w ∧ w < nw))) ∧ u = σ) := by
  have f0 : σ 0 = oB 4 [.ref (xad E 1), .ref (xad E 7), .ref (xad E 13), .ref (xad E 19), .int (iZ (b2 hv)), .ref (xad E 73), .ref (xad E 75), .ref (xad E 81), .int (iZ se), .int (iZ sf), .ref (xad E 84), .int (iZ ll)] := hr0
  obtain ⟨f1, f2, f3, f4, f5, ro1, f6⟩ := hr1
  refine XI_of (by decide) rfl (Nat.le_of_ble_eq_true rfl) ?_
  intro p e s m args below meth c Q ls G hH hl hQ
  obtain ⟨hx, hb, hml, hown, hts, hK, hST, hlocks, hr, hno⟩ := G
  have hOK := hSF.1
  have hown : s.vm.findClass RX6 = some m.cls := hown
  have hl : lv_has ls 2 [(0, .ref (xad E 0)), (1, .int (iZ w))] := hl
  have hinX1 : ∀ w ∈ u_ws RX1 TX1 9, w ∈ wsX6_walkerRow := fun w h => (List.mem_cons_of_mem _ (List.mem_append_left _ (List.mem_append_right _ h)))
  have hinX6 : ∀ w ∈ u_ws RX6 TX6 12, w ∈ wsX6_walkerRow := fun w h => (List.mem_cons_of_mem _ (List.mem_append_left _ (List.mem_append_left _ (List.mem_append_right _ h))))
  obtain ⟨hop, hlk, hkp, hwc, hpn, hnw⟩ := id hB
  refine lv_aload_n hx hb dX6_walkerRow_0 rfl (lv_at hl 0 rfl) ?_
  refine x_get hx hb hts hown hK hH 0 (ltw (by decide)) f0 hinX6 rfl 0 (by decide) (List.mem_of_getElem? (i := 1) rfl) rfl dX6_walkerRow_1 ?_
  refine x_get hx hb hts hown hK hH 1 (ltw (by decide)) f1 hinX1 rfl 3 (by decide) (List.mem_of_getElem? (i := 2) rfl) rfl dX6_walkerRow_4 ?_
  refine lv_aload_n hx hb dX6_walkerRow_7 rfl (lv_at hl 0 rfl) ?_
  refine lv_iload_n hx hb dX6_walkerRow_8 rfl (lv_at hl 1 rfl) ?_
  refine x_cXVIE (As := [.int (iZ w)]) (rest := [.ref (xad E 5)]) hx hb hml hts hown hK hST hOK hH 0 (c_X6_needWalker l E ST hSF htr σ w hv se sf ll op lk kp wc pn nw sh wk f0 ⟨f1, f2, f3, f4, f5, _, f6⟩ (by omega) (by omega)) (cwV 1 hts gX6_walkerRow_X6_needWalker rfl rfl rfl (by decide +kernel) ⟨Nat.le_of_ble_eq_true rfl, Nat.le_of_ble_eq_true rfl⟩) (ltw (by decide)) f0 rfl rfl hl.1 rfl (Nat.le_of_ble_eq_true rfl) dX6_walkerRow_9 ⟨Nat.le_of_ble_eq_true rfl, Nat.le_of_ble_eq_true rfl⟩ ?_ (fun z u h => h) (fun σ2 H locs hp3 hH => ?_)
  · intro nx ce q9 σ2 H locs hp3 hH hce hcv hcl
    subst hQ
    obtain ⟨hn, hu⟩ := hp3
    rw [hu] at hH
    exact x_out hno hlocks hH hce hcv hcl ⟨(by first | exact hn | simp_all | omega), rfl⟩ (Nat.le_of_ble_eq_true rfl) (Nat.le_of_ble_eq_true rfl)
  · obtain ⟨hf4, hu5⟩ := hp3
    rw [hu5] at hH
    refine x_iald hx hb hK hH 5 (ltw (by decide)) f5 (by omega) (by omega) (by omega) dX6_walkerRow_12 ?_
    have hv6 := hwc w
    refine x_iconst hx hb dX6_walkerRow_13 ?_
    refine x_idiv hx hb dX6_walkerRow_14 (by omega) (by omega) (by omega) (by omega) ?_
    subst hQ
    exact x_ireX hx hb hr hlocks hH (Nat.le_of_ble_eq_true rfl) (Nat.le_of_ble_eq_true rfl) ⟨(show ((wc w) / 5) = (wc w / 5) from (by first | rfl | omega | simp_all)), (by first | assumption | omega | simp_all), rfl⟩ dX6_walkerRow_15

def rm_X6_walkerColumn : Room := { frames := 7, cells := 1, slots := 6, locals := 111 }
set_option maxRecDepth 100000 in
set_option maxHeartbeats 4000000 in
theorem c_X6_walkerColumn (l : Launch) (E : xE) (ST : xST) (hSF : SF ST) (htr : l.stackTraces = false) (σ : xW) (w : Int) (hv : Bool) (se : Int) (sf : Int) (ll : Int) (op : Int → Int) (lk : Int → Int) (kp : Int → Int) (wc : Int → Int) (pn : Int) (nw : Int) (sh : Int) (wk : Int) (hr0 : mn E σ hv se sf ll) (hr1 : bd E σ 1 op lk kp wc pn nw sh wk) (hB : BI op lk kp wc pn nw) (hw9 : rg w) : XI l E ST yX6_walkerColumn wsX6_walkerColumn rm_X6_walkerColumn [.ref (xad E 0), .int (iZ w)] σ (fun (z : Int) (u : xW) => z = wc w % 5 ∧ (0 ≤ w ∧ w < nw) ∧ u = σ) (fun (n : String) (u : xW) => ((n = "java/lang/IndexOutOfBoundsException" ∧ ¬ (0 ≤ w ∧ w < nw))) ∧ u = σ) := by
  have f0 : σ 0 = oB 4 [.ref (xad E 1), .ref (xad E 7), .ref (xad E 13), .ref (xad E 19), .int (iZ (b2 hv)), .ref (xad E 73), .ref (xad E 75), .ref (xad E 81), .int (iZ se), .int (iZ sf), .ref (xad E 84), .int (iZ ll)] := hr0
  obtain ⟨f1, f2, f3, f4, f5, ro1, f6⟩ := hr1
  refine XI_of (by decide) rfl (Nat.le_of_ble_eq_true rfl) ?_
  intro p e s m args below meth c Q ls G hH hl hQ
  obtain ⟨hx, hb, hml, hown, hts, hK, hST, hlocks, hr, hno⟩ := G
  have hOK := hSF.1
  have hown : s.vm.findClass RX6 = some m.cls := hown
  have hl : lv_has ls 2 [(0, .ref (xad E 0)), (1, .int (iZ w))] := hl
  have hinX1 : ∀ w ∈ u_ws RX1 TX1 9, w ∈ wsX6_walkerColumn := fun w h => (List.mem_cons_of_mem _ (List.mem_append_left _ (List.mem_append_right _ h)))
  have hinX6 : ∀ w ∈ u_ws RX6 TX6 12, w ∈ wsX6_walkerColumn := fun w h => (List.mem_cons_of_mem _ (List.mem_append_left _ (List.mem_append_left _ (List.mem_append_right _ h))))
  obtain ⟨hop, hlk, hkp, hwc, hpn, hnw⟩ := id hB
  refine lv_aload_n hx hb dX6_walkerColumn_0 rfl (lv_at hl 0 rfl) ?_
  refine x_get hx hb hts hown hK hH 0 (ltw (by decide)) f0 hinX6 rfl 0 (by decide) (List.mem_of_getElem? (i := 1) rfl) rfl dX6_walkerColumn_1 ?_
  refine x_get hx hb hts hown hK hH 1 (ltw (by decide)) f1 hinX1 rfl 3 (by decide) (List.mem_of_getElem? (i := 2) rfl) rfl dX6_walkerColumn_4 ?_
  refine lv_aload_n hx hb dX6_walkerColumn_7 rfl (lv_at hl 0 rfl) ?_
  refine lv_iload_n hx hb dX6_walkerColumn_8 rfl (lv_at hl 1 rfl) ?_
  refine x_cXVIE (As := [.int (iZ w)]) (rest := [.ref (xad E 5)]) hx hb hml hts hown hK hST hOK hH 0 (c_X6_needWalker l E ST hSF htr σ w hv se sf ll op lk kp wc pn nw sh wk f0 ⟨f1, f2, f3, f4, f5, _, f6⟩ (by omega) (by omega)) (cwV 1 hts gX6_walkerColumn_X6_needWalker rfl rfl rfl (by decide +kernel) ⟨Nat.le_of_ble_eq_true rfl, Nat.le_of_ble_eq_true rfl⟩) (ltw (by decide)) f0 rfl rfl hl.1 rfl (Nat.le_of_ble_eq_true rfl) dX6_walkerColumn_9 ⟨Nat.le_of_ble_eq_true rfl, Nat.le_of_ble_eq_true rfl⟩ ?_ (fun z u h => h) (fun σ2 H locs hp3 hH => ?_)
  · intro nx ce q9 σ2 H locs hp3 hH hce hcv hcl
    subst hQ
    obtain ⟨hn, hu⟩ := hp3
    rw [hu] at hH
    exact x_out hno hlocks hH hce hcv hcl ⟨(by first | exact hn | simp_all | omega), rfl⟩ (Nat.le_of_ble_eq_true rfl) (Nat.le_of_ble_eq_true rfl)
  · obtain ⟨hf4, hu5⟩ := hp3
    rw [hu5] at hH
    refine x_iald hx hb hK hH 5 (ltw (by decide)) f5 (by omega) (by omega) (by omega) dX6_walkerColumn_12 ?_
    have hv6 := hwc w
    refine x_iconst hx hb dX6_walkerColumn_13 ?_
    refine x_irem hx hb dX6_walkerColumn_14 (by omega) (by omega) (by omega) (by omega) ?_
    subst hQ
    exact x_ireX hx hb hr hlocks hH (Nat.le_of_ble_eq_true rfl) (Nat.le_of_ble_eq_true rfl) ⟨(show ((wc w) % 5) = (wc w % 5) from (by first | rfl | omega | simp_all)), (by first | assumption | omega | simp_all), rfl⟩ dX6_walkerColumn_15

def rm_X6_keysOf : Room := { frames := 7, cells := 1, slots := 6, locals := 111 }
set_option maxRecDepth 100000 in
set_option maxHeartbeats 4000000 in
theorem c_X6_keysOf (l : Launch) (E : xE) (ST : xST) (hSF : SF ST) (htr : l.stackTraces = false) (σ : xW) (w : Int) (hv : Bool) (se : Int) (sf : Int) (ll : Int) (op : Int → Int) (lk : Int → Int) (kp : Int → Int) (wc : Int → Int) (pn : Int) (nw : Int) (sh : Int) (wk : Int) (hr0 : mn E σ hv se sf ll) (hr1 : bd E σ 1 op lk kp wc pn nw sh wk) (hB : BI op lk kp wc pn nw) (hw9 : rg w) : XI l E ST yX6_keysOf wsX6_keysOf rm_X6_keysOf [.ref (xad E 0), .int (iZ w)] σ (fun (z : Int) (u : xW) => z = cntK kp (25 + w) 6 ∧ (0 ≤ w ∧ w < nw) ∧ u = σ) (fun (n : String) (u : xW) => ((n = "java/lang/IndexOutOfBoundsException" ∧ ¬ (0 ≤ w ∧ w < nw))) ∧ u = σ) := by
  have f0 : σ 0 = oB 4 [.ref (xad E 1), .ref (xad E 7), .ref (xad E 13), .ref (xad E 19), .int (iZ (b2 hv)), .ref (xad E 73), .ref (xad E 75), .ref (xad E 81), .int (iZ se), .int (iZ sf), .ref (xad E 84), .int (iZ ll)] := hr0
  obtain ⟨f1, f2, f3, f4, f5, ro1, f6⟩ := hr1
  refine XI_of (by decide) rfl (Nat.le_of_ble_eq_true rfl) ?_
  intro p e s m args below meth c Q ls G hH hl hQ
  obtain ⟨hx, hb, hml, hown, hts, hK, hST, hlocks, hr, hno⟩ := G
  have hOK := hSF.1
  have hown : s.vm.findClass RX6 = some m.cls := hown
  have hl : lv_has ls 2 [(0, .ref (xad E 0)), (1, .int (iZ w))] := hl
  have hinX6 : ∀ w ∈ u_ws RX6 TX6 12, w ∈ wsX6_keysOf := fun w h => (List.mem_cons_of_mem _ (List.mem_append_left _ (List.mem_append_left _ (List.mem_append_right _ h))))
  obtain ⟨hop, hlk, hkp, hwc, hpn, hnw⟩ := id hB
  refine lv_aload_n hx hb dX6_keysOf_0 rfl (lv_at hl 0 rfl) ?_
  refine x_get hx hb hts hown hK hH 0 (ltw (by decide)) f0 hinX6 rfl 0 (by decide) (List.mem_of_getElem? (i := 1) rfl) rfl dX6_keysOf_1 ?_
  refine x_bipush hx hb dX6_keysOf_4 (by decide) ?_
  refine lv_aload_n hx hb dX6_keysOf_6 rfl (lv_at hl 0 rfl) ?_
  refine lv_iload_n hx hb dX6_keysOf_7 rfl (lv_at hl 1 rfl) ?_
  refine x_cXVIE (As := [.int (iZ w)]) (rest := [.int (iZ 25), .ref (xad E 1)]) hx hb hml hts hown hK hST hOK hH 0 (c_X6_needWalker l E ST hSF htr σ w hv se sf ll op lk kp wc pn nw sh wk f0 ⟨f1, f2, f3, f4, f5, _, f6⟩ (by omega) (by omega)) (cwV 1 hts gX6_keysOf_X6_needWalker rfl rfl rfl (by decide +kernel) ⟨Nat.le_of_ble_eq_true rfl, Nat.le_of_ble_eq_true rfl⟩) (ltw (by decide)) f0 rfl rfl hl.1 rfl (Nat.le_of_ble_eq_true rfl) dX6_keysOf_8 ⟨Nat.le_of_ble_eq_true rfl, Nat.le_of_ble_eq_true rfl⟩ ?_ (fun z u h => h) (fun σ2 H locs hp3 hH => ?_)
  · intro nx ce q9 σ2 H locs hp3 hH hce hcv hcl
    subst hQ
    obtain ⟨hn, hu⟩ := hp3
    rw [hu] at hH
    exact x_out hno hlocks hH hce hcv hcl ⟨(by first | exact hn | simp_all | omega), rfl⟩ (Nat.le_of_ble_eq_true rfl) (Nat.le_of_ble_eq_true rfl)
  · obtain ⟨hf4, hu5⟩ := hp3
    rw [hu5] at hH
    refine x_iadd hx hb dX6_keysOf_11 ?_
    refine x_cVID (As := [.int (iZ (25 + w))]) (rest := []) hx hb hml hts hown hK hST hOK hH 1 (c_X1_countKeys l E ST hSF σ 1 (25 + w) op lk kp wc pn nw sh wk ⟨f1, f2, f3, f4, f5, _, f6⟩ (by omega) (by omega) (fun j => by have := hkp j; omega)) (cwV 1 hts gX6_keysOf_X1_countKeys rfl rfl rfl (by decide +kernel) ⟨Nat.le_of_ble_eq_true rfl, Nat.le_of_ble_eq_true rfl⟩) (ltw (by decide)) f1 rfl rfl hl.1 rfl (Nat.le_of_ble_eq_true rfl) dX6_keysOf_12 ⟨Nat.le_of_ble_eq_true rfl, Nat.le_of_ble_eq_true rfl⟩ (fun z u h => h) (fun H locs hH => ?_)
    subst hQ
    exact x_ireX hx hb hr hlocks hH (Nat.le_of_ble_eq_true rfl) (Nat.le_of_ble_eq_true rfl) ⟨(show (cntK kp (25 + w) 6) = (cntK kp (25 + w) 6) from (by first | rfl | omega | simp_all)), (by first | assumption | omega | simp_all), rfl⟩ dX6_keysOf_15
