def rm_X6_needCell0 : Room := { frames := 1, cells := 0, slots := 0, locals := 20 }
set_option maxRecDepth 100000 in
set_option maxHeartbeats 4000000 in
theorem c_X6_needCell0 (l : Launch) (E : xE) (ST : xST) (hSF : SF ST) (σ : xW) (r : Int) (c0 : Int) (hr9 : rg r) (hc9 : rg c0) (hok : okC r c0) : CI l E ST yX6_needCell wsX6_needCell rm_X6_needCell0 [.int (iZ r), .int (iZ c0)] σ (fun (z : Int) (u : xW) => z = r * 5 + c0 ∧ u = σ) := by
  refine CI_of (by decide) rfl (Nat.le_of_ble_eq_true rfl) ?_
  intro p e s m args below meth c Q ls G hH hl hQ
  obtain ⟨hx, hb, hml, hown, hts, hK, hST, hlocks, hr, hno⟩ := G
  have hOK := hSF.1
  have hown : s.vm.findClass RX6 = some m.cls := hown
  have hl : lv_has ls 2 [(0, .int (iZ r)), (1, .int (iZ c0))] := hl
  refine lv_iload_n hx hb dX6_needCell_0 rfl (lv_at hl 0 rfl) ?_
  refine x_cSID (As := [.int (iZ r)]) (rest := []) hx hb hml hts hown hK hST hOK hH (c_X6_isLine l E ST hSF σ r  (by omega)) (va_cwS 1 hts gX6_needCell_X6_isLine rfl rfl rfl (by decide +kernel) ⟨Nat.le_of_ble_eq_true rfl, Nat.le_of_ble_eq_true rfl⟩) rfl hl.1 rfl (Nat.le_of_ble_eq_true rfl) dX6_needCell_1 ⟨Nat.le_of_ble_eq_true rfl, Nat.le_of_ble_eq_true rfl⟩ (fun z u h => h) (fun H locs hH => ?_)
  refine x_ifb_eq (tgt := 14) hx hb dX6_needCell_4 (by decide) (fun c4 => ?_) (fun c4 => ?_)
  · have c4 := of_decide_eq_false c4
    exfalso; omega
  · have c4 := of_decide_eq_true c4
    refine lv_iload_n hx hb dX6_needCell_7 rfl (lv_at hl 1 rfl) ?_
    refine x_cSID (As := [.int (iZ c0)]) (rest := []) hx hb hml hts hown hK hST hOK hH (c_X6_isLine l E ST hSF σ c0  (by omega)) (va_cwS 1 hts gX6_needCell_X6_isLine rfl rfl rfl (by decide +kernel) ⟨Nat.le_of_ble_eq_true rfl, Nat.le_of_ble_eq_true rfl⟩) rfl hl.1 rfl (Nat.le_of_ble_eq_true rfl) dX6_needCell_8 ⟨Nat.le_of_ble_eq_true rfl, Nat.le_of_ble_eq_true rfl⟩ (fun z u h => h) (fun H locs hH => ?_)
    refine x_ifb_ne (tgt := 25) hx hb dX6_needCell_11 (by decide) (fun c11 => ?_) (fun c11 => ?_)
    · have c11 := of_decide_eq_true c11
      refine lv_iload_n hx hb dX6_needCell_25 rfl (lv_at hl 0 rfl) ?_
      refine x_iconst hx hb dX6_needCell_26 ?_
      refine x_imul hx hb dX6_needCell_27 ?_
      refine lv_iload_n hx hb dX6_needCell_28 rfl (lv_at hl 1 rfl) ?_
      refine x_iadd hx hb dX6_needCell_29 ?_
      subst hQ
      exact x_iret hx hb hr hlocks hH (Nat.le_of_ble_eq_true rfl) (Nat.le_of_ble_eq_true rfl) ⟨(show ((r * 5) + c0) = (r * 5 + c0) from (by first | rfl | omega | simp_all)), rfl⟩ dX6_needCell_30
    · have c11 := of_decide_eq_false c11
      exfalso; omega

def rm_X6_needLine0 : Room := { frames := 1, cells := 0, slots := 0, locals := 20 }
set_option maxRecDepth 100000 in
set_option maxHeartbeats 4000000 in
theorem c_X6_needLine0 (l : Launch) (E : xE) (ST : xST) (hSF : SF ST) (σ : xW) (a : Int) (ha : rg a) (hok : 0 ≤ a ∧ a < 5) : CI l E ST yX6_needLine wsX6_needLine rm_X6_needLine0 [.int (iZ a)] σ (fun (z : Int) (u : xW) => z = a ∧ u = σ) := by
  refine CI_of (by decide) rfl (Nat.le_of_ble_eq_true rfl) ?_
  intro p e s m args below meth c Q ls G hH hl hQ
  obtain ⟨hx, hb, hml, hown, hts, hK, hST, hlocks, hr, hno⟩ := G
  have hOK := hSF.1
  have hown : s.vm.findClass RX6 = some m.cls := hown
  have hl : lv_has ls 1 [(0, .int (iZ a))] := hl
  refine lv_iload_n hx hb dX6_needLine_0 rfl (lv_at hl 0 rfl) ?_
  refine x_cSID (As := [.int (iZ a)]) (rest := []) hx hb hml hts hown hK hST hOK hH (c_X6_isLine l E ST hSF σ a  (by omega)) (va_cwS 1 hts gX6_needLine_X6_isLine rfl rfl rfl (by decide +kernel) ⟨Nat.le_of_ble_eq_true rfl, Nat.le_of_ble_eq_true rfl⟩) rfl hl.1 rfl (Nat.le_of_ble_eq_true rfl) dX6_needLine_1 ⟨Nat.le_of_ble_eq_true rfl, Nat.le_of_ble_eq_true rfl⟩ (fun z u h => h) (fun H locs hH => ?_)
  refine x_ifb_ne (tgt := 18) hx hb dX6_needLine_4 (by decide) (fun c4 => ?_) (fun c4 => ?_)
  · have c4 := of_decide_eq_true c4
    refine lv_iload_n hx hb dX6_needLine_18 rfl (lv_at hl 0 rfl) ?_
    subst hQ
    exact x_iret hx hb hr hlocks hH (Nat.le_of_ble_eq_true rfl) (Nat.le_of_ble_eq_true rfl) ⟨(show a = a from (by first | rfl | omega | simp_all)), rfl⟩ dX6_needLine_19
  · have c4 := of_decide_eq_false c4
    exfalso; omega

def rm_X6_needWalker0 : Room := { frames := 1, cells := 0, slots := 0, locals := 21 }
set_option maxRecDepth 100000 in
set_option maxHeartbeats 4000000 in
theorem c_X6_needWalker0 (l : Launch) (E : xE) (ST : xST) (hSF : SF ST) (σ : xW) (w : Int) (hv : Bool) (se : Int) (sf : Int) (ll : Int) (op : Int → Int) (lk : Int → Int) (kp : Int → Int) (wc : Int → Int) (pn : Int) (nw : Int) (sh : Int) (wk : Int) (hr0 : mn E σ hv se sf ll) (hr1 : bd E σ 1 op lk kp wc pn nw sh wk) (hw9 : rg w) (hnw : 0 ≤ nw ∧ nw ≤ 3) (hok : 0 ≤ w ∧ w < nw) : CI l E ST yX6_needWalker wsX6_needWalker rm_X6_needWalker0 [.ref (xad E 0), .int (iZ w)] σ (fun (z : Int) (u : xW) => z = w ∧ u = σ) := by
  have f0 : σ 0 = oB 4 [.ref (xad E 1), .ref (xad E 7), .ref (xad E 13), .ref (xad E 19), .int (iZ (b2 hv)), .ref (xad E 73), .ref (xad E 75), .ref (xad E 81), .int (iZ se), .int (iZ sf), .ref (xad E 84), .int (iZ ll)] := hr0
  obtain ⟨f1, f2, f3, f4, f5, ro1, f6⟩ := hr1
  refine CI_of (by decide) rfl (Nat.le_of_ble_eq_true rfl) ?_
  intro p e s m args below meth c Q ls G hH hl hQ
  obtain ⟨hx, hb, hml, hown, hts, hK, hST, hlocks, hr, hno⟩ := G
  have hOK := hSF.1
  have hown : s.vm.findClass RX6 = some m.cls := hown
  have hl : lv_has ls 2 [(0, .ref (xad E 0)), (1, .int (iZ w))] := hl
  have hinX6 : ∀ w ∈ u_ws RX6 TX6 12, w ∈ wsX6_needWalker := fun w h => (List.mem_cons_of_mem _ (List.mem_append_left _ (List.mem_append_left _ (List.mem_append_right _ h))))
  refine lv_aload_n hx hb dX6_needWalker_0 rfl (lv_at hl 0 rfl) ?_
  refine x_get hx hb hts hown hK hH 0 (ltw (by decide)) f0 hinX6 rfl 0 (by decide) (List.mem_of_getElem? (i := 3) rfl) rfl dX6_needWalker_1 ?_
  refine lv_iload_n hx hb dX6_needWalker_4 rfl (lv_at hl 1 rfl) ?_
  refine x_cVID (As := [.int (iZ w)]) (rest := []) hx hb hml hts hown hK hST hOK hH 1 (c_X1_isWalker l E ST hSF σ 1 w op lk kp wc pn nw sh wk ⟨f1, f2, f3, f4, f5, _, f6⟩ (by omega) (by omega) (by omega)) (cwV 1 hts gX6_needWalker_X1_isWalker rfl rfl rfl (by decide +kernel) ⟨Nat.le_of_ble_eq_true rfl, Nat.le_of_ble_eq_true rfl⟩) (ltw (by decide)) f1 rfl rfl hl.1 rfl (Nat.le_of_ble_eq_true rfl) dX6_needWalker_5 ⟨Nat.le_of_ble_eq_true rfl, Nat.le_of_ble_eq_true rfl⟩ (fun z u h => h) (fun H locs hH => ?_)
  refine x_ifb_ne (tgt := 22) hx hb dX6_needWalker_8 (by decide) (fun c8 => ?_) (fun c8 => ?_)
  · have c8 := of_decide_eq_true c8
    refine lv_iload_n hx hb dX6_needWalker_22 rfl (lv_at hl 1 rfl) ?_
    subst hQ
    exact x_iret hx hb hr hlocks hH (Nat.le_of_ble_eq_true rfl) (Nat.le_of_ble_eq_true rfl) ⟨(show w = w from (by first | rfl | omega | simp_all)), rfl⟩ dX6_needWalker_23
  · have c8 := of_decide_eq_false c8
    exfalso; omega

def rm_X6_needKey0 : Room := { frames := 1, cells := 0, slots := 0, locals := 20 }
set_option maxRecDepth 100000 in
set_option maxHeartbeats 4000000 in
theorem c_X6_needKey0 (l : Launch) (E : xE) (ST : xST) (hSF : SF ST) (σ : xW) (k : Int) (hk9 : rg k) (hok : 97 ≤ k ∧ k < 103) : CI l E ST yX6_needKey wsX6_needKey rm_X6_needKey0 [.int (iZ k)] σ (fun (z : Int) (u : xW) => z = k - 97 ∧ u = σ) := by
  refine CI_of (by decide) rfl (Nat.le_of_ble_eq_true rfl) ?_
  intro p e s m args below meth c Q ls G hH hl hQ
  obtain ⟨hx, hb, hml, hown, hts, hK, hST, hlocks, hr, hno⟩ := G
  have hOK := hSF.1
  have hown : s.vm.findClass RX6 = some m.cls := hown
  have hl : lv_has ls 1 [(0, .int (iZ k))] := hl
  refine lv_iload_n hx hb dX6_needKey_0 rfl (lv_at hl 0 rfl) ?_
  refine x_cSID (As := [.int (iZ k)]) (rest := []) hx hb hml hts hown hK hST hOK hH (c_X6_isKey l E ST hSF σ k  (by omega)) (va_cwS 1 hts gX6_needKey_X6_isKey rfl rfl rfl (by decide +kernel) ⟨Nat.le_of_ble_eq_true rfl, Nat.le_of_ble_eq_true rfl⟩) rfl hl.1 rfl (Nat.le_of_ble_eq_true rfl) dX6_needKey_1 ⟨Nat.le_of_ble_eq_true rfl, Nat.le_of_ble_eq_true rfl⟩ (fun z u h => h) (fun H locs hH => ?_)
  refine x_ifb_ne (tgt := 18) hx hb dX6_needKey_4 (by decide) (fun c4 => ?_) (fun c4 => ?_)
  · have c4 := of_decide_eq_true c4
    refine lv_iload_n hx hb dX6_needKey_18 rfl (lv_at hl 0 rfl) ?_
    refine x_bipush hx hb dX6_needKey_19 (by decide) ?_
    refine x_isub hx hb dX6_needKey_21 ?_
    subst hQ
    exact x_iret hx hb hr hlocks hH (Nat.le_of_ble_eq_true rfl) (Nat.le_of_ble_eq_true rfl) ⟨(show (k - 97) = (k - 97) from (by first | rfl | omega | simp_all)), rfl⟩ dX6_needKey_22
  · have c4 := of_decide_eq_false c4
    exfalso; omega

def rm_X6_needPath0 : Room := { frames := 0, cells := 0, slots := 0, locals := 0 }
set_option maxRecDepth 100000 in
set_option maxHeartbeats 4000000 in
theorem c_X6_needPath0 (l : Launch) (E : xE) (ST : xST) (hSF : SF ST) (σ : xW) (a : Int) (ha : rg a) (hok : a < 25) : CI l E ST yX6_needPath wsX6_needPath rm_X6_needPath0 [.int (iZ a)] σ (fun (z : Int) (u : xW) => z = a ∧ u = σ) := by
  refine CI_of (by decide) rfl (Nat.le_of_ble_eq_true rfl) ?_
  intro p e s m args below meth c Q ls G hH hl hQ
  obtain ⟨hx, hb, hml, hown, hts, hK, hST, hlocks, hr, hno⟩ := G
  have hOK := hSF.1
  have hown : s.vm.findClass RX6 = some m.cls := hown
  have hl : lv_has ls 1 [(0, .int (iZ a))] := hl
  refine lv_iload_n hx hb dX6_needPath_0 rfl (lv_at hl 0 rfl) ?_
  refine x_bipush hx hb dX6_needPath_1 (by decide) ?_
  refine x_icmp_lt (tgt := 17) hx hb dX6_needPath_3 (by decide) (by omega) (by decide) (fun c3 => ?_) (fun c3 => ?_)
  · refine lv_iload_n hx hb dX6_needPath_17 rfl (lv_at hl 0 rfl) ?_
    subst hQ
    exact x_iret hx hb hr hlocks hH (Nat.le_of_ble_eq_true rfl) (Nat.le_of_ble_eq_true rfl) ⟨(show a = a from (by first | rfl | omega | simp_all)), rfl⟩ dX6_needPath_18
  · exfalso; omega

def rm_X6_needKeyCell1 : Room := { frames := 6, cells := 1, slots := 6, locals := 90 }
set_option maxRecDepth 100000 in
set_option maxHeartbeats 4000000 in
theorem c_X6_needKeyCell1 (l : Launch) (E : xE) (ST : xST) (hSF : SF ST) (htr : l.stackTraces = false) (σ : xW) (k : Int) (hv : Bool) (se : Int) (sf : Int) (ll : Int) (op : Int → Int) (lk : Int → Int) (kp : Int → Int) (wc : Int → Int) (pn : Int) (nw : Int) (sh : Int) (wk : Int) (hr0 : mn E σ hv se sf ll) (hr1 : bd E σ 1 op lk kp wc pn nw sh wk) (hk9 : rg k) (hB : BI op lk kp wc pn nw) (hok : 97 ≤ k ∧ k < 103) : XI l E ST yX6_needKeyCell wsX6_needKeyCell rm_X6_needKeyCell1 [.ref (xad E 0), .int (iZ k)] σ (fun (z : Int) (u : xW) => z = kp (k - 97) ∧ (0 ≤ kp (k - 97) ∧ kp (k - 97) < 25) ∧ u = σ) (fun (n : String) (u : xW) => ((n = "java/util/NoSuchElementException" ∧ ¬ (0 ≤ kp (k - 97) ∧ kp (k - 97) < 25))) ∧ u = σ) := by
  have f0 : σ 0 = oB 4 [.ref (xad E 1), .ref (xad E 7), .ref (xad E 13), .ref (xad E 19), .int (iZ (b2 hv)), .ref (xad E 73), .ref (xad E 75), .ref (xad E 81), .int (iZ se), .int (iZ sf), .ref (xad E 84), .int (iZ ll)] := hr0
  obtain ⟨f1, f2, f3, f4, f5, ro1, f6⟩ := hr1
  refine XI_of (by decide) rfl (Nat.le_of_ble_eq_true rfl) ?_
  intro p e s m args below meth c Q ls G hH hl hQ
  obtain ⟨hx, hb, hml, hown, hts, hK, hST, hlocks, hr, hno⟩ := G
  have hOK := hSF.1
  have hown : s.vm.findClass RX6 = some m.cls := hown
  have hl : lv_has ls 3 [(0, .ref (xad E 0)), (1, .int (iZ k))] := hl
  have hinX1 : ∀ w ∈ u_ws RX1 TX1 9, w ∈ wsX6_needKeyCell := fun w h => (List.mem_cons_of_mem _ (List.mem_append_left _ (List.mem_append_left _ (List.mem_append_right _ h))))
  have hinX6 : ∀ w ∈ u_ws RX6 TX6 12, w ∈ wsX6_needKeyCell := fun w h => (List.mem_cons_of_mem _ (List.mem_append_left _ (List.mem_append_left _ (List.mem_append_left _ (List.mem_append_right _ h)))))
  obtain ⟨hop, hlk, hkp, hwc, hpn, hnw⟩ := id hB
  refine lv_aload_n hx hb dX6_needKeyCell_0 rfl (lv_at hl 0 rfl) ?_
  refine x_get hx hb hts hown hK hH 0 (ltw (by decide)) f0 hinX6 rfl 0 (by decide) (List.mem_of_getElem? (i := 3) rfl) rfl dX6_needKeyCell_1 ?_
  refine x_get hx hb hts hown hK hH 1 (ltw (by decide)) f1 hinX1 rfl 2 (by decide) (List.mem_of_getElem? (i := 4) rfl) rfl dX6_needKeyCell_4 ?_
  refine lv_iload_n hx hb dX6_needKeyCell_7 rfl (lv_at hl 1 rfl) ?_
  refine x_cSID (As := [.int (iZ k)]) (rest := [.ref (xad E 4)]) hx hb hml hts hown hK hST hOK hH (c_X6_needKey0 l E ST hSF σ k  (by omega) (by omega)) (va_cwS 1 hts gX6_needKeyCell_X6_needKey rfl rfl rfl (by decide +kernel) ⟨Nat.le_of_ble_eq_true rfl, Nat.le_of_ble_eq_true rfl⟩) rfl hl.1 rfl (Nat.le_of_ble_eq_true rfl) dX6_needKeyCell_8 ⟨Nat.le_of_ble_eq_true rfl, Nat.le_of_ble_eq_true rfl⟩ (fun z u h => h) (fun H locs hH => ?_)
  refine x_iald hx hb hK hH 4 (ltw (by decide)) f4 (by omega) (by omega) (by omega) dX6_needKeyCell_11 ?_
  have hv4 := hkp (k - 97)
  refine lv_istore_n (lv' := [(2, .int (iZ (kp (k - 97)))), (0, .ref (xad E 0)), (1, .int (iZ k))]) hx hb dX6_needKeyCell_12 rfl hl (by decide) rfl (fun ls hl => ?_)
  refine lv_iload_n hx hb dX6_needKeyCell_13 rfl (lv_at hl 0 rfl) ?_
  refine x_cSID (As := [.int (iZ (kp (k - 97)))]) (rest := []) hx hb hml hts hown hK hST hOK hH (c_X6_isCell l E ST hSF σ (kp (k - 97))  (by omega)) (va_cwS 1 hts gX6_needKeyCell_X6_isCell rfl rfl rfl (by decide +kernel) ⟨Nat.le_of_ble_eq_true rfl, Nat.le_of_ble_eq_true rfl⟩) rfl hl.1 rfl (Nat.le_of_ble_eq_true rfl) dX6_needKeyCell_14 ⟨Nat.le_of_ble_eq_true rfl, Nat.le_of_ble_eq_true rfl⟩ (fun z u h => h) (fun H locs hH => ?_)
  refine x_ifb_ne (tgt := 31) hx hb dX6_needKeyCell_17 (by decide) (fun c17 => ?_) (fun c17 => ?_)
  · have c17 := of_decide_eq_true c17
    refine lv_iload_n hx hb dX6_needKeyCell_31 rfl (lv_at hl 0 rfl) ?_
    subst hQ
    exact x_ireX hx hb hr hlocks hH (Nat.le_of_ble_eq_true rfl) (Nat.le_of_ble_eq_true rfl) ⟨(show (kp (k - 97)) = (kp (k - 97)) from (by first | rfl | omega | simp_all)), (by first | assumption | omega | simp_all), rfl⟩ dX6_needKeyCell_32
  · have c17 := of_decide_eq_false c17
    subst hQ
    exact x_throwSWN (text := "the key does not lie on a tile") hx hb hml htr hts hown hST hSF hno hlocks hH xExc_4 (List.mem_of_getElem? (i := 1) rfl) (List.mem_of_getElem? (i := 2) rfl) (fun w h => (List.mem_cons_of_mem _ (List.mem_append_left _ (List.mem_append_right _ h)))) (List.mem_of_getElem? (i := 14) rfl) hl.1 dX6_needKeyCell_20 dX6_needKeyCell_23 dX6_needKeyCell_24 dX6_needKeyCell_27 dX6_needKeyCell_30 (Nat.le_of_ble_eq_true rfl) (Nat.le_of_ble_eq_true rfl) (Nat.le_of_ble_eq_true rfl) (Nat.le_of_ble_eq_true rfl) ⟨⟨rfl, (by first | omega | simp_all)⟩, rfl⟩ (Nat.le_of_ble_eq_true rfl) (Nat.le_of_ble_eq_true rfl)

def rm_X6_needKeyCell0 : Room := { frames := 2, cells := 0, slots := 0, locals := 40 }
set_option maxRecDepth 100000 in
set_option maxHeartbeats 4000000 in
theorem c_X6_needKeyCell0 (l : Launch) (E : xE) (ST : xST) (hSF : SF ST) (σ : xW) (k : Int) (hv : Bool) (se : Int) (sf : Int) (ll : Int) (op : Int → Int) (lk : Int → Int) (kp : Int → Int) (wc : Int → Int) (pn : Int) (nw : Int) (sh : Int) (wk : Int) (hr0 : mn E σ hv se sf ll) (hr1 : bd E σ 1 op lk kp wc pn nw sh wk) (hk9 : rg k) (hB : BI op lk kp wc pn nw) (hok : 97 ≤ k ∧ k < 103) (hli : 0 ≤ kp (k - 97) ∧ kp (k - 97) < 25) : CI l E ST yX6_needKeyCell wsX6_needKeyCell rm_X6_needKeyCell0 [.ref (xad E 0), .int (iZ k)] σ (fun (z : Int) (u : xW) => z = kp (k - 97) ∧ u = σ) := by
  have f0 : σ 0 = oB 4 [.ref (xad E 1), .ref (xad E 7), .ref (xad E 13), .ref (xad E 19), .int (iZ (b2 hv)), .ref (xad E 73), .ref (xad E 75), .ref (xad E 81), .int (iZ se), .int (iZ sf), .ref (xad E 84), .int (iZ ll)] := hr0
  obtain ⟨f1, f2, f3, f4, f5, ro1, f6⟩ := hr1
  refine CI_of (by decide) rfl (Nat.le_of_ble_eq_true rfl) ?_
  intro p e s m args below meth c Q ls G hH hl hQ
  obtain ⟨hx, hb, hml, hown, hts, hK, hST, hlocks, hr, hno⟩ := G
  have hOK := hSF.1
  have hown : s.vm.findClass RX6 = some m.cls := hown
  have hl : lv_has ls 3 [(0, .ref (xad E 0)), (1, .int (iZ k))] := hl
  have hinX1 : ∀ w ∈ u_ws RX1 TX1 9, w ∈ wsX6_needKeyCell := fun w h => (List.mem_cons_of_mem _ (List.mem_append_left _ (List.mem_append_left _ (List.mem_append_right _ h))))
  have hinX6 : ∀ w ∈ u_ws RX6 TX6 12, w ∈ wsX6_needKeyCell := fun w h => (List.mem_cons_of_mem _ (List.mem_append_left _ (List.mem_append_left _ (List.mem_append_left _ (List.mem_append_right _ h)))))
  obtain ⟨hop, hlk, hkp, hwc, hpn, hnw⟩ := id hB
  refine lv_aload_n hx hb dX6_needKeyCell_0 rfl (lv_at hl 0 rfl) ?_
  refine x_get hx hb hts hown hK hH 0 (ltw (by decide)) f0 hinX6 rfl 0 (by decide) (List.mem_of_getElem? (i := 3) rfl) rfl dX6_needKeyCell_1 ?_
  refine x_get hx hb hts hown hK hH 1 (ltw (by decide)) f1 hinX1 rfl 2 (by decide) (List.mem_of_getElem? (i := 4) rfl) rfl dX6_needKeyCell_4 ?_
  refine lv_iload_n hx hb dX6_needKeyCell_7 rfl (lv_at hl 1 rfl) ?_
  refine x_cSID (As := [.int (iZ k)]) (rest := [.ref (xad E 4)]) hx hb hml hts hown hK hST hOK hH (c_X6_needKey0 l E ST hSF σ k  (by omega) (by omega)) (va_cwS 1 hts gX6_needKeyCell_X6_needKey rfl rfl rfl (by decide +kernel) ⟨Nat.le_of_ble_eq_true rfl, Nat.le_of_ble_eq_true rfl⟩) rfl hl.1 rfl (Nat.le_of_ble_eq_true rfl) dX6_needKeyCell_8 ⟨Nat.le_of_ble_eq_true rfl, Nat.le_of_ble_eq_true rfl⟩ (fun z u h => h) (fun H locs hH => ?_)
  refine x_iald hx hb hK hH 4 (ltw (by decide)) f4 (by omega) (by omega) (by omega) dX6_needKeyCell_11 ?_
  have hv4 := hkp (k - 97)
  refine lv_istore_n (lv' := [(2, .int (iZ (kp (k - 97)))), (0, .ref (xad E 0)), (1, .int (iZ k))]) hx hb dX6_needKeyCell_12 rfl hl (by decide) rfl (fun ls hl => ?_)
  refine lv_iload_n hx hb dX6_needKeyCell_13 rfl (lv_at hl 0 rfl) ?_
  refine x_cSID (As := [.int (iZ (kp (k - 97)))]) (rest := []) hx hb hml hts hown hK hST hOK hH (c_X6_isCell l E ST hSF σ (kp (k - 97))  (by omega)) (va_cwS 1 hts gX6_needKeyCell_X6_isCell rfl rfl rfl (by decide +kernel) ⟨Nat.le_of_ble_eq_true rfl, Nat.le_of_ble_eq_true rfl⟩) rfl hl.1 rfl (Nat.le_of_ble_eq_true rfl) dX6_needKeyCell_14 ⟨Nat.le_of_ble_eq_true rfl, Nat.le_of_ble_eq_true rfl⟩ (fun z u h => h) (fun H locs hH => ?_)
  refine x_ifb_ne (tgt := 31) hx hb dX6_needKeyCell_17 (by decide) (fun c17 => ?_) (fun c17 => ?_)
  · have c17 := of_decide_eq_true c17
    refine lv_iload_n hx hb dX6_needKeyCell_31 rfl (lv_at hl 0 rfl) ?_
    subst hQ
    exact x_iret hx hb hr hlocks hH (Nat.le_of_ble_eq_true rfl) (Nat.le_of_ble_eq_true rfl) ⟨(show (kp (k - 97)) = (kp (k - 97)) from (by first | rfl | omega | simp_all)), rfl⟩ dX6_needKeyCell_32
  · have c17 := of_decide_eq_false c17
    exfalso; omega

def rm_X6_openings0 : Room := { frames := 2, cells := 0, slots := 0, locals := 41 }
set_option maxRecDepth 100000 in
set_option maxHeartbeats 4000000 in
theorem c_X6_openings0 (l : Launch) (E : xE) (ST : xST) (hSF : SF ST) (σ : xW) (r : Int) (c0 : Int) (hv : Bool) (se : Int) (sf : Int) (ll : Int) (op : Int → Int) (lk : Int → Int) (kp : Int → Int) (wc : Int → Int) (pn : Int) (nw : Int) (sh : Int) (wk : Int) (hr0 : mn E σ hv se sf ll) (hr1 : bd E σ 1 op lk kp wc pn nw sh wk) (hB : BI op lk kp wc pn nw) (hr9 : rg r) (hc9 : rg c0) (hok : okC r c0) : CI l E ST yX6_openings wsX6_openings rm_X6_openings0 [.ref (xad E 0), .int (iZ r), .int (iZ c0)] σ (fun (z : Int) (u : xW) => z = op (r * 5 + c0) ∧ u = σ) := by
  have f0 : σ 0 = oB 4 [.ref (xad E 1), .ref (xad E 7), .ref (xad E 13), .ref (xad E 19), .int (iZ (b2 hv)), .ref (xad E 73), .ref (xad E 75), .ref (xad E 81), .int (iZ se), .int (iZ sf), .ref (xad E 84), .int (iZ ll)] := hr0
  obtain ⟨f1, f2, f3, f4, f5, ro1, f6⟩ := hr1
  refine CI_of (by decide) rfl (Nat.le_of_ble_eq_true rfl) ?_
  intro p e s m args below meth c Q ls G hH hl hQ
  obtain ⟨hx, hb, hml, hown, hts, hK, hST, hlocks, hr, hno⟩ := G
  have hOK := hSF.1
  have hown : s.vm.findClass RX6 = some m.cls := hown
  have hl : lv_has ls 3 [(0, .ref (xad E 0)), (1, .int (iZ r)), (2, .int (iZ c0))] := hl
  have hinX1 : ∀ w ∈ u_ws RX1 TX1 9, w ∈ wsX6_openings := fun w h => (List.mem_cons_of_mem _ (List.mem_append_left _ (List.mem_append_right _ h)))
  have hinX6 : ∀ w ∈ u_ws RX6 TX6 12, w ∈ wsX6_openings := fun w h => (List.mem_cons_of_mem _ (List.mem_append_left _ (List.mem_append_left _ (List.mem_append_right _ h))))
  obtain ⟨hop, hlk, hkp, hwc, hpn, hnw⟩ := id hB
  refine lv_aload_n hx hb dX6_openings_0 rfl (lv_at hl 0 rfl) ?_
  refine x_get hx hb hts hown hK hH 0 (ltw (by decide)) f0 hinX6 rfl 0 (by decide) (List.mem_of_getElem? (i := 1) rfl) rfl dX6_openings_1 ?_
  refine x_get hx hb hts hown hK hH 1 (ltw (by decide)) f1 hinX1 rfl 0 (by decide) (List.mem_of_getElem? (i := 2) rfl) rfl dX6_openings_4 ?_
  refine lv_iload_n hx hb dX6_openings_7 rfl (lv_at hl 1 rfl) ?_
  refine lv_iload_n hx hb dX6_openings_8 rfl (lv_at hl 2 rfl) ?_
  refine x_cSID (As := [.int (iZ r), .int (iZ c0)]) (rest := [.ref (xad E 2)]) hx hb hml hts hown hK hST hOK hH (c_X6_needCell0 l E ST hSF σ r c0  (by omega) (by omega) (by omega)) (va_cwS 2 hts gX6_openings_X6_needCell rfl rfl rfl (by decide +kernel) ⟨Nat.le_of_ble_eq_true rfl, Nat.le_of_ble_eq_true rfl⟩) rfl hl.1 rfl (Nat.le_of_ble_eq_true rfl) dX6_openings_9 ⟨Nat.le_of_ble_eq_true rfl, Nat.le_of_ble_eq_true rfl⟩ (fun z u h => h) (fun H locs hH => ?_)
  refine x_iald hx hb hK hH 2 (ltw (by decide)) f2 (by omega) (by omega) (by omega) dX6_openings_12 ?_
  have hv4 := hop (r * 5 + c0)
  subst hQ
  exact x_iret hx hb hr hlocks hH (Nat.le_of_ble_eq_true rfl) (Nat.le_of_ble_eq_true rfl) ⟨(show (op (r * 5 + c0)) = (op (r * 5 + c0)) from (by first | rfl | omega | simp_all)), rfl⟩ dX6_openings_13

def rm_X6_isPinned0 : Room := { frames := 2, cells := 0, slots := 0, locals := 41 }
set_option maxRecDepth 100000 in
set_option maxHeartbeats 4000000 in
theorem c_X6_isPinned0 (l : Launch) (E : xE) (ST : xST) (hSF : SF ST) (σ : xW) (r : Int) (c0 : Int) (hv : Bool) (se : Int) (sf : Int) (ll : Int) (op : Int → Int) (lk : Int → Int) (kp : Int → Int) (wc : Int → Int) (pn : Int) (nw : Int) (sh : Int) (wk : Int) (hr0 : mn E σ hv se sf ll) (hr1 : bd E σ 1 op lk kp wc pn nw sh wk) (hB : BI op lk kp wc pn nw) (hr9 : rg r) (hc9 : rg c0) (hok : okC r c0) : CI l E ST yX6_isPinned wsX6_isPinned rm_X6_isPinned0 [.ref (xad E 0), .int (iZ r), .int (iZ c0)] σ (fun (z : Int) (u : xW) => z = b2 (decide (iandZ (ishrZ pn (r * 5 + c0)) 1 = 1)) ∧ u = σ) := by
  have f0 : σ 0 = oB 4 [.ref (xad E 1), .ref (xad E 7), .ref (xad E 13), .ref (xad E 19), .int (iZ (b2 hv)), .ref (xad E 73), .ref (xad E 75), .ref (xad E 81), .int (iZ se), .int (iZ sf), .ref (xad E 84), .int (iZ ll)] := hr0
  obtain ⟨f1, f2, f3, f4, f5, ro1, f6⟩ := hr1
  refine CI_of (by decide) rfl (Nat.le_of_ble_eq_true rfl) ?_
  intro p e s m args below meth c Q ls G hH hl hQ
  obtain ⟨hx, hb, hml, hown, hts, hK, hST, hlocks, hr, hno⟩ := G
  have hOK := hSF.1
  have hown : s.vm.findClass RX6 = some m.cls := hown
  have hl : lv_has ls 3 [(0, .ref (xad E 0)), (1, .int (iZ r)), (2, .int (iZ c0))] := hl
  have hinX6 : ∀ w ∈ u_ws RX6 TX6 12, w ∈ wsX6_isPinned := fun w h => (List.mem_cons_of_mem _ (List.mem_append_left _ (List.mem_append_left _ (List.mem_append_right _ h))))
  obtain ⟨hop, hlk, hkp, hwc, hpn, hnw⟩ := id hB
  refine lv_aload_n hx hb dX6_isPinned_0 rfl (lv_at hl 0 rfl) ?_
  refine x_get hx hb hts hown hK hH 0 (ltw (by decide)) f0 hinX6 rfl 0 (by decide) (List.mem_of_getElem? (i := 1) rfl) rfl dX6_isPinned_1 ?_
  refine lv_iload_n hx hb dX6_isPinned_4 rfl (lv_at hl 1 rfl) ?_
  refine lv_iload_n hx hb dX6_isPinned_5 rfl (lv_at hl 2 rfl) ?_
  refine x_cSID (As := [.int (iZ r), .int (iZ c0)]) (rest := [.ref (xad E 1)]) hx hb hml hts hown hK hST hOK hH (c_X6_needCell0 l E ST hSF σ r c0  (by omega) (by omega) (by omega)) (va_cwS 2 hts gX6_isPinned_X6_needCell rfl rfl rfl (by decide +kernel) ⟨Nat.le_of_ble_eq_true rfl, Nat.le_of_ble_eq_true rfl⟩) rfl hl.1 rfl (Nat.le_of_ble_eq_true rfl) dX6_isPinned_6 ⟨Nat.le_of_ble_eq_true rfl, Nat.le_of_ble_eq_true rfl⟩ (fun z u h => h) (fun H locs hH => ?_)
  refine x_cVID (As := [.int (iZ (r * 5 + c0))]) (rest := []) hx hb hml hts hown hK hST hOK hH 1 (c_X1_isFixed l E ST hSF σ 1 (r * 5 + c0) op lk kp wc pn nw sh wk ⟨f1, f2, f3, f4, f5, _, f6⟩ (by omega) (by omega)) (cwV 1 hts gX6_isPinned_X1_isFixed rfl rfl rfl (by decide +kernel) ⟨Nat.le_of_ble_eq_true rfl, Nat.le_of_ble_eq_true rfl⟩) (ltw (by decide)) f1 rfl rfl hl.1 rfl (Nat.le_of_ble_eq_true rfl) dX6_isPinned_9 ⟨Nat.le_of_ble_eq_true rfl, Nat.le_of_ble_eq_true rfl⟩ (fun z u h => h) (fun H locs hH => ?_)
  subst hQ
  exact x_zret (b := (decide (iandZ (ishrZ pn (r * 5 + c0)) 1 = 1))) hx hb hr hlocks hH (Nat.le_of_ble_eq_true rfl) (Nat.le_of_ble_eq_true rfl) ⟨congrArg b2 (show (decide (iandZ (ishrZ pn (r * 5 + c0)) 1 = 1)) = (decide (iandZ (ishrZ pn (r * 5 + c0)) 1 = 1)) from (by rfl)), rfl⟩ dX6_isPinned_12

def rm_X6_canShiftRow0 : Room := { frames := 2, cells := 0, slots := 0, locals := 44 }
set_option maxRecDepth 100000 in
set_option maxHeartbeats 4000000 in
theorem c_X6_canShiftRow0 (l : Launch) (E : xE) (ST : xST) (hSF : SF ST) (σ : xW) (r : Int) (hv : Bool) (se : Int) (sf : Int) (ll : Int) (op : Int → Int) (lk : Int → Int) (kp : Int → Int) (wc : Int → Int) (pn : Int) (nw : Int) (sh : Int) (wk : Int) (hr0 : mn E σ hv se sf ll) (hr1 : bd E σ 1 op lk kp wc pn nw sh wk) (hB : BI op lk kp wc pn nw) (hr9 : rg r) (hok : 0 ≤ r ∧ r < 5) : CI l E ST yX6_canShiftRow wsX6_canShiftRow rm_X6_canShiftRow0 [.ref (xad E 0), .int (iZ r)] σ (fun (z : Int) (u : xW) => z = b2 (lfB pn (r * 5) 1) ∧ u = σ) := by
  have f0 : σ 0 = oB 4 [.ref (xad E 1), .ref (xad E 7), .ref (xad E 13), .ref (xad E 19), .int (iZ (b2 hv)), .ref (xad E 73), .ref (xad E 75), .ref (xad E 81), .int (iZ se), .int (iZ sf), .ref (xad E 84), .int (iZ ll)] := hr0
  obtain ⟨f1, f2, f3, f4, f5, ro1, f6⟩ := hr1
  refine CI_of (by decide) rfl (Nat.le_of_ble_eq_true rfl) ?_
  intro p e s m args below meth c Q ls G hH hl hQ
  obtain ⟨hx, hb, hml, hown, hts, hK, hST, hlocks, hr, hno⟩ := G
  have hOK := hSF.1
  have hown : s.vm.findClass RX6 = some m.cls := hown
  have hl : lv_has ls 2 [(0, .ref (xad E 0)), (1, .int (iZ r))] := hl
  have hinX6 : ∀ w ∈ u_ws RX6 TX6 12, w ∈ wsX6_canShiftRow := fun w h => (List.mem_cons_of_mem _ (List.mem_append_left _ (List.mem_append_left _ (List.mem_append_right _ h))))
  obtain ⟨hop, hlk, hkp, hwc, hpn, hnw⟩ := id hB
  refine lv_aload_n hx hb dX6_canShiftRow_0 rfl (lv_at hl 0 rfl) ?_
  refine x_get hx hb hts hown hK hH 0 (ltw (by decide)) f0 hinX6 rfl 0 (by decide) (List.mem_of_getElem? (i := 1) rfl) rfl dX6_canShiftRow_1 ?_
  refine lv_iload_n hx hb dX6_canShiftRow_4 rfl (lv_at hl 1 rfl) ?_
  refine x_cSID (As := [.int (iZ r)]) (rest := [.ref (xad E 1)]) hx hb hml hts hown hK hST hOK hH (c_X6_needLine0 l E ST hSF σ r  (by omega) (by omega)) (va_cwS 1 hts gX6_canShiftRow_X6_needLine rfl rfl rfl (by decide +kernel) ⟨Nat.le_of_ble_eq_true rfl, Nat.le_of_ble_eq_true rfl⟩) rfl hl.1 rfl (Nat.le_of_ble_eq_true rfl) dX6_canShiftRow_5 ⟨Nat.le_of_ble_eq_true rfl, Nat.le_of_ble_eq_true rfl⟩ (fun z u h => h) (fun H locs hH => ?_)
  refine x_iconst hx hb dX6_canShiftRow_8 ?_
  refine x_imul hx hb dX6_canShiftRow_9 ?_
  refine x_iconst hx hb dX6_canShiftRow_10 ?_
  refine x_cVID (As := [.int (iZ (r * 5)), .int (iZ 1)]) (rest := []) hx hb hml hts hown hK hST hOK hH 1 (c_X1_isLineFree l E ST hSF σ 1 (r * 5) 1 op lk kp wc pn nw sh wk ⟨f1, f2, f3, f4, f5, _, f6⟩ (by omega) (Or.inl ⟨rfl, by omega, by omega⟩)) (cwV 2 hts gX6_canShiftRow_X1_isLineFree rfl rfl rfl (by decide +kernel) ⟨Nat.le_of_ble_eq_true rfl, Nat.le_of_ble_eq_true rfl⟩) (ltw (by decide)) f1 rfl rfl hl.1 rfl (Nat.le_of_ble_eq_true rfl) dX6_canShiftRow_11 ⟨Nat.le_of_ble_eq_true rfl, Nat.le_of_ble_eq_true rfl⟩ (fun z u h => h) (fun H locs hH => ?_)
  subst hQ
  exact x_zret (b := (lfB pn (r * 5) 1)) hx hb hr hlocks hH (Nat.le_of_ble_eq_true rfl) (Nat.le_of_ble_eq_true rfl) ⟨congrArg b2 (show (lfB pn (r * 5) 1) = (lfB pn (r * 5) 1) from (by rfl)), rfl⟩ dX6_canShiftRow_14

def rm_X6_canShiftColumn0 : Room := { frames := 2, cells := 0, slots := 0, locals := 44 }
set_option maxRecDepth 100000 in
set_option maxHeartbeats 4000000 in
theorem c_X6_canShiftColumn0 (l : Launch) (E : xE) (ST : xST) (hSF : SF ST) (σ : xW) (r : Int) (hv : Bool) (se : Int) (sf : Int) (ll : Int) (op : Int → Int) (lk : Int → Int) (kp : Int → Int) (wc : Int → Int) (pn : Int) (nw : Int) (sh : Int) (wk : Int) (hr0 : mn E σ hv se sf ll) (hr1 : bd E σ 1 op lk kp wc pn nw sh wk) (hB : BI op lk kp wc pn nw) (hr9 : rg r) (hok : 0 ≤ r ∧ r < 5) : CI l E ST yX6_canShiftColumn wsX6_canShiftColumn rm_X6_canShiftColumn0 [.ref (xad E 0), .int (iZ r)] σ (fun (z : Int) (u : xW) => z = b2 (lfB pn r 5) ∧ u = σ) := by
  have f0 : σ 0 = oB 4 [.ref (xad E 1), .ref (xad E 7), .ref (xad E 13), .ref (xad E 19), .int (iZ (b2 hv)), .ref (xad E 73), .ref (xad E 75), .ref (xad E 81), .int (iZ se), .int (iZ sf), .ref (xad E 84), .int (iZ ll)] := hr0
  obtain ⟨f1, f2, f3, f4, f5, ro1, f6⟩ := hr1
  refine CI_of (by decide) rfl (Nat.le_of_ble_eq_true rfl) ?_
  intro p e s m args below meth c Q ls G hH hl hQ
  obtain ⟨hx, hb, hml, hown, hts, hK, hST, hlocks, hr, hno⟩ := G
  have hOK := hSF.1
  have hown : s.vm.findClass RX6 = some m.cls := hown
  have hl : lv_has ls 2 [(0, .ref (xad E 0)), (1, .int (iZ r))] := hl
  have hinX6 : ∀ w ∈ u_ws RX6 TX6 12, w ∈ wsX6_canShiftColumn := fun w h => (List.mem_cons_of_mem _ (List.mem_append_left _ (List.mem_append_left _ (List.mem_append_right _ h))))
  obtain ⟨hop, hlk, hkp, hwc, hpn, hnw⟩ := id hB
  refine lv_aload_n hx hb dX6_canShiftColumn_0 rfl (lv_at hl 0 rfl) ?_
  refine x_get hx hb hts hown hK hH 0 (ltw (by decide)) f0 hinX6 rfl 0 (by decide) (List.mem_of_getElem? (i := 1) rfl) rfl dX6_canShiftColumn_1 ?_
  refine lv_iload_n hx hb dX6_canShiftColumn_4 rfl (lv_at hl 1 rfl) ?_
  refine x_cSID (As := [.int (iZ r)]) (rest := [.ref (xad E 1)]) hx hb hml hts hown hK hST hOK hH (c_X6_needLine0 l E ST hSF σ r  (by omega) (by omega)) (va_cwS 1 hts gX6_canShiftColumn_X6_needLine rfl rfl rfl (by decide +kernel) ⟨Nat.le_of_ble_eq_true rfl, Nat.le_of_ble_eq_true rfl⟩) rfl hl.1 rfl (Nat.le_of_ble_eq_true rfl) dX6_canShiftColumn_5 ⟨Nat.le_of_ble_eq_true rfl, Nat.le_of_ble_eq_true rfl⟩ (fun z u h => h) (fun H locs hH => ?_)
  refine x_iconst hx hb dX6_canShiftColumn_8 ?_
  refine x_cVID (As := [.int (iZ r), .int (iZ 5)]) (rest := []) hx hb hml hts hown hK hST hOK hH 1 (c_X1_isLineFree l E ST hSF σ 1 r 5 op lk kp wc pn nw sh wk ⟨f1, f2, f3, f4, f5, _, f6⟩ (by omega) (Or.inr ⟨rfl, by omega, by omega⟩)) (cwV 2 hts gX6_canShiftColumn_X1_isLineFree rfl rfl rfl (by decide +kernel) ⟨Nat.le_of_ble_eq_true rfl, Nat.le_of_ble_eq_true rfl⟩) (ltw (by decide)) f1 rfl rfl hl.1 rfl (Nat.le_of_ble_eq_true rfl) dX6_canShiftColumn_9 ⟨Nat.le_of_ble_eq_true rfl, Nat.le_of_ble_eq_true rfl⟩ (fun z u h => h) (fun H locs hH => ?_)
  subst hQ
  exact x_zret (b := (lfB pn r 5)) hx hb hr hlocks hH (Nat.le_of_ble_eq_true rfl) (Nat.le_of_ble_eq_true rfl) ⟨congrArg b2 (show (lfB pn r 5) = (lfB pn r 5) from (by rfl)), rfl⟩ dX6_canShiftColumn_12

def rm_X6_hasLock0 : Room := { frames := 2, cells := 0, slots := 0, locals := 41 }
set_option maxRecDepth 100000 in
set_option maxHeartbeats 4000000 in
theorem c_X6_hasLock0 (l : Launch) (E : xE) (ST : xST) (hSF : SF ST) (σ : xW) (r : Int) (c0 : Int) (hv : Bool) (se : Int) (sf : Int) (ll : Int) (op : Int → Int) (lk : Int → Int) (kp : Int → Int) (wc : Int → Int) (pn : Int) (nw : Int) (sh : Int) (wk : Int) (hr0 : mn E σ hv se sf ll) (hr1 : bd E σ 1 op lk kp wc pn nw sh wk) (hB : BI op lk kp wc pn nw) (hr9 : rg r) (hc9 : rg c0) (hok : okC r c0) : CI l E ST yX6_hasLock wsX6_hasLock rm_X6_hasLock0 [.ref (xad E 0), .int (iZ r), .int (iZ c0)] σ (fun (z : Int) (u : xW) => z = b2 (decide (¬ lk (r * 5 + c0) = -1)) ∧ u = σ) := by
  have f0 : σ 0 = oB 4 [.ref (xad E 1), .ref (xad E 7), .ref (xad E 13), .ref (xad E 19), .int (iZ (b2 hv)), .ref (xad E 73), .ref (xad E 75), .ref (xad E 81), .int (iZ se), .int (iZ sf), .ref (xad E 84), .int (iZ ll)] := hr0
  obtain ⟨f1, f2, f3, f4, f5, ro1, f6⟩ := hr1
  refine CI_of (by decide) rfl (Nat.le_of_ble_eq_true rfl) ?_
  intro p e s m args below meth c Q ls G hH hl hQ
  obtain ⟨hx, hb, hml, hown, hts, hK, hST, hlocks, hr, hno⟩ := G
  have hOK := hSF.1
  have hown : s.vm.findClass RX6 = some m.cls := hown
  have hl : lv_has ls 3 [(0, .ref (xad E 0)), (1, .int (iZ r)), (2, .int (iZ c0))] := hl
  have hinX1 : ∀ w ∈ u_ws RX1 TX1 9, w ∈ wsX6_hasLock := fun w h => (List.mem_cons_of_mem _ (List.mem_append_left _ (List.mem_append_right _ h)))
  have hinX6 : ∀ w ∈ u_ws RX6 TX6 12, w ∈ wsX6_hasLock := fun w h => (List.mem_cons_of_mem _ (List.mem_append_left _ (List.mem_append_left _ (List.mem_append_right _ h))))
  obtain ⟨hop, hlk, hkp, hwc, hpn, hnw⟩ := id hB
  refine lv_aload_n hx hb dX6_hasLock_0 rfl (lv_at hl 0 rfl) ?_
  refine x_get hx hb hts hown hK hH 0 (ltw (by decide)) f0 hinX6 rfl 0 (by decide) (List.mem_of_getElem? (i := 1) rfl) rfl dX6_hasLock_1 ?_
  refine x_get hx hb hts hown hK hH 1 (ltw (by decide)) f1 hinX1 rfl 1 (by decide) (List.mem_of_getElem? (i := 2) rfl) rfl dX6_hasLock_4 ?_
  refine lv_iload_n hx hb dX6_hasLock_7 rfl (lv_at hl 1 rfl) ?_
  refine lv_iload_n hx hb dX6_hasLock_8 rfl (lv_at hl 2 rfl) ?_
  refine x_cSID (As := [.int (iZ r), .int (iZ c0)]) (rest := [.ref (xad E 3)]) hx hb hml hts hown hK hST hOK hH (c_X6_needCell0 l E ST hSF σ r c0  (by omega) (by omega) (by omega)) (va_cwS 2 hts gX6_hasLock_X6_needCell rfl rfl rfl (by decide +kernel) ⟨Nat.le_of_ble_eq_true rfl, Nat.le_of_ble_eq_true rfl⟩) rfl hl.1 rfl (Nat.le_of_ble_eq_true rfl) dX6_hasLock_9 ⟨Nat.le_of_ble_eq_true rfl, Nat.le_of_ble_eq_true rfl⟩ (fun z u h => h) (fun H locs hH => ?_)
  refine x_iald hx hb hK hH 3 (ltw (by decide)) f3 (by omega) (by omega) (by omega) dX6_hasLock_12 ?_
  have hv4 := hlk (r * 5 + c0)
  refine x_iconst hx hb dX6_hasLock_13 ?_
  refine x_icmp_eq (tgt := 21) hx hb dX6_hasLock_14 (by decide) (by omega) (by decide) (fun c14 => ?_) (fun c14 => ?_)
  · refine x_iconst hx hb dX6_hasLock_21 ?_
    subst hQ
    exact x_zret (b := false) hx hb hr hlocks hH (Nat.le_of_ble_eq_true rfl) (Nat.le_of_ble_eq_true rfl) ⟨congrArg b2 (show false = (decide (¬ lk (r * 5 + c0) = -1)) from (by exact (decide_eq_false (by omega)).symm)), rfl⟩ dX6_hasLock_22
  · refine x_iconst hx hb dX6_hasLock_17 ?_
    refine lv_goto (tgt := 22) hx hb dX6_hasLock_18 (by decide) ?_
    subst hQ
    exact x_zret (b := true) hx hb hr hlocks hH (Nat.le_of_ble_eq_true rfl) (Nat.le_of_ble_eq_true rfl) ⟨congrArg b2 (show true = (decide (¬ lk (r * 5 + c0) = -1)) from (by exact (decide_eq_true (by omega)).symm)), rfl⟩ dX6_hasLock_22

def rm_X6_lockAt1 : Room := { frames := 6, cells := 1, slots := 6, locals := 90 }
set_option maxRecDepth 100000 in
set_option maxHeartbeats 4000000 in
theorem c_X6_lockAt1 (l : Launch) (E : xE) (ST : xST) (hSF : SF ST) (htr : l.stackTraces = false) (σ : xW) (r : Int) (c0 : Int) (hv : Bool) (se : Int) (sf : Int) (ll : Int) (op : Int → Int) (lk : Int → Int) (kp : Int → Int) (wc : Int → Int) (pn : Int) (nw : Int) (sh : Int) (wk : Int) (hr0 : mn E σ hv se sf ll) (hr1 : bd E σ 1 op lk kp wc pn nw sh wk) (hB : BI op lk kp wc pn nw) (hr9 : rg r) (hc9 : rg c0) (hok : okC r c0) : XI l E ST yX6_lockAt wsX6_lockAt rm_X6_lockAt1 [.ref (xad E 0), .int (iZ r), .int (iZ c0)] σ (fun (z : Int) (u : xW) => z = 97 + lk (r * 5 + c0) ∧ (¬ lk (r * 5 + c0) = -1) ∧ u = σ) (fun (n : String) (u : xW) => ((n = "java/util/NoSuchElementException" ∧ lk (r * 5 + c0) = -1)) ∧ u = σ) := by
  have f0 : σ 0 = oB 4 [.ref (xad E 1), .ref (xad E 7), .ref (xad E 13), .ref (xad E 19), .int (iZ (b2 hv)), .ref (xad E 73), .ref (xad E 75), .ref (xad E 81), .int (iZ se), .int (iZ sf), .ref (xad E 84), .int (iZ ll)] := hr0
  obtain ⟨f1, f2, f3, f4, f5, ro1, f6⟩ := hr1
  refine XI_of (by decide) rfl (Nat.le_of_ble_eq_true rfl) ?_
  intro p e s m args below meth c Q ls G hH hl hQ
  obtain ⟨hx, hb, hml, hown, hts, hK, hST, hlocks, hr, hno⟩ := G
  have hOK := hSF.1
  have hown : s.vm.findClass RX6 = some m.cls := hown
  have hl : lv_has ls 4 [(0, .ref (xad E 0)), (1, .int (iZ r)), (2, .int (iZ c0))] := hl
  have hinX1 : ∀ w ∈ u_ws RX1 TX1 9, w ∈ wsX6_lockAt := fun w h => (List.mem_cons_of_mem _ (List.mem_append_left _ (List.mem_append_left _ (List.mem_append_right _ h))))
  have hinX6 : ∀ w ∈ u_ws RX6 TX6 12, w ∈ wsX6_lockAt := fun w h => (List.mem_cons_of_mem _ (List.mem_append_left _ (List.mem_append_left _ (List.mem_append_left _ (List.mem_append_right _ h)))))
  obtain ⟨hop, hlk, hkp, hwc, hpn, hnw⟩ := id hB
  refine lv_aload_n hx hb dX6_lockAt_0 rfl (lv_at hl 0 rfl) ?_
  refine x_get hx hb hts hown hK hH 0 (ltw (by decide)) f0 hinX6 rfl 0 (by decide) (List.mem_of_getElem? (i := 3) rfl) rfl dX6_lockAt_1 ?_
  refine x_get hx hb hts hown hK hH 1 (ltw (by decide)) f1 hinX1 rfl 1 (by decide) (List.mem_of_getElem? (i := 4) rfl) rfl dX6_lockAt_4 ?_
  refine lv_iload_n hx hb dX6_lockAt_7 rfl (lv_at hl 1 rfl) ?_
  refine lv_iload_n hx hb dX6_lockAt_8 rfl (lv_at hl 2 rfl) ?_
  refine x_cSID (As := [.int (iZ r), .int (iZ c0)]) (rest := [.ref (xad E 3)]) hx hb hml hts hown hK hST hOK hH (c_X6_needCell0 l E ST hSF σ r c0  (by omega) (by omega) (by omega)) (va_cwS 2 hts gX6_lockAt_X6_needCell rfl rfl rfl (by decide +kernel) ⟨Nat.le_of_ble_eq_true rfl, Nat.le_of_ble_eq_true rfl⟩) rfl hl.1 rfl (Nat.le_of_ble_eq_true rfl) dX6_lockAt_9 ⟨Nat.le_of_ble_eq_true rfl, Nat.le_of_ble_eq_true rfl⟩ (fun z u h => h) (fun H locs hH => ?_)
  refine x_iald hx hb hK hH 3 (ltw (by decide)) f3 (by omega) (by omega) (by omega) dX6_lockAt_12 ?_
  have hv4 := hlk (r * 5 + c0)
  refine lv_istore_n (lv' := [(3, .int (iZ (lk (r * 5 + c0)))), (0, .ref (xad E 0)), (1, .int (iZ r)), (2, .int (iZ c0))]) hx hb dX6_lockAt_13 rfl hl (by decide) rfl (fun ls hl => ?_)
  refine lv_iload_n hx hb dX6_lockAt_14 rfl (lv_at hl 0 rfl) ?_
  refine x_iconst hx hb dX6_lockAt_15 ?_
  refine x_icmp_ne (tgt := 29) hx hb dX6_lockAt_16 (by decide) (by omega) (by decide) (fun c16 => ?_) (fun c16 => ?_)
  · refine lv_iload_n hx hb dX6_lockAt_29 rfl (lv_at hl 0 rfl) ?_
    refine x_cSID (As := [.int (iZ (lk (r * 5 + c0)))]) (rest := []) hx hb hml hts hown hK hST hOK hH (c_X6_keyName l E ST hSF σ (lk (r * 5 + c0))  (by omega) (by omega)) (va_cwS 1 hts gX6_lockAt_X6_keyName rfl rfl rfl (by decide +kernel) ⟨Nat.le_of_ble_eq_true rfl, Nat.le_of_ble_eq_true rfl⟩) rfl hl.1 rfl (Nat.le_of_ble_eq_true rfl) dX6_lockAt_30 ⟨Nat.le_of_ble_eq_true rfl, Nat.le_of_ble_eq_true rfl⟩ (fun z u h => h) (fun H locs hH => ?_)
    subst hQ
    exact x_creX hx hb hr hlocks hH (Nat.le_of_ble_eq_true rfl) (Nat.le_of_ble_eq_true rfl) (by omega) (by omega) ⟨(show (97 + (lk (r * 5 + c0))) = (97 + lk (r * 5 + c0)) from (by first | rfl | omega | simp_all)), (by first | assumption | omega | simp_all), rfl⟩ dX6_lockAt_33
  · subst hQ
    exact x_throwSN (text := "the tile has no lock") hx hb hml htr hts hown hST hSF hno hlocks hH xExc_4 (List.mem_of_getElem? (i := 1) rfl) (List.mem_of_getElem? (i := 2) rfl) (fun w h => (List.mem_cons_of_mem _ (List.mem_append_left _ (List.mem_append_right _ h)))) (List.mem_of_getElem? (i := 12) rfl) hl.1 dX6_lockAt_19 dX6_lockAt_22 dX6_lockAt_23 dX6_lockAt_25 dX6_lockAt_28 (Nat.le_of_ble_eq_true rfl) (Nat.le_of_ble_eq_true rfl) (Nat.le_of_ble_eq_true rfl) (Nat.le_of_ble_eq_true rfl) ⟨⟨rfl, (by first | omega | simp_all)⟩, rfl⟩ (Nat.le_of_ble_eq_true rfl) (Nat.le_of_ble_eq_true rfl)

def rm_X6_lockAt0 : Room := { frames := 2, cells := 0, slots := 0, locals := 41 }
set_option maxRecDepth 100000 in
set_option maxHeartbeats 4000000 in
theorem c_X6_lockAt0 (l : Launch) (E : xE) (ST : xST) (hSF : SF ST) (σ : xW) (r : Int) (c0 : Int) (hv : Bool) (se : Int) (sf : Int) (ll : Int) (op : Int → Int) (lk : Int → Int) (kp : Int → Int) (wc : Int → Int) (pn : Int) (nw : Int) (sh : Int) (wk : Int) (hr0 : mn E σ hv se sf ll) (hr1 : bd E σ 1 op lk kp wc pn nw sh wk) (hB : BI op lk kp wc pn nw) (hr9 : rg r) (hc9 : rg c0) (hok : okC r c0) (hlo : ¬ lk (r * 5 + c0) = -1) : CI l E ST yX6_lockAt wsX6_lockAt rm_X6_lockAt0 [.ref (xad E 0), .int (iZ r), .int (iZ c0)] σ (fun (z : Int) (u : xW) => z = 97 + lk (r * 5 + c0) ∧ u = σ) := by
  have f0 : σ 0 = oB 4 [.ref (xad E 1), .ref (xad E 7), .ref (xad E 13), .ref (xad E 19), .int (iZ (b2 hv)), .ref (xad E 73), .ref (xad E 75), .ref (xad E 81), .int (iZ se), .int (iZ sf), .ref (xad E 84), .int (iZ ll)] := hr0
  obtain ⟨f1, f2, f3, f4, f5, ro1, f6⟩ := hr1
  refine CI_of (by decide) rfl (Nat.le_of_ble_eq_true rfl) ?_
  intro p e s m args below meth c Q ls G hH hl hQ
  obtain ⟨hx, hb, hml, hown, hts, hK, hST, hlocks, hr, hno⟩ := G
  have hOK := hSF.1
  have hown : s.vm.findClass RX6 = some m.cls := hown
  have hl : lv_has ls 4 [(0, .ref (xad E 0)), (1, .int (iZ r)), (2, .int (iZ c0))] := hl
  have hinX1 : ∀ w ∈ u_ws RX1 TX1 9, w ∈ wsX6_lockAt := fun w h => (List.mem_cons_of_mem _ (List.mem_append_left _ (List.mem_append_left _ (List.mem_append_right _ h))))
  have hinX6 : ∀ w ∈ u_ws RX6 TX6 12, w ∈ wsX6_lockAt := fun w h => (List.mem_cons_of_mem _ (List.mem_append_left _ (List.mem_append_left _ (List.mem_append_left _ (List.mem_append_right _ h)))))
  obtain ⟨hop, hlk, hkp, hwc, hpn, hnw⟩ := id hB
  refine lv_aload_n hx hb dX6_lockAt_0 rfl (lv_at hl 0 rfl) ?_
  refine x_get hx hb hts hown hK hH 0 (ltw (by decide)) f0 hinX6 rfl 0 (by decide) (List.mem_of_getElem? (i := 3) rfl) rfl dX6_lockAt_1 ?_
  refine x_get hx hb hts hown hK hH 1 (ltw (by decide)) f1 hinX1 rfl 1 (by decide) (List.mem_of_getElem? (i := 4) rfl) rfl dX6_lockAt_4 ?_
  refine lv_iload_n hx hb dX6_lockAt_7 rfl (lv_at hl 1 rfl) ?_
  refine lv_iload_n hx hb dX6_lockAt_8 rfl (lv_at hl 2 rfl) ?_
  refine x_cSID (As := [.int (iZ r), .int (iZ c0)]) (rest := [.ref (xad E 3)]) hx hb hml hts hown hK hST hOK hH (c_X6_needCell0 l E ST hSF σ r c0  (by omega) (by omega) (by omega)) (va_cwS 2 hts gX6_lockAt_X6_needCell rfl rfl rfl (by decide +kernel) ⟨Nat.le_of_ble_eq_true rfl, Nat.le_of_ble_eq_true rfl⟩) rfl hl.1 rfl (Nat.le_of_ble_eq_true rfl) dX6_lockAt_9 ⟨Nat.le_of_ble_eq_true rfl, Nat.le_of_ble_eq_true rfl⟩ (fun z u h => h) (fun H locs hH => ?_)
  refine x_iald hx hb hK hH 3 (ltw (by decide)) f3 (by omega) (by omega) (by omega) dX6_lockAt_12 ?_
  have hv4 := hlk (r * 5 + c0)
  refine lv_istore_n (lv' := [(3, .int (iZ (lk (r * 5 + c0)))), (0, .ref (xad E 0)), (1, .int (iZ r)), (2, .int (iZ c0))]) hx hb dX6_lockAt_13 rfl hl (by decide) rfl (fun ls hl => ?_)
  refine lv_iload_n hx hb dX6_lockAt_14 rfl (lv_at hl 0 rfl) ?_
  refine x_iconst hx hb dX6_lockAt_15 ?_
  refine x_icmp_ne (tgt := 29) hx hb dX6_lockAt_16 (by decide) (by omega) (by decide) (fun c16 => ?_) (fun c16 => ?_)
  · refine lv_iload_n hx hb dX6_lockAt_29 rfl (lv_at hl 0 rfl) ?_
    refine x_cSID (As := [.int (iZ (lk (r * 5 + c0)))]) (rest := []) hx hb hml hts hown hK hST hOK hH (c_X6_keyName l E ST hSF σ (lk (r * 5 + c0))  (by omega) (by omega)) (va_cwS 1 hts gX6_lockAt_X6_keyName rfl rfl rfl (by decide +kernel) ⟨Nat.le_of_ble_eq_true rfl, Nat.le_of_ble_eq_true rfl⟩) rfl hl.1 rfl (Nat.le_of_ble_eq_true rfl) dX6_lockAt_30 ⟨Nat.le_of_ble_eq_true rfl, Nat.le_of_ble_eq_true rfl⟩ (fun z u h => h) (fun H locs hH => ?_)
    subst hQ
    exact x_cret hx hb hr hlocks hH (Nat.le_of_ble_eq_true rfl) (Nat.le_of_ble_eq_true rfl) (by omega) (by omega) ⟨(show (97 + (lk (r * 5 + c0))) = (97 + lk (r * 5 + c0)) from (by first | rfl | omega | simp_all)), rfl⟩ dX6_lockAt_33
  · exfalso; omega

def rm_X6_keysAt0 : Room := { frames := 2, cells := 0, slots := 0, locals := 41 }
set_option maxRecDepth 100000 in
set_option maxHeartbeats 4000000 in
theorem c_X6_keysAt0 (l : Launch) (E : xE) (ST : xST) (hSF : SF ST) (σ : xW) (r : Int) (c0 : Int) (hv : Bool) (se : Int) (sf : Int) (ll : Int) (op : Int → Int) (lk : Int → Int) (kp : Int → Int) (wc : Int → Int) (pn : Int) (nw : Int) (sh : Int) (wk : Int) (hr0 : mn E σ hv se sf ll) (hr1 : bd E σ 1 op lk kp wc pn nw sh wk) (hB : BI op lk kp wc pn nw) (hr9 : rg r) (hc9 : rg c0) (hok : okC r c0) : CI l E ST yX6_keysAt wsX6_keysAt rm_X6_keysAt0 [.ref (xad E 0), .int (iZ r), .int (iZ c0)] σ (fun (z : Int) (u : xW) => z = cntK kp (r * 5 + c0) 6 ∧ u = σ) := by
  have f0 : σ 0 = oB 4 [.ref (xad E 1), .ref (xad E 7), .ref (xad E 13), .ref (xad E 19), .int (iZ (b2 hv)), .ref (xad E 73), .ref (xad E 75), .ref (xad E 81), .int (iZ se), .int (iZ sf), .ref (xad E 84), .int (iZ ll)] := hr0
  obtain ⟨f1, f2, f3, f4, f5, ro1, f6⟩ := hr1
  refine CI_of (by decide) rfl (Nat.le_of_ble_eq_true rfl) ?_
  intro p e s m args below meth c Q ls G hH hl hQ
  obtain ⟨hx, hb, hml, hown, hts, hK, hST, hlocks, hr, hno⟩ := G
  have hOK := hSF.1
  have hown : s.vm.findClass RX6 = some m.cls := hown
  have hl : lv_has ls 3 [(0, .ref (xad E 0)), (1, .int (iZ r)), (2, .int (iZ c0))] := hl
  have hinX6 : ∀ w ∈ u_ws RX6 TX6 12, w ∈ wsX6_keysAt := fun w h => (List.mem_cons_of_mem _ (List.mem_append_left _ (List.mem_append_left _ (List.mem_append_right _ h))))
  obtain ⟨hop, hlk, hkp, hwc, hpn, hnw⟩ := id hB
  refine lv_aload_n hx hb dX6_keysAt_0 rfl (lv_at hl 0 rfl) ?_
  refine x_get hx hb hts hown hK hH 0 (ltw (by decide)) f0 hinX6 rfl 0 (by decide) (List.mem_of_getElem? (i := 1) rfl) rfl dX6_keysAt_1 ?_
  refine lv_iload_n hx hb dX6_keysAt_4 rfl (lv_at hl 1 rfl) ?_
  refine lv_iload_n hx hb dX6_keysAt_5 rfl (lv_at hl 2 rfl) ?_
  refine x_cSID (As := [.int (iZ r), .int (iZ c0)]) (rest := [.ref (xad E 1)]) hx hb hml hts hown hK hST hOK hH (c_X6_needCell0 l E ST hSF σ r c0  (by omega) (by omega) (by omega)) (va_cwS 2 hts gX6_keysAt_X6_needCell rfl rfl rfl (by decide +kernel) ⟨Nat.le_of_ble_eq_true rfl, Nat.le_of_ble_eq_true rfl⟩) rfl hl.1 rfl (Nat.le_of_ble_eq_true rfl) dX6_keysAt_6 ⟨Nat.le_of_ble_eq_true rfl, Nat.le_of_ble_eq_true rfl⟩ (fun z u h => h) (fun H locs hH => ?_)
  refine x_cVID (As := [.int (iZ (r * 5 + c0))]) (rest := []) hx hb hml hts hown hK hST hOK hH 1 (c_X1_countKeys l E ST hSF σ 1 (r * 5 + c0) op lk kp wc pn nw sh wk ⟨f1, f2, f3, f4, f5, _, f6⟩ (by omega) (by omega) (fun j => by have := hkp j; omega)) (cwV 1 hts gX6_keysAt_X1_countKeys rfl rfl rfl (by decide +kernel) ⟨Nat.le_of_ble_eq_true rfl, Nat.le_of_ble_eq_true rfl⟩) (ltw (by decide)) f1 rfl rfl hl.1 rfl (Nat.le_of_ble_eq_true rfl) dX6_keysAt_9 ⟨Nat.le_of_ble_eq_true rfl, Nat.le_of_ble_eq_true rfl⟩ (fun z u h => h) (fun H locs hH => ?_)
  subst hQ
  exact x_iret hx hb hr hlocks hH (Nat.le_of_ble_eq_true rfl) (Nat.le_of_ble_eq_true rfl) ⟨(show (cntK kp (r * 5 + c0) 6) = (cntK kp (r * 5 + c0) 6) from (by first | rfl | omega | simp_all)), rfl⟩ dX6_keysAt_12

def rm_X6_isConnected0 : Room := { frames := 2, cells := 0, slots := 0, locals := 46 }
set_option maxRecDepth 100000 in
set_option maxHeartbeats 4000000 in
theorem c_X6_isConnected0 (l : Launch) (E : xE) (ST : xST) (hSF : SF ST) (σ : xW) (r : Int) (c0 : Int) (d : Int) (hv : Bool) (se : Int) (sf : Int) (ll : Int) (op : Int → Int) (lk : Int → Int) (kp : Int → Int) (wc : Int → Int) (pn : Int) (nw : Int) (sh : Int) (wk : Int) (hr0 : mn E σ hv se sf ll) (hr1 : bd E σ 1 op lk kp wc pn nw sh wk) (hB : BI op lk kp wc pn nw) (hr9 : rg r) (hc9 : rg c0) (hd9 : rg d) (hok : okC r c0) (hd0 : 0 ≤ d ∧ d < 4) : CI l E ST yX6_isConnected wsX6_isConnected rm_X6_isConnected0 [.ref (xad E 0), .int (iZ r), .int (iZ c0), .int (iZ d)] σ (fun (z : Int) (u : xW) => z = b2 (decide (¬ cnZ op (r * 5 + c0) d = -1)) ∧ u = σ) := by
  have f0 : σ 0 = oB 4 [.ref (xad E 1), .ref (xad E 7), .ref (xad E 13), .ref (xad E 19), .int (iZ (b2 hv)), .ref (xad E 73), .ref (xad E 75), .ref (xad E 81), .int (iZ se), .int (iZ sf), .ref (xad E 84), .int (iZ ll)] := hr0
  obtain ⟨f1, f2, f3, f4, f5, ro1, f6⟩ := hr1
  refine CI_of (by decide) rfl (Nat.le_of_ble_eq_true rfl) ?_
  intro p e s m args below meth c Q ls G hH hl hQ
  obtain ⟨hx, hb, hml, hown, hts, hK, hST, hlocks, hr, hno⟩ := G
  have hOK := hSF.1
  have hown : s.vm.findClass RX6 = some m.cls := hown
  have hl : lv_has ls 5 [(0, .ref (xad E 0)), (1, .int (iZ r)), (2, .int (iZ c0)), (3, .int (iZ d))] := hl
  have hinX6 : ∀ w ∈ u_ws RX6 TX6 12, w ∈ wsX6_isConnected := fun w h => (List.mem_cons_of_mem _ (List.mem_append_left _ (List.mem_append_left _ (List.mem_append_left _ (List.mem_append_right _ h)))))
  obtain ⟨hop, hlk, hkp, hwc, hpn, hnw⟩ := id hB
  refine lv_iload_n hx hb dX6_isConnected_0 rfl (lv_at hl 1 rfl) ?_
  refine lv_iload_n hx hb dX6_isConnected_1 rfl (lv_at hl 2 rfl) ?_
  refine x_cSID (As := [.int (iZ r), .int (iZ c0)]) (rest := []) hx hb hml hts hown hK hST hOK hH (c_X6_needCell0 l E ST hSF σ r c0  (by omega) (by omega) (by omega)) (va_cwS 2 hts gX6_isConnected_X6_needCell rfl rfl rfl (by decide +kernel) ⟨Nat.le_of_ble_eq_true rfl, Nat.le_of_ble_eq_true rfl⟩) rfl hl.1 rfl (Nat.le_of_ble_eq_true rfl) dX6_isConnected_2 ⟨Nat.le_of_ble_eq_true rfl, Nat.le_of_ble_eq_true rfl⟩ (fun z u h => h) (fun H locs hH => ?_)
  refine lv_istore (lv' := [(4, .int (iZ (r * 5 + c0))), (0, .ref (xad E 0)), (1, .int (iZ r)), (2, .int (iZ c0)), (3, .int (iZ d))]) hx hb dX6_isConnected_5 hl (by decide) rfl (fun ls hl => ?_)
  refine lv_iload_n hx hb dX6_isConnected_7 rfl (lv_at hl 4 rfl) ?_
  refine x_if_lt (tgt := 16) hx hb dX6_isConnected_8 (by decide) (by omega) (fun c8 => ?_) (fun c8 => ?_)
  · exfalso; omega
  · refine lv_iload_n hx hb dX6_isConnected_11 rfl (lv_at hl 4 rfl) ?_
    refine x_iconst hx hb dX6_isConnected_12 ?_
    refine x_icmp_lt (tgt := 26) hx hb dX6_isConnected_13 (by decide) (by omega) (by decide) (fun c13 => ?_) (fun c13 => ?_)
    · refine lv_aload_n hx hb dX6_isConnected_26 rfl (lv_at hl 1 rfl) ?_
      refine x_get hx hb hts hown hK hH 0 (ltw (by decide)) f0 hinX6 rfl 0 (by decide) (List.mem_of_getElem? (i := 3) rfl) rfl dX6_isConnected_27 ?_
      refine lv_iload hx hb dX6_isConnected_30 (lv_at hl 0 rfl) ?_
      refine lv_iload_n hx hb dX6_isConnected_32 rfl (lv_at hl 4 rfl) ?_
      refine x_cVID (As := [.int (iZ (r * 5 + c0)), .int (iZ d)]) (rest := []) hx hb hml hts hown hK hST hOK hH 1 (c_X1_connectedNeighbour l E ST hSF σ 1 (r * 5 + c0) d op lk kp wc pn nw sh wk ⟨f1, f2, f3, f4, f5, _, f6⟩ (by omega) (by omega) (by omega) (by omega)) (cwV 2 hts gX6_isConnected_X1_connectedNeighbour rfl rfl rfl (by decide +kernel) ⟨Nat.le_of_ble_eq_true rfl, Nat.le_of_ble_eq_true rfl⟩) (ltw (by decide)) f1 rfl rfl hl.1 rfl (Nat.le_of_ble_eq_true rfl) dX6_isConnected_33 ⟨Nat.le_of_ble_eq_true rfl, Nat.le_of_ble_eq_true rfl⟩ (fun z u h => h) (fun H locs hH => ?_)
      have hcr := cnZ_rg (op := op) (c := r * 5 + c0) (d := d) (by omega) (by omega)
      refine x_iconst hx hb dX6_isConnected_36 ?_
      refine x_icmp_eq (tgt := 44) hx hb dX6_isConnected_37 (by decide) (by omega) (by decide) (fun c37 => ?_) (fun c37 => ?_)
      · refine x_iconst hx hb dX6_isConnected_44 ?_
        subst hQ
        exact x_zret (b := false) hx hb hr hlocks hH (Nat.le_of_ble_eq_true rfl) (Nat.le_of_ble_eq_true rfl) ⟨congrArg b2 (show false = (decide (¬ cnZ op (r * 5 + c0) d = -1)) from (by exact (decide_eq_false (by omega)).symm)), rfl⟩ dX6_isConnected_45
      · refine x_iconst hx hb dX6_isConnected_40 ?_
        refine lv_goto (tgt := 45) hx hb dX6_isConnected_41 (by decide) ?_
        subst hQ
        exact x_zret (b := true) hx hb hr hlocks hH (Nat.le_of_ble_eq_true rfl) (Nat.le_of_ble_eq_true rfl) ⟨congrArg b2 (show true = (decide (¬ cnZ op (r * 5 + c0) d = -1)) from (by exact (decide_eq_true (by omega)).symm)), rfl⟩ dX6_isConnected_45
    · exfalso; omega

def rm_X6_keyRow1 : Room := { frames := 7, cells := 1, slots := 6, locals := 112 }
set_option maxRecDepth 100000 in
set_option maxHeartbeats 4000000 in
theorem c_X6_keyRow1 (l : Launch) (E : xE) (ST : xST) (hSF : SF ST) (htr : l.stackTraces = false) (σ : xW) (k : Int) (hv : Bool) (se : Int) (sf : Int) (ll : Int) (op : Int → Int) (lk : Int → Int) (kp : Int → Int) (wc : Int → Int) (pn : Int) (nw : Int) (sh : Int) (wk : Int) (hr0 : mn E σ hv se sf ll) (hr1 : bd E σ 1 op lk kp wc pn nw sh wk) (hB : BI op lk kp wc pn nw) (hk9 : rg k) (hok : 97 ≤ k ∧ k < 103) : XI l E ST yX6_keyRow wsX6_keyRow rm_X6_keyRow1 [.ref (xad E 0), .int (iZ k)] σ (fun (z : Int) (u : xW) => z = kp (k - 97) / 5 ∧ (0 ≤ kp (k - 97) ∧ kp (k - 97) < 25) ∧ u = σ) (fun (n : String) (u : xW) => ((n = "java/util/NoSuchElementException" ∧ ¬ (0 ≤ kp (k - 97) ∧ kp (k - 97) < 25))) ∧ u = σ) := by
  have f0 : σ 0 = oB 4 [.ref (xad E 1), .ref (xad E 7), .ref (xad E 13), .ref (xad E 19), .int (iZ (b2 hv)), .ref (xad E 73), .ref (xad E 75), .ref (xad E 81), .int (iZ se), .int (iZ sf), .ref (xad E 84), .int (iZ ll)] := hr0
  obtain ⟨f1, f2, f3, f4, f5, ro1, f6⟩ := hr1
  refine XI_of (by decide) rfl (Nat.le_of_ble_eq_true rfl) ?_
  intro p e s m args below meth c Q ls G hH hl hQ
  obtain ⟨hx, hb, hml, hown, hts, hK, hST, hlocks, hr, hno⟩ := G
  have hOK := hSF.1
  have hown : s.vm.findClass RX6 = some m.cls := hown
  have hl : lv_has ls 2 [(0, .ref (xad E 0)), (1, .int (iZ k))] := hl
  obtain ⟨hop, hlk, hkp, hwc, hpn, hnw⟩ := id hB
  refine lv_aload_n hx hb dX6_keyRow_0 rfl (lv_at hl 0 rfl) ?_
  refine lv_iload_n hx hb dX6_keyRow_1 rfl (lv_at hl 1 rfl) ?_
  refine x_cXVIE (As := [.int (iZ k)]) (rest := []) hx hb hml hts hown hK hST hOK hH 0 (c_X6_needKeyCell1 l E ST hSF htr σ k hv se sf ll op lk kp wc pn nw sh wk f0 ⟨f1, f2, f3, f4, f5, _, f6⟩ (by omega) (by omega) (by omega)) (cwV 1 hts gX6_keyRow_X6_needKeyCell rfl rfl rfl (by decide +kernel) ⟨Nat.le_of_ble_eq_true rfl, Nat.le_of_ble_eq_true rfl⟩) (ltw (by decide)) f0 rfl rfl hl.1 rfl (Nat.le_of_ble_eq_true rfl) dX6_keyRow_2 ⟨Nat.le_of_ble_eq_true rfl, Nat.le_of_ble_eq_true rfl⟩ ?_ (fun z u h => h) (fun σ2 H locs hp3 hH => ?_)
  · intro nx ce q9 σ2 H locs hp3 hH hce hcv hcl
    subst hQ
    obtain ⟨hn, hu⟩ := hp3
    rw [hu] at hH
    exact x_out hno hlocks hH hce hcv hcl ⟨(by first | exact hn | simp_all | omega), rfl⟩ (Nat.le_of_ble_eq_true rfl) (Nat.le_of_ble_eq_true rfl)
  · obtain ⟨hf4, hu5⟩ := hp3
    rw [hu5] at hH
    refine x_iconst hx hb dX6_keyRow_5 ?_
    refine x_idiv hx hb dX6_keyRow_6 (by omega) (by omega) (by omega) (by omega) ?_
    subst hQ
    exact x_ireX hx hb hr hlocks hH (Nat.le_of_ble_eq_true rfl) (Nat.le_of_ble_eq_true rfl) ⟨(show ((kp (k - 97)) / 5) = (kp (k - 97) / 5) from (by first | rfl | omega | simp_all)), (by first | assumption | omega | simp_all), rfl⟩ dX6_keyRow_7

def rm_X6_keyColumn0 : Room := { frames := 3, cells := 0, slots := 0, locals := 62 }
set_option maxRecDepth 100000 in
set_option maxHeartbeats 4000000 in
theorem c_X6_keyColumn0 (l : Launch) (E : xE) (ST : xST) (hSF : SF ST) (σ : xW) (k : Int) (hv : Bool) (se : Int) (sf : Int) (ll : Int) (op : Int → Int) (lk : Int → Int) (kp : Int → Int) (wc : Int → Int) (pn : Int) (nw : Int) (sh : Int) (wk : Int) (hr0 : mn E σ hv se sf ll) (hr1 : bd E σ 1 op lk kp wc pn nw sh wk) (hB : BI op lk kp wc pn nw) (hk9 : rg k) (hok : 97 ≤ k ∧ k < 103) (hli : 0 ≤ kp (k - 97) ∧ kp (k - 97) < 25) : CI l E ST yX6_keyColumn wsX6_keyColumn rm_X6_keyColumn0 [.ref (xad E 0), .int (iZ k)] σ (fun (z : Int) (u : xW) => z = kp (k - 97) % 5 ∧ u = σ) := by
  have f0 : σ 0 = oB 4 [.ref (xad E 1), .ref (xad E 7), .ref (xad E 13), .ref (xad E 19), .int (iZ (b2 hv)), .ref (xad E 73), .ref (xad E 75), .ref (xad E 81), .int (iZ se), .int (iZ sf), .ref (xad E 84), .int (iZ ll)] := hr0
  obtain ⟨f1, f2, f3, f4, f5, ro1, f6⟩ := hr1
  refine CI_of (by decide) rfl (Nat.le_of_ble_eq_true rfl) ?_
  intro p e s m args below meth c Q ls G hH hl hQ
  obtain ⟨hx, hb, hml, hown, hts, hK, hST, hlocks, hr, hno⟩ := G
  have hOK := hSF.1
  have hown : s.vm.findClass RX6 = some m.cls := hown
  have hl : lv_has ls 2 [(0, .ref (xad E 0)), (1, .int (iZ k))] := hl
  obtain ⟨hop, hlk, hkp, hwc, hpn, hnw⟩ := id hB
  refine lv_aload_n hx hb dX6_keyColumn_0 rfl (lv_at hl 0 rfl) ?_
  refine lv_iload_n hx hb dX6_keyColumn_1 rfl (lv_at hl 1 rfl) ?_
  refine x_cVID (As := [.int (iZ k)]) (rest := []) hx hb hml hts hown hK hST hOK hH 0 (c_X6_needKeyCell0 l E ST hSF σ k hv se sf ll op lk kp wc pn nw sh wk f0 ⟨f1, f2, f3, f4, f5, _, f6⟩ (by omega) (by omega) (by omega) (by omega)) (cwV 1 hts gX6_keyColumn_X6_needKeyCell rfl rfl rfl (by decide +kernel) ⟨Nat.le_of_ble_eq_true rfl, Nat.le_of_ble_eq_true rfl⟩) (ltw (by decide)) f0 rfl rfl hl.1 rfl (Nat.le_of_ble_eq_true rfl) dX6_keyColumn_2 ⟨Nat.le_of_ble_eq_true rfl, Nat.le_of_ble_eq_true rfl⟩ (fun z u h => h) (fun H locs hH => ?_)
  refine x_iconst hx hb dX6_keyColumn_5 ?_
  refine x_irem hx hb dX6_keyColumn_6 (by omega) (by omega) (by omega) (by omega) ?_
  subst hQ
  exact x_iret hx hb hr hlocks hH (Nat.le_of_ble_eq_true rfl) (Nat.le_of_ble_eq_true rfl) ⟨(show ((kp (k - 97)) % 5) = (kp (k - 97) % 5) from (by first | rfl | omega | simp_all)), rfl⟩ dX6_keyColumn_7

def rm_X6_carrierOf1 : Room := { frames := 6, cells := 1, slots := 6, locals := 90 }
set_option maxRecDepth 100000 in
set_option maxHeartbeats 4000000 in
theorem c_X6_carrierOf1 (l : Launch) (E : xE) (ST : xST) (hSF : SF ST) (htr : l.stackTraces = false) (σ : xW) (k : Int) (hv : Bool) (se : Int) (sf : Int) (ll : Int) (op : Int → Int) (lk : Int → Int) (kp : Int → Int) (wc : Int → Int) (pn : Int) (nw : Int) (sh : Int) (wk : Int) (hr0 : mn E σ hv se sf ll) (hr1 : bd E σ 1 op lk kp wc pn nw sh wk) (hB : BI op lk kp wc pn nw) (hk9 : rg k) (hok : 97 ≤ k ∧ k < 103) : XI l E ST yX6_carrierOf wsX6_carrierOf rm_X6_carrierOf1 [.ref (xad E 0), .int (iZ k)] σ (fun (z : Int) (u : xW) => z = kp (k - 97) - 25 ∧ (25 ≤ kp (k - 97)) ∧ u = σ) (fun (n : String) (u : xW) => ((n = "java/util/NoSuchElementException" ∧ kp (k - 97) < 25)) ∧ u = σ) := by
  have f0 : σ 0 = oB 4 [.ref (xad E 1), .ref (xad E 7), .ref (xad E 13), .ref (xad E 19), .int (iZ (b2 hv)), .ref (xad E 73), .ref (xad E 75), .ref (xad E 81), .int (iZ se), .int (iZ sf), .ref (xad E 84), .int (iZ ll)] := hr0
  obtain ⟨f1, f2, f3, f4, f5, ro1, f6⟩ := hr1
  refine XI_of (by decide) rfl (Nat.le_of_ble_eq_true rfl) ?_
  intro p e s m args below meth c Q ls G hH hl hQ
  obtain ⟨hx, hb, hml, hown, hts, hK, hST, hlocks, hr, hno⟩ := G
  have hOK := hSF.1
  have hown : s.vm.findClass RX6 = some m.cls := hown
  have hl : lv_has ls 3 [(0, .ref (xad E 0)), (1, .int (iZ k))] := hl
  have hinX1 : ∀ w ∈ u_ws RX1 TX1 9, w ∈ wsX6_carrierOf := fun w h => (List.mem_cons_of_mem _ (List.mem_append_left _ (List.mem_append_left _ (List.mem_append_right _ h))))
  have hinX6 : ∀ w ∈ u_ws RX6 TX6 12, w ∈ wsX6_carrierOf := fun w h => (List.mem_cons_of_mem _ (List.mem_append_left _ (List.mem_append_left _ (List.mem_append_left _ (List.mem_append_right _ h)))))
  obtain ⟨hop, hlk, hkp, hwc, hpn, hnw⟩ := id hB
  refine lv_aload_n hx hb dX6_carrierOf_0 rfl (lv_at hl 0 rfl) ?_
  refine x_get hx hb hts hown hK hH 0 (ltw (by decide)) f0 hinX6 rfl 0 (by decide) (List.mem_of_getElem? (i := 3) rfl) rfl dX6_carrierOf_1 ?_
  refine x_get hx hb hts hown hK hH 1 (ltw (by decide)) f1 hinX1 rfl 2 (by decide) (List.mem_of_getElem? (i := 4) rfl) rfl dX6_carrierOf_4 ?_
  refine lv_iload_n hx hb dX6_carrierOf_7 rfl (lv_at hl 1 rfl) ?_
  refine x_cSID (As := [.int (iZ k)]) (rest := [.ref (xad E 4)]) hx hb hml hts hown hK hST hOK hH (c_X6_needKey0 l E ST hSF σ k  (by omega) (by omega)) (va_cwS 1 hts gX6_carrierOf_X6_needKey rfl rfl rfl (by decide +kernel) ⟨Nat.le_of_ble_eq_true rfl, Nat.le_of_ble_eq_true rfl⟩) rfl hl.1 rfl (Nat.le_of_ble_eq_true rfl) dX6_carrierOf_8 ⟨Nat.le_of_ble_eq_true rfl, Nat.le_of_ble_eq_true rfl⟩ (fun z u h => h) (fun H locs hH => ?_)
  refine x_iald hx hb hK hH 4 (ltw (by decide)) f4 (by omega) (by omega) (by omega) dX6_carrierOf_11 ?_
  have hv4 := hkp (k - 97)
  refine lv_istore_n (lv' := [(2, .int (iZ (kp (k - 97)))), (0, .ref (xad E 0)), (1, .int (iZ k))]) hx hb dX6_carrierOf_12 rfl hl (by decide) rfl (fun ls hl => ?_)
  refine lv_iload_n hx hb dX6_carrierOf_13 rfl (lv_at hl 0 rfl) ?_
  refine x_bipush hx hb dX6_carrierOf_14 (by decide) ?_
  refine x_icmp_ge (tgt := 29) hx hb dX6_carrierOf_16 (by decide) (by omega) (by decide) (fun c16 => ?_) (fun c16 => ?_)
  · refine lv_iload_n hx hb dX6_carrierOf_29 rfl (lv_at hl 0 rfl) ?_
    refine x_bipush hx hb dX6_carrierOf_30 (by decide) ?_
    refine x_isub hx hb dX6_carrierOf_32 ?_
    subst hQ
    exact x_ireX hx hb hr hlocks hH (Nat.le_of_ble_eq_true rfl) (Nat.le_of_ble_eq_true rfl) ⟨(show ((kp (k - 97)) - 25) = (kp (k - 97) - 25) from (by first | rfl | omega | simp_all)), (by first | assumption | omega | simp_all), rfl⟩ dX6_carrierOf_33
  · subst hQ
    exact x_throwSN (text := "no walker carries the key") hx hb hml htr hts hown hST hSF hno hlocks hH xExc_4 (List.mem_of_getElem? (i := 1) rfl) (List.mem_of_getElem? (i := 2) rfl) (fun w h => (List.mem_cons_of_mem _ (List.mem_append_left _ (List.mem_append_right _ h)))) (List.mem_of_getElem? (i := 13) rfl) hl.1 dX6_carrierOf_19 dX6_carrierOf_22 dX6_carrierOf_23 dX6_carrierOf_25 dX6_carrierOf_28 (Nat.le_of_ble_eq_true rfl) (Nat.le_of_ble_eq_true rfl) (Nat.le_of_ble_eq_true rfl) (Nat.le_of_ble_eq_true rfl) ⟨⟨rfl, (by first | omega | simp_all)⟩, rfl⟩ (Nat.le_of_ble_eq_true rfl) (Nat.le_of_ble_eq_true rfl)

def rm_X6_walkerRow0 : Room := { frames := 2, cells := 0, slots := 0, locals := 42 }
set_option maxRecDepth 100000 in
set_option maxHeartbeats 4000000 in
theorem c_X6_walkerRow0 (l : Launch) (E : xE) (ST : xST) (hSF : SF ST) (σ : xW) (w : Int) (hv : Bool) (se : Int) (sf : Int) (ll : Int) (op : Int → Int) (lk : Int → Int) (kp : Int → Int) (wc : Int → Int) (pn : Int) (nw : Int) (sh : Int) (wk : Int) (hr0 : mn E σ hv se sf ll) (hr1 : bd E σ 1 op lk kp wc pn nw sh wk) (hB : BI op lk kp wc pn nw) (hw9 : rg w) (hok : 0 ≤ w ∧ w < nw) : CI l E ST yX6_walkerRow wsX6_walkerRow rm_X6_walkerRow0 [.ref (xad E 0), .int (iZ w)] σ (fun (z : Int) (u : xW) => z = wc w / 5 ∧ u = σ) := by
  have f0 : σ 0 = oB 4 [.ref (xad E 1), .ref (xad E 7), .ref (xad E 13), .ref (xad E 19), .int (iZ (b2 hv)), .ref (xad E 73), .ref (xad E 75), .ref (xad E 81), .int (iZ se), .int (iZ sf), .ref (xad E 84), .int (iZ ll)] := hr0
  obtain ⟨f1, f2, f3, f4, f5, ro1, f6⟩ := hr1
  refine CI_of (by decide) rfl (Nat.le_of_ble_eq_true rfl) ?_
  intro p e s m args below meth c Q ls G hH hl hQ
  obtain ⟨hx, hb, hml, hown, hts, hK, hST, hlocks, hr, hno⟩ := G
  have hOK := hSF.1
  have hown : s.vm.findClass RX6 = some m.cls := hown
  have hl : lv_has ls 2 [(0, .ref (xad E 0)), (1, .int (iZ w))] := hl
  have hinX1 : ∀ w ∈ u_ws RX1 TX1 9, w ∈ wsX6_walkerRow := fun w h => (List.mem_cons_of_mem _ (List.mem_append_left _ (List.mem_append_right _ h)))
  have hinX6 : ∀ w ∈ u_ws RX6 TX6 12, w ∈ wsX6_walkerRow := fun w h => (List.mem_cons_of_mem _ (List.mem_append_left _ (List.mem_append_left _ (List.mem_append_right _ h))))
  obtain ⟨hop, hlk, hkp, hwc, hpn, hnw⟩ := id hB
  refine lv_aload_n hx hb dX6_walkerRow_0 rfl (lv_at hl 0 rfl) ?_
  refine x_get hx hb hts hown hK hH 0 (ltw (by decide)) f0 hinX6 rfl 0 (by decide) (List.mem_of_getElem? (i := 1) rfl) rfl dX6_walkerRow_1 ?_
  refine x_get hx hb hts hown hK hH 1 (ltw (by decide)) f1 hinX1 rfl 3 (by decide) (List.mem_of_getElem? (i := 2) rfl) rfl dX6_walkerRow_4 ?_
  refine lv_aload_n hx hb dX6_walkerRow_7 rfl (lv_at hl 0 rfl) ?_
  refine lv_iload_n hx hb dX6_walkerRow_8 rfl (lv_at hl 1 rfl) ?_
  refine x_cVID (As := [.int (iZ w)]) (rest := [.ref (xad E 5)]) hx hb hml hts hown hK hST hOK hH 0 (c_X6_needWalker0 l E ST hSF σ w hv se sf ll op lk kp wc pn nw sh wk f0 ⟨f1, f2, f3, f4, f5, _, f6⟩ (by omega) (by omega) (by omega)) (cwV 1 hts gX6_walkerRow_X6_needWalker rfl rfl rfl (by decide +kernel) ⟨Nat.le_of_ble_eq_true rfl, Nat.le_of_ble_eq_true rfl⟩) (ltw (by decide)) f0 rfl rfl hl.1 rfl (Nat.le_of_ble_eq_true rfl) dX6_walkerRow_9 ⟨Nat.le_of_ble_eq_true rfl, Nat.le_of_ble_eq_true rfl⟩ (fun z u h => h) (fun H locs hH => ?_)
  refine x_iald hx hb hK hH 5 (ltw (by decide)) f5 (by omega) (by omega) (by omega) dX6_walkerRow_12 ?_
  have hv4 := hwc w
  refine x_iconst hx hb dX6_walkerRow_13 ?_
  refine x_idiv hx hb dX6_walkerRow_14 (by omega) (by omega) (by omega) (by omega) ?_
  subst hQ
  exact x_iret hx hb hr hlocks hH (Nat.le_of_ble_eq_true rfl) (Nat.le_of_ble_eq_true rfl) ⟨(show ((wc w) / 5) = (wc w / 5) from (by first | rfl | omega | simp_all)), rfl⟩ dX6_walkerRow_15

def rm_X6_walkerColumn0 : Room := { frames := 2, cells := 0, slots := 0, locals := 42 }
set_option maxRecDepth 100000 in
set_option maxHeartbeats 4000000 in
theorem c_X6_walkerColumn0 (l : Launch) (E : xE) (ST : xST) (hSF : SF ST) (σ : xW) (w : Int) (hv : Bool) (se : Int) (sf : Int) (ll : Int) (op : Int → Int) (lk : Int → Int) (kp : Int → Int) (wc : Int → Int) (pn : Int) (nw : Int) (sh : Int) (wk : Int) (hr0 : mn E σ hv se sf ll) (hr1 : bd E σ 1 op lk kp wc pn nw sh wk) (hB : BI op lk kp wc pn nw) (hw9 : rg w) (hok : 0 ≤ w ∧ w < nw) : CI l E ST yX6_walkerColumn wsX6_walkerColumn rm_X6_walkerColumn0 [.ref (xad E 0), .int (iZ w)] σ (fun (z : Int) (u : xW) => z = wc w % 5 ∧ u = σ) := by
  have f0 : σ 0 = oB 4 [.ref (xad E 1), .ref (xad E 7), .ref (xad E 13), .ref (xad E 19), .int (iZ (b2 hv)), .ref (xad E 73), .ref (xad E 75), .ref (xad E 81), .int (iZ se), .int (iZ sf), .ref (xad E 84), .int (iZ ll)] := hr0
  obtain ⟨f1, f2, f3, f4, f5, ro1, f6⟩ := hr1
  refine CI_of (by decide) rfl (Nat.le_of_ble_eq_true rfl) ?_
  intro p e s m args below meth c Q ls G hH hl hQ
  obtain ⟨hx, hb, hml, hown, hts, hK, hST, hlocks, hr, hno⟩ := G
  have hOK := hSF.1
  have hown : s.vm.findClass RX6 = some m.cls := hown
  have hl : lv_has ls 2 [(0, .ref (xad E 0)), (1, .int (iZ w))] := hl
  have hinX1 : ∀ w ∈ u_ws RX1 TX1 9, w ∈ wsX6_walkerColumn := fun w h => (List.mem_cons_of_mem _ (List.mem_append_left _ (List.mem_append_right _ h)))
  have hinX6 : ∀ w ∈ u_ws RX6 TX6 12, w ∈ wsX6_walkerColumn := fun w h => (List.mem_cons_of_mem _ (List.mem_append_left _ (List.mem_append_left _ (List.mem_append_right _ h))))
  obtain ⟨hop, hlk, hkp, hwc, hpn, hnw⟩ := id hB
  refine lv_aload_n hx hb dX6_walkerColumn_0 rfl (lv_at hl 0 rfl) ?_
  refine x_get hx hb hts hown hK hH 0 (ltw (by decide)) f0 hinX6 rfl 0 (by decide) (List.mem_of_getElem? (i := 1) rfl) rfl dX6_walkerColumn_1 ?_
  refine x_get hx hb hts hown hK hH 1 (ltw (by decide)) f1 hinX1 rfl 3 (by decide) (List.mem_of_getElem? (i := 2) rfl) rfl dX6_walkerColumn_4 ?_
  refine lv_aload_n hx hb dX6_walkerColumn_7 rfl (lv_at hl 0 rfl) ?_
  refine lv_iload_n hx hb dX6_walkerColumn_8 rfl (lv_at hl 1 rfl) ?_
  refine x_cVID (As := [.int (iZ w)]) (rest := [.ref (xad E 5)]) hx hb hml hts hown hK hST hOK hH 0 (c_X6_needWalker0 l E ST hSF σ w hv se sf ll op lk kp wc pn nw sh wk f0 ⟨f1, f2, f3, f4, f5, _, f6⟩ (by omega) (by omega) (by omega)) (cwV 1 hts gX6_walkerColumn_X6_needWalker rfl rfl rfl (by decide +kernel) ⟨Nat.le_of_ble_eq_true rfl, Nat.le_of_ble_eq_true rfl⟩) (ltw (by decide)) f0 rfl rfl hl.1 rfl (Nat.le_of_ble_eq_true rfl) dX6_walkerColumn_9 ⟨Nat.le_of_ble_eq_true rfl, Nat.le_of_ble_eq_true rfl⟩ (fun z u h => h) (fun H locs hH => ?_)
  refine x_iald hx hb hK hH 5 (ltw (by decide)) f5 (by omega) (by omega) (by omega) dX6_walkerColumn_12 ?_
  have hv4 := hwc w
  refine x_iconst hx hb dX6_walkerColumn_13 ?_
  refine x_irem hx hb dX6_walkerColumn_14 (by omega) (by omega) (by omega) (by omega) ?_
  subst hQ
  exact x_iret hx hb hr hlocks hH (Nat.le_of_ble_eq_true rfl) (Nat.le_of_ble_eq_true rfl) ⟨(show ((wc w) % 5) = (wc w % 5) from (by first | rfl | omega | simp_all)), rfl⟩ dX6_walkerColumn_15

def rm_X6_keysOf0 : Room := { frames := 2, cells := 0, slots := 0, locals := 42 }
set_option maxRecDepth 100000 in
set_option maxHeartbeats 4000000 in
theorem c_X6_keysOf0 (l : Launch) (E : xE) (ST : xST) (hSF : SF ST) (σ : xW) (w : Int) (hv : Bool) (se : Int) (sf : Int) (ll : Int) (op : Int → Int) (lk : Int → Int) (kp : Int → Int) (wc : Int → Int) (pn : Int) (nw : Int) (sh : Int) (wk : Int) (hr0 : mn E σ hv se sf ll) (hr1 : bd E σ 1 op lk kp wc pn nw sh wk) (hB : BI op lk kp wc pn nw) (hw9 : rg w) (hok : 0 ≤ w ∧ w < nw) : CI l E ST yX6_keysOf wsX6_keysOf rm_X6_keysOf0 [.ref (xad E 0), .int (iZ w)] σ (fun (z : Int) (u : xW) => z = cntK kp (25 + w) 6 ∧ u = σ) := by
  have f0 : σ 0 = oB 4 [.ref (xad E 1), .ref (xad E 7), .ref (xad E 13), .ref (xad E 19), .int (iZ (b2 hv)), .ref (xad E 73), .ref (xad E 75), .ref (xad E 81), .int (iZ se), .int (iZ sf), .ref (xad E 84), .int (iZ ll)] := hr0
  obtain ⟨f1, f2, f3, f4, f5, ro1, f6⟩ := hr1
  refine CI_of (by decide) rfl (Nat.le_of_ble_eq_true rfl) ?_
  intro p e s m args below meth c Q ls G hH hl hQ
  obtain ⟨hx, hb, hml, hown, hts, hK, hST, hlocks, hr, hno⟩ := G
  have hOK := hSF.1
  have hown : s.vm.findClass RX6 = some m.cls := hown
  have hl : lv_has ls 2 [(0, .ref (xad E 0)), (1, .int (iZ w))] := hl
  have hinX6 : ∀ w ∈ u_ws RX6 TX6 12, w ∈ wsX6_keysOf := fun w h => (List.mem_cons_of_mem _ (List.mem_append_left _ (List.mem_append_left _ (List.mem_append_right _ h))))
  obtain ⟨hop, hlk, hkp, hwc, hpn, hnw⟩ := id hB
  refine lv_aload_n hx hb dX6_keysOf_0 rfl (lv_at hl 0 rfl) ?_
  refine x_get hx hb hts hown hK hH 0 (ltw (by decide)) f0 hinX6 rfl 0 (by decide) (List.mem_of_getElem? (i := 1) rfl) rfl dX6_keysOf_1 ?_
  refine x_bipush hx hb dX6_keysOf_4 (by decide) ?_
  refine lv_aload_n hx hb dX6_keysOf_6 rfl (lv_at hl 0 rfl) ?_
  refine lv_iload_n hx hb dX6_keysOf_7 rfl (lv_at hl 1 rfl) ?_
  refine x_cVID (As := [.int (iZ w)]) (rest := [.int (iZ 25), .ref (xad E 1)]) hx hb hml hts hown hK hST hOK hH 0 (c_X6_needWalker0 l E ST hSF σ w hv se sf ll op lk kp wc pn nw sh wk f0 ⟨f1, f2, f3, f4, f5, _, f6⟩ (by omega) (by omega) (by omega)) (cwV 1 hts gX6_keysOf_X6_needWalker rfl rfl rfl (by decide +kernel) ⟨Nat.le_of_ble_eq_true rfl, Nat.le_of_ble_eq_true rfl⟩) (ltw (by decide)) f0 rfl rfl hl.1 rfl (Nat.le_of_ble_eq_true rfl) dX6_keysOf_8 ⟨Nat.le_of_ble_eq_true rfl, Nat.le_of_ble_eq_true rfl⟩ (fun z u h => h) (fun H locs hH => ?_)
  refine x_iadd hx hb dX6_keysOf_11 ?_
  refine x_cVID (As := [.int (iZ (25 + w))]) (rest := []) hx hb hml hts hown hK hST hOK hH 1 (c_X1_countKeys l E ST hSF σ 1 (25 + w) op lk kp wc pn nw sh wk ⟨f1, f2, f3, f4, f5, _, f6⟩ (by omega) (by omega) (fun j => by have := hkp j; omega)) (cwV 1 hts gX6_keysOf_X1_countKeys rfl rfl rfl (by decide +kernel) ⟨Nat.le_of_ble_eq_true rfl, Nat.le_of_ble_eq_true rfl⟩) (ltw (by decide)) f1 rfl rfl hl.1 rfl (Nat.le_of_ble_eq_true rfl) dX6_keysOf_12 ⟨Nat.le_of_ble_eq_true rfl, Nat.le_of_ble_eq_true rfl⟩ (fun z u h => h) (fun H locs hH => ?_)
  subst hQ
  exact x_iret hx hb hr hlocks hH (Nat.le_of_ble_eq_true rfl) (Nat.le_of_ble_eq_true rfl) ⟨(show (cntK kp (25 + w) 6) = (cntK kp (25 + w) 6) from (by first | rfl | omega | simp_all)), rfl⟩ dX6_keysOf_15

def rm_X6_pathLength1 : Room := { frames := 7, cells := 1, slots := 6, locals := 110 }
set_option maxRecDepth 100000 in
set_option maxHeartbeats 4000000 in
theorem c_X6_pathLength1 (l : Launch) (E : xE) (ST : xST) (hSF : SF ST) (htr : l.stackTraces = false) (σ : xW) (w : Int) (r : Int) (c0 : Int) (hv : Bool) (se : Int) (sf : Int) (ll : Int) (op : Int → Int) (lk : Int → Int) (kp : Int → Int) (wc : Int → Int) (pn : Int) (nw : Int) (sh : Int) (wk : Int) (le : Int → Int) (rl : Int → Int) (fs : Int → Int) (qu : Int → Int) (gr : Int → Int) (hr0 : mn E σ hv se sf ll) (hr1 : bd E σ 1 op lk kp wc pn nw sh wk) (hr2 : sr E σ le rl fs qu gr) (hB : BI op lk kp wc pn nw) (hr9 : rg r) (hc9 : rg c0) (hw9 : rg w) (hok : 0 ≤ w ∧ w < nw) (hok2 : okC r c0) : XI l E ST yX6_pathLength wsX6_pathLength rm_X6_pathLength1 [.ref (xad E 0), .int (iZ w), .int (iZ r), .int (iZ c0)] σ (fun (z : Int) (u : xW) => z = dz (Gw op lk kp w) (wc w) (r * 5 + c0) ∧ (∃ (le1 rl1 fs1 qu1 gr1 : Int → Int), mn E u hv se sf ll ∧ bd E u 1 op lk kp wc pn nw sh wk ∧ sr E u le1 rl1 fs1 qu1 gr1 ∧ (dz (Gw op lk kp w) (wc w) (r * 5 + c0) < 25)) ∧ ∀ j : Nat, (j < 75 ∨ 75 + 6 ≤ j) → u j = σ j) (fun (n : String) (u : xW) => ((n = "java/util/NoSuchElementException" ∧ 25 ≤ dz (Gw op lk kp w) (wc w) (r * 5 + c0))) ∧ (∃ (le1 rl1 fs1 qu1 gr1 : Int → Int), mn E u hv se sf ll ∧ bd E u 1 op lk kp wc pn nw sh wk ∧ sr E u le1 rl1 fs1 qu1 gr1) ∧ ∀ j : Nat, (j < 75 ∨ 75 + 6 ≤ j) → u j = σ j) := by
  have f0 : σ 0 = oB 4 [.ref (xad E 1), .ref (xad E 7), .ref (xad E 13), .ref (xad E 19), .int (iZ (b2 hv)), .ref (xad E 73), .ref (xad E 75), .ref (xad E 81), .int (iZ se), .int (iZ sf), .ref (xad E 84), .int (iZ ll)] := hr0
  obtain ⟨f1, f2, f3, f4, f5, ro1, f6⟩ := hr1
  obtain ⟨f75, f76, f77, f78, f79, f80⟩ := hr2
  refine XI_of (by decide) rfl (Nat.le_of_ble_eq_true rfl) ?_
  intro p e s m args below meth c Q ls G hH hl hQ
  obtain ⟨hx, hb, hml, hown, hts, hK, hST, hlocks, hr, hno⟩ := G
  have hOK := hSF.1
  have hown : s.vm.findClass RX6 = some m.cls := hown
  have hl : lv_has ls 5 [(0, .ref (xad E 0)), (1, .int (iZ w)), (2, .int (iZ r)), (3, .int (iZ c0))] := hl
  have hinX5 : ∀ w ∈ u_ws RX5 TX5 5, w ∈ wsX6_pathLength := fun w h => (List.mem_cons_of_mem _ (List.mem_append_left _ (List.mem_append_left _ (List.mem_append_left _ (List.mem_append_right _ h)))))
  have hinX6 : ∀ w ∈ u_ws RX6 TX6 12, w ∈ wsX6_pathLength := fun w h => (List.mem_cons_of_mem _ (List.mem_append_left _ (List.mem_append_left _ (List.mem_append_left _ (List.mem_append_left _ (List.mem_append_right _ h))))))
  obtain ⟨hop, hlk, hkp, hwc, hpn, hnw⟩ := id hB
  have hdr := dz_rg (G := Gw op lk kp w) (st := wc w) Gw_ok (hwc w)
  refine lv_aload_n hx hb dX6_pathLength_0 rfl (lv_at hl 0 rfl) ?_
  refine lv_iload_n hx hb dX6_pathLength_1 rfl (lv_at hl 1 rfl) ?_
  refine x_cVID (As := [.int (iZ w)]) (rest := []) hx hb hml hts hown hK hST hOK hH 0 (c_X6_needWalker0 l E ST hSF σ w hv se sf ll op lk kp wc pn nw sh wk f0 ⟨f1, f2, f3, f4, f5, _, f6⟩ (by omega) (by omega) (by omega)) (cwV 1 hts gX6_pathLength_X6_needWalker rfl rfl rfl (by decide +kernel) ⟨Nat.le_of_ble_eq_true rfl, Nat.le_of_ble_eq_true rfl⟩) (ltw (by decide)) f0 rfl rfl hl.1 rfl (Nat.le_of_ble_eq_true rfl) dX6_pathLength_2 ⟨Nat.le_of_ble_eq_true rfl, Nat.le_of_ble_eq_true rfl⟩ (fun z u h => h) (fun H locs hH => ?_)
  refine lv_pop hx hb dX6_pathLength_5 rfl ?_
  refine lv_iload_n hx hb dX6_pathLength_6 rfl (lv_at hl 2 rfl) ?_
  refine lv_iload_n hx hb dX6_pathLength_7 rfl (lv_at hl 3 rfl) ?_
  refine x_cSID (As := [.int (iZ r), .int (iZ c0)]) (rest := []) hx hb hml hts hown hK hST hOK hH (c_X6_needCell0 l E ST hSF σ r c0  (by omega) (by omega) (by omega)) (va_cwS 2 hts gX6_pathLength_X6_needCell rfl rfl rfl (by decide +kernel) ⟨Nat.le_of_ble_eq_true rfl, Nat.le_of_ble_eq_true rfl⟩) rfl hl.1 rfl (Nat.le_of_ble_eq_true rfl) dX6_pathLength_8 ⟨Nat.le_of_ble_eq_true rfl, Nat.le_of_ble_eq_true rfl⟩ (fun z u h => h) (fun H locs hH => ?_)
  refine lv_istore (lv' := [(4, .int (iZ (r * 5 + c0))), (0, .ref (xad E 0)), (1, .int (iZ w)), (2, .int (iZ r)), (3, .int (iZ c0))]) hx hb dX6_pathLength_11 hl (by decide) rfl (fun ls hl => ?_)
  refine lv_aload_n hx hb dX6_pathLength_13 rfl (lv_at hl 1 rfl) ?_
  refine x_get hx hb hts hown hK hH 0 (ltw (by decide)) f0 hinX6 rfl 6 (by decide) (List.mem_of_getElem? (i := 1) rfl) rfl dX6_pathLength_14 ?_
  refine lv_aload_n hx hb dX6_pathLength_17 rfl (lv_at hl 1 rfl) ?_
  refine x_get hx hb hts hown hK hH 0 (ltw (by decide)) f0 hinX6 rfl 0 (by decide) (List.mem_of_getElem? (i := 2) rfl) rfl dX6_pathLength_18 ?_
  refine lv_iload_n hx hb dX6_pathLength_21 rfl (lv_at hl 2 rfl) ?_
  refine x_cVV (As := [.ref (xad E 1), .int (iZ w)]) (rest := []) hx hb hml hts hown hK hST hOK hH 75 (c_X5_findPaths l E ST hSF σ 1 w op lk kp wc pn nw sh wk le rl fs qu gr ⟨f1, f2, f3, f4, f5, _, f6⟩ ⟨f75, f76, f77, f78, f79, f80⟩ (by omega) (by omega) (by omega)) (cwV 2 hts gX6_pathLength_X5_findPaths rfl rfl rfl (by decide +kernel) ⟨Nat.le_of_ble_eq_true rfl, Nat.le_of_ble_eq_true rfl⟩) (ltw (by decide)) f75 rfl rfl hl.1 rfl (Nat.le_of_ble_eq_true rfl) dX6_pathLength_22 ⟨Nat.le_of_ble_eq_true rfl, Nat.le_of_ble_eq_true rfl⟩ (fun σ8 H locs hp9 hH => ?_)
  obtain ⟨⟨fs1_11, qu1_12, ⟨f75, f76, f77, f78, f79, f80⟩, hf13⟩, fr10⟩ := hp9
  have f0 : σ8 0 = oB 4 [.ref (xad E 1), .ref (xad E 7), .ref (xad E 13), .ref (xad E 19), .int (iZ (b2 hv)), .ref (xad E 73), .ref (xad E 75), .ref (xad E 81), .int (iZ se), .int (iZ sf), .ref (xad E 84), .int (iZ ll)] := (fr10 0 (by omega) (by omega) (by omega)).trans f0
  have f1 : σ8 1 = oB 0 [.ref (xad E 2), .ref (xad E 3), .ref (xad E 4), .ref (xad E 5), .ref (xad E 6), .int (iZ pn), .int (iZ nw), .int (iZ sh), .long (lZ wk)] := (fr10 1 (by omega) (by omega) (by omega)).trans f1
  have f2 : σ8 2 = aI E 25 op := (fr10 2 (by omega) (by omega) (by omega)).trans f2
  have f3 : σ8 3 = aI E 25 lk := (fr10 3 (by omega) (by omega) (by omega)).trans f3
  have f4 : σ8 4 = aI E 6 kp := (fr10 4 (by omega) (by omega) (by omega)).trans f4
  have f5 : σ8 5 = aI E 3 wc := (fr10 5 (by omega) (by omega) (by omega)).trans f5
  have f6 : σ8 6 = aI E 5 ro1 := (fr10 6 (by omega) (by omega) (by omega)).trans f6
  refine lv_aload_n hx hb dX6_pathLength_25 rfl (lv_at hl 1 rfl) ?_
  refine x_get hx hb hts hown hK hH 0 (ltw (by decide)) f0 hinX6 rfl 6 (by decide) (List.mem_of_getElem? (i := 1) rfl) rfl dX6_pathLength_26 ?_
  refine x_get hx hb hts hown hK hH 75 (ltw (by decide)) f75 hinX5 rfl 0 (by decide) (List.mem_of_getElem? (i := 3) rfl) rfl dX6_pathLength_29 ?_
  refine lv_iload hx hb dX6_pathLength_32 (lv_at hl 0 rfl) ?_
  refine x_iald hx hb hK hH 76 (ltw (by decide)) f76 (by omega) (by omega) (by omega) dX6_pathLength_34 ?_
  have hv15 := hdr (r * 5 + c0)
  refine x_cXSIE (As := [.int (iZ ((dz (Gw op lk kp w) (wc w)) (r * 5 + c0)))]) (rest := []) hx hb hml hts hown hK hST hOK hH (c_X6_needPath l E ST hSF htr σ8 ((dz (Gw op lk kp w) (wc w)) (r * 5 + c0))  (by omega)) (va_cwS 1 hts gX6_pathLength_X6_needPath rfl rfl rfl (by decide +kernel) ⟨Nat.le_of_ble_eq_true rfl, Nat.le_of_ble_eq_true rfl⟩) rfl hl.1 rfl (Nat.le_of_ble_eq_true rfl) dX6_pathLength_35 ⟨Nat.le_of_ble_eq_true rfl, Nat.le_of_ble_eq_true rfl⟩ ?_ (fun z u h => h) (fun σ17 H locs hp18 hH => ?_)
  · intro nx ce q9 σ17 H locs hp18 hH hce hcv hcl
    subst hQ
    obtain ⟨hn, hu⟩ := hp18
    rw [hu] at hH
    exact x_out hno hlocks hH hce hcv hcl ⟨(by simp_all <;> omega), ⟨(dz (Gw op lk kp w) (wc w)), rl, fs1_11, qu1_12, gr, f0, ⟨f1, f2, f3, f4, f5, _, f6⟩, ⟨f75, f76, f77, f78, f79, f80⟩⟩, fun j hj0 => (fr10 j (by omega) (by omega) (by omega))⟩ (Nat.le_of_ble_eq_true rfl) (Nat.le_of_ble_eq_true rfl)
  · obtain ⟨hf19, hu20⟩ := hp18
    rw [hu20] at hH
    subst hQ
    exact x_ireX hx hb hr hlocks hH (Nat.le_of_ble_eq_true rfl) (Nat.le_of_ble_eq_true rfl) ⟨(show ((dz (Gw op lk kp w) (wc w)) (r * 5 + c0)) = (dz (Gw op lk kp w) (wc w) (r * 5 + c0)) from (by first | rfl | omega | simp_all)), ⟨(dz (Gw op lk kp w) (wc w)), rl, fs1_11, qu1_12, gr, f0, ⟨f1, f2, f3, f4, f5, _, f6⟩, ⟨f75, f76, f77, f78, f79, f80⟩, (by first | assumption | omega | simp_all)⟩, fun j hj0 => (fr10 j (by omega) (by omega) (by omega))⟩ dX6_pathLength_38

def rm_X6_pathLengthByRounds1 : Room := { frames := 7, cells := 1, slots := 6, locals := 110 }
set_option maxRecDepth 100000 in
set_option maxHeartbeats 4000000 in
theorem c_X6_pathLengthByRounds1 (l : Launch) (E : xE) (ST : xST) (hSF : SF ST) (htr : l.stackTraces = false) (σ : xW) (w : Int) (r : Int) (c0 : Int) (hv : Bool) (se : Int) (sf : Int) (ll : Int) (op : Int → Int) (lk : Int → Int) (kp : Int → Int) (wc : Int → Int) (pn : Int) (nw : Int) (sh : Int) (wk : Int) (le : Int → Int) (rl : Int → Int) (fs : Int → Int) (qu : Int → Int) (gr : Int → Int) (hr0 : mn E σ hv se sf ll) (hr1 : bd E σ 1 op lk kp wc pn nw sh wk) (hr2 : sr E σ le rl fs qu gr) (hB : BI op lk kp wc pn nw) (hr9 : rg r) (hc9 : rg c0) (hw9 : rg w) (hok : 0 ≤ w ∧ w < nw) (hok2 : okC r c0) : XI l E ST yX6_pathLengthByRounds wsX6_pathLengthByRounds rm_X6_pathLengthByRounds1 [.ref (xad E 0), .int (iZ w), .int (iZ r), .int (iZ c0)] σ (fun (z : Int) (u : xW) => z = dz (Gw op lk kp w) (wc w) (r * 5 + c0) ∧ (∃ (le1 rl1 fs1 qu1 gr1 : Int → Int), mn E u hv se sf ll ∧ bd E u 1 op lk kp wc pn nw sh wk ∧ sr E u le1 rl1 fs1 qu1 gr1 ∧ (dz (Gw op lk kp w) (wc w) (r * 5 + c0) < 25)) ∧ ∀ j : Nat, (j < 75 ∨ 75 + 6 ≤ j) → u j = σ j) (fun (n : String) (u : xW) => ((n = "java/util/NoSuchElementException" ∧ 25 ≤ dz (Gw op lk kp w) (wc w) (r * 5 + c0))) ∧ (∃ (le1 rl1 fs1 qu1 gr1 : Int → Int), mn E u hv se sf ll ∧ bd E u 1 op lk kp wc pn nw sh wk ∧ sr E u le1 rl1 fs1 qu1 gr1) ∧ ∀ j : Nat, (j < 75 ∨ 75 + 6 ≤ j) → u j = σ j) := by
  have f0 : σ 0 = oB 4 [.ref (xad E 1), .ref (xad E 7), .ref (xad E 13), .ref (xad E 19), .int (iZ (b2 hv)), .ref (xad E 73), .ref (xad E 75), .ref (xad E 81), .int (iZ se), .int (iZ sf), .ref (xad E 84), .int (iZ ll)] := hr0
  obtain ⟨f1, f2, f3, f4, f5, ro1, f6⟩ := hr1
  obtain ⟨f75, f76, f77, f78, f79, f80⟩ := hr2
  refine XI_of (by decide) rfl (Nat.le_of_ble_eq_true rfl) ?_
  intro p e s m args below meth c Q ls G hH hl hQ
  obtain ⟨hx, hb, hml, hown, hts, hK, hST, hlocks, hr, hno⟩ := G
  have hOK := hSF.1
  have hown : s.vm.findClass RX6 = some m.cls := hown
  have hl : lv_has ls 5 [(0, .ref (xad E 0)), (1, .int (iZ w)), (2, .int (iZ r)), (3, .int (iZ c0))] := hl
  have hinX5 : ∀ w ∈ u_ws RX5 TX5 5, w ∈ wsX6_pathLengthByRounds := fun w h => (List.mem_cons_of_mem _ (List.mem_append_left _ (List.mem_append_left _ (List.mem_append_left _ (List.mem_append_right _ h)))))
  have hinX6 : ∀ w ∈ u_ws RX6 TX6 12, w ∈ wsX6_pathLengthByRounds := fun w h => (List.mem_cons_of_mem _ (List.mem_append_left _ (List.mem_append_left _ (List.mem_append_left _ (List.mem_append_left _ (List.mem_append_right _ h))))))
  obtain ⟨hop, hlk, hkp, hwc, hpn, hnw⟩ := id hB
  have hdr := dz_rg (G := Gw op lk kp w) (st := wc w) Gw_ok (hwc w)
  refine lv_aload_n hx hb dX6_pathLengthByRounds_0 rfl (lv_at hl 0 rfl) ?_
  refine lv_iload_n hx hb dX6_pathLengthByRounds_1 rfl (lv_at hl 1 rfl) ?_
  refine x_cVID (As := [.int (iZ w)]) (rest := []) hx hb hml hts hown hK hST hOK hH 0 (c_X6_needWalker0 l E ST hSF σ w hv se sf ll op lk kp wc pn nw sh wk f0 ⟨f1, f2, f3, f4, f5, _, f6⟩ (by omega) (by omega) (by omega)) (cwV 1 hts gX6_pathLengthByRounds_X6_needWalker rfl rfl rfl (by decide +kernel) ⟨Nat.le_of_ble_eq_true rfl, Nat.le_of_ble_eq_true rfl⟩) (ltw (by decide)) f0 rfl rfl hl.1 rfl (Nat.le_of_ble_eq_true rfl) dX6_pathLengthByRounds_2 ⟨Nat.le_of_ble_eq_true rfl, Nat.le_of_ble_eq_true rfl⟩ (fun z u h => h) (fun H locs hH => ?_)
  refine lv_pop hx hb dX6_pathLengthByRounds_5 rfl ?_
  refine lv_iload_n hx hb dX6_pathLengthByRounds_6 rfl (lv_at hl 2 rfl) ?_
  refine lv_iload_n hx hb dX6_pathLengthByRounds_7 rfl (lv_at hl 3 rfl) ?_
  refine x_cSID (As := [.int (iZ r), .int (iZ c0)]) (rest := []) hx hb hml hts hown hK hST hOK hH (c_X6_needCell0 l E ST hSF σ r c0  (by omega) (by omega) (by omega)) (va_cwS 2 hts gX6_pathLengthByRounds_X6_needCell rfl rfl rfl (by decide +kernel) ⟨Nat.le_of_ble_eq_true rfl, Nat.le_of_ble_eq_true rfl⟩) rfl hl.1 rfl (Nat.le_of_ble_eq_true rfl) dX6_pathLengthByRounds_8 ⟨Nat.le_of_ble_eq_true rfl, Nat.le_of_ble_eq_true rfl⟩ (fun z u h => h) (fun H locs hH => ?_)
  refine lv_istore (lv' := [(4, .int (iZ (r * 5 + c0))), (0, .ref (xad E 0)), (1, .int (iZ w)), (2, .int (iZ r)), (3, .int (iZ c0))]) hx hb dX6_pathLengthByRounds_11 hl (by decide) rfl (fun ls hl => ?_)
  refine lv_aload_n hx hb dX6_pathLengthByRounds_13 rfl (lv_at hl 1 rfl) ?_
  refine x_get hx hb hts hown hK hH 0 (ltw (by decide)) f0 hinX6 rfl 6 (by decide) (List.mem_of_getElem? (i := 1) rfl) rfl dX6_pathLengthByRounds_14 ?_
  refine lv_aload_n hx hb dX6_pathLengthByRounds_17 rfl (lv_at hl 1 rfl) ?_
  refine x_get hx hb hts hown hK hH 0 (ltw (by decide)) f0 hinX6 rfl 0 (by decide) (List.mem_of_getElem? (i := 2) rfl) rfl dX6_pathLengthByRounds_18 ?_
  refine lv_iload_n hx hb dX6_pathLengthByRounds_21 rfl (lv_at hl 2 rfl) ?_
  refine x_cVV (As := [.ref (xad E 1), .int (iZ w)]) (rest := []) hx hb hml hts hown hK hST hOK hH 75 (c_X5_findLengthsByRounds l E ST hSF σ 1 w op lk kp wc pn nw sh wk le rl fs qu gr ⟨f1, f2, f3, f4, f5, _, f6⟩ ⟨f75, f76, f77, f78, f79, f80⟩ (by omega) (by omega) (by omega)) (cwV 2 hts gX6_pathLengthByRounds_X5_findLengthsByRounds rfl rfl rfl (by decide +kernel) ⟨Nat.le_of_ble_eq_true rfl, Nat.le_of_ble_eq_true rfl⟩) (ltw (by decide)) f75 rfl rfl hl.1 rfl (Nat.le_of_ble_eq_true rfl) dX6_pathLengthByRounds_22 ⟨Nat.le_of_ble_eq_true rfl, Nat.le_of_ble_eq_true rfl⟩ (fun σ8 H locs hp9 hH => ?_)
  obtain ⟨⟨f75, f76, f77, f78, f79, f80⟩, fr10⟩ := hp9
  have f0 : σ8 0 = oB 4 [.ref (xad E 1), .ref (xad E 7), .ref (xad E 13), .ref (xad E 19), .int (iZ (b2 hv)), .ref (xad E 73), .ref (xad E 75), .ref (xad E 81), .int (iZ se), .int (iZ sf), .ref (xad E 84), .int (iZ ll)] := (fr10 0 (by omega)).trans f0
  have f1 : σ8 1 = oB 0 [.ref (xad E 2), .ref (xad E 3), .ref (xad E 4), .ref (xad E 5), .ref (xad E 6), .int (iZ pn), .int (iZ nw), .int (iZ sh), .long (lZ wk)] := (fr10 1 (by omega)).trans f1
  have f2 : σ8 2 = aI E 25 op := (fr10 2 (by omega)).trans f2
  have f3 : σ8 3 = aI E 25 lk := (fr10 3 (by omega)).trans f3
  have f4 : σ8 4 = aI E 6 kp := (fr10 4 (by omega)).trans f4
  have f5 : σ8 5 = aI E 3 wc := (fr10 5 (by omega)).trans f5
  have f6 : σ8 6 = aI E 5 ro1 := (fr10 6 (by omega)).trans f6
  refine lv_aload_n hx hb dX6_pathLengthByRounds_25 rfl (lv_at hl 1 rfl) ?_
  refine x_get hx hb hts hown hK hH 0 (ltw (by decide)) f0 hinX6 rfl 6 (by decide) (List.mem_of_getElem? (i := 1) rfl) rfl dX6_pathLengthByRounds_26 ?_
  refine x_get hx hb hts hown hK hH 75 (ltw (by decide)) f75 hinX5 rfl 1 (by decide) (List.mem_of_getElem? (i := 3) rfl) rfl dX6_pathLengthByRounds_29 ?_
  refine lv_iload hx hb dX6_pathLengthByRounds_32 (lv_at hl 0 rfl) ?_
  refine x_iald hx hb hK hH 77 (ltw (by decide)) f77 (by omega) (by omega) (by omega) dX6_pathLengthByRounds_34 ?_
  have hv12 := hdr (r * 5 + c0)
  refine x_cXSIE (As := [.int (iZ ((dz (Gw op lk kp w) (wc w)) (r * 5 + c0)))]) (rest := []) hx hb hml hts hown hK hST hOK hH (c_X6_needPath l E ST hSF htr σ8 ((dz (Gw op lk kp w) (wc w)) (r * 5 + c0))  (by omega)) (va_cwS 1 hts gX6_pathLengthByRounds_X6_needPath rfl rfl rfl (by decide +kernel) ⟨Nat.le_of_ble_eq_true rfl, Nat.le_of_ble_eq_true rfl⟩) rfl hl.1 rfl (Nat.le_of_ble_eq_true rfl) dX6_pathLengthByRounds_35 ⟨Nat.le_of_ble_eq_true rfl, Nat.le_of_ble_eq_true rfl⟩ ?_ (fun z u h => h) (fun σ14 H locs hp15 hH => ?_)
  · intro nx ce q9 σ14 H locs hp15 hH hce hcv hcl
    subst hQ
    obtain ⟨hn, hu⟩ := hp15
    rw [hu] at hH
    exact x_out hno hlocks hH hce hcv hcl ⟨(by simp_all <;> omega), ⟨le, (dz (Gw op lk kp w) (wc w)), fs, qu, gr, f0, ⟨f1, f2, f3, f4, f5, _, f6⟩, ⟨f75, f76, f77, f78, f79, f80⟩⟩, fun j hj0 => (fr10 j (by omega))⟩ (Nat.le_of_ble_eq_true rfl) (Nat.le_of_ble_eq_true rfl)
  · obtain ⟨hf16, hu17⟩ := hp15
    rw [hu17] at hH
    subst hQ
    exact x_ireX hx hb hr hlocks hH (Nat.le_of_ble_eq_true rfl) (Nat.le_of_ble_eq_true rfl) ⟨(show ((dz (Gw op lk kp w) (wc w)) (r * 5 + c0)) = (dz (Gw op lk kp w) (wc w) (r * 5 + c0)) from (by first | rfl | omega | simp_all)), ⟨le, (dz (Gw op lk kp w) (wc w)), fs, qu, gr, f0, ⟨f1, f2, f3, f4, f5, _, f6⟩, ⟨f75, f76, f77, f78, f79, f80⟩, (by first | assumption | omega | simp_all)⟩, fun j hj0 => (fr10 j (by omega))⟩ dX6_pathLengthByRounds_38

def rm_X6_firstStep1 : Room := { frames := 7, cells := 2, slots := 12, locals := 110 }
set_option maxRecDepth 100000 in
set_option maxHeartbeats 4000000 in
theorem c_X6_firstStep1 (l : Launch) (E : xE) (ST : xST) (hSF : SF ST) (htr : l.stackTraces = false) (σ : xW) (w : Int) (r : Int) (c0 : Int) (hv : Bool) (se : Int) (sf : Int) (ll : Int) (op : Int → Int) (lk : Int → Int) (kp : Int → Int) (wc : Int → Int) (pn : Int) (nw : Int) (sh : Int) (wk : Int) (le : Int → Int) (rl : Int → Int) (fs : Int → Int) (qu : Int → Int) (gr : Int → Int) (hr0 : mn E σ hv se sf ll) (hr1 : bd E σ 1 op lk kp wc pn nw sh wk) (hr2 : sr E σ le rl fs qu gr) (hB : BI op lk kp wc pn nw) (hr9 : rg r) (hc9 : rg c0) (hw9 : rg w) (hok : 0 ≤ w ∧ w < nw) (hok2 : okC r c0) : XI l E ST yX6_firstStep wsX6_firstStep rm_X6_firstStep1 [.ref (xad E 0), .int (iZ w), .int (iZ r), .int (iZ c0)] σ (fun (z : Int) (u : xW) => z = fz (Gw op lk kp w) (wc w) (r * 5 + c0) ∧ (∃ (le1 rl1 fs1 qu1 gr1 : Int → Int), mn E u hv se sf ll ∧ bd E u 1 op lk kp wc pn nw sh wk ∧ sr E u le1 rl1 fs1 qu1 gr1 ∧ (dz (Gw op lk kp w) (wc w) (r * 5 + c0) < 25) ∧ (¬ dz (Gw op lk kp w) (wc w) (r * 5 + c0) = 0)) ∧ ∀ j : Nat, (j < 75 ∨ 75 + 6 ≤ j) → u j = σ j) (fun (n : String) (u : xW) => ((n = "java/util/NoSuchElementException" ∧ (25 ≤ dz (Gw op lk kp w) (wc w) (r * 5 + c0) ∨ dz (Gw op lk kp w) (wc w) (r * 5 + c0) = 0))) ∧ (∃ (le1 rl1 fs1 qu1 gr1 : Int → Int), mn E u hv se sf ll ∧ bd E u 1 op lk kp wc pn nw sh wk ∧ sr E u le1 rl1 fs1 qu1 gr1) ∧ ∀ j : Nat, (j < 75 ∨ 75 + 6 ≤ j) → u j = σ j) := by
  have f0 : σ 0 = oB 4 [.ref (xad E 1), .ref (xad E 7), .ref (xad E 13), .ref (xad E 19), .int (iZ (b2 hv)), .ref (xad E 73), .ref (xad E 75), .ref (xad E 81), .int (iZ se), .int (iZ sf), .ref (xad E 84), .int (iZ ll)] := hr0
  obtain ⟨f1, f2, f3, f4, f5, ro1, f6⟩ := hr1
  obtain ⟨f75, f76, f77, f78, f79, f80⟩ := hr2
  refine XI_of (by decide) rfl (Nat.le_of_ble_eq_true rfl) ?_
  intro p e s m args below meth c Q ls G hH hl hQ
  obtain ⟨hx, hb, hml, hown, hts, hK, hST, hlocks, hr, hno⟩ := G
  have hOK := hSF.1
  have hown : s.vm.findClass RX6 = some m.cls := hown
  have hl : lv_has ls 5 [(0, .ref (xad E 0)), (1, .int (iZ w)), (2, .int (iZ r)), (3, .int (iZ c0))] := hl
  have hinX5 : ∀ w ∈ u_ws RX5 TX5 5, w ∈ wsX6_firstStep := fun w h => (List.mem_cons_of_mem _ (List.mem_append_left _ (List.mem_append_left _ (List.mem_append_left _ (List.mem_append_right _ h)))))
  have hinX6 : ∀ w ∈ u_ws RX6 TX6 12, w ∈ wsX6_firstStep := fun w h => (List.mem_cons_of_mem _ (List.mem_append_left _ (List.mem_append_left _ (List.mem_append_left _ (List.mem_append_left _ (List.mem_append_right _ h))))))
  obtain ⟨hop, hlk, hkp, hwc, hpn, hnw⟩ := id hB
  have hdr := dz_rg (G := Gw op lk kp w) (st := wc w) Gw_ok (hwc w)
  refine lv_aload_n hx hb dX6_firstStep_0 rfl (lv_at hl 0 rfl) ?_
  refine lv_iload_n hx hb dX6_firstStep_1 rfl (lv_at hl 1 rfl) ?_
  refine x_cVID (As := [.int (iZ w)]) (rest := []) hx hb hml hts hown hK hST hOK hH 0 (c_X6_needWalker0 l E ST hSF σ w hv se sf ll op lk kp wc pn nw sh wk f0 ⟨f1, f2, f3, f4, f5, _, f6⟩ (by omega) (by omega) (by omega)) (cwV 1 hts gX6_firstStep_X6_needWalker rfl rfl rfl (by decide +kernel) ⟨Nat.le_of_ble_eq_true rfl, Nat.le_of_ble_eq_true rfl⟩) (ltw (by decide)) f0 rfl rfl hl.1 rfl (Nat.le_of_ble_eq_true rfl) dX6_firstStep_2 ⟨Nat.le_of_ble_eq_true rfl, Nat.le_of_ble_eq_true rfl⟩ (fun z u h => h) (fun H locs hH => ?_)
  refine lv_pop hx hb dX6_firstStep_5 rfl ?_
  refine lv_iload_n hx hb dX6_firstStep_6 rfl (lv_at hl 2 rfl) ?_
  refine lv_iload_n hx hb dX6_firstStep_7 rfl (lv_at hl 3 rfl) ?_
  refine x_cSID (As := [.int (iZ r), .int (iZ c0)]) (rest := []) hx hb hml hts hown hK hST hOK hH (c_X6_needCell0 l E ST hSF σ r c0  (by omega) (by omega) (by omega)) (va_cwS 2 hts gX6_firstStep_X6_needCell rfl rfl rfl (by decide +kernel) ⟨Nat.le_of_ble_eq_true rfl, Nat.le_of_ble_eq_true rfl⟩) rfl hl.1 rfl (Nat.le_of_ble_eq_true rfl) dX6_firstStep_8 ⟨Nat.le_of_ble_eq_true rfl, Nat.le_of_ble_eq_true rfl⟩ (fun z u h => h) (fun H locs hH => ?_)
  refine lv_istore (lv' := [(4, .int (iZ (r * 5 + c0))), (0, .ref (xad E 0)), (1, .int (iZ w)), (2, .int (iZ r)), (3, .int (iZ c0))]) hx hb dX6_firstStep_11 hl (by decide) rfl (fun ls hl => ?_)
  refine lv_aload_n hx hb dX6_firstStep_13 rfl (lv_at hl 1 rfl) ?_
  refine x_get hx hb hts hown hK hH 0 (ltw (by decide)) f0 hinX6 rfl 6 (by decide) (List.mem_of_getElem? (i := 3) rfl) rfl dX6_firstStep_14 ?_
  refine lv_aload_n hx hb dX6_firstStep_17 rfl (lv_at hl 1 rfl) ?_
  refine x_get hx hb hts hown hK hH 0 (ltw (by decide)) f0 hinX6 rfl 0 (by decide) (List.mem_of_getElem? (i := 4) rfl) rfl dX6_firstStep_18 ?_
  refine lv_iload_n hx hb dX6_firstStep_21 rfl (lv_at hl 2 rfl) ?_
  refine x_cVV (As := [.ref (xad E 1), .int (iZ w)]) (rest := []) hx hb hml hts hown hK hST hOK hH 75 (c_X5_findPaths l E ST hSF σ 1 w op lk kp wc pn nw sh wk le rl fs qu gr ⟨f1, f2, f3, f4, f5, _, f6⟩ ⟨f75, f76, f77, f78, f79, f80⟩ (by omega) (by omega) (by omega)) (cwV 2 hts gX6_firstStep_X5_findPaths rfl rfl rfl (by decide +kernel) ⟨Nat.le_of_ble_eq_true rfl, Nat.le_of_ble_eq_true rfl⟩) (ltw (by decide)) f75 rfl rfl hl.1 rfl (Nat.le_of_ble_eq_true rfl) dX6_firstStep_22 ⟨Nat.le_of_ble_eq_true rfl, Nat.le_of_ble_eq_true rfl⟩ (fun σ8 H locs hp9 hH => ?_)
  obtain ⟨⟨fs1_11, qu1_12, ⟨f75, f76, f77, f78, f79, f80⟩, hisF⟩, fr10⟩ := hp9
  have f0 : σ8 0 = oB 4 [.ref (xad E 1), .ref (xad E 7), .ref (xad E 13), .ref (xad E 19), .int (iZ (b2 hv)), .ref (xad E 73), .ref (xad E 75), .ref (xad E 81), .int (iZ se), .int (iZ sf), .ref (xad E 84), .int (iZ ll)] := (fr10 0 (by omega) (by omega) (by omega)).trans f0
  have f1 : σ8 1 = oB 0 [.ref (xad E 2), .ref (xad E 3), .ref (xad E 4), .ref (xad E 5), .ref (xad E 6), .int (iZ pn), .int (iZ nw), .int (iZ sh), .long (lZ wk)] := (fr10 1 (by omega) (by omega) (by omega)).trans f1
  have f2 : σ8 2 = aI E 25 op := (fr10 2 (by omega) (by omega) (by omega)).trans f2
  have f3 : σ8 3 = aI E 25 lk := (fr10 3 (by omega) (by omega) (by omega)).trans f3
  have f4 : σ8 4 = aI E 6 kp := (fr10 4 (by omega) (by omega) (by omega)).trans f4
  have f5 : σ8 5 = aI E 3 wc := (fr10 5 (by omega) (by omega) (by omega)).trans f5
  have f6 : σ8 6 = aI E 5 ro1 := (fr10 6 (by omega) (by omega) (by omega)).trans f6
  refine lv_aload_n hx hb dX6_firstStep_25 rfl (lv_at hl 1 rfl) ?_
  refine x_get hx hb hts hown hK hH 0 (ltw (by decide)) f0 hinX6 rfl 6 (by decide) (List.mem_of_getElem? (i := 3) rfl) rfl dX6_firstStep_26 ?_
  refine x_get hx hb hts hown hK hH 75 (ltw (by decide)) f75 hinX5 rfl 0 (by decide) (List.mem_of_getElem? (i := 5) rfl) rfl dX6_firstStep_29 ?_
  refine lv_iload hx hb dX6_firstStep_32 (lv_at hl 0 rfl) ?_
  refine x_iald hx hb hK hH 76 (ltw (by decide)) f76 (by omega) (by omega) (by omega) dX6_firstStep_34 ?_
  have hv14 := hdr (r * 5 + c0)
  refine x_cXSIE (As := [.int (iZ ((dz (Gw op lk kp w) (wc w)) (r * 5 + c0)))]) (rest := []) hx hb hml hts hown hK hST hOK hH (c_X6_needPath l E ST hSF htr σ8 ((dz (Gw op lk kp w) (wc w)) (r * 5 + c0))  (by omega)) (va_cwS 1 hts gX6_firstStep_X6_needPath rfl rfl rfl (by decide +kernel) ⟨Nat.le_of_ble_eq_true rfl, Nat.le_of_ble_eq_true rfl⟩) rfl hl.1 rfl (Nat.le_of_ble_eq_true rfl) dX6_firstStep_35 ⟨Nat.le_of_ble_eq_true rfl, Nat.le_of_ble_eq_true rfl⟩ ?_ (fun z u h => h) (fun σ16 H locs hp17 hH => ?_)
  · intro nx ce q9 σ16 H locs hp17 hH hce hcv hcl
    subst hQ
    obtain ⟨hn, hu⟩ := hp17
    rw [hu] at hH
    exact x_out hno hlocks hH hce hcv hcl ⟨(by simp_all <;> omega), ⟨(dz (Gw op lk kp w) (wc w)), rl, fs1_11, qu1_12, gr, f0, ⟨f1, f2, f3, f4, f5, _, f6⟩, ⟨f75, f76, f77, f78, f79, f80⟩⟩, fun j hj0 => (fr10 j (by omega) (by omega) (by omega))⟩ (Nat.le_of_ble_eq_true rfl) (Nat.le_of_ble_eq_true rfl)
  · obtain ⟨hf18, hu19⟩ := hp17
    rw [hu19] at hH
    refine x_if_ne (tgt := 51) hx hb dX6_firstStep_38 (by decide) (by omega) (fun c38 => ?_) (fun c38 => ?_)
    · refine lv_aload_n hx hb dX6_firstStep_51 rfl (lv_at hl 1 rfl) ?_
      refine x_get hx hb hts hown hK hH 0 (ltw (by decide)) f0 hinX6 rfl 6 (by decide) (List.mem_of_getElem? (i := 3) rfl) rfl dX6_firstStep_52 ?_
      refine x_get hx hb hts hown hK hH 75 (ltw (by decide)) f75 hinX5 rfl 2 (by decide) (List.mem_of_getElem? (i := 6) rfl) rfl dX6_firstStep_55 ?_
      refine lv_iload hx hb dX6_firstStep_58 (lv_at hl 0 rfl) ?_
      refine x_iald hx hb hK hH 78 (ltw (by decide)) f78 (by omega) (by omega) (by omega) dX6_firstStep_60 ?_
      subst hQ
      exact x_ireX hx hb hr hlocks hH (Nat.le_of_ble_eq_true rfl) (Nat.le_of_ble_eq_true rfl) ⟨(show (fs1_11 (r * 5 + c0)) = (fz (Gw op lk kp w) (wc w) (r * 5 + c0)) from (by exact fz_of hisF (by omega) (by omega) (by omega) (fun e9 => c38 ((dz_0 Gw_ok (hwc w) (by omega) (by omega)).mpr e9.symm)))), ⟨(dz (Gw op lk kp w) (wc w)), rl, fs1_11, qu1_12, gr, f0, ⟨f1, f2, f3, f4, f5, _, f6⟩, ⟨f75, f76, f77, f78, f79, f80⟩, (by first | assumption | omega | simp_all), (by first | assumption | omega | simp_all)⟩, fun j hj0 => (fr10 j (by omega) (by omega) (by omega))⟩ dX6_firstStep_61
    · subst hQ
      exact x_throwSN (text := "the walker stands in this cell") hx hb hml htr hts hown hST hSF hno hlocks hH xExc_4 (List.mem_of_getElem? (i := 1) rfl) (List.mem_of_getElem? (i := 2) rfl) (fun w h => (List.mem_cons_of_mem _ (List.mem_append_left _ (List.mem_append_right _ h)))) (List.mem_of_getElem? (i := 17) rfl) hl.1 dX6_firstStep_41 dX6_firstStep_44 dX6_firstStep_45 dX6_firstStep_47 dX6_firstStep_50 (Nat.le_of_ble_eq_true rfl) (Nat.le_of_ble_eq_true rfl) (Nat.le_of_ble_eq_true rfl) (Nat.le_of_ble_eq_true rfl) ⟨⟨rfl, (by omega)⟩, ⟨(dz (Gw op lk kp w) (wc w)), rl, fs1_11, qu1_12, gr, f0, ⟨f1, f2, f3, f4, f5, _, f6⟩, ⟨f75, f76, f77, f78, f79, f80⟩⟩, fun j hj0 => (fr10 j (by omega) (by omega) (by omega))⟩ (Nat.le_of_ble_eq_true rfl) (Nat.le_of_ble_eq_true rfl)

def rm_X6_reachableCells0 : Room := { frames := 3, cells := 0, slots := 0, locals := 74 }
set_option maxRecDepth 100000 in
set_option maxHeartbeats 4000000 in
theorem c_X6_reachableCells0 (l : Launch) (E : xE) (ST : xST) (hSF : SF ST) (σ : xW) (w : Int) (hv : Bool) (se : Int) (sf : Int) (ll : Int) (op : Int → Int) (lk : Int → Int) (kp : Int → Int) (wc : Int → Int) (pn : Int) (nw : Int) (sh : Int) (wk : Int) (le : Int → Int) (rl : Int → Int) (fs : Int → Int) (qu : Int → Int) (gr : Int → Int) (hr0 : mn E σ hv se sf ll) (hr1 : bd E σ 1 op lk kp wc pn nw sh wk) (hr2 : sr E σ le rl fs qu gr) (hB : BI op lk kp wc pn nw) (hw9 : rg w) (hok : 0 ≤ w ∧ w < nw) : CI l E ST yX6_reachableCells wsX6_reachableCells rm_X6_reachableCells0 [.ref (xad E 0), .int (iZ w)] σ (fun (z : Int) (u : xW) => z = cnbK (fun c => decide (dz (Gw op lk kp w) (wc w) c < 25)) 25 ∧ (∃ (le1 rl1 fs1 qu1 gr1 : Int → Int), mn E u hv se sf ll ∧ bd E u 1 op lk kp wc pn nw sh wk ∧ sr E u le1 rl1 fs1 qu1 gr1) ∧ ∀ j : Nat, (j < 75 ∨ 75 + 6 ≤ j) → u j = σ j) := by
  have f0 : σ 0 = oB 4 [.ref (xad E 1), .ref (xad E 7), .ref (xad E 13), .ref (xad E 19), .int (iZ (b2 hv)), .ref (xad E 73), .ref (xad E 75), .ref (xad E 81), .int (iZ se), .int (iZ sf), .ref (xad E 84), .int (iZ ll)] := hr0
  obtain ⟨f1, f2, f3, f4, f5, ro1, f6⟩ := hr1
  obtain ⟨f75, f76, f77, f78, f79, f80⟩ := hr2
  refine CI_of (by decide) rfl (Nat.le_of_ble_eq_true rfl) ?_
  intro p e s m args below meth c Q ls G hH hl hQ
  obtain ⟨hx, hb, hml, hown, hts, hK, hST, hlocks, hr, hno⟩ := G
  have hOK := hSF.1
  have hown : s.vm.findClass RX6 = some m.cls := hown
  have hl : lv_has ls 2 [(0, .ref (xad E 0)), (1, .int (iZ w))] := hl
  have hinX6 : ∀ w ∈ u_ws RX6 TX6 12, w ∈ wsX6_reachableCells := fun w h => (List.mem_cons_of_mem _ (List.mem_append_left _ (List.mem_append_left _ (List.mem_append_left _ (List.mem_append_right _ h)))))
  obtain ⟨hop, hlk, hkp, hwc, hpn, hnw⟩ := id hB
  have hdr := dz_rg (G := Gw op lk kp w) (st := wc w) Gw_ok (hwc w)
  refine lv_aload_n hx hb dX6_reachableCells_0 rfl (lv_at hl 0 rfl) ?_
  refine x_get hx hb hts hown hK hH 0 (ltw (by decide)) f0 hinX6 rfl 6 (by decide) (List.mem_of_getElem? (i := 1) rfl) rfl dX6_reachableCells_1 ?_
  refine lv_aload_n hx hb dX6_reachableCells_4 rfl (lv_at hl 0 rfl) ?_
  refine x_get hx hb hts hown hK hH 0 (ltw (by decide)) f0 hinX6 rfl 0 (by decide) (List.mem_of_getElem? (i := 2) rfl) rfl dX6_reachableCells_5 ?_
  refine lv_aload_n hx hb dX6_reachableCells_8 rfl (lv_at hl 0 rfl) ?_
  refine lv_iload_n hx hb dX6_reachableCells_9 rfl (lv_at hl 1 rfl) ?_
  refine x_cVID (As := [.int (iZ w)]) (rest := [.ref (xad E 1), .ref (xad E 75)]) hx hb hml hts hown hK hST hOK hH 0 (c_X6_needWalker0 l E ST hSF σ w hv se sf ll op lk kp wc pn nw sh wk f0 ⟨f1, f2, f3, f4, f5, _, f6⟩ (by omega) (by omega) (by omega)) (cwV 1 hts gX6_reachableCells_X6_needWalker rfl rfl rfl (by decide +kernel) ⟨Nat.le_of_ble_eq_true rfl, Nat.le_of_ble_eq_true rfl⟩) (ltw (by decide)) f0 rfl rfl hl.1 rfl (Nat.le_of_ble_eq_true rfl) dX6_reachableCells_10 ⟨Nat.le_of_ble_eq_true rfl, Nat.le_of_ble_eq_true rfl⟩ (fun z u h => h) (fun H locs hH => ?_)
  refine x_cVV (As := [.ref (xad E 1), .int (iZ w)]) (rest := []) hx hb hml hts hown hK hST hOK hH 75 (c_X5_findPaths l E ST hSF σ 1 w op lk kp wc pn nw sh wk le rl fs qu gr ⟨f1, f2, f3, f4, f5, _, f6⟩ ⟨f75, f76, f77, f78, f79, f80⟩ (by omega) (by omega) (by omega)) (cwV 2 hts gX6_reachableCells_X5_findPaths rfl rfl rfl (by decide +kernel) ⟨Nat.le_of_ble_eq_true rfl, Nat.le_of_ble_eq_true rfl⟩) (ltw (by decide)) f75 rfl rfl hl.1 rfl (Nat.le_of_ble_eq_true rfl) dX6_reachableCells_13 ⟨Nat.le_of_ble_eq_true rfl, Nat.le_of_ble_eq_true rfl⟩ (fun σ5 H locs hp6 hH => ?_)
  obtain ⟨⟨fs1_8, qu1_9, ⟨f75, f76, f77, f78, f79, f80⟩, hf10⟩, fr7⟩ := hp6
  have f0 : σ5 0 = oB 4 [.ref (xad E 1), .ref (xad E 7), .ref (xad E 13), .ref (xad E 19), .int (iZ (b2 hv)), .ref (xad E 73), .ref (xad E 75), .ref (xad E 81), .int (iZ se), .int (iZ sf), .ref (xad E 84), .int (iZ ll)] := (fr7 0 (by omega) (by omega) (by omega)).trans f0
  have f1 : σ5 1 = oB 0 [.ref (xad E 2), .ref (xad E 3), .ref (xad E 4), .ref (xad E 5), .ref (xad E 6), .int (iZ pn), .int (iZ nw), .int (iZ sh), .long (lZ wk)] := (fr7 1 (by omega) (by omega) (by omega)).trans f1
  have f2 : σ5 2 = aI E 25 op := (fr7 2 (by omega) (by omega) (by omega)).trans f2
  have f3 : σ5 3 = aI E 25 lk := (fr7 3 (by omega) (by omega) (by omega)).trans f3
  have f4 : σ5 4 = aI E 6 kp := (fr7 4 (by omega) (by omega) (by omega)).trans f4
  have f5 : σ5 5 = aI E 3 wc := (fr7 5 (by omega) (by omega) (by omega)).trans f5
  have f6 : σ5 6 = aI E 5 ro1 := (fr7 6 (by omega) (by omega) (by omega)).trans f6
  refine lv_aload_n hx hb dX6_reachableCells_16 rfl (lv_at hl 0 rfl) ?_
  refine x_get hx hb hts hown hK hH 0 (ltw (by decide)) f0 hinX6 rfl 6 (by decide) (List.mem_of_getElem? (i := 1) rfl) rfl dX6_reachableCells_17 ?_
  refine x_cVID (As := []) (rest := []) hx hb hml hts hown hK hST hOK hH 75 (c_X5_countReached l E ST hSF σ5 (dz (Gw op lk kp w) (wc w)) rl fs1_8 qu1_9 gr ⟨f75, f76, f77, f78, f79, f80⟩ (by assumption)) (cwV 0 hts gX6_reachableCells_X5_countReached rfl rfl rfl (by decide +kernel) ⟨Nat.le_of_ble_eq_true rfl, Nat.le_of_ble_eq_true rfl⟩) (ltw (by decide)) f75 rfl rfl hl.1 rfl (Nat.le_of_ble_eq_true rfl) dX6_reachableCells_20 ⟨Nat.le_of_ble_eq_true rfl, Nat.le_of_ble_eq_true rfl⟩ (fun z u h => h) (fun H locs hH => ?_)
  subst hQ
  exact x_iret hx hb hr hlocks hH (Nat.le_of_ble_eq_true rfl) (Nat.le_of_ble_eq_true rfl) ⟨(show (cnbK (fun c => decide ((dz (Gw op lk kp w) (wc w)) c < 25)) 25) = (cnbK (fun c => decide (dz (Gw op lk kp w) (wc w) c < 25)) 25) from (by first | rfl | omega | simp_all)), ⟨(dz (Gw op lk kp w) (wc w)), rl, fs1_8, qu1_9, gr, f0, ⟨f1, f2, f3, f4, f5, _, f6⟩, ⟨f75, f76, f77, f78, f79, f80⟩⟩, fun j hj0 => (fr7 j (by omega) (by omega) (by omega))⟩ dX6_reachableCells_23

def rm_X6_nearestKey1 : Room := { frames := 6, cells := 1, slots := 6, locals := 90 }
set_option maxRecDepth 100000 in
set_option maxHeartbeats 4000000 in
theorem c_X6_nearestKey1 (l : Launch) (E : xE) (ST : xST) (hSF : SF ST) (htr : l.stackTraces = false) (σ : xW) (w : Int) (hv : Bool) (se : Int) (sf : Int) (ll : Int) (op : Int → Int) (lk : Int → Int) (kp : Int → Int) (wc : Int → Int) (pn : Int) (nw : Int) (sh : Int) (wk : Int) (le : Int → Int) (rl : Int → Int) (fs : Int → Int) (qu : Int → Int) (gr : Int → Int) (hr0 : mn E σ hv se sf ll) (hr1 : bd E σ 1 op lk kp wc pn nw sh wk) (hr2 : sr E σ le rl fs qu gr) (hB : BI op lk kp wc pn nw) (hw9 : rg w) (hok : 0 ≤ w ∧ w < nw) : XI l E ST yX6_nearestKey wsX6_nearestKey rm_X6_nearestKey1 [.ref (xad E 0), .int (iZ w)] σ (fun (z : Int) (u : xW) => z = 97 + (nkK kp (dz (Gw op lk kp w) (wc w)) 6).1 ∧ (∃ (le1 rl1 fs1 qu1 gr1 : Int → Int), mn E u hv se sf ll ∧ bd E u 1 op lk kp wc pn nw sh wk ∧ sr E u le1 rl1 fs1 qu1 gr1 ∧ (¬ (nkK kp (dz (Gw op lk kp w) (wc w)) 6).1 = -1)) ∧ ∀ j : Nat, (j < 75 ∨ 75 + 6 ≤ j) → u j = σ j) (fun (n : String) (u : xW) => ((n = "java/util/NoSuchElementException" ∧ (nkK kp (dz (Gw op lk kp w) (wc w)) 6).1 = -1)) ∧ (∃ (le1 rl1 fs1 qu1 gr1 : Int → Int), mn E u hv se sf ll ∧ bd E u 1 op lk kp wc pn nw sh wk ∧ sr E u le1 rl1 fs1 qu1 gr1) ∧ ∀ j : Nat, (j < 75 ∨ 75 + 6 ≤ j) → u j = σ j) := by
  have f0 : σ 0 = oB 4 [.ref (xad E 1), .ref (xad E 7), .ref (xad E 13), .ref (xad E 19), .int (iZ (b2 hv)), .ref (xad E 73), .ref (xad E 75), .ref (xad E 81), .int (iZ se), .int (iZ sf), .ref (xad E 84), .int (iZ ll)] := hr0
  obtain ⟨f1, f2, f3, f4, f5, ro1, f6⟩ := hr1
  obtain ⟨f75, f76, f77, f78, f79, f80⟩ := hr2
  refine XI_of (by decide) rfl (Nat.le_of_ble_eq_true rfl) ?_
  intro p e s m args below meth c Q ls G hH hl hQ
  obtain ⟨hx, hb, hml, hown, hts, hK, hST, hlocks, hr, hno⟩ := G
  have hOK := hSF.1
  have hown : s.vm.findClass RX6 = some m.cls := hown
  have hl : lv_has ls 6 [(0, .ref (xad E 0)), (1, .int (iZ w))] := hl
  have hinX1 : ∀ w ∈ u_ws RX1 TX1 9, w ∈ wsX6_nearestKey := fun w h => (List.mem_cons_of_mem _ (List.mem_append_left _ (List.mem_append_left _ (List.mem_append_left _ (List.mem_append_right _ h)))))
  have hinX5 : ∀ w ∈ u_ws RX5 TX5 5, w ∈ wsX6_nearestKey := fun w h => (List.mem_cons_of_mem _ (List.mem_append_left _ (List.mem_append_left _ (List.mem_append_right _ h))))
  have hinX6 : ∀ w ∈ u_ws RX6 TX6 12, w ∈ wsX6_nearestKey := fun w h => (List.mem_cons_of_mem _ (List.mem_append_left _ (List.mem_append_left _ (List.mem_append_left _ (List.mem_append_left _ (List.mem_append_right _ h))))))
  obtain ⟨hop, hlk, hkp, hwc, hpn, hnw⟩ := id hB
  have hdr := dz_rg (G := Gw op lk kp w) (st := wc w) Gw_ok (hwc w)
  refine lv_aload_n hx hb dX6_nearestKey_0 rfl (lv_at hl 0 rfl) ?_
  refine x_get hx hb hts hown hK hH 0 (ltw (by decide)) f0 hinX6 rfl 6 (by decide) (List.mem_of_getElem? (i := 3) rfl) rfl dX6_nearestKey_1 ?_
  refine lv_aload_n hx hb dX6_nearestKey_4 rfl (lv_at hl 0 rfl) ?_
  refine x_get hx hb hts hown hK hH 0 (ltw (by decide)) f0 hinX6 rfl 0 (by decide) (List.mem_of_getElem? (i := 4) rfl) rfl dX6_nearestKey_5 ?_
  refine lv_aload_n hx hb dX6_nearestKey_8 rfl (lv_at hl 0 rfl) ?_
  refine lv_iload_n hx hb dX6_nearestKey_9 rfl (lv_at hl 1 rfl) ?_
  refine x_cVID (As := [.int (iZ w)]) (rest := [.ref (xad E 1), .ref (xad E 75)]) hx hb hml hts hown hK hST hOK hH 0 (c_X6_needWalker0 l E ST hSF σ w hv se sf ll op lk kp wc pn nw sh wk f0 ⟨f1, f2, f3, f4, f5, _, f6⟩ (by omega) (by omega) (by omega)) (cwV 1 hts gX6_nearestKey_X6_needWalker rfl rfl rfl (by decide +kernel) ⟨Nat.le_of_ble_eq_true rfl, Nat.le_of_ble_eq_true rfl⟩) (ltw (by decide)) f0 rfl rfl hl.1 rfl (Nat.le_of_ble_eq_true rfl) dX6_nearestKey_10 ⟨Nat.le_of_ble_eq_true rfl, Nat.le_of_ble_eq_true rfl⟩ (fun z u h => h) (fun H locs hH => ?_)
  refine x_cVV (As := [.ref (xad E 1), .int (iZ w)]) (rest := []) hx hb hml hts hown hK hST hOK hH 75 (c_X5_findPaths l E ST hSF σ 1 w op lk kp wc pn nw sh wk le rl fs qu gr ⟨f1, f2, f3, f4, f5, _, f6⟩ ⟨f75, f76, f77, f78, f79, f80⟩ (by omega) (by omega) (by omega)) (cwV 2 hts gX6_nearestKey_X5_findPaths rfl rfl rfl (by decide +kernel) ⟨Nat.le_of_ble_eq_true rfl, Nat.le_of_ble_eq_true rfl⟩) (ltw (by decide)) f75 rfl rfl hl.1 rfl (Nat.le_of_ble_eq_true rfl) dX6_nearestKey_13 ⟨Nat.le_of_ble_eq_true rfl, Nat.le_of_ble_eq_true rfl⟩ (fun σ5 H locs hp6 hH => ?_)
  obtain ⟨⟨fs1_8, qu1_9, ⟨f75, f76, f77, f78, f79, f80⟩, hf10⟩, fr7⟩ := hp6
  have f0 : σ5 0 = oB 4 [.ref (xad E 1), .ref (xad E 7), .ref (xad E 13), .ref (xad E 19), .int (iZ (b2 hv)), .ref (xad E 73), .ref (xad E 75), .ref (xad E 81), .int (iZ se), .int (iZ sf), .ref (xad E 84), .int (iZ ll)] := (fr7 0 (by omega) (by omega) (by omega)).trans f0
  have f1 : σ5 1 = oB 0 [.ref (xad E 2), .ref (xad E 3), .ref (xad E 4), .ref (xad E 5), .ref (xad E 6), .int (iZ pn), .int (iZ nw), .int (iZ sh), .long (lZ wk)] := (fr7 1 (by omega) (by omega) (by omega)).trans f1
  have f2 : σ5 2 = aI E 25 op := (fr7 2 (by omega) (by omega) (by omega)).trans f2
  have f3 : σ5 3 = aI E 25 lk := (fr7 3 (by omega) (by omega) (by omega)).trans f3
  have f4 : σ5 4 = aI E 6 kp := (fr7 4 (by omega) (by omega) (by omega)).trans f4
  have f5 : σ5 5 = aI E 3 wc := (fr7 5 (by omega) (by omega) (by omega)).trans f5
  have f6 : σ5 6 = aI E 5 ro1 := (fr7 6 (by omega) (by omega) (by omega)).trans f6
  refine x_iconst hx hb dX6_nearestKey_16 ?_
  refine lv_istore_n (lv' := [(2, .int (iZ (-1))), (0, .ref (xad E 0)), (1, .int (iZ w))]) hx hb dX6_nearestKey_17 rfl hl (by decide) rfl (fun ls hl => ?_)
  refine x_bipush hx hb dX6_nearestKey_18 (by decide) ?_
  refine lv_istore_n (lv' := [(3, .int (iZ 25)), (2, .int (iZ (-1))), (0, .ref (xad E 0)), (1, .int (iZ w))]) hx hb dX6_nearestKey_20 rfl hl (by decide) rfl (fun ls hl => ?_)
  refine x_iconst hx hb dX6_nearestKey_21 ?_
  refine lv_istore (lv' := [(4, .int (iZ 0)), (3, .int (iZ 25)), (2, .int (iZ (-1))), (0, .ref (xad E 0)), (1, .int (iZ w))]) hx hb dX6_nearestKey_22 hl (by decide) rfl (fun ls hl => ?_)
  have K24 : ∀ (nK : Nat) (ne sh9 i : Int) (H : Heap) (locs : List Loc) (ls : Array Slot), (6 - i).toNat < nK → (0 ≤ i ∧ i ≤ 6) → ((-1 ≤ ne ∧ ne ≤ 5) ∧ (0 ≤ sh9 ∧ sh9 ≤ 25)) → (nkK kp (dz (Gw op lk kp w) (wc w)) i = (ne, sh9)) → Hx E (xA E s.heap.size) s.heap σ5 H locs → lv_has ls 6 [(4, .int (iZ i)), (3, .int (iZ sh9)), (2, .int (iZ ne)), (0, .ref (xad E 0)), (1, .int (iZ w))] → W p l e rm_X6_nearestKey1 s m args below meth c H locs 0 0 Q (F0 m 24 ls []) := by
    intro n24
    induction n24 with
    | zero =>
      intro ne sh9 i H locs ls hm
      exact absurd hm (by first | exact Nat.not_lt_zero _ | omega)
    | succ n24 ih24 =>
      intro ne sh9 i H locs ls hm24 hi hnb hnk  hH hl
      refine lv_iload hx hb dX6_nearestKey_24 (lv_at hl 0 rfl) ?_
      refine x_bipush hx hb dX6_nearestKey_26 (by decide) ?_
      refine x_icmp_ge (tgt := 85) hx hb dX6_nearestKey_28 (by decide) (by omega) (by decide) (fun c28 => ?_) (fun c28 => ?_)
      · have e9 : i = 6 := by omega
        subst e9
        refine lv_iload_n hx hb dX6_nearestKey_85 rfl (lv_at hl 2 rfl) ?_
        refine x_iconst hx hb dX6_nearestKey_86 ?_
        refine x_icmp_ne (tgt := 100) hx hb dX6_nearestKey_87 (by decide) (by omega) (by decide) (fun c87 => ?_) (fun c87 => ?_)
        · refine lv_iload_n hx hb dX6_nearestKey_100 rfl (lv_at hl 2 rfl) ?_
          refine x_cSID (As := [.int (iZ ne)]) (rest := []) hx hb hml hts hown hK hST hOK hH (c_X6_keyName l E ST hSF σ5 ne  (by omega) (by omega)) (va_cwS 1 hts gX6_nearestKey_X6_keyName rfl rfl rfl (by decide +kernel) ⟨Nat.le_of_ble_eq_true rfl, Nat.le_of_ble_eq_true rfl⟩) rfl hl.1 rfl (Nat.le_of_ble_eq_true rfl) dX6_nearestKey_101 ⟨Nat.le_of_ble_eq_true rfl, Nat.le_of_ble_eq_true rfl⟩ (fun z u h => h) (fun H locs hH => ?_)
          subst hQ
          exact x_creX hx hb hr hlocks hH (Nat.le_of_ble_eq_true rfl) (Nat.le_of_ble_eq_true rfl) (by omega) (by omega) ⟨(show (97 + ne) = (97 + (nkK kp (dz (Gw op lk kp w) (wc w)) 6).1) from (by rw [hnk])), ⟨(dz (Gw op lk kp w) (wc w)), rl, fs1_8, qu1_9, gr, f0, ⟨f1, f2, f3, f4, f5, _, f6⟩, ⟨f75, f76, f77, f78, f79, f80⟩, (by first | assumption | omega | simp_all)⟩, fun j hj0 => (fr7 j (by omega) (by omega) (by omega))⟩ dX6_nearestKey_104
        · subst hQ
          exact x_throwSN (text := "no key lies where the walker has a path") hx hb hml htr hts hown hST hSF hno hlocks hH xExc_4 (List.mem_of_getElem? (i := 1) rfl) (List.mem_of_getElem? (i := 2) rfl) (fun w h => (List.mem_cons_of_mem _ (List.mem_append_left _ (List.mem_append_right _ h)))) (List.mem_of_getElem? (i := 22) rfl) hl.1 dX6_nearestKey_90 dX6_nearestKey_93 dX6_nearestKey_94 dX6_nearestKey_96 dX6_nearestKey_99 (Nat.le_of_ble_eq_true rfl) (Nat.le_of_ble_eq_true rfl) (Nat.le_of_ble_eq_true rfl) (Nat.le_of_ble_eq_true rfl) ⟨⟨rfl, (by rw [hnk]; exact c87)⟩, ⟨(dz (Gw op lk kp w) (wc w)), rl, fs1_8, qu1_9, gr, f0, ⟨f1, f2, f3, f4, f5, _, f6⟩, ⟨f75, f76, f77, f78, f79, f80⟩⟩, fun j hj0 => (fr7 j (by omega) (by omega) (by omega))⟩ (Nat.le_of_ble_eq_true rfl) (Nat.le_of_ble_eq_true rfl)
      · refine lv_aload_n hx hb dX6_nearestKey_31 rfl (lv_at hl 3 rfl) ?_
        refine x_get hx hb hts hown hK hH 0 (ltw (by decide)) f0 hinX6 rfl 0 (by decide) (List.mem_of_getElem? (i := 4) rfl) rfl dX6_nearestKey_32 ?_
        refine x_get hx hb hts hown hK hH 1 (ltw (by decide)) f1 hinX1 rfl 2 (by decide) (List.mem_of_getElem? (i := 5) rfl) rfl dX6_nearestKey_35 ?_
        refine lv_iload hx hb dX6_nearestKey_38 (lv_at hl 0 rfl) ?_
        refine x_iald hx hb hK hH 4 (ltw (by decide)) f4 (by omega) (by omega) (by omega) dX6_nearestKey_40 ?_
        have hv16 := hkp i
        refine lv_istore (lv' := [(5, .int (iZ (kp i))), (4, .int (iZ i)), (3, .int (iZ sh9)), (2, .int (iZ ne)), (0, .ref (xad E 0)), (1, .int (iZ w))]) hx hb dX6_nearestKey_41 hl (by decide) rfl (fun ls hl => ?_)
        refine lv_iload hx hb dX6_nearestKey_43 (lv_at hl 0 rfl) ?_
        refine x_cSID (As := [.int (iZ (kp i))]) (rest := []) hx hb hml hts hown hK hST hOK hH (c_X6_isCell l E ST hSF σ5 (kp i)  (by omega)) (va_cwS 1 hts gX6_nearestKey_X6_isCell rfl rfl rfl (by decide +kernel) ⟨Nat.le_of_ble_eq_true rfl, Nat.le_of_ble_eq_true rfl⟩) rfl hl.1 rfl (Nat.le_of_ble_eq_true rfl) dX6_nearestKey_45 ⟨Nat.le_of_ble_eq_true rfl, Nat.le_of_ble_eq_true rfl⟩ (fun z u h => h) (fun H locs hH => ?_)
        refine x_ifb_eq (tgt := 79) hx hb dX6_nearestKey_48 (by decide) (fun c48 => ?_) (fun c48 => ?_)
        · have c48 := of_decide_eq_false c48
          refine x_iinc (lv' := [(4, .int (iZ (i + 1))), (5, .int (iZ (kp i))), (3, .int (iZ sh9)), (2, .int (iZ ne)), (0, .ref (xad E 0)), (1, .int (iZ w))]) hx hb dX6_nearestKey_79 hl (k := 1) rfl (by decide) rfl (fun ls hl => ?_)
          refine lv_goto (tgt := 24) hx hb dX6_nearestKey_82 (by decide) ?_
          exact ih24 ne sh9 (i + 1) _ _ _ (by omega) (by omega) (by omega) (by first | exact nkK_t (by omega) c48 (by rw [hnk]; omega) | (rw [nkK_f1 (by omega) c48]; exact hnk) | (rw [nkK_f2 (by omega) (by rw [hnk]; omega)]; exact hnk))  hH (lv_sub hl [0, 2, 3, 4, 5] rfl)
        · have c48 := of_decide_eq_true c48
          refine lv_aload_n hx hb dX6_nearestKey_51 rfl (lv_at hl 4 rfl) ?_
          refine x_get hx hb hts hown hK hH 0 (ltw (by decide)) f0 hinX6 rfl 6 (by decide) (List.mem_of_getElem? (i := 3) rfl) rfl dX6_nearestKey_52 ?_
          refine x_get hx hb hts hown hK hH 75 (ltw (by decide)) f75 hinX5 rfl 0 (by decide) (List.mem_of_getElem? (i := 6) rfl) rfl dX6_nearestKey_55 ?_
          refine lv_iload hx hb dX6_nearestKey_58 (lv_at hl 0 rfl) ?_
          refine x_iald hx hb hK hH 76 (ltw (by decide)) f76 (by omega) (by omega) (by omega) dX6_nearestKey_60 ?_
          have hv20 := hdr (kp i)
          refine lv_iload_n hx hb dX6_nearestKey_61 rfl (lv_at hl 2 rfl) ?_
          refine x_icmp_ge (tgt := 79) hx hb dX6_nearestKey_62 (by decide) (by omega) (by omega) (fun c62 => ?_) (fun c62 => ?_)
          · refine x_iinc (lv' := [(4, .int (iZ (i + 1))), (5, .int (iZ (kp i))), (3, .int (iZ sh9)), (2, .int (iZ ne)), (0, .ref (xad E 0)), (1, .int (iZ w))]) hx hb dX6_nearestKey_79 hl (k := 1) rfl (by decide) rfl (fun ls hl => ?_)
            refine lv_goto (tgt := 24) hx hb dX6_nearestKey_82 (by decide) ?_
            exact ih24 ne sh9 (i + 1) _ _ _ (by omega) (by omega) (by omega) (by first | exact nkK_t (by omega) c48 (by rw [hnk]; omega) | (rw [nkK_f1 (by omega) c48]; exact hnk) | (rw [nkK_f2 (by omega) (by rw [hnk]; omega)]; exact hnk))  hH (lv_sub hl [0, 2, 3, 4, 5] rfl)
          · refine lv_iload hx hb dX6_nearestKey_65 (lv_at hl 1 rfl) ?_
            refine lv_istore_n (lv' := [(2, .int (iZ i)), (5, .int (iZ (kp i))), (4, .int (iZ i)), (3, .int (iZ sh9)), (0, .ref (xad E 0)), (1, .int (iZ w))]) hx hb dX6_nearestKey_67 rfl hl (by decide) rfl (fun ls hl => ?_)
            refine lv_aload_n hx hb dX6_nearestKey_68 rfl (lv_at hl 4 rfl) ?_
            refine x_get hx hb hts hown hK hH 0 (ltw (by decide)) f0 hinX6 rfl 6 (by decide) (List.mem_of_getElem? (i := 3) rfl) rfl dX6_nearestKey_69 ?_
            refine x_get hx hb hts hown hK hH 75 (ltw (by decide)) f75 hinX5 rfl 0 (by decide) (List.mem_of_getElem? (i := 6) rfl) rfl dX6_nearestKey_72 ?_
            refine lv_iload hx hb dX6_nearestKey_75 (lv_at hl 1 rfl) ?_
            refine x_iald hx hb hK hH 76 (ltw (by decide)) f76 (by omega) (by omega) (by omega) dX6_nearestKey_77 ?_
            have hv21 := hdr (kp i)
            refine lv_istore_n (lv' := [(3, .int (iZ ((dz (Gw op lk kp w) (wc w)) (kp i)))), (2, .int (iZ i)), (5, .int (iZ (kp i))), (4, .int (iZ i)), (0, .ref (xad E 0)), (1, .int (iZ w))]) hx hb dX6_nearestKey_78 rfl hl (by decide) rfl (fun ls hl => ?_)
            refine x_iinc (lv' := [(4, .int (iZ (i + 1))), (3, .int (iZ ((dz (Gw op lk kp w) (wc w)) (kp i)))), (2, .int (iZ i)), (5, .int (iZ (kp i))), (0, .ref (xad E 0)), (1, .int (iZ w))]) hx hb dX6_nearestKey_79 hl (k := 3) rfl (by decide) rfl (fun ls hl => ?_)
            refine lv_goto (tgt := 24) hx hb dX6_nearestKey_82 (by decide) ?_
            exact ih24 i ((dz (Gw op lk kp w) (wc w)) (kp i)) (i + 1) _ _ _ (by omega) (by omega) (by omega) (by first | exact nkK_t (by omega) c48 (by rw [hnk]; omega) | (rw [nkK_f1 (by omega) c48]; exact hnk) | (rw [nkK_f2 (by omega) (by rw [hnk]; omega)]; exact hnk))  hH (lv_sub hl [0, 1, 2, 4, 5] rfl)
  exact K24 7 (-1) 25 0 _ _ _ (by first | omega | decide) (by omega) (by omega) (by rfl)  hH (lv_sub hl [0, 1, 2, 3, 4] rfl)

def rm_X6_reachableShare0 : Room := { frames := 3, cells := 0, slots := 0, locals := 74 }
set_option maxRecDepth 100000 in
set_option maxHeartbeats 4000000 in
theorem c_X6_reachableShare0 (l : Launch) (E : xE) (ST : xST) (hSF : SF ST) (σ : xW) (w : Int) (hv : Bool) (se : Int) (sf : Int) (ll : Int) (op : Int → Int) (lk : Int → Int) (kp : Int → Int) (wc : Int → Int) (pn : Int) (nw : Int) (sh : Int) (wk : Int) (le : Int → Int) (rl : Int → Int) (fs : Int → Int) (qu : Int → Int) (gr : Int → Int) (hr0 : mn E σ hv se sf ll) (hr1 : bd E σ 1 op lk kp wc pn nw sh wk) (hr2 : sr E σ le rl fs qu gr) (hB : BI op lk kp wc pn nw) (hw9 : rg w) (hok : 0 ≤ w ∧ w < nw) : CF l E ST yX6_reachableShare wsX6_reachableShare rm_X6_reachableShare0 [.ref (xad E 0), .int (iZ w)] σ (fun z (u : xW) => z = shF (cnbK (fun c => decide (dz (Gw op lk kp w) (wc w) c < 25)) 25) ∧ (∃ (le1 rl1 fs1 qu1 gr1 : Int → Int), mn E u hv se sf ll ∧ bd E u 1 op lk kp wc pn nw sh wk ∧ sr E u le1 rl1 fs1 qu1 gr1) ∧ ∀ j : Nat, (j < 75 ∨ 75 + 6 ≤ j) → u j = σ j) := by
  have f0 : σ 0 = oB 4 [.ref (xad E 1), .ref (xad E 7), .ref (xad E 13), .ref (xad E 19), .int (iZ (b2 hv)), .ref (xad E 73), .ref (xad E 75), .ref (xad E 81), .int (iZ se), .int (iZ sf), .ref (xad E 84), .int (iZ ll)] := hr0
  obtain ⟨f1, f2, f3, f4, f5, ro1, f6⟩ := hr1
  obtain ⟨f75, f76, f77, f78, f79, f80⟩ := hr2
  refine CF_of (by decide) rfl (Nat.le_of_ble_eq_true rfl) ?_
  intro p e s m args below meth c Q ls G hH hl hQ
  obtain ⟨hx, hb, hml, hown, hts, hK, hST, hlocks, hr, hno⟩ := G
  have hOK := hSF.1
  have hown : s.vm.findClass RX6 = some m.cls := hown
  have hl : lv_has ls 2 [(0, .ref (xad E 0)), (1, .int (iZ w))] := hl
  have hinX6 : ∀ w ∈ u_ws RX6 TX6 12, w ∈ wsX6_reachableShare := fun w h => (List.mem_cons_of_mem _ (List.mem_append_left _ (List.mem_append_left _ (List.mem_append_left _ (List.mem_append_right _ h)))))
  obtain ⟨hop, hlk, hkp, hwc, hpn, hnw⟩ := id hB
  have hdr := dz_rg (G := Gw op lk kp w) (st := wc w) Gw_ok (hwc w)
  refine lv_aload_n hx hb dX6_reachableShare_0 rfl (lv_at hl 0 rfl) ?_
  refine x_get hx hb hts hown hK hH 0 (ltw (by decide)) f0 hinX6 rfl 6 (by decide) (List.mem_of_getElem? (i := 1) rfl) rfl dX6_reachableShare_1 ?_
  refine lv_aload_n hx hb dX6_reachableShare_4 rfl (lv_at hl 0 rfl) ?_
  refine x_get hx hb hts hown hK hH 0 (ltw (by decide)) f0 hinX6 rfl 0 (by decide) (List.mem_of_getElem? (i := 2) rfl) rfl dX6_reachableShare_5 ?_
  refine lv_aload_n hx hb dX6_reachableShare_8 rfl (lv_at hl 0 rfl) ?_
  refine lv_iload_n hx hb dX6_reachableShare_9 rfl (lv_at hl 1 rfl) ?_
  refine x_cVID (As := [.int (iZ w)]) (rest := [.ref (xad E 1), .ref (xad E 75)]) hx hb hml hts hown hK hST hOK hH 0 (c_X6_needWalker0 l E ST hSF σ w hv se sf ll op lk kp wc pn nw sh wk f0 ⟨f1, f2, f3, f4, f5, _, f6⟩ (by omega) (by omega) (by omega)) (cwV 1 hts gX6_reachableShare_X6_needWalker rfl rfl rfl (by decide +kernel) ⟨Nat.le_of_ble_eq_true rfl, Nat.le_of_ble_eq_true rfl⟩) (ltw (by decide)) f0 rfl rfl hl.1 rfl (Nat.le_of_ble_eq_true rfl) dX6_reachableShare_10 ⟨Nat.le_of_ble_eq_true rfl, Nat.le_of_ble_eq_true rfl⟩ (fun z u h => h) (fun H locs hH => ?_)
  refine x_cVV (As := [.ref (xad E 1), .int (iZ w)]) (rest := []) hx hb hml hts hown hK hST hOK hH 75 (c_X5_findPaths l E ST hSF σ 1 w op lk kp wc pn nw sh wk le rl fs qu gr ⟨f1, f2, f3, f4, f5, _, f6⟩ ⟨f75, f76, f77, f78, f79, f80⟩ (by omega) (by omega) (by omega)) (cwV 2 hts gX6_reachableShare_X5_findPaths rfl rfl rfl (by decide +kernel) ⟨Nat.le_of_ble_eq_true rfl, Nat.le_of_ble_eq_true rfl⟩) (ltw (by decide)) f75 rfl rfl hl.1 rfl (Nat.le_of_ble_eq_true rfl) dX6_reachableShare_13 ⟨Nat.le_of_ble_eq_true rfl, Nat.le_of_ble_eq_true rfl⟩ (fun σ5 H locs hp6 hH => ?_)
  obtain ⟨⟨fs1_8, qu1_9, ⟨f75, f76, f77, f78, f79, f80⟩, hf10⟩, fr7⟩ := hp6
  have f0 : σ5 0 = oB 4 [.ref (xad E 1), .ref (xad E 7), .ref (xad E 13), .ref (xad E 19), .int (iZ (b2 hv)), .ref (xad E 73), .ref (xad E 75), .ref (xad E 81), .int (iZ se), .int (iZ sf), .ref (xad E 84), .int (iZ ll)] := (fr7 0 (by omega) (by omega) (by omega)).trans f0
  have f1 : σ5 1 = oB 0 [.ref (xad E 2), .ref (xad E 3), .ref (xad E 4), .ref (xad E 5), .ref (xad E 6), .int (iZ pn), .int (iZ nw), .int (iZ sh), .long (lZ wk)] := (fr7 1 (by omega) (by omega) (by omega)).trans f1
  have f2 : σ5 2 = aI E 25 op := (fr7 2 (by omega) (by omega) (by omega)).trans f2
  have f3 : σ5 3 = aI E 25 lk := (fr7 3 (by omega) (by omega) (by omega)).trans f3
  have f4 : σ5 4 = aI E 6 kp := (fr7 4 (by omega) (by omega) (by omega)).trans f4
  have f5 : σ5 5 = aI E 3 wc := (fr7 5 (by omega) (by omega) (by omega)).trans f5
  have f6 : σ5 6 = aI E 5 ro1 := (fr7 6 (by omega) (by omega) (by omega)).trans f6
  refine lv_aload_n hx hb dX6_reachableShare_16 rfl (lv_at hl 0 rfl) ?_
  refine x_get hx hb hts hown hK hH 0 (ltw (by decide)) f0 hinX6 rfl 6 (by decide) (List.mem_of_getElem? (i := 1) rfl) rfl dX6_reachableShare_17 ?_
  refine x_cVID (As := []) (rest := []) hx hb hml hts hown hK hST hOK hH 75 (c_X5_countReached l E ST hSF σ5 (dz (Gw op lk kp w) (wc w)) rl fs1_8 qu1_9 gr ⟨f75, f76, f77, f78, f79, f80⟩ (by assumption)) (cwV 0 hts gX6_reachableShare_X5_countReached rfl rfl rfl (by decide +kernel) ⟨Nat.le_of_ble_eq_true rfl, Nat.le_of_ble_eq_true rfl⟩) (ltw (by decide)) f75 rfl rfl hl.1 rfl (Nat.le_of_ble_eq_true rfl) dX6_reachableShare_20 ⟨Nat.le_of_ble_eq_true rfl, Nat.le_of_ble_eq_true rfl⟩ (fun z u h => h) (fun H locs hH => ?_)
  have hcb := cnbK_b (P := fun c => decide (dz (Gw op lk kp w) (wc w) c < 25)) (n := 25) (by decide)
  refine lv_i2f hx hb dX6_reachableShare_23 ?_
  refine lv_ldcf (v := 1103626240) hx hb hown (hts _ (List.mem_of_getElem? (i := 3) rfl)) dX6_reachableShare_24 ?_
  refine lv_fdiv hx hb dX6_reachableShare_26 (by exact shF_n hcb.1 hcb.2) ?_
  subst hQ
  exact x_fret hx hb hr hlocks hH (Nat.le_of_ble_eq_true rfl) (Nat.le_of_ble_eq_true rfl) ⟨(show (FP.fdiv (FP.i2f (iZ (cnbK (fun c => decide ((dz (Gw op lk kp w) (wc w)) c < 25)) 25))) 1103626240) = (shF (cnbK (fun c => decide (dz (Gw op lk kp w) (wc w) c < 25)) 25)) from (by rfl)), ⟨(dz (Gw op lk kp w) (wc w)), rl, fs1_8, qu1_9, gr, f0, ⟨f1, f2, f3, f4, f5, _, f6⟩, ⟨f75, f76, f77, f78, f79, f80⟩⟩, fun j hj0 => (fr7 j (by omega) (by omega) (by omega))⟩ dX6_reachableShare_27

def rm_X6_helpfulShifts0 : Room := { frames := 4, cells := 0, slots := 0, locals := 100 }
set_option maxRecDepth 100000 in
set_option maxHeartbeats 4000000 in
theorem c_X6_helpfulShifts0 (l : Launch) (E : xE) (ST : xST) (hSF : SF ST) (σ : xW) (w : Int) (r : Int) (c0 : Int) (hv : Bool) (se : Int) (sf : Int) (ll : Int) (op : Int → Int) (lk : Int → Int) (kp : Int → Int) (wc : Int → Int) (pn : Int) (nw : Int) (sh : Int) (wk : Int) (top : Int → Int) (tlk : Int → Int) (tkp : Int → Int) (twc : Int → Int) (tpn : Int) (tnw : Int) (tsh : Int) (twk : Int) (le : Int → Int) (rl : Int → Int) (fs : Int → Int) (qu : Int → Int) (gr : Int → Int) (hr0 : mn E σ hv se sf ll) (hr1 : bd E σ 1 op lk kp wc pn nw sh wk) (hr2 : bd E σ 13 top tlk tkp twc tpn tnw tsh twk) (hr3 : sr E σ le rl fs qu gr) (hB : BI op lk kp wc pn nw) (hw9 : rg w) (hr9 : rg r) (hc9 : rg c0) (hok : 0 ≤ w ∧ w < nw) (hok2 : okC r c0) : CI l E ST yX6_helpfulShifts wsX6_helpfulShifts rm_X6_helpfulShifts0 [.ref (xad E 0), .int (iZ w), .int (iZ r), .int (iZ c0)] σ (fun (z : Int) (u : xW) => z = smK (fun i => hpF op lk kp wc pn nw w (r * 5 + c0) (i * 5) 1 + hpF op lk kp wc pn nw w (r * 5 + c0) i 5) 5 ∧ (∃ (top1 tlk1 tkp1 twc1 : Int → Int) (tpn1 tnw1 tsh1 twk1 : Int) (le1 rl1 fs1 qu1 gr1 : Int → Int), bd E u 13 top1 tlk1 tkp1 twc1 tpn1 tnw1 tsh1 twk1 ∧ sr E u le1 rl1 fs1 qu1 gr1) ∧ ∀ j : Nat, (j < 13 ∨ 13 + 6 ≤ j) → (j < 75 ∨ 75 + 6 ≤ j) → u j = σ j) := by
  have f0 : σ 0 = oB 4 [.ref (xad E 1), .ref (xad E 7), .ref (xad E 13), .ref (xad E 19), .int (iZ (b2 hv)), .ref (xad E 73), .ref (xad E 75), .ref (xad E 81), .int (iZ se), .int (iZ sf), .ref (xad E 84), .int (iZ ll)] := hr0
  obtain ⟨f1, f2, f3, f4, f5, ro1, f6⟩ := hr1
  obtain ⟨f13, f14, f15, f16, f17, ro2, f18⟩ := hr2
  obtain ⟨f75, f76, f77, f78, f79, f80⟩ := hr3
  refine CI_of (by decide) rfl (Nat.le_of_ble_eq_true rfl) ?_
  intro p e s m args below meth c Q ls G hH hl hQ
  obtain ⟨hx, hb, hml, hown, hts, hK, hST, hlocks, hr, hno⟩ := G
  have hOK := hSF.1
  have hown : s.vm.findClass RX6 = some m.cls := hown
  have hl : lv_has ls 7 [(0, .ref (xad E 0)), (1, .int (iZ w)), (2, .int (iZ r)), (3, .int (iZ c0))] := hl
  obtain ⟨hop, hlk, hkp, hwc, hpn, hnw⟩ := id hB
  refine lv_aload_n hx hb dX6_helpfulShifts_0 rfl (lv_at hl 0 rfl) ?_
  refine lv_iload_n hx hb dX6_helpfulShifts_1 rfl (lv_at hl 1 rfl) ?_
  refine x_cVID (As := [.int (iZ w)]) (rest := []) hx hb hml hts hown hK hST hOK hH 0 (c_X6_needWalker0 l E ST hSF σ w hv se sf ll op lk kp wc pn nw sh wk f0 ⟨f1, f2, f3, f4, f5, _, f6⟩ (by omega) (by omega) (by omega)) (cwV 1 hts gX6_helpfulShifts_X6_needWalker rfl rfl rfl (by decide +kernel) ⟨Nat.le_of_ble_eq_true rfl, Nat.le_of_ble_eq_true rfl⟩) (ltw (by decide)) f0 rfl rfl hl.1 rfl (Nat.le_of_ble_eq_true rfl) dX6_helpfulShifts_2 ⟨Nat.le_of_ble_eq_true rfl, Nat.le_of_ble_eq_true rfl⟩ (fun z u h => h) (fun H locs hH => ?_)
  refine lv_pop hx hb dX6_helpfulShifts_5 rfl ?_
  refine lv_iload_n hx hb dX6_helpfulShifts_6 rfl (lv_at hl 2 rfl) ?_
  refine lv_iload_n hx hb dX6_helpfulShifts_7 rfl (lv_at hl 3 rfl) ?_
  refine x_cSID (As := [.int (iZ r), .int (iZ c0)]) (rest := []) hx hb hml hts hown hK hST hOK hH (c_X6_needCell0 l E ST hSF σ r c0  (by omega) (by omega) (by omega)) (va_cwS 2 hts gX6_helpfulShifts_X6_needCell rfl rfl rfl (by decide +kernel) ⟨Nat.le_of_ble_eq_true rfl, Nat.le_of_ble_eq_true rfl⟩) rfl hl.1 rfl (Nat.le_of_ble_eq_true rfl) dX6_helpfulShifts_8 ⟨Nat.le_of_ble_eq_true rfl, Nat.le_of_ble_eq_true rfl⟩ (fun z u h => h) (fun H locs hH => ?_)
  refine lv_istore (lv' := [(4, .int (iZ (r * 5 + c0))), (0, .ref (xad E 0)), (1, .int (iZ w)), (2, .int (iZ r)), (3, .int (iZ c0))]) hx hb dX6_helpfulShifts_11 hl (by decide) rfl (fun ls hl => ?_)
  refine x_iconst hx hb dX6_helpfulShifts_13 ?_
  refine lv_istore (lv' := [(5, .int (iZ 0)), (4, .int (iZ (r * 5 + c0))), (0, .ref (xad E 0)), (1, .int (iZ w)), (2, .int (iZ r)), (3, .int (iZ c0))]) hx hb dX6_helpfulShifts_14 hl (by decide) rfl (fun ls hl => ?_)
  refine x_iconst hx hb dX6_helpfulShifts_16 ?_
  refine lv_istore (lv' := [(6, .int (iZ 0)), (5, .int (iZ 0)), (4, .int (iZ (r * 5 + c0))), (0, .ref (xad E 0)), (1, .int (iZ w)), (2, .int (iZ r)), (3, .int (iZ c0))]) hx hb dX6_helpfulShifts_17 hl (by decide) rfl (fun ls hl => ?_)
  have K19 : ∀ (nK : Nat) (h9 i9 : Int) (to2 tl2 tk2 tc2 tr2 : Int → Int) (tp2 tn2 ts2 tw2 : Int) (lx2 rx2 fx2 qx2 gx2 : Int → Int) (σ7 : xW) (H : Heap) (locs : List Loc) (ls : Array Slot), (5 - i9).toNat < nK → ((0 ≤ i9 ∧ i9 ≤ 5) ∧ 0 ≤ h9 ∧ h9 ≤ 4 * i9) → (h9 = smK (fun i => hpF op lk kp wc pn nw w (r * 5 + c0) (i * 5) 1 + hpF op lk kp wc pn nw w (r * 5 + c0) i 5) i9) → σ7 0 = oB 4 [.ref (xad E 1), .ref (xad E 7), .ref (xad E 13), .ref (xad E 19), .int (iZ (b2 hv)), .ref (xad E 73), .ref (xad E 75), .ref (xad E 81), .int (iZ se), .int (iZ sf), .ref (xad E 84), .int (iZ ll)] → σ7 1 = oB 0 [.ref (xad E 2), .ref (xad E 3), .ref (xad E 4), .ref (xad E 5), .ref (xad E 6), .int (iZ pn), .int (iZ nw), .int (iZ sh), .long (lZ wk)] → σ7 2 = aI E 25 op → σ7 3 = aI E 25 lk → σ7 4 = aI E 6 kp → σ7 5 = aI E 3 wc → σ7 6 = aI E 5 ro1 → σ7 13 = oB 0 [.ref (xad E 14), .ref (xad E 15), .ref (xad E 16), .ref (xad E 17), .ref (xad E 18), .int (iZ tp2), .int (iZ tn2), .int (iZ ts2), .long (lZ tw2)] → σ7 14 = aI E 25 to2 → σ7 15 = aI E 25 tl2 → σ7 16 = aI E 6 tk2 → σ7 17 = aI E 3 tc2 → σ7 18 = aI E 5 tr2 → σ7 75 = oB 3 [.ref (xad E 76), .ref (xad E 77), .ref (xad E 78), .ref (xad E 79), .ref (xad E 80)] → σ7 76 = aI E 25 lx2 → σ7 77 = aI E 25 rx2 → σ7 78 = aI E 25 fx2 → σ7 79 = aI E 25 qx2 → σ7 80 = aI E 25 gx2 → (∀ j : Nat, (j < 13 ∨ 13 + 6 ≤ j) → (j < 75 ∨ 75 + 6 ≤ j) → σ7 j = σ j) → Hx E (xA E s.heap.size) s.heap σ7 H locs → lv_has ls 7 [(6, .int (iZ i9)), (5, .int (iZ h9)), (4, .int (iZ (r * 5 + c0))), (0, .ref (xad E 0)), (1, .int (iZ w)), (2, .int (iZ r)), (3, .int (iZ c0))] → W p l e rm_X6_helpfulShifts0 s m args below meth c H locs 0 0 Q (F0 m 19 ls []) := by
    intro n19
    induction n19 with
    | zero =>
      intro h9 i9 to2 tl2 tk2 tc2 tr2 tp2 tn2 ts2 tw2 lx2 rx2 fx2 qx2 gx2 σ7 H locs ls hm
      exact absurd hm (by first | exact Nat.not_lt_zero _ | omega)
    | succ n19 ih19 =>
      intro h9 i9 to2 tl2 tk2 tc2 tr2 tp2 tn2 ts2 tw2 lx2 rx2 fx2 qx2 gx2 σ7 H locs ls hm19 hi9 hh9 f0 f1 f2 f3 f4 f5 f6 f13 f14 f15 f16 f17 f18 f75 f76 f77 f78 f79 f80 fr8 hH hl
      refine lv_iload hx hb dX6_helpfulShifts_19 (lv_at hl 0 rfl) ?_
      refine x_iconst hx hb dX6_helpfulShifts_21 ?_
      refine x_icmp_ge (tgt := 63) hx hb dX6_helpfulShifts_22 (by decide) (by omega) (by decide) (fun c22 => ?_) (fun c22 => ?_)
      · refine lv_iload hx hb dX6_helpfulShifts_63 (lv_at hl 1 rfl) ?_
        subst hQ
        exact x_iret hx hb hr hlocks hH (Nat.le_of_ble_eq_true rfl) (Nat.le_of_ble_eq_true rfl) ⟨(show h9 = (smK (fun i => hpF op lk kp wc pn nw w (r * 5 + c0) (i * 5) 1 + hpF op lk kp wc pn nw w (r * 5 + c0) i 5) 5) from (by have e9 : i9 = 5 := (by omega); subst e9; exact hh9)), ⟨to2, tl2, tk2, tc2, tp2, tn2, ts2, tw2, lx2, rx2, fx2, qx2, gx2, ⟨f13, f14, f15, f16, f17, _, f18⟩, ⟨f75, f76, f77, f78, f79, f80⟩⟩, fun j hj0 hj1 => (fr8 j (by omega) (by omega))⟩ dX6_helpfulShifts_65
      · refine lv_iload hx hb dX6_helpfulShifts_25 (lv_at hl 1 rfl) ?_
        refine lv_aload_n hx hb dX6_helpfulShifts_27 rfl (lv_at hl 3 rfl) ?_
        refine lv_iload_n hx hb dX6_helpfulShifts_28 rfl (lv_at hl 4 rfl) ?_
        refine lv_iload hx hb dX6_helpfulShifts_29 (lv_at hl 2 rfl) ?_
        refine lv_iload hx hb dX6_helpfulShifts_31 (lv_at hl 0 rfl) ?_
        refine x_iconst hx hb dX6_helpfulShifts_33 ?_
        refine x_imul hx hb dX6_helpfulShifts_34 ?_
        refine x_iconst hx hb dX6_helpfulShifts_35 ?_
        refine x_cVIE (As := [.int (iZ w), .int (iZ (r * 5 + c0)), .int (iZ (i9 * 5)), .int (iZ 1)]) (rest := [.int (iZ h9)]) hx hb hml hts hown hK hST hOK hH 0 (c_X6_countHelpful l E ST hSF σ7 w (r * 5 + c0) (i9 * 5) 1 hv se sf ll op lk kp wc pn nw sh wk to2 tl2 tk2 tc2 tp2 tn2 ts2 tw2 lx2 rx2 fx2 qx2 gx2 f0 ⟨f1, f2, f3, f4, f5, _, f6⟩ ⟨f13, f14, f15, f16, f17, _, f18⟩ ⟨f75, f76, f77, f78, f79, f80⟩ (by omega) (by omega) (by omega) (Or.inl ⟨rfl, by omega, by omega⟩)) (cwV 4 hts gX6_helpfulShifts_X6_countHelpful rfl rfl rfl (by decide +kernel) ⟨Nat.le_of_ble_eq_true rfl, Nat.le_of_ble_eq_true rfl⟩) (ltw (by decide)) f0 rfl rfl hl.1 rfl (Nat.le_of_ble_eq_true rfl) dX6_helpfulShifts_36 ⟨Nat.le_of_ble_eq_true rfl, Nat.le_of_ble_eq_true rfl⟩ (fun z u h => h) (fun σ10 H locs hp11 hH => ?_)
        obtain ⟨⟨top1_13, tlk1_14, tkp1_15, twc1_16, tpn1_17, tnw1_18, tsh1_19, twk1_20, le1_21, rl1_22, fs1_23, qu1_24, gr1_25, ⟨f13, f14, f15, f16, f17, ro26, f18⟩, ⟨f75, f76, f77, f78, f79, f80⟩⟩, fr12⟩ := hp11
        have f0 : σ10 0 = oB 4 [.ref (xad E 1), .ref (xad E 7), .ref (xad E 13), .ref (xad E 19), .int (iZ (b2 hv)), .ref (xad E 73), .ref (xad E 75), .ref (xad E 81), .int (iZ se), .int (iZ sf), .ref (xad E 84), .int (iZ ll)] := (fr12 0 (by omega) (by omega)).trans f0
        have f1 : σ10 1 = oB 0 [.ref (xad E 2), .ref (xad E 3), .ref (xad E 4), .ref (xad E 5), .ref (xad E 6), .int (iZ pn), .int (iZ nw), .int (iZ sh), .long (lZ wk)] := (fr12 1 (by omega) (by omega)).trans f1
        have f2 : σ10 2 = aI E 25 op := (fr12 2 (by omega) (by omega)).trans f2
        have f3 : σ10 3 = aI E 25 lk := (fr12 3 (by omega) (by omega)).trans f3
        have f4 : σ10 4 = aI E 6 kp := (fr12 4 (by omega) (by omega)).trans f4
        have f5 : σ10 5 = aI E 3 wc := (fr12 5 (by omega) (by omega)).trans f5
        have f6 : σ10 6 = aI E 5 ro1 := (fr12 6 (by omega) (by omega)).trans f6
        have hq1 := hpF_b (op := op) (lk := lk) (kp := kp) (wc := wc) (pn := pn) (nw := nw) (w := w) (cell := r * 5 + c0) (first := i9 * 5) (strd := 1)
        refine x_iadd hx hb dX6_helpfulShifts_39 ?_
        refine lv_istore (lv' := [(5, .int (iZ (h9 + (hpF op lk kp wc pn nw w (r * 5 + c0) (i9 * 5) 1)))), (6, .int (iZ i9)), (4, .int (iZ (r * 5 + c0))), (0, .ref (xad E 0)), (1, .int (iZ w)), (2, .int (iZ r)), (3, .int (iZ c0))]) hx hb dX6_helpfulShifts_40 hl (by decide) rfl (fun ls hl => ?_)
        refine lv_iload hx hb dX6_helpfulShifts_42 (lv_at hl 0 rfl) ?_
        refine lv_aload_n hx hb dX6_helpfulShifts_44 rfl (lv_at hl 3 rfl) ?_
        refine lv_iload_n hx hb dX6_helpfulShifts_45 rfl (lv_at hl 4 rfl) ?_
        refine lv_iload hx hb dX6_helpfulShifts_46 (lv_at hl 2 rfl) ?_
        refine lv_iload hx hb dX6_helpfulShifts_48 (lv_at hl 1 rfl) ?_
        refine x_iconst hx hb dX6_helpfulShifts_50 ?_
        refine x_cVIE (As := [.int (iZ w), .int (iZ (r * 5 + c0)), .int (iZ i9), .int (iZ 5)]) (rest := [.int (iZ (h9 + (hpF op lk kp wc pn nw w (r * 5 + c0) (i9 * 5) 1)))]) hx hb hml hts hown hK hST hOK hH 0 (c_X6_countHelpful l E ST hSF σ10 w (r * 5 + c0) i9 5 hv se sf ll op lk kp wc pn nw sh wk top1_13 tlk1_14 tkp1_15 twc1_16 tpn1_17 tnw1_18 tsh1_19 twk1_20 le1_21 rl1_22 fs1_23 qu1_24 gr1_25 f0 ⟨f1, f2, f3, f4, f5, _, f6⟩ ⟨f13, f14, f15, f16, f17, _, f18⟩ ⟨f75, f76, f77, f78, f79, f80⟩ (by omega) (by omega) (by omega) (Or.inr ⟨rfl, by omega, by omega⟩)) (cwV 4 hts gX6_helpfulShifts_X6_countHelpful rfl rfl rfl (by decide +kernel) ⟨Nat.le_of_ble_eq_true rfl, Nat.le_of_ble_eq_true rfl⟩) (ltw (by decide)) f0 rfl rfl hl.1 rfl (Nat.le_of_ble_eq_true rfl) dX6_helpfulShifts_51 ⟨Nat.le_of_ble_eq_true rfl, Nat.le_of_ble_eq_true rfl⟩ (fun z u h => h) (fun σ29 H locs hp30 hH => ?_)
        obtain ⟨⟨top1_32, tlk1_33, tkp1_34, twc1_35, tpn1_36, tnw1_37, tsh1_38, twk1_39, le1_40, rl1_41, fs1_42, qu1_43, gr1_44, ⟨f13, f14, f15, f16, f17, ro45, f18⟩, ⟨f75, f76, f77, f78, f79, f80⟩⟩, fr31⟩ := hp30
        have f0 : σ29 0 = oB 4 [.ref (xad E 1), .ref (xad E 7), .ref (xad E 13), .ref (xad E 19), .int (iZ (b2 hv)), .ref (xad E 73), .ref (xad E 75), .ref (xad E 81), .int (iZ se), .int (iZ sf), .ref (xad E 84), .int (iZ ll)] := (fr31 0 (by omega) (by omega)).trans f0
        have f1 : σ29 1 = oB 0 [.ref (xad E 2), .ref (xad E 3), .ref (xad E 4), .ref (xad E 5), .ref (xad E 6), .int (iZ pn), .int (iZ nw), .int (iZ sh), .long (lZ wk)] := (fr31 1 (by omega) (by omega)).trans f1
        have f2 : σ29 2 = aI E 25 op := (fr31 2 (by omega) (by omega)).trans f2
        have f3 : σ29 3 = aI E 25 lk := (fr31 3 (by omega) (by omega)).trans f3
        have f4 : σ29 4 = aI E 6 kp := (fr31 4 (by omega) (by omega)).trans f4
        have f5 : σ29 5 = aI E 3 wc := (fr31 5 (by omega) (by omega)).trans f5
        have f6 : σ29 6 = aI E 5 ro1 := (fr31 6 (by omega) (by omega)).trans f6
        have hq2 := hpF_b (op := op) (lk := lk) (kp := kp) (wc := wc) (pn := pn) (nw := nw) (w := w) (cell := r * 5 + c0) (first := i9) (strd := 5)
        refine x_iadd hx hb dX6_helpfulShifts_54 ?_
        refine lv_istore (lv' := [(5, .int (iZ ((h9 + (hpF op lk kp wc pn nw w (r * 5 + c0) (i9 * 5) 1)) + (hpF op lk kp wc pn nw w (r * 5 + c0) i9 5)))), (6, .int (iZ i9)), (4, .int (iZ (r * 5 + c0))), (0, .ref (xad E 0)), (1, .int (iZ w)), (2, .int (iZ r)), (3, .int (iZ c0))]) hx hb dX6_helpfulShifts_55 hl (by decide) rfl (fun ls hl => ?_)
        refine x_iinc (lv' := [(6, .int (iZ (i9 + 1))), (5, .int (iZ ((h9 + (hpF op lk kp wc pn nw w (r * 5 + c0) (i9 * 5) 1)) + (hpF op lk kp wc pn nw w (r * 5 + c0) i9 5)))), (4, .int (iZ (r * 5 + c0))), (0, .ref (xad E 0)), (1, .int (iZ w)), (2, .int (iZ r)), (3, .int (iZ c0))]) hx hb dX6_helpfulShifts_57 hl (k := 1) rfl (by decide) rfl (fun ls hl => ?_)
        refine lv_goto (tgt := 19) hx hb dX6_helpfulShifts_60 (by decide) ?_
        exact ih19 ((h9 + (hpF op lk kp wc pn nw w (r * 5 + c0) (i9 * 5) 1)) + (hpF op lk kp wc pn nw w (r * 5 + c0) i9 5)) (i9 + 1) top1_32 tlk1_33 tkp1_34 twc1_35 ro45 tpn1_36 tnw1_37 tsh1_38 twk1_39 le1_40 rl1_41 fs1_42 qu1_43 gr1_44 σ29 _ _ _ (by omega) (by omega) (by rw [smK_s (by omega), ← hh9]; exact Int.add_assoc _ _ _) f0 f1 f2 f3 f4 f5 f6 f13 f14 f15 f16 f17 f18 f75 f76 f77 f78 f79 f80 (fun j hj0 hj1 => ((fr31 j (by omega) (by omega)).trans ((fr12 j (by omega) (by omega)).trans (fr8 j (by omega) (by omega))))) hH (lv_sub hl [0, 1, 2, 3, 4, 5, 6] rfl)
  exact K19 6 0 0 top tlk tkp twc ro2 tpn tnw tsh twk le rl fs qu gr σ _ _ _ (by first | omega | decide) (by omega) (by rfl) f0 f1 f2 f3 f4 f5 f6 f13 f14 f15 f16 f17 f18 f75 f76 f77 f78 f79 f80 (fun j _ _ => rfl) hH (lv_sub hl [0, 1, 2, 3, 4, 5, 6] rfl)

def rm_X6_outputAt0 : Room := { frames := 0, cells := 0, slots := 0, locals := 0 }
set_option maxRecDepth 100000 in
set_option maxHeartbeats 4000000 in
theorem c_X6_outputAt0 (l : Launch) (E : xE) (ST : xST) (hSF : SF ST) (σ : xW) (i9 : Int) (hv : Bool) (se : Int) (sf : Int) (ll : Int) (ln : Int → Int) (hr0 : mn E σ hv se sf ll) (hr1 : cln E σ ln) (hi9 : rg i9) (hll : 0 ≤ ll ∧ ll ≤ 35) (hln : ∀ j, 0 ≤ ln j ∧ ln j ≤ 65535) (hok : 0 ≤ i9 ∧ i9 < ll) : CI l E ST yX6_outputAt wsX6_outputAt rm_X6_outputAt0 [.ref (xad E 0), .int (iZ i9)] σ (fun (z : Int) (u : xW) => z = ln i9 ∧ u = σ) := by
  have f0 : σ 0 = oB 4 [.ref (xad E 1), .ref (xad E 7), .ref (xad E 13), .ref (xad E 19), .int (iZ (b2 hv)), .ref (xad E 73), .ref (xad E 75), .ref (xad E 81), .int (iZ se), .int (iZ sf), .ref (xad E 84), .int (iZ ll)] := hr0
  have f84 : σ 84 = aC E 35 ln := hr1
  refine CI_of (by decide) rfl (Nat.le_of_ble_eq_true rfl) ?_
  intro p e s m args below meth c Q ls G hH hl hQ
  obtain ⟨hx, hb, hml, hown, hts, hK, hST, hlocks, hr, hno⟩ := G
  have hOK := hSF.1
  have hown : s.vm.findClass RX6 = some m.cls := hown
  have hl : lv_has ls 2 [(0, .ref (xad E 0)), (1, .int (iZ i9))] := hl
  have hinX6 : ∀ w ∈ u_ws RX6 TX6 12, w ∈ wsX6_outputAt := fun w h => (List.mem_cons_of_mem _ (List.mem_append_left _ (List.mem_append_right _ h)))
  refine lv_iload_n hx hb dX6_outputAt_0 rfl (lv_at hl 1 rfl) ?_
  refine x_if_lt (tgt := 12) hx hb dX6_outputAt_1 (by decide) (by omega) (fun c1 => ?_) (fun c1 => ?_)
  · exfalso; omega
  · refine lv_iload_n hx hb dX6_outputAt_4 rfl (lv_at hl 1 rfl) ?_
    refine lv_aload_n hx hb dX6_outputAt_5 rfl (lv_at hl 0 rfl) ?_
    refine x_get hx hb hts hown hK hH 0 (ltw (by decide)) f0 hinX6 rfl 11 (by decide) (List.mem_of_getElem? (i := 3) rfl) rfl dX6_outputAt_6 ?_
    refine x_icmp_lt (tgt := 23) hx hb dX6_outputAt_9 (by decide) (by omega) (by omega) (fun c9 => ?_) (fun c9 => ?_)
    · refine lv_aload_n hx hb dX6_outputAt_23 rfl (lv_at hl 0 rfl) ?_
      refine x_get hx hb hts hown hK hH 0 (ltw (by decide)) f0 hinX6 rfl 10 (by decide) (List.mem_of_getElem? (i := 4) rfl) rfl dX6_outputAt_24 ?_
      refine lv_iload_n hx hb dX6_outputAt_27 rfl (lv_at hl 1 rfl) ?_
      refine x_cald hx hb hK hH 84 (ltw (by decide)) f84 (by omega) (by omega) (by omega) dX6_outputAt_28 ?_
      have hv1 := hln i9
      subst hQ
      exact x_cret hx hb hr hlocks hH (Nat.le_of_ble_eq_true rfl) (Nat.le_of_ble_eq_true rfl) (by omega) (by omega) ⟨(show (ln i9) = (ln i9) from (by first | rfl | omega | simp_all)), rfl⟩ dX6_outputAt_29
    · exfalso; omega

def rm_X6_writeRow0 : Room := { frames := 2, cells := 0, slots := 0, locals := 46 }
set_option maxRecDepth 100000 in
set_option maxHeartbeats 4000000 in
theorem c_X6_writeRow0 (l : Launch) (E : xE) (ST : xST) (hSF : SF ST) (σ : xW) (r : Int) (hv : Bool) (se : Int) (sf : Int) (ll : Int) (op : Int → Int) (lk : Int → Int) (kp : Int → Int) (wc : Int → Int) (pn : Int) (nw : Int) (sh : Int) (wk : Int) (lq : Int → Int) (hr0 : mn E σ hv se sf ll) (hr1 : bd E σ 1 op lk kp wc pn nw sh wk) (hr2 : cln E σ lq) (hB : BI op lk kp wc pn nw) (hr9 : rg r) (hok : 0 ≤ r ∧ r < 5) : CI l E ST yX6_writeRow wsX6_writeRow rm_X6_writeRow0 [.ref (xad E 0), .int (iZ r)] σ (fun (z : Int) (u : xW) => z = (List.foldl wrF (lq, 0) (rwL op lk kp wc pn nw r 5)).2 ∧ (mn E u hv se sf ((List.foldl wrF (lq, 0) (rwL op lk kp wc pn nw r 5)).2) ∧ bd E u 1 op lk kp wc pn nw sh wk ∧ cln E u ((List.foldl wrF (lq, 0) (rwL op lk kp wc pn nw r 5)).1)) ∧ ∀ j : Nat, j ≠ 0 → j ≠ 84 → u j = σ j) := by
  have f0 : σ 0 = oB 4 [.ref (xad E 1), .ref (xad E 7), .ref (xad E 13), .ref (xad E 19), .int (iZ (b2 hv)), .ref (xad E 73), .ref (xad E 75), .ref (xad E 81), .int (iZ se), .int (iZ sf), .ref (xad E 84), .int (iZ ll)] := hr0
  obtain ⟨f1, f2, f3, f4, f5, ro1, f6⟩ := hr1
  have f84 : σ 84 = aC E 35 lq := hr2
  refine CI_of (by decide) rfl (Nat.le_of_ble_eq_true rfl) ?_
  intro p e s m args below meth c Q ls G hH hl hQ
  obtain ⟨hx, hb, hml, hown, hts, hK, hST, hlocks, hr, hno⟩ := G
  have hOK := hSF.1
  have hown : s.vm.findClass RX6 = some m.cls := hown
  have hl : lv_has ls 4 [(0, .ref (xad E 0)), (1, .int (iZ r))] := hl
  have hinX6 : ∀ w ∈ u_ws RX6 TX6 12, w ∈ wsX6_writeRow := fun w h => (List.mem_cons_of_mem _ (List.mem_append_left _ (List.mem_append_left _ (List.mem_append_right _ h))))
  obtain ⟨hop, hlk, hkp, hwc, hpn, hnw⟩ := id hB
  refine lv_iload_n hx hb dX6_writeRow_0 rfl (lv_at hl 1 rfl) ?_
  refine x_cSID (As := [.int (iZ r)]) (rest := []) hx hb hml hts hown hK hST hOK hH (c_X6_needLine0 l E ST hSF σ r  (by omega) (by omega)) (va_cwS 1 hts gX6_writeRow_X6_needLine rfl rfl rfl (by decide +kernel) ⟨Nat.le_of_ble_eq_true rfl, Nat.le_of_ble_eq_true rfl⟩) rfl hl.1 rfl (Nat.le_of_ble_eq_true rfl) dX6_writeRow_1 ⟨Nat.le_of_ble_eq_true rfl, Nat.le_of_ble_eq_true rfl⟩ (fun z u h => h) (fun H locs hH => ?_)
  refine x_iconst hx hb dX6_writeRow_4 ?_
  refine x_imul hx hb dX6_writeRow_5 ?_
  refine lv_istore_n (lv' := [(2, .int (iZ (r * 5))), (0, .ref (xad E 0)), (1, .int (iZ r))]) hx hb dX6_writeRow_6 rfl hl (by decide) rfl (fun ls hl => ?_)
  refine lv_aload_n hx hb dX6_writeRow_7 rfl (lv_at hl 1 rfl) ?_
  refine x_iconst hx hb dX6_writeRow_8 ?_
  refine x_put (fs' := [.ref (xad E 1), .ref (xad E 7), .ref (xad E 13), .ref (xad E 19), .int (iZ (b2 hv)), .ref (xad E 73), .ref (xad E 75), .ref (xad E 81), .int (iZ se), .int (iZ sf), .ref (xad E 84), .int (iZ 0)]) hx hb hts hown hK hH 0 (ltw (by decide)) f0 hinX6 rfl tyX6 tyX6_ok nmX6 11 (by decide) (List.mem_of_getElem? (i := 1) rfl) rfl (ty := .int) (by decide +kernel) rfl rfl (Nat.le_of_ble_eq_true rfl) rfl dX6_writeRow_9 (fun σ4 H locs f0 fr5 hH => ?_)
  have f1 : σ4 1 = oB 0 [.ref (xad E 2), .ref (xad E 3), .ref (xad E 4), .ref (xad E 5), .ref (xad E 6), .int (iZ pn), .int (iZ nw), .int (iZ sh), .long (lZ wk)] := (fr5 1 (by omega)).trans f1
  have f2 : σ4 2 = aI E 25 op := (fr5 2 (by omega)).trans f2
  have f3 : σ4 3 = aI E 25 lk := (fr5 3 (by omega)).trans f3
  have f4 : σ4 4 = aI E 6 kp := (fr5 4 (by omega)).trans f4
  have f5 : σ4 5 = aI E 3 wc := (fr5 5 (by omega)).trans f5
  have f6 : σ4 6 = aI E 5 ro1 := (fr5 6 (by omega)).trans f6
  have f84 : σ4 84 = aC E 35 lq := (fr5 84 (by omega)).trans f84
  refine x_iconst hx hb dX6_writeRow_12 ?_
  refine lv_istore_n (lv' := [(3, .int (iZ 0)), (2, .int (iZ (r * 5))), (0, .ref (xad E 0)), (1, .int (iZ r))]) hx hb dX6_writeRow_13 rfl hl (by decide) rfl (fun ls hl => ?_)
  have K14 : ∀ (nK : Nat) (i : Int) (lqx : Int → Int) (llx : Int) (σ6 : xW) (H : Heap) (locs : List Loc) (ls : Array Slot), (5 - i).toNat < nK → (0 ≤ i ∧ i ≤ 5) → (0 ≤ llx ∧ llx ≤ 35) → ((lqx, llx) = List.foldl wrF (lq, 0) (rwL op lk kp wc pn nw r i)) → σ6 0 = oB 4 [.ref (xad E 1), .ref (xad E 7), .ref (xad E 13), .ref (xad E 19), .int (iZ (b2 hv)), .ref (xad E 73), .ref (xad E 75), .ref (xad E 81), .int (iZ se), .int (iZ sf), .ref (xad E 84), .int (iZ llx)] → σ6 1 = oB 0 [.ref (xad E 2), .ref (xad E 3), .ref (xad E 4), .ref (xad E 5), .ref (xad E 6), .int (iZ pn), .int (iZ nw), .int (iZ sh), .long (lZ wk)] → σ6 2 = aI E 25 op → σ6 3 = aI E 25 lk → σ6 4 = aI E 6 kp → σ6 5 = aI E 3 wc → σ6 6 = aI E 5 ro1 → σ6 84 = aC E 35 lqx → (∀ j : Nat, j ≠ 0 → j ≠ 84 → σ6 j = σ4 j) → Hx E (xA E s.heap.size) s.heap σ6 H locs → lv_has ls 4 [(3, .int (iZ i)), (2, .int (iZ (r * 5))), (0, .ref (xad E 0)), (1, .int (iZ r))] → W p l e rm_X6_writeRow0 s m args below meth c H locs 0 0 Q (F0 m 14 ls []) := by
    intro n14
    induction n14 with
    | zero =>
      intro i lqx llx σ6 H locs ls hm
      exact absurd hm (by first | exact Nat.not_lt_zero _ | omega)
    | succ n14 ih14 =>
      intro i lqx llx σ6 H locs ls hm14 hi hlb hlx f0 f1 f2 f3 f4 f5 f6 f84 fr7 hH hl
      refine lv_iload_n hx hb dX6_writeRow_14 rfl (lv_at hl 0 rfl) ?_
      refine x_iconst hx hb dX6_writeRow_15 ?_
      refine x_icmp_ge (tgt := 42) hx hb dX6_writeRow_16 (by decide) (by omega) (by decide) (fun c16 => ?_) (fun c16 => ?_)
      · refine lv_aload_n hx hb dX6_writeRow_42 rfl (lv_at hl 2 rfl) ?_
        refine x_get hx hb hts hown hK hH 0 (ltw (by decide)) f0 hinX6 rfl 11 (by decide) (List.mem_of_getElem? (i := 1) rfl) rfl dX6_writeRow_43 ?_
        subst hQ
        exact x_iret hx hb hr hlocks hH (Nat.le_of_ble_eq_true rfl) (Nat.le_of_ble_eq_true rfl) ⟨(show llx = ((List.foldl wrF (lq, 0) (rwL op lk kp wc pn nw r 5)).2) from (by have e9 : i = 5 := (by omega); subst e9; rw [← hlx])), ⟨(f0.trans (by have e9 : i = 5 := (by omega); subst e9; rw [← hlx])), ⟨f1, f2, f3, f4, f5, _, f6⟩, (f84.trans (congrArg (fun g => aC E 35 g) (show lqx = ((List.foldl wrF (lq, 0) (rwL op lk kp wc pn nw r 5)).1) from (by have e9 : i = 5 := (by omega); subst e9; rw [← hlx]))))⟩, fun j hj0 hj1 => ((fr7 j (by omega) (by omega)).trans (fr5 j (by omega)))⟩ dX6_writeRow_46
      · refine lv_iload_n hx hb dX6_writeRow_19 rfl (lv_at hl 0 rfl) ?_
        refine x_if_le (tgt := 29) hx hb dX6_writeRow_20 (by decide) (by omega) (fun c20 => ?_) (fun c20 => ?_)
        · refine lv_aload_n hx hb dX6_writeRow_29 rfl (lv_at hl 2 rfl) ?_
          refine lv_iload_n hx hb dX6_writeRow_30 rfl (lv_at hl 1 rfl) ?_
          refine lv_iload_n hx hb dX6_writeRow_31 rfl (lv_at hl 0 rfl) ?_
          refine x_iadd hx hb dX6_writeRow_32 ?_
          refine x_cVV (As := [.int (iZ ((r * 5) + i))]) (rest := []) hx hb hml hts hown hK hST hOK hH 0 (c_X6_writeTile l E ST hSF σ6 ((r * 5) + i) hv se sf llx op lk kp wc pn nw sh wk lqx f0 ⟨f1, f2, f3, f4, f5, _, f6⟩ f84 (by omega) (by omega) (by omega)) (cwV 1 hts gX6_writeRow_X6_writeTile rfl rfl rfl (by decide +kernel) ⟨Nat.le_of_ble_eq_true rfl, Nat.le_of_ble_eq_true rfl⟩) (ltw (by decide)) f0 rfl rfl hl.1 rfl (Nat.le_of_ble_eq_true rfl) dX6_writeRow_33 ⟨Nat.le_of_ble_eq_true rfl, Nat.le_of_ble_eq_true rfl⟩ (fun σ9 H locs hp10 hH => ?_)
          obtain ⟨⟨lq_33, ll_33, f0, f84, hw33, hb33⟩, fr11⟩ := hp10
          have f1 : σ9 1 = oB 0 [.ref (xad E 2), .ref (xad E 3), .ref (xad E 4), .ref (xad E 5), .ref (xad E 6), .int (iZ pn), .int (iZ nw), .int (iZ sh), .long (lZ wk)] := (fr11 1 (by omega) (by omega)).trans f1
          have f2 : σ9 2 = aI E 25 op := (fr11 2 (by omega) (by omega)).trans f2
          have f3 : σ9 3 = aI E 25 lk := (fr11 3 (by omega) (by omega)).trans f3
          have f4 : σ9 4 = aI E 6 kp := (fr11 4 (by omega) (by omega)).trans f4
          have f5 : σ9 5 = aI E 3 wc := (fr11 5 (by omega) (by omega)).trans f5
          have f6 : σ9 6 = aI E 5 ro1 := (fr11 6 (by omega) (by omega)).trans f6
          refine x_iinc (lv' := [(3, .int (iZ (i + 1))), (2, .int (iZ (r * 5))), (0, .ref (xad E 0)), (1, .int (iZ r))]) hx hb dX6_writeRow_36 hl (k := 0) rfl (by decide) rfl (fun ls hl => ?_)
          refine lv_goto (tgt := 14) hx hb dX6_writeRow_39 (by decide) ?_
          exact ih14 (i + 1) lq_33 ll_33 σ9 _ _ _ (by omega) (by omega) (by omega) (by rw [rwL_s hi.1]; first | (rw [if_pos (show i = 0 by omega), List.append_nil]; exact fl_l hlx hw33) | (rw [if_neg (show ¬ i = 0 by omega)]; exact fl_l (fl_w hlx hw26) hw33)) f0 f1 f2 f3 f4 f5 f6 f84 (fun j hj0 hj1 => ((fr11 j (by omega) (by omega)).trans (fr7 j (by omega) (by omega)))) hH (lv_sub hl [0, 1, 2, 3] rfl)
        · refine lv_aload_n hx hb dX6_writeRow_23 rfl (lv_at hl 2 rfl) ?_
          refine x_bipush hx hb dX6_writeRow_24 (by decide) ?_
          refine x_cVV (As := [.int (iZ 32)]) (rest := []) hx hb hml hts hown hK hST hOK hH 0 (c_X6_write l E ST hSF σ6 32 hv se sf llx lqx f0 f84 (by omega) (by omega)) (cwV 1 hts gX6_writeRow_X6_write rfl rfl rfl (by decide +kernel) ⟨Nat.le_of_ble_eq_true rfl, Nat.le_of_ble_eq_true rfl⟩) (ltw (by decide)) f0 rfl rfl hl.1 rfl (Nat.le_of_ble_eq_true rfl) dX6_writeRow_26 ⟨Nat.le_of_ble_eq_true rfl, Nat.le_of_ble_eq_true rfl⟩ (fun σ14 H locs hp15 hH => ?_)
          obtain ⟨⟨lq_26, ll_26, f0, f84, hw26⟩, fr16⟩ := hp15
          have f1 : σ14 1 = oB 0 [.ref (xad E 2), .ref (xad E 3), .ref (xad E 4), .ref (xad E 5), .ref (xad E 6), .int (iZ pn), .int (iZ nw), .int (iZ sh), .long (lZ wk)] := (fr16 1 (by omega) (by omega)).trans f1
          have f2 : σ14 2 = aI E 25 op := (fr16 2 (by omega) (by omega)).trans f2
          have f3 : σ14 3 = aI E 25 lk := (fr16 3 (by omega) (by omega)).trans f3
          have f4 : σ14 4 = aI E 6 kp := (fr16 4 (by omega) (by omega)).trans f4
          have f5 : σ14 5 = aI E 3 wc := (fr16 5 (by omega) (by omega)).trans f5
          have f6 : σ14 6 = aI E 5 ro1 := (fr16 6 (by omega) (by omega)).trans f6
          have hb26 := wr_b hw26 (by omega)
          refine lv_aload_n hx hb dX6_writeRow_29 rfl (lv_at hl 2 rfl) ?_
          refine lv_iload_n hx hb dX6_writeRow_30 rfl (lv_at hl 1 rfl) ?_
          refine lv_iload_n hx hb dX6_writeRow_31 rfl (lv_at hl 0 rfl) ?_
          refine x_iadd hx hb dX6_writeRow_32 ?_
          refine x_cVV (As := [.int (iZ ((r * 5) + i))]) (rest := []) hx hb hml hts hown hK hST hOK hH 0 (c_X6_writeTile l E ST hSF σ14 ((r * 5) + i) hv se sf ll_26 op lk kp wc pn nw sh wk lq_26 f0 ⟨f1, f2, f3, f4, f5, _, f6⟩ f84 (by omega) (by omega) (by omega)) (cwV 1 hts gX6_writeRow_X6_writeTile rfl rfl rfl (by decide +kernel) ⟨Nat.le_of_ble_eq_true rfl, Nat.le_of_ble_eq_true rfl⟩) (ltw (by decide)) f0 rfl rfl hl.1 rfl (Nat.le_of_ble_eq_true rfl) dX6_writeRow_33 ⟨Nat.le_of_ble_eq_true rfl, Nat.le_of_ble_eq_true rfl⟩ (fun σ19 H locs hp20 hH => ?_)
          obtain ⟨⟨lq_33, ll_33, f0, f84, hw33, hb33⟩, fr21⟩ := hp20
          have f1 : σ19 1 = oB 0 [.ref (xad E 2), .ref (xad E 3), .ref (xad E 4), .ref (xad E 5), .ref (xad E 6), .int (iZ pn), .int (iZ nw), .int (iZ sh), .long (lZ wk)] := (fr21 1 (by omega) (by omega)).trans f1
          have f2 : σ19 2 = aI E 25 op := (fr21 2 (by omega) (by omega)).trans f2
          have f3 : σ19 3 = aI E 25 lk := (fr21 3 (by omega) (by omega)).trans f3
          have f4 : σ19 4 = aI E 6 kp := (fr21 4 (by omega) (by omega)).trans f4
          have f5 : σ19 5 = aI E 3 wc := (fr21 5 (by omega) (by omega)).trans f5
          have f6 : σ19 6 = aI E 5 ro1 := (fr21 6 (by omega) (by omega)).trans f6
          refine x_iinc (lv' := [(3, .int (iZ (i + 1))), (2, .int (iZ (r * 5))), (0, .ref (xad E 0)), (1, .int (iZ r))]) hx hb dX6_writeRow_36 hl (k := 0) rfl (by decide) rfl (fun ls hl => ?_)
          refine lv_goto (tgt := 14) hx hb dX6_writeRow_39 (by decide) ?_
          exact ih14 (i + 1) lq_33 ll_33 σ19 _ _ _ (by omega) (by omega) (by omega) (by rw [rwL_s hi.1]; first | (rw [if_pos (show i = 0 by omega), List.append_nil]; exact fl_l hlx hw33) | (rw [if_neg (show ¬ i = 0 by omega)]; exact fl_l (fl_w hlx hw26) hw33)) f0 f1 f2 f3 f4 f5 f6 f84 (fun j hj0 hj1 => ((fr21 j (by omega) (by omega)).trans ((fr16 j (by omega) (by omega)).trans (fr7 j (by omega) (by omega))))) hH (lv_sub hl [0, 1, 2, 3] rfl)
  exact K14 6 0 lq 0 σ4 _ _ _ (by first | omega | decide) (by omega) (by omega) (by exact fl_0) f0 f1 f2 f3 f4 f5 f6 f84 (fun j _ _ => rfl) hH (lv_sub hl [0, 1, 2, 3] rfl)

def rm_X6_restore0 : Room := { frames := 2, cells := 0, slots := 0, locals := 61 }
set_option maxRecDepth 100000 in
set_option maxHeartbeats 4000000 in
theorem c_X6_restore0 (l : Launch) (E : xE) (ST : xST) (hSF : SF ST) (σ : xW) (hv : Bool) (se : Int) (sf : Int) (ll : Int) (nx : Int) (ct : Int) (op : Int → Int) (lk : Int → Int) (kp : Int → Int) (wc : Int → Int) (pn : Int) (nw : Int) (sh : Int) (wk : Int) (sop : Int → Int) (slk : Int → Int) (skp : Int → Int) (swc : Int → Int) (spn : Int) (snw : Int) (ssh : Int) (swk : Int) (hr0 : mn E σ hv se sf ll) (hr1 : hi E σ nx ct) (hr2 : bd E σ 1 op lk kp wc pn nw sh wk) (hr3 : bd E σ 19 sop slk skp swc spn snw ssh swk) (hok : hv = true) : CV l E ST yX6_restore wsX6_restore rm_X6_restore0 [.ref (xad E 0)] σ (fun (u : xW) => (mn E u hv se sf ll ∧ hi E u nx 0 ∧ bd E u 1 sop slk skp swc spn snw ssh swk ∧ bd E u 19 sop slk skp swc spn snw ssh swk) ∧ ∀ j : Nat, (j < 1 ∨ 1 + 6 ≤ j) → j ≠ 73 → u j = σ j) := by
  have f0 : σ 0 = oB 4 [.ref (xad E 1), .ref (xad E 7), .ref (xad E 13), .ref (xad E 19), .int (iZ (b2 hv)), .ref (xad E 73), .ref (xad E 75), .ref (xad E 81), .int (iZ se), .int (iZ sf), .ref (xad E 84), .int (iZ ll)] := hr0
  obtain ⟨f73, f74⟩ := hr1
  obtain ⟨f1, f2, f3, f4, f5, ro2, f6⟩ := hr2
  obtain ⟨f19, f20, f21, f22, f23, ro3, f24⟩ := hr3
  refine CV_of (by decide) rfl (Nat.le_of_ble_eq_true rfl) ?_
  intro p e s m args below meth c Q ls G hH hl hQ
  obtain ⟨hx, hb, hml, hown, hts, hK, hST, hlocks, hr, hno⟩ := G
  have hOK := hSF.1
  have hown : s.vm.findClass RX6 = some m.cls := hown
  have hl : lv_has ls 1 [(0, .ref (xad E 0))] := hl
  have hinX6 : ∀ w ∈ u_ws RX6 TX6 12, w ∈ wsX6_restore := fun w h => (List.mem_cons_of_mem _ (List.mem_append_left _ (List.mem_append_left _ (List.mem_append_left _ (List.mem_append_right _ h)))))
  refine lv_aload_n hx hb dX6_restore_0 rfl (lv_at hl 0 rfl) ?_
  refine x_get hx hb hts hown hK hH 0 (ltw (by decide)) f0 hinX6 rfl 4 (by decide) (List.mem_of_getElem? (i := 3) rfl) rfl dX6_restore_1 ?_
  refine x_ifb_ne (tgt := 18) hx hb dX6_restore_4 (by decide) (fun c4 => ?_) (fun c4 => ?_)
  · refine lv_aload_n hx hb dX6_restore_18 rfl (lv_at hl 0 rfl) ?_
    refine x_get hx hb hts hown hK hH 0 (ltw (by decide)) f0 hinX6 rfl 0 (by decide) (List.mem_of_getElem? (i := 4) rfl) rfl dX6_restore_19 ?_
    refine lv_aload_n hx hb dX6_restore_22 rfl (lv_at hl 0 rfl) ?_
    refine x_get hx hb hts hown hK hH 0 (ltw (by decide)) f0 hinX6 rfl 3 (by decide) (List.mem_of_getElem? (i := 5) rfl) rfl dX6_restore_23 ?_
    refine x_cVV (As := [.ref (xad E 19)]) (rest := []) hx hb hml hts hown hK hST hOK hH 1 (c_X1_copyFrom l E ST hSF σ 1 19 op lk kp wc pn nw sh wk sop slk skp swc spn snw ssh swk ⟨f1, f2, f3, f4, f5, _, f6⟩ ⟨f19, f20, f21, f22, f23, _, f24⟩ (by omega) (by omega) (by omega)) (cwV 1 hts gX6_restore_X1_copyFrom rfl rfl rfl (by decide +kernel) ⟨Nat.le_of_ble_eq_true rfl, Nat.le_of_ble_eq_true rfl⟩) (ltw (by decide)) f1 rfl rfl hl.1 rfl (Nat.le_of_ble_eq_true rfl) dX6_restore_26 ⟨Nat.le_of_ble_eq_true rfl, Nat.le_of_ble_eq_true rfl⟩ (fun σ2 H locs hp3 hH => ?_)
    obtain ⟨⟨⟨f1, f2, f3, f4, f5, ro5, f6⟩, ⟨f19, f20, f21, f22, f23, ro6, f24⟩⟩, fr4⟩ := hp3
    have f0 : σ2 0 = oB 4 [.ref (xad E 1), .ref (xad E 7), .ref (xad E 13), .ref (xad E 19), .int (iZ (b2 hv)), .ref (xad E 73), .ref (xad E 75), .ref (xad E 81), .int (iZ se), .int (iZ sf), .ref (xad E 84), .int (iZ ll)] := (fr4 0 (by omega)).trans f0
    have f73 : σ2 73 = oB 1 [.ref (xad E 74), .int (iZ nx), .int (iZ ct)] := (fr4 73 (by omega)).trans f73
    have f74 : σ2 74 = hRow E := (fr4 74 (by omega)).trans f74
    refine lv_aload_n hx hb dX6_restore_29 rfl (lv_at hl 0 rfl) ?_
    refine x_get hx hb hts hown hK hH 0 (ltw (by decide)) f0 hinX6 rfl 5 (by decide) (List.mem_of_getElem? (i := 6) rfl) rfl dX6_restore_30 ?_
    refine x_cVV (As := []) (rest := []) hx hb hml hts hown hK hST hOK hH 73 (c_X3_clear l E ST hSF σ2 nx ct ⟨f73, f74⟩ ) (cwV 0 hts gX6_restore_X3_clear rfl rfl rfl (by decide +kernel) ⟨Nat.le_of_ble_eq_true rfl, Nat.le_of_ble_eq_true rfl⟩) (ltw (by decide)) f73 rfl rfl hl.1 rfl (Nat.le_of_ble_eq_true rfl) dX6_restore_33 ⟨Nat.le_of_ble_eq_true rfl, Nat.le_of_ble_eq_true rfl⟩ (fun σ9 H locs hp10 hH => ?_)
    obtain ⟨⟨f73, f74⟩, fr11⟩ := hp10
    have f0 : σ9 0 = oB 4 [.ref (xad E 1), .ref (xad E 7), .ref (xad E 13), .ref (xad E 19), .int (iZ (b2 hv)), .ref (xad E 73), .ref (xad E 75), .ref (xad E 81), .int (iZ se), .int (iZ sf), .ref (xad E 84), .int (iZ ll)] := (fr11 0 (by omega)).trans f0
    have f1 : σ9 1 = oB 0 [.ref (xad E 2), .ref (xad E 3), .ref (xad E 4), .ref (xad E 5), .ref (xad E 6), .int (iZ spn), .int (iZ snw), .int (iZ ssh), .long (lZ swk)] := (fr11 1 (by omega)).trans f1
    have f2 : σ9 2 = aI E 25 sop := (fr11 2 (by omega)).trans f2
    have f3 : σ9 3 = aI E 25 slk := (fr11 3 (by omega)).trans f3
    have f4 : σ9 4 = aI E 6 skp := (fr11 4 (by omega)).trans f4
    have f5 : σ9 5 = aI E 3 swc := (fr11 5 (by omega)).trans f5
    have f6 : σ9 6 = aI E 5 ro5 := (fr11 6 (by omega)).trans f6
    have f19 : σ9 19 = oB 0 [.ref (xad E 20), .ref (xad E 21), .ref (xad E 22), .ref (xad E 23), .ref (xad E 24), .int (iZ spn), .int (iZ snw), .int (iZ ssh), .long (lZ swk)] := (fr11 19 (by omega)).trans f19
    have f20 : σ9 20 = aI E 25 sop := (fr11 20 (by omega)).trans f20
    have f21 : σ9 21 = aI E 25 slk := (fr11 21 (by omega)).trans f21
    have f22 : σ9 22 = aI E 6 skp := (fr11 22 (by omega)).trans f22
    have f23 : σ9 23 = aI E 3 swc := (fr11 23 (by omega)).trans f23
    have f24 : σ9 24 = aI E 5 ro6 := (fr11 24 (by omega)).trans f24
    subst hQ
    exact x_vret hx hb hr hlocks hH (Nat.le_of_ble_eq_true rfl) (Nat.le_of_ble_eq_true rfl) ⟨⟨f0, ⟨f73, f74⟩, ⟨f1, f2, f3, f4, f5, _, f6⟩, ⟨f19, f20, f21, f22, f23, _, f24⟩⟩, fun j hj0 hj1 => ((fr11 j (by omega)).trans (fr4 j (by omega)))⟩ dX6_restore_36
  · exact absurd (hok.symm.trans c4) (by decide)
