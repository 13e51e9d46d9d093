def rm_X3_add : Room := { frames := 2, cells := 0, slots := 0, locals := 61 }
set_option maxRecDepth 100000 in
set_option maxHeartbeats 4000000 in
theorem c_X3_add (l : Launch) (E : xE) (ST : xST) (hSF : SF ST) (σ : xW) (b : Nat) (nx : Int) (ct : Int) (yop : Int → Int) (ylk : Int → Int) (ykp : Int → Int) (ywc : Int → Int) (ypn : Int) (ynw : Int) (ysh : Int) (ywk : Int) (op : Int → Int) (lk : Int → Int) (kp : Int → Int) (wc : Int → Int) (pn : Int) (nw : Int) (sh : Int) (wk : Int) (hr0 : hi E σ nx ct) (hr1 : bd E σ (hsl nx) yop ylk ykp ywc ypn ynw ysh ywk) (hr2 : bd E σ b op lk kp wc pn nw sh wk) (hnx : 0 ≤ nx ∧ nx < 8) (hct : 0 ≤ ct ∧ ct ≤ 8) (hbs : b + 6 ≤ 25) : CV l E ST yX3_add wsX3_add rm_X3_add [.ref (xad E 73), .ref (xad E b)] σ (fun (u : xW) => (hi E u ((nx + 1) % 8) (if 8 < (ct + 1) then 8 else (ct + 1)) ∧ bd E u (hsl nx) op lk kp wc pn nw sh wk ∧ bd E u b op lk kp wc pn nw sh wk) ∧ ∀ j : Nat, j ≠ 73 → (j < hsl nx ∨ hsl nx + 6 ≤ j) → u j = σ j) := by
  obtain ⟨f73, f74⟩ := hr0
  obtain ⟨fhsl_nx_0, fhsl_nx_1, fhsl_nx_2, fhsl_nx_3, fhsl_nx_4, ro1, fhsl_nx_5⟩ := hr1
  obtain ⟨fb_0, fb_1, fb_2, fb_3, fb_4, ro2, fb_5⟩ := hr2
  refine CV_of (by decide) rfl (Nat.le_of_ble_eq_true rfl) ?_
  intro p e s m args below meth c Q ls G hH hl hQ
  obtain ⟨hx, hb, hml, hown, hts, hK, hST, hlocks, hr, hno⟩ := G
  have hOK := hSF.1
  have hown : s.vm.findClass RX3 = some m.cls := hown
  have hl : lv_has ls 2 [(0, .ref (xad E 73)), (1, .ref (xad E b))] := hl
  have hinX3 : ∀ w ∈ u_ws RX3 TX3 3, w ∈ wsX3_add := fun w h => (List.mem_cons_of_mem _ (List.mem_append_left _ (List.mem_append_right _ h)))
  have hhb := hsl_rg hnx.1 hnx.2
  refine lv_aload_n hx hb dX3_add_0 rfl (lv_at hl 0 rfl) ?_
  refine x_get hx hb hts hown hK hH 73 (ltw (by decide)) f73 hinX3 rfl 0 (by decide) (List.mem_of_getElem? (i := 1) rfl) rfl dX3_add_1 ?_
  refine lv_aload_n hx hb dX3_add_4 rfl (lv_at hl 0 rfl) ?_
  refine x_get hx hb hts hown hK hH 73 (ltw (by decide)) f73 hinX3 rfl 1 (by decide) (List.mem_of_getElem? (i := 2) rfl) rfl dX3_add_5 ?_
  refine x_aaldH hx hb hK hH 74 (ltw (by decide)) f74 (by omega) (by omega) dX3_add_8 ?_
  refine lv_aload_n hx hb dX3_add_9 rfl (lv_at hl 1 rfl) ?_
  refine x_cVV (As := [.ref (xad E b)]) (rest := []) hx hb hml hts hown hK hST hOK hH (hsl nx) (c_X1_copyFrom l E ST hSF σ (hsl nx) b yop ylk ykp ywc ypn ynw ysh ywk op lk kp wc pn nw sh wk ⟨fhsl_nx_0, fhsl_nx_1, fhsl_nx_2, fhsl_nx_3, fhsl_nx_4, _, fhsl_nx_5⟩ ⟨fb_0, fb_1, fb_2, fb_3, fb_4, _, fb_5⟩ (by omega) (by omega) (by omega)) (cwV 1 hts gX3_add_X1_copyFrom rfl rfl rfl (by decide +kernel) ⟨Nat.le_of_ble_eq_true rfl, Nat.le_of_ble_eq_true rfl⟩) (by omega) fhsl_nx_0 rfl rfl hl.1 rfl (Nat.le_of_ble_eq_true rfl) dX3_add_10 ⟨Nat.le_of_ble_eq_true rfl, Nat.le_of_ble_eq_true rfl⟩ (fun σ2 H locs hp3 hH => ?_)
  obtain ⟨⟨⟨fhsl_nx_0, fhsl_nx_1, fhsl_nx_2, fhsl_nx_3, fhsl_nx_4, ro5, fhsl_nx_5⟩, ⟨fb_0, fb_1, fb_2, fb_3, fb_4, ro6, fb_5⟩⟩, fr4⟩ := hp3
  have f73 : σ2 73 = oB 1 [.ref (xad E 74), .int (iZ nx), .int (iZ ct)] := (fr4 73 (by omega)).trans f73
  have f74 : σ2 74 = hRow E := (fr4 74 (by omega)).trans f74
  refine lv_aload_n hx hb dX3_add_13 rfl (lv_at hl 0 rfl) ?_
  refine lv_aload_n hx hb dX3_add_14 rfl (lv_at hl 0 rfl) ?_
  refine x_get hx hb hts hown hK hH 73 (ltw (by decide)) f73 hinX3 rfl 1 (by decide) (List.mem_of_getElem? (i := 2) rfl) rfl dX3_add_15 ?_
  refine x_iconst hx hb dX3_add_18 ?_
  refine x_iadd hx hb dX3_add_19 ?_
  refine x_bipush hx hb dX3_add_20 (by decide) ?_
  refine x_irem hx hb dX3_add_22 (by omega) (by omega) (by omega) (by omega) ?_
  refine x_put (fs' := [.ref (xad E 74), .int (iZ ((nx + 1) % 8)), .int (iZ ct)]) hx hb hts hown hK hH 73 (ltw (by decide)) f73 hinX3 rfl tyX3 tyX3_ok nmX3 1 (by decide) (List.mem_of_getElem? (i := 2) rfl) rfl (ty := .int) (by decide +kernel) rfl rfl (Nat.le_of_ble_eq_true rfl) rfl dX3_add_23 (fun σ8 H locs f73 fr9 hH => ?_)
  have f74 : σ8 74 = hRow E := (fr9 74 (by omega)).trans f74
  have fhsl_nx_0 : σ8 (hsl nx) = oB 0 [.ref (xad E ((hsl nx) + 1)), .ref (xad E ((hsl nx) + 2)), .ref (xad E ((hsl nx) + 3)), .ref (xad E ((hsl nx) + 4)), .ref (xad E ((hsl nx) + 5)), .int (iZ pn), .int (iZ nw), .int (iZ sh), .long (lZ wk)] := (fr9 (hsl nx) (by omega)).trans fhsl_nx_0
  have fhsl_nx_1 : σ8 ((hsl nx) + 1) = aI E 25 op := (fr9 ((hsl nx) + 1) (by omega)).trans fhsl_nx_1
  have fhsl_nx_2 : σ8 ((hsl nx) + 2) = aI E 25 lk := (fr9 ((hsl nx) + 2) (by omega)).trans fhsl_nx_2
  have fhsl_nx_3 : σ8 ((hsl nx) + 3) = aI E 6 kp := (fr9 ((hsl nx) + 3) (by omega)).trans fhsl_nx_3
  have fhsl_nx_4 : σ8 ((hsl nx) + 4) = aI E 3 wc := (fr9 ((hsl nx) + 4) (by omega)).trans fhsl_nx_4
  have fhsl_nx_5 : σ8 ((hsl nx) + 5) = aI E 5 ro5 := (fr9 ((hsl nx) + 5) (by omega)).trans fhsl_nx_5
  have fb_0 : σ8 b = oB 0 [.ref (xad E (b + 1)), .ref (xad E (b + 2)), .ref (xad E (b + 3)), .ref (xad E (b + 4)), .ref (xad E (b + 5)), .int (iZ pn), .int (iZ nw), .int (iZ sh), .long (lZ wk)] := (fr9 b (by omega)).trans fb_0
  have fb_1 : σ8 (b + 1) = aI E 25 op := (fr9 (b + 1) (by omega)).trans fb_1
  have fb_2 : σ8 (b + 2) = aI E 25 lk := (fr9 (b + 2) (by omega)).trans fb_2
  have fb_3 : σ8 (b + 3) = aI E 6 kp := (fr9 (b + 3) (by omega)).trans fb_3
  have fb_4 : σ8 (b + 4) = aI E 3 wc := (fr9 (b + 4) (by omega)).trans fb_4
  have fb_5 : σ8 (b + 5) = aI E 5 ro6 := (fr9 (b + 5) (by omega)).trans fb_5
  refine lv_aload_n hx hb dX3_add_26 rfl (lv_at hl 0 rfl) ?_
  refine lv_aload_n hx hb dX3_add_27 rfl (lv_at hl 0 rfl) ?_
  refine x_get hx hb hts hown hK hH 73 (ltw (by decide)) f73 hinX3 rfl 2 (by decide) (List.mem_of_getElem? (i := 3) rfl) rfl dX3_add_28 ?_
  refine x_iconst hx hb dX3_add_31 ?_
  refine x_iadd hx hb dX3_add_32 ?_
  refine x_bipush hx hb dX3_add_33 (by decide) ?_
  refine x_min hx hb hml hown hts (List.mem_of_getElem? (i := 4) rfl) (List.mem_of_getElem? (i := 5) rfl) (List.mem_of_getElem? (i := 6) rfl) (List.mem_of_getElem? (i := 7) rfl) hl.1 (Nat.le_of_ble_eq_true rfl) (Nat.le_of_ble_eq_true rfl) (Nat.le_of_ble_eq_true rfl) (Nat.le_of_ble_eq_true rfl) (by omega) (by decide) dX3_add_35 ?_
  refine x_put (fs' := [.ref (xad E 74), .int (iZ ((nx + 1) % 8)), .int (iZ (if 8 < (ct + 1) then 8 else (ct + 1)))]) hx hb hts hown hK hH 73 (ltw (by decide)) f73 hinX3 rfl tyX3 tyX3_ok nmX3 2 (by decide) (List.mem_of_getElem? (i := 3) rfl) rfl (ty := .int) (by decide +kernel) rfl rfl (Nat.le_of_ble_eq_true rfl) rfl dX3_add_38 (fun σ10 H locs f73 fr11 hH => ?_)
  have f74 : σ10 74 = hRow E := (fr11 74 (by omega)).trans f74
  have fhsl_nx_0 : σ10 (hsl nx) = oB 0 [.ref (xad E ((hsl nx) + 1)), .ref (xad E ((hsl nx) + 2)), .ref (xad E ((hsl nx) + 3)), .ref (xad E ((hsl nx) + 4)), .ref (xad E ((hsl nx) + 5)), .int (iZ pn), .int (iZ nw), .int (iZ sh), .long (lZ wk)] := (fr11 (hsl nx) (by omega)).trans fhsl_nx_0
  have fhsl_nx_1 : σ10 ((hsl nx) + 1) = aI E 25 op := (fr11 ((hsl nx) + 1) (by omega)).trans fhsl_nx_1
  have fhsl_nx_2 : σ10 ((hsl nx) + 2) = aI E 25 lk := (fr11 ((hsl nx) + 2) (by omega)).trans fhsl_nx_2
  have fhsl_nx_3 : σ10 ((hsl nx) + 3) = aI E 6 kp := (fr11 ((hsl nx) + 3) (by omega)).trans fhsl_nx_3
  have fhsl_nx_4 : σ10 ((hsl nx) + 4) = aI E 3 wc := (fr11 ((hsl nx) + 4) (by omega)).trans fhsl_nx_4
  have fhsl_nx_5 : σ10 ((hsl nx) + 5) = aI E 5 ro5 := (fr11 ((hsl nx) + 5) (by omega)).trans fhsl_nx_5
  have fb_0 : σ10 b = oB 0 [.ref (xad E (b + 1)), .ref (xad E (b + 2)), .ref (xad E (b + 3)), .ref (xad E (b + 4)), .ref (xad E (b + 5)), .int (iZ pn), .int (iZ nw), .int (iZ sh), .long (lZ wk)] := (fr11 b (by omega)).trans fb_0
  have fb_1 : σ10 (b + 1) = aI E 25 op := (fr11 (b + 1) (by omega)).trans fb_1
  have fb_2 : σ10 (b + 2) = aI E 25 lk := (fr11 (b + 2) (by omega)).trans fb_2
  have fb_3 : σ10 (b + 3) = aI E 6 kp := (fr11 (b + 3) (by omega)).trans fb_3
  have fb_4 : σ10 (b + 4) = aI E 3 wc := (fr11 (b + 4) (by omega)).trans fb_4
  have fb_5 : σ10 (b + 5) = aI E 5 ro6 := (fr11 (b + 5) (by omega)).trans fb_5
  subst hQ
  exact x_vret hx hb hr hlocks hH (Nat.le_of_ble_eq_true rfl) (Nat.le_of_ble_eq_true rfl) ⟨⟨⟨f73, f74⟩, ⟨fhsl_nx_0, fhsl_nx_1, fhsl_nx_2, fhsl_nx_3, fhsl_nx_4, _, fhsl_nx_5⟩, ⟨fb_0, fb_1, fb_2, fb_3, fb_4, _, fb_5⟩⟩, fun j hj0 hj1 => ((fr11 j (by omega)).trans ((fr9 j (by omega)).trans (fr4 j (by omega))))⟩ dX3_add_41

def rm_X3_clear : Room := { frames := 0, cells := 0, slots := 0, locals := 0 }
set_option maxRecDepth 100000 in
set_option maxHeartbeats 4000000 in
theorem c_X3_clear (l : Launch) (E : xE) (ST : xST) (hSF : SF ST) (σ : xW) (nx : Int) (ct : Int) (hr0 : hi E σ nx ct) : CV l E ST yX3_clear wsX3_clear rm_X3_clear [.ref (xad E 73)] σ (fun (u : xW) => (hi E u nx 0) ∧ ∀ j : Nat, j ≠ 73 → u j = σ j) := by
  obtain ⟨f73, f74⟩ := hr0
  refine CV_of (by decide) rfl (Nat.le_of_ble_eq_true rfl) ?_
  intro p e s m args below meth c Q ls G hH hl hQ
  obtain ⟨hx, hb, hml, hown, hts, hK, hST, hlocks, hr, hno⟩ := G
  have hOK := hSF.1
  have hown : s.vm.findClass RX3 = some m.cls := hown
  have hl : lv_has ls 1 [(0, .ref (xad E 73))] := hl
  have hinX3 : ∀ w ∈ u_ws RX3 TX3 3, w ∈ wsX3_clear := fun w h => (List.mem_cons_of_mem _ (List.mem_append_right _ h))
  refine lv_aload_n hx hb dX3_clear_0 rfl (lv_at hl 0 rfl) ?_
  refine x_iconst hx hb dX3_clear_1 ?_
  refine x_put (fs' := [.ref (xad E 74), .int (iZ nx), .int (iZ 0)]) hx hb hts hown hK hH 73 (ltw (by decide)) f73 hinX3 rfl tyX3 tyX3_ok nmX3 2 (by decide) (List.mem_of_getElem? (i := 1) rfl) rfl (ty := .int) (by decide +kernel) rfl rfl (Nat.le_of_ble_eq_true rfl) rfl dX3_clear_2 (fun σ1 H locs f73 fr2 hH => ?_)
  have f74 : σ1 74 = hRow E := (fr2 74 (by omega)).trans f74
  subst hQ
  exact x_vret hx hb hr hlocks hH (Nat.le_of_ble_eq_true rfl) (Nat.le_of_ble_eq_true rfl) ⟨⟨f73, f74⟩, fun j hj0 => (fr2 j (by omega))⟩ dX3_clear_5

def rm_X6_settle : Room := { frames := 6, cells := 1, slots := 6, locals := 90 }
set_option maxRecDepth 100000 in
set_option maxHeartbeats 4000000 in
theorem c_X6_settle (l : Launch) (E : xE) (ST : xST) (hSF : SF ST) (htr : l.stackTraces = false) (σ : xW) (a : Int) (hv : Bool) (se : Int) (sf : Int) (ll : Int) (nx : Int) (ct : Int) (yop : Int → Int) (ylk : Int → Int) (ykp : Int → Int) (ywc : Int → Int) (ypn : Int) (ynw : Int) (ysh : Int) (ywk : Int) (xop : Int → Int) (xlk : Int → Int) (xkp : Int → Int) (xwc : Int → Int) (xpn : Int) (xnw : Int) (xsh : Int) (xwk : Int) (hr0 : mn E σ hv se sf ll) (hr1 : hi E σ nx ct) (hr2 : bd E σ (hsl nx) yop ylk ykp ywc ypn ynw ysh ywk) (hr3 : bd E σ 7 xop xlk xkp xwc xpn xnw xsh xwk) (hnx : 0 ≤ nx ∧ nx < 8) (hct : 0 ≤ ct ∧ ct ≤ 8) (ha : rg a) : XI l E ST yX6_settle wsX6_settle rm_X6_settle [.ref (xad E 0), .int (iZ a)] σ (fun (z : Int) (u : xW) => z = a ∧ (mn E u hv se sf ll ∧ hi E u ((nx + 1) % 8) (if 8 < (ct + 1) then 8 else (ct + 1)) ∧ bd E u (hsl nx) xop xlk xkp xwc xpn xnw xsh xwk ∧ bd E u 7 xop xlk xkp xwc xpn xnw xsh xwk ∧ (a < -5 ∨ -1 < a)) ∧ ∀ j : Nat, j ≠ 73 → (j < hsl nx ∨ hsl nx + 6 ≤ j) → u j = σ j) (fun (n : String) (u : xW) => ((n = "java/lang/IndexOutOfBoundsException" ∧ a = -1) ∨ (n = "java/lang/IllegalArgumentException" ∧ a = -2) ∨ (n = "java/lang/IllegalStateException" ∧ a = -3) ∨ (n = "java/lang/UnsupportedOperationException" ∧ a = -4) ∨ (n = "java/util/NoSuchElementException" ∧ a = -5)) ∧ u = σ) := by
  have f0 : σ 0 = oB 4 [.ref (xad E 1), .ref (xad E 7), .ref (xad E 13), .ref (xad E 19), .int (iZ (b2 hv)), .ref (xad E 73), .ref (xad E 75), .ref (xad E 81), .int (iZ se), .int (iZ sf), .ref (xad E 84), .int (iZ ll)] := hr0
  obtain ⟨f73, f74⟩ := hr1
  obtain ⟨fhsl_nx_0, fhsl_nx_1, fhsl_nx_2, fhsl_nx_3, fhsl_nx_4, ro2, fhsl_nx_5⟩ := hr2
  obtain ⟨f7, f8, f9, f10, f11, ro3, f12⟩ := hr3
  refine XI_of (by decide) rfl (Nat.le_of_ble_eq_true rfl) ?_
  intro p e s m args below meth c Q ls G hH hl hQ
  obtain ⟨hx, hb, hml, hown, hts, hK, hST, hlocks, hr, hno⟩ := G
  have hOK := hSF.1
  have hown : s.vm.findClass RX6 = some m.cls := hown
  have hl : lv_has ls 2 [(0, .ref (xad E 0)), (1, .int (iZ a))] := hl
  have hinX6 : ∀ w ∈ u_ws RX6 TX6 12, w ∈ wsX6_settle := fun w h => (List.mem_cons_of_mem _ (List.mem_append_left _ (List.mem_append_left _ (List.mem_append_left _ (List.mem_append_left _ (List.mem_append_left _ (List.mem_append_left _ (List.mem_append_left _ (List.mem_append_right _ h)))))))))
  have hhb := hsl_rg hnx.1 hnx.2
  refine lv_iload_n hx hb dX6_settle_0 rfl (lv_at hl 1 rfl) ?_
  rcases (show (a = (-5)) ∨ (a = (-4)) ∨ (a = (-3)) ∨ (a = (-2)) ∨ (a = (-1)) ∨ (a < (-5) ∨ (-1) < a) by omega) with c1 | c1 | c1 | c1 | c1 | c1
  · refine x_tableIn (tgt := 80) hx hb (-5) c1 (by omega) dX6_settle_1 (by decide) (by decide) rfl (by decide) ?_
    subst hQ
    exact x_throwSN (text := "the tile has no lock") hx hb hml htr hts hown hST hSF hno hlocks hH xExc_4 (List.mem_of_getElem? (i := 9) rfl) (List.mem_of_getElem? (i := 10) rfl) (fun w h => (List.mem_cons_of_mem _ (List.mem_append_right _ h))) (List.mem_of_getElem? (i := 12) rfl) hl.1 dX6_settle_80 dX6_settle_83 dX6_settle_84 dX6_settle_86 dX6_settle_89 (Nat.le_of_ble_eq_true rfl) (Nat.le_of_ble_eq_true rfl) (Nat.le_of_ble_eq_true rfl) (Nat.le_of_ble_eq_true rfl) ⟨Or.inr (Or.inr (Or.inr (Or.inr (⟨rfl, (by first | omega | simp_all)⟩)))), rfl⟩ (Nat.le_of_ble_eq_true rfl) (Nat.le_of_ble_eq_true rfl)
  · refine x_tableIn (tgt := 69) hx hb (-4) c1 (by omega) dX6_settle_1 (by decide) (by decide) rfl (by decide) ?_
    subst hQ
    exact x_throwSW (text := "the tile has a lock") hx hb hml htr hts hown hST hSF hno hlocks hH xExc_3 (List.mem_of_getElem? (i := 7) rfl) (List.mem_of_getElem? (i := 8) rfl) (fun w h => (List.mem_cons_of_mem _ (List.mem_append_left _ (List.mem_append_right _ h)))) (List.mem_of_getElem? (i := 20) rfl) hl.1 dX6_settle_69 dX6_settle_72 dX6_settle_73 dX6_settle_76 dX6_settle_79 (Nat.le_of_ble_eq_true rfl) (Nat.le_of_ble_eq_true rfl) (Nat.le_of_ble_eq_true rfl) (Nat.le_of_ble_eq_true rfl) ⟨Or.inr (Or.inr (Or.inr (Or.inl (⟨rfl, (by first | omega | simp_all)⟩)))), rfl⟩ (Nat.le_of_ble_eq_true rfl) (Nat.le_of_ble_eq_true rfl)
  · refine x_tableIn (tgt := 58) hx hb (-3) c1 (by omega) dX6_settle_1 (by decide) (by decide) rfl (by decide) ?_
    subst hQ
    exact x_throwSW (text := "the board does not allow this now") hx hb hml htr hts hown hST hSF hno hlocks hH xExc_2 (List.mem_of_getElem? (i := 5) rfl) (List.mem_of_getElem? (i := 6) rfl) (fun w h => (List.mem_cons_of_mem _ (List.mem_append_left _ (List.mem_append_left _ (List.mem_append_right _ h))))) (List.mem_of_getElem? (i := 19) rfl) hl.1 dX6_settle_58 dX6_settle_61 dX6_settle_62 dX6_settle_65 dX6_settle_68 (Nat.le_of_ble_eq_true rfl) (Nat.le_of_ble_eq_true rfl) (Nat.le_of_ble_eq_true rfl) (Nat.le_of_ble_eq_true rfl) ⟨Or.inr (Or.inr (Or.inl (⟨rfl, (by first | omega | simp_all)⟩))), rfl⟩ (Nat.le_of_ble_eq_true rfl) (Nat.le_of_ble_eq_true rfl)
  · refine x_tableIn (tgt := 47) hx hb (-2) c1 (by omega) dX6_settle_1 (by decide) (by decide) rfl (by decide) ?_
    subst hQ
    exact x_throwSW (text := "an argument is out of range") hx hb hml htr hts hown hST hSF hno hlocks hH xExc_1 (List.mem_of_getElem? (i := 3) rfl) (List.mem_of_getElem? (i := 4) rfl) (fun w h => (List.mem_cons_of_mem _ (List.mem_append_left _ (List.mem_append_left _ (List.mem_append_left _ (List.mem_append_right _ h)))))) (List.mem_of_getElem? (i := 18) rfl) hl.1 dX6_settle_47 dX6_settle_50 dX6_settle_51 dX6_settle_54 dX6_settle_57 (Nat.le_of_ble_eq_true rfl) (Nat.le_of_ble_eq_true rfl) (Nat.le_of_ble_eq_true rfl) (Nat.le_of_ble_eq_true rfl) ⟨Or.inr (Or.inl (⟨rfl, (by first | omega | simp_all)⟩)), rfl⟩ (Nat.le_of_ble_eq_true rfl) (Nat.le_of_ble_eq_true rfl)
  · refine x_tableIn (tgt := 36) hx hb (-1) c1 (by omega) dX6_settle_1 (by decide) (by decide) rfl (by decide) ?_
    subst hQ
    exact x_throwSW (text := "no such cell, row, column or walker") hx hb hml htr hts hown hST hSF hno hlocks hH xExc_0 (List.mem_of_getElem? (i := 1) rfl) (List.mem_of_getElem? (i := 2) rfl) (fun w h => (List.mem_cons_of_mem _ (List.mem_append_left _ (List.mem_append_left _ (List.mem_append_left _ (List.mem_append_left _ (List.mem_append_right _ h))))))) (List.mem_of_getElem? (i := 16) rfl) hl.1 dX6_settle_36 dX6_settle_39 dX6_settle_40 dX6_settle_43 dX6_settle_46 (Nat.le_of_ble_eq_true rfl) (Nat.le_of_ble_eq_true rfl) (Nat.le_of_ble_eq_true rfl) (Nat.le_of_ble_eq_true rfl) ⟨Or.inl (⟨rfl, (by first | omega | simp_all)⟩), rfl⟩ (Nat.le_of_ble_eq_true rfl) (Nat.le_of_ble_eq_true rfl)
  · refine x_tableOut (tgt := 90) hx hb (by omega) dX6_settle_1 c1 (by decide) ?_
    refine lv_aload_n hx hb dX6_settle_90 rfl (lv_at hl 0 rfl) ?_
    refine x_get hx hb hts hown hK hH 0 (ltw (by decide)) f0 hinX6 rfl 5 (by decide) (List.mem_of_getElem? (i := 11) rfl) rfl dX6_settle_91 ?_
    refine lv_aload_n hx hb dX6_settle_94 rfl (lv_at hl 0 rfl) ?_
    refine x_get hx hb hts hown hK hH 0 (ltw (by decide)) f0 hinX6 rfl 1 (by decide) (List.mem_of_getElem? (i := 12) rfl) rfl dX6_settle_95 ?_
    refine x_cVV (As := [.ref (xad E 7)]) (rest := []) hx hb hml hts hown hK hST hOK hH 73 (c_X3_add l E ST hSF σ 7 nx ct yop ylk ykp ywc ypn ynw ysh ywk xop xlk xkp xwc xpn xnw xsh xwk ⟨f73, f74⟩ ⟨fhsl_nx_0, fhsl_nx_1, fhsl_nx_2, fhsl_nx_3, fhsl_nx_4, _, fhsl_nx_5⟩ ⟨f7, f8, f9, f10, f11, _, f12⟩ (by omega) (by omega) (by omega)) (cwV 1 hts gX6_settle_X3_add rfl rfl rfl (by decide +kernel) ⟨Nat.le_of_ble_eq_true rfl, Nat.le_of_ble_eq_true rfl⟩) (ltw (by decide)) f73 rfl rfl hl.1 rfl (Nat.le_of_ble_eq_true rfl) dX6_settle_98 ⟨Nat.le_of_ble_eq_true rfl, Nat.le_of_ble_eq_true rfl⟩ (fun σ2 H locs hp3 hH => ?_)
    obtain ⟨⟨⟨f73, f74⟩, ⟨fhsl_nx_0, fhsl_nx_1, fhsl_nx_2, fhsl_nx_3, fhsl_nx_4, ro5, fhsl_nx_5⟩, ⟨f7, f8, f9, f10, f11, ro6, f12⟩⟩, fr4⟩ := hp3
    have f0 : σ2 0 = oB 4 [.ref (xad E 1), .ref (xad E 7), .ref (xad E 13), .ref (xad E 19), .int (iZ (b2 hv)), .ref (xad E 73), .ref (xad E 75), .ref (xad E 81), .int (iZ se), .int (iZ sf), .ref (xad E 84), .int (iZ ll)] := (fr4 0 (by omega) (by omega)).trans f0
    refine lv_iload_n hx hb dX6_settle_101 rfl (lv_at hl 1 rfl) ?_
    subst hQ
    exact x_ireX hx hb hr hlocks hH (Nat.le_of_ble_eq_true rfl) (Nat.le_of_ble_eq_true rfl) ⟨(show a = a from (by first | rfl | omega | simp_all)), ⟨f0, ⟨f73, f74⟩, ⟨fhsl_nx_0, fhsl_nx_1, fhsl_nx_2, fhsl_nx_3, fhsl_nx_4, _, fhsl_nx_5⟩, ⟨f7, f8, f9, f10, f11, _, f12⟩, (by first | assumption | omega | simp_all)⟩, fun j hj0 hj1 => (fr4 j (by omega) (by omega))⟩ dX6_settle_102
