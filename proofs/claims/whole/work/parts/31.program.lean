def rm_X4_clear : Room := { frames := 0, cells := 0, slots := 0, locals := 0 }
set_option maxRecDepth 100000 in
set_option maxHeartbeats 4000000 in
theorem c_X4_clear (l : Launch) (E : xE) (ST : xST) (hSF : SF ST) (σ : xW) (tx : Int → Int) (ln : Int) (cs : Int) (cm : Value) (va : Int → Int) (hr0 : pg E σ tx ln cs cm va) : CV l E ST yX4_clear wsX4_clear rm_X4_clear [.ref (xad E 81)] σ (fun (u : xW) => (pg E u tx 0 cs cm va) ∧ ∀ j : Nat, (j < 81 ∨ 81 + 3 ≤ j) → u j = σ j) := by
  obtain ⟨f81, f82, f83⟩ := hr0
  refine CV_of (by decide) rfl (Nat.le_of_ble_eq_true rfl) ?_
  intro p e s m args below meth c Q ls G hH hl hQ
  obtain ⟨hx, hb, hml, hown, hts, hK, hST, hlocks, hr, hno⟩ := G
  have hOK := hSF.1
  have hown : s.vm.findClass RX4 = some m.cls := hown
  have hl : lv_has ls 1 [(0, .ref (xad E 81))] := hl
  have hinX4 : ∀ w ∈ u_ws RX4 TX4 5, w ∈ wsX4_clear := fun w h => (List.mem_cons_of_mem _ (List.mem_append_right _ h))
  refine lv_aload_n hx hb dX4_clear_0 rfl (lv_at hl 0 rfl) ?_
  refine x_iconst hx hb dX4_clear_1 ?_
  refine x_put (fs' := [.ref (xad E 82), .int (iZ 0), .int (iZ cs), cm, .ref (xad E 83)]) hx hb hts hown hK hH 81 (by decide) f81 hinX4 rfl tyX4 tyX4_ok nmX4 1 (by decide) (List.mem_of_getElem? (i := 1) rfl) rfl (ty := .int) (by decide +kernel) rfl rfl (Nat.le_of_ble_eq_true rfl) rfl dX4_clear_2 (fun σ1 H locs f81 fr2 hH => ?_)
  have f82 : σ1 82 = aC E 60 tx := (fr2 82 (by omega)).trans f82
  have f83 : σ1 83 = aI E 3 va := (fr2 83 (by omega)).trans f83
  subst hQ
  exact x_vret hx hb hr hlocks hH (Nat.le_of_ble_eq_true rfl) (Nat.le_of_ble_eq_true rfl) ⟨⟨f81, f82, f83⟩, fun j hj0 => (fr2 j (by omega))⟩ dX4_clear_5

def rm_X4_add : Room := { frames := 0, cells := 0, slots := 0, locals := 0 }
set_option maxRecDepth 100000 in
set_option maxHeartbeats 4000000 in
theorem c_X4_add (l : Launch) (E : xE) (ST : xST) (hSF : SF ST) (σ : xW) (ch : Int) (tx : Int → Int) (ln : Int) (cs : Int) (cm : Value) (va : Int → Int) (hr0 : pg E σ tx ln cs cm va) (hln : 0 ≤ ln ∧ ln ≤ 60) (hch : 0 ≤ ch ∧ ch ≤ 65535) : CI l E ST yX4_add wsX4_add rm_X4_add [.ref (xad E 81), .int (iZ ch)] σ (fun (z : Int) (u : xW) => z = b2 (decide (ln < 60)) ∧ (∃ (tx1 : Int → Int) (ln1 : Int), pg E u tx1 ln1 cs cm va ∧ (ln < 60 → tx1 = ui tx ln ch ∧ ln1 = ln + 1) ∧ (¬ ln < 60 → tx1 = tx ∧ ln1 = ln)) ∧ ∀ j : Nat, (j < 81 ∨ 81 + 3 ≤ j) → u j = σ j) := by
  obtain ⟨f81, f82, f83⟩ := hr0
  refine CI_of (by decide) rfl (Nat.le_of_ble_eq_true rfl) ?_
  intro p e s m args below meth c Q ls G hH hl hQ
  obtain ⟨hx, hb, hml, hown, hts, hK, hST, hlocks, hr, hno⟩ := G
  have hOK := hSF.1
  have hown : s.vm.findClass RX4 = some m.cls := hown
  have hl : lv_has ls 2 [(0, .ref (xad E 81)), (1, .int (iZ ch))] := hl
  have hinX4 : ∀ w ∈ u_ws RX4 TX4 5, w ∈ wsX4_add := fun w h => (List.mem_cons_of_mem _ (List.mem_append_right _ h))
  refine lv_aload_n hx hb dX4_add_0 rfl (lv_at hl 0 rfl) ?_
  refine x_get hx hb hts hown hK hH 81 (by decide) f81 hinX4 rfl 1 (by decide) (List.mem_of_getElem? (i := 1) rfl) rfl dX4_add_1 ?_
  refine x_bipush hx hb dX4_add_4 (by decide) ?_
  refine x_icmp_lt (tgt := 11) hx hb dX4_add_6 (by decide) (by omega) (by decide) (fun c6 => ?_) (fun c6 => ?_)
  · refine lv_aload_n hx hb dX4_add_11 rfl (lv_at hl 0 rfl) ?_
    refine x_get hx hb hts hown hK hH 81 (by decide) f81 hinX4 rfl 0 (by decide) (List.mem_of_getElem? (i := 2) rfl) rfl dX4_add_12 ?_
    refine lv_aload_n hx hb dX4_add_15 rfl (lv_at hl 0 rfl) ?_
    refine x_get hx hb hts hown hK hH 81 (by decide) f81 hinX4 rfl 1 (by decide) (List.mem_of_getElem? (i := 1) rfl) rfl dX4_add_16 ?_
    refine lv_iload_n hx hb dX4_add_19 rfl (lv_at hl 1 rfl) ?_
    refine x_cast hx hb hK hH 82 (by decide) f82 (by omega) (by omega) (by omega) (by omega) (by omega) dX4_add_20 (fun σ1 H locs f82 fr2 hH => ?_)
    have f81 : σ1 81 = oB 2 [.ref (xad E 82), .int (iZ ln), .int (iZ cs), cm, .ref (xad E 83)] := (fr2 81 (by omega)).trans f81
    have f83 : σ1 83 = aI E 3 va := (fr2 83 (by omega)).trans f83
    refine lv_aload_n hx hb dX4_add_21 rfl (lv_at hl 0 rfl) ?_
    refine lv_dup hx hb dX4_add_22 rfl ?_
    refine x_get hx hb hts hown hK hH 81 (by decide) f81 hinX4 rfl 1 (by decide) (List.mem_of_getElem? (i := 1) rfl) rfl dX4_add_23 ?_
    refine x_iconst hx hb dX4_add_26 ?_
    refine x_iadd hx hb dX4_add_27 ?_
    refine x_put (fs' := [.ref (xad E 82), .int (iZ (ln + 1)), .int (iZ cs), cm, .ref (xad E 83)]) hx hb hts hown hK hH 81 (by decide) f81 hinX4 rfl tyX4 tyX4_ok nmX4 1 (by decide) (List.mem_of_getElem? (i := 1) rfl) rfl (ty := .int) (by decide +kernel) rfl rfl (Nat.le_of_ble_eq_true rfl) rfl dX4_add_28 (fun σ3 H locs f81 fr4 hH => ?_)
    have f82 : σ3 82 = aC E 60 (ui tx ln ch) := (fr4 82 (by omega)).trans f82
    have f83 : σ3 83 = aI E 3 va := (fr4 83 (by omega)).trans f83
    refine x_iconst hx hb dX4_add_31 ?_
    subst hQ
    exact x_zret (b := true) hx hb hr hlocks hH (Nat.le_of_ble_eq_true rfl) (Nat.le_of_ble_eq_true rfl) ⟨congrArg b2 (show true = (decide (ln < 60)) from (by exact (decide_eq_true (by omega)).symm)), ⟨(ui tx ln ch), (ln + 1), ⟨f81, f82, f83⟩, (by first | exact (fun _ => ⟨rfl, rfl⟩) | (intro h; exfalso; omega)), (by first | exact (fun _ => ⟨rfl, rfl⟩) | (intro h; exfalso; omega))⟩, fun j hj0 => ((fr4 j (by omega)).trans (fr2 j (by omega)))⟩ dX4_add_32
  · refine x_iconst hx hb dX4_add_9 ?_
    subst hQ
    exact x_zret (b := false) hx hb hr hlocks hH (Nat.le_of_ble_eq_true rfl) (Nat.le_of_ble_eq_true rfl) ⟨congrArg b2 (show false = (decide (ln < 60)) from (by exact (decide_eq_false (by omega)).symm)), ⟨tx, ln, ⟨f81, f82, f83⟩, (by first | exact (fun _ => ⟨rfl, rfl⟩) | (intro h; exfalso; omega)), (by first | exact (fun _ => ⟨rfl, rfl⟩) | (intro h; exfalso; omega))⟩, fun j hj0 => rfl⟩ dX4_add_10

def rm_X4_isPlaceholder : Room := { frames := 0, cells := 0, slots := 0, locals := 0 }
set_option maxRecDepth 100000 in
set_option maxHeartbeats 4000000 in
theorem c_X4_isPlaceholder (l : Launch) (E : xE) (ST : xST) (hSF : SF ST) (σ : xW) (k : Int) (hk : rg k) : CI l E ST yX4_isPlaceholder wsX4_isPlaceholder rm_X4_isPlaceholder [.int (iZ k)] σ (fun (z : Int) (u : xW) => z = b2 (decide (k = 68 ∨ k = 78 ∨ k = 83 ∨ k = 76)) ∧ u = σ) := by
  refine CI_of (by decide) rfl (Nat.le_of_ble_eq_true rfl) ?_
  intro p e s m args below meth c Q ls G hH hl hQ
  obtain ⟨hx, hb, hml, hown, hts, hK, hST, hlocks, hr, hno⟩ := G
  have hOK := hSF.1
  have hown : s.vm.findClass RX4 = some m.cls := hown
  have hl : lv_has ls 1 [(0, .int (iZ k))] := hl
  refine lv_iload_n hx hb dX4_isPlaceholder_0 rfl (lv_at hl 0 rfl) ?_
  refine x_bipush hx hb dX4_isPlaceholder_1 (by decide) ?_
  refine x_icmp_eq (tgt := 24) hx hb dX4_isPlaceholder_3 (by decide) (by omega) (by decide) (fun c3 => ?_) (fun c3 => ?_)
  · refine x_iconst hx hb dX4_isPlaceholder_24 ?_
    refine lv_goto (tgt := 29) hx hb dX4_isPlaceholder_25 (by decide) ?_
    subst hQ
    exact x_zret (b := true) hx hb hr hlocks hH (Nat.le_of_ble_eq_true rfl) (Nat.le_of_ble_eq_true rfl) ⟨congrArg b2 (show true = (decide (k = 68 ∨ k = 78 ∨ k = 83 ∨ k = 76)) from (by exact (decide_eq_true (by omega)).symm)), rfl⟩ dX4_isPlaceholder_29
  · refine lv_iload_n hx hb dX4_isPlaceholder_6 rfl (lv_at hl 0 rfl) ?_
    refine x_bipush hx hb dX4_isPlaceholder_7 (by decide) ?_
    refine x_icmp_eq (tgt := 24) hx hb dX4_isPlaceholder_9 (by decide) (by omega) (by decide) (fun c9 => ?_) (fun c9 => ?_)
    · refine x_iconst hx hb dX4_isPlaceholder_24 ?_
      refine lv_goto (tgt := 29) hx hb dX4_isPlaceholder_25 (by decide) ?_
      subst hQ
      exact x_zret (b := true) hx hb hr hlocks hH (Nat.le_of_ble_eq_true rfl) (Nat.le_of_ble_eq_true rfl) ⟨congrArg b2 (show true = (decide (k = 68 ∨ k = 78 ∨ k = 83 ∨ k = 76)) from (by exact (decide_eq_true (by omega)).symm)), rfl⟩ dX4_isPlaceholder_29
    · refine lv_iload_n hx hb dX4_isPlaceholder_12 rfl (lv_at hl 0 rfl) ?_
      refine x_bipush hx hb dX4_isPlaceholder_13 (by decide) ?_
      refine x_icmp_eq (tgt := 24) hx hb dX4_isPlaceholder_15 (by decide) (by omega) (by decide) (fun c15 => ?_) (fun c15 => ?_)
      · refine x_iconst hx hb dX4_isPlaceholder_24 ?_
        refine lv_goto (tgt := 29) hx hb dX4_isPlaceholder_25 (by decide) ?_
        subst hQ
        exact x_zret (b := true) hx hb hr hlocks hH (Nat.le_of_ble_eq_true rfl) (Nat.le_of_ble_eq_true rfl) ⟨congrArg b2 (show true = (decide (k = 68 ∨ k = 78 ∨ k = 83 ∨ k = 76)) from (by exact (decide_eq_true (by omega)).symm)), rfl⟩ dX4_isPlaceholder_29
      · refine lv_iload_n hx hb dX4_isPlaceholder_18 rfl (lv_at hl 0 rfl) ?_
        refine x_bipush hx hb dX4_isPlaceholder_19 (by decide) ?_
        refine x_icmp_ne (tgt := 28) hx hb dX4_isPlaceholder_21 (by decide) (by omega) (by decide) (fun c21 => ?_) (fun c21 => ?_)
        · refine x_iconst hx hb dX4_isPlaceholder_28 ?_
          subst hQ
          exact x_zret (b := false) hx hb hr hlocks hH (Nat.le_of_ble_eq_true rfl) (Nat.le_of_ble_eq_true rfl) ⟨congrArg b2 (show false = (decide (k = 68 ∨ k = 78 ∨ k = 83 ∨ k = 76)) from (by exact (decide_eq_false (by omega)).symm)), rfl⟩ dX4_isPlaceholder_29
        · refine x_iconst hx hb dX4_isPlaceholder_24 ?_
          refine lv_goto (tgt := 29) hx hb dX4_isPlaceholder_25 (by decide) ?_
          subst hQ
          exact x_zret (b := true) hx hb hr hlocks hH (Nat.le_of_ble_eq_true rfl) (Nat.le_of_ble_eq_true rfl) ⟨congrArg b2 (show true = (decide (k = 68 ∨ k = 78 ∨ k = 83 ∨ k = 76)) from (by exact (decide_eq_true (by omega)).symm)), rfl⟩ dX4_isPlaceholder_29

def rm_X4_fits : Room := { frames := 1, cells := 0, slots := 0, locals := 20 }
set_option maxRecDepth 100000 in
set_option maxHeartbeats 4000000 in
theorem c_X4_fits (l : Launch) (E : xE) (ST : xST) (hSF : SF ST) (σ : xW) (k : Int) (ch : Int) (hk : rg k) (hch : rg ch) : CI l E ST yX4_fits wsX4_fits rm_X4_fits [.int (iZ k), .int (iZ ch)] σ (fun (z : Int) (u : xW) => z = b2 (ftB k ch) ∧ u = σ) := by
  refine CI_of (by decide) rfl (Nat.le_of_ble_eq_true rfl) ?_
  intro p e s m args below meth c Q ls G hH hl hQ
  obtain ⟨hx, hb, hml, hown, hts, hK, hST, hlocks, hr, hno⟩ := G
  have hOK := hSF.1
  have hown : s.vm.findClass RX4 = some m.cls := hown
  have hl : lv_has ls 2 [(0, .int (iZ k)), (1, .int (iZ ch))] := hl
  refine lv_iload_n hx hb dX4_fits_0 rfl (lv_at hl 0 rfl) ?_
  refine x_bipush hx hb dX4_fits_1 (by decide) ?_
  refine x_icmp_eq (tgt := 12) hx hb dX4_fits_3 (by decide) (by omega) (by decide) (fun c3 => ?_) (fun c3 => ?_)
  · refine lv_iload_n hx hb dX4_fits_12 rfl (lv_at hl 1 rfl) ?_
    refine x_bipush hx hb dX4_fits_13 (by decide) ?_
    refine x_icmp_lt (tgt := 28) hx hb dX4_fits_15 (by decide) (by omega) (by decide) (fun c15 => ?_) (fun c15 => ?_)
    · refine x_iconst hx hb dX4_fits_28 ?_
      subst hQ
      exact x_zret (b := false) hx hb hr hlocks hH (Nat.le_of_ble_eq_true rfl) (Nat.le_of_ble_eq_true rfl) ⟨congrArg b2 (show false = (ftB k ch) from (by unfold ftB; (repeat' split) <;> first | rfl | (exfalso; omega) | exact (decide_eq_true (by omega)).symm | exact (decide_eq_false (by omega)).symm)), rfl⟩ dX4_fits_29
    · refine lv_iload_n hx hb dX4_fits_18 rfl (lv_at hl 1 rfl) ?_
      refine x_bipush hx hb dX4_fits_19 (by decide) ?_
      refine x_icmp_gt (tgt := 28) hx hb dX4_fits_21 (by decide) (by omega) (by decide) (fun c21 => ?_) (fun c21 => ?_)
      · refine x_iconst hx hb dX4_fits_28 ?_
        subst hQ
        exact x_zret (b := false) hx hb hr hlocks hH (Nat.le_of_ble_eq_true rfl) (Nat.le_of_ble_eq_true rfl) ⟨congrArg b2 (show false = (ftB k ch) from (by unfold ftB; (repeat' split) <;> first | rfl | (exfalso; omega) | exact (decide_eq_true (by omega)).symm | exact (decide_eq_false (by omega)).symm)), rfl⟩ dX4_fits_29
      · refine x_iconst hx hb dX4_fits_24 ?_
        refine lv_goto (tgt := 29) hx hb dX4_fits_25 (by decide) ?_
        subst hQ
        exact x_zret (b := true) hx hb hr hlocks hH (Nat.le_of_ble_eq_true rfl) (Nat.le_of_ble_eq_true rfl) ⟨congrArg b2 (show true = (ftB k ch) from (by unfold ftB; (repeat' split) <;> first | rfl | (exfalso; omega) | exact (decide_eq_true (by omega)).symm | exact (decide_eq_false (by omega)).symm)), rfl⟩ dX4_fits_29
  · refine lv_iload_n hx hb dX4_fits_6 rfl (lv_at hl 0 rfl) ?_
    refine x_bipush hx hb dX4_fits_7 (by decide) ?_
    refine x_icmp_ne (tgt := 30) hx hb dX4_fits_9 (by decide) (by omega) (by decide) (fun c9 => ?_) (fun c9 => ?_)
    · refine lv_iload_n hx hb dX4_fits_30 rfl (lv_at hl 0 rfl) ?_
      refine x_bipush hx hb dX4_fits_31 (by decide) ?_
      refine x_icmp_ne (tgt := 54) hx hb dX4_fits_33 (by decide) (by omega) (by decide) (fun c33 => ?_) (fun c33 => ?_)
      · refine lv_iload_n hx hb dX4_fits_54 rfl (lv_at hl 0 rfl) ?_
        refine x_bipush hx hb dX4_fits_55 (by decide) ?_
        refine x_icmp_ne (tgt := 65) hx hb dX4_fits_57 (by decide) (by omega) (by decide) (fun c57 => ?_) (fun c57 => ?_)
        · refine lv_iload_n hx hb dX4_fits_65 rfl (lv_at hl 1 rfl) ?_
          refine lv_iload_n hx hb dX4_fits_66 rfl (lv_at hl 0 rfl) ?_
          refine x_icmp_ne (tgt := 74) hx hb dX4_fits_67 (by decide) (by omega) (by omega) (fun c67 => ?_) (fun c67 => ?_)
          · refine x_iconst hx hb dX4_fits_74 ?_
            subst hQ
            exact x_zret (b := false) hx hb hr hlocks hH (Nat.le_of_ble_eq_true rfl) (Nat.le_of_ble_eq_true rfl) ⟨congrArg b2 (show false = (ftB k ch) from (by unfold ftB; (repeat' split) <;> first | rfl | (exfalso; omega) | exact (decide_eq_true (by omega)).symm | exact (decide_eq_false (by omega)).symm)), rfl⟩ dX4_fits_75
          · refine x_iconst hx hb dX4_fits_70 ?_
            refine lv_goto (tgt := 75) hx hb dX4_fits_71 (by decide) ?_
            subst hQ
            exact x_zret (b := true) hx hb hr hlocks hH (Nat.le_of_ble_eq_true rfl) (Nat.le_of_ble_eq_true rfl) ⟨congrArg b2 (show true = (ftB k ch) from (by unfold ftB; (repeat' split) <;> first | rfl | (exfalso; omega) | exact (decide_eq_true (by omega)).symm | exact (decide_eq_false (by omega)).symm)), rfl⟩ dX4_fits_75
        · refine lv_iload_n hx hb dX4_fits_60 rfl (lv_at hl 1 rfl) ?_
          refine x_cSNID (As := [.int (iZ ch)]) (rest := []) hx hb hml hts hown hK hST hOK hH (c_X6_isKey l E ST hSF σ ch  (by omega)) ⟨va_cnB (host := "BrambleShift") 1 hts gX4_fits_X6_isKey_n78 rfl rfl rfl (hSF.nest hST (List.mem_of_getElem? (i := 4) rfl)) (hts _ (List.mem_of_getElem? (i := 2) rfl)) (by decide +kernel) ⟨Nat.le_of_ble_eq_true rfl, Nat.le_of_ble_eq_true rfl⟩, hts _ (List.mem_of_getElem? (i := 1) rfl), trivial⟩ rfl hl.1 rfl (Nat.le_of_ble_eq_true rfl) dX4_fits_61 ⟨Nat.le_of_ble_eq_true rfl, Nat.le_of_ble_eq_true rfl⟩ (fun z u h => h) (fun H locs hH => ?_)
          subst hQ
          exact x_zret (b := (decide (97 ≤ ch ∧ ch < 103))) hx hb hr hlocks hH (Nat.le_of_ble_eq_true rfl) (Nat.le_of_ble_eq_true rfl) ⟨congrArg b2 (show (decide (97 ≤ ch ∧ ch < 103)) = (ftB k ch) from (by unfold ftB; (repeat' split) <;> first | rfl | (exfalso; omega) | exact (decide_eq_true (by omega)).symm | exact (decide_eq_false (by omega)).symm)), rfl⟩ dX4_fits_64
      · refine lv_iload_n hx hb dX4_fits_36 rfl (lv_at hl 1 rfl) ?_
        refine x_bipush hx hb dX4_fits_37 (by decide) ?_
        refine x_icmp_eq (tgt := 48) hx hb dX4_fits_39 (by decide) (by omega) (by decide) (fun c39 => ?_) (fun c39 => ?_)
        · refine x_iconst hx hb dX4_fits_48 ?_
          refine lv_goto (tgt := 53) hx hb dX4_fits_49 (by decide) ?_
          subst hQ
          exact x_zret (b := true) hx hb hr hlocks hH (Nat.le_of_ble_eq_true rfl) (Nat.le_of_ble_eq_true rfl) ⟨congrArg b2 (show true = (ftB k ch) from (by unfold ftB; (repeat' split) <;> first | rfl | (exfalso; omega) | exact (decide_eq_true (by omega)).symm | exact (decide_eq_false (by omega)).symm)), rfl⟩ dX4_fits_53
        · refine lv_iload_n hx hb dX4_fits_42 rfl (lv_at hl 1 rfl) ?_
          refine x_bipush hx hb dX4_fits_43 (by decide) ?_
          refine x_icmp_ne (tgt := 52) hx hb dX4_fits_45 (by decide) (by omega) (by decide) (fun c45 => ?_) (fun c45 => ?_)
          · refine x_iconst hx hb dX4_fits_52 ?_
            subst hQ
            exact x_zret (b := false) hx hb hr hlocks hH (Nat.le_of_ble_eq_true rfl) (Nat.le_of_ble_eq_true rfl) ⟨congrArg b2 (show false = (ftB k ch) from (by unfold ftB; (repeat' split) <;> first | rfl | (exfalso; omega) | exact (decide_eq_true (by omega)).symm | exact (decide_eq_false (by omega)).symm)), rfl⟩ dX4_fits_53
          · refine x_iconst hx hb dX4_fits_48 ?_
            refine lv_goto (tgt := 53) hx hb dX4_fits_49 (by decide) ?_
            subst hQ
            exact x_zret (b := true) hx hb hr hlocks hH (Nat.le_of_ble_eq_true rfl) (Nat.le_of_ble_eq_true rfl) ⟨congrArg b2 (show true = (ftB k ch) from (by unfold ftB; (repeat' split) <;> first | rfl | (exfalso; omega) | exact (decide_eq_true (by omega)).symm | exact (decide_eq_false (by omega)).symm)), rfl⟩ dX4_fits_53
    · refine lv_iload_n hx hb dX4_fits_12 rfl (lv_at hl 1 rfl) ?_
      refine x_bipush hx hb dX4_fits_13 (by decide) ?_
      refine x_icmp_lt (tgt := 28) hx hb dX4_fits_15 (by decide) (by omega) (by decide) (fun c15 => ?_) (fun c15 => ?_)
      · refine x_iconst hx hb dX4_fits_28 ?_
        subst hQ
        exact x_zret (b := false) hx hb hr hlocks hH (Nat.le_of_ble_eq_true rfl) (Nat.le_of_ble_eq_true rfl) ⟨congrArg b2 (show false = (ftB k ch) from (by unfold ftB; (repeat' split) <;> first | rfl | (exfalso; omega) | exact (decide_eq_true (by omega)).symm | exact (decide_eq_false (by omega)).symm)), rfl⟩ dX4_fits_29
      · refine lv_iload_n hx hb dX4_fits_18 rfl (lv_at hl 1 rfl) ?_
        refine x_bipush hx hb dX4_fits_19 (by decide) ?_
        refine x_icmp_gt (tgt := 28) hx hb dX4_fits_21 (by decide) (by omega) (by decide) (fun c21 => ?_) (fun c21 => ?_)
        · refine x_iconst hx hb dX4_fits_28 ?_
          subst hQ
          exact x_zret (b := false) hx hb hr hlocks hH (Nat.le_of_ble_eq_true rfl) (Nat.le_of_ble_eq_true rfl) ⟨congrArg b2 (show false = (ftB k ch) from (by unfold ftB; (repeat' split) <;> first | rfl | (exfalso; omega) | exact (decide_eq_true (by omega)).symm | exact (decide_eq_false (by omega)).symm)), rfl⟩ dX4_fits_29
        · refine x_iconst hx hb dX4_fits_24 ?_
          refine lv_goto (tgt := 29) hx hb dX4_fits_25 (by decide) ?_
          subst hQ
          exact x_zret (b := true) hx hb hr hlocks hH (Nat.le_of_ble_eq_true rfl) (Nat.le_of_ble_eq_true rfl) ⟨congrArg b2 (show true = (ftB k ch) from (by unfold ftB; (repeat' split) <;> first | rfl | (exfalso; omega) | exact (decide_eq_true (by omega)).symm | exact (decide_eq_false (by omega)).symm)), rfl⟩ dX4_fits_29

def rm_X4_valueOf : Room := { frames := 0, cells := 0, slots := 0, locals := 0 }
set_option maxRecDepth 100000 in
set_option maxHeartbeats 4000000 in
theorem c_X4_valueOf (l : Launch) (E : xE) (ST : xST) (hSF : SF ST) (σ : xW) (k : Int) (ch : Int) (hk : rg k) (hch : 0 ≤ ch ∧ ch ≤ 65535) : CI l E ST yX4_valueOf wsX4_valueOf rm_X4_valueOf [.int (iZ k), .int (iZ ch)] σ (fun (z : Int) (u : xW) => z = vlZ k ch ∧ u = σ) := by
  refine CI_of (by decide) rfl (Nat.le_of_ble_eq_true rfl) ?_
  intro p e s m args below meth c Q ls G hH hl hQ
  obtain ⟨hx, hb, hml, hown, hts, hK, hST, hlocks, hr, hno⟩ := G
  have hOK := hSF.1
  have hown : s.vm.findClass RX4 = some m.cls := hown
  have hl : lv_has ls 2 [(0, .int (iZ k)), (1, .int (iZ ch))] := hl
  refine lv_iload_n hx hb dX4_valueOf_0 rfl (lv_at hl 0 rfl) ?_
  refine x_bipush hx hb dX4_valueOf_1 (by decide) ?_
  refine x_icmp_eq (tgt := 12) hx hb dX4_valueOf_3 (by decide) (by omega) (by decide) (fun c3 => ?_) (fun c3 => ?_)
  · refine lv_iload_n hx hb dX4_valueOf_12 rfl (lv_at hl 1 rfl) ?_
    refine x_bipush hx hb dX4_valueOf_13 (by decide) ?_
    refine x_isub hx hb dX4_valueOf_15 ?_
    subst hQ
    exact x_iret hx hb hr hlocks hH (Nat.le_of_ble_eq_true rfl) (Nat.le_of_ble_eq_true rfl) ⟨(show (ch - 48) = (vlZ k ch) from (by unfold vlZ; (repeat' split) <;> first | rfl | (exfalso; omega))), rfl⟩ dX4_valueOf_16
  · refine lv_iload_n hx hb dX4_valueOf_6 rfl (lv_at hl 0 rfl) ?_
    refine x_bipush hx hb dX4_valueOf_7 (by decide) ?_
    refine x_icmp_ne (tgt := 17) hx hb dX4_valueOf_9 (by decide) (by omega) (by decide) (fun c9 => ?_) (fun c9 => ?_)
    · refine lv_iload_n hx hb dX4_valueOf_17 rfl (lv_at hl 0 rfl) ?_
      refine x_bipush hx hb dX4_valueOf_18 (by decide) ?_
      refine x_icmp_ne (tgt := 35) hx hb dX4_valueOf_20 (by decide) (by omega) (by decide) (fun c20 => ?_) (fun c20 => ?_)
      · refine lv_iload_n hx hb dX4_valueOf_35 rfl (lv_at hl 1 rfl) ?_
        subst hQ
        exact x_iret hx hb hr hlocks hH (Nat.le_of_ble_eq_true rfl) (Nat.le_of_ble_eq_true rfl) ⟨(show ch = (vlZ k ch) from (by unfold vlZ; (repeat' split) <;> first | rfl | (exfalso; omega))), rfl⟩ dX4_valueOf_36
      · refine lv_iload_n hx hb dX4_valueOf_23 rfl (lv_at hl 1 rfl) ?_
        refine x_bipush hx hb dX4_valueOf_24 (by decide) ?_
        refine x_icmp_ne (tgt := 33) hx hb dX4_valueOf_26 (by decide) (by omega) (by decide) (fun c26 => ?_) (fun c26 => ?_)
        · refine x_iconst hx hb dX4_valueOf_33 ?_
          subst hQ
          exact x_iret hx hb hr hlocks hH (Nat.le_of_ble_eq_true rfl) (Nat.le_of_ble_eq_true rfl) ⟨(show (-1) = (vlZ k ch) from (by unfold vlZ; (repeat' split) <;> first | rfl | (exfalso; omega))), rfl⟩ dX4_valueOf_34
        · refine x_iconst hx hb dX4_valueOf_29 ?_
          refine lv_goto (tgt := 34) hx hb dX4_valueOf_30 (by decide) ?_
          subst hQ
          exact x_iret hx hb hr hlocks hH (Nat.le_of_ble_eq_true rfl) (Nat.le_of_ble_eq_true rfl) ⟨(show 1 = (vlZ k ch) from (by unfold vlZ; (repeat' split) <;> first | rfl | (exfalso; omega))), rfl⟩ dX4_valueOf_34
    · refine lv_iload_n hx hb dX4_valueOf_12 rfl (lv_at hl 1 rfl) ?_
      refine x_bipush hx hb dX4_valueOf_13 (by decide) ?_
      refine x_isub hx hb dX4_valueOf_15 ?_
      subst hQ
      exact x_iret hx hb hr hlocks hH (Nat.le_of_ble_eq_true rfl) (Nat.le_of_ble_eq_true rfl) ⟨(show (ch - 48) = (vlZ k ch) from (by unfold vlZ; (repeat' split) <;> first | rfl | (exfalso; omega))), rfl⟩ dX4_valueOf_16

def rm_X6_append : Room := { frames := 6, cells := 1, slots := 6, locals := 90 }
set_option maxRecDepth 100000 in
set_option maxHeartbeats 4000000 in
theorem c_X6_append (l : Launch) (E : xE) (ST : xST) (hSF : SF ST) (htr : l.stackTraces = false) (σ : xW) (ch : Int) (hv : Bool) (se : Int) (sf : Int) (ll : Int) (tx : Int → Int) (ln : Int) (cs : Int) (cm : Value) (va : Int → Int) (hr0 : mn E σ hv se sf ll) (hr1 : pg E σ tx ln cs cm va) (hln : 0 ≤ ln ∧ ln ≤ 60) (hch : 0 ≤ ch ∧ ch ≤ 65535) : XI l E ST yX6_append wsX6_append rm_X6_append [.ref (xad E 0), .int (iZ ch)] σ (fun (z : Int) (u : xW) => z = ln + 1 ∧ (mn E u hv se sf ll ∧ pg E u (ui tx ln ch) (ln + 1) cs cm va ∧ (ln < 60)) ∧ ∀ j : Nat, (j < 81 ∨ 81 + 3 ≤ j) → u j = σ j) (fun (n : String) (u : xW) => ((n = "java/lang/IllegalStateException" ∧ ¬ ln < 60)) ∧ (mn E u hv se sf ll ∧ pg E u tx ln cs cm va) ∧ ∀ j : Nat, (j < 81 ∨ 81 + 3 ≤ j) → u j = σ j) := by
  have f0 : σ 0 = oB 4 [.ref (xad E 1), .ref (xad E 7), .ref (xad E 13), .ref (xad E 19), .int (iZ (b2 hv)), .ref (xad E 73), .ref (xad E 75), .ref (xad E 81), .int (iZ se), .int (iZ sf), .ref (xad E 84), .int (iZ ll)] := hr0
  obtain ⟨f81, f82, f83⟩ := hr1
  refine XI_of (by decide) rfl (Nat.le_of_ble_eq_true rfl) ?_
  intro p e s m args below meth c Q ls G hH hl hQ
  obtain ⟨hx, hb, hml, hown, hts, hK, hST, hlocks, hr, hno⟩ := G
  have hOK := hSF.1
  have hown : s.vm.findClass RX6 = some m.cls := hown
  have hl : lv_has ls 2 [(0, .ref (xad E 0)), (1, .int (iZ ch))] := hl
  have hinX4 : ∀ w ∈ u_ws RX4 TX4 5, w ∈ wsX6_append := fun w h => (List.mem_cons_of_mem _ (List.mem_append_left _ (List.mem_append_right _ h)))
  have hinX6 : ∀ w ∈ u_ws RX6 TX6 12, w ∈ wsX6_append := fun w h => (List.mem_cons_of_mem _ (List.mem_append_left _ (List.mem_append_left _ (List.mem_append_right _ h))))
  refine lv_aload_n hx hb dX6_append_0 rfl (lv_at hl 0 rfl) ?_
  refine x_get hx hb hts hown hK hH 0 (by decide) f0 hinX6 rfl 7 (by decide) (List.mem_of_getElem? (i := 3) rfl) rfl dX6_append_1 ?_
  refine lv_iload_n hx hb dX6_append_4 rfl (lv_at hl 1 rfl) ?_
  refine x_cVIE (As := [.int (iZ ch)]) (rest := []) hx hb hml hts hown hK hST hOK hH 81 (c_X4_add l E ST hSF σ ch tx ln cs cm va ⟨f81, f82, f83⟩ (by omega) (by omega)) (cwV 1 hts gX6_append_X4_add rfl rfl rfl (by decide +kernel) ⟨Nat.le_of_ble_eq_true rfl, Nat.le_of_ble_eq_true rfl⟩) (by decide) f81 rfl rfl hl.1 rfl (Nat.le_of_ble_eq_true rfl) dX6_append_5 ⟨Nat.le_of_ble_eq_true rfl, Nat.le_of_ble_eq_true rfl⟩ (fun z u h => h) (fun σ2 H locs hp3 hH => ?_)
  obtain ⟨⟨tx1_5, ln1_6, ⟨f81, f82, f83⟩, hfA, hfB⟩, fr4⟩ := hp3
  have f0 : σ2 0 = oB 4 [.ref (xad E 1), .ref (xad E 7), .ref (xad E 13), .ref (xad E 19), .int (iZ (b2 hv)), .ref (xad E 73), .ref (xad E 75), .ref (xad E 81), .int (iZ se), .int (iZ sf), .ref (xad E 84), .int (iZ ll)] := (fr4 0 (by omega)).trans f0
  refine x_ifb_ne (tgt := 21) hx hb dX6_append_8 (by decide) (fun c8 => ?_) (fun c8 => ?_)
  · have c8 := of_decide_eq_true c8
    refine lv_aload_n hx hb dX6_append_21 rfl (lv_at hl 0 rfl) ?_
    refine x_get hx hb hts hown hK hH 0 (by decide) f0 hinX6 rfl 7 (by decide) (List.mem_of_getElem? (i := 3) rfl) rfl dX6_append_22 ?_
    refine x_get hx hb hts hown hK hH 81 (by decide) f81 hinX4 rfl 1 (by decide) (List.mem_of_getElem? (i := 4) rfl) rfl dX6_append_25 ?_
    subst hQ
    exact x_ireX hx hb hr hlocks hH (Nat.le_of_ble_eq_true rfl) (Nat.le_of_ble_eq_true rfl) ⟨(show ln1_6 = (ln + 1) from (by exact (hfA c8).2)), ⟨f0, ⟨(f81.trans (by first | rw [(hfA c8).2] | rw [(hfB c8).2])), (f82.trans (congrArg (fun g => aC E 60 g) (show tx1_5 = (ui tx ln ch) from (by first | exact (hfA c8).1 | exact (hfB c8).1)))), f83⟩, (by first | assumption | omega | simp_all)⟩, fun j hj0 => (fr4 j (by omega))⟩ dX6_append_28
  · have c8 := of_decide_eq_false c8
    subst hQ
    exact x_throwS (text := "the text buffer is full") hx hb hml htr hts hown hST hSF hno hlocks hH xExc_2 (List.mem_of_getElem? (i := 1) rfl) (List.mem_of_getElem? (i := 2) rfl) (fun w h => (List.mem_cons_of_mem _ (List.mem_append_right _ h))) (List.mem_of_getElem? (i := 7) rfl) hl.1 dX6_append_11 dX6_append_14 dX6_append_15 dX6_append_17 dX6_append_20 (Nat.le_of_ble_eq_true rfl) (Nat.le_of_ble_eq_true rfl) (Nat.le_of_ble_eq_true rfl) (Nat.le_of_ble_eq_true rfl) ⟨⟨rfl, (by exact c8)⟩, ⟨f0, ⟨(f81.trans (by first | rw [(hfA c8).2] | rw [(hfB c8).2])), (f82.trans (congrArg (fun g => aC E 60 g) (show tx1_5 = tx from (by first | exact (hfA c8).1 | exact (hfB c8).1)))), f83⟩⟩, fun j hj0 => (fr4 j (by omega))⟩ (Nat.le_of_ble_eq_true rfl) (Nat.le_of_ble_eq_true rfl)

def rm_X6_write : Room := { frames := 0, cells := 0, slots := 0, locals := 0 }
set_option maxRecDepth 100000 in
set_option maxHeartbeats 4000000 in
theorem c_X6_write (l : Launch) (E : xE) (ST : xST) (hSF : SF ST) (σ : xW) (ch : Int) (hv : Bool) (se : Int) (sf : Int) (ll : Int) (lq : Int → Int) (hr0 : mn E σ hv se sf ll) (hr1 : cln E σ lq) (hll : 0 ≤ ll ∧ ll ≤ 35) (hch : 0 ≤ ch ∧ ch ≤ 65535) : CV l E ST yX6_write wsX6_write rm_X6_write [.ref (xad E 0), .int (iZ ch)] σ (fun (u : xW) => (∃ (lq1 : Int → Int) (ll1 : Int), mn E u hv se sf ll1 ∧ cln E u lq1 ∧ ((lq1, ll1) = wrF (lq, ll) ch)) ∧ ∀ j : Nat, j ≠ 0 → j ≠ 84 → u j = σ j) := by
  have f0 : σ 0 = oB 4 [.ref (xad E 1), .ref (xad E 7), .ref (xad E 13), .ref (xad E 19), .int (iZ (b2 hv)), .ref (xad E 73), .ref (xad E 75), .ref (xad E 81), .int (iZ se), .int (iZ sf), .ref (xad E 84), .int (iZ ll)] := hr0
  have f84 : σ 84 = aC E 35 lq := hr1
  refine CV_of (by decide) rfl (Nat.le_of_ble_eq_true rfl) ?_
  intro p e s m args below meth c Q ls G hH hl hQ
  obtain ⟨hx, hb, hml, hown, hts, hK, hST, hlocks, hr, hno⟩ := G
  have hOK := hSF.1
  have hown : s.vm.findClass RX6 = some m.cls := hown
  have hl : lv_has ls 2 [(0, .ref (xad E 0)), (1, .int (iZ ch))] := hl
  have hinX6 : ∀ w ∈ u_ws RX6 TX6 12, w ∈ wsX6_write := fun w h => (List.mem_cons_of_mem _ (List.mem_append_right _ h))
  refine lv_aload_n hx hb dX6_write_0 rfl (lv_at hl 0 rfl) ?_
  refine x_get hx hb hts hown hK hH 0 (by decide) f0 hinX6 rfl 11 (by decide) (List.mem_of_getElem? (i := 1) rfl) rfl dX6_write_1 ?_
  refine x_bipush hx hb dX6_write_4 (by decide) ?_
  refine x_icmp_ge (tgt := 29) hx hb dX6_write_6 (by decide) (by omega) (by decide) (fun c6 => ?_) (fun c6 => ?_)
  · subst hQ
    exact x_vret hx hb hr hlocks hH (Nat.le_of_ble_eq_true rfl) (Nat.le_of_ble_eq_true rfl) ⟨⟨lq, ll, f0, f84, (by unfold wrF; first | (rw [if_pos (by assumption)]; done) | (rw [if_neg (by omega)]; done) | (rw [if_pos (by omega)]; done))⟩, fun j hj0 hj1 => rfl⟩ dX6_write_29
  · refine lv_aload_n hx hb dX6_write_9 rfl (lv_at hl 0 rfl) ?_
    refine x_get hx hb hts hown hK hH 0 (by decide) f0 hinX6 rfl 10 (by decide) (List.mem_of_getElem? (i := 2) rfl) rfl dX6_write_10 ?_
    refine lv_aload_n hx hb dX6_write_13 rfl (lv_at hl 0 rfl) ?_
    refine x_get hx hb hts hown hK hH 0 (by decide) f0 hinX6 rfl 11 (by decide) (List.mem_of_getElem? (i := 1) rfl) rfl dX6_write_14 ?_
    refine lv_iload_n hx hb dX6_write_17 rfl (lv_at hl 1 rfl) ?_
    refine x_cast hx hb hK hH 84 (by decide) f84 (by omega) (by omega) (by omega) (by omega) (by omega) dX6_write_18 (fun σ1 H locs f84 fr2 hH => ?_)
    have f0 : σ1 0 = oB 4 [.ref (xad E 1), .ref (xad E 7), .ref (xad E 13), .ref (xad E 19), .int (iZ (b2 hv)), .ref (xad E 73), .ref (xad E 75), .ref (xad E 81), .int (iZ se), .int (iZ sf), .ref (xad E 84), .int (iZ ll)] := (fr2 0 (by omega)).trans f0
    refine lv_aload_n hx hb dX6_write_19 rfl (lv_at hl 0 rfl) ?_
    refine lv_dup hx hb dX6_write_20 rfl ?_
    refine x_get hx hb hts hown hK hH 0 (by decide) f0 hinX6 rfl 11 (by decide) (List.mem_of_getElem? (i := 1) rfl) rfl dX6_write_21 ?_
    refine x_iconst hx hb dX6_write_24 ?_
    refine x_iadd hx hb dX6_write_25 ?_
    refine x_put (fs' := [.ref (xad E 1), .ref (xad E 7), .ref (xad E 13), .ref (xad E 19), .int (iZ (b2 hv)), .ref (xad E 73), .ref (xad E 75), .ref (xad E 81), .int (iZ se), .int (iZ sf), .ref (xad E 84), .int (iZ (ll + 1))]) hx hb hts hown hK hH 0 (by decide) f0 hinX6 rfl tyX6 tyX6_ok nmX6 11 (by decide) (List.mem_of_getElem? (i := 1) rfl) rfl (ty := .int) (by decide +kernel) rfl rfl (Nat.le_of_ble_eq_true rfl) rfl dX6_write_26 (fun σ3 H locs f0 fr4 hH => ?_)
    have f84 : σ3 84 = aC E 35 (ui lq ll ch) := (fr4 84 (by omega)).trans f84
    subst hQ
    exact x_vret hx hb hr hlocks hH (Nat.le_of_ble_eq_true rfl) (Nat.le_of_ble_eq_true rfl) ⟨⟨(ui lq ll ch), (ll + 1), f0, f84, (by unfold wrF; first | (rw [if_pos (by assumption)]; done) | (rw [if_neg (by omega)]; done) | (rw [if_pos (by omega)]; done))⟩, fun j hj0 hj1 => ((fr4 j (by omega)).trans (fr2 j (by omega)))⟩ dX6_write_29
