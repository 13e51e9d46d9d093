def rm_X4_clear : Room := { frames := 0, cells := 0, slots := 0, locals := 0 }
set_option maxRecDepth 100000 in
set_option maxHeartbeats 4000000 in
theorem c_X4_clear (l : Launch) (E : xE) (ST : xST) (hSF : SF ST) (σ : xW) (tx : Int → Int) (ln : Int) (cs : Int) (cm : Value) (va : Int → Int) (hr0 : pg E σ tx ln cs cm va) : CV l E ST yX4_clear wsX4_clear rm_X4_clear [.ref (xad E 81)] σ (fun (u : xW) => (pg E u tx 0 cs cm va) ∧ ∀ j : Nat, (j < 81 ∨ 81 + 3 ≤ j) → u j = σ j) := by
  obtain ⟨f81, f82, f83⟩ := hr0
  refine CV_of (by decide) rfl (Nat.le_of_ble_eq_true rfl) ?_
  intro p e s m args below meth c Q ls G hH hl hQ
  obtain ⟨hx, hb, hml, hown, hts, hK, hST, hlocks, hr, hno⟩ := G
  have hOK := hSF.1
  have hown : s.vm.findClass RX4 = some m.cls := hown
  have hl : lv_has ls 1 [(0, .ref (xad E 81))] := hl
  have hinX4 : ∀ w ∈ u_ws RX4 TX4 5, w ∈ wsX4_clear := fun w h => (List.mem_cons_of_mem _ (List.mem_append_right _ h))
  refine lv_aload_n hx hb dX4_clear_0 rfl (lv_at hl 0 rfl) ?_
  refine x_iconst hx hb dX4_clear_1 ?_
  refine x_put (fs' := [.ref (xad E 82), .int (iZ 0), .int (iZ cs), cm, .ref (xad E 83)]) hx hb hts hown hK hH 81 (ltw (by decide)) f81 hinX4 rfl tyX4 tyX4_ok nmX4 1 (by decide) (List.mem_of_getElem? (i := 1) rfl) rfl (ty := .int) (by decide +kernel) rfl rfl (Nat.le_of_ble_eq_true rfl) rfl dX4_clear_2 (fun σ1 H locs f81 fr2 hH => ?_)
  have f82 : σ1 82 = aC E 60 tx := (fr2 82 (by omega)).trans f82
  have f83 : σ1 83 = aI E 3 va := (fr2 83 (by omega)).trans f83
  subst hQ
  exact x_vret hx hb hr hlocks hH (Nat.le_of_ble_eq_true rfl) (Nat.le_of_ble_eq_true rfl) ⟨⟨f81, f82, f83⟩, fun j hj0 => (fr2 j (by omega))⟩ dX4_clear_5

def rm_X6_write : Room := { frames := 0, cells := 0, slots := 0, locals := 0 }
set_option maxRecDepth 100000 in
set_option maxHeartbeats 4000000 in
theorem c_X6_write (l : Launch) (E : xE) (ST : xST) (hSF : SF ST) (σ : xW) (ch : Int) (hv : Bool) (se : Int) (sf : Int) (ll : Int) (lq : Int → Int) (hr0 : mn E σ hv se sf ll) (hr1 : cln E σ lq) (hll : 0 ≤ ll ∧ ll ≤ 35) (hch : 0 ≤ ch ∧ ch ≤ 65535) : CV l E ST yX6_write wsX6_write rm_X6_write [.ref (xad E 0), .int (iZ ch)] σ (fun (u : xW) => (∃ (lq1 : Int → Int) (ll1 : Int), mn E u hv se sf ll1 ∧ cln E u lq1 ∧ ((lq1, ll1) = wrF (lq, ll) ch)) ∧ ∀ j : Nat, j ≠ 0 → j ≠ 84 → u j = σ j) := by
  have f0 : σ 0 = oB 4 [.ref (xad E 1), .ref (xad E 7), .ref (xad E 13), .ref (xad E 19), .int (iZ (b2 hv)), .ref (xad E 73), .ref (xad E 75), .ref (xad E 81), .int (iZ se), .int (iZ sf), .ref (xad E 84), .int (iZ ll)] := hr0
  have f84 : σ 84 = aC E 35 lq := hr1
  refine CV_of (by decide) rfl (Nat.le_of_ble_eq_true rfl) ?_
  intro p e s m args below meth c Q ls G hH hl hQ
  obtain ⟨hx, hb, hml, hown, hts, hK, hST, hlocks, hr, hno⟩ := G
  have hOK := hSF.1
  have hown : s.vm.findClass RX6 = some m.cls := hown
  have hl : lv_has ls 2 [(0, .ref (xad E 0)), (1, .int (iZ ch))] := hl
  have hinX6 : ∀ w ∈ u_ws RX6 TX6 12, w ∈ wsX6_write := fun w h => (List.mem_cons_of_mem _ (List.mem_append_right _ h))
  refine lv_aload_n hx hb dX6_write_0 rfl (lv_at hl 0 rfl) ?_
  refine x_get hx hb hts hown hK hH 0 (ltw (by decide)) f0 hinX6 rfl 11 (by decide) (List.mem_of_getElem? (i := 1) rfl) rfl dX6_write_1 ?_
  refine x_bipush hx hb dX6_write_4 (by decide) ?_
  refine x_icmp_ge (tgt := 29) hx hb dX6_write_6 (by decide) (by omega) (by decide) (fun c6 => ?_) (fun c6 => ?_)
  · subst hQ
    exact x_vret hx hb hr hlocks hH (Nat.le_of_ble_eq_true rfl) (Nat.le_of_ble_eq_true rfl) ⟨⟨lq, ll, f0, f84, (by unfold wrF; first | (rw [if_pos (by assumption)]; done) | (rw [if_neg (by omega)]; done) | (rw [if_pos (by omega)]; done))⟩, fun j hj0 hj1 => rfl⟩ dX6_write_29
  · refine lv_aload_n hx hb dX6_write_9 rfl (lv_at hl 0 rfl) ?_
    refine x_get hx hb hts hown hK hH 0 (ltw (by decide)) f0 hinX6 rfl 10 (by decide) (List.mem_of_getElem? (i := 2) rfl) rfl dX6_write_10 ?_
    refine lv_aload_n hx hb dX6_write_13 rfl (lv_at hl 0 rfl) ?_
    refine x_get hx hb hts hown hK hH 0 (ltw (by decide)) f0 hinX6 rfl 11 (by decide) (List.mem_of_getElem? (i := 1) rfl) rfl dX6_write_14 ?_
    refine lv_iload_n hx hb dX6_write_17 rfl (lv_at hl 1 rfl) ?_
    refine x_cast hx hb hK hH 84 (ltw (by decide)) f84 (by omega) (by omega) (by omega) (by omega) (by omega) dX6_write_18 (fun σ1 H locs f84 fr2 hH => ?_)
    have f0 : σ1 0 = oB 4 [.ref (xad E 1), .ref (xad E 7), .ref (xad E 13), .ref (xad E 19), .int (iZ (b2 hv)), .ref (xad E 73), .ref (xad E 75), .ref (xad E 81), .int (iZ se), .int (iZ sf), .ref (xad E 84), .int (iZ ll)] := (fr2 0 (by omega)).trans f0
    refine lv_aload_n hx hb dX6_write_19 rfl (lv_at hl 0 rfl) ?_
    refine lv_dup hx hb dX6_write_20 rfl ?_
    refine x_get hx hb hts hown hK hH 0 (ltw (by decide)) f0 hinX6 rfl 11 (by decide) (List.mem_of_getElem? (i := 1) rfl) rfl dX6_write_21 ?_
    refine x_iconst hx hb dX6_write_24 ?_
    refine x_iadd hx hb dX6_write_25 ?_
    refine x_put (fs' := [.ref (xad E 1), .ref (xad E 7), .ref (xad E 13), .ref (xad E 19), .int (iZ (b2 hv)), .ref (xad E 73), .ref (xad E 75), .ref (xad E 81), .int (iZ se), .int (iZ sf), .ref (xad E 84), .int (iZ (ll + 1))]) hx hb hts hown hK hH 0 (ltw (by decide)) f0 hinX6 rfl tyX6 tyX6_ok nmX6 11 (by decide) (List.mem_of_getElem? (i := 1) rfl) rfl (ty := .int) (by decide +kernel) rfl rfl (Nat.le_of_ble_eq_true rfl) rfl dX6_write_26 (fun σ3 H locs f0 fr4 hH => ?_)
    have f84 : σ3 84 = aC E 35 (ui lq ll ch) := (fr4 84 (by omega)).trans f84
    subst hQ
    exact x_vret hx hb hr hlocks hH (Nat.le_of_ble_eq_true rfl) (Nat.le_of_ble_eq_true rfl) ⟨⟨(ui lq ll ch), (ll + 1), f0, f84, (by unfold wrF; first | (rw [if_pos (by assumption)]; done) | (rw [if_neg (by omega)]; done) | (rw [if_pos (by omega)]; done))⟩, fun j hj0 hj1 => ((fr4 j (by omega)).trans (fr2 j (by omega)))⟩ dX6_write_29
