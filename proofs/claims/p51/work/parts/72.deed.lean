def rm_L_plain_0 : Room := { frames := 8, cells := 1, slots := 6, locals := 134 }
set_option maxRecDepth 100000 in
set_option maxHeartbeats 4000000 in
theorem c_L_plain_0 (l : Launch) (E : xE) (ST : xST) (hSF : SF ST) (hSX : SX ST) (htr : l.stackTraces = false) (σ : xW) (a : Int) (b : Int) (c7 : Int) (B : BT) (S : Option BT) (Y : lnQ) (hr0 : cw E σ B S Y) (ha : rg a) (hb9 : rg b) (hc9 : rg c7) : XI l E ST yL_plain wML_plain rm_L_plain_0 [.ref (xad E 0), .int (iZ 0), .int (iZ a), .int (iZ b), .int (iZ c7)] σ (fun (z : Int) (u : xW) => z = (setF (opT B) (lkT B) (kpT B) (wcT B) (pnT B) (nwT B) (shB B) (wkB B) a b c7).1 ∧ (cw E u ((setF (opT B) (lkT B) (kpT B) (wcT B) (pnT B) (nwT B) (shB B) (wkB B) a b c7).2) S Y ∧ (-1 < (setF (opT B) (lkT B) (kpT B) (wcT B) (pnT B) (nwT B) (shB B) (wkB B) a b c7).1)) ∧ ∀ j : Nat, (j < 0 ∨ 0 + 85 ≤ j) → u j = σ j) (fun (n : String) (u : xW) => ((n = "java/lang/IndexOutOfBoundsException" ∧ (setF (opT B) (lkT B) (kpT B) (wcT B) (pnT B) (nwT B) (shB B) (wkB B) a b c7).1 = -1) ∨ (n = "java/lang/IllegalArgumentException" ∧ (setF (opT B) (lkT B) (kpT B) (wcT B) (pnT B) (nwT B) (shB B) (wkB B) a b c7).1 = -2) ∨ (n = "java/lang/IllegalStateException" ∧ (setF (opT B) (lkT B) (kpT B) (wcT B) (pnT B) (nwT B) (shB B) (wkB B) a b c7).1 = -3) ∨ (n = "java/lang/UnsupportedOperationException" ∧ (setF (opT B) (lkT B) (kpT B) (wcT B) (pnT B) (nwT B) (shB B) (wkB B) a b c7).1 = -4) ∨ (n = "java/util/NoSuchElementException" ∧ (setF (opT B) (lkT B) (kpT B) (wcT B) (pnT B) (nwT B) (shB B) (wkB B) a b c7).1 = -5)) ∧ (cw E u B S Y) ∧ ∀ j : Nat, (j < 0 ∨ 0 + 85 ≤ j) → u j = σ j) := by
  have fcw_0 : cw E σ B S Y := hr0
  refine XI_of (by decide) rfl (Nat.le_of_ble_eq_true rfl) ?_
  intro p e s m args below meth c Q ls G hH hl hQ
  obtain ⟨hx, hb, hml, hown, hts, hK, hST, hlocks, hr, hno⟩ := G
  have hOK := hSF.1
  have hown : s.vm.findClass RL = some m.cls := hown
  have hl : lv_has ls 5 [(0, .ref (xad E 0)), (1, .int (iZ 0)), (2, .int (iZ a)), (3, .int (iZ b)), (4, .int (iZ c7))] := hl
  refine lv_iload_n hx hb dL_plain_0 rfl (lv_at hl 1 rfl) ?_
  refine x_tableIn (tgt := 60) hx hb 0 rfl (by decide) dL_plain_1 (by decide) (by decide) rfl (by decide) ?_
  refine lv_aload_n hx hb dL_plain_60 rfl (lv_at hl 0 rfl) ?_
  refine lv_iload_n hx hb dL_plain_61 rfl (lv_at hl 2 rfl) ?_
  refine lv_iload_n hx hb dL_plain_62 rfl (lv_at hl 3 rfl) ?_
  refine lv_iload hx hb dL_plain_63 (lv_at hl 4 rfl) ?_
  obtain ⟨fs9, hfs9⟩ := fcw_0.o0
  refine x_cXVIE (As := [.int (iZ a), .int (iZ b), .int (iZ c7)]) (rest := []) hx hb hml hts hown hK hST hOK hH 0 (q_setTile l E ST hSF htr σ a b c7 B S Y fcw_0 (by omega) (by omega) (by omega)) (cwV 3 hts (goodIn_t (goodIn_x gK_15)) rfl rfl rfl (by decide +kernel) ⟨Nat.le_of_ble_eq_true rfl, Nat.le_of_ble_eq_true rfl⟩) (ltw (by decide)) hfs9 rfl rfl hl.1 rfl (Nat.le_of_ble_eq_true rfl) dL_plain_65 ⟨Nat.le_of_ble_eq_true rfl, Nat.le_of_ble_eq_true rfl⟩ ?_ (fun z u h => h) (fun σ2 H locs hp3 hH => ?_)
  · intro nx ce q9 σ2 H locs hp3 hH hce hcv hcl
    subst hQ
    obtain ⟨hn, fcw_0, fr4⟩ := hp3
    exact x_out hno hlocks hH hce hcv hcl ⟨(by first | exact hn | simp_all | omega), fcw_0, fun j hj0 => (fr4 j (by omega))⟩ (Nat.le_of_ble_eq_true rfl) (Nat.le_of_ble_eq_true rfl)
  · obtain ⟨⟨fcw_0, hf6⟩, fr5⟩ := hp3
    subst hQ
    exact x_ireX hx hb hr hlocks hH (Nat.le_of_ble_eq_true rfl) (Nat.le_of_ble_eq_true rfl) ⟨(show ((setF (opT B) (lkT B) (kpT B) (wcT B) (pnT B) (nwT B) (shB B) (wkB B) a b c7).1) = ((setF (opT B) (lkT B) (kpT B) (wcT B) (pnT B) (nwT B) (shB B) (wkB B) a b c7).1) from (by rfl)), ⟨fcw_0, (by first | assumption | omega | simp_all)⟩, fun j hj0 => (fr5 j (by omega))⟩ dL_plain_68

def rm_L_plain_1 : Room := { frames := 8, cells := 1, slots := 6, locals := 134 }
set_option maxRecDepth 100000 in
set_option maxHeartbeats 4000000 in
theorem c_L_plain_1 (l : Launch) (E : xE) (ST : xST) (hSF : SF ST) (hSX : SX ST) (htr : l.stackTraces = false) (σ : xW) (a : Int) (b : Int) (c7 : Int) (B : BT) (S : Option BT) (Y : lnQ) (hr0 : cw E σ B S Y) (ha : rg a) (hb9 : rg b) (hc9 : rg c7) : XI l E ST yL_plain wML_plain rm_L_plain_1 [.ref (xad E 0), .int (iZ 1), .int (iZ a), .int (iZ b), .int (iZ c7)] σ (fun (z : Int) (u : xW) => z = (turnF (opT B) (lkT B) (kpT B) (wcT B) (pnT B) (nwT B) (shB B) (wkB B) a b c7).1 ∧ (cw E u ((turnF (opT B) (lkT B) (kpT B) (wcT B) (pnT B) (nwT B) (shB B) (wkB B) a b c7).2) S Y ∧ (-1 < (turnF (opT B) (lkT B) (kpT B) (wcT B) (pnT B) (nwT B) (shB B) (wkB B) a b c7).1)) ∧ ∀ j : Nat, (j < 0 ∨ 0 + 85 ≤ j) → u j = σ j) (fun (n : String) (u : xW) => ((n = "java/lang/IndexOutOfBoundsException" ∧ (turnF (opT B) (lkT B) (kpT B) (wcT B) (pnT B) (nwT B) (shB B) (wkB B) a b c7).1 = -1) ∨ (n = "java/lang/IllegalArgumentException" ∧ (turnF (opT B) (lkT B) (kpT B) (wcT B) (pnT B) (nwT B) (shB B) (wkB B) a b c7).1 = -2) ∨ (n = "java/lang/IllegalStateException" ∧ (turnF (opT B) (lkT B) (kpT B) (wcT B) (pnT B) (nwT B) (shB B) (wkB B) a b c7).1 = -3) ∨ (n = "java/lang/UnsupportedOperationException" ∧ (turnF (opT B) (lkT B) (kpT B) (wcT B) (pnT B) (nwT B) (shB B) (wkB B) a b c7).1 = -4) ∨ (n = "java/util/NoSuchElementException" ∧ (turnF (opT B) (lkT B) (kpT B) (wcT B) (pnT B) (nwT B) (shB B) (wkB B) a b c7).1 = -5)) ∧ (cw E u B S Y) ∧ ∀ j : Nat, (j < 0 ∨ 0 + 85 ≤ j) → u j = σ j) := by
  have fcw_0 : cw E σ B S Y := hr0
  refine XI_of (by decide) rfl (Nat.le_of_ble_eq_true rfl) ?_
  intro p e s m args below meth c Q ls G hH hl hQ
  obtain ⟨hx, hb, hml, hown, hts, hK, hST, hlocks, hr, hno⟩ := G
  have hOK := hSF.1
  have hown : s.vm.findClass RL = some m.cls := hown
  have hl : lv_has ls 5 [(0, .ref (xad E 0)), (1, .int (iZ 1)), (2, .int (iZ a)), (3, .int (iZ b)), (4, .int (iZ c7))] := hl
  refine lv_iload_n hx hb dL_plain_0 rfl (lv_at hl 1 rfl) ?_
  refine x_tableIn (tgt := 69) hx hb 1 rfl (by decide) dL_plain_1 (by decide) (by decide) rfl (by decide) ?_
  refine lv_aload_n hx hb dL_plain_69 rfl (lv_at hl 0 rfl) ?_
  refine lv_iload_n hx hb dL_plain_70 rfl (lv_at hl 2 rfl) ?_
  refine lv_iload_n hx hb dL_plain_71 rfl (lv_at hl 3 rfl) ?_
  refine lv_iload hx hb dL_plain_72 (lv_at hl 4 rfl) ?_
  obtain ⟨fs9, hfs9⟩ := fcw_0.o0
  refine x_cXVIE (As := [.int (iZ a), .int (iZ b), .int (iZ c7)]) (rest := []) hx hb hml hts hown hK hST hOK hH 0 (q_turnTile l E ST hSF htr σ a b c7 B S Y fcw_0 (by omega) (by omega) (by omega)) (cwV 3 hts (goodIn_t (goodIn_x gK_21)) rfl rfl rfl (by decide +kernel) ⟨Nat.le_of_ble_eq_true rfl, Nat.le_of_ble_eq_true rfl⟩) (ltw (by decide)) hfs9 rfl rfl hl.1 rfl (Nat.le_of_ble_eq_true rfl) dL_plain_74 ⟨Nat.le_of_ble_eq_true rfl, Nat.le_of_ble_eq_true rfl⟩ ?_ (fun z u h => h) (fun σ2 H locs hp3 hH => ?_)
  · intro nx ce q9 σ2 H locs hp3 hH hce hcv hcl
    subst hQ
    obtain ⟨hn, fcw_0, fr4⟩ := hp3
    exact x_out hno hlocks hH hce hcv hcl ⟨(by first | exact hn | simp_all | omega), fcw_0, fun j hj0 => (fr4 j (by omega))⟩ (Nat.le_of_ble_eq_true rfl) (Nat.le_of_ble_eq_true rfl)
  · obtain ⟨⟨fcw_0, hf6⟩, fr5⟩ := hp3
    subst hQ
    exact x_ireX hx hb hr hlocks hH (Nat.le_of_ble_eq_true rfl) (Nat.le_of_ble_eq_true rfl) ⟨(show ((turnF (opT B) (lkT B) (kpT B) (wcT B) (pnT B) (nwT B) (shB B) (wkB B) a b c7).1) = ((turnF (opT B) (lkT B) (kpT B) (wcT B) (pnT B) (nwT B) (shB B) (wkB B) a b c7).1) from (by rfl)), ⟨fcw_0, (by first | assumption | omega | simp_all)⟩, fun j hj0 => (fr5 j (by omega))⟩ dL_plain_77

def rm_L_plain_2 : Room := { frames := 8, cells := 1, slots := 6, locals := 133 }
set_option maxRecDepth 100000 in
set_option maxHeartbeats 4000000 in
theorem c_L_plain_2 (l : Launch) (E : xE) (ST : xST) (hSF : SF ST) (hSX : SX ST) (htr : l.stackTraces = false) (σ : xW) (a : Int) (b : Int) (c7 : Int) (B : BT) (S : Option BT) (Y : lnQ) (hr0 : cw E σ B S Y) (ha : rg a) (hb9 : rg b) (hc9 : rg c7) : XI l E ST yL_plain wML_plain rm_L_plain_2 [.ref (xad E 0), .int (iZ 2), .int (iZ a), .int (iZ b), .int (iZ c7)] σ (fun (z : Int) (u : xW) => z = (fixF (opT B) (lkT B) (kpT B) (wcT B) (pnT B) (nwT B) (shB B) (wkB B) a b).1 ∧ (cw E u ((fixF (opT B) (lkT B) (kpT B) (wcT B) (pnT B) (nwT B) (shB B) (wkB B) a b).2) S Y ∧ (-1 < (fixF (opT B) (lkT B) (kpT B) (wcT B) (pnT B) (nwT B) (shB B) (wkB B) a b).1)) ∧ ∀ j : Nat, (j < 0 ∨ 0 + 85 ≤ j) → u j = σ j) (fun (n : String) (u : xW) => ((n = "java/lang/IndexOutOfBoundsException" ∧ (fixF (opT B) (lkT B) (kpT B) (wcT B) (pnT B) (nwT B) (shB B) (wkB B) a b).1 = -1) ∨ (n = "java/lang/IllegalArgumentException" ∧ (fixF (opT B) (lkT B) (kpT B) (wcT B) (pnT B) (nwT B) (shB B) (wkB B) a b).1 = -2) ∨ (n = "java/lang/IllegalStateException" ∧ (fixF (opT B) (lkT B) (kpT B) (wcT B) (pnT B) (nwT B) (shB B) (wkB B) a b).1 = -3) ∨ (n = "java/lang/UnsupportedOperationException" ∧ (fixF (opT B) (lkT B) (kpT B) (wcT B) (pnT B) (nwT B) (shB B) (wkB B) a b).1 = -4) ∨ (n = "java/util/NoSuchElementException" ∧ (fixF (opT B) (lkT B) (kpT B) (wcT B) (pnT B) (nwT B) (shB B) (wkB B) a b).1 = -5)) ∧ (cw E u B S Y) ∧ ∀ j : Nat, (j < 0 ∨ 0 + 85 ≤ j) → u j = σ j) := by
  have fcw_0 : cw E σ B S Y := hr0
  refine XI_of (by decide) rfl (Nat.le_of_ble_eq_true rfl) ?_
  intro p e s m args below meth c Q ls G hH hl hQ
  obtain ⟨hx, hb, hml, hown, hts, hK, hST, hlocks, hr, hno⟩ := G
  have hOK := hSF.1
  have hown : s.vm.findClass RL = some m.cls := hown
  have hl : lv_has ls 5 [(0, .ref (xad E 0)), (1, .int (iZ 2)), (2, .int (iZ a)), (3, .int (iZ b)), (4, .int (iZ c7))] := hl
  refine lv_iload_n hx hb dL_plain_0 rfl (lv_at hl 1 rfl) ?_
  refine x_tableIn (tgt := 78) hx hb 2 rfl (by decide) dL_plain_1 (by decide) (by decide) rfl (by decide) ?_
  refine lv_aload_n hx hb dL_plain_78 rfl (lv_at hl 0 rfl) ?_
  refine lv_iload_n hx hb dL_plain_79 rfl (lv_at hl 2 rfl) ?_
  refine lv_iload_n hx hb dL_plain_80 rfl (lv_at hl 3 rfl) ?_
  obtain ⟨fs9, hfs9⟩ := fcw_0.o0
  refine x_cXVIE (As := [.int (iZ a), .int (iZ b)]) (rest := []) hx hb hml hts hown hK hST hOK hH 0 (q_pin l E ST hSF htr σ a b B S Y fcw_0 (by omega) (by omega)) (cwV 2 hts (goodIn_t (goodIn_x gK_24)) rfl rfl rfl (by decide +kernel) ⟨Nat.le_of_ble_eq_true rfl, Nat.le_of_ble_eq_true rfl⟩) (ltw (by decide)) hfs9 rfl rfl hl.1 rfl (Nat.le_of_ble_eq_true rfl) dL_plain_81 ⟨Nat.le_of_ble_eq_true rfl, Nat.le_of_ble_eq_true rfl⟩ ?_ (fun z u h => h) (fun σ2 H locs hp3 hH => ?_)
  · intro nx ce q9 σ2 H locs hp3 hH hce hcv hcl
    subst hQ
    obtain ⟨hn, fcw_0, fr4⟩ := hp3
    exact x_out hno hlocks hH hce hcv hcl ⟨(by first | exact hn | simp_all | omega), fcw_0, fun j hj0 => (fr4 j (by omega))⟩ (Nat.le_of_ble_eq_true rfl) (Nat.le_of_ble_eq_true rfl)
  · obtain ⟨⟨fcw_0, hf6⟩, fr5⟩ := hp3
    subst hQ
    exact x_ireX hx hb hr hlocks hH (Nat.le_of_ble_eq_true rfl) (Nat.le_of_ble_eq_true rfl) ⟨(show ((fixF (opT B) (lkT B) (kpT B) (wcT B) (pnT B) (nwT B) (shB B) (wkB B) a b).1) = ((fixF (opT B) (lkT B) (kpT B) (wcT B) (pnT B) (nwT B) (shB B) (wkB B) a b).1) from (by rfl)), ⟨fcw_0, (by first | assumption | omega | simp_all)⟩, fun j hj0 => (fr5 j (by omega))⟩ dL_plain_84

def rm_L_plain_3 : Room := { frames := 8, cells := 1, slots := 6, locals := 133 }
set_option maxRecDepth 100000 in
set_option maxHeartbeats 4000000 in
theorem c_L_plain_3 (l : Launch) (E : xE) (ST : xST) (hSF : SF ST) (hSX : SX ST) (htr : l.stackTraces = false) (σ : xW) (a : Int) (b : Int) (c7 : Int) (B : BT) (S : Option BT) (Y : lnQ) (hr0 : cw E σ B S Y) (ha : rg a) (hb9 : rg b) (hc9 : rg c7) : XI l E ST yL_plain wML_plain rm_L_plain_3 [.ref (xad E 0), .int (iZ 3), .int (iZ a), .int (iZ b), .int (iZ c7)] σ (fun (z : Int) (u : xW) => z = (freeF (opT B) (lkT B) (kpT B) (wcT B) (pnT B) (nwT B) (shB B) (wkB B) a b).1 ∧ (cw E u ((freeF (opT B) (lkT B) (kpT B) (wcT B) (pnT B) (nwT B) (shB B) (wkB B) a b).2) S Y ∧ (-1 < (freeF (opT B) (lkT B) (kpT B) (wcT B) (pnT B) (nwT B) (shB B) (wkB B) a b).1)) ∧ ∀ j : Nat, (j < 0 ∨ 0 + 85 ≤ j) → u j = σ j) (fun (n : String) (u : xW) => ((n = "java/lang/IndexOutOfBoundsException" ∧ (freeF (opT B) (lkT B) (kpT B) (wcT B) (pnT B) (nwT B) (shB B) (wkB B) a b).1 = -1) ∨ (n = "java/lang/IllegalArgumentException" ∧ (freeF (opT B) (lkT B) (kpT B) (wcT B) (pnT B) (nwT B) (shB B) (wkB B) a b).1 = -2) ∨ (n = "java/lang/IllegalStateException" ∧ (freeF (opT B) (lkT B) (kpT B) (wcT B) (pnT B) (nwT B) (shB B) (wkB B) a b).1 = -3) ∨ (n = "java/lang/UnsupportedOperationException" ∧ (freeF (opT B) (lkT B) (kpT B) (wcT B) (pnT B) (nwT B) (shB B) (wkB B) a b).1 = -4) ∨ (n = "java/util/NoSuchElementException" ∧ (freeF (opT B) (lkT B) (kpT B) (wcT B) (pnT B) (nwT B) (shB B) (wkB B) a b).1 = -5)) ∧ (cw E u B S Y) ∧ ∀ j : Nat, (j < 0 ∨ 0 + 85 ≤ j) → u j = σ j) := by
  have fcw_0 : cw E σ B S Y := hr0
  refine XI_of (by decide) rfl (Nat.le_of_ble_eq_true rfl) ?_
  intro p e s m args below meth c Q ls G hH hl hQ
  obtain ⟨hx, hb, hml, hown, hts, hK, hST, hlocks, hr, hno⟩ := G
  have hOK := hSF.1
  have hown : s.vm.findClass RL = some m.cls := hown
  have hl : lv_has ls 5 [(0, .ref (xad E 0)), (1, .int (iZ 3)), (2, .int (iZ a)), (3, .int (iZ b)), (4, .int (iZ c7))] := hl
  refine lv_iload_n hx hb dL_plain_0 rfl (lv_at hl 1 rfl) ?_
  refine x_tableIn (tgt := 85) hx hb 3 rfl (by decide) dL_plain_1 (by decide) (by decide) rfl (by decide) ?_
  refine lv_aload_n hx hb dL_plain_85 rfl (lv_at hl 0 rfl) ?_
  refine lv_iload_n hx hb dL_plain_86 rfl (lv_at hl 2 rfl) ?_
  refine lv_iload_n hx hb dL_plain_87 rfl (lv_at hl 3 rfl) ?_
  obtain ⟨fs9, hfs9⟩ := fcw_0.o0
  refine x_cXVIE (As := [.int (iZ a), .int (iZ b)]) (rest := []) hx hb hml hts hown hK hST hOK hH 0 (q_unpin l E ST hSF htr σ a b B S Y fcw_0 (by omega) (by omega)) (cwV 2 hts (goodIn_t (goodIn_x gK_28)) rfl rfl rfl (by decide +kernel) ⟨Nat.le_of_ble_eq_true rfl, Nat.le_of_ble_eq_true rfl⟩) (ltw (by decide)) hfs9 rfl rfl hl.1 rfl (Nat.le_of_ble_eq_true rfl) dL_plain_88 ⟨Nat.le_of_ble_eq_true rfl, Nat.le_of_ble_eq_true rfl⟩ ?_ (fun z u h => h) (fun σ2 H locs hp3 hH => ?_)
  · intro nx ce q9 σ2 H locs hp3 hH hce hcv hcl
    subst hQ
    obtain ⟨hn, fcw_0, fr4⟩ := hp3
    exact x_out hno hlocks hH hce hcv hcl ⟨(by first | exact hn | simp_all | omega), fcw_0, fun j hj0 => (fr4 j (by omega))⟩ (Nat.le_of_ble_eq_true rfl) (Nat.le_of_ble_eq_true rfl)
  · obtain ⟨⟨fcw_0, hf6⟩, fr5⟩ := hp3
    subst hQ
    exact x_ireX hx hb hr hlocks hH (Nat.le_of_ble_eq_true rfl) (Nat.le_of_ble_eq_true rfl) ⟨(show ((freeF (opT B) (lkT B) (kpT B) (wcT B) (pnT B) (nwT B) (shB B) (wkB B) a b).1) = ((freeF (opT B) (lkT B) (kpT B) (wcT B) (pnT B) (nwT B) (shB B) (wkB B) a b).1) from (by rfl)), ⟨fcw_0, (by first | assumption | omega | simp_all)⟩, fun j hj0 => (fr5 j (by omega))⟩ dL_plain_91

def rm_L_plain_4 : Room := { frames := 8, cells := 1, slots := 6, locals := 140 }
set_option maxRecDepth 100000 in
set_option maxHeartbeats 4000000 in
theorem c_L_plain_4 (l : Launch) (E : xE) (ST : xST) (hSF : SF ST) (hSX : SX ST) (htr : l.stackTraces = false) (σ : xW) (a : Int) (b : Int) (c7 : Int) (B : BT) (S : Option BT) (Y : lnQ) (hr0 : cw E σ B S Y) (ha : rg a) (hb9 : rg b) (hc9 : rg c7) : XI l E ST yL_plain wML_plain rm_L_plain_4 [.ref (xad E 0), .int (iZ 4), .int (iZ a), .int (iZ b), .int (iZ c7)] σ (fun (z : Int) (u : xW) => z = (rowF (opT B) (lkT B) (kpT B) (wcT B) (pnT B) (nwT B) (shB B) (wkB B) a b).1 ∧ (cw E u ((rowF (opT B) (lkT B) (kpT B) (wcT B) (pnT B) (nwT B) (shB B) (wkB B) a b).2) S Y ∧ (-1 < (rowF (opT B) (lkT B) (kpT B) (wcT B) (pnT B) (nwT B) (shB B) (wkB B) a b).1)) ∧ ∀ j : Nat, (j < 0 ∨ 0 + 85 ≤ j) → u j = σ j) (fun (n : String) (u : xW) => ((n = "java/lang/IndexOutOfBoundsException" ∧ (rowF (opT B) (lkT B) (kpT B) (wcT B) (pnT B) (nwT B) (shB B) (wkB B) a b).1 = -1) ∨ (n = "java/lang/IllegalArgumentException" ∧ (rowF (opT B) (lkT B) (kpT B) (wcT B) (pnT B) (nwT B) (shB B) (wkB B) a b).1 = -2) ∨ (n = "java/lang/IllegalStateException" ∧ (rowF (opT B) (lkT B) (kpT B) (wcT B) (pnT B) (nwT B) (shB B) (wkB B) a b).1 = -3) ∨ (n = "java/lang/UnsupportedOperationException" ∧ (rowF (opT B) (lkT B) (kpT B) (wcT B) (pnT B) (nwT B) (shB B) (wkB B) a b).1 = -4) ∨ (n = "java/util/NoSuchElementException" ∧ (rowF (opT B) (lkT B) (kpT B) (wcT B) (pnT B) (nwT B) (shB B) (wkB B) a b).1 = -5)) ∧ (cw E u B S Y) ∧ ∀ j : Nat, (j < 0 ∨ 0 + 85 ≤ j) → u j = σ j) := by
  have fcw_0 : cw E σ B S Y := hr0
  refine XI_of (by decide) rfl (Nat.le_of_ble_eq_true rfl) ?_
  intro p e s m args below meth c Q ls G hH hl hQ
  obtain ⟨hx, hb, hml, hown, hts, hK, hST, hlocks, hr, hno⟩ := G
  have hOK := hSF.1
  have hown : s.vm.findClass RL = some m.cls := hown
  have hl : lv_has ls 5 [(0, .ref (xad E 0)), (1, .int (iZ 4)), (2, .int (iZ a)), (3, .int (iZ b)), (4, .int (iZ c7))] := hl
  refine lv_iload_n hx hb dL_plain_0 rfl (lv_at hl 1 rfl) ?_
  refine x_tableIn (tgt := 92) hx hb 4 rfl (by decide) dL_plain_1 (by decide) (by decide) rfl (by decide) ?_
  refine lv_aload_n hx hb dL_plain_92 rfl (lv_at hl 0 rfl) ?_
  refine lv_iload_n hx hb dL_plain_93 rfl (lv_at hl 2 rfl) ?_
  refine lv_iload_n hx hb dL_plain_94 rfl (lv_at hl 3 rfl) ?_
  obtain ⟨fs9, hfs9⟩ := fcw_0.o0
  refine x_cXVIE (As := [.int (iZ a), .int (iZ b)]) (rest := []) hx hb hml hts hown hK hST hOK hH 0 (q_shiftRow l E ST hSF htr σ a b B S Y fcw_0 (by omega) (by omega)) (cwV 2 hts (goodIn_t (goodIn_x gK_31)) rfl rfl rfl (by decide +kernel) ⟨Nat.le_of_ble_eq_true rfl, Nat.le_of_ble_eq_true rfl⟩) (ltw (by decide)) hfs9 rfl rfl hl.1 rfl (Nat.le_of_ble_eq_true rfl) dL_plain_95 ⟨Nat.le_of_ble_eq_true rfl, Nat.le_of_ble_eq_true rfl⟩ ?_ (fun z u h => h) (fun σ2 H locs hp3 hH => ?_)
  · intro nx ce q9 σ2 H locs hp3 hH hce hcv hcl
    subst hQ
    obtain ⟨hn, fcw_0, fr4⟩ := hp3
    exact x_out hno hlocks hH hce hcv hcl ⟨(by first | exact hn | simp_all | omega), fcw_0, fun j hj0 => (fr4 j (by omega))⟩ (Nat.le_of_ble_eq_true rfl) (Nat.le_of_ble_eq_true rfl)
  · obtain ⟨⟨fcw_0, hf6⟩, fr5⟩ := hp3
    subst hQ
    exact x_ireX hx hb hr hlocks hH (Nat.le_of_ble_eq_true rfl) (Nat.le_of_ble_eq_true rfl) ⟨(show ((rowF (opT B) (lkT B) (kpT B) (wcT B) (pnT B) (nwT B) (shB B) (wkB B) a b).1) = ((rowF (opT B) (lkT B) (kpT B) (wcT B) (pnT B) (nwT B) (shB B) (wkB B) a b).1) from (by rfl)), ⟨fcw_0, (by first | assumption | omega | simp_all)⟩, fun j hj0 => (fr5 j (by omega))⟩ dL_plain_98

def rm_L_plain_5 : Room := { frames := 8, cells := 1, slots := 6, locals := 140 }
set_option maxRecDepth 100000 in
set_option maxHeartbeats 4000000 in
theorem c_L_plain_5 (l : Launch) (E : xE) (ST : xST) (hSF : SF ST) (hSX : SX ST) (htr : l.stackTraces = false) (σ : xW) (a : Int) (b : Int) (c7 : Int) (B : BT) (S : Option BT) (Y : lnQ) (hr0 : cw E σ B S Y) (ha : rg a) (hb9 : rg b) (hc9 : rg c7) : XI l E ST yL_plain wML_plain rm_L_plain_5 [.ref (xad E 0), .int (iZ 5), .int (iZ a), .int (iZ b), .int (iZ c7)] σ (fun (z : Int) (u : xW) => z = (colF (opT B) (lkT B) (kpT B) (wcT B) (pnT B) (nwT B) (shB B) (wkB B) a b).1 ∧ (cw E u ((colF (opT B) (lkT B) (kpT B) (wcT B) (pnT B) (nwT B) (shB B) (wkB B) a b).2) S Y ∧ (-1 < (colF (opT B) (lkT B) (kpT B) (wcT B) (pnT B) (nwT B) (shB B) (wkB B) a b).1)) ∧ ∀ j : Nat, (j < 0 ∨ 0 + 85 ≤ j) → u j = σ j) (fun (n : String) (u : xW) => ((n = "java/lang/IndexOutOfBoundsException" ∧ (colF (opT B) (lkT B) (kpT B) (wcT B) (pnT B) (nwT B) (shB B) (wkB B) a b).1 = -1) ∨ (n = "java/lang/IllegalArgumentException" ∧ (colF (opT B) (lkT B) (kpT B) (wcT B) (pnT B) (nwT B) (shB B) (wkB B) a b).1 = -2) ∨ (n = "java/lang/IllegalStateException" ∧ (colF (opT B) (lkT B) (kpT B) (wcT B) (pnT B) (nwT B) (shB B) (wkB B) a b).1 = -3) ∨ (n = "java/lang/UnsupportedOperationException" ∧ (colF (opT B) (lkT B) (kpT B) (wcT B) (pnT B) (nwT B) (shB B) (wkB B) a b).1 = -4) ∨ (n = "java/util/NoSuchElementException" ∧ (colF (opT B) (lkT B) (kpT B) (wcT B) (pnT B) (nwT B) (shB B) (wkB B) a b).1 = -5)) ∧ (cw E u B S Y) ∧ ∀ j : Nat, (j < 0 ∨ 0 + 85 ≤ j) → u j = σ j) := by
  have fcw_0 : cw E σ B S Y := hr0
  refine XI_of (by decide) rfl (Nat.le_of_ble_eq_true rfl) ?_
  intro p e s m args below meth c Q ls G hH hl hQ
  obtain ⟨hx, hb, hml, hown, hts, hK, hST, hlocks, hr, hno⟩ := G
  have hOK := hSF.1
  have hown : s.vm.findClass RL = some m.cls := hown
  have hl : lv_has ls 5 [(0, .ref (xad E 0)), (1, .int (iZ 5)), (2, .int (iZ a)), (3, .int (iZ b)), (4, .int (iZ c7))] := hl
  refine lv_iload_n hx hb dL_plain_0 rfl (lv_at hl 1 rfl) ?_
  refine x_tableIn (tgt := 99) hx hb 5 rfl (by decide) dL_plain_1 (by decide) (by decide) rfl (by decide) ?_
  refine lv_aload_n hx hb dL_plain_99 rfl (lv_at hl 0 rfl) ?_
  refine lv_iload_n hx hb dL_plain_100 rfl (lv_at hl 2 rfl) ?_
  refine lv_iload_n hx hb dL_plain_101 rfl (lv_at hl 3 rfl) ?_
  obtain ⟨fs9, hfs9⟩ := fcw_0.o0
  refine x_cXVIE (As := [.int (iZ a), .int (iZ b)]) (rest := []) hx hb hml hts hown hK hST hOK hH 0 (q_shiftColumn l E ST hSF htr σ a b B S Y fcw_0 (by omega) (by omega)) (cwV 2 hts (goodIn_t (goodIn_x gK_34)) rfl rfl rfl (by decide +kernel) ⟨Nat.le_of_ble_eq_true rfl, Nat.le_of_ble_eq_true rfl⟩) (ltw (by decide)) hfs9 rfl rfl hl.1 rfl (Nat.le_of_ble_eq_true rfl) dL_plain_102 ⟨Nat.le_of_ble_eq_true rfl, Nat.le_of_ble_eq_true rfl⟩ ?_ (fun z u h => h) (fun σ2 H locs hp3 hH => ?_)
  · intro nx ce q9 σ2 H locs hp3 hH hce hcv hcl
    subst hQ
    obtain ⟨hn, fcw_0, fr4⟩ := hp3
    exact x_out hno hlocks hH hce hcv hcl ⟨(by first | exact hn | simp_all | omega), fcw_0, fun j hj0 => (fr4 j (by omega))⟩ (Nat.le_of_ble_eq_true rfl) (Nat.le_of_ble_eq_true rfl)
  · obtain ⟨⟨fcw_0, hf6⟩, fr5⟩ := hp3
    subst hQ
    exact x_ireX hx hb hr hlocks hH (Nat.le_of_ble_eq_true rfl) (Nat.le_of_ble_eq_true rfl) ⟨(show ((colF (opT B) (lkT B) (kpT B) (wcT B) (pnT B) (nwT B) (shB B) (wkB B) a b).1) = ((colF (opT B) (lkT B) (kpT B) (wcT B) (pnT B) (nwT B) (shB B) (wkB B) a b).1) from (by rfl)), ⟨fcw_0, (by first | assumption | omega | simp_all)⟩, fun j hj0 => (fr5 j (by omega))⟩ dL_plain_105

def rm_L_plain_6 : Room := { frames := 8, cells := 1, slots := 6, locals := 134 }
set_option maxRecDepth 100000 in
set_option maxHeartbeats 4000000 in
theorem c_L_plain_6 (l : Launch) (E : xE) (ST : xST) (hSF : SF ST) (hSX : SX ST) (htr : l.stackTraces = false) (σ : xW) (a : Int) (b : Int) (c7 : Int) (B : BT) (S : Option BT) (Y : lnQ) (hr0 : cw E σ B S Y) (ha : rg a) (hb9 : rg b) (hc9 : rg c7) : XI l E ST yL_plain wML_plain rm_L_plain_6 [.ref (xad E 0), .int (iZ 6), .int (iZ a), .int (iZ b), .int (iZ c7)] σ (fun (z : Int) (u : xW) => z = (layF (opT B) (lkT B) (kpT B) (wcT B) (pnT B) (nwT B) (shB B) (wkB B) (i2cZ (97 + c7)) a b).1 ∧ (cw E u ((layF (opT B) (lkT B) (kpT B) (wcT B) (pnT B) (nwT B) (shB B) (wkB B) (i2cZ (97 + c7)) a b).2) S Y ∧ (-1 < (layF (opT B) (lkT B) (kpT B) (wcT B) (pnT B) (nwT B) (shB B) (wkB B) (i2cZ (97 + c7)) a b).1)) ∧ ∀ j : Nat, (j < 0 ∨ 0 + 85 ≤ j) → u j = σ j) (fun (n : String) (u : xW) => ((n = "java/lang/IndexOutOfBoundsException" ∧ (layF (opT B) (lkT B) (kpT B) (wcT B) (pnT B) (nwT B) (shB B) (wkB B) (i2cZ (97 + c7)) a b).1 = -1) ∨ (n = "java/lang/IllegalArgumentException" ∧ (layF (opT B) (lkT B) (kpT B) (wcT B) (pnT B) (nwT B) (shB B) (wkB B) (i2cZ (97 + c7)) a b).1 = -2) ∨ (n = "java/lang/IllegalStateException" ∧ (layF (opT B) (lkT B) (kpT B) (wcT B) (pnT B) (nwT B) (shB B) (wkB B) (i2cZ (97 + c7)) a b).1 = -3) ∨ (n = "java/lang/UnsupportedOperationException" ∧ (layF (opT B) (lkT B) (kpT B) (wcT B) (pnT B) (nwT B) (shB B) (wkB B) (i2cZ (97 + c7)) a b).1 = -4) ∨ (n = "java/util/NoSuchElementException" ∧ (layF (opT B) (lkT B) (kpT B) (wcT B) (pnT B) (nwT B) (shB B) (wkB B) (i2cZ (97 + c7)) a b).1 = -5)) ∧ (cw E u B S Y) ∧ ∀ j : Nat, (j < 0 ∨ 0 + 85 ≤ j) → u j = σ j) := by
  have fcw_0 : cw E σ B S Y := hr0
  refine XI_of (by decide) rfl (Nat.le_of_ble_eq_true rfl) ?_
  intro p e s m args below meth c Q ls G hH hl hQ
  obtain ⟨hx, hb, hml, hown, hts, hK, hST, hlocks, hr, hno⟩ := G
  have hOK := hSF.1
  have hown : s.vm.findClass RL = some m.cls := hown
  have hl : lv_has ls 5 [(0, .ref (xad E 0)), (1, .int (iZ 6)), (2, .int (iZ a)), (3, .int (iZ b)), (4, .int (iZ c7))] := hl
  refine lv_iload_n hx hb dL_plain_0 rfl (lv_at hl 1 rfl) ?_
  refine x_tableIn (tgt := 106) hx hb 6 rfl (by decide) dL_plain_1 (by decide) (by decide) rfl (by decide) ?_
  refine lv_aload_n hx hb dL_plain_106 rfl (lv_at hl 0 rfl) ?_
  refine x_bipush hx hb dL_plain_107 (by decide) ?_
  refine lv_iload hx hb dL_plain_109 (lv_at hl 4 rfl) ?_
  refine x_iadd hx hb dL_plain_111 ?_
  refine x_i2c hx hb dL_plain_112 ?_
  refine lv_iload_n hx hb dL_plain_113 rfl (lv_at hl 2 rfl) ?_
  refine lv_iload_n hx hb dL_plain_114 rfl (lv_at hl 3 rfl) ?_
  obtain ⟨fs9, hfs9⟩ := fcw_0.o0
  refine x_cXVIE (As := [.int (iZ (i2cZ (97 + c7))), .int (iZ a), .int (iZ b)]) (rest := []) hx hb hml hts hown hK hST hOK hH 0 (q_placeKey l E ST hSF htr σ (i2cZ (97 + c7)) a b B S Y fcw_0 (by omega) (by omega) (iZ_rg _)) (cwV 3 hts (goodIn_t (goodIn_x gK_37)) rfl rfl rfl (by decide +kernel) ⟨Nat.le_of_ble_eq_true rfl, Nat.le_of_ble_eq_true rfl⟩) (ltw (by decide)) hfs9 rfl rfl hl.1 rfl (Nat.le_of_ble_eq_true rfl) dL_plain_115 ⟨Nat.le_of_ble_eq_true rfl, Nat.le_of_ble_eq_true rfl⟩ ?_ (fun z u h => h) (fun σ2 H locs hp3 hH => ?_)
  · intro nx ce q9 σ2 H locs hp3 hH hce hcv hcl
    subst hQ
    obtain ⟨hn, fcw_0, fr4⟩ := hp3
    exact x_out hno hlocks hH hce hcv hcl ⟨(by first | exact hn | simp_all | omega), fcw_0, fun j hj0 => (fr4 j (by omega))⟩ (Nat.le_of_ble_eq_true rfl) (Nat.le_of_ble_eq_true rfl)
  · obtain ⟨⟨fcw_0, hf6⟩, fr5⟩ := hp3
    subst hQ
    exact x_ireX hx hb hr hlocks hH (Nat.le_of_ble_eq_true rfl) (Nat.le_of_ble_eq_true rfl) ⟨(show ((layF (opT B) (lkT B) (kpT B) (wcT B) (pnT B) (nwT B) (shB B) (wkB B) (i2cZ (97 + c7)) a b).1) = ((layF (opT B) (lkT B) (kpT B) (wcT B) (pnT B) (nwT B) (shB B) (wkB B) (i2cZ (97 + c7)) a b).1) from (by rfl)), ⟨fcw_0, (by first | assumption | omega | simp_all)⟩, fun j hj0 => (fr5 j (by omega))⟩ dL_plain_118

def rm_L_plain_7 : Room := { frames := 8, cells := 1, slots := 6, locals := 134 }
set_option maxRecDepth 100000 in
set_option maxHeartbeats 4000000 in
theorem c_L_plain_7 (l : Launch) (E : xE) (ST : xST) (hSF : SF ST) (hSX : SX ST) (htr : l.stackTraces = false) (σ : xW) (a : Int) (b : Int) (c7 : Int) (B : BT) (S : Option BT) (Y : lnQ) (hr0 : cw E σ B S Y) (ha : rg a) (hb9 : rg b) (hc9 : rg c7) : XI l E ST yL_plain wML_plain rm_L_plain_7 [.ref (xad E 0), .int (iZ 7), .int (iZ a), .int (iZ b), .int (iZ c7)] σ (fun (z : Int) (u : xW) => z = (hangF (opT B) (lkT B) (kpT B) (wcT B) (pnT B) (nwT B) (shB B) (wkB B) a b (i2cZ (97 + c7))).1 ∧ (cw E u ((hangF (opT B) (lkT B) (kpT B) (wcT B) (pnT B) (nwT B) (shB B) (wkB B) a b (i2cZ (97 + c7))).2) S Y ∧ (-1 < (hangF (opT B) (lkT B) (kpT B) (wcT B) (pnT B) (nwT B) (shB B) (wkB B) a b (i2cZ (97 + c7))).1)) ∧ ∀ j : Nat, (j < 0 ∨ 0 + 85 ≤ j) → u j = σ j) (fun (n : String) (u : xW) => ((n = "java/lang/IndexOutOfBoundsException" ∧ (hangF (opT B) (lkT B) (kpT B) (wcT B) (pnT B) (nwT B) (shB B) (wkB B) a b (i2cZ (97 + c7))).1 = -1) ∨ (n = "java/lang/IllegalArgumentException" ∧ (hangF (opT B) (lkT B) (kpT B) (wcT B) (pnT B) (nwT B) (shB B) (wkB B) a b (i2cZ (97 + c7))).1 = -2) ∨ (n = "java/lang/IllegalStateException" ∧ (hangF (opT B) (lkT B) (kpT B) (wcT B) (pnT B) (nwT B) (shB B) (wkB B) a b (i2cZ (97 + c7))).1 = -3) ∨ (n = "java/lang/UnsupportedOperationException" ∧ (hangF (opT B) (lkT B) (kpT B) (wcT B) (pnT B) (nwT B) (shB B) (wkB B) a b (i2cZ (97 + c7))).1 = -4) ∨ (n = "java/util/NoSuchElementException" ∧ (hangF (opT B) (lkT B) (kpT B) (wcT B) (pnT B) (nwT B) (shB B) (wkB B) a b (i2cZ (97 + c7))).1 = -5)) ∧ (cw E u B S Y) ∧ ∀ j : Nat, (j < 0 ∨ 0 + 85 ≤ j) → u j = σ j) := by
  have fcw_0 : cw E σ B S Y := hr0
  refine XI_of (by decide) rfl (Nat.le_of_ble_eq_true rfl) ?_
  intro p e s m args below meth c Q ls G hH hl hQ
  obtain ⟨hx, hb, hml, hown, hts, hK, hST, hlocks, hr, hno⟩ := G
  have hOK := hSF.1
  have hown : s.vm.findClass RL = some m.cls := hown
  have hl : lv_has ls 5 [(0, .ref (xad E 0)), (1, .int (iZ 7)), (2, .int (iZ a)), (3, .int (iZ b)), (4, .int (iZ c7))] := hl
  refine lv_iload_n hx hb dL_plain_0 rfl (lv_at hl 1 rfl) ?_
  refine x_tableIn (tgt := 119) hx hb 7 rfl (by decide) dL_plain_1 (by decide) (by decide) rfl (by decide) ?_
  refine lv_aload_n hx hb dL_plain_119 rfl (lv_at hl 0 rfl) ?_
  refine lv_iload_n hx hb dL_plain_120 rfl (lv_at hl 2 rfl) ?_
  refine lv_iload_n hx hb dL_plain_121 rfl (lv_at hl 3 rfl) ?_
  refine x_bipush hx hb dL_plain_122 (by decide) ?_
  refine lv_iload hx hb dL_plain_124 (lv_at hl 4 rfl) ?_
  refine x_iadd hx hb dL_plain_126 ?_
  refine x_i2c hx hb dL_plain_127 ?_
  obtain ⟨fs9, hfs9⟩ := fcw_0.o0
  refine x_cXVIE (As := [.int (iZ a), .int (iZ b), .int (iZ (i2cZ (97 + c7)))]) (rest := []) hx hb hml hts hown hK hST hOK hH 0 (q_addLock l E ST hSF htr σ a b (i2cZ (97 + c7)) B S Y fcw_0 (by omega) (by omega) (iZ_rg _)) (cwV 3 hts (goodIn_t (goodIn_x gK_41)) rfl rfl rfl (by decide +kernel) ⟨Nat.le_of_ble_eq_true rfl, Nat.le_of_ble_eq_true rfl⟩) (ltw (by decide)) hfs9 rfl rfl hl.1 rfl (Nat.le_of_ble_eq_true rfl) dL_plain_128 ⟨Nat.le_of_ble_eq_true rfl, Nat.le_of_ble_eq_true rfl⟩ ?_ (fun z u h => h) (fun σ2 H locs hp3 hH => ?_)
  · intro nx ce q9 σ2 H locs hp3 hH hce hcv hcl
    subst hQ
    obtain ⟨hn, fcw_0, fr4⟩ := hp3
    exact x_out hno hlocks hH hce hcv hcl ⟨(by first | exact hn | simp_all | omega), fcw_0, fun j hj0 => (fr4 j (by omega))⟩ (Nat.le_of_ble_eq_true rfl) (Nat.le_of_ble_eq_true rfl)
  · obtain ⟨⟨fcw_0, hf6⟩, fr5⟩ := hp3
    subst hQ
    exact x_ireX hx hb hr hlocks hH (Nat.le_of_ble_eq_true rfl) (Nat.le_of_ble_eq_true rfl) ⟨(show ((hangF (opT B) (lkT B) (kpT B) (wcT B) (pnT B) (nwT B) (shB B) (wkB B) a b (i2cZ (97 + c7))).1) = ((hangF (opT B) (lkT B) (kpT B) (wcT B) (pnT B) (nwT B) (shB B) (wkB B) a b (i2cZ (97 + c7))).1) from (by rfl)), ⟨fcw_0, (by first | assumption | omega | simp_all)⟩, fun j hj0 => (fr5 j (by omega))⟩ dL_plain_131

def rm_L_plain_8 : Room := { frames := 8, cells := 1, slots := 6, locals := 133 }
set_option maxRecDepth 100000 in
set_option maxHeartbeats 4000000 in
theorem c_L_plain_8 (l : Launch) (E : xE) (ST : xST) (hSF : SF ST) (hSX : SX ST) (htr : l.stackTraces = false) (σ : xW) (a : Int) (b : Int) (c7 : Int) (B : BT) (S : Option BT) (Y : lnQ) (hr0 : cw E σ B S Y) (ha : rg a) (hb9 : rg b) (hc9 : rg c7) : XI l E ST yL_plain wML_plain rm_L_plain_8 [.ref (xad E 0), .int (iZ 8), .int (iZ a), .int (iZ b), .int (iZ c7)] σ (fun (z : Int) (u : xW) => z = i2cZ (takeF (opT B) (lkT B) (kpT B) (wcT B) (pnT B) (nwT B) (shB B) (wkB B) a b).1 ∧ (cw E u ((takeF (opT B) (lkT B) (kpT B) (wcT B) (pnT B) (nwT B) (shB B) (wkB B) a b).2) S Y ∧ (-1 < (takeF (opT B) (lkT B) (kpT B) (wcT B) (pnT B) (nwT B) (shB B) (wkB B) a b).1)) ∧ ∀ j : Nat, (j < 0 ∨ 0 + 85 ≤ j) → u j = σ j) (fun (n : String) (u : xW) => ((n = "java/lang/IndexOutOfBoundsException" ∧ (takeF (opT B) (lkT B) (kpT B) (wcT B) (pnT B) (nwT B) (shB B) (wkB B) a b).1 = -1) ∨ (n = "java/lang/IllegalArgumentException" ∧ (takeF (opT B) (lkT B) (kpT B) (wcT B) (pnT B) (nwT B) (shB B) (wkB B) a b).1 = -2) ∨ (n = "java/lang/IllegalStateException" ∧ (takeF (opT B) (lkT B) (kpT B) (wcT B) (pnT B) (nwT B) (shB B) (wkB B) a b).1 = -3) ∨ (n = "java/lang/UnsupportedOperationException" ∧ (takeF (opT B) (lkT B) (kpT B) (wcT B) (pnT B) (nwT B) (shB B) (wkB B) a b).1 = -4) ∨ (n = "java/util/NoSuchElementException" ∧ (takeF (opT B) (lkT B) (kpT B) (wcT B) (pnT B) (nwT B) (shB B) (wkB B) a b).1 = -5)) ∧ (cw E u B S Y) ∧ ∀ j : Nat, (j < 0 ∨ 0 + 85 ≤ j) → u j = σ j) := by
  have fcw_0 : cw E σ B S Y := hr0
  refine XI_of (by decide) rfl (Nat.le_of_ble_eq_true rfl) ?_
  intro p e s m args below meth c Q ls G hH hl hQ
  obtain ⟨hx, hb, hml, hown, hts, hK, hST, hlocks, hr, hno⟩ := G
  have hOK := hSF.1
  have hown : s.vm.findClass RL = some m.cls := hown
  have hl : lv_has ls 5 [(0, .ref (xad E 0)), (1, .int (iZ 8)), (2, .int (iZ a)), (3, .int (iZ b)), (4, .int (iZ c7))] := hl
  refine lv_iload_n hx hb dL_plain_0 rfl (lv_at hl 1 rfl) ?_
  refine x_tableIn (tgt := 132) hx hb 8 rfl (by decide) dL_plain_1 (by decide) (by decide) rfl (by decide) ?_
  refine lv_aload_n hx hb dL_plain_132 rfl (lv_at hl 0 rfl) ?_
  refine lv_iload_n hx hb dL_plain_133 rfl (lv_at hl 2 rfl) ?_
  refine lv_iload_n hx hb dL_plain_134 rfl (lv_at hl 3 rfl) ?_
  obtain ⟨fs9, hfs9⟩ := fcw_0.o0
  refine x_cXVIE (As := [.int (iZ a), .int (iZ b)]) (rest := []) hx hb hml hts hown hK hST hOK hH 0 (q_removeLock l E ST hSF htr σ a b B S Y fcw_0 (by omega) (by omega)) (cwV 2 hts (goodIn_t (goodIn_x gK_45)) rfl rfl rfl (by decide +kernel) ⟨Nat.le_of_ble_eq_true rfl, Nat.le_of_ble_eq_true rfl⟩) (ltw (by decide)) hfs9 rfl rfl hl.1 rfl (Nat.le_of_ble_eq_true rfl) dL_plain_135 ⟨Nat.le_of_ble_eq_true rfl, Nat.le_of_ble_eq_true rfl⟩ ?_ (fun z u h => h) (fun σ2 H locs hp3 hH => ?_)
  · intro nx ce q9 σ2 H locs hp3 hH hce hcv hcl
    subst hQ
    obtain ⟨hn, fcw_0, fr4⟩ := hp3
    exact x_out hno hlocks hH hce hcv hcl ⟨(by first | exact hn | simp_all | omega), fcw_0, fun j hj0 => (fr4 j (by omega))⟩ (Nat.le_of_ble_eq_true rfl) (Nat.le_of_ble_eq_true rfl)
  · obtain ⟨⟨fcw_0, hf6⟩, fr5⟩ := hp3
    subst hQ
    exact x_ireX hx hb hr hlocks hH (Nat.le_of_ble_eq_true rfl) (Nat.le_of_ble_eq_true rfl) ⟨(show (i2cZ (takeF (opT B) (lkT B) (kpT B) (wcT B) (pnT B) (nwT B) (shB B) (wkB B) a b).1) = (i2cZ (takeF (opT B) (lkT B) (kpT B) (wcT B) (pnT B) (nwT B) (shB B) (wkB B) a b).1) from (by rfl)), ⟨fcw_0, (by first | assumption | omega | simp_all)⟩, fun j hj0 => (fr5 j (by omega))⟩ dL_plain_138

def rm_L_plain_9 : Room := { frames := 8, cells := 1, slots := 6, locals := 133 }
set_option maxRecDepth 100000 in
set_option maxHeartbeats 4000000 in
theorem c_L_plain_9 (l : Launch) (E : xE) (ST : xST) (hSF : SF ST) (hSX : SX ST) (htr : l.stackTraces = false) (σ : xW) (a : Int) (b : Int) (c7 : Int) (B : BT) (S : Option BT) (Y : lnQ) (hr0 : cw E σ B S Y) (ha : rg a) (hb9 : rg b) (hc9 : rg c7) : XI l E ST yL_plain wML_plain rm_L_plain_9 [.ref (xad E 0), .int (iZ 9), .int (iZ a), .int (iZ b), .int (iZ c7)] σ (fun (z : Int) (u : xW) => z = (enterF (opT B) (lkT B) (kpT B) (wcT B) (pnT B) (nwT B) (shB B) (wkB B) a b).1 ∧ (cw E u ((enterF (opT B) (lkT B) (kpT B) (wcT B) (pnT B) (nwT B) (shB B) (wkB B) a b).2) S Y ∧ (-1 < (enterF (opT B) (lkT B) (kpT B) (wcT B) (pnT B) (nwT B) (shB B) (wkB B) a b).1)) ∧ ∀ j : Nat, (j < 0 ∨ 0 + 85 ≤ j) → u j = σ j) (fun (n : String) (u : xW) => ((n = "java/lang/IndexOutOfBoundsException" ∧ (enterF (opT B) (lkT B) (kpT B) (wcT B) (pnT B) (nwT B) (shB B) (wkB B) a b).1 = -1) ∨ (n = "java/lang/IllegalArgumentException" ∧ (enterF (opT B) (lkT B) (kpT B) (wcT B) (pnT B) (nwT B) (shB B) (wkB B) a b).1 = -2) ∨ (n = "java/lang/IllegalStateException" ∧ (enterF (opT B) (lkT B) (kpT B) (wcT B) (pnT B) (nwT B) (shB B) (wkB B) a b).1 = -3) ∨ (n = "java/lang/UnsupportedOperationException" ∧ (enterF (opT B) (lkT B) (kpT B) (wcT B) (pnT B) (nwT B) (shB B) (wkB B) a b).1 = -4) ∨ (n = "java/util/NoSuchElementException" ∧ (enterF (opT B) (lkT B) (kpT B) (wcT B) (pnT B) (nwT B) (shB B) (wkB B) a b).1 = -5)) ∧ (cw E u B S Y) ∧ ∀ j : Nat, (j < 0 ∨ 0 + 85 ≤ j) → u j = σ j) := by
  have fcw_0 : cw E σ B S Y := hr0
  refine XI_of (by decide) rfl (Nat.le_of_ble_eq_true rfl) ?_
  intro p e s m args below meth c Q ls G hH hl hQ
  obtain ⟨hx, hb, hml, hown, hts, hK, hST, hlocks, hr, hno⟩ := G
  have hOK := hSF.1
  have hown : s.vm.findClass RL = some m.cls := hown
  have hl : lv_has ls 5 [(0, .ref (xad E 0)), (1, .int (iZ 9)), (2, .int (iZ a)), (3, .int (iZ b)), (4, .int (iZ c7))] := hl
  refine lv_iload_n hx hb dL_plain_0 rfl (lv_at hl 1 rfl) ?_
  refine x_tableIn (tgt := 139) hx hb 9 rfl (by decide) dL_plain_1 (by decide) (by decide) rfl (by decide) ?_
  refine lv_aload_n hx hb dL_plain_139 rfl (lv_at hl 0 rfl) ?_
  refine lv_iload_n hx hb dL_plain_140 rfl (lv_at hl 2 rfl) ?_
  refine lv_iload_n hx hb dL_plain_141 rfl (lv_at hl 3 rfl) ?_
  obtain ⟨fs9, hfs9⟩ := fcw_0.o0
  refine x_cXVIE (As := [.int (iZ a), .int (iZ b)]) (rest := []) hx hb hml hts hown hK hST hOK hH 0 (q_addWalker l E ST hSF htr σ a b B S Y fcw_0 (by omega) (by omega)) (cwV 2 hts (goodIn_t (goodIn_x gK_49)) rfl rfl rfl (by decide +kernel) ⟨Nat.le_of_ble_eq_true rfl, Nat.le_of_ble_eq_true rfl⟩) (ltw (by decide)) hfs9 rfl rfl hl.1 rfl (Nat.le_of_ble_eq_true rfl) dL_plain_142 ⟨Nat.le_of_ble_eq_true rfl, Nat.le_of_ble_eq_true rfl⟩ ?_ (fun z u h => h) (fun σ2 H locs hp3 hH => ?_)
  · intro nx ce q9 σ2 H locs hp3 hH hce hcv hcl
    subst hQ
    obtain ⟨hn, fcw_0, fr4⟩ := hp3
    exact x_out hno hlocks hH hce hcv hcl ⟨(by first | exact hn | simp_all | omega), fcw_0, fun j hj0 => (fr4 j (by omega))⟩ (Nat.le_of_ble_eq_true rfl) (Nat.le_of_ble_eq_true rfl)
  · obtain ⟨⟨fcw_0, hf6⟩, fr5⟩ := hp3
    subst hQ
    exact x_ireX hx hb hr hlocks hH (Nat.le_of_ble_eq_true rfl) (Nat.le_of_ble_eq_true rfl) ⟨(show ((enterF (opT B) (lkT B) (kpT B) (wcT B) (pnT B) (nwT B) (shB B) (wkB B) a b).1) = ((enterF (opT B) (lkT B) (kpT B) (wcT B) (pnT B) (nwT B) (shB B) (wkB B) a b).1) from (by rfl)), ⟨fcw_0, (by first | assumption | omega | simp_all)⟩, fun j hj0 => (fr5 j (by omega))⟩ dL_plain_145

def rm_L_plain_10 : Room := { frames := 8, cells := 1, slots := 6, locals := 134 }
set_option maxRecDepth 100000 in
set_option maxHeartbeats 4000000 in
theorem c_L_plain_10 (l : Launch) (E : xE) (ST : xST) (hSF : SF ST) (hSX : SX ST) (htr : l.stackTraces = false) (σ : xW) (a : Int) (b : Int) (c7 : Int) (B : BT) (S : Option BT) (Y : lnQ) (hr0 : cw E σ B S Y) (ha : rg a) (hb9 : rg b) (hc9 : rg c7) : XI l E ST yL_plain wML_plain rm_L_plain_10 [.ref (xad E 0), .int (iZ 10), .int (iZ a), .int (iZ b), .int (iZ c7)] σ (fun (z : Int) (u : xW) => z = (walkF (opT B) (lkT B) (kpT B) (wcT B) (pnT B) (nwT B) (shB B) (wkB B) c7 a b).1 ∧ (cw E u ((walkF (opT B) (lkT B) (kpT B) (wcT B) (pnT B) (nwT B) (shB B) (wkB B) c7 a b).2) S Y ∧ (-1 < (walkF (opT B) (lkT B) (kpT B) (wcT B) (pnT B) (nwT B) (shB B) (wkB B) c7 a b).1)) ∧ ∀ j : Nat, (j < 0 ∨ 0 + 85 ≤ j) → u j = σ j) (fun (n : String) (u : xW) => ((n = "java/lang/IndexOutOfBoundsException" ∧ (walkF (opT B) (lkT B) (kpT B) (wcT B) (pnT B) (nwT B) (shB B) (wkB B) c7 a b).1 = -1) ∨ (n = "java/lang/IllegalArgumentException" ∧ (walkF (opT B) (lkT B) (kpT B) (wcT B) (pnT B) (nwT B) (shB B) (wkB B) c7 a b).1 = -2) ∨ (n = "java/lang/IllegalStateException" ∧ (walkF (opT B) (lkT B) (kpT B) (wcT B) (pnT B) (nwT B) (shB B) (wkB B) c7 a b).1 = -3) ∨ (n = "java/lang/UnsupportedOperationException" ∧ (walkF (opT B) (lkT B) (kpT B) (wcT B) (pnT B) (nwT B) (shB B) (wkB B) c7 a b).1 = -4) ∨ (n = "java/util/NoSuchElementException" ∧ (walkF (opT B) (lkT B) (kpT B) (wcT B) (pnT B) (nwT B) (shB B) (wkB B) c7 a b).1 = -5)) ∧ (cw E u B S Y) ∧ ∀ j : Nat, (j < 0 ∨ 0 + 85 ≤ j) → u j = σ j) := by
  have fcw_0 : cw E σ B S Y := hr0
  refine XI_of (by decide) rfl (Nat.le_of_ble_eq_true rfl) ?_
  intro p e s m args below meth c Q ls G hH hl hQ
  obtain ⟨hx, hb, hml, hown, hts, hK, hST, hlocks, hr, hno⟩ := G
  have hOK := hSF.1
  have hown : s.vm.findClass RL = some m.cls := hown
  have hl : lv_has ls 5 [(0, .ref (xad E 0)), (1, .int (iZ 10)), (2, .int (iZ a)), (3, .int (iZ b)), (4, .int (iZ c7))] := hl
  refine lv_iload_n hx hb dL_plain_0 rfl (lv_at hl 1 rfl) ?_
  refine x_tableIn (tgt := 146) hx hb 10 rfl (by decide) dL_plain_1 (by decide) (by decide) rfl (by decide) ?_
  refine lv_aload_n hx hb dL_plain_146 rfl (lv_at hl 0 rfl) ?_
  refine lv_iload hx hb dL_plain_147 (lv_at hl 4 rfl) ?_
  refine lv_iload_n hx hb dL_plain_149 rfl (lv_at hl 2 rfl) ?_
  refine lv_iload_n hx hb dL_plain_150 rfl (lv_at hl 3 rfl) ?_
  obtain ⟨fs9, hfs9⟩ := fcw_0.o0
  refine x_cXVIE (As := [.int (iZ c7), .int (iZ a), .int (iZ b)]) (rest := []) hx hb hml hts hown hK hST hOK hH 0 (q_walk l E ST hSF htr σ c7 a b B S Y fcw_0 (by omega) (by omega) (by omega)) (cwV 3 hts (goodIn_t (goodIn_x gK_52)) rfl rfl rfl (by decide +kernel) ⟨Nat.le_of_ble_eq_true rfl, Nat.le_of_ble_eq_true rfl⟩) (ltw (by decide)) hfs9 rfl rfl hl.1 rfl (Nat.le_of_ble_eq_true rfl) dL_plain_151 ⟨Nat.le_of_ble_eq_true rfl, Nat.le_of_ble_eq_true rfl⟩ ?_ (fun z u h => h) (fun σ2 H locs hp3 hH => ?_)
  · intro nx ce q9 σ2 H locs hp3 hH hce hcv hcl
    subst hQ
    obtain ⟨hn, fcw_0, fr4⟩ := hp3
    exact x_out hno hlocks hH hce hcv hcl ⟨(by first | exact hn | simp_all | omega), fcw_0, fun j hj0 => (fr4 j (by omega))⟩ (Nat.le_of_ble_eq_true rfl) (Nat.le_of_ble_eq_true rfl)
  · obtain ⟨⟨fcw_0, hf6⟩, fr5⟩ := hp3
    subst hQ
    exact x_ireX hx hb hr hlocks hH (Nat.le_of_ble_eq_true rfl) (Nat.le_of_ble_eq_true rfl) ⟨(show ((walkF (opT B) (lkT B) (kpT B) (wcT B) (pnT B) (nwT B) (shB B) (wkB B) c7 a b).1) = ((walkF (opT B) (lkT B) (kpT B) (wcT B) (pnT B) (nwT B) (shB B) (wkB B) c7 a b).1) from (by rfl)), ⟨fcw_0, (by first | assumption | omega | simp_all)⟩, fun j hj0 => (fr5 j (by omega))⟩ dL_plain_154
