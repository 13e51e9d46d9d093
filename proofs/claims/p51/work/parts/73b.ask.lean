def rm_L_ask_1n : Room := { frames := 8, cells := 1, slots := 6, locals := 137 }
set_option maxRecDepth 100000 in
set_option maxHeartbeats 4000000 in
theorem c_L_ask_1n (l : Launch) (E : xE) (ST : xST) (hSF : SF ST) (hSX : SX ST) (htr : l.stackTraces = false) (σ : xW) (a : Int) (b : Int) (c7 : Int) (B : BT) (S : Option BT) (Y : lnQ) (hr0 : cw E σ B S Y) (hok : okC a b) (hlk : lkT B (a * 5 + b) = -1) : CI l E ST yL_ask wML_ask rm_L_ask_1n [.ref (xad E 0), .int (iZ 1), .int (iZ a), .int (iZ b), .int (iZ c7)] σ (fun (z : Int) (u : xW) => z = -2004 ∧ u = σ) := by
  have fcw_0 : cw E σ B S Y := hr0
  refine CW_of (by decide) rfl (Nat.le_of_ble_eq_true rfl) ?_
  intro p e s m args below meth c Q ls G hH hl hQ
  obtain ⟨hx, hb, hml, hown, hts, hK, hST, hlocks, hr, htab⟩ := G
  have hOK := hSF.1
  have hown : s.vm.findClass RL = some m.cls := hown
  have hl : lv_has ls 6 [(0, .ref (xad E 0)), (1, .int (iZ 1)), (2, .int (iZ a)), (3, .int (iZ b)), (4, .int (iZ c7))] := hl
  refine lv_aload_n hx hb dL_ask_0 rfl (lv_at hl 0 rfl) ?_
  refine lv_iload_n hx hb dL_ask_1 rfl (lv_at hl 1 rfl) ?_
  refine lv_iload_n hx hb dL_ask_2 rfl (lv_at hl 2 rfl) ?_
  refine lv_iload_n hx hb dL_ask_3 rfl (lv_at hl 3 rfl) ?_
  refine lv_iload hx hb dL_ask_4 (lv_at hl 4 rfl) ?_
  refine x_cXSI (As := [.ref (xad E 0), .int (iZ 1), .int (iZ a), .int (iZ b), .int (iZ c7)]) (rest := []) hx hb hml hts hown hK hST hOK hH (c_L_asked_1n l E ST hSF hSX htr σ a b c7 B S Y fcw_0 (by omega) (by omega)) (va_cwS 5 hts (goodIn_t gK_130) rfl rfl rfl (by decide +kernel) ⟨Nat.le_of_ble_eq_true rfl, Nat.le_of_ble_eq_true rfl⟩) rfl hl.1 rfl (Nat.le_of_ble_eq_true rfl) dL_ask_6 ⟨Nat.le_of_ble_eq_true rfl, Nat.le_of_ble_eq_true rfl⟩ ?_ (fun z1 σ2 H locs hp3 hH => ?_)
  · intro nx ce q9 σ2 H locs hp3 hH hce hcv hcl
    obtain ⟨hn, hu⟩ := hp3
    rw [hu] at hH
    obtain ⟨en9, hn⟩ := hn
    subst en9
    refine x_catch hown hts hSX hST [(0, 9, 10, 63), (0, 9, 16, 65)] (0, 9, 22, 71) [] htab (by decide +kernel) (List.forall_mem_cons.mpr ⟨⟨by decide, "java/lang/IndexOutOfBoundsException", (List.mem_cons_of_mem _ (List.mem_append_right _ mW_96)), by decide +kernel, by decide +kernel⟩, (List.forall_mem_cons.mpr ⟨⟨by decide, "java/lang/IllegalArgumentException", (List.mem_cons_of_mem _ (List.mem_append_left _ mX_0)), by decide +kernel, by decide +kernel⟩, (fun _ h => absurd h List.not_mem_nil)⟩)⟩) rfl (by decide) (List.mem_cons_of_mem _ (List.mem_append_left _ mX_3)) hce hcv hcl ?_
    refine lv_astore (lv' := [(5, .ref q9), (0, .ref (xad E 0)), (1, .int (iZ 1)), (2, .int (iZ a)), (3, .int (iZ b)), (4, .int (iZ c7))]) hx hb dL_ask_22 hl (by decide) rfl (fun ls hl => ?_)
    refine x_sipush hx hb dL_ask_24 (by decide) ?_
    subst hQ
    exact x_iret hx hb hr hlocks hH (Nat.le_of_ble_eq_true rfl) (Nat.le_of_ble_eq_true rfl) ⟨(show (-2004) = (-2004) from (by first | rfl | exact False.elim (by assumption))), rfl⟩ dL_ask_27
  · obtain ⟨hz4, hu5⟩ := hp3
    rw [hu5] at hH
    subst hQ
    exact x_iret hx hb hr hlocks hH (Nat.le_of_ble_eq_true rfl) (Nat.le_of_ble_eq_true rfl) ⟨(show z1 = (-2004) from (by first | rfl | exact False.elim (by assumption))), rfl⟩ dL_ask_9

def rm_L_ask_1y : Room := { frames := 4, cells := 0, slots := 0, locals := 88 }
set_option maxRecDepth 100000 in
set_option maxHeartbeats 4000000 in
theorem c_L_ask_1y (l : Launch) (E : xE) (ST : xST) (hSF : SF ST) (hSX : SX ST) (htr : l.stackTraces = false) (σ : xW) (a : Int) (b : Int) (c7 : Int) (B : BT) (S : Option BT) (Y : lnQ) (hr0 : cw E σ B S Y) (hok : okC a b) (hlk : ¬ lkT B (a * 5 + b) = -1) : CI l E ST yL_ask wML_ask rm_L_ask_1y [.ref (xad E 0), .int (iZ 1), .int (iZ a), .int (iZ b), .int (iZ c7)] σ (fun (z : Int) (u : xW) => z = 97 + lkT B (a * 5 + b) ∧ u = σ) := by
  have fcw_0 : cw E σ B S Y := hr0
  refine CW_of (by decide) rfl (Nat.le_of_ble_eq_true rfl) ?_
  intro p e s m args below meth c Q ls G hH hl hQ
  obtain ⟨hx, hb, hml, hown, hts, hK, hST, hlocks, hr, htab⟩ := G
  have hOK := hSF.1
  have hown : s.vm.findClass RL = some m.cls := hown
  have hl : lv_has ls 6 [(0, .ref (xad E 0)), (1, .int (iZ 1)), (2, .int (iZ a)), (3, .int (iZ b)), (4, .int (iZ c7))] := hl
  refine lv_aload_n hx hb dL_ask_0 rfl (lv_at hl 0 rfl) ?_
  refine lv_iload_n hx hb dL_ask_1 rfl (lv_at hl 1 rfl) ?_
  refine lv_iload_n hx hb dL_ask_2 rfl (lv_at hl 2 rfl) ?_
  refine lv_iload_n hx hb dL_ask_3 rfl (lv_at hl 3 rfl) ?_
  refine lv_iload hx hb dL_ask_4 (lv_at hl 4 rfl) ?_
  refine x_cSID (As := [.ref (xad E 0), .int (iZ 1), .int (iZ a), .int (iZ b), .int (iZ c7)]) (rest := []) hx hb hml hts hown hK hST hOK hH (c_L_asked_1y l E ST hSF hSX σ a b c7 B S Y fcw_0 (by omega) (by omega)) (va_cwS 5 hts (goodIn_t gK_130) rfl rfl rfl (by decide +kernel) ⟨Nat.le_of_ble_eq_true rfl, Nat.le_of_ble_eq_true rfl⟩) rfl hl.1 rfl (Nat.le_of_ble_eq_true rfl) dL_ask_6 ⟨Nat.le_of_ble_eq_true rfl, Nat.le_of_ble_eq_true rfl⟩ (fun z u h => h) (fun H locs hH => ?_)
  subst hQ
  exact x_iret hx hb hr hlocks hH (Nat.le_of_ble_eq_true rfl) (Nat.le_of_ble_eq_true rfl) ⟨(show (97 + lkT B (a * 5 + b)) = (97 + lkT B (a * 5 + b)) from (by rfl)), rfl⟩ dL_ask_9

def rm_L_ask_3 : Room := { frames := 9, cells := 1, slots := 6, locals := 157 }
set_option maxRecDepth 100000 in
set_option maxHeartbeats 4000000 in
theorem c_L_ask_3 (l : Launch) (E : xE) (ST : xST) (hSF : SF ST) (hSX : SX ST) (htr : l.stackTraces = false) (σ : xW) (a : Int) (b : Int) (c7 : Int) (B : BT) (S : Option BT) (Y : lnQ) (hr0 : cw E σ B S Y) (hk : 0 ≤ a ∧ a ≤ 5) : CI l E ST yL_ask wML_ask rm_L_ask_3 [.ref (xad E 0), .int (iZ 3), .int (iZ a), .int (iZ b), .int (iZ c7)] σ (fun (z : Int) (u : xW) => z = aKp (kpT B) a ∧ u = σ) := by
  have fcw_0 : cw E σ B S Y := hr0
  refine CW_of (by decide) rfl (Nat.le_of_ble_eq_true rfl) ?_
  intro p e s m args below meth c Q ls G hH hl hQ
  obtain ⟨hx, hb, hml, hown, hts, hK, hST, hlocks, hr, htab⟩ := G
  have hOK := hSF.1
  have hown : s.vm.findClass RL = some m.cls := hown
  have hl : lv_has ls 6 [(0, .ref (xad E 0)), (1, .int (iZ 3)), (2, .int (iZ a)), (3, .int (iZ b)), (4, .int (iZ c7))] := hl
  refine lv_aload_n hx hb dL_ask_0 rfl (lv_at hl 0 rfl) ?_
  refine lv_iload_n hx hb dL_ask_1 rfl (lv_at hl 1 rfl) ?_
  refine lv_iload_n hx hb dL_ask_2 rfl (lv_at hl 2 rfl) ?_
  refine lv_iload_n hx hb dL_ask_3 rfl (lv_at hl 3 rfl) ?_
  refine lv_iload hx hb dL_ask_4 (lv_at hl 4 rfl) ?_
  refine x_cXSIE (As := [.ref (xad E 0), .int (iZ 3), .int (iZ a), .int (iZ b), .int (iZ c7)]) (rest := []) hx hb hml hts hown hK hST hOK hH (c_L_asked_3 l E ST hSF hSX htr σ a b c7 B S Y fcw_0 (by omega)) (va_cwS 5 hts (goodIn_t gK_130) rfl rfl rfl (by decide +kernel) ⟨Nat.le_of_ble_eq_true rfl, Nat.le_of_ble_eq_true rfl⟩) rfl hl.1 rfl (Nat.le_of_ble_eq_true rfl) dL_ask_6 ⟨Nat.le_of_ble_eq_true rfl, Nat.le_of_ble_eq_true rfl⟩ ?_ (fun z u h => h) (fun σ2 H locs hp3 hH => ?_)
  · intro nx ce q9 σ2 H locs hp3 hH hce hcv hcl
    obtain ⟨hn, hu⟩ := hp3
    rw [hu] at hH
    obtain ⟨en9, hn⟩ := hn
    subst en9
    refine x_catch hown hts hSX hST [(0, 9, 10, 63), (0, 9, 16, 65)] (0, 9, 22, 71) [] htab (by decide +kernel) (List.forall_mem_cons.mpr ⟨⟨by decide, "java/lang/IndexOutOfBoundsException", (List.mem_cons_of_mem _ (List.mem_append_right _ mW_96)), by decide +kernel, by decide +kernel⟩, (List.forall_mem_cons.mpr ⟨⟨by decide, "java/lang/IllegalArgumentException", (List.mem_cons_of_mem _ (List.mem_append_left _ mX_0)), by decide +kernel, by decide +kernel⟩, (fun _ h => absurd h List.not_mem_nil)⟩)⟩) rfl (by decide) (List.mem_cons_of_mem _ (List.mem_append_left _ mX_3)) hce hcv hcl ?_
    refine lv_astore (lv' := [(5, .ref q9), (0, .ref (xad E 0)), (1, .int (iZ 3)), (2, .int (iZ a)), (3, .int (iZ b)), (4, .int (iZ c7))]) hx hb dL_ask_22 hl (by decide) rfl (fun ls hl => ?_)
    refine x_sipush hx hb dL_ask_24 (by decide) ?_
    subst hQ
    exact x_iret hx hb hr hlocks hH (Nat.le_of_ble_eq_true rfl) (Nat.le_of_ble_eq_true rfl) ⟨(show (-2004) = (aKp (kpT B) a) from (by unfold aKp; (repeat' split) <;> first | rfl | omega | (exfalso; omega))), rfl⟩ dL_ask_27
  · obtain ⟨hf4, hu5⟩ := hp3
    rw [hu5] at hH
    subst hQ
    exact x_iret hx hb hr hlocks hH (Nat.le_of_ble_eq_true rfl) (Nat.le_of_ble_eq_true rfl) ⟨(show (kpT B a) = (aKp (kpT B) a) from (by unfold aKp; (repeat' split) <;> first | rfl | omega | (exfalso; omega))), rfl⟩ dL_ask_9

def rm_L_ask_4 : Room := { frames := 8, cells := 1, slots := 6, locals := 136 }
set_option maxRecDepth 100000 in
set_option maxHeartbeats 4000000 in
theorem c_L_ask_4 (l : Launch) (E : xE) (ST : xST) (hSF : SF ST) (hSX : SX ST) (htr : l.stackTraces = false) (σ : xW) (a : Int) (b : Int) (c7 : Int) (B : BT) (S : Option BT) (Y : lnQ) (hr0 : cw E σ B S Y) (hk : 0 ≤ a ∧ a ≤ 5) : CI l E ST yL_ask wML_ask rm_L_ask_4 [.ref (xad E 0), .int (iZ 4), .int (iZ a), .int (iZ b), .int (iZ c7)] σ (fun (z : Int) (u : xW) => z = aCa (kpT B) a ∧ u = σ) := by
  have fcw_0 : cw E σ B S Y := hr0
  refine CW_of (by decide) rfl (Nat.le_of_ble_eq_true rfl) ?_
  intro p e s m args below meth c Q ls G hH hl hQ
  obtain ⟨hx, hb, hml, hown, hts, hK, hST, hlocks, hr, htab⟩ := G
  have hOK := hSF.1
  have hown : s.vm.findClass RL = some m.cls := hown
  have hl : lv_has ls 6 [(0, .ref (xad E 0)), (1, .int (iZ 4)), (2, .int (iZ a)), (3, .int (iZ b)), (4, .int (iZ c7))] := hl
  refine lv_aload_n hx hb dL_ask_0 rfl (lv_at hl 0 rfl) ?_
  refine lv_iload_n hx hb dL_ask_1 rfl (lv_at hl 1 rfl) ?_
  refine lv_iload_n hx hb dL_ask_2 rfl (lv_at hl 2 rfl) ?_
  refine lv_iload_n hx hb dL_ask_3 rfl (lv_at hl 3 rfl) ?_
  refine lv_iload hx hb dL_ask_4 (lv_at hl 4 rfl) ?_
  refine x_cXSIE (As := [.ref (xad E 0), .int (iZ 4), .int (iZ a), .int (iZ b), .int (iZ c7)]) (rest := []) hx hb hml hts hown hK hST hOK hH (c_L_asked_4 l E ST hSF hSX htr σ a b c7 B S Y fcw_0 (by omega)) (va_cwS 5 hts (goodIn_t gK_130) rfl rfl rfl (by decide +kernel) ⟨Nat.le_of_ble_eq_true rfl, Nat.le_of_ble_eq_true rfl⟩) rfl hl.1 rfl (Nat.le_of_ble_eq_true rfl) dL_ask_6 ⟨Nat.le_of_ble_eq_true rfl, Nat.le_of_ble_eq_true rfl⟩ ?_ (fun z u h => h) (fun σ2 H locs hp3 hH => ?_)
  · intro nx ce q9 σ2 H locs hp3 hH hce hcv hcl
    obtain ⟨hn, hu⟩ := hp3
    rw [hu] at hH
    obtain ⟨en9, hn⟩ := hn
    subst en9
    refine x_catch hown hts hSX hST [(0, 9, 10, 63), (0, 9, 16, 65)] (0, 9, 22, 71) [] htab (by decide +kernel) (List.forall_mem_cons.mpr ⟨⟨by decide, "java/lang/IndexOutOfBoundsException", (List.mem_cons_of_mem _ (List.mem_append_right _ mW_96)), by decide +kernel, by decide +kernel⟩, (List.forall_mem_cons.mpr ⟨⟨by decide, "java/lang/IllegalArgumentException", (List.mem_cons_of_mem _ (List.mem_append_left _ mX_0)), by decide +kernel, by decide +kernel⟩, (fun _ h => absurd h List.not_mem_nil)⟩)⟩) rfl (by decide) (List.mem_cons_of_mem _ (List.mem_append_left _ mX_3)) hce hcv hcl ?_
    refine lv_astore (lv' := [(5, .ref q9), (0, .ref (xad E 0)), (1, .int (iZ 4)), (2, .int (iZ a)), (3, .int (iZ b)), (4, .int (iZ c7))]) hx hb dL_ask_22 hl (by decide) rfl (fun ls hl => ?_)
    refine x_sipush hx hb dL_ask_24 (by decide) ?_
    subst hQ
    exact x_iret hx hb hr hlocks hH (Nat.le_of_ble_eq_true rfl) (Nat.le_of_ble_eq_true rfl) ⟨(show (-2004) = (aCa (kpT B) a) from (by unfold aCa; (repeat' split) <;> first | rfl | omega | (exfalso; omega))), rfl⟩ dL_ask_27
  · obtain ⟨hf4, hu5⟩ := hp3
    rw [hu5] at hH
    subst hQ
    exact x_iret hx hb hr hlocks hH (Nat.le_of_ble_eq_true rfl) (Nat.le_of_ble_eq_true rfl) ⟨(show (kpT B a - 25) = (aCa (kpT B) a) from (by unfold aCa; (repeat' split) <;> first | rfl | omega | (exfalso; omega))), rfl⟩ dL_ask_9

def rm_L_ask_5 : Room := { frames := 9, cells := 1, slots := 6, locals := 158 }
set_option maxRecDepth 100000 in
set_option maxHeartbeats 4000000 in
theorem c_L_ask_5 (l : Launch) (E : xE) (ST : xST) (hSF : SF ST) (hSX : SX ST) (htr : l.stackTraces = false) (σ : xW) (a : Int) (b : Int) (c7 : Int) (B : BT) (S : Option BT) (Y : lnQ) (hr0 : cw E σ B S Y) (hok : okC a b) (hwc : 0 ≤ c7 ∧ c7 < nwT B) : CI l E ST yL_ask wML_ask rm_L_ask_5 [.ref (xad E 0), .int (iZ 5), .int (iZ a), .int (iZ b), .int (iZ c7)] σ (fun (z : Int) (u : xW) => z = aDz (dz (Gw (opT B) (lkT B) (kpT B) c7) (wcT B c7) (a * 5 + b)) ∧ (cw E u B S Y) ∧ ∀ j : Nat, (j < 0 ∨ 0 + 85 ≤ j) → u j = σ j) := by
  have fcw_0 : cw E σ B S Y := hr0
  refine CW_of (by decide) rfl (Nat.le_of_ble_eq_true rfl) ?_
  intro p e s m args below meth c Q ls G hH hl hQ
  obtain ⟨hx, hb, hml, hown, hts, hK, hST, hlocks, hr, htab⟩ := G
  have hOK := hSF.1
  have hown : s.vm.findClass RL = some m.cls := hown
  have hl : lv_has ls 6 [(0, .ref (xad E 0)), (1, .int (iZ 5)), (2, .int (iZ a)), (3, .int (iZ b)), (4, .int (iZ c7))] := hl
  obtain ⟨-, -, -, -, -, hnw⟩ : BI (opT B) (lkT B) (kpT B) (wcT B) (pnT B) (nwT B) := fcw_0.bit
  refine lv_aload_n hx hb dL_ask_0 rfl (lv_at hl 0 rfl) ?_
  refine lv_iload_n hx hb dL_ask_1 rfl (lv_at hl 1 rfl) ?_
  refine lv_iload_n hx hb dL_ask_2 rfl (lv_at hl 2 rfl) ?_
  refine lv_iload_n hx hb dL_ask_3 rfl (lv_at hl 3 rfl) ?_
  refine lv_iload hx hb dL_ask_4 (lv_at hl 4 rfl) ?_
  refine x_cXSIE (As := [.ref (xad E 0), .int (iZ 5), .int (iZ a), .int (iZ b), .int (iZ c7)]) (rest := []) hx hb hml hts hown hK hST hOK hH (c_L_asked_5 l E ST hSF hSX htr σ a b c7 B S Y fcw_0 (by omega) (by omega)) (va_cwS 5 hts (goodIn_t gK_130) rfl rfl rfl (by decide +kernel) ⟨Nat.le_of_ble_eq_true rfl, Nat.le_of_ble_eq_true rfl⟩) rfl hl.1 rfl (Nat.le_of_ble_eq_true rfl) dL_ask_6 ⟨Nat.le_of_ble_eq_true rfl, Nat.le_of_ble_eq_true rfl⟩ ?_ (fun z u h => h) (fun σ2 H locs hp3 hH => ?_)
  · intro nx ce q9 σ2 H locs hp3 hH hce hcv hcl
    obtain ⟨hn, fcw_0, fr4⟩ := hp3
    obtain ⟨en9, hn⟩ := hn
    subst en9
    refine x_catch hown hts hSX hST [(0, 9, 10, 63), (0, 9, 16, 65)] (0, 9, 22, 71) [] htab (by decide +kernel) (List.forall_mem_cons.mpr ⟨⟨by decide, "java/lang/IndexOutOfBoundsException", (List.mem_cons_of_mem _ (List.mem_append_right _ mW_96)), by decide +kernel, by decide +kernel⟩, (List.forall_mem_cons.mpr ⟨⟨by decide, "java/lang/IllegalArgumentException", (List.mem_cons_of_mem _ (List.mem_append_left _ mX_0)), by decide +kernel, by decide +kernel⟩, (fun _ h => absurd h List.not_mem_nil)⟩)⟩) rfl (by decide) (List.mem_cons_of_mem _ (List.mem_append_left _ mX_3)) hce hcv hcl ?_
    refine lv_astore (lv' := [(5, .ref q9), (0, .ref (xad E 0)), (1, .int (iZ 5)), (2, .int (iZ a)), (3, .int (iZ b)), (4, .int (iZ c7))]) hx hb dL_ask_22 hl (by decide) rfl (fun ls hl => ?_)
    refine x_sipush hx hb dL_ask_24 (by decide) ?_
    subst hQ
    exact x_iret hx hb hr hlocks hH (Nat.le_of_ble_eq_true rfl) (Nat.le_of_ble_eq_true rfl) ⟨(show (-2004) = (aDz (dz (Gw (opT B) (lkT B) (kpT B) c7) (wcT B c7) (a * 5 + b))) from (by unfold aDz; (repeat' split) <;> first | rfl | omega | (exfalso; omega))), fcw_0, fun j hj0 => (fr4 j (by omega))⟩ dL_ask_27
  · obtain ⟨⟨fcw_0, hf6⟩, fr5⟩ := hp3
    subst hQ
    exact x_iret hx hb hr hlocks hH (Nat.le_of_ble_eq_true rfl) (Nat.le_of_ble_eq_true rfl) ⟨(show (dz (Gw (opT B) (lkT B) (kpT B) c7) (wcT B c7) (a * 5 + b)) = (aDz (dz (Gw (opT B) (lkT B) (kpT B) c7) (wcT B c7) (a * 5 + b))) from (by unfold aDz; (repeat' split) <;> first | rfl | omega | (exfalso; omega))), fcw_0, fun j hj0 => (fr5 j (by omega))⟩ dL_ask_9

def rm_L_ask_6 : Room := { frames := 9, cells := 1, slots := 6, locals := 158 }
set_option maxRecDepth 100000 in
set_option maxHeartbeats 4000000 in
theorem c_L_ask_6 (l : Launch) (E : xE) (ST : xST) (hSF : SF ST) (hSX : SX ST) (htr : l.stackTraces = false) (σ : xW) (a : Int) (b : Int) (c7 : Int) (B : BT) (S : Option BT) (Y : lnQ) (hr0 : cw E σ B S Y) (hok : okC a b) (hwc : 0 ≤ c7 ∧ c7 < nwT B) : CI l E ST yL_ask wML_ask rm_L_ask_6 [.ref (xad E 0), .int (iZ 6), .int (iZ a), .int (iZ b), .int (iZ c7)] σ (fun (z : Int) (u : xW) => z = aDz (dz (Gw (opT B) (lkT B) (kpT B) c7) (wcT B c7) (a * 5 + b)) ∧ (cw E u B S Y) ∧ ∀ j : Nat, (j < 0 ∨ 0 + 85 ≤ j) → u j = σ j) := by
  have fcw_0 : cw E σ B S Y := hr0
  refine CW_of (by decide) rfl (Nat.le_of_ble_eq_true rfl) ?_
  intro p e s m args below meth c Q ls G hH hl hQ
  obtain ⟨hx, hb, hml, hown, hts, hK, hST, hlocks, hr, htab⟩ := G
  have hOK := hSF.1
  have hown : s.vm.findClass RL = some m.cls := hown
  have hl : lv_has ls 6 [(0, .ref (xad E 0)), (1, .int (iZ 6)), (2, .int (iZ a)), (3, .int (iZ b)), (4, .int (iZ c7))] := hl
  obtain ⟨-, -, -, -, -, hnw⟩ : BI (opT B) (lkT B) (kpT B) (wcT B) (pnT B) (nwT B) := fcw_0.bit
  refine lv_aload_n hx hb dL_ask_0 rfl (lv_at hl 0 rfl) ?_
  refine lv_iload_n hx hb dL_ask_1 rfl (lv_at hl 1 rfl) ?_
  refine lv_iload_n hx hb dL_ask_2 rfl (lv_at hl 2 rfl) ?_
  refine lv_iload_n hx hb dL_ask_3 rfl (lv_at hl 3 rfl) ?_
  refine lv_iload hx hb dL_ask_4 (lv_at hl 4 rfl) ?_
  refine x_cXSIE (As := [.ref (xad E 0), .int (iZ 6), .int (iZ a), .int (iZ b), .int (iZ c7)]) (rest := []) hx hb hml hts hown hK hST hOK hH (c_L_asked_6 l E ST hSF hSX htr σ a b c7 B S Y fcw_0 (by omega) (by omega)) (va_cwS 5 hts (goodIn_t gK_130) rfl rfl rfl (by decide +kernel) ⟨Nat.le_of_ble_eq_true rfl, Nat.le_of_ble_eq_true rfl⟩) rfl hl.1 rfl (Nat.le_of_ble_eq_true rfl) dL_ask_6 ⟨Nat.le_of_ble_eq_true rfl, Nat.le_of_ble_eq_true rfl⟩ ?_ (fun z u h => h) (fun σ2 H locs hp3 hH => ?_)
  · intro nx ce q9 σ2 H locs hp3 hH hce hcv hcl
    obtain ⟨hn, fcw_0, fr4⟩ := hp3
    obtain ⟨en9, hn⟩ := hn
    subst en9
    refine x_catch hown hts hSX hST [(0, 9, 10, 63), (0, 9, 16, 65)] (0, 9, 22, 71) [] htab (by decide +kernel) (List.forall_mem_cons.mpr ⟨⟨by decide, "java/lang/IndexOutOfBoundsException", (List.mem_cons_of_mem _ (List.mem_append_right _ mW_96)), by decide +kernel, by decide +kernel⟩, (List.forall_mem_cons.mpr ⟨⟨by decide, "java/lang/IllegalArgumentException", (List.mem_cons_of_mem _ (List.mem_append_left _ mX_0)), by decide +kernel, by decide +kernel⟩, (fun _ h => absurd h List.not_mem_nil)⟩)⟩) rfl (by decide) (List.mem_cons_of_mem _ (List.mem_append_left _ mX_3)) hce hcv hcl ?_
    refine lv_astore (lv' := [(5, .ref q9), (0, .ref (xad E 0)), (1, .int (iZ 6)), (2, .int (iZ a)), (3, .int (iZ b)), (4, .int (iZ c7))]) hx hb dL_ask_22 hl (by decide) rfl (fun ls hl => ?_)
    refine x_sipush hx hb dL_ask_24 (by decide) ?_
    subst hQ
    exact x_iret hx hb hr hlocks hH (Nat.le_of_ble_eq_true rfl) (Nat.le_of_ble_eq_true rfl) ⟨(show (-2004) = (aDz (dz (Gw (opT B) (lkT B) (kpT B) c7) (wcT B c7) (a * 5 + b))) from (by unfold aDz; (repeat' split) <;> first | rfl | omega | (exfalso; omega))), fcw_0, fun j hj0 => (fr4 j (by omega))⟩ dL_ask_27
  · obtain ⟨⟨fcw_0, hf6⟩, fr5⟩ := hp3
    subst hQ
    exact x_iret hx hb hr hlocks hH (Nat.le_of_ble_eq_true rfl) (Nat.le_of_ble_eq_true rfl) ⟨(show (dz (Gw (opT B) (lkT B) (kpT B) c7) (wcT B c7) (a * 5 + b)) = (aDz (dz (Gw (opT B) (lkT B) (kpT B) c7) (wcT B c7) (a * 5 + b))) from (by unfold aDz; (repeat' split) <;> first | rfl | omega | (exfalso; omega))), fcw_0, fun j hj0 => (fr5 j (by omega))⟩ dL_ask_9

def rm_L_ask_7 : Room := { frames := 9, cells := 2, slots := 12, locals := 158 }
set_option maxRecDepth 100000 in
set_option maxHeartbeats 4000000 in
theorem c_L_ask_7 (l : Launch) (E : xE) (ST : xST) (hSF : SF ST) (hSX : SX ST) (htr : l.stackTraces = false) (σ : xW) (a : Int) (b : Int) (c7 : Int) (B : BT) (S : Option BT) (Y : lnQ) (hr0 : cw E σ B S Y) (hok : okC a b) (hwc : 0 ≤ c7 ∧ c7 < nwT B) : CI l E ST yL_ask wML_ask rm_L_ask_7 [.ref (xad E 0), .int (iZ 7), .int (iZ a), .int (iZ b), .int (iZ c7)] σ (fun (z : Int) (u : xW) => z = aFz (dz (Gw (opT B) (lkT B) (kpT B) c7) (wcT B c7) (a * 5 + b)) (fz (Gw (opT B) (lkT B) (kpT B) c7) (wcT B c7) (a * 5 + b)) ∧ (cw E u B S Y) ∧ ∀ j : Nat, (j < 0 ∨ 0 + 85 ≤ j) → u j = σ j) := by
  have fcw_0 : cw E σ B S Y := hr0
  refine CW_of (by decide) rfl (Nat.le_of_ble_eq_true rfl) ?_
  intro p e s m args below meth c Q ls G hH hl hQ
  obtain ⟨hx, hb, hml, hown, hts, hK, hST, hlocks, hr, htab⟩ := G
  have hOK := hSF.1
  have hown : s.vm.findClass RL = some m.cls := hown
  have hl : lv_has ls 6 [(0, .ref (xad E 0)), (1, .int (iZ 7)), (2, .int (iZ a)), (3, .int (iZ b)), (4, .int (iZ c7))] := hl
  obtain ⟨-, -, -, -, -, hnw⟩ : BI (opT B) (lkT B) (kpT B) (wcT B) (pnT B) (nwT B) := fcw_0.bit
  refine lv_aload_n hx hb dL_ask_0 rfl (lv_at hl 0 rfl) ?_
  refine lv_iload_n hx hb dL_ask_1 rfl (lv_at hl 1 rfl) ?_
  refine lv_iload_n hx hb dL_ask_2 rfl (lv_at hl 2 rfl) ?_
  refine lv_iload_n hx hb dL_ask_3 rfl (lv_at hl 3 rfl) ?_
  refine lv_iload hx hb dL_ask_4 (lv_at hl 4 rfl) ?_
  refine x_cXSIE (As := [.ref (xad E 0), .int (iZ 7), .int (iZ a), .int (iZ b), .int (iZ c7)]) (rest := []) hx hb hml hts hown hK hST hOK hH (c_L_asked_7 l E ST hSF hSX htr σ a b c7 B S Y fcw_0 (by omega) (by omega)) (va_cwS 5 hts (goodIn_t gK_130) rfl rfl rfl (by decide +kernel) ⟨Nat.le_of_ble_eq_true rfl, Nat.le_of_ble_eq_true rfl⟩) rfl hl.1 rfl (Nat.le_of_ble_eq_true rfl) dL_ask_6 ⟨Nat.le_of_ble_eq_true rfl, Nat.le_of_ble_eq_true rfl⟩ ?_ (fun z u h => h) (fun σ2 H locs hp3 hH => ?_)
  · intro nx ce q9 σ2 H locs hp3 hH hce hcv hcl
    obtain ⟨hn, fcw_0, fr4⟩ := hp3
    obtain ⟨en9, hn⟩ := hn
    subst en9
    refine x_catch hown hts hSX hST [(0, 9, 10, 63), (0, 9, 16, 65)] (0, 9, 22, 71) [] htab (by decide +kernel) (List.forall_mem_cons.mpr ⟨⟨by decide, "java/lang/IndexOutOfBoundsException", (List.mem_cons_of_mem _ (List.mem_append_right _ mW_96)), by decide +kernel, by decide +kernel⟩, (List.forall_mem_cons.mpr ⟨⟨by decide, "java/lang/IllegalArgumentException", (List.mem_cons_of_mem _ (List.mem_append_left _ mX_0)), by decide +kernel, by decide +kernel⟩, (fun _ h => absurd h List.not_mem_nil)⟩)⟩) rfl (by decide) (List.mem_cons_of_mem _ (List.mem_append_left _ mX_3)) hce hcv hcl ?_
    refine lv_astore (lv' := [(5, .ref q9), (0, .ref (xad E 0)), (1, .int (iZ 7)), (2, .int (iZ a)), (3, .int (iZ b)), (4, .int (iZ c7))]) hx hb dL_ask_22 hl (by decide) rfl (fun ls hl => ?_)
    refine x_sipush hx hb dL_ask_24 (by decide) ?_
    subst hQ
    exact x_iret hx hb hr hlocks hH (Nat.le_of_ble_eq_true rfl) (Nat.le_of_ble_eq_true rfl) ⟨(show (-2004) = (aFz (dz (Gw (opT B) (lkT B) (kpT B) c7) (wcT B c7) (a * 5 + b)) (fz (Gw (opT B) (lkT B) (kpT B) c7) (wcT B c7) (a * 5 + b))) from (by unfold aFz; (repeat' split) <;> first | rfl | omega | (exfalso; omega))), fcw_0, fun j hj0 => (fr4 j (by omega))⟩ dL_ask_27
  · obtain ⟨⟨fcw_0, hf6, hf7⟩, fr5⟩ := hp3
    subst hQ
    exact x_iret hx hb hr hlocks hH (Nat.le_of_ble_eq_true rfl) (Nat.le_of_ble_eq_true rfl) ⟨(show (fz (Gw (opT B) (lkT B) (kpT B) c7) (wcT B c7) (a * 5 + b)) = (aFz (dz (Gw (opT B) (lkT B) (kpT B) c7) (wcT B c7) (a * 5 + b)) (fz (Gw (opT B) (lkT B) (kpT B) c7) (wcT B c7) (a * 5 + b))) from (by unfold aFz; (repeat' split) <;> first | rfl | omega | (exfalso; omega))), fcw_0, fun j hj0 => (fr5 j (by omega))⟩ dL_ask_9

def rm_L_ask_8 : Room := { frames := 8, cells := 1, slots := 6, locals := 139 }
set_option maxRecDepth 100000 in
set_option maxHeartbeats 4000000 in
theorem c_L_ask_8 (l : Launch) (E : xE) (ST : xST) (hSF : SF ST) (hSX : SX ST) (htr : l.stackTraces = false) (σ : xW) (a : Int) (b : Int) (c7 : Int) (B : BT) (S : Option BT) (Y : lnQ) (hr0 : cw E σ B S Y) (hwa : 0 ≤ a ∧ a < nwT B) : CI l E ST yL_ask wML_ask rm_L_ask_8 [.ref (xad E 0), .int (iZ 8), .int (iZ a), .int (iZ b), .int (iZ c7)] σ (fun (z : Int) (u : xW) => z = aNk (nkK (kpT B) (dz (Gw (opT B) (lkT B) (kpT B) a) (wcT B a)) 6).1 ∧ (cw E u B S Y) ∧ ∀ j : Nat, (j < 0 ∨ 0 + 85 ≤ j) → u j = σ j) := by
  have fcw_0 : cw E σ B S Y := hr0
  refine CW_of (by decide) rfl (Nat.le_of_ble_eq_true rfl) ?_
  intro p e s m args below meth c Q ls G hH hl hQ
  obtain ⟨hx, hb, hml, hown, hts, hK, hST, hlocks, hr, htab⟩ := G
  have hOK := hSF.1
  have hown : s.vm.findClass RL = some m.cls := hown
  have hl : lv_has ls 6 [(0, .ref (xad E 0)), (1, .int (iZ 8)), (2, .int (iZ a)), (3, .int (iZ b)), (4, .int (iZ c7))] := hl
  obtain ⟨-, -, -, -, -, hnw⟩ : BI (opT B) (lkT B) (kpT B) (wcT B) (pnT B) (nwT B) := fcw_0.bit
  refine lv_aload_n hx hb dL_ask_0 rfl (lv_at hl 0 rfl) ?_
  refine lv_iload_n hx hb dL_ask_1 rfl (lv_at hl 1 rfl) ?_
  refine lv_iload_n hx hb dL_ask_2 rfl (lv_at hl 2 rfl) ?_
  refine lv_iload_n hx hb dL_ask_3 rfl (lv_at hl 3 rfl) ?_
  refine lv_iload hx hb dL_ask_4 (lv_at hl 4 rfl) ?_
  refine x_cXSIE (As := [.ref (xad E 0), .int (iZ 8), .int (iZ a), .int (iZ b), .int (iZ c7)]) (rest := []) hx hb hml hts hown hK hST hOK hH (c_L_asked_8 l E ST hSF hSX htr σ a b c7 B S Y fcw_0 (by omega)) (va_cwS 5 hts (goodIn_t gK_130) rfl rfl rfl (by decide +kernel) ⟨Nat.le_of_ble_eq_true rfl, Nat.le_of_ble_eq_true rfl⟩) rfl hl.1 rfl (Nat.le_of_ble_eq_true rfl) dL_ask_6 ⟨Nat.le_of_ble_eq_true rfl, Nat.le_of_ble_eq_true rfl⟩ ?_ (fun z u h => h) (fun σ2 H locs hp3 hH => ?_)
  · intro nx ce q9 σ2 H locs hp3 hH hce hcv hcl
    obtain ⟨hn, fcw_0, fr4⟩ := hp3
    obtain ⟨en9, hn⟩ := hn
    subst en9
    refine x_catch hown hts hSX hST [(0, 9, 10, 63), (0, 9, 16, 65)] (0, 9, 22, 71) [] htab (by decide +kernel) (List.forall_mem_cons.mpr ⟨⟨by decide, "java/lang/IndexOutOfBoundsException", (List.mem_cons_of_mem _ (List.mem_append_right _ mW_96)), by decide +kernel, by decide +kernel⟩, (List.forall_mem_cons.mpr ⟨⟨by decide, "java/lang/IllegalArgumentException", (List.mem_cons_of_mem _ (List.mem_append_left _ mX_0)), by decide +kernel, by decide +kernel⟩, (fun _ h => absurd h List.not_mem_nil)⟩)⟩) rfl (by decide) (List.mem_cons_of_mem _ (List.mem_append_left _ mX_3)) hce hcv hcl ?_
    refine lv_astore (lv' := [(5, .ref q9), (0, .ref (xad E 0)), (1, .int (iZ 8)), (2, .int (iZ a)), (3, .int (iZ b)), (4, .int (iZ c7))]) hx hb dL_ask_22 hl (by decide) rfl (fun ls hl => ?_)
    refine x_sipush hx hb dL_ask_24 (by decide) ?_
    subst hQ
    exact x_iret hx hb hr hlocks hH (Nat.le_of_ble_eq_true rfl) (Nat.le_of_ble_eq_true rfl) ⟨(show (-2004) = (aNk (nkK (kpT B) (dz (Gw (opT B) (lkT B) (kpT B) a) (wcT B a)) 6).1) from (by unfold aNk; (repeat' split) <;> first | rfl | omega | (exfalso; omega))), fcw_0, fun j hj0 => (fr4 j (by omega))⟩ dL_ask_27
  · obtain ⟨⟨fcw_0, hf6⟩, fr5⟩ := hp3
    subst hQ
    exact x_iret hx hb hr hlocks hH (Nat.le_of_ble_eq_true rfl) (Nat.le_of_ble_eq_true rfl) ⟨(show (97 + (nkK (kpT B) (dz (Gw (opT B) (lkT B) (kpT B) a) (wcT B a)) 6).1) = (aNk (nkK (kpT B) (dz (Gw (opT B) (lkT B) (kpT B) a) (wcT B a)) 6).1) from (by unfold aNk; (repeat' split) <;> first | rfl | omega | (exfalso; omega))), fcw_0, fun j hj0 => (fr5 j (by omega))⟩ dL_ask_9

def rm_L_ask_13 : Room := { frames := 4, cells := 0, slots := 0, locals := 89 }
set_option maxRecDepth 100000 in
set_option maxHeartbeats 4000000 in
theorem c_L_ask_13 (l : Launch) (E : xE) (ST : xST) (hSF : SF ST) (hSX : SX ST) (htr : l.stackTraces = false) (σ : xW) (a : Int) (b : Int) (c7 : Int) (B : BT) (S : Option BT) (Y : lnQ) (hr0 : cw E σ B S Y) (hla : 0 ≤ a ∧ a < 5) : CI l E ST yL_ask wML_ask rm_L_ask_13 [.ref (xad E 0), .int (iZ 13), .int (iZ a), .int (iZ b), .int (iZ c7)] σ (fun (z : Int) (u : xW) => z = b2 (lfB (pnT B) (a * 5) 1) + 2 * b2 (lfB (pnT B) a 5) ∧ u = σ) := by
  have fcw_0 : cw E σ B S Y := hr0
  refine CW_of (by decide) rfl (Nat.le_of_ble_eq_true rfl) ?_
  intro p e s m args below meth c Q ls G hH hl hQ
  obtain ⟨hx, hb, hml, hown, hts, hK, hST, hlocks, hr, htab⟩ := G
  have hOK := hSF.1
  have hown : s.vm.findClass RL = some m.cls := hown
  have hl : lv_has ls 6 [(0, .ref (xad E 0)), (1, .int (iZ 13)), (2, .int (iZ a)), (3, .int (iZ b)), (4, .int (iZ c7))] := hl
  refine lv_aload_n hx hb dL_ask_0 rfl (lv_at hl 0 rfl) ?_
  refine lv_iload_n hx hb dL_ask_1 rfl (lv_at hl 1 rfl) ?_
  refine lv_iload_n hx hb dL_ask_2 rfl (lv_at hl 2 rfl) ?_
  refine lv_iload_n hx hb dL_ask_3 rfl (lv_at hl 3 rfl) ?_
  refine lv_iload hx hb dL_ask_4 (lv_at hl 4 rfl) ?_
  refine x_cSID (As := [.ref (xad E 0), .int (iZ 13), .int (iZ a), .int (iZ b), .int (iZ c7)]) (rest := []) hx hb hml hts hown hK hST hOK hH (c_L_asked_13 l E ST hSF hSX σ a b c7 B S Y fcw_0 (by omega)) (va_cwS 5 hts (goodIn_t gK_130) rfl rfl rfl (by decide +kernel) ⟨Nat.le_of_ble_eq_true rfl, Nat.le_of_ble_eq_true rfl⟩) rfl hl.1 rfl (Nat.le_of_ble_eq_true rfl) dL_ask_6 ⟨Nat.le_of_ble_eq_true rfl, Nat.le_of_ble_eq_true rfl⟩ (fun z u h => h) (fun H locs hH => ?_)
  subst hQ
  exact x_iret hx hb hr hlocks hH (Nat.le_of_ble_eq_true rfl) (Nat.le_of_ble_eq_true rfl) ⟨(show (b2 (lfB (pnT B) (a * 5) 1) + 2 * b2 (lfB (pnT B) a 5)) = (b2 (lfB (pnT B) (a * 5) 1) + 2 * b2 (lfB (pnT B) a 5)) from (by rfl)), rfl⟩ dL_ask_9

def rm_L_ask_0b : Room := { frames := 9, cells := 1, slots := 6, locals := 157 }
set_option maxRecDepth 100000 in
set_option maxHeartbeats 4000000 in
theorem c_L_ask_0b (l : Launch) (E : xE) (ST : xST) (hSF : SF ST) (hSX : SX ST) (htr : l.stackTraces = false) (σ : xW) (a : Int) (b : Int) (c7 : Int) (B : BT) (S : Option BT) (Y : lnQ) (hr0 : cw E σ B S Y) (ha : rg a) (hb9 : rg b) (hc9 : rg c7) (hno : ¬ okC a b) : CI l E ST yL_ask wML_ask rm_L_ask_0b [.ref (xad E 0), .int (iZ 0), .int (iZ a), .int (iZ b), .int (iZ c7)] σ (fun (z : Int) (u : xW) => z = -2002 ∧ u = σ) := by
  have fcw_0 : cw E σ B S Y := hr0
  refine CW_of (by decide) rfl (Nat.le_of_ble_eq_true rfl) ?_
  intro p e s m args below meth c Q ls G hH hl hQ
  obtain ⟨hx, hb, hml, hown, hts, hK, hST, hlocks, hr, htab⟩ := G
  have hOK := hSF.1
  have hown : s.vm.findClass RL = some m.cls := hown
  have hl : lv_has ls 6 [(0, .ref (xad E 0)), (1, .int (iZ 0)), (2, .int (iZ a)), (3, .int (iZ b)), (4, .int (iZ c7))] := hl
  refine lv_aload_n hx hb dL_ask_0 rfl (lv_at hl 0 rfl) ?_
  refine lv_iload_n hx hb dL_ask_1 rfl (lv_at hl 1 rfl) ?_
  refine lv_iload_n hx hb dL_ask_2 rfl (lv_at hl 2 rfl) ?_
  refine lv_iload_n hx hb dL_ask_3 rfl (lv_at hl 3 rfl) ?_
  refine lv_iload hx hb dL_ask_4 (lv_at hl 4 rfl) ?_
  refine x_cXSI (As := [.ref (xad E 0), .int (iZ 0), .int (iZ a), .int (iZ b), .int (iZ c7)]) (rest := []) hx hb hml hts hown hK hST hOK hH (c_L_asked_0b l E ST hSF hSX htr σ a b c7 B S Y fcw_0 (by omega) (by omega) (by omega) (by omega)) (va_cwS 5 hts (goodIn_t gK_130) rfl rfl rfl (by decide +kernel) ⟨Nat.le_of_ble_eq_true rfl, Nat.le_of_ble_eq_true rfl⟩) rfl hl.1 rfl (Nat.le_of_ble_eq_true rfl) dL_ask_6 ⟨Nat.le_of_ble_eq_true rfl, Nat.le_of_ble_eq_true rfl⟩ ?_ (fun z1 σ2 H locs hp3 hH => ?_)
  · intro nx ce q9 σ2 H locs hp3 hH hce hcv hcl
    obtain ⟨hn, hu⟩ := hp3
    rw [hu] at hH
    obtain ⟨en9, hn⟩ := hn
    subst en9
    refine x_catch hown hts hSX hST [] (0, 9, 10, 63) [(0, 9, 16, 65), (0, 9, 22, 71)] htab (by decide +kernel) (fun _ h => absurd h List.not_mem_nil) rfl (by decide) (List.mem_cons_of_mem _ (List.mem_append_right _ mW_96)) hce hcv hcl ?_
    refine lv_astore (lv' := [(5, .ref q9), (0, .ref (xad E 0)), (1, .int (iZ 0)), (2, .int (iZ a)), (3, .int (iZ b)), (4, .int (iZ c7))]) hx hb dL_ask_10 hl (by decide) rfl (fun ls hl => ?_)
    refine x_sipush hx hb dL_ask_12 (by decide) ?_
    subst hQ
    exact x_iret hx hb hr hlocks hH (Nat.le_of_ble_eq_true rfl) (Nat.le_of_ble_eq_true rfl) ⟨(show (-2002) = (-2002) from (by first | rfl | exact False.elim (by assumption))), rfl⟩ dL_ask_15
  · obtain ⟨hz4, hu5⟩ := hp3
    rw [hu5] at hH
    subst hQ
    exact x_iret hx hb hr hlocks hH (Nat.le_of_ble_eq_true rfl) (Nat.le_of_ble_eq_true rfl) ⟨(show z1 = (-2002) from (by first | rfl | exact False.elim (by assumption))), rfl⟩ dL_ask_9

def rm_L_ask_2b : Room := { frames := 9, cells := 2, slots := 12, locals := 159 }
set_option maxRecDepth 100000 in
set_option maxHeartbeats 4000000 in
theorem c_L_ask_2b (l : Launch) (E : xE) (ST : xST) (hSF : SF ST) (hSX : SX ST) (htr : l.stackTraces = false) (σ : xW) (a : Int) (b : Int) (c7 : Int) (B : BT) (S : Option BT) (Y : lnQ) (hr0 : cw E σ B S Y) (ha : rg a) (hb9 : rg b) (hc9 : rg c7) (hok : okC a b) (hno : ¬ (0 ≤ c7 ∧ c7 < 4)) : CI l E ST yL_ask wML_ask rm_L_ask_2b [.ref (xad E 0), .int (iZ 2), .int (iZ a), .int (iZ b), .int (iZ c7)] σ (fun (z : Int) (u : xW) => z = -2003 ∧ u = σ) := by
  have fcw_0 : cw E σ B S Y := hr0
  refine CW_of (by decide) rfl (Nat.le_of_ble_eq_true rfl) ?_
  intro p e s m args below meth c Q ls G hH hl hQ
  obtain ⟨hx, hb, hml, hown, hts, hK, hST, hlocks, hr, htab⟩ := G
  have hOK := hSF.1
  have hown : s.vm.findClass RL = some m.cls := hown
  have hl : lv_has ls 6 [(0, .ref (xad E 0)), (1, .int (iZ 2)), (2, .int (iZ a)), (3, .int (iZ b)), (4, .int (iZ c7))] := hl
  refine lv_aload_n hx hb dL_ask_0 rfl (lv_at hl 0 rfl) ?_
  refine lv_iload_n hx hb dL_ask_1 rfl (lv_at hl 1 rfl) ?_
  refine lv_iload_n hx hb dL_ask_2 rfl (lv_at hl 2 rfl) ?_
  refine lv_iload_n hx hb dL_ask_3 rfl (lv_at hl 3 rfl) ?_
  refine lv_iload hx hb dL_ask_4 (lv_at hl 4 rfl) ?_
  refine x_cXSI (As := [.ref (xad E 0), .int (iZ 2), .int (iZ a), .int (iZ b), .int (iZ c7)]) (rest := []) hx hb hml hts hown hK hST hOK hH (c_L_asked_2b l E ST hSF hSX htr σ a b c7 B S Y fcw_0 (by omega) (by omega) (by omega) (by omega) (by omega)) (va_cwS 5 hts (goodIn_t gK_130) rfl rfl rfl (by decide +kernel) ⟨Nat.le_of_ble_eq_true rfl, Nat.le_of_ble_eq_true rfl⟩) rfl hl.1 rfl (Nat.le_of_ble_eq_true rfl) dL_ask_6 ⟨Nat.le_of_ble_eq_true rfl, Nat.le_of_ble_eq_true rfl⟩ ?_ (fun z1 σ2 H locs hp3 hH => ?_)
  · intro nx ce q9 σ2 H locs hp3 hH hce hcv hcl
    obtain ⟨hn, hu⟩ := hp3
    rw [hu] at hH
    obtain ⟨en9, hn⟩ := hn
    subst en9
    refine x_catch hown hts hSX hST [(0, 9, 10, 63)] (0, 9, 16, 65) [(0, 9, 22, 71)] htab (by decide +kernel) (List.forall_mem_cons.mpr ⟨⟨by decide, "java/lang/IndexOutOfBoundsException", (List.mem_cons_of_mem _ (List.mem_append_right _ mW_96)), by decide +kernel, by decide +kernel⟩, (fun _ h => absurd h List.not_mem_nil)⟩) rfl (by decide) (List.mem_cons_of_mem _ (List.mem_append_left _ mX_0)) hce hcv hcl ?_
    refine lv_astore (lv' := [(5, .ref q9), (0, .ref (xad E 0)), (1, .int (iZ 2)), (2, .int (iZ a)), (3, .int (iZ b)), (4, .int (iZ c7))]) hx hb dL_ask_16 hl (by decide) rfl (fun ls hl => ?_)
    refine x_sipush hx hb dL_ask_18 (by decide) ?_
    subst hQ
    exact x_iret hx hb hr hlocks hH (Nat.le_of_ble_eq_true rfl) (Nat.le_of_ble_eq_true rfl) ⟨(show (-2003) = (-2003) from (by first | rfl | exact False.elim (by assumption))), rfl⟩ dL_ask_21
  · obtain ⟨hz4, hu5⟩ := hp3
    rw [hu5] at hH
    subst hQ
    exact x_iret hx hb hr hlocks hH (Nat.le_of_ble_eq_true rfl) (Nat.le_of_ble_eq_true rfl) ⟨(show z1 = (-2003) from (by first | rfl | exact False.elim (by assumption))), rfl⟩ dL_ask_9

def rm_L_ask_13b : Room := { frames := 9, cells := 2, slots := 12, locals := 155 }
set_option maxRecDepth 100000 in
set_option maxHeartbeats 4000000 in
theorem c_L_ask_13b (l : Launch) (E : xE) (ST : xST) (hSF : SF ST) (hSX : SX ST) (htr : l.stackTraces = false) (σ : xW) (a : Int) (b : Int) (c7 : Int) (B : BT) (S : Option BT) (Y : lnQ) (hr0 : cw E σ B S Y) (ha : rg a) (hb9 : rg b) (hc9 : rg c7) (hno : ¬ (0 ≤ a ∧ a < 5)) : CI l E ST yL_ask wML_ask rm_L_ask_13b [.ref (xad E 0), .int (iZ 13), .int (iZ a), .int (iZ b), .int (iZ c7)] σ (fun (z : Int) (u : xW) => z = -2002 ∧ u = σ) := by
  have fcw_0 : cw E σ B S Y := hr0
  refine CW_of (by decide) rfl (Nat.le_of_ble_eq_true rfl) ?_
  intro p e s m args below meth c Q ls G hH hl hQ
  obtain ⟨hx, hb, hml, hown, hts, hK, hST, hlocks, hr, htab⟩ := G
  have hOK := hSF.1
  have hown : s.vm.findClass RL = some m.cls := hown
  have hl : lv_has ls 6 [(0, .ref (xad E 0)), (1, .int (iZ 13)), (2, .int (iZ a)), (3, .int (iZ b)), (4, .int (iZ c7))] := hl
  refine lv_aload_n hx hb dL_ask_0 rfl (lv_at hl 0 rfl) ?_
  refine lv_iload_n hx hb dL_ask_1 rfl (lv_at hl 1 rfl) ?_
  refine lv_iload_n hx hb dL_ask_2 rfl (lv_at hl 2 rfl) ?_
  refine lv_iload_n hx hb dL_ask_3 rfl (lv_at hl 3 rfl) ?_
  refine lv_iload hx hb dL_ask_4 (lv_at hl 4 rfl) ?_
  refine x_cXSI (As := [.ref (xad E 0), .int (iZ 13), .int (iZ a), .int (iZ b), .int (iZ c7)]) (rest := []) hx hb hml hts hown hK hST hOK hH (c_L_asked_13b l E ST hSF hSX htr σ a b c7 B S Y fcw_0 (by omega) (by omega) (by omega) (by omega)) (va_cwS 5 hts (goodIn_t gK_130) rfl rfl rfl (by decide +kernel) ⟨Nat.le_of_ble_eq_true rfl, Nat.le_of_ble_eq_true rfl⟩) rfl hl.1 rfl (Nat.le_of_ble_eq_true rfl) dL_ask_6 ⟨Nat.le_of_ble_eq_true rfl, Nat.le_of_ble_eq_true rfl⟩ ?_ (fun z1 σ2 H locs hp3 hH => ?_)
  · intro nx ce q9 σ2 H locs hp3 hH hce hcv hcl
    obtain ⟨hn, hu⟩ := hp3
    rw [hu] at hH
    obtain ⟨en9, hn⟩ := hn
    subst en9
    refine x_catch hown hts hSX hST [] (0, 9, 10, 63) [(0, 9, 16, 65), (0, 9, 22, 71)] htab (by decide +kernel) (fun _ h => absurd h List.not_mem_nil) rfl (by decide) (List.mem_cons_of_mem _ (List.mem_append_right _ mW_96)) hce hcv hcl ?_
    refine lv_astore (lv' := [(5, .ref q9), (0, .ref (xad E 0)), (1, .int (iZ 13)), (2, .int (iZ a)), (3, .int (iZ b)), (4, .int (iZ c7))]) hx hb dL_ask_10 hl (by decide) rfl (fun ls hl => ?_)
    refine x_sipush hx hb dL_ask_12 (by decide) ?_
    subst hQ
    exact x_iret hx hb hr hlocks hH (Nat.le_of_ble_eq_true rfl) (Nat.le_of_ble_eq_true rfl) ⟨(show (-2002) = (-2002) from (by first | rfl | exact False.elim (by assumption))), rfl⟩ dL_ask_15
  · obtain ⟨hz4, hu5⟩ := hp3
    rw [hu5] at hH
    subst hQ
    exact x_iret hx hb hr hlocks hH (Nat.le_of_ble_eq_true rfl) (Nat.le_of_ble_eq_true rfl) ⟨(show z1 = (-2002) from (by first | rfl | exact False.elim (by assumption))), rfl⟩ dL_ask_9

def rm_L_ask_3b : Room := { frames := 10, cells := 4, slots := 24, locals := 177 }
set_option maxRecDepth 100000 in
set_option maxHeartbeats 4000000 in
theorem c_L_ask_3b (l : Launch) (E : xE) (ST : xST) (hSF : SF ST) (hSX : SX ST) (htr : l.stackTraces = false) (σ : xW) (a : Int) (b : Int) (c7 : Int) (B : BT) (S : Option BT) (Y : lnQ) (hr0 : cw E σ B S Y) (hno : (-10 ≤ a ∧ a ≤ -1) ∨ (6 ≤ a ∧ a ≤ 20)) : CI l E ST yL_ask wML_ask rm_L_ask_3b [.ref (xad E 0), .int (iZ 3), .int (iZ a), .int (iZ b), .int (iZ c7)] σ (fun (z : Int) (u : xW) => z = -2003 ∧ u = σ) := by
  have fcw_0 : cw E σ B S Y := hr0
  refine CW_of (by decide) rfl (Nat.le_of_ble_eq_true rfl) ?_
  intro p e s m args below meth c Q ls G hH hl hQ
  obtain ⟨hx, hb, hml, hown, hts, hK, hST, hlocks, hr, htab⟩ := G
  have hOK := hSF.1
  have hown : s.vm.findClass RL = some m.cls := hown
  have hl : lv_has ls 6 [(0, .ref (xad E 0)), (1, .int (iZ 3)), (2, .int (iZ a)), (3, .int (iZ b)), (4, .int (iZ c7))] := hl
  refine lv_aload_n hx hb dL_ask_0 rfl (lv_at hl 0 rfl) ?_
  refine lv_iload_n hx hb dL_ask_1 rfl (lv_at hl 1 rfl) ?_
  refine lv_iload_n hx hb dL_ask_2 rfl (lv_at hl 2 rfl) ?_
  refine lv_iload_n hx hb dL_ask_3 rfl (lv_at hl 3 rfl) ?_
  refine lv_iload hx hb dL_ask_4 (lv_at hl 4 rfl) ?_
  refine x_cXSI (As := [.ref (xad E 0), .int (iZ 3), .int (iZ a), .int (iZ b), .int (iZ c7)]) (rest := []) hx hb hml hts hown hK hST hOK hH (c_L_asked_3b l E ST hSF hSX htr σ a b c7 B S Y fcw_0 (by omega)) (va_cwS 5 hts (goodIn_t gK_130) rfl rfl rfl (by decide +kernel) ⟨Nat.le_of_ble_eq_true rfl, Nat.le_of_ble_eq_true rfl⟩) rfl hl.1 rfl (Nat.le_of_ble_eq_true rfl) dL_ask_6 ⟨Nat.le_of_ble_eq_true rfl, Nat.le_of_ble_eq_true rfl⟩ ?_ (fun z1 σ2 H locs hp3 hH => ?_)
  · intro nx ce q9 σ2 H locs hp3 hH hce hcv hcl
    obtain ⟨hn, hu⟩ := hp3
    rw [hu] at hH
    obtain ⟨en9, hn⟩ := hn
    subst en9
    refine x_catch hown hts hSX hST [(0, 9, 10, 63)] (0, 9, 16, 65) [(0, 9, 22, 71)] htab (by decide +kernel) (List.forall_mem_cons.mpr ⟨⟨by decide, "java/lang/IndexOutOfBoundsException", (List.mem_cons_of_mem _ (List.mem_append_right _ mW_96)), by decide +kernel, by decide +kernel⟩, (fun _ h => absurd h List.not_mem_nil)⟩) rfl (by decide) (List.mem_cons_of_mem _ (List.mem_append_left _ mX_0)) hce hcv hcl ?_
    refine lv_astore (lv' := [(5, .ref q9), (0, .ref (xad E 0)), (1, .int (iZ 3)), (2, .int (iZ a)), (3, .int (iZ b)), (4, .int (iZ c7))]) hx hb dL_ask_16 hl (by decide) rfl (fun ls hl => ?_)
    refine x_sipush hx hb dL_ask_18 (by decide) ?_
    subst hQ
    exact x_iret hx hb hr hlocks hH (Nat.le_of_ble_eq_true rfl) (Nat.le_of_ble_eq_true rfl) ⟨(show (-2003) = (-2003) from (by first | rfl | exact False.elim (by assumption))), rfl⟩ dL_ask_21
  · obtain ⟨hz4, hu5⟩ := hp3
    rw [hu5] at hH
    subst hQ
    exact x_iret hx hb hr hlocks hH (Nat.le_of_ble_eq_true rfl) (Nat.le_of_ble_eq_true rfl) ⟨(show z1 = (-2003) from (by first | rfl | exact False.elim (by assumption))), rfl⟩ dL_ask_9

def rm_L_ask_4b : Room := { frames := 9, cells := 2, slots := 12, locals := 156 }
set_option maxRecDepth 100000 in
set_option maxHeartbeats 4000000 in
theorem c_L_ask_4b (l : Launch) (E : xE) (ST : xST) (hSF : SF ST) (hSX : SX ST) (htr : l.stackTraces = false) (σ : xW) (a : Int) (b : Int) (c7 : Int) (B : BT) (S : Option BT) (Y : lnQ) (hr0 : cw E σ B S Y) (hno : (-10 ≤ a ∧ a ≤ -1) ∨ (6 ≤ a ∧ a ≤ 20)) : CI l E ST yL_ask wML_ask rm_L_ask_4b [.ref (xad E 0), .int (iZ 4), .int (iZ a), .int (iZ b), .int (iZ c7)] σ (fun (z : Int) (u : xW) => z = -2003 ∧ u = σ) := by
  have fcw_0 : cw E σ B S Y := hr0
  refine CW_of (by decide) rfl (Nat.le_of_ble_eq_true rfl) ?_
  intro p e s m args below meth c Q ls G hH hl hQ
  obtain ⟨hx, hb, hml, hown, hts, hK, hST, hlocks, hr, htab⟩ := G
  have hOK := hSF.1
  have hown : s.vm.findClass RL = some m.cls := hown
  have hl : lv_has ls 6 [(0, .ref (xad E 0)), (1, .int (iZ 4)), (2, .int (iZ a)), (3, .int (iZ b)), (4, .int (iZ c7))] := hl
  refine lv_aload_n hx hb dL_ask_0 rfl (lv_at hl 0 rfl) ?_
  refine lv_iload_n hx hb dL_ask_1 rfl (lv_at hl 1 rfl) ?_
  refine lv_iload_n hx hb dL_ask_2 rfl (lv_at hl 2 rfl) ?_
  refine lv_iload_n hx hb dL_ask_3 rfl (lv_at hl 3 rfl) ?_
  refine lv_iload hx hb dL_ask_4 (lv_at hl 4 rfl) ?_
  refine x_cXSI (As := [.ref (xad E 0), .int (iZ 4), .int (iZ a), .int (iZ b), .int (iZ c7)]) (rest := []) hx hb hml hts hown hK hST hOK hH (c_L_asked_4b l E ST hSF hSX htr σ a b c7 B S Y fcw_0 (by omega)) (va_cwS 5 hts (goodIn_t gK_130) rfl rfl rfl (by decide +kernel) ⟨Nat.le_of_ble_eq_true rfl, Nat.le_of_ble_eq_true rfl⟩) rfl hl.1 rfl (Nat.le_of_ble_eq_true rfl) dL_ask_6 ⟨Nat.le_of_ble_eq_true rfl, Nat.le_of_ble_eq_true rfl⟩ ?_ (fun z1 σ2 H locs hp3 hH => ?_)
  · intro nx ce q9 σ2 H locs hp3 hH hce hcv hcl
    obtain ⟨hn, hu⟩ := hp3
    rw [hu] at hH
    obtain ⟨en9, hn⟩ := hn
    subst en9
    refine x_catch hown hts hSX hST [(0, 9, 10, 63)] (0, 9, 16, 65) [(0, 9, 22, 71)] htab (by decide +kernel) (List.forall_mem_cons.mpr ⟨⟨by decide, "java/lang/IndexOutOfBoundsException", (List.mem_cons_of_mem _ (List.mem_append_right _ mW_96)), by decide +kernel, by decide +kernel⟩, (fun _ h => absurd h List.not_mem_nil)⟩) rfl (by decide) (List.mem_cons_of_mem _ (List.mem_append_left _ mX_0)) hce hcv hcl ?_
    refine lv_astore (lv' := [(5, .ref q9), (0, .ref (xad E 0)), (1, .int (iZ 4)), (2, .int (iZ a)), (3, .int (iZ b)), (4, .int (iZ c7))]) hx hb dL_ask_16 hl (by decide) rfl (fun ls hl => ?_)
    refine x_sipush hx hb dL_ask_18 (by decide) ?_
    subst hQ
    exact x_iret hx hb hr hlocks hH (Nat.le_of_ble_eq_true rfl) (Nat.le_of_ble_eq_true rfl) ⟨(show (-2003) = (-2003) from (by first | rfl | exact False.elim (by assumption))), rfl⟩ dL_ask_21
  · obtain ⟨hz4, hu5⟩ := hp3
    rw [hu5] at hH
    subst hQ
    exact x_iret hx hb hr hlocks hH (Nat.le_of_ble_eq_true rfl) (Nat.le_of_ble_eq_true rfl) ⟨(show z1 = (-2003) from (by first | rfl | exact False.elim (by assumption))), rfl⟩ dL_ask_9

def rm_L_ask_5b : Room := { frames := 9, cells := 3, slots := 18, locals := 159 }
set_option maxRecDepth 100000 in
set_option maxHeartbeats 4000000 in
theorem c_L_ask_5b (l : Launch) (E : xE) (ST : xST) (hSF : SF ST) (hSX : SX ST) (htr : l.stackTraces = false) (σ : xW) (a : Int) (b : Int) (c7 : Int) (B : BT) (S : Option BT) (Y : lnQ) (hr0 : cw E σ B S Y) (ha : rg a) (hb9 : rg b) (hc9 : rg c7) (hno : ¬ (0 ≤ c7 ∧ c7 < nwT B)) : CI l E ST yL_ask wML_ask rm_L_ask_5b [.ref (xad E 0), .int (iZ 5), .int (iZ a), .int (iZ b), .int (iZ c7)] σ (fun (z : Int) (u : xW) => z = -2002 ∧ (cw E u B S Y) ∧ ∀ j : Nat, (j < 0 ∨ 0 + 85 ≤ j) → u j = σ j) := by
  have fcw_0 : cw E σ B S Y := hr0
  refine CW_of (by decide) rfl (Nat.le_of_ble_eq_true rfl) ?_
  intro p e s m args below meth c Q ls G hH hl hQ
  obtain ⟨hx, hb, hml, hown, hts, hK, hST, hlocks, hr, htab⟩ := G
  have hOK := hSF.1
  have hown : s.vm.findClass RL = some m.cls := hown
  have hl : lv_has ls 6 [(0, .ref (xad E 0)), (1, .int (iZ 5)), (2, .int (iZ a)), (3, .int (iZ b)), (4, .int (iZ c7))] := hl
  refine lv_aload_n hx hb dL_ask_0 rfl (lv_at hl 0 rfl) ?_
  refine lv_iload_n hx hb dL_ask_1 rfl (lv_at hl 1 rfl) ?_
  refine lv_iload_n hx hb dL_ask_2 rfl (lv_at hl 2 rfl) ?_
  refine lv_iload_n hx hb dL_ask_3 rfl (lv_at hl 3 rfl) ?_
  refine lv_iload hx hb dL_ask_4 (lv_at hl 4 rfl) ?_
  refine x_cXSI (As := [.ref (xad E 0), .int (iZ 5), .int (iZ a), .int (iZ b), .int (iZ c7)]) (rest := []) hx hb hml hts hown hK hST hOK hH (c_L_asked_5b l E ST hSF hSX htr σ a b c7 B S Y fcw_0 (by omega) (by omega) (by omega) (by omega)) (va_cwS 5 hts (goodIn_t gK_130) rfl rfl rfl (by decide +kernel) ⟨Nat.le_of_ble_eq_true rfl, Nat.le_of_ble_eq_true rfl⟩) rfl hl.1 rfl (Nat.le_of_ble_eq_true rfl) dL_ask_6 ⟨Nat.le_of_ble_eq_true rfl, Nat.le_of_ble_eq_true rfl⟩ ?_ (fun z1 σ2 H locs hp3 hH => ?_)
  · intro nx ce q9 σ2 H locs hp3 hH hce hcv hcl
    obtain ⟨hn, fcw_0, fr4⟩ := hp3
    obtain ⟨en9, hn⟩ := hn
    subst en9
    refine x_catch hown hts hSX hST [] (0, 9, 10, 63) [(0, 9, 16, 65), (0, 9, 22, 71)] htab (by decide +kernel) (fun _ h => absurd h List.not_mem_nil) rfl (by decide) (List.mem_cons_of_mem _ (List.mem_append_right _ mW_96)) hce hcv hcl ?_
    refine lv_astore (lv' := [(5, .ref q9), (0, .ref (xad E 0)), (1, .int (iZ 5)), (2, .int (iZ a)), (3, .int (iZ b)), (4, .int (iZ c7))]) hx hb dL_ask_10 hl (by decide) rfl (fun ls hl => ?_)
    refine x_sipush hx hb dL_ask_12 (by decide) ?_
    subst hQ
    exact x_iret hx hb hr hlocks hH (Nat.le_of_ble_eq_true rfl) (Nat.le_of_ble_eq_true rfl) ⟨(show (-2002) = (-2002) from (by first | rfl | exact False.elim (by assumption))), fcw_0, fun j hj0 => (fr4 j (by omega))⟩ dL_ask_15
  · obtain ⟨hz6, fcw_0, fr5⟩ := hp3
    subst hQ
    exact x_iret hx hb hr hlocks hH (Nat.le_of_ble_eq_true rfl) (Nat.le_of_ble_eq_true rfl) ⟨(show z1 = (-2002) from (by first | rfl | exact False.elim (by assumption))), fcw_0, fun j hj0 => (fr5 j (by omega))⟩ dL_ask_9

def rm_L_ask_7b : Room := { frames := 9, cells := 4, slots := 24, locals := 159 }
set_option maxRecDepth 100000 in
set_option maxHeartbeats 4000000 in
theorem c_L_ask_7b (l : Launch) (E : xE) (ST : xST) (hSF : SF ST) (hSX : SX ST) (htr : l.stackTraces = false) (σ : xW) (a : Int) (b : Int) (c7 : Int) (B : BT) (S : Option BT) (Y : lnQ) (hr0 : cw E σ B S Y) (ha : rg a) (hb9 : rg b) (hc9 : rg c7) (hno : ¬ (0 ≤ c7 ∧ c7 < nwT B)) : CI l E ST yL_ask wML_ask rm_L_ask_7b [.ref (xad E 0), .int (iZ 7), .int (iZ a), .int (iZ b), .int (iZ c7)] σ (fun (z : Int) (u : xW) => z = -2002 ∧ (cw E u B S Y) ∧ ∀ j : Nat, (j < 0 ∨ 0 + 85 ≤ j) → u j = σ j) := by
  have fcw_0 : cw E σ B S Y := hr0
  refine CW_of (by decide) rfl (Nat.le_of_ble_eq_true rfl) ?_
  intro p e s m args below meth c Q ls G hH hl hQ
  obtain ⟨hx, hb, hml, hown, hts, hK, hST, hlocks, hr, htab⟩ := G
  have hOK := hSF.1
  have hown : s.vm.findClass RL = some m.cls := hown
  have hl : lv_has ls 6 [(0, .ref (xad E 0)), (1, .int (iZ 7)), (2, .int (iZ a)), (3, .int (iZ b)), (4, .int (iZ c7))] := hl
  refine lv_aload_n hx hb dL_ask_0 rfl (lv_at hl 0 rfl) ?_
  refine lv_iload_n hx hb dL_ask_1 rfl (lv_at hl 1 rfl) ?_
  refine lv_iload_n hx hb dL_ask_2 rfl (lv_at hl 2 rfl) ?_
  refine lv_iload_n hx hb dL_ask_3 rfl (lv_at hl 3 rfl) ?_
  refine lv_iload hx hb dL_ask_4 (lv_at hl 4 rfl) ?_
  refine x_cXSI (As := [.ref (xad E 0), .int (iZ 7), .int (iZ a), .int (iZ b), .int (iZ c7)]) (rest := []) hx hb hml hts hown hK hST hOK hH (c_L_asked_7b l E ST hSF hSX htr σ a b c7 B S Y fcw_0 (by omega) (by omega) (by omega) (by omega)) (va_cwS 5 hts (goodIn_t gK_130) rfl rfl rfl (by decide +kernel) ⟨Nat.le_of_ble_eq_true rfl, Nat.le_of_ble_eq_true rfl⟩) rfl hl.1 rfl (Nat.le_of_ble_eq_true rfl) dL_ask_6 ⟨Nat.le_of_ble_eq_true rfl, Nat.le_of_ble_eq_true rfl⟩ ?_ (fun z1 σ2 H locs hp3 hH => ?_)
  · intro nx ce q9 σ2 H locs hp3 hH hce hcv hcl
    obtain ⟨hn, fcw_0, fr4⟩ := hp3
    obtain ⟨en9, hn⟩ := hn
    subst en9
    refine x_catch hown hts hSX hST [] (0, 9, 10, 63) [(0, 9, 16, 65), (0, 9, 22, 71)] htab (by decide +kernel) (fun _ h => absurd h List.not_mem_nil) rfl (by decide) (List.mem_cons_of_mem _ (List.mem_append_right _ mW_96)) hce hcv hcl ?_
    refine lv_astore (lv' := [(5, .ref q9), (0, .ref (xad E 0)), (1, .int (iZ 7)), (2, .int (iZ a)), (3, .int (iZ b)), (4, .int (iZ c7))]) hx hb dL_ask_10 hl (by decide) rfl (fun ls hl => ?_)
    refine x_sipush hx hb dL_ask_12 (by decide) ?_
    subst hQ
    exact x_iret hx hb hr hlocks hH (Nat.le_of_ble_eq_true rfl) (Nat.le_of_ble_eq_true rfl) ⟨(show (-2002) = (-2002) from (by first | rfl | exact False.elim (by assumption))), fcw_0, fun j hj0 => (fr4 j (by omega))⟩ dL_ask_15
  · obtain ⟨hz6, fcw_0, fr5⟩ := hp3
    subst hQ
    exact x_iret hx hb hr hlocks hH (Nat.le_of_ble_eq_true rfl) (Nat.le_of_ble_eq_true rfl) ⟨(show z1 = (-2002) from (by first | rfl | exact False.elim (by assumption))), fcw_0, fun j hj0 => (fr5 j (by omega))⟩ dL_ask_9

def rm_L_ask_8b : Room := { frames := 9, cells := 2, slots := 12, locals := 160 }
set_option maxRecDepth 100000 in
set_option maxHeartbeats 4000000 in
theorem c_L_ask_8b (l : Launch) (E : xE) (ST : xST) (hSF : SF ST) (hSX : SX ST) (htr : l.stackTraces = false) (σ : xW) (a : Int) (b : Int) (c7 : Int) (B : BT) (S : Option BT) (Y : lnQ) (hr0 : cw E σ B S Y) (ha : rg a) (hb9 : rg b) (hc9 : rg c7) (hno : ¬ (0 ≤ a ∧ a < nwT B)) : CI l E ST yL_ask wML_ask rm_L_ask_8b [.ref (xad E 0), .int (iZ 8), .int (iZ a), .int (iZ b), .int (iZ c7)] σ (fun (z : Int) (u : xW) => z = -2002 ∧ (cw E u B S Y) ∧ ∀ j : Nat, (j < 0 ∨ 0 + 85 ≤ j) → u j = σ j) := by
  have fcw_0 : cw E σ B S Y := hr0
  refine CW_of (by decide) rfl (Nat.le_of_ble_eq_true rfl) ?_
  intro p e s m args below meth c Q ls G hH hl hQ
  obtain ⟨hx, hb, hml, hown, hts, hK, hST, hlocks, hr, htab⟩ := G
  have hOK := hSF.1
  have hown : s.vm.findClass RL = some m.cls := hown
  have hl : lv_has ls 6 [(0, .ref (xad E 0)), (1, .int (iZ 8)), (2, .int (iZ a)), (3, .int (iZ b)), (4, .int (iZ c7))] := hl
  refine lv_aload_n hx hb dL_ask_0 rfl (lv_at hl 0 rfl) ?_
  refine lv_iload_n hx hb dL_ask_1 rfl (lv_at hl 1 rfl) ?_
  refine lv_iload_n hx hb dL_ask_2 rfl (lv_at hl 2 rfl) ?_
  refine lv_iload_n hx hb dL_ask_3 rfl (lv_at hl 3 rfl) ?_
  refine lv_iload hx hb dL_ask_4 (lv_at hl 4 rfl) ?_
  refine x_cXSI (As := [.ref (xad E 0), .int (iZ 8), .int (iZ a), .int (iZ b), .int (iZ c7)]) (rest := []) hx hb hml hts hown hK hST hOK hH (c_L_asked_8b l E ST hSF hSX htr σ a b c7 B S Y fcw_0 (by omega) (by omega) (by omega) (by omega)) (va_cwS 5 hts (goodIn_t gK_130) rfl rfl rfl (by decide +kernel) ⟨Nat.le_of_ble_eq_true rfl, Nat.le_of_ble_eq_true rfl⟩) rfl hl.1 rfl (Nat.le_of_ble_eq_true rfl) dL_ask_6 ⟨Nat.le_of_ble_eq_true rfl, Nat.le_of_ble_eq_true rfl⟩ ?_ (fun z1 σ2 H locs hp3 hH => ?_)
  · intro nx ce q9 σ2 H locs hp3 hH hce hcv hcl
    obtain ⟨hn, fcw_0, fr4⟩ := hp3
    obtain ⟨en9, hn⟩ := hn
    subst en9
    refine x_catch hown hts hSX hST [] (0, 9, 10, 63) [(0, 9, 16, 65), (0, 9, 22, 71)] htab (by decide +kernel) (fun _ h => absurd h List.not_mem_nil) rfl (by decide) (List.mem_cons_of_mem _ (List.mem_append_right _ mW_96)) hce hcv hcl ?_
    refine lv_astore (lv' := [(5, .ref q9), (0, .ref (xad E 0)), (1, .int (iZ 8)), (2, .int (iZ a)), (3, .int (iZ b)), (4, .int (iZ c7))]) hx hb dL_ask_10 hl (by decide) rfl (fun ls hl => ?_)
    refine x_sipush hx hb dL_ask_12 (by decide) ?_
    subst hQ
    exact x_iret hx hb hr hlocks hH (Nat.le_of_ble_eq_true rfl) (Nat.le_of_ble_eq_true rfl) ⟨(show (-2002) = (-2002) from (by first | rfl | exact False.elim (by assumption))), fcw_0, fun j hj0 => (fr4 j (by omega))⟩ dL_ask_15
  · obtain ⟨hz6, fcw_0, fr5⟩ := hp3
    subst hQ
    exact x_iret hx hb hr hlocks hH (Nat.le_of_ble_eq_true rfl) (Nat.le_of_ble_eq_true rfl) ⟨(show z1 = (-2002) from (by first | rfl | exact False.elim (by assumption))), fcw_0, fun j hj0 => (fr5 j (by omega))⟩ dL_ask_9

def rm_L_ask_9b : Room := { frames := 9, cells := 2, slots := 12, locals := 161 }
set_option maxRecDepth 100000 in
set_option maxHeartbeats 4000000 in
theorem c_L_ask_9b (l : Launch) (E : xE) (ST : xST) (hSF : SF ST) (hSX : SX ST) (htr : l.stackTraces = false) (σ : xW) (a : Int) (b : Int) (c7 : Int) (B : BT) (S : Option BT) (Y : lnQ) (hr0 : cw E σ B S Y) (ha : rg a) (hb9 : rg b) (hc9 : rg c7) (hno : ¬ (0 ≤ c7 ∧ c7 < nwT B)) : CI l E ST yL_ask wML_ask rm_L_ask_9b [.ref (xad E 0), .int (iZ 9), .int (iZ a), .int (iZ b), .int (iZ c7)] σ (fun (z : Int) (u : xW) => z = -2002 ∧ (cw E u B S Y) ∧ ∀ j : Nat, (j < 0 ∨ 0 + 85 ≤ j) → u j = σ j) := by
  have fcw_0 : cw E σ B S Y := hr0
  refine CW_of (by decide) rfl (Nat.le_of_ble_eq_true rfl) ?_
  intro p e s m args below meth c Q ls G hH hl hQ
  obtain ⟨hx, hb, hml, hown, hts, hK, hST, hlocks, hr, htab⟩ := G
  have hOK := hSF.1
  have hown : s.vm.findClass RL = some m.cls := hown
  have hl : lv_has ls 6 [(0, .ref (xad E 0)), (1, .int (iZ 9)), (2, .int (iZ a)), (3, .int (iZ b)), (4, .int (iZ c7))] := hl
  refine lv_aload_n hx hb dL_ask_0 rfl (lv_at hl 0 rfl) ?_
  refine lv_iload_n hx hb dL_ask_1 rfl (lv_at hl 1 rfl) ?_
  refine lv_iload_n hx hb dL_ask_2 rfl (lv_at hl 2 rfl) ?_
  refine lv_iload_n hx hb dL_ask_3 rfl (lv_at hl 3 rfl) ?_
  refine lv_iload hx hb dL_ask_4 (lv_at hl 4 rfl) ?_
  refine x_cXSI (As := [.ref (xad E 0), .int (iZ 9), .int (iZ a), .int (iZ b), .int (iZ c7)]) (rest := []) hx hb hml hts hown hK hST hOK hH (c_L_asked_9b l E ST hSF hSX htr σ a b c7 B S Y fcw_0 (by omega) (by omega) (by omega) (by omega)) (va_cwS 5 hts (goodIn_t gK_130) rfl rfl rfl (by decide +kernel) ⟨Nat.le_of_ble_eq_true rfl, Nat.le_of_ble_eq_true rfl⟩) rfl hl.1 rfl (Nat.le_of_ble_eq_true rfl) dL_ask_6 ⟨Nat.le_of_ble_eq_true rfl, Nat.le_of_ble_eq_true rfl⟩ ?_ (fun z1 σ2 H locs hp3 hH => ?_)
  · intro nx ce q9 σ2 H locs hp3 hH hce hcv hcl
    obtain ⟨hn, fcw_0, fr4⟩ := hp3
    obtain ⟨en9, hn⟩ := hn
    subst en9
    refine x_catch hown hts hSX hST [] (0, 9, 10, 63) [(0, 9, 16, 65), (0, 9, 22, 71)] htab (by decide +kernel) (fun _ h => absurd h List.not_mem_nil) rfl (by decide) (List.mem_cons_of_mem _ (List.mem_append_right _ mW_96)) hce hcv hcl ?_
    refine lv_astore (lv' := [(5, .ref q9), (0, .ref (xad E 0)), (1, .int (iZ 9)), (2, .int (iZ a)), (3, .int (iZ b)), (4, .int (iZ c7))]) hx hb dL_ask_10 hl (by decide) rfl (fun ls hl => ?_)
    refine x_sipush hx hb dL_ask_12 (by decide) ?_
    subst hQ
    exact x_iret hx hb hr hlocks hH (Nat.le_of_ble_eq_true rfl) (Nat.le_of_ble_eq_true rfl) ⟨(show (-2002) = (-2002) from (by first | rfl | exact False.elim (by assumption))), fcw_0, fun j hj0 => (fr4 j (by omega))⟩ dL_ask_15
  · obtain ⟨hz6, fcw_0, fr5⟩ := hp3
    subst hQ
    exact x_iret hx hb hr hlocks hH (Nat.le_of_ble_eq_true rfl) (Nat.le_of_ble_eq_true rfl) ⟨(show z1 = (-2002) from (by first | rfl | exact False.elim (by assumption))), fcw_0, fun j hj0 => (fr5 j (by omega))⟩ dL_ask_9

def rm_L_ask_12b : Room := { frames := 9, cells := 1, slots := 6, locals := 156 }
set_option maxRecDepth 100000 in
set_option maxHeartbeats 4000000 in
theorem c_L_ask_12b (l : Launch) (E : xE) (ST : xST) (hSF : SF ST) (hSX : SX ST) (htr : l.stackTraces = false) (σ : xW) (a : Int) (b : Int) (c7 : Int) (B : BT) (S : Option BT) (Y : lnQ) (hr0 : cw E σ B S Y) (ha : rg a) (hb9 : rg b) (hc9 : rg c7) (hno : ¬ (0 ≤ a ∧ a < nwT B)) : CI l E ST yL_ask wML_ask rm_L_ask_12b [.ref (xad E 0), .int (iZ 12), .int (iZ a), .int (iZ b), .int (iZ c7)] σ (fun (z : Int) (u : xW) => z = -2002 ∧ (cw E u B S Y) ∧ ∀ j : Nat, (j < 0 ∨ 0 + 85 ≤ j) → u j = σ j) := by
  have fcw_0 : cw E σ B S Y := hr0
  refine CW_of (by decide) rfl (Nat.le_of_ble_eq_true rfl) ?_
  intro p e s m args below meth c Q ls G hH hl hQ
  obtain ⟨hx, hb, hml, hown, hts, hK, hST, hlocks, hr, htab⟩ := G
  have hOK := hSF.1
  have hown : s.vm.findClass RL = some m.cls := hown
  have hl : lv_has ls 6 [(0, .ref (xad E 0)), (1, .int (iZ 12)), (2, .int (iZ a)), (3, .int (iZ b)), (4, .int (iZ c7))] := hl
  refine lv_aload_n hx hb dL_ask_0 rfl (lv_at hl 0 rfl) ?_
  refine lv_iload_n hx hb dL_ask_1 rfl (lv_at hl 1 rfl) ?_
  refine lv_iload_n hx hb dL_ask_2 rfl (lv_at hl 2 rfl) ?_
  refine lv_iload_n hx hb dL_ask_3 rfl (lv_at hl 3 rfl) ?_
  refine lv_iload hx hb dL_ask_4 (lv_at hl 4 rfl) ?_
  refine x_cXSI (As := [.ref (xad E 0), .int (iZ 12), .int (iZ a), .int (iZ b), .int (iZ c7)]) (rest := []) hx hb hml hts hown hK hST hOK hH (c_L_asked_12b l E ST hSF hSX htr σ a b c7 B S Y fcw_0 (by omega) (by omega) (by omega) (by omega)) (va_cwS 5 hts (goodIn_t gK_130) rfl rfl rfl (by decide +kernel) ⟨Nat.le_of_ble_eq_true rfl, Nat.le_of_ble_eq_true rfl⟩) rfl hl.1 rfl (Nat.le_of_ble_eq_true rfl) dL_ask_6 ⟨Nat.le_of_ble_eq_true rfl, Nat.le_of_ble_eq_true rfl⟩ ?_ (fun z1 σ2 H locs hp3 hH => ?_)
  · intro nx ce q9 σ2 H locs hp3 hH hce hcv hcl
    obtain ⟨hn, fcw_0, fr4⟩ := hp3
    obtain ⟨en9, hn⟩ := hn
    subst en9
    refine x_catch hown hts hSX hST [] (0, 9, 10, 63) [(0, 9, 16, 65), (0, 9, 22, 71)] htab (by decide +kernel) (fun _ h => absurd h List.not_mem_nil) rfl (by decide) (List.mem_cons_of_mem _ (List.mem_append_right _ mW_96)) hce hcv hcl ?_
    refine lv_astore (lv' := [(5, .ref q9), (0, .ref (xad E 0)), (1, .int (iZ 12)), (2, .int (iZ a)), (3, .int (iZ b)), (4, .int (iZ c7))]) hx hb dL_ask_10 hl (by decide) rfl (fun ls hl => ?_)
    refine x_sipush hx hb dL_ask_12 (by decide) ?_
    subst hQ
    exact x_iret hx hb hr hlocks hH (Nat.le_of_ble_eq_true rfl) (Nat.le_of_ble_eq_true rfl) ⟨(show (-2002) = (-2002) from (by first | rfl | exact False.elim (by assumption))), fcw_0, fun j hj0 => (fr4 j (by omega))⟩ dL_ask_15
  · obtain ⟨hz6, fcw_0, fr5⟩ := hp3
    subst hQ
    exact x_iret hx hb hr hlocks hH (Nat.le_of_ble_eq_true rfl) (Nat.le_of_ble_eq_true rfl) ⟨(show z1 = (-2002) from (by first | rfl | exact False.elim (by assumption))), fcw_0, fun j hj0 => (fr5 j (by omega))⟩ dL_ask_9
