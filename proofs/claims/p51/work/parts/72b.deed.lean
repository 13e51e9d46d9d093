def rm_L_deed_0 : Room := { frames := 9, cells := 1, slots := 6, locals := 158 }
set_option maxRecDepth 100000 in
set_option maxHeartbeats 4000000 in
theorem c_L_deed_0 (l : Launch) (E : xE) (ST : xST) (hSF : SF ST) (hSX : SX ST) (htr : l.stackTraces = false) (σ : xW) (a : Int) (b : Int) (c7 : Int) (B : BT) (S : Option BT) (Y : lnQ) (hr0 : cw E σ B S Y) (ha : rg a) (hb9 : rg b) (hc9 : rg c7) : CI l E ST yL_deed wML_deed rm_L_deed_0 [.ref (xad E 0), .int (iZ 0), .int (iZ a), .int (iZ b), .int (iZ c7)] σ (fun (z : Int) (u : xW) => ((0 ≤ z ↔ 0 ≤ (setF (opT B) (lkT B) (kpT B) (wcT B) (pnT B) (nwT B) (shB B) (wkB B) a b c7).1) ∧ rg z) ∧ (cw E u ((setF (opT B) (lkT B) (kpT B) (wcT B) (pnT B) (nwT B) (shB B) (wkB B) a b c7).2) S Y) ∧ ∀ j : Nat, (j < 0 ∨ 0 + 85 ≤ j) → u j = σ j) := by
  have fcw_0 : cw E σ B S Y := hr0
  refine CW_of (by decide) rfl (Nat.le_of_ble_eq_true rfl) ?_
  intro p e s m args below meth c Q ls G hH hl hQ
  obtain ⟨hx, hb, hml, hown, hts, hK, hST, hlocks, hr, htab⟩ := G
  have hOK := hSF.1
  have hown : s.vm.findClass RL = some m.cls := hown
  have hl : lv_has ls 6 [(0, .ref (xad E 0)), (1, .int (iZ 0)), (2, .int (iZ a)), (3, .int (iZ b)), (4, .int (iZ c7))] := hl
  have hfok : FOK B (setF (opT B) (lkT B) (kpT B) (wcT B) (pnT B) (nwT B) (shB B) (wkB B) a b c7) := FOK_set (op := opT B) (lk := lkT B) (kp := kpT B) (wc := wcT B) (pn := pnT B) (nw := nwT B) (sh := shB B) (wk := wkB B) fcw_0.bit
  have hf9 := hfok.2.2.1
  refine lv_aload_n hx hb dL_deed_0 rfl (lv_at hl 0 rfl) ?_
  refine lv_iload_n hx hb dL_deed_1 rfl (lv_at hl 1 rfl) ?_
  refine lv_iload_n hx hb dL_deed_2 rfl (lv_at hl 2 rfl) ?_
  refine lv_iload_n hx hb dL_deed_3 rfl (lv_at hl 3 rfl) ?_
  refine lv_iload hx hb dL_deed_4 (lv_at hl 4 rfl) ?_
  refine x_cXSIE (As := [.ref (xad E 0), .int (iZ 0), .int (iZ a), .int (iZ b), .int (iZ c7)]) (rest := []) hx hb hml hts hown hK hST hOK hH (c_L_plain_0 l E ST hSF hSX htr σ a b c7 B S Y fcw_0 (by omega) (by omega) (by omega)) (va_cwS 5 hts (goodIn_t gK_59) rfl rfl rfl (by decide +kernel) ⟨Nat.le_of_ble_eq_true rfl, Nat.le_of_ble_eq_true rfl⟩) rfl hl.1 rfl (Nat.le_of_ble_eq_true rfl) dL_deed_6 ⟨Nat.le_of_ble_eq_true rfl, Nat.le_of_ble_eq_true rfl⟩ ?_ (fun z u h => h) (fun σ2 H locs hp3 hH => ?_)
  · intro nx ce q9 σ2 H locs hp3 hH hce hcv hcl
    obtain ⟨hn, fcw_0, fr4⟩ := hp3
    rcases hn with ⟨en9, hn⟩ | ⟨en9, hn⟩ | ⟨en9, hn⟩ | ⟨en9, hn⟩ | ⟨en9, hn⟩
    · subst en9
      refine x_catch hown hts hSX hST [] (0, 9, 10, 63) [(0, 9, 16, 65), (0, 9, 22, 67), (0, 9, 28, 69), (0, 9, 34, 71)] htab (by decide +kernel) (fun _ h => absurd h List.not_mem_nil) rfl (by decide) (List.mem_cons_of_mem _ (List.mem_append_right _ mW_96)) hce hcv hcl ?_
      refine lv_astore (lv' := [(5, .ref q9), (0, .ref (xad E 0)), (1, .int (iZ 0)), (2, .int (iZ a)), (3, .int (iZ b)), (4, .int (iZ c7))]) hx hb dL_deed_10 hl (by decide) rfl (fun ls hl => ?_)
      refine x_sipush hx hb dL_deed_12 (by decide) ?_
      subst hQ
      exact x_iret hx hb hr hlocks hH (Nat.le_of_ble_eq_true rfl) (Nat.le_of_ble_eq_true rfl) ⟨(by exact ⟨⟨fun h => absurd h (by decide), fun h => by omega⟩, by decide⟩), (by first | exact fcw_0 | (rw [hfok.2.1 (by omega)]; exact fcw_0)), fun j hj0 => (fr4 j (by omega))⟩ dL_deed_15
    · subst en9
      refine x_catch hown hts hSX hST [(0, 9, 10, 63)] (0, 9, 16, 65) [(0, 9, 22, 67), (0, 9, 28, 69), (0, 9, 34, 71)] htab (by decide +kernel) (List.forall_mem_cons.mpr ⟨⟨by decide, "java/lang/IndexOutOfBoundsException", (List.mem_cons_of_mem _ (List.mem_append_right _ mW_96)), by decide +kernel, by decide +kernel⟩, (fun _ h => absurd h List.not_mem_nil)⟩) rfl (by decide) (List.mem_cons_of_mem _ (List.mem_append_left _ mX_0)) hce hcv hcl ?_
      refine lv_astore (lv' := [(5, .ref q9), (0, .ref (xad E 0)), (1, .int (iZ 0)), (2, .int (iZ a)), (3, .int (iZ b)), (4, .int (iZ c7))]) hx hb dL_deed_16 hl (by decide) rfl (fun ls hl => ?_)
      refine x_sipush hx hb dL_deed_18 (by decide) ?_
      subst hQ
      exact x_iret hx hb hr hlocks hH (Nat.le_of_ble_eq_true rfl) (Nat.le_of_ble_eq_true rfl) ⟨(by exact ⟨⟨fun h => absurd h (by decide), fun h => by omega⟩, by decide⟩), (by first | exact fcw_0 | (rw [hfok.2.1 (by omega)]; exact fcw_0)), fun j hj0 => (fr4 j (by omega))⟩ dL_deed_21
    · subst en9
      refine x_catch hown hts hSX hST [(0, 9, 10, 63), (0, 9, 16, 65)] (0, 9, 22, 67) [(0, 9, 28, 69), (0, 9, 34, 71)] htab (by decide +kernel) (List.forall_mem_cons.mpr ⟨⟨by decide, "java/lang/IndexOutOfBoundsException", (List.mem_cons_of_mem _ (List.mem_append_right _ mW_96)), by decide +kernel, by decide +kernel⟩, (List.forall_mem_cons.mpr ⟨⟨by decide, "java/lang/IllegalArgumentException", (List.mem_cons_of_mem _ (List.mem_append_left _ mX_0)), by decide +kernel, by decide +kernel⟩, (fun _ h => absurd h List.not_mem_nil)⟩)⟩) rfl (by decide) (List.mem_cons_of_mem _ (List.mem_append_left _ mX_1)) hce hcv hcl ?_
      refine lv_astore (lv' := [(5, .ref q9), (0, .ref (xad E 0)), (1, .int (iZ 0)), (2, .int (iZ a)), (3, .int (iZ b)), (4, .int (iZ c7))]) hx hb dL_deed_22 hl (by decide) rfl (fun ls hl => ?_)
      refine x_sipush hx hb dL_deed_24 (by decide) ?_
      subst hQ
      exact x_iret hx hb hr hlocks hH (Nat.le_of_ble_eq_true rfl) (Nat.le_of_ble_eq_true rfl) ⟨(by exact ⟨⟨fun h => absurd h (by decide), fun h => by omega⟩, by decide⟩), (by first | exact fcw_0 | (rw [hfok.2.1 (by omega)]; exact fcw_0)), fun j hj0 => (fr4 j (by omega))⟩ dL_deed_27
    · subst en9
      refine x_catch hown hts hSX hST [(0, 9, 10, 63), (0, 9, 16, 65), (0, 9, 22, 67)] (0, 9, 28, 69) [(0, 9, 34, 71)] htab (by decide +kernel) (List.forall_mem_cons.mpr ⟨⟨by decide, "java/lang/IndexOutOfBoundsException", (List.mem_cons_of_mem _ (List.mem_append_right _ mW_96)), by decide +kernel, by decide +kernel⟩, (List.forall_mem_cons.mpr ⟨⟨by decide, "java/lang/IllegalArgumentException", (List.mem_cons_of_mem _ (List.mem_append_left _ mX_0)), by decide +kernel, by decide +kernel⟩, (List.forall_mem_cons.mpr ⟨⟨by decide, "java/lang/IllegalStateException", (List.mem_cons_of_mem _ (List.mem_append_left _ mX_1)), by decide +kernel, by decide +kernel⟩, (fun _ h => absurd h List.not_mem_nil)⟩)⟩)⟩) rfl (by decide) (List.mem_cons_of_mem _ (List.mem_append_left _ mX_2)) hce hcv hcl ?_
      refine lv_astore (lv' := [(5, .ref q9), (0, .ref (xad E 0)), (1, .int (iZ 0)), (2, .int (iZ a)), (3, .int (iZ b)), (4, .int (iZ c7))]) hx hb dL_deed_28 hl (by decide) rfl (fun ls hl => ?_)
      refine x_sipush hx hb dL_deed_30 (by decide) ?_
      subst hQ
      exact x_iret hx hb hr hlocks hH (Nat.le_of_ble_eq_true rfl) (Nat.le_of_ble_eq_true rfl) ⟨(by exact ⟨⟨fun h => absurd h (by decide), fun h => by omega⟩, by decide⟩), (by first | exact fcw_0 | (rw [hfok.2.1 (by omega)]; exact fcw_0)), fun j hj0 => (fr4 j (by omega))⟩ dL_deed_33
    · subst en9
      refine x_catch hown hts hSX hST [(0, 9, 10, 63), (0, 9, 16, 65), (0, 9, 22, 67), (0, 9, 28, 69)] (0, 9, 34, 71) [] htab (by decide +kernel) (List.forall_mem_cons.mpr ⟨⟨by decide, "java/lang/IndexOutOfBoundsException", (List.mem_cons_of_mem _ (List.mem_append_right _ mW_96)), by decide +kernel, by decide +kernel⟩, (List.forall_mem_cons.mpr ⟨⟨by decide, "java/lang/IllegalArgumentException", (List.mem_cons_of_mem _ (List.mem_append_left _ mX_0)), by decide +kernel, by decide +kernel⟩, (List.forall_mem_cons.mpr ⟨⟨by decide, "java/lang/IllegalStateException", (List.mem_cons_of_mem _ (List.mem_append_left _ mX_1)), by decide +kernel, by decide +kernel⟩, (List.forall_mem_cons.mpr ⟨⟨by decide, "java/lang/UnsupportedOperationException", (List.mem_cons_of_mem _ (List.mem_append_left _ mX_2)), by decide +kernel, by decide +kernel⟩, (fun _ h => absurd h List.not_mem_nil)⟩)⟩)⟩)⟩) rfl (by decide) (List.mem_cons_of_mem _ (List.mem_append_left _ mX_3)) hce hcv hcl ?_
      refine lv_astore (lv' := [(5, .ref q9), (0, .ref (xad E 0)), (1, .int (iZ 0)), (2, .int (iZ a)), (3, .int (iZ b)), (4, .int (iZ c7))]) hx hb dL_deed_34 hl (by decide) rfl (fun ls hl => ?_)
      refine x_sipush hx hb dL_deed_36 (by decide) ?_
      subst hQ
      exact x_iret hx hb hr hlocks hH (Nat.le_of_ble_eq_true rfl) (Nat.le_of_ble_eq_true rfl) ⟨(by exact ⟨⟨fun h => absurd h (by decide), fun h => by omega⟩, by decide⟩), (by first | exact fcw_0 | (rw [hfok.2.1 (by omega)]; exact fcw_0)), fun j hj0 => (fr4 j (by omega))⟩ dL_deed_39
  · obtain ⟨⟨fcw_0, hf6⟩, fr5⟩ := hp3
    subst hQ
    exact x_iret hx hb hr hlocks hH (Nat.le_of_ble_eq_true rfl) (Nat.le_of_ble_eq_true rfl) ⟨(by omega), fcw_0, fun j hj0 => (fr5 j (by omega))⟩ dL_deed_9
