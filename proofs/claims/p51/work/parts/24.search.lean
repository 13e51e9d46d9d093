def rm_X5_findPaths : Room := { frames := 2, cells := 0, slots := 0, locals := 46 }
set_option maxRecDepth 100000 in
set_option maxHeartbeats 4000000 in
theorem c_X5_findPaths (l : Launch) (E : xE) (ST : xST) (hSF : SF ST) (σ : xW) (b : Nat) (w : Int) (op : Int → Int) (lk : Int → Int) (kp : Int → Int) (wc : Int → Int) (pn : Int) (nw : Int) (sh : Int) (wk : Int) (le : Int → Int) (rl : Int → Int) (fs : Int → Int) (qu : Int → Int) (gr : Int → Int) (hr0 : bd E σ b op lk kp wc pn nw sh wk) (hr1 : sr E σ le rl fs qu gr) (hB : BI op lk kp wc pn nw) (hw : 0 ≤ w ∧ w < nw) (hbs : b + 6 ≤ 75) : CV l E ST yX5_findPaths wsX5_findPaths rm_X5_findPaths [.ref (xad E 75), .ref (xad E b), .int (iZ w)] σ (fun (u : xW) => (∃ (fs1 qu1 : Int → Int), sr E u (dz (Gw op lk kp w) (wc w)) rl fs1 qu1 gr ∧ (isF (Gw op lk kp w) (wc w) (dz (Gw op lk kp w) (wc w)) fs1)) ∧ ∀ j : Nat, j ≠ 76 → j ≠ 78 → j ≠ 79 → u j = σ j) := by
  obtain ⟨fb_0, fb_1, fb_2, fb_3, fb_4, ro0, fb_5⟩ := hr0
  obtain ⟨f75, f76, f77, f78, f79, f80⟩ := hr1
  refine CV_of (by decide) rfl (Nat.le_of_ble_eq_true rfl) ?_
  intro p e s m args below meth c Q ls G hH hl hQ
  obtain ⟨hx, hb, hml, hown, hts, hK, hST, hlocks, hr, hno⟩ := G
  have hOK := hSF.1
  have hown : s.vm.findClass RX5 = some m.cls := hown
  have hl : lv_has ls 9 [(0, .ref (xad E 75)), (1, .ref (xad E b)), (2, .int (iZ w))] := hl
  have hinX1 : ∀ w ∈ u_ws RX1 TX1 9, w ∈ wsX5_findPaths := fun w h => (List.mem_cons_of_mem _ (List.mem_append_left _ (List.mem_append_right _ h)))
  have hinX5 : ∀ w ∈ u_ws RX5 TX5 5, w ∈ wsX5_findPaths := fun w h => (List.mem_cons_of_mem _ (List.mem_append_right _ h))
  obtain ⟨hop, hlk, hkp, hwc, hpn, hnw⟩ := id hB
  have hst := hwc w
  have hG : gOK (Gw op lk kp w) := Gw_ok
  refine lv_aload_n hx hb dX5_findPaths_0 rfl (lv_at hl 1 rfl) ?_
  refine x_get hx hb hts hown hK hH b (by omega) fb_0 hinX1 rfl 3 (by decide) (List.mem_of_getElem? (i := 1) rfl) rfl dX5_findPaths_1 ?_
  refine lv_iload_n hx hb dX5_findPaths_4 rfl (lv_at hl 2 rfl) ?_
  refine x_iald hx hb hK hH (b + 4) (by omega) fb_4 (by omega) (by omega) (by omega) dX5_findPaths_5 ?_
  have hv1 := hwc w
  refine lv_istore_n (lv' := [(3, .int (iZ (wc w))), (0, .ref (xad E 75)), (1, .ref (xad E b)), (2, .int (iZ w))]) hx hb dX5_findPaths_6 rfl hl (by decide) rfl (fun ls hl => ?_)
  refine lv_aload_n hx hb dX5_findPaths_7 rfl (lv_at hl 1 rfl) ?_
  refine x_get hx hb hts hown hK hH 75 (ltw (by decide)) f75 hinX5 rfl 0 (by decide) (List.mem_of_getElem? (i := 2) rfl) rfl dX5_findPaths_8 ?_
  refine x_bipush hx hb dX5_findPaths_11 (by decide) ?_
  refine x_cSV (As := [.ref (xad E 76), .int (iZ 25)]) (rest := []) hx hb hml hts hown hK hST hOK hH (c_J7_fill_53178 l E ST hSF σ 76 25 25 le f76 (by omega) (by omega)) (va_cwS 2 hts gX5_findPaths_J7_fill_53178 rfl rfl rfl (by decide +kernel) ⟨Nat.le_of_ble_eq_true rfl, Nat.le_of_ble_eq_true rfl⟩) rfl hl.1 rfl (Nat.le_of_ble_eq_true rfl) dX5_findPaths_13 ⟨Nat.le_of_ble_eq_true rfl, Nat.le_of_ble_eq_true rfl⟩ (fun σ3 H locs hp4 hH => ?_)
  obtain ⟨f76, fr5⟩ := hp4
  have fb_0 : σ3 b = oB 0 [.ref (xad E (b + 1)), .ref (xad E (b + 2)), .ref (xad E (b + 3)), .ref (xad E (b + 4)), .ref (xad E (b + 5)), .int (iZ pn), .int (iZ nw), .int (iZ sh), .long (lZ wk)] := (fr5 b (by omega)).trans fb_0
  have fb_1 : σ3 (b + 1) = aI E 25 op := (fr5 (b + 1) (by omega)).trans fb_1
  have fb_2 : σ3 (b + 2) = aI E 25 lk := (fr5 (b + 2) (by omega)).trans fb_2
  have fb_3 : σ3 (b + 3) = aI E 6 kp := (fr5 (b + 3) (by omega)).trans fb_3
  have fb_4 : σ3 (b + 4) = aI E 3 wc := (fr5 (b + 4) (by omega)).trans fb_4
  have fb_5 : σ3 (b + 5) = aI E 5 ro0 := (fr5 (b + 5) (by omega)).trans fb_5
  have f75 : σ3 75 = oB 3 [.ref (xad E 76), .ref (xad E 77), .ref (xad E 78), .ref (xad E 79), .ref (xad E 80)] := (fr5 75 (by omega)).trans f75
  have f77 : σ3 77 = aI E 25 rl := (fr5 77 (by omega)).trans f77
  have f78 : σ3 78 = aI E 25 fs := (fr5 78 (by omega)).trans f78
  have f79 : σ3 79 = aI E 25 qu := (fr5 79 (by omega)).trans f79
  have f80 : σ3 80 = aI E 25 gr := (fr5 80 (by omega)).trans f80
  refine lv_aload_n hx hb dX5_findPaths_16 rfl (lv_at hl 1 rfl) ?_
  refine x_get hx hb hts hown hK hH 75 (ltw (by decide)) f75 hinX5 rfl 0 (by decide) (List.mem_of_getElem? (i := 2) rfl) rfl dX5_findPaths_17 ?_
  refine lv_iload_n hx hb dX5_findPaths_20 rfl (lv_at hl 0 rfl) ?_
  refine x_iconst hx hb dX5_findPaths_21 ?_
  refine x_iast hx hb hK hH 76 (ltw (by decide)) f76 (by omega) (by omega) (by omega) dX5_findPaths_22 (fun σ7 H locs f76 fr8 hH => ?_)
  have fb_0 : σ7 b = oB 0 [.ref (xad E (b + 1)), .ref (xad E (b + 2)), .ref (xad E (b + 3)), .ref (xad E (b + 4)), .ref (xad E (b + 5)), .int (iZ pn), .int (iZ nw), .int (iZ sh), .long (lZ wk)] := (fr8 b (by omega)).trans fb_0
  have fb_1 : σ7 (b + 1) = aI E 25 op := (fr8 (b + 1) (by omega)).trans fb_1
  have fb_2 : σ7 (b + 2) = aI E 25 lk := (fr8 (b + 2) (by omega)).trans fb_2
  have fb_3 : σ7 (b + 3) = aI E 6 kp := (fr8 (b + 3) (by omega)).trans fb_3
  have fb_4 : σ7 (b + 4) = aI E 3 wc := (fr8 (b + 4) (by omega)).trans fb_4
  have fb_5 : σ7 (b + 5) = aI E 5 ro0 := (fr8 (b + 5) (by omega)).trans fb_5
  have f75 : σ7 75 = oB 3 [.ref (xad E 76), .ref (xad E 77), .ref (xad E 78), .ref (xad E 79), .ref (xad E 80)] := (fr8 75 (by omega)).trans f75
  have f77 : σ7 77 = aI E 25 rl := (fr8 77 (by omega)).trans f77
  have f78 : σ7 78 = aI E 25 fs := (fr8 78 (by omega)).trans f78
  have f79 : σ7 79 = aI E 25 qu := (fr8 79 (by omega)).trans f79
  have f80 : σ7 80 = aI E 25 gr := (fr8 80 (by omega)).trans f80
  refine lv_aload_n hx hb dX5_findPaths_23 rfl (lv_at hl 1 rfl) ?_
  refine x_get hx hb hts hown hK hH 75 (ltw (by decide)) f75 hinX5 rfl 3 (by decide) (List.mem_of_getElem? (i := 3) rfl) rfl dX5_findPaths_24 ?_
  refine x_iconst hx hb dX5_findPaths_27 ?_
  refine lv_iload_n hx hb dX5_findPaths_28 rfl (lv_at hl 0 rfl) ?_
  refine x_iast hx hb hK hH 79 (ltw (by decide)) f79 (by omega) (by omega) (by omega) dX5_findPaths_29 (fun σ9 H locs f79 fr10 hH => ?_)
  have fb_0 : σ9 b = oB 0 [.ref (xad E (b + 1)), .ref (xad E (b + 2)), .ref (xad E (b + 3)), .ref (xad E (b + 4)), .ref (xad E (b + 5)), .int (iZ pn), .int (iZ nw), .int (iZ sh), .long (lZ wk)] := (fr10 b (by omega)).trans fb_0
  have fb_1 : σ9 (b + 1) = aI E 25 op := (fr10 (b + 1) (by omega)).trans fb_1
  have fb_2 : σ9 (b + 2) = aI E 25 lk := (fr10 (b + 2) (by omega)).trans fb_2
  have fb_3 : σ9 (b + 3) = aI E 6 kp := (fr10 (b + 3) (by omega)).trans fb_3
  have fb_4 : σ9 (b + 4) = aI E 3 wc := (fr10 (b + 4) (by omega)).trans fb_4
  have fb_5 : σ9 (b + 5) = aI E 5 ro0 := (fr10 (b + 5) (by omega)).trans fb_5
  have f75 : σ9 75 = oB 3 [.ref (xad E 76), .ref (xad E 77), .ref (xad E 78), .ref (xad E 79), .ref (xad E 80)] := (fr10 75 (by omega)).trans f75
  have f76 : σ9 76 = aI E 25 (ui (fun _ => 25) (wc w) 0) := (fr10 76 (by omega)).trans f76
  have f77 : σ9 77 = aI E 25 rl := (fr10 77 (by omega)).trans f77
  have f78 : σ9 78 = aI E 25 fs := (fr10 78 (by omega)).trans f78
  have f80 : σ9 80 = aI E 25 gr := (fr10 80 (by omega)).trans f80
  refine x_iconst hx hb dX5_findPaths_30 ?_
  refine lv_istore (lv' := [(4, .int (iZ 1)), (3, .int (iZ (wc w))), (0, .ref (xad E 75)), (1, .ref (xad E b)), (2, .int (iZ w))]) hx hb dX5_findPaths_31 hl (by decide) rfl (fun ls hl => ?_)
  refine x_iconst hx hb dX5_findPaths_33 ?_
  refine lv_istore (lv' := [(5, .int (iZ 0)), (4, .int (iZ 1)), (3, .int (iZ (wc w))), (0, .ref (xad E 75)), (1, .ref (xad E b)), (2, .int (iZ w))]) hx hb dX5_findPaths_34 hl (by decide) rfl (fun ls hl => ?_)
  have K36 : ∀ (nK : Nat) (fo h : Int) (L F q : Int → Int) (σ11 : xW) (H : Heap) (locs : List Loc) (ls : Array Slot), (25 - h).toNat < nK → (fo ≤ 25 ∧ 0 ≤ h ∧ h ≤ fo ∧ 1 ≤ fo) → (bfI (Gw op lk kp w) (wc w) h 0 L F q fo) → (∀ c, 0 ≤ L c ∧ L c ≤ 25) → σ11 b = oB 0 [.ref (xad E (b + 1)), .ref (xad E (b + 2)), .ref (xad E (b + 3)), .ref (xad E (b + 4)), .ref (xad E (b + 5)), .int (iZ pn), .int (iZ nw), .int (iZ sh), .long (lZ wk)] → σ11 (b + 1) = aI E 25 op → σ11 (b + 2) = aI E 25 lk → σ11 (b + 3) = aI E 6 kp → σ11 (b + 4) = aI E 3 wc → σ11 (b + 5) = aI E 5 ro0 → σ11 75 = oB 3 [.ref (xad E 76), .ref (xad E 77), .ref (xad E 78), .ref (xad E 79), .ref (xad E 80)] → σ11 76 = aI E 25 L → σ11 77 = aI E 25 rl → σ11 78 = aI E 25 F → σ11 79 = aI E 25 q → σ11 80 = aI E 25 gr → (∀ j : Nat, j ≠ 76 → j ≠ 78 → j ≠ 79 → σ11 j = σ9 j) → Hx E (xA E s.heap.size) s.heap σ11 H locs → lv_has ls 9 [(5, .int (iZ h)), (4, .int (iZ fo)), (3, .int (iZ (wc w))), (0, .ref (xad E 75)), (1, .ref (xad E b)), (2, .int (iZ w))] → W p l e rm_X5_findPaths s m args below meth c H locs 0 0 Q (F0 m 36 ls []) := by
    intro n36
    induction n36 with
    | zero =>
      intro fo h L F q σ11 H locs ls hm
      exact absurd hm (by first | exact Nat.not_lt_zero _ | omega)
    | succ n36 ih36 =>
      intro fo h L F q σ11 H locs ls hm36 hfo hI hLr fb_0 fb_1 fb_2 fb_3 fb_4 fb_5 f75 f76 f77 f78 f79 f80 fr12 hH hl
      refine lv_iload hx hb dX5_findPaths_36 (lv_at hl 0 rfl) ?_
      refine lv_iload hx hb dX5_findPaths_38 (lv_at hl 1 rfl) ?_
      refine x_icmp_ge (tgt := 171) hx hb dX5_findPaths_40 (by decide) (by omega) (by omega) (fun c40 => ?_) (fun c40 => ?_)
      · have hE := bfI_end (by have e : h = fo := (by omega); rw [e] at hI; exact hI) hG hst
        obtain ⟨σ13, f76, fr14, hH⟩ := x_normE (g := (dz (Gw op lk kp w) (wc w))) 76 (ltw (by decide)) f76 (by intro c h0 h1; exact dz_of hE.1 h0 (by omega)) hH
        have fb_0 : σ13 b = oB 0 [.ref (xad E (b + 1)), .ref (xad E (b + 2)), .ref (xad E (b + 3)), .ref (xad E (b + 4)), .ref (xad E (b + 5)), .int (iZ pn), .int (iZ nw), .int (iZ sh), .long (lZ wk)] := (fr14 b (by omega)).trans fb_0
        have fb_1 : σ13 (b + 1) = aI E 25 op := (fr14 (b + 1) (by omega)).trans fb_1
        have fb_2 : σ13 (b + 2) = aI E 25 lk := (fr14 (b + 2) (by omega)).trans fb_2
        have fb_3 : σ13 (b + 3) = aI E 6 kp := (fr14 (b + 3) (by omega)).trans fb_3
        have fb_4 : σ13 (b + 4) = aI E 3 wc := (fr14 (b + 4) (by omega)).trans fb_4
        have fb_5 : σ13 (b + 5) = aI E 5 ro0 := (fr14 (b + 5) (by omega)).trans fb_5
        have f75 : σ13 75 = oB 3 [.ref (xad E 76), .ref (xad E 77), .ref (xad E 78), .ref (xad E 79), .ref (xad E 80)] := (fr14 75 (by omega)).trans f75
        have f77 : σ13 77 = aI E 25 rl := (fr14 77 (by omega)).trans f77
        have f78 : σ13 78 = aI E 25 F := (fr14 78 (by omega)).trans f78
        have f79 : σ13 79 = aI E 25 q := (fr14 79 (by omega)).trans f79
        have f80 : σ13 80 = aI E 25 gr := (fr14 80 (by omega)).trans f80
        subst hQ
        exact x_vret hx hb hr hlocks hH (Nat.le_of_ble_eq_true rfl) (Nat.le_of_ble_eq_true rfl) ⟨⟨F, q, ⟨f75, f76, f77, f78, f79, f80⟩, (by exact isF_dz hE.1 hE.2)⟩, fun j hj0 hj1 hj2 => ((fr14 j (by omega)).trans ((fr12 j (by omega) (by omega) (by omega)).trans ((fr10 j (by omega)).trans ((fr8 j (by omega)).trans (fr5 j (by omega))))))⟩ dX5_findPaths_171
      · refine lv_iload hx hb dX5_findPaths_43 (lv_at hl 0 rfl) ?_
        refine x_bipush hx hb dX5_findPaths_45 (by decide) ?_
        refine x_icmp_ge (tgt := 171) hx hb dX5_findPaths_47 (by decide) (by omega) (by decide) (fun c47 => ?_) (fun c47 => ?_)
        · have hE := bfI_end (by have e : h = fo := (by omega); rw [e] at hI; exact hI) hG hst
          obtain ⟨σ15, f76, fr16, hH⟩ := x_normE (g := (dz (Gw op lk kp w) (wc w))) 76 (ltw (by decide)) f76 (by intro c h0 h1; exact dz_of hE.1 h0 (by omega)) hH
          have fb_0 : σ15 b = oB 0 [.ref (xad E (b + 1)), .ref (xad E (b + 2)), .ref (xad E (b + 3)), .ref (xad E (b + 4)), .ref (xad E (b + 5)), .int (iZ pn), .int (iZ nw), .int (iZ sh), .long (lZ wk)] := (fr16 b (by omega)).trans fb_0
          have fb_1 : σ15 (b + 1) = aI E 25 op := (fr16 (b + 1) (by omega)).trans fb_1
          have fb_2 : σ15 (b + 2) = aI E 25 lk := (fr16 (b + 2) (by omega)).trans fb_2
          have fb_3 : σ15 (b + 3) = aI E 6 kp := (fr16 (b + 3) (by omega)).trans fb_3
          have fb_4 : σ15 (b + 4) = aI E 3 wc := (fr16 (b + 4) (by omega)).trans fb_4
          have fb_5 : σ15 (b + 5) = aI E 5 ro0 := (fr16 (b + 5) (by omega)).trans fb_5
          have f75 : σ15 75 = oB 3 [.ref (xad E 76), .ref (xad E 77), .ref (xad E 78), .ref (xad E 79), .ref (xad E 80)] := (fr16 75 (by omega)).trans f75
          have f77 : σ15 77 = aI E 25 rl := (fr16 77 (by omega)).trans f77
          have f78 : σ15 78 = aI E 25 F := (fr16 78 (by omega)).trans f78
          have f79 : σ15 79 = aI E 25 q := (fr16 79 (by omega)).trans f79
          have f80 : σ15 80 = aI E 25 gr := (fr16 80 (by omega)).trans f80
          subst hQ
          exact x_vret hx hb hr hlocks hH (Nat.le_of_ble_eq_true rfl) (Nat.le_of_ble_eq_true rfl) ⟨⟨F, q, ⟨f75, f76, f77, f78, f79, f80⟩, (by exact isF_dz hE.1 hE.2)⟩, fun j hj0 hj1 hj2 => ((fr16 j (by omega)).trans ((fr12 j (by omega) (by omega) (by omega)).trans ((fr10 j (by omega)).trans ((fr8 j (by omega)).trans (fr5 j (by omega))))))⟩ dX5_findPaths_171
        · obtain ⟨-, -, -, dq0, -⟩ := id hI
          have dq := dq0 h (by omega) (by omega)
          refine lv_aload_n hx hb dX5_findPaths_50 rfl (lv_at hl 3 rfl) ?_
          refine x_get hx hb hts hown hK hH 75 (ltw (by decide)) f75 hinX5 rfl 3 (by decide) (List.mem_of_getElem? (i := 3) rfl) rfl dX5_findPaths_51 ?_
          refine lv_iload hx hb dX5_findPaths_54 (lv_at hl 0 rfl) ?_
          refine x_iald hx hb hK hH 79 (ltw (by decide)) f79 (by omega) (by omega) (by omega) dX5_findPaths_56 ?_
          refine lv_istore (lv' := [(6, .int (iZ (q h))), (5, .int (iZ h)), (4, .int (iZ fo)), (3, .int (iZ (wc w))), (0, .ref (xad E 75)), (1, .ref (xad E b)), (2, .int (iZ w))]) hx hb dX5_findPaths_57 hl (by decide) rfl (fun ls hl => ?_)
          refine x_iconst hx hb dX5_findPaths_59 ?_
          refine lv_istore (lv' := [(7, .int (iZ 0)), (6, .int (iZ (q h))), (5, .int (iZ h)), (4, .int (iZ fo)), (3, .int (iZ (wc w))), (0, .ref (xad E 75)), (1, .ref (xad E b)), (2, .int (iZ w))]) hx hb dX5_findPaths_60 hl (by decide) rfl (fun ls hl => ?_)
          have K62 : ∀ (nK : Nat) (fo2 dd : Int) (L2 F2 q2 : Int → Int) (σ17 : xW) (H : Heap) (locs : List Loc) (ls : Array Slot), (4 - dd).toNat < nK → ((0 ≤ dd ∧ dd ≤ 4) ∧ fo2 ≤ 25 ∧ h < fo2) → (bfI (Gw op lk kp w) (wc w) h dd L2 F2 q2 fo2) → (∀ c, 0 ≤ L2 c ∧ L2 c ≤ 25) → (q2 h = q h) → σ17 b = oB 0 [.ref (xad E (b + 1)), .ref (xad E (b + 2)), .ref (xad E (b + 3)), .ref (xad E (b + 4)), .ref (xad E (b + 5)), .int (iZ pn), .int (iZ nw), .int (iZ sh), .long (lZ wk)] → σ17 (b + 1) = aI E 25 op → σ17 (b + 2) = aI E 25 lk → σ17 (b + 3) = aI E 6 kp → σ17 (b + 4) = aI E 3 wc → σ17 (b + 5) = aI E 5 ro0 → σ17 75 = oB 3 [.ref (xad E 76), .ref (xad E 77), .ref (xad E 78), .ref (xad E 79), .ref (xad E 80)] → σ17 76 = aI E 25 L2 → σ17 77 = aI E 25 rl → σ17 78 = aI E 25 F2 → σ17 79 = aI E 25 q2 → σ17 80 = aI E 25 gr → (∀ j : Nat, j ≠ 76 → j ≠ 78 → j ≠ 79 → σ17 j = σ11 j) → Hx E (xA E s.heap.size) s.heap σ17 H locs → lv_has ls 9 [(7, .int (iZ dd)), (6, .int (iZ (q h))), (5, .int (iZ h)), (4, .int (iZ fo2)), (3, .int (iZ (wc w))), (0, .ref (xad E 75)), (1, .ref (xad E b)), (2, .int (iZ w))] → W p l e rm_X5_findPaths s m args below meth c H locs 0 0 Q (F0 m 62 ls []) := by
            intro n62
            induction n62 with
            | zero =>
              intro fo2 dd L2 F2 q2 σ17 H locs ls hm
              exact absurd hm (by first | exact Nat.not_lt_zero _ | omega)
            | succ n62 ih62 =>
              intro fo2 dd L2 F2 q2 σ17 H locs ls hm62 hdd hI2 hLr2 hq2 fb_0 fb_1 fb_2 fb_3 fb_4 fb_5 f75 f76 f77 f78 f79 f80 fr18 hH hl
              refine lv_iload hx hb dX5_findPaths_62 (lv_at hl 0 rfl) ?_
              refine x_iconst hx hb dX5_findPaths_64 ?_
              refine x_icmp_ge (tgt := 165) hx hb dX5_findPaths_65 (by decide) (by omega) (by decide) (fun c65 => ?_) (fun c65 => ?_)
              · refine x_iinc (lv' := [(5, .int (iZ (h + 1))), (7, .int (iZ dd)), (6, .int (iZ (q h))), (4, .int (iZ fo2)), (3, .int (iZ (wc w))), (0, .ref (xad E 75)), (1, .ref (xad E b)), (2, .int (iZ w))]) hx hb dX5_findPaths_165 hl (k := 2) rfl (by decide) rfl (fun ls hl => ?_)
                refine lv_goto (tgt := 36) hx hb dX5_findPaths_168 (by decide) ?_
                exact ih36 fo2 (h + 1) L2 F2 q2 σ17 _ _ _ (by omega) (by first | omega | rfl | assumption | simp_all) (by have e : dd = 4 := (by omega); subst e; exact bfI_next hI2) (by exact hLr2) fb_0 fb_1 fb_2 fb_3 fb_4 fb_5 f75 f76 f77 f78 f79 f80 (fun j hj0 hj1 hj2 => ((fr18 j (by omega) (by omega) (by omega)).trans (fr12 j (by omega) (by omega) (by omega)))) hH (lv_sub hl [0, 3, 4, 5, 6, 7] rfl)
              · have hcr := cnZ_rg (op := op) (c := q h) (d := dd) (by omega) (by omega)
                refine lv_aload_n hx hb dX5_findPaths_68 rfl (lv_at hl 6 rfl) ?_
                refine lv_iload hx hb dX5_findPaths_69 (lv_at hl 1 rfl) ?_
                refine lv_iload hx hb dX5_findPaths_71 (lv_at hl 0 rfl) ?_
                refine x_cVID (As := [.int (iZ (q h)), .int (iZ dd)]) (rest := []) hx hb hml hts hown hK hST hOK hH b (c_X1_connectedNeighbour l E ST hSF σ17 b (q h) dd op lk kp wc pn nw sh wk ⟨fb_0, fb_1, fb_2, fb_3, fb_4, _, fb_5⟩ (by omega) (by omega) (by omega) (by omega)) (cwV 2 hts gX5_findPaths_X1_connectedNeighbour rfl rfl rfl (by decide +kernel) ⟨Nat.le_of_ble_eq_true rfl, Nat.le_of_ble_eq_true rfl⟩) (by omega) fb_0 rfl rfl hl.1 rfl (Nat.le_of_ble_eq_true rfl) dX5_findPaths_73 ⟨Nat.le_of_ble_eq_true rfl, Nat.le_of_ble_eq_true rfl⟩ (fun z u h => h) (fun H locs hH => ?_)
                refine lv_istore (lv' := [(8, .int (iZ (cnZ op (q h) dd))), (7, .int (iZ dd)), (6, .int (iZ (q h))), (5, .int (iZ h)), (4, .int (iZ fo2)), (3, .int (iZ (wc w))), (0, .ref (xad E 75)), (1, .ref (xad E b)), (2, .int (iZ w))]) hx hb dX5_findPaths_76 hl (by decide) rfl (fun ls hl => ?_)
                refine lv_iload hx hb dX5_findPaths_78 (lv_at hl 0 rfl) ?_
                refine x_iconst hx hb dX5_findPaths_80 ?_
                refine x_icmp_eq (tgt := 159) hx hb dX5_findPaths_81 (by decide) (by omega) (by decide) (fun c81 => ?_) (fun c81 => ?_)
                · refine x_iinc (lv' := [(7, .int (iZ (dd + 1))), (8, .int (iZ (cnZ op (q h) dd))), (6, .int (iZ (q h))), (5, .int (iZ h)), (4, .int (iZ fo2)), (3, .int (iZ (wc w))), (0, .ref (xad E 75)), (1, .ref (xad E b)), (2, .int (iZ w))]) hx hb dX5_findPaths_159 hl (k := 1) rfl (by decide) rfl (fun ls hl => ?_)
                  refine lv_goto (tgt := 62) hx hb dX5_findPaths_162 (by decide) ?_
                  exact ih62 fo2 (dd + 1) L2 F2 q2 σ17 _ _ _ (by omega) (by omega) (by first | (refine bfI_same hI2 (by omega) (by omega) (fun hg => ?_) hG; rw [hq2] at hg ⊢; revert hg; unfold Gw; (repeat' split) <;> simp_all; done) | (rw [hq2] at hadd2; first | (rw [if_pos c131] at hadd2; exact hadd2) | (rw [if_neg c131] at hadd2; exact hadd2))) (by first | exact hLr2 | (intro c; unfold ui; split; (have := hlq; omega); (exact hLr2 c))) (by first | exact hq2 | (rw [ui_n (by omega)]; exact hq2)) fb_0 fb_1 fb_2 fb_3 fb_4 fb_5 f75 f76 f77 f78 f79 f80 (fun j hj0 hj1 hj2 => (fr18 j (by omega) (by omega) (by omega))) hH (lv_sub hl [0, 2, 3, 4, 5, 6, 7, 8] rfl)
                · refine lv_aload_n hx hb dX5_findPaths_84 rfl (lv_at hl 6 rfl) ?_
                  refine x_get hx hb hts hown hK hH 75 (ltw (by decide)) f75 hinX5 rfl 0 (by decide) (List.mem_of_getElem? (i := 2) rfl) rfl dX5_findPaths_85 ?_
                  refine lv_iload hx hb dX5_findPaths_88 (lv_at hl 0 rfl) ?_
                  refine x_iald hx hb hK hH 76 (ltw (by decide)) f76 (by omega) (by omega) (by omega) dX5_findPaths_90 ?_
                  have hv22 := hLr2 (cnZ op (q h) dd)
                  refine x_bipush hx hb dX5_findPaths_91 (by decide) ?_
                  refine x_icmp_ne (tgt := 159) hx hb dX5_findPaths_93 (by decide) (by omega) (by decide) (fun c93 => ?_) (fun c93 => ?_)
                  · refine x_iinc (lv' := [(7, .int (iZ (dd + 1))), (8, .int (iZ (cnZ op (q h) dd))), (6, .int (iZ (q h))), (5, .int (iZ h)), (4, .int (iZ fo2)), (3, .int (iZ (wc w))), (0, .ref (xad E 75)), (1, .ref (xad E b)), (2, .int (iZ w))]) hx hb dX5_findPaths_159 hl (k := 1) rfl (by decide) rfl (fun ls hl => ?_)
                    refine lv_goto (tgt := 62) hx hb dX5_findPaths_162 (by decide) ?_
                    exact ih62 fo2 (dd + 1) L2 F2 q2 σ17 _ _ _ (by omega) (by omega) (by first | (refine bfI_same hI2 (by omega) (by omega) (fun hg => ?_) hG; rw [hq2] at hg ⊢; revert hg; unfold Gw; (repeat' split) <;> simp_all; done) | (rw [hq2] at hadd2; first | (rw [if_pos c131] at hadd2; exact hadd2) | (rw [if_neg c131] at hadd2; exact hadd2))) (by first | exact hLr2 | (intro c; unfold ui; split; (have := hlq; omega); (exact hLr2 c))) (by first | exact hq2 | (rw [ui_n (by omega)]; exact hq2)) fb_0 fb_1 fb_2 fb_3 fb_4 fb_5 f75 f76 f77 f78 f79 f80 (fun j hj0 hj1 hj2 => (fr18 j (by omega) (by omega) (by omega))) hH (lv_sub hl [0, 2, 3, 4, 5, 6, 7, 8] rfl)
                  · refine lv_aload_n hx hb dX5_findPaths_96 rfl (lv_at hl 7 rfl) ?_
                    refine lv_iload_n hx hb dX5_findPaths_97 rfl (lv_at hl 8 rfl) ?_
                    refine lv_iload hx hb dX5_findPaths_98 (lv_at hl 0 rfl) ?_
                    refine x_cVID (As := [.int (iZ w), .int (iZ (cnZ op (q h) dd))]) (rest := []) hx hb hml hts hown hK hST hOK hH b (c_X1_canEnter l E ST hSF σ17 b w (cnZ op (q h) dd) op lk kp wc pn nw sh wk ⟨fb_0, fb_1, fb_2, fb_3, fb_4, _, fb_5⟩ (by omega) (by omega) (by omega) (by omega)) (cwV 2 hts gX5_findPaths_X1_canEnter rfl rfl rfl (by decide +kernel) ⟨Nat.le_of_ble_eq_true rfl, Nat.le_of_ble_eq_true rfl⟩) (by omega) fb_0 rfl rfl hl.1 rfl (Nat.le_of_ble_eq_true rfl) dX5_findPaths_100 ⟨Nat.le_of_ble_eq_true rfl, Nat.le_of_ble_eq_true rfl⟩ (fun z u h => h) (fun H locs hH => ?_)
                    refine x_ifb_eq (tgt := 159) hx hb dX5_findPaths_103 (by decide) (fun c103 => ?_) (fun c103 => ?_)
                    · have c103 := of_decide_eq_false c103
                      refine x_iinc (lv' := [(7, .int (iZ (dd + 1))), (8, .int (iZ (cnZ op (q h) dd))), (6, .int (iZ (q h))), (5, .int (iZ h)), (4, .int (iZ fo2)), (3, .int (iZ (wc w))), (0, .ref (xad E 75)), (1, .ref (xad E b)), (2, .int (iZ w))]) hx hb dX5_findPaths_159 hl (k := 1) rfl (by decide) rfl (fun ls hl => ?_)
                      refine lv_goto (tgt := 62) hx hb dX5_findPaths_162 (by decide) ?_
                      exact ih62 fo2 (dd + 1) L2 F2 q2 σ17 _ _ _ (by omega) (by omega) (by first | (refine bfI_same hI2 (by omega) (by omega) (fun hg => ?_) hG; rw [hq2] at hg ⊢; revert hg; unfold Gw; (repeat' split) <;> simp_all; done) | (rw [hq2] at hadd2; first | (rw [if_pos c131] at hadd2; exact hadd2) | (rw [if_neg c131] at hadd2; exact hadd2))) (by first | exact hLr2 | (intro c; unfold ui; split; (have := hlq; omega); (exact hLr2 c))) (by first | exact hq2 | (rw [ui_n (by omega)]; exact hq2)) fb_0 fb_1 fb_2 fb_3 fb_4 fb_5 f75 f76 f77 f78 f79 f80 (fun j hj0 hj1 hj2 => (fr18 j (by omega) (by omega) (by omega))) hH (lv_sub hl [0, 2, 3, 4, 5, 6, 7, 8] rfl)
                    · have c103 := of_decide_eq_true c103
                      obtain ⟨-, -, -, d21, -⟩ := id hI2
                      have hlq := (d21 h (by omega) (by omega)).2.1
                      rw [hq2] at hlq
                      have hg : (Gw op lk kp w) (q2 h) dd = cnZ op (q h) dd := by rw [hq2]; unfold Gw; rw [if_neg c81, if_pos c103]
                      obtain ⟨hf24, hadd2⟩ := bfI_add hI2 hG hst (by omega) (by omega) hg c81 c93
                      refine lv_aload_n hx hb dX5_findPaths_106 rfl (lv_at hl 6 rfl) ?_
                      refine x_get hx hb hts hown hK hH 75 (ltw (by decide)) f75 hinX5 rfl 0 (by decide) (List.mem_of_getElem? (i := 2) rfl) rfl dX5_findPaths_107 ?_
                      refine lv_iload hx hb dX5_findPaths_110 (lv_at hl 0 rfl) ?_
                      refine lv_aload_n hx hb dX5_findPaths_112 rfl (lv_at hl 6 rfl) ?_
                      refine x_get hx hb hts hown hK hH 75 (ltw (by decide)) f75 hinX5 rfl 0 (by decide) (List.mem_of_getElem? (i := 2) rfl) rfl dX5_findPaths_113 ?_
                      refine lv_iload hx hb dX5_findPaths_116 (lv_at hl 2 rfl) ?_
                      refine x_iald hx hb hK hH 76 (ltw (by decide)) f76 (by omega) (by omega) (by omega) dX5_findPaths_118 ?_
                      have hv26 := hLr2 (q h)
                      refine x_iconst hx hb dX5_findPaths_119 ?_
                      refine x_iadd hx hb dX5_findPaths_120 ?_
                      refine x_iast hx hb hK hH 76 (ltw (by decide)) f76 (by omega) (by omega) (by omega) dX5_findPaths_121 (fun σ27 H locs f76 fr28 hH => ?_)
                      have fb_0 : σ27 b = oB 0 [.ref (xad E (b + 1)), .ref (xad E (b + 2)), .ref (xad E (b + 3)), .ref (xad E (b + 4)), .ref (xad E (b + 5)), .int (iZ pn), .int (iZ nw), .int (iZ sh), .long (lZ wk)] := (fr28 b (by omega)).trans fb_0
                      have fb_1 : σ27 (b + 1) = aI E 25 op := (fr28 (b + 1) (by omega)).trans fb_1
                      have fb_2 : σ27 (b + 2) = aI E 25 lk := (fr28 (b + 2) (by omega)).trans fb_2
                      have fb_3 : σ27 (b + 3) = aI E 6 kp := (fr28 (b + 3) (by omega)).trans fb_3
                      have fb_4 : σ27 (b + 4) = aI E 3 wc := (fr28 (b + 4) (by omega)).trans fb_4
                      have fb_5 : σ27 (b + 5) = aI E 5 ro0 := (fr28 (b + 5) (by omega)).trans fb_5
                      have f75 : σ27 75 = oB 3 [.ref (xad E 76), .ref (xad E 77), .ref (xad E 78), .ref (xad E 79), .ref (xad E 80)] := (fr28 75 (by omega)).trans f75
                      have f77 : σ27 77 = aI E 25 rl := (fr28 77 (by omega)).trans f77
                      have f78 : σ27 78 = aI E 25 F2 := (fr28 78 (by omega)).trans f78
                      have f79 : σ27 79 = aI E 25 q2 := (fr28 79 (by omega)).trans f79
                      have f80 : σ27 80 = aI E 25 gr := (fr28 80 (by omega)).trans f80
                      refine lv_aload_n hx hb dX5_findPaths_122 rfl (lv_at hl 6 rfl) ?_
                      refine x_get hx hb hts hown hK hH 75 (ltw (by decide)) f75 hinX5 rfl 2 (by decide) (List.mem_of_getElem? (i := 4) rfl) rfl dX5_findPaths_123 ?_
                      refine lv_iload hx hb dX5_findPaths_126 (lv_at hl 0 rfl) ?_
                      refine lv_iload hx hb dX5_findPaths_128 (lv_at hl 2 rfl) ?_
                      refine lv_iload_n hx hb dX5_findPaths_130 rfl (lv_at hl 5 rfl) ?_
                      refine x_icmp_ne (tgt := 139) hx hb dX5_findPaths_131 (by decide) (by omega) (by omega) (fun c131 => ?_) (fun c131 => ?_)
                      · refine lv_aload_n hx hb dX5_findPaths_139 rfl (lv_at hl 6 rfl) ?_
                        refine x_get hx hb hts hown hK hH 75 (ltw (by decide)) f75 hinX5 rfl 2 (by decide) (List.mem_of_getElem? (i := 4) rfl) rfl dX5_findPaths_140 ?_
                        refine lv_iload hx hb dX5_findPaths_143 (lv_at hl 2 rfl) ?_
                        refine x_iald hx hb hK hH 78 (ltw (by decide)) f78 (by omega) (by omega) (by omega) dX5_findPaths_145 ?_
                        refine x_iast hx hb hK hH 78 (ltw (by decide)) f78 (by omega) (by omega) (by omega) dX5_findPaths_146 (fun σ29 H locs f78 fr30 hH => ?_)
                        have fb_0 : σ29 b = oB 0 [.ref (xad E (b + 1)), .ref (xad E (b + 2)), .ref (xad E (b + 3)), .ref (xad E (b + 4)), .ref (xad E (b + 5)), .int (iZ pn), .int (iZ nw), .int (iZ sh), .long (lZ wk)] := (fr30 b (by omega)).trans fb_0
                        have fb_1 : σ29 (b + 1) = aI E 25 op := (fr30 (b + 1) (by omega)).trans fb_1
                        have fb_2 : σ29 (b + 2) = aI E 25 lk := (fr30 (b + 2) (by omega)).trans fb_2
                        have fb_3 : σ29 (b + 3) = aI E 6 kp := (fr30 (b + 3) (by omega)).trans fb_3
                        have fb_4 : σ29 (b + 4) = aI E 3 wc := (fr30 (b + 4) (by omega)).trans fb_4
                        have fb_5 : σ29 (b + 5) = aI E 5 ro0 := (fr30 (b + 5) (by omega)).trans fb_5
                        have f75 : σ29 75 = oB 3 [.ref (xad E 76), .ref (xad E 77), .ref (xad E 78), .ref (xad E 79), .ref (xad E 80)] := (fr30 75 (by omega)).trans f75
                        have f76 : σ29 76 = aI E 25 (ui L2 (cnZ op (q h) dd) ((L2 (q h)) + 1)) := (fr30 76 (by omega)).trans f76
                        have f77 : σ29 77 = aI E 25 rl := (fr30 77 (by omega)).trans f77
                        have f79 : σ29 79 = aI E 25 q2 := (fr30 79 (by omega)).trans f79
                        have f80 : σ29 80 = aI E 25 gr := (fr30 80 (by omega)).trans f80
                        refine lv_aload_n hx hb dX5_findPaths_147 rfl (lv_at hl 6 rfl) ?_
                        refine x_get hx hb hts hown hK hH 75 (ltw (by decide)) f75 hinX5 rfl 3 (by decide) (List.mem_of_getElem? (i := 3) rfl) rfl dX5_findPaths_148 ?_
                        refine lv_iload hx hb dX5_findPaths_151 (lv_at hl 4 rfl) ?_
                        refine lv_iload hx hb dX5_findPaths_153 (lv_at hl 0 rfl) ?_
                        refine x_iast hx hb hK hH 79 (ltw (by decide)) f79 (by omega) (by omega) (by omega) dX5_findPaths_155 (fun σ31 H locs f79 fr32 hH => ?_)
                        have fb_0 : σ31 b = oB 0 [.ref (xad E (b + 1)), .ref (xad E (b + 2)), .ref (xad E (b + 3)), .ref (xad E (b + 4)), .ref (xad E (b + 5)), .int (iZ pn), .int (iZ nw), .int (iZ sh), .long (lZ wk)] := (fr32 b (by omega)).trans fb_0
                        have fb_1 : σ31 (b + 1) = aI E 25 op := (fr32 (b + 1) (by omega)).trans fb_1
                        have fb_2 : σ31 (b + 2) = aI E 25 lk := (fr32 (b + 2) (by omega)).trans fb_2
                        have fb_3 : σ31 (b + 3) = aI E 6 kp := (fr32 (b + 3) (by omega)).trans fb_3
                        have fb_4 : σ31 (b + 4) = aI E 3 wc := (fr32 (b + 4) (by omega)).trans fb_4
                        have fb_5 : σ31 (b + 5) = aI E 5 ro0 := (fr32 (b + 5) (by omega)).trans fb_5
                        have f75 : σ31 75 = oB 3 [.ref (xad E 76), .ref (xad E 77), .ref (xad E 78), .ref (xad E 79), .ref (xad E 80)] := (fr32 75 (by omega)).trans f75
                        have f76 : σ31 76 = aI E 25 (ui L2 (cnZ op (q h) dd) ((L2 (q h)) + 1)) := (fr32 76 (by omega)).trans f76
                        have f77 : σ31 77 = aI E 25 rl := (fr32 77 (by omega)).trans f77
                        have f78 : σ31 78 = aI E 25 (ui F2 (cnZ op (q h) dd) (F2 (q h))) := (fr32 78 (by omega)).trans f78
                        have f80 : σ31 80 = aI E 25 gr := (fr32 80 (by omega)).trans f80
                        refine x_iinc (lv' := [(4, .int (iZ (fo2 + 1))), (8, .int (iZ (cnZ op (q h) dd))), (7, .int (iZ dd)), (6, .int (iZ (q h))), (5, .int (iZ h)), (3, .int (iZ (wc w))), (0, .ref (xad E 75)), (1, .ref (xad E b)), (2, .int (iZ w))]) hx hb dX5_findPaths_156 hl (k := 4) rfl (by decide) rfl (fun ls hl => ?_)
                        refine x_iinc (lv' := [(7, .int (iZ (dd + 1))), (4, .int (iZ (fo2 + 1))), (8, .int (iZ (cnZ op (q h) dd))), (6, .int (iZ (q h))), (5, .int (iZ h)), (3, .int (iZ (wc w))), (0, .ref (xad E 75)), (1, .ref (xad E b)), (2, .int (iZ w))]) hx hb dX5_findPaths_159 hl (k := 2) rfl (by decide) rfl (fun ls hl => ?_)
                        refine lv_goto (tgt := 62) hx hb dX5_findPaths_162 (by decide) ?_
                        exact ih62 (fo2 + 1) (dd + 1) (ui L2 (cnZ op (q h) dd) ((L2 (q h)) + 1)) (ui F2 (cnZ op (q h) dd) (F2 (q h))) (ui q2 fo2 (cnZ op (q h) dd)) σ31 _ _ _ (by omega) (by omega) (by first | (refine bfI_same hI2 (by omega) (by omega) (fun hg => ?_) hG; rw [hq2] at hg ⊢; revert hg; unfold Gw; (repeat' split) <;> simp_all; done) | (rw [hq2] at hadd2; first | (rw [if_pos c131] at hadd2; exact hadd2) | (rw [if_neg c131] at hadd2; exact hadd2))) (by first | exact hLr2 | (intro c; unfold ui; split; (have := hlq; omega); (exact hLr2 c))) (by first | exact hq2 | (rw [ui_n (by omega)]; exact hq2)) fb_0 fb_1 fb_2 fb_3 fb_4 fb_5 f75 f76 f77 f78 f79 f80 (fun j hj0 hj1 hj2 => ((fr32 j (by omega)).trans ((fr30 j (by omega)).trans ((fr28 j (by omega)).trans (fr18 j (by omega) (by omega) (by omega)))))) hH (lv_sub hl [0, 3, 4, 1, 5, 6, 7, 8] rfl)
                      · refine lv_iload hx hb dX5_findPaths_134 (lv_at hl 1 rfl) ?_
                        refine lv_goto (tgt := 146) hx hb dX5_findPaths_136 (by decide) ?_
                        refine x_iast hx hb hK hH 78 (ltw (by decide)) f78 (by omega) (by omega) (by omega) dX5_findPaths_146 (fun σ33 H locs f78 fr34 hH => ?_)
                        have fb_0 : σ33 b = oB 0 [.ref (xad E (b + 1)), .ref (xad E (b + 2)), .ref (xad E (b + 3)), .ref (xad E (b + 4)), .ref (xad E (b + 5)), .int (iZ pn), .int (iZ nw), .int (iZ sh), .long (lZ wk)] := (fr34 b (by omega)).trans fb_0
                        have fb_1 : σ33 (b + 1) = aI E 25 op := (fr34 (b + 1) (by omega)).trans fb_1
                        have fb_2 : σ33 (b + 2) = aI E 25 lk := (fr34 (b + 2) (by omega)).trans fb_2
                        have fb_3 : σ33 (b + 3) = aI E 6 kp := (fr34 (b + 3) (by omega)).trans fb_3
                        have fb_4 : σ33 (b + 4) = aI E 3 wc := (fr34 (b + 4) (by omega)).trans fb_4
                        have fb_5 : σ33 (b + 5) = aI E 5 ro0 := (fr34 (b + 5) (by omega)).trans fb_5
                        have f75 : σ33 75 = oB 3 [.ref (xad E 76), .ref (xad E 77), .ref (xad E 78), .ref (xad E 79), .ref (xad E 80)] := (fr34 75 (by omega)).trans f75
                        have f76 : σ33 76 = aI E 25 (ui L2 (cnZ op (q h) dd) ((L2 (q h)) + 1)) := (fr34 76 (by omega)).trans f76
                        have f77 : σ33 77 = aI E 25 rl := (fr34 77 (by omega)).trans f77
                        have f79 : σ33 79 = aI E 25 q2 := (fr34 79 (by omega)).trans f79
                        have f80 : σ33 80 = aI E 25 gr := (fr34 80 (by omega)).trans f80
                        refine lv_aload_n hx hb dX5_findPaths_147 rfl (lv_at hl 6 rfl) ?_
                        refine x_get hx hb hts hown hK hH 75 (ltw (by decide)) f75 hinX5 rfl 3 (by decide) (List.mem_of_getElem? (i := 3) rfl) rfl dX5_findPaths_148 ?_
                        refine lv_iload hx hb dX5_findPaths_151 (lv_at hl 4 rfl) ?_
                        refine lv_iload hx hb dX5_findPaths_153 (lv_at hl 0 rfl) ?_
                        refine x_iast hx hb hK hH 79 (ltw (by decide)) f79 (by omega) (by omega) (by omega) dX5_findPaths_155 (fun σ35 H locs f79 fr36 hH => ?_)
                        have fb_0 : σ35 b = oB 0 [.ref (xad E (b + 1)), .ref (xad E (b + 2)), .ref (xad E (b + 3)), .ref (xad E (b + 4)), .ref (xad E (b + 5)), .int (iZ pn), .int (iZ nw), .int (iZ sh), .long (lZ wk)] := (fr36 b (by omega)).trans fb_0
                        have fb_1 : σ35 (b + 1) = aI E 25 op := (fr36 (b + 1) (by omega)).trans fb_1
                        have fb_2 : σ35 (b + 2) = aI E 25 lk := (fr36 (b + 2) (by omega)).trans fb_2
                        have fb_3 : σ35 (b + 3) = aI E 6 kp := (fr36 (b + 3) (by omega)).trans fb_3
                        have fb_4 : σ35 (b + 4) = aI E 3 wc := (fr36 (b + 4) (by omega)).trans fb_4
                        have fb_5 : σ35 (b + 5) = aI E 5 ro0 := (fr36 (b + 5) (by omega)).trans fb_5
                        have f75 : σ35 75 = oB 3 [.ref (xad E 76), .ref (xad E 77), .ref (xad E 78), .ref (xad E 79), .ref (xad E 80)] := (fr36 75 (by omega)).trans f75
                        have f76 : σ35 76 = aI E 25 (ui L2 (cnZ op (q h) dd) ((L2 (q h)) + 1)) := (fr36 76 (by omega)).trans f76
                        have f77 : σ35 77 = aI E 25 rl := (fr36 77 (by omega)).trans f77
                        have f78 : σ35 78 = aI E 25 (ui F2 (cnZ op (q h) dd) dd) := (fr36 78 (by omega)).trans f78
                        have f80 : σ35 80 = aI E 25 gr := (fr36 80 (by omega)).trans f80
                        refine x_iinc (lv' := [(4, .int (iZ (fo2 + 1))), (8, .int (iZ (cnZ op (q h) dd))), (7, .int (iZ dd)), (6, .int (iZ (q h))), (5, .int (iZ h)), (3, .int (iZ (wc w))), (0, .ref (xad E 75)), (1, .ref (xad E b)), (2, .int (iZ w))]) hx hb dX5_findPaths_156 hl (k := 4) rfl (by decide) rfl (fun ls hl => ?_)
                        refine x_iinc (lv' := [(7, .int (iZ (dd + 1))), (4, .int (iZ (fo2 + 1))), (8, .int (iZ (cnZ op (q h) dd))), (6, .int (iZ (q h))), (5, .int (iZ h)), (3, .int (iZ (wc w))), (0, .ref (xad E 75)), (1, .ref (xad E b)), (2, .int (iZ w))]) hx hb dX5_findPaths_159 hl (k := 2) rfl (by decide) rfl (fun ls hl => ?_)
                        refine lv_goto (tgt := 62) hx hb dX5_findPaths_162 (by decide) ?_
                        exact ih62 (fo2 + 1) (dd + 1) (ui L2 (cnZ op (q h) dd) ((L2 (q h)) + 1)) (ui F2 (cnZ op (q h) dd) dd) (ui q2 fo2 (cnZ op (q h) dd)) σ35 _ _ _ (by omega) (by omega) (by first | (refine bfI_same hI2 (by omega) (by omega) (fun hg => ?_) hG; rw [hq2] at hg ⊢; revert hg; unfold Gw; (repeat' split) <;> simp_all; done) | (rw [hq2] at hadd2; first | (rw [if_pos c131] at hadd2; exact hadd2) | (rw [if_neg c131] at hadd2; exact hadd2))) (by first | exact hLr2 | (intro c; unfold ui; split; (have := hlq; omega); (exact hLr2 c))) (by first | exact hq2 | (rw [ui_n (by omega)]; exact hq2)) fb_0 fb_1 fb_2 fb_3 fb_4 fb_5 f75 f76 f77 f78 f79 f80 (fun j hj0 hj1 hj2 => ((fr36 j (by omega)).trans ((fr34 j (by omega)).trans ((fr28 j (by omega)).trans (fr18 j (by omega) (by omega) (by omega)))))) hH (lv_sub hl [0, 3, 4, 1, 5, 6, 7, 8] rfl)
          exact K62 5 fo 0 L F q σ11 _ _ _ (by first | omega | decide) (by first | omega | rfl | assumption | simp_all) (by exact hI) (by exact hLr) (by rfl) fb_0 fb_1 fb_2 fb_3 fb_4 fb_5 f75 f76 f77 f78 f79 f80 (fun j _ _ _ => rfl) hH (lv_sub hl [0, 1, 2, 3, 4, 5, 6, 7] rfl)
  exact K36 26 1 0 (ui (fun _ => 25) (wc w) 0) fs (ui qu 0 (wc w)) σ9 _ _ _ (by first | omega | decide) (by first | omega | rfl | assumption | simp_all) (by exact bfI_0 hst (fun c => rfl) ui_s) (by intro c; simp only [ui]; split <;> omega) fb_0 fb_1 fb_2 fb_3 fb_4 fb_5 f75 f76 f77 f78 f79 f80 (fun j _ _ _ => rfl) hH (lv_sub hl [0, 1, 2, 3, 4, 5] rfl)

def rm_X5_lowerNeighbours : Room := { frames := 2, cells := 0, slots := 0, locals := 46 }
set_option maxRecDepth 100000 in
set_option maxHeartbeats 4000000 in
theorem c_X5_lowerNeighbours (l : Launch) (E : xE) (ST : xST) (hSF : SF ST) (σ : xW) (b : Nat) (w : Int) (cell : Int) (op : Int → Int) (lk : Int → Int) (kp : Int → Int) (wc : Int → Int) (pn : Int) (nw : Int) (sh : Int) (wk : Int) (le : Int → Int) (rl : Int → Int) (fs : Int → Int) (qu : Int → Int) (gr : Int → Int) (hr0 : bd E σ b op lk kp wc pn nw sh wk) (hr1 : sr E σ le rl fs qu gr) (hB : BI op lk kp wc pn nw) (hw : 0 ≤ w ∧ w < nw) (hbs : b + 6 ≤ 75) (hce : 0 ≤ cell ∧ cell ≤ 24) (hrl : ∀ c, 0 ≤ rl c ∧ rl c ≤ 25) : CI l E ST yX5_lowerNeighbours wsX5_lowerNeighbours rm_X5_lowerNeighbours [.ref (xad E 75), .ref (xad E b), .int (iZ w), .int (iZ cell)] σ (fun (z : Int) (u : xW) => (True) ∧ (∃ (lb : Bool) (rl1 : Int → Int), sr E u le rl1 fs qu gr ∧ (z = b2 lb) ∧ (loI (Gw op lk kp w) cell 4 rl rl1 lb)) ∧ ∀ j : Nat, j ≠ 77 → u j = σ j) := by
  obtain ⟨fb_0, fb_1, fb_2, fb_3, fb_4, ro0, fb_5⟩ := hr0
  obtain ⟨f75, f76, f77, f78, f79, f80⟩ := hr1
  refine CI_of (by decide) rfl (Nat.le_of_ble_eq_true rfl) ?_
  intro p e s m args below meth c Q ls G hH hl hQ
  obtain ⟨hx, hb, hml, hown, hts, hK, hST, hlocks, hr, hno⟩ := G
  have hOK := hSF.1
  have hown : s.vm.findClass RX5 = some m.cls := hown
  have hl : lv_has ls 8 [(0, .ref (xad E 75)), (1, .ref (xad E b)), (2, .int (iZ w)), (3, .int (iZ cell))] := hl
  have hinX5 : ∀ w ∈ u_ws RX5 TX5 5, w ∈ wsX5_lowerNeighbours := fun w h => (List.mem_cons_of_mem _ (List.mem_append_left _ (List.mem_append_right _ h)))
  obtain ⟨hop, hlk, hkp, hwc, hpn, hnw⟩ := id hB
  refine x_iconst hx hb dX5_lowerNeighbours_0 ?_
  refine lv_istore (lv' := [(4, .int (iZ 0)), (0, .ref (xad E 75)), (1, .ref (xad E b)), (2, .int (iZ w)), (3, .int (iZ cell))]) hx hb dX5_lowerNeighbours_1 hl (by decide) rfl (fun ls hl => ?_)
  refine lv_aload_n hx hb dX5_lowerNeighbours_3 rfl (lv_at hl 1 rfl) ?_
  refine x_get hx hb hts hown hK hH 75 (ltw (by decide)) f75 hinX5 rfl 1 (by decide) (List.mem_of_getElem? (i := 1) rfl) rfl dX5_lowerNeighbours_4 ?_
  refine lv_iload_n hx hb dX5_lowerNeighbours_7 rfl (lv_at hl 4 rfl) ?_
  refine x_iald hx hb hK hH 77 (ltw (by decide)) f77 (by omega) (by omega) (by omega) dX5_lowerNeighbours_8 ?_
  have hv1 := hrl cell
  refine x_iconst hx hb dX5_lowerNeighbours_9 ?_
  refine x_iadd hx hb dX5_lowerNeighbours_10 ?_
  refine lv_istore (lv' := [(5, .int (iZ ((rl cell) + 1))), (4, .int (iZ 0)), (0, .ref (xad E 75)), (1, .ref (xad E b)), (2, .int (iZ w)), (3, .int (iZ cell))]) hx hb dX5_lowerNeighbours_11 hl (by decide) rfl (fun ls hl => ?_)
  have hrc := hrl cell
  refine x_iconst hx hb dX5_lowerNeighbours_13 ?_
  refine lv_istore (lv' := [(6, .int (iZ 0)), (5, .int (iZ ((rl cell) + 1))), (4, .int (iZ 0)), (0, .ref (xad E 75)), (1, .ref (xad E b)), (2, .int (iZ w)), (3, .int (iZ cell))]) hx hb dX5_lowerNeighbours_14 hl (by decide) rfl (fun ls hl => ?_)
  have K16 : ∀ (nK : Nat) (lo : Bool) (dd : Int) (R : Int → Int) (σ2 : xW) (H : Heap) (locs : List Loc) (ls : Array Slot), (4 - dd).toNat < nK → (0 ≤ dd ∧ dd ≤ 4) → (loI (Gw op lk kp w) cell dd rl R lo) → (∀ c, 0 ≤ R c ∧ R c ≤ 25) → σ2 b = oB 0 [.ref (xad E (b + 1)), .ref (xad E (b + 2)), .ref (xad E (b + 3)), .ref (xad E (b + 4)), .ref (xad E (b + 5)), .int (iZ pn), .int (iZ nw), .int (iZ sh), .long (lZ wk)] → σ2 (b + 1) = aI E 25 op → σ2 (b + 2) = aI E 25 lk → σ2 (b + 3) = aI E 6 kp → σ2 (b + 4) = aI E 3 wc → σ2 (b + 5) = aI E 5 ro0 → σ2 75 = oB 3 [.ref (xad E 76), .ref (xad E 77), .ref (xad E 78), .ref (xad E 79), .ref (xad E 80)] → σ2 76 = aI E 25 le → σ2 77 = aI E 25 R → σ2 78 = aI E 25 fs → σ2 79 = aI E 25 qu → σ2 80 = aI E 25 gr → (∀ j : Nat, j ≠ 77 → σ2 j = σ j) → Hx E (xA E s.heap.size) s.heap σ2 H locs → lv_has ls 8 [(6, .int (iZ dd)), (5, .int (iZ ((rl cell) + 1))), (4, .int (iZ (b2 lo))), (0, .ref (xad E 75)), (1, .ref (xad E b)), (2, .int (iZ w)), (3, .int (iZ cell))] → W p l e rm_X5_lowerNeighbours s m args below meth c H locs 0 0 Q (F0 m 16 ls []) := by
    intro n16
    induction n16 with
    | zero =>
      intro lo dd R σ2 H locs ls hm
      exact absurd hm (by first | exact Nat.not_lt_zero _ | omega)
    | succ n16 ih16 =>
      intro lo dd R σ2 H locs ls hm16 hdd hI hR fb_0 fb_1 fb_2 fb_3 fb_4 fb_5 f75 f76 f77 f78 f79 f80 fr3 hH hl
      refine lv_iload hx hb dX5_lowerNeighbours_16 (lv_at hl 0 rfl) ?_
      refine x_iconst hx hb dX5_lowerNeighbours_18 ?_
      refine x_icmp_ge (tgt := 77) hx hb dX5_lowerNeighbours_19 (by decide) (by omega) (by decide) (fun c19 => ?_) (fun c19 => ?_)
      · refine lv_iload hx hb dX5_lowerNeighbours_77 (lv_at hl 2 rfl) ?_
        subst hQ
        exact x_zret (b := lo) hx hb hr hlocks hH (Nat.le_of_ble_eq_true rfl) (Nat.le_of_ble_eq_true rfl) ⟨trivial, ⟨lo, R, ⟨f75, f76, f77, f78, f79, f80⟩, (by rfl), (by have e : dd = 4 := (by omega); subst e; exact hI)⟩, fun j hj0 => (fr3 j (by omega))⟩ dX5_lowerNeighbours_79
      · have hcr := cnZ_rg (op := op) (c := cell) (d := dd) (by omega) (by omega)
        refine lv_aload_n hx hb dX5_lowerNeighbours_22 rfl (lv_at hl 4 rfl) ?_
        refine lv_iload_n hx hb dX5_lowerNeighbours_23 rfl (lv_at hl 6 rfl) ?_
        refine lv_iload hx hb dX5_lowerNeighbours_24 (lv_at hl 0 rfl) ?_
        refine x_cVID (As := [.int (iZ cell), .int (iZ dd)]) (rest := []) hx hb hml hts hown hK hST hOK hH b (c_X1_connectedNeighbour l E ST hSF σ2 b cell dd op lk kp wc pn nw sh wk ⟨fb_0, fb_1, fb_2, fb_3, fb_4, _, fb_5⟩ (by omega) (by omega) (by omega) (by omega)) (cwV 2 hts gX5_lowerNeighbours_X1_connectedNeighbour rfl rfl rfl (by decide +kernel) ⟨Nat.le_of_ble_eq_true rfl, Nat.le_of_ble_eq_true rfl⟩) (by omega) fb_0 rfl rfl hl.1 rfl (Nat.le_of_ble_eq_true rfl) dX5_lowerNeighbours_26 ⟨Nat.le_of_ble_eq_true rfl, Nat.le_of_ble_eq_true rfl⟩ (fun z u h => h) (fun H locs hH => ?_)
        refine lv_istore (lv' := [(7, .int (iZ (cnZ op cell dd))), (6, .int (iZ dd)), (5, .int (iZ ((rl cell) + 1))), (4, .int (iZ (b2 lo))), (0, .ref (xad E 75)), (1, .ref (xad E b)), (2, .int (iZ w)), (3, .int (iZ cell))]) hx hb dX5_lowerNeighbours_29 hl (by decide) rfl (fun ls hl => ?_)
        refine lv_iload hx hb dX5_lowerNeighbours_31 (lv_at hl 0 rfl) ?_
        refine x_iconst hx hb dX5_lowerNeighbours_33 ?_
        refine x_icmp_eq (tgt := 71) hx hb dX5_lowerNeighbours_34 (by decide) (by omega) (by decide) (fun c34 => ?_) (fun c34 => ?_)
        · refine x_iinc (lv' := [(6, .int (iZ (dd + 1))), (7, .int (iZ (cnZ op cell dd))), (5, .int (iZ ((rl cell) + 1))), (4, .int (iZ (b2 lo))), (0, .ref (xad E 75)), (1, .ref (xad E b)), (2, .int (iZ w)), (3, .int (iZ cell))]) hx hb dX5_lowerNeighbours_71 hl (k := 1) rfl (by decide) rfl (fun ls hl => ?_)
          refine lv_goto (tgt := 16) hx hb dX5_lowerNeighbours_74 (by decide) ?_
          exact ih16 lo (dd + 1) R σ2 _ _ _ (by omega) (by first | omega | rfl | assumption | simp_all) (by first | (refine loI_same hI (fun hg => ?_); revert hg; unfold Gw; (repeat' split) <;> first | omega | (intros; omega) | simp_all; done) | exact hadd) (by first | exact hR | (intro c; unfold ui; have h9 := hrl cell; have h10 := hR (cnZ op cell dd); split; (omega); (exact hR c))) fb_0 fb_1 fb_2 fb_3 fb_4 fb_5 f75 f76 f77 f78 f79 f80 (fun j hj0 => (fr3 j (by omega))) hH (lv_sub hl [0, 2, 3, 4, 5, 6, 7] rfl)
        · refine lv_iload hx hb dX5_lowerNeighbours_37 (lv_at hl 2 rfl) ?_
          refine lv_aload_n hx hb dX5_lowerNeighbours_39 rfl (lv_at hl 4 rfl) ?_
          refine x_get hx hb hts hown hK hH 75 (ltw (by decide)) f75 hinX5 rfl 1 (by decide) (List.mem_of_getElem? (i := 1) rfl) rfl dX5_lowerNeighbours_40 ?_
          refine lv_iload hx hb dX5_lowerNeighbours_43 (lv_at hl 0 rfl) ?_
          refine x_iald hx hb hK hH 77 (ltw (by decide)) f77 (by omega) (by omega) (by omega) dX5_lowerNeighbours_45 ?_
          have hv7 := hR (cnZ op cell dd)
          refine x_icmp_ge (tgt := 71) hx hb dX5_lowerNeighbours_46 (by decide) (by omega) (by omega) (fun c46 => ?_) (fun c46 => ?_)
          · refine x_iinc (lv' := [(6, .int (iZ (dd + 1))), (7, .int (iZ (cnZ op cell dd))), (5, .int (iZ ((rl cell) + 1))), (4, .int (iZ (b2 lo))), (0, .ref (xad E 75)), (1, .ref (xad E b)), (2, .int (iZ w)), (3, .int (iZ cell))]) hx hb dX5_lowerNeighbours_71 hl (k := 1) rfl (by decide) rfl (fun ls hl => ?_)
            refine lv_goto (tgt := 16) hx hb dX5_lowerNeighbours_74 (by decide) ?_
            exact ih16 lo (dd + 1) R σ2 _ _ _ (by omega) (by first | omega | rfl | assumption | simp_all) (by first | (refine loI_same hI (fun hg => ?_); revert hg; unfold Gw; (repeat' split) <;> first | omega | (intros; omega) | simp_all; done) | exact hadd) (by first | exact hR | (intro c; unfold ui; have h9 := hrl cell; have h10 := hR (cnZ op cell dd); split; (omega); (exact hR c))) fb_0 fb_1 fb_2 fb_3 fb_4 fb_5 f75 f76 f77 f78 f79 f80 (fun j hj0 => (fr3 j (by omega))) hH (lv_sub hl [0, 2, 3, 4, 5, 6, 7] rfl)
          · refine lv_aload_n hx hb dX5_lowerNeighbours_49 rfl (lv_at hl 5 rfl) ?_
            refine lv_iload_n hx hb dX5_lowerNeighbours_50 rfl (lv_at hl 6 rfl) ?_
            refine lv_iload hx hb dX5_lowerNeighbours_51 (lv_at hl 0 rfl) ?_
            refine x_cVID (As := [.int (iZ w), .int (iZ (cnZ op cell dd))]) (rest := []) hx hb hml hts hown hK hST hOK hH b (c_X1_canEnter l E ST hSF σ2 b w (cnZ op cell dd) op lk kp wc pn nw sh wk ⟨fb_0, fb_1, fb_2, fb_3, fb_4, _, fb_5⟩ (by omega) (by omega) (by omega) (by omega)) (cwV 2 hts gX5_lowerNeighbours_X1_canEnter rfl rfl rfl (by decide +kernel) ⟨Nat.le_of_ble_eq_true rfl, Nat.le_of_ble_eq_true rfl⟩) (by omega) fb_0 rfl rfl hl.1 rfl (Nat.le_of_ble_eq_true rfl) dX5_lowerNeighbours_53 ⟨Nat.le_of_ble_eq_true rfl, Nat.le_of_ble_eq_true rfl⟩ (fun z u h => h) (fun H locs hH => ?_)
            refine x_ifb_eq (tgt := 71) hx hb dX5_lowerNeighbours_56 (by decide) (fun c56 => ?_) (fun c56 => ?_)
            · have c56 := of_decide_eq_false c56
              refine x_iinc (lv' := [(6, .int (iZ (dd + 1))), (7, .int (iZ (cnZ op cell dd))), (5, .int (iZ ((rl cell) + 1))), (4, .int (iZ (b2 lo))), (0, .ref (xad E 75)), (1, .ref (xad E b)), (2, .int (iZ w)), (3, .int (iZ cell))]) hx hb dX5_lowerNeighbours_71 hl (k := 1) rfl (by decide) rfl (fun ls hl => ?_)
              refine lv_goto (tgt := 16) hx hb dX5_lowerNeighbours_74 (by decide) ?_
              exact ih16 lo (dd + 1) R σ2 _ _ _ (by omega) (by first | omega | rfl | assumption | simp_all) (by first | (refine loI_same hI (fun hg => ?_); revert hg; unfold Gw; (repeat' split) <;> first | omega | (intros; omega) | simp_all; done) | exact hadd) (by first | exact hR | (intro c; unfold ui; have h9 := hrl cell; have h10 := hR (cnZ op cell dd); split; (omega); (exact hR c))) fb_0 fb_1 fb_2 fb_3 fb_4 fb_5 f75 f76 f77 f78 f79 f80 (fun j hj0 => (fr3 j (by omega))) hH (lv_sub hl [0, 2, 3, 4, 5, 6, 7] rfl)
            · have c56 := of_decide_eq_true c56
              have hadd := loI_add hI (x := cnZ op cell dd) (by omega) (by unfold Gw; rw [if_neg c34, if_pos c56]) c34 (by omega)
              refine lv_aload_n hx hb dX5_lowerNeighbours_59 rfl (lv_at hl 4 rfl) ?_
              refine x_get hx hb hts hown hK hH 75 (ltw (by decide)) f75 hinX5 rfl 1 (by decide) (List.mem_of_getElem? (i := 1) rfl) rfl dX5_lowerNeighbours_60 ?_
              refine lv_iload hx hb dX5_lowerNeighbours_63 (lv_at hl 0 rfl) ?_
              refine lv_iload hx hb dX5_lowerNeighbours_65 (lv_at hl 2 rfl) ?_
              refine x_iast hx hb hK hH 77 (ltw (by decide)) f77 (by omega) (by omega) (by omega) dX5_lowerNeighbours_67 (fun σ11 H locs f77 fr12 hH => ?_)
              have fb_0 : σ11 b = oB 0 [.ref (xad E (b + 1)), .ref (xad E (b + 2)), .ref (xad E (b + 3)), .ref (xad E (b + 4)), .ref (xad E (b + 5)), .int (iZ pn), .int (iZ nw), .int (iZ sh), .long (lZ wk)] := (fr12 b (by omega)).trans fb_0
              have fb_1 : σ11 (b + 1) = aI E 25 op := (fr12 (b + 1) (by omega)).trans fb_1
              have fb_2 : σ11 (b + 2) = aI E 25 lk := (fr12 (b + 2) (by omega)).trans fb_2
              have fb_3 : σ11 (b + 3) = aI E 6 kp := (fr12 (b + 3) (by omega)).trans fb_3
              have fb_4 : σ11 (b + 4) = aI E 3 wc := (fr12 (b + 4) (by omega)).trans fb_4
              have fb_5 : σ11 (b + 5) = aI E 5 ro0 := (fr12 (b + 5) (by omega)).trans fb_5
              have f75 : σ11 75 = oB 3 [.ref (xad E 76), .ref (xad E 77), .ref (xad E 78), .ref (xad E 79), .ref (xad E 80)] := (fr12 75 (by omega)).trans f75
              have f76 : σ11 76 = aI E 25 le := (fr12 76 (by omega)).trans f76
              have f78 : σ11 78 = aI E 25 fs := (fr12 78 (by omega)).trans f78
              have f79 : σ11 79 = aI E 25 qu := (fr12 79 (by omega)).trans f79
              have f80 : σ11 80 = aI E 25 gr := (fr12 80 (by omega)).trans f80
              refine x_iconst hx hb dX5_lowerNeighbours_68 ?_
              refine lv_istore (lv' := [(4, .int (iZ 1)), (7, .int (iZ (cnZ op cell dd))), (6, .int (iZ dd)), (5, .int (iZ ((rl cell) + 1))), (0, .ref (xad E 75)), (1, .ref (xad E b)), (2, .int (iZ w)), (3, .int (iZ cell))]) hx hb dX5_lowerNeighbours_69 hl (by decide) rfl (fun ls hl => ?_)
              refine x_iinc (lv' := [(6, .int (iZ (dd + 1))), (4, .int (iZ 1)), (7, .int (iZ (cnZ op cell dd))), (5, .int (iZ ((rl cell) + 1))), (0, .ref (xad E 75)), (1, .ref (xad E b)), (2, .int (iZ w)), (3, .int (iZ cell))]) hx hb dX5_lowerNeighbours_71 hl (k := 2) rfl (by decide) rfl (fun ls hl => ?_)
              refine lv_goto (tgt := 16) hx hb dX5_lowerNeighbours_74 (by decide) ?_
              exact ih16 true (dd + 1) (ui R (cnZ op cell dd) ((rl cell) + 1)) σ11 _ _ _ (by omega) (by first | omega | rfl | assumption | simp_all) (by first | (refine loI_same hI (fun hg => ?_); revert hg; unfold Gw; (repeat' split) <;> first | omega | (intros; omega) | simp_all; done) | exact hadd) (by first | exact hR | (intro c; unfold ui; have h9 := hrl cell; have h10 := hR (cnZ op cell dd); split; (omega); (exact hR c))) fb_0 fb_1 fb_2 fb_3 fb_4 fb_5 f75 f76 f77 f78 f79 f80 (fun j hj0 => ((fr12 j (by omega)).trans (fr3 j (by omega)))) hH (lv_sub hl [0, 3, 1, 4, 5, 6, 7] rfl)
  exact K16 5 false 0 rl σ _ _ _ (by first | omega | decide) (by first | omega | rfl | assumption | simp_all) (by exact loI_0) (by exact hrl) fb_0 fb_1 fb_2 fb_3 fb_4 fb_5 f75 f76 f77 f78 f79 f80 (fun j _ => rfl) hH (lv_sub hl [0, 1, 2, 3, 4, 5, 6] rfl)

def rm_X5_findLengthsByRounds : Room := { frames := 3, cells := 0, slots := 0, locals := 73 }
set_option maxRecDepth 100000 in
set_option maxHeartbeats 4000000 in
theorem c_X5_findLengthsByRounds (l : Launch) (E : xE) (ST : xST) (hSF : SF ST) (σ : xW) (b : Nat) (w : Int) (op : Int → Int) (lk : Int → Int) (kp : Int → Int) (wc : Int → Int) (pn : Int) (nw : Int) (sh : Int) (wk : Int) (le : Int → Int) (rl : Int → Int) (fs : Int → Int) (qu : Int → Int) (gr : Int → Int) (hr0 : bd E σ b op lk kp wc pn nw sh wk) (hr1 : sr E σ le rl fs qu gr) (hB : BI op lk kp wc pn nw) (hw : 0 ≤ w ∧ w < nw) (hbs : b + 6 ≤ 75) : CV l E ST yX5_findLengthsByRounds wsX5_findLengthsByRounds rm_X5_findLengthsByRounds [.ref (xad E 75), .ref (xad E b), .int (iZ w)] σ (fun (u : xW) => (sr E u le (dz (Gw op lk kp w) (wc w)) fs qu gr) ∧ ∀ j : Nat, j ≠ 77 → u j = σ j) := by
  obtain ⟨fb_0, fb_1, fb_2, fb_3, fb_4, ro0, fb_5⟩ := hr0
  obtain ⟨f75, f76, f77, f78, f79, f80⟩ := hr1
  refine CV_of (by decide) rfl (Nat.le_of_ble_eq_true rfl) ?_
  intro p e s m args below meth c Q ls G hH hl hQ
  obtain ⟨hx, hb, hml, hown, hts, hK, hST, hlocks, hr, hno⟩ := G
  have hOK := hSF.1
  have hown : s.vm.findClass RX5 = some m.cls := hown
  have hl : lv_has ls 6 [(0, .ref (xad E 75)), (1, .ref (xad E b)), (2, .int (iZ w))] := hl
  have hinX1 : ∀ w ∈ u_ws RX1 TX1 9, w ∈ wsX5_findLengthsByRounds := fun w h => (List.mem_cons_of_mem _ (List.mem_append_right _ h))
  have hinX5 : ∀ w ∈ u_ws RX5 TX5 5, w ∈ wsX5_findLengthsByRounds := fun w h => (List.mem_cons_of_mem _ (List.mem_append_left _ (List.mem_append_right _ h)))
  obtain ⟨hop, hlk, hkp, hwc, hpn, hnw⟩ := id hB
  have hst := hwc w
  have hG : gOK (Gw op lk kp w) := Gw_ok
  refine lv_aload_n hx hb dX5_findLengthsByRounds_0 rfl (lv_at hl 0 rfl) ?_
  refine x_get hx hb hts hown hK hH 75 (ltw (by decide)) f75 hinX5 rfl 1 (by decide) (List.mem_of_getElem? (i := 1) rfl) rfl dX5_findLengthsByRounds_1 ?_
  refine x_bipush hx hb dX5_findLengthsByRounds_4 (by decide) ?_
  refine x_cSV (As := [.ref (xad E 77), .int (iZ 25)]) (rest := []) hx hb hml hts hown hK hST hOK hH (c_J7_fill_53178 l E ST hSF σ 77 25 25 rl f77 (by omega) (by omega)) (va_cwS 2 hts gX5_findLengthsByRounds_J7_fill_53178 rfl rfl rfl (by decide +kernel) ⟨Nat.le_of_ble_eq_true rfl, Nat.le_of_ble_eq_true rfl⟩) rfl hl.1 rfl (Nat.le_of_ble_eq_true rfl) dX5_findLengthsByRounds_6 ⟨Nat.le_of_ble_eq_true rfl, Nat.le_of_ble_eq_true rfl⟩ (fun σ2 H locs hp3 hH => ?_)
  obtain ⟨f77, fr4⟩ := hp3
  have fb_0 : σ2 b = oB 0 [.ref (xad E (b + 1)), .ref (xad E (b + 2)), .ref (xad E (b + 3)), .ref (xad E (b + 4)), .ref (xad E (b + 5)), .int (iZ pn), .int (iZ nw), .int (iZ sh), .long (lZ wk)] := (fr4 b (by omega)).trans fb_0
  have fb_1 : σ2 (b + 1) = aI E 25 op := (fr4 (b + 1) (by omega)).trans fb_1
  have fb_2 : σ2 (b + 2) = aI E 25 lk := (fr4 (b + 2) (by omega)).trans fb_2
  have fb_3 : σ2 (b + 3) = aI E 6 kp := (fr4 (b + 3) (by omega)).trans fb_3
  have fb_4 : σ2 (b + 4) = aI E 3 wc := (fr4 (b + 4) (by omega)).trans fb_4
  have fb_5 : σ2 (b + 5) = aI E 5 ro0 := (fr4 (b + 5) (by omega)).trans fb_5
  have f75 : σ2 75 = oB 3 [.ref (xad E 76), .ref (xad E 77), .ref (xad E 78), .ref (xad E 79), .ref (xad E 80)] := (fr4 75 (by omega)).trans f75
  have f76 : σ2 76 = aI E 25 le := (fr4 76 (by omega)).trans f76
  have f78 : σ2 78 = aI E 25 fs := (fr4 78 (by omega)).trans f78
  have f79 : σ2 79 = aI E 25 qu := (fr4 79 (by omega)).trans f79
  have f80 : σ2 80 = aI E 25 gr := (fr4 80 (by omega)).trans f80
  refine lv_aload_n hx hb dX5_findLengthsByRounds_9 rfl (lv_at hl 0 rfl) ?_
  refine x_get hx hb hts hown hK hH 75 (ltw (by decide)) f75 hinX5 rfl 1 (by decide) (List.mem_of_getElem? (i := 1) rfl) rfl dX5_findLengthsByRounds_10 ?_
  refine lv_aload_n hx hb dX5_findLengthsByRounds_13 rfl (lv_at hl 1 rfl) ?_
  refine x_get hx hb hts hown hK hH b (by omega) fb_0 hinX1 rfl 3 (by decide) (List.mem_of_getElem? (i := 2) rfl) rfl dX5_findLengthsByRounds_14 ?_
  refine lv_iload_n hx hb dX5_findLengthsByRounds_17 rfl (lv_at hl 2 rfl) ?_
  refine x_iald hx hb hK hH (b + 4) (by omega) fb_4 (by omega) (by omega) (by omega) dX5_findLengthsByRounds_18 ?_
  have hv6 := hwc w
  refine x_iconst hx hb dX5_findLengthsByRounds_19 ?_
  refine x_iast hx hb hK hH 77 (ltw (by decide)) f77 (by omega) (by omega) (by omega) dX5_findLengthsByRounds_20 (fun σ7 H locs f77 fr8 hH => ?_)
  have fb_0 : σ7 b = oB 0 [.ref (xad E (b + 1)), .ref (xad E (b + 2)), .ref (xad E (b + 3)), .ref (xad E (b + 4)), .ref (xad E (b + 5)), .int (iZ pn), .int (iZ nw), .int (iZ sh), .long (lZ wk)] := (fr8 b (by omega)).trans fb_0
  have fb_1 : σ7 (b + 1) = aI E 25 op := (fr8 (b + 1) (by omega)).trans fb_1
  have fb_2 : σ7 (b + 2) = aI E 25 lk := (fr8 (b + 2) (by omega)).trans fb_2
  have fb_3 : σ7 (b + 3) = aI E 6 kp := (fr8 (b + 3) (by omega)).trans fb_3
  have fb_4 : σ7 (b + 4) = aI E 3 wc := (fr8 (b + 4) (by omega)).trans fb_4
  have fb_5 : σ7 (b + 5) = aI E 5 ro0 := (fr8 (b + 5) (by omega)).trans fb_5
  have f75 : σ7 75 = oB 3 [.ref (xad E 76), .ref (xad E 77), .ref (xad E 78), .ref (xad E 79), .ref (xad E 80)] := (fr8 75 (by omega)).trans f75
  have f76 : σ7 76 = aI E 25 le := (fr8 76 (by omega)).trans f76
  have f78 : σ7 78 = aI E 25 fs := (fr8 78 (by omega)).trans f78
  have f79 : σ7 79 = aI E 25 qu := (fr8 79 (by omega)).trans f79
  have f80 : σ7 80 = aI E 25 gr := (fr8 80 (by omega)).trans f80
  refine x_iconst hx hb dX5_findLengthsByRounds_21 ?_
  refine lv_istore_n (lv' := [(3, .int (iZ 1)), (0, .ref (xad E 75)), (1, .ref (xad E b)), (2, .int (iZ w))]) hx hb dX5_findLengthsByRounds_22 rfl hl (by decide) rfl (fun ls hl => ?_)
  refine x_iconst hx hb dX5_findLengthsByRounds_23 ?_
  refine lv_istore (lv' := [(4, .int (iZ 0)), (3, .int (iZ 1)), (0, .ref (xad E 75)), (1, .ref (xad E b)), (2, .int (iZ w))]) hx hb dX5_findLengthsByRounds_24 hl (by decide) rfl (fun ls hl => ?_)
  have K26 : ∀ (nK : Nat) (ch : Bool) (r : Int) (R : Int → Int) (σ9 : xW) (H : Heap) (locs : List Loc) (ls : Array Slot), (25 - r).toNat < nK → (0 ≤ r ∧ r ≤ 25) → (roI (Gw op lk kp w) (wc w) r R ch) → σ9 b = oB 0 [.ref (xad E (b + 1)), .ref (xad E (b + 2)), .ref (xad E (b + 3)), .ref (xad E (b + 4)), .ref (xad E (b + 5)), .int (iZ pn), .int (iZ nw), .int (iZ sh), .long (lZ wk)] → σ9 (b + 1) = aI E 25 op → σ9 (b + 2) = aI E 25 lk → σ9 (b + 3) = aI E 6 kp → σ9 (b + 4) = aI E 3 wc → σ9 (b + 5) = aI E 5 ro0 → σ9 75 = oB 3 [.ref (xad E 76), .ref (xad E 77), .ref (xad E 78), .ref (xad E 79), .ref (xad E 80)] → σ9 76 = aI E 25 le → σ9 77 = aI E 25 R → σ9 78 = aI E 25 fs → σ9 79 = aI E 25 qu → σ9 80 = aI E 25 gr → (∀ j : Nat, j ≠ 77 → σ9 j = σ7 j) → Hx E (xA E s.heap.size) s.heap σ9 H locs → lv_has ls 6 [(4, .int (iZ r)), (3, .int (iZ (b2 ch))), (0, .ref (xad E 75)), (1, .ref (xad E b)), (2, .int (iZ w))] → W p l e rm_X5_findLengthsByRounds s m args below meth c H locs 0 0 Q (F0 m 26 ls []) := by
    intro n26
    induction n26 with
    | zero =>
      intro ch r R σ9 H locs ls hm
      exact absurd hm (by first | exact Nat.not_lt_zero _ | omega)
    | succ n26 ih26 =>
      intro ch r R σ9 H locs ls hm26 hr9 hI fb_0 fb_1 fb_2 fb_3 fb_4 fb_5 f75 f76 f77 f78 f79 f80 fr10 hH hl
      refine lv_iload_n hx hb dX5_findLengthsByRounds_26 rfl (lv_at hl 1 rfl) ?_
      refine x_ifb_eq (tgt := 86) hx hb dX5_findLengthsByRounds_27 (by decide) (fun c27 => ?_) (fun c27 => ?_)
      · have hE : isD (Gw op lk kp w) (wc w) R := roI_end hG hst hI (by omega) (by first | (left; assumption) | (right; omega))
        obtain ⟨σ11, f77, fr12, hH⟩ := x_normE (g := (dz (Gw op lk kp w) (wc w))) 77 (ltw (by decide)) f77 (by intro c h0 h1; exact dz_of hE h0 (by omega)) hH
        have fb_0 : σ11 b = oB 0 [.ref (xad E (b + 1)), .ref (xad E (b + 2)), .ref (xad E (b + 3)), .ref (xad E (b + 4)), .ref (xad E (b + 5)), .int (iZ pn), .int (iZ nw), .int (iZ sh), .long (lZ wk)] := (fr12 b (by omega)).trans fb_0
        have fb_1 : σ11 (b + 1) = aI E 25 op := (fr12 (b + 1) (by omega)).trans fb_1
        have fb_2 : σ11 (b + 2) = aI E 25 lk := (fr12 (b + 2) (by omega)).trans fb_2
        have fb_3 : σ11 (b + 3) = aI E 6 kp := (fr12 (b + 3) (by omega)).trans fb_3
        have fb_4 : σ11 (b + 4) = aI E 3 wc := (fr12 (b + 4) (by omega)).trans fb_4
        have fb_5 : σ11 (b + 5) = aI E 5 ro0 := (fr12 (b + 5) (by omega)).trans fb_5
        have f75 : σ11 75 = oB 3 [.ref (xad E 76), .ref (xad E 77), .ref (xad E 78), .ref (xad E 79), .ref (xad E 80)] := (fr12 75 (by omega)).trans f75
        have f76 : σ11 76 = aI E 25 le := (fr12 76 (by omega)).trans f76
        have f78 : σ11 78 = aI E 25 fs := (fr12 78 (by omega)).trans f78
        have f79 : σ11 79 = aI E 25 qu := (fr12 79 (by omega)).trans f79
        have f80 : σ11 80 = aI E 25 gr := (fr12 80 (by omega)).trans f80
        subst hQ
        exact x_vret hx hb hr hlocks hH (Nat.le_of_ble_eq_true rfl) (Nat.le_of_ble_eq_true rfl) ⟨⟨f75, f76, f77, f78, f79, f80⟩, fun j hj0 => ((fr12 j (by omega)).trans ((fr10 j (by omega)).trans ((fr8 j (by omega)).trans (fr4 j (by omega)))))⟩ dX5_findLengthsByRounds_86
      · refine lv_iload hx hb dX5_findLengthsByRounds_30 (lv_at hl 0 rfl) ?_
        refine x_bipush hx hb dX5_findLengthsByRounds_32 (by decide) ?_
        refine x_icmp_ge (tgt := 86) hx hb dX5_findLengthsByRounds_34 (by decide) (by omega) (by decide) (fun c34 => ?_) (fun c34 => ?_)
        · have hE : isD (Gw op lk kp w) (wc w) R := roI_end hG hst hI (by omega) (by first | (left; assumption) | (right; omega))
          obtain ⟨σ13, f77, fr14, hH⟩ := x_normE (g := (dz (Gw op lk kp w) (wc w))) 77 (ltw (by decide)) f77 (by intro c h0 h1; exact dz_of hE h0 (by omega)) hH
          have fb_0 : σ13 b = oB 0 [.ref (xad E (b + 1)), .ref (xad E (b + 2)), .ref (xad E (b + 3)), .ref (xad E (b + 4)), .ref (xad E (b + 5)), .int (iZ pn), .int (iZ nw), .int (iZ sh), .long (lZ wk)] := (fr14 b (by omega)).trans fb_0
          have fb_1 : σ13 (b + 1) = aI E 25 op := (fr14 (b + 1) (by omega)).trans fb_1
          have fb_2 : σ13 (b + 2) = aI E 25 lk := (fr14 (b + 2) (by omega)).trans fb_2
          have fb_3 : σ13 (b + 3) = aI E 6 kp := (fr14 (b + 3) (by omega)).trans fb_3
          have fb_4 : σ13 (b + 4) = aI E 3 wc := (fr14 (b + 4) (by omega)).trans fb_4
          have fb_5 : σ13 (b + 5) = aI E 5 ro0 := (fr14 (b + 5) (by omega)).trans fb_5
          have f75 : σ13 75 = oB 3 [.ref (xad E 76), .ref (xad E 77), .ref (xad E 78), .ref (xad E 79), .ref (xad E 80)] := (fr14 75 (by omega)).trans f75
          have f76 : σ13 76 = aI E 25 le := (fr14 76 (by omega)).trans f76
          have f78 : σ13 78 = aI E 25 fs := (fr14 78 (by omega)).trans f78
          have f79 : σ13 79 = aI E 25 qu := (fr14 79 (by omega)).trans f79
          have f80 : σ13 80 = aI E 25 gr := (fr14 80 (by omega)).trans f80
          subst hQ
          exact x_vret hx hb hr hlocks hH (Nat.le_of_ble_eq_true rfl) (Nat.le_of_ble_eq_true rfl) ⟨⟨f75, f76, f77, f78, f79, f80⟩, fun j hj0 => ((fr14 j (by omega)).trans ((fr10 j (by omega)).trans ((fr8 j (by omega)).trans (fr4 j (by omega)))))⟩ dX5_findLengthsByRounds_86
        · refine x_iconst hx hb dX5_findLengthsByRounds_37 ?_
          refine lv_istore_n (lv' := [(3, .int (iZ 0)), (4, .int (iZ r)), (0, .ref (xad E 75)), (1, .ref (xad E b)), (2, .int (iZ w))]) hx hb dX5_findLengthsByRounds_38 rfl hl (by decide) rfl (fun ls hl => ?_)
          refine x_iconst hx hb dX5_findLengthsByRounds_39 ?_
          refine lv_istore (lv' := [(5, .int (iZ 0)), (3, .int (iZ 0)), (4, .int (iZ r)), (0, .ref (xad E 75)), (1, .ref (xad E b)), (2, .int (iZ w))]) hx hb dX5_findLengthsByRounds_40 hl (by decide) rfl (fun ls hl => ?_)
          have K42 : ∀ (nK : Nat) (ch2 : Bool) (k : Int) (R2 : Int → Int) (σ15 : xW) (H : Heap) (locs : List Loc) (ls : Array Slot), (25 - k).toNat < nK → (0 ≤ k ∧ k ≤ 25) → (rpI (Gw op lk kp w) (wc w) k R R2 ch2) → (∀ c, 0 ≤ R2 c ∧ R2 c ≤ 25) → σ15 b = oB 0 [.ref (xad E (b + 1)), .ref (xad E (b + 2)), .ref (xad E (b + 3)), .ref (xad E (b + 4)), .ref (xad E (b + 5)), .int (iZ pn), .int (iZ nw), .int (iZ sh), .long (lZ wk)] → σ15 (b + 1) = aI E 25 op → σ15 (b + 2) = aI E 25 lk → σ15 (b + 3) = aI E 6 kp → σ15 (b + 4) = aI E 3 wc → σ15 (b + 5) = aI E 5 ro0 → σ15 75 = oB 3 [.ref (xad E 76), .ref (xad E 77), .ref (xad E 78), .ref (xad E 79), .ref (xad E 80)] → σ15 76 = aI E 25 le → σ15 77 = aI E 25 R2 → σ15 78 = aI E 25 fs → σ15 79 = aI E 25 qu → σ15 80 = aI E 25 gr → (∀ j : Nat, j ≠ 77 → σ15 j = σ9 j) → Hx E (xA E s.heap.size) s.heap σ15 H locs → lv_has ls 6 [(5, .int (iZ k)), (3, .int (iZ (b2 ch2))), (4, .int (iZ r)), (0, .ref (xad E 75)), (1, .ref (xad E b)), (2, .int (iZ w))] → W p l e rm_X5_findLengthsByRounds s m args below meth c H locs 0 0 Q (F0 m 42 ls []) := by
            intro n42
            induction n42 with
            | zero =>
              intro ch2 k R2 σ15 H locs ls hm
              exact absurd hm (by first | exact Nat.not_lt_zero _ | omega)
            | succ n42 ih42 =>
              intro ch2 k R2 σ15 H locs ls hm42 hk hJ hR2 fb_0 fb_1 fb_2 fb_3 fb_4 fb_5 f75 f76 f77 f78 f79 f80 fr16 hH hl
              refine lv_iload hx hb dX5_findLengthsByRounds_42 (lv_at hl 0 rfl) ?_
              refine x_bipush hx hb dX5_findLengthsByRounds_44 (by decide) ?_
              refine x_icmp_ge (tgt := 80) hx hb dX5_findLengthsByRounds_46 (by decide) (by omega) (by decide) (fun c46 => ?_) (fun c46 => ?_)
              · refine x_iinc (lv' := [(4, .int (iZ (r + 1))), (5, .int (iZ k)), (3, .int (iZ (b2 ch2))), (0, .ref (xad E 75)), (1, .ref (xad E b)), (2, .int (iZ w))]) hx hb dX5_findLengthsByRounds_80 hl (k := 2) rfl (by decide) rfl (fun ls hl => ?_)
                refine lv_goto (tgt := 26) hx hb dX5_findLengthsByRounds_83 (by decide) ?_
                exact ih26 ch2 (r + 1) R2 σ15 _ _ _ (by omega) (by first | omega | rfl | assumption | simp_all) (by have e : k = 25 := (by omega); subst e; exact roI_next hG hst (by omega) hI hJ) fb_0 fb_1 fb_2 fb_3 fb_4 fb_5 f75 f76 f77 f78 f79 f80 (fun j hj0 => ((fr16 j (by omega)).trans (fr10 j (by omega)))) hH (lv_sub hl [0, 2, 3, 4, 5] rfl)
              · refine lv_aload_n hx hb dX5_findLengthsByRounds_49 rfl (lv_at hl 3 rfl) ?_
                refine x_get hx hb hts hown hK hH 75 (ltw (by decide)) f75 hinX5 rfl 1 (by decide) (List.mem_of_getElem? (i := 1) rfl) rfl dX5_findLengthsByRounds_50 ?_
                refine lv_iload hx hb dX5_findLengthsByRounds_53 (lv_at hl 0 rfl) ?_
                refine x_iald hx hb hK hH 77 (ltw (by decide)) f77 (by omega) (by omega) (by omega) dX5_findLengthsByRounds_55 ?_
                have hv17 := hR2 k
                refine x_bipush hx hb dX5_findLengthsByRounds_56 (by decide) ?_
                refine x_icmp_ge (tgt := 74) hx hb dX5_findLengthsByRounds_58 (by decide) (by omega) (by decide) (fun c58 => ?_) (fun c58 => ?_)
                · refine x_iinc (lv' := [(5, .int (iZ (k + 1))), (3, .int (iZ (b2 ch2))), (4, .int (iZ r)), (0, .ref (xad E 75)), (1, .ref (xad E b)), (2, .int (iZ w))]) hx hb dX5_findLengthsByRounds_74 hl (k := 0) rfl (by decide) rfl (fun ls hl => ?_)
                  refine lv_goto (tgt := 42) hx hb dX5_findLengthsByRounds_77 (by decide) ?_
                  exact ih42 ch2 (k + 1) R2 σ15 _ _ _ (by omega) (by first | omega | rfl | assumption | simp_all) (by first | exact rpI_skip hJ (by omega) | (have h9 := rpI_low hJ (by omega) (by omega) (by assumption); simp_all; done)) (by first | exact hR2 | (have h9 := rpI_low hJ (by omega) (by omega) (by assumption); exact h9.1)) fb_0 fb_1 fb_2 fb_3 fb_4 fb_5 f75 f76 f77 f78 f79 f80 (fun j hj0 => (fr16 j (by omega))) hH (lv_sub hl [0, 1, 2, 3, 4, 5] rfl)
                · refine lv_aload_n hx hb dX5_findLengthsByRounds_61 rfl (lv_at hl 3 rfl) ?_
                  refine lv_aload_n hx hb dX5_findLengthsByRounds_62 rfl (lv_at hl 4 rfl) ?_
                  refine lv_iload_n hx hb dX5_findLengthsByRounds_63 rfl (lv_at hl 5 rfl) ?_
                  refine lv_iload hx hb dX5_findLengthsByRounds_64 (lv_at hl 0 rfl) ?_
                  refine x_cVI (As := [.ref (xad E b), .int (iZ w), .int (iZ k)]) (rest := []) hx hb hml hts hown hK hST hOK hH 75 (c_X5_lowerNeighbours l E ST hSF σ15 b w k op lk kp wc pn nw sh wk le R2 fs qu gr ⟨fb_0, fb_1, fb_2, fb_3, fb_4, _, fb_5⟩ ⟨f75, f76, f77, f78, f79, f80⟩ (by omega) (by omega) (by omega) (by omega) (by assumption)) (cwV 3 hts gX5_findLengthsByRounds_X5_lowerNeighbours rfl rfl rfl (by decide +kernel) ⟨Nat.le_of_ble_eq_true rfl, Nat.le_of_ble_eq_true rfl⟩) (ltw (by decide)) f75 rfl rfl hl.1 rfl (Nat.le_of_ble_eq_true rfl) dX5_findLengthsByRounds_66 ⟨Nat.le_of_ble_eq_true rfl, Nat.le_of_ble_eq_true rfl⟩ (fun z18 σ19 H locs hp20 hH => ?_)
                  obtain ⟨hz26, ⟨lb_22, rl1_23, ⟨f75, f76, f77, f78, f79, f80⟩, hzb, hf25⟩, fr21⟩ := hp20
                  subst hzb
                  have fb_0 : σ19 b = oB 0 [.ref (xad E (b + 1)), .ref (xad E (b + 2)), .ref (xad E (b + 3)), .ref (xad E (b + 4)), .ref (xad E (b + 5)), .int (iZ pn), .int (iZ nw), .int (iZ sh), .long (lZ wk)] := (fr21 b (by omega)).trans fb_0
                  have fb_1 : σ19 (b + 1) = aI E 25 op := (fr21 (b + 1) (by omega)).trans fb_1
                  have fb_2 : σ19 (b + 2) = aI E 25 lk := (fr21 (b + 2) (by omega)).trans fb_2
                  have fb_3 : σ19 (b + 3) = aI E 6 kp := (fr21 (b + 3) (by omega)).trans fb_3
                  have fb_4 : σ19 (b + 4) = aI E 3 wc := (fr21 (b + 4) (by omega)).trans fb_4
                  have fb_5 : σ19 (b + 5) = aI E 5 ro0 := (fr21 (b + 5) (by omega)).trans fb_5
                  refine x_ifb_eq (tgt := 74) hx hb dX5_findLengthsByRounds_69 (by decide) (fun c69 => ?_) (fun c69 => ?_)
                  · refine x_iinc (lv' := [(5, .int (iZ (k + 1))), (3, .int (iZ (b2 ch2))), (4, .int (iZ r)), (0, .ref (xad E 75)), (1, .ref (xad E b)), (2, .int (iZ w))]) hx hb dX5_findLengthsByRounds_74 hl (k := 0) rfl (by decide) rfl (fun ls hl => ?_)
                    refine lv_goto (tgt := 42) hx hb dX5_findLengthsByRounds_77 (by decide) ?_
                    exact ih42 ch2 (k + 1) rl1_23 σ19 _ _ _ (by omega) (by first | omega | rfl | assumption | simp_all) (by first | exact rpI_skip hJ (by omega) | (have h9 := rpI_low hJ (by omega) (by omega) (by assumption); simp_all; done)) (by first | exact hR2 | (have h9 := rpI_low hJ (by omega) (by omega) (by assumption); exact h9.1)) fb_0 fb_1 fb_2 fb_3 fb_4 fb_5 f75 f76 f77 f78 f79 f80 (fun j hj0 => ((fr21 j (by omega)).trans (fr16 j (by omega)))) hH (lv_sub hl [0, 1, 2, 3, 4, 5] rfl)
                  · refine x_iconst hx hb dX5_findLengthsByRounds_72 ?_
                    refine lv_istore_n (lv' := [(3, .int (iZ 1)), (5, .int (iZ k)), (4, .int (iZ r)), (0, .ref (xad E 75)), (1, .ref (xad E b)), (2, .int (iZ w))]) hx hb dX5_findLengthsByRounds_73 rfl hl (by decide) rfl (fun ls hl => ?_)
                    refine x_iinc (lv' := [(5, .int (iZ (k + 1))), (3, .int (iZ 1)), (4, .int (iZ r)), (0, .ref (xad E 75)), (1, .ref (xad E b)), (2, .int (iZ w))]) hx hb dX5_findLengthsByRounds_74 hl (k := 1) rfl (by decide) rfl (fun ls hl => ?_)
                    refine lv_goto (tgt := 42) hx hb dX5_findLengthsByRounds_77 (by decide) ?_
                    exact ih42 true (k + 1) rl1_23 σ19 _ _ _ (by omega) (by first | omega | rfl | assumption | simp_all) (by first | exact rpI_skip hJ (by omega) | (have h9 := rpI_low hJ (by omega) (by omega) (by assumption); simp_all; done)) (by first | exact hR2 | (have h9 := rpI_low hJ (by omega) (by omega) (by assumption); exact h9.1)) fb_0 fb_1 fb_2 fb_3 fb_4 fb_5 f75 f76 f77 f78 f79 f80 (fun j hj0 => ((fr21 j (by omega)).trans (fr16 j (by omega)))) hH (lv_sub hl [0, 1, 2, 3, 4, 5] rfl)
          exact K42 26 false 0 R σ9 _ _ _ (by first | omega | decide) (by first | omega | rfl | assumption | simp_all) (by exact rpI_0 hI) (by exact hI.1) fb_0 fb_1 fb_2 fb_3 fb_4 fb_5 f75 f76 f77 f78 f79 f80 (fun j _ => rfl) hH (lv_sub hl [0, 1, 2, 3, 4, 5] rfl)
  exact K26 26 true 0 (ui (fun _ => 25) (wc w) 0) σ7 _ _ _ (by first | omega | decide) (by first | omega | rfl | assumption | simp_all) (by exact roI_0 (fun c => rfl)) fb_0 fb_1 fb_2 fb_3 fb_4 fb_5 f75 f76 f77 f78 f79 f80 (fun j _ => rfl) hH (lv_sub hl [0, 1, 2, 3, 4] rfl)

def rm_X5_lengthsAgree : Room := { frames := 4, cells := 0, slots := 0, locals := 98 }
set_option maxRecDepth 100000 in
set_option maxHeartbeats 4000000 in
theorem c_X5_lengthsAgree (l : Launch) (E : xE) (ST : xST) (hSF : SF ST) (σ : xW) (b : Nat) (w : Int) (op : Int → Int) (lk : Int → Int) (kp : Int → Int) (wc : Int → Int) (pn : Int) (nw : Int) (sh : Int) (wk : Int) (le : Int → Int) (rl : Int → Int) (fs : Int → Int) (qu : Int → Int) (gr : Int → Int) (hr0 : bd E σ b op lk kp wc pn nw sh wk) (hr1 : sr E σ le rl fs qu gr) (hB : BI op lk kp wc pn nw) (hw : 0 ≤ w ∧ w < nw) (hbs : b + 6 ≤ 75) : CI l E ST yX5_lengthsAgree wsX5_lengthsAgree rm_X5_lengthsAgree [.ref (xad E 75), .ref (xad E b), .int (iZ w)] σ (fun (z : Int) (u : xW) => z = b2 true ∧ (∃ (fs1 qu1 : Int → Int), sr E u (dz (Gw op lk kp w) (wc w)) (dz (Gw op lk kp w) (wc w)) fs1 qu1 gr) ∧ ∀ j : Nat, j ≠ 76 → j ≠ 77 → j ≠ 78 → j ≠ 79 → u j = σ j) := by
  obtain ⟨fb_0, fb_1, fb_2, fb_3, fb_4, ro0, fb_5⟩ := hr0
  obtain ⟨f75, f76, f77, f78, f79, f80⟩ := hr1
  refine CI_of (by decide) rfl (Nat.le_of_ble_eq_true rfl) ?_
  intro p e s m args below meth c Q ls G hH hl hQ
  obtain ⟨hx, hb, hml, hown, hts, hK, hST, hlocks, hr, hno⟩ := G
  have hOK := hSF.1
  have hown : s.vm.findClass RX5 = some m.cls := hown
  have hl : lv_has ls 4 [(0, .ref (xad E 75)), (1, .ref (xad E b)), (2, .int (iZ w))] := hl
  have hinX5 : ∀ w ∈ u_ws RX5 TX5 5, w ∈ wsX5_lengthsAgree := fun w h => (List.mem_cons_of_mem _ (List.mem_append_left _ (List.mem_append_right _ h)))
  obtain ⟨hop, hlk, hkp, hwc, hpn, hnw⟩ := id hB
  have hdr := dz_rg (G := Gw op lk kp w) Gw_ok (hwc w)
  refine lv_aload_n hx hb dX5_lengthsAgree_0 rfl (lv_at hl 0 rfl) ?_
  refine lv_aload_n hx hb dX5_lengthsAgree_1 rfl (lv_at hl 1 rfl) ?_
  refine lv_iload_n hx hb dX5_lengthsAgree_2 rfl (lv_at hl 2 rfl) ?_
  refine x_cVV (As := [.ref (xad E b), .int (iZ w)]) (rest := []) hx hb hml hts hown hK hST hOK hH 75 (c_X5_findPaths l E ST hSF σ b w op lk kp wc pn nw sh wk le rl fs qu gr ⟨fb_0, fb_1, fb_2, fb_3, fb_4, _, fb_5⟩ ⟨f75, f76, f77, f78, f79, f80⟩ (by omega) (by omega) (by omega)) (cwV 2 hts gX5_lengthsAgree_X5_findPaths rfl rfl rfl (by decide +kernel) ⟨Nat.le_of_ble_eq_true rfl, Nat.le_of_ble_eq_true rfl⟩) (ltw (by decide)) f75 rfl rfl hl.1 rfl (Nat.le_of_ble_eq_true rfl) dX5_lengthsAgree_3 ⟨Nat.le_of_ble_eq_true rfl, Nat.le_of_ble_eq_true rfl⟩ (fun σ2 H locs hp3 hH => ?_)
  obtain ⟨⟨fs1_5, qu1_6, ⟨f75, f76, f77, f78, f79, f80⟩, hf7⟩, fr4⟩ := hp3
  have fb_0 : σ2 b = oB 0 [.ref (xad E (b + 1)), .ref (xad E (b + 2)), .ref (xad E (b + 3)), .ref (xad E (b + 4)), .ref (xad E (b + 5)), .int (iZ pn), .int (iZ nw), .int (iZ sh), .long (lZ wk)] := (fr4 b (by omega) (by omega) (by omega)).trans fb_0
  have fb_1 : σ2 (b + 1) = aI E 25 op := (fr4 (b + 1) (by omega) (by omega) (by omega)).trans fb_1
  have fb_2 : σ2 (b + 2) = aI E 25 lk := (fr4 (b + 2) (by omega) (by omega) (by omega)).trans fb_2
  have fb_3 : σ2 (b + 3) = aI E 6 kp := (fr4 (b + 3) (by omega) (by omega) (by omega)).trans fb_3
  have fb_4 : σ2 (b + 4) = aI E 3 wc := (fr4 (b + 4) (by omega) (by omega) (by omega)).trans fb_4
  have fb_5 : σ2 (b + 5) = aI E 5 ro0 := (fr4 (b + 5) (by omega) (by omega) (by omega)).trans fb_5
  refine lv_aload_n hx hb dX5_lengthsAgree_6 rfl (lv_at hl 0 rfl) ?_
  refine lv_aload_n hx hb dX5_lengthsAgree_7 rfl (lv_at hl 1 rfl) ?_
  refine lv_iload_n hx hb dX5_lengthsAgree_8 rfl (lv_at hl 2 rfl) ?_
  refine x_cVV (As := [.ref (xad E b), .int (iZ w)]) (rest := []) hx hb hml hts hown hK hST hOK hH 75 (c_X5_findLengthsByRounds l E ST hSF σ2 b w op lk kp wc pn nw sh wk (dz (Gw op lk kp w) (wc w)) rl fs1_5 qu1_6 gr ⟨fb_0, fb_1, fb_2, fb_3, fb_4, _, fb_5⟩ ⟨f75, f76, f77, f78, f79, f80⟩ (by omega) (by omega) (by omega)) (cwV 2 hts gX5_lengthsAgree_X5_findLengthsByRounds rfl rfl rfl (by decide +kernel) ⟨Nat.le_of_ble_eq_true rfl, Nat.le_of_ble_eq_true rfl⟩) (ltw (by decide)) f75 rfl rfl hl.1 rfl (Nat.le_of_ble_eq_true rfl) dX5_lengthsAgree_9 ⟨Nat.le_of_ble_eq_true rfl, Nat.le_of_ble_eq_true rfl⟩ (fun σ10 H locs hp11 hH => ?_)
  obtain ⟨⟨f75, f76, f77, f78, f79, f80⟩, fr12⟩ := hp11
  have fb_0 : σ10 b = oB 0 [.ref (xad E (b + 1)), .ref (xad E (b + 2)), .ref (xad E (b + 3)), .ref (xad E (b + 4)), .ref (xad E (b + 5)), .int (iZ pn), .int (iZ nw), .int (iZ sh), .long (lZ wk)] := (fr12 b (by omega)).trans fb_0
  have fb_1 : σ10 (b + 1) = aI E 25 op := (fr12 (b + 1) (by omega)).trans fb_1
  have fb_2 : σ10 (b + 2) = aI E 25 lk := (fr12 (b + 2) (by omega)).trans fb_2
  have fb_3 : σ10 (b + 3) = aI E 6 kp := (fr12 (b + 3) (by omega)).trans fb_3
  have fb_4 : σ10 (b + 4) = aI E 3 wc := (fr12 (b + 4) (by omega)).trans fb_4
  have fb_5 : σ10 (b + 5) = aI E 5 ro0 := (fr12 (b + 5) (by omega)).trans fb_5
  refine x_iconst hx hb dX5_lengthsAgree_12 ?_
  refine lv_istore_n (lv' := [(3, .int (iZ 0)), (0, .ref (xad E 75)), (1, .ref (xad E b)), (2, .int (iZ w))]) hx hb dX5_lengthsAgree_13 rfl hl (by decide) rfl (fun ls hl => ?_)
  have K14 : ∀ (nK : Nat) (i : Int) (H : Heap) (locs : List Loc) (ls : Array Slot), (25 - i).toNat < nK → (0 ≤ i ∧ i ≤ 25) → Hx E (xA E s.heap.size) s.heap σ10 H locs → lv_has ls 4 [(3, .int (iZ i)), (0, .ref (xad E 75)), (1, .ref (xad E b)), (2, .int (iZ w))] → W p l e rm_X5_lengthsAgree s m args below meth c H locs 0 0 Q (F0 m 14 ls []) := by
    intro n14
    induction n14 with
    | zero =>
      intro i H locs ls hm
      exact absurd hm (by first | exact Nat.not_lt_zero _ | omega)
    | succ n14 ih14 =>
      intro i H locs ls hm14 hi  hH hl
      refine lv_iload_n hx hb dX5_lengthsAgree_14 rfl (lv_at hl 0 rfl) ?_
      refine x_bipush hx hb dX5_lengthsAgree_15 (by decide) ?_
      refine x_icmp_ge (tgt := 43) hx hb dX5_lengthsAgree_17 (by decide) (by omega) (by decide) (fun c17 => ?_) (fun c17 => ?_)
      · refine x_iconst hx hb dX5_lengthsAgree_43 ?_
        subst hQ
        exact x_zret (b := true) hx hb hr hlocks hH (Nat.le_of_ble_eq_true rfl) (Nat.le_of_ble_eq_true rfl) ⟨congrArg b2 (show true = true from (by rfl)), ⟨fs1_5, qu1_6, ⟨f75, f76, f77, f78, f79, f80⟩⟩, fun j hj0 hj1 hj2 hj3 => ((fr12 j (by omega)).trans (fr4 j (by omega) (by omega) (by omega)))⟩ dX5_lengthsAgree_44
      · refine lv_aload_n hx hb dX5_lengthsAgree_20 rfl (lv_at hl 1 rfl) ?_
        refine x_get hx hb hts hown hK hH 75 (ltw (by decide)) f75 hinX5 rfl 0 (by decide) (List.mem_of_getElem? (i := 1) rfl) rfl dX5_lengthsAgree_21 ?_
        refine lv_iload_n hx hb dX5_lengthsAgree_24 rfl (lv_at hl 0 rfl) ?_
        refine x_iald hx hb hK hH 76 (ltw (by decide)) f76 (by omega) (by omega) (by omega) dX5_lengthsAgree_25 ?_
        refine lv_aload_n hx hb dX5_lengthsAgree_26 rfl (lv_at hl 1 rfl) ?_
        refine x_get hx hb hts hown hK hH 75 (ltw (by decide)) f75 hinX5 rfl 1 (by decide) (List.mem_of_getElem? (i := 2) rfl) rfl dX5_lengthsAgree_27 ?_
        refine lv_iload_n hx hb dX5_lengthsAgree_30 rfl (lv_at hl 0 rfl) ?_
        refine x_iald hx hb hK hH 77 (ltw (by decide)) f77 (by omega) (by omega) (by omega) dX5_lengthsAgree_31 ?_
        have hv15 := hdr i
        refine x_icmp_eq (tgt := 37) hx hb dX5_lengthsAgree_32 (by decide) (by omega) (by omega) (fun c32 => ?_) (fun c32 => ?_)
        · refine x_iinc (lv' := [(3, .int (iZ (i + 1))), (0, .ref (xad E 75)), (1, .ref (xad E b)), (2, .int (iZ w))]) hx hb dX5_lengthsAgree_37 hl (k := 0) rfl (by decide) rfl (fun ls hl => ?_)
          refine lv_goto (tgt := 14) hx hb dX5_lengthsAgree_40 (by decide) ?_
          exact ih14 (i + 1) _ _ _ (by omega) (by first | omega | rfl | assumption | simp_all)  hH (lv_sub hl [0, 1, 2, 3] rfl)
        · exact absurd rfl c32
  exact K14 26 0 _ _ _ (by first | omega | decide) (by first | omega | rfl | assumption | simp_all)  hH (lv_sub hl [0, 1, 2, 3] rfl)

def rm_X5_countReached : Room := { frames := 0, cells := 0, slots := 0, locals := 0 }
set_option maxRecDepth 100000 in
set_option maxHeartbeats 4000000 in
theorem c_X5_countReached (l : Launch) (E : xE) (ST : xST) (hSF : SF ST) (σ : xW) (le : Int → Int) (rl : Int → Int) (fs : Int → Int) (qu : Int → Int) (gr : Int → Int) (hr0 : sr E σ le rl fs qu gr) (hle : ∀ c, 0 ≤ le c ∧ le c ≤ 25) : CI l E ST yX5_countReached wsX5_countReached rm_X5_countReached [.ref (xad E 75)] σ (fun (z : Int) (u : xW) => z = cnbK (fun c => decide (le c < 25)) 25 ∧ u = σ) := by
  obtain ⟨f75, f76, f77, f78, f79, f80⟩ := hr0
  refine CI_of (by decide) rfl (Nat.le_of_ble_eq_true rfl) ?_
  intro p e s m args below meth c Q ls G hH hl hQ
  obtain ⟨hx, hb, hml, hown, hts, hK, hST, hlocks, hr, hno⟩ := G
  have hOK := hSF.1
  have hown : s.vm.findClass RX5 = some m.cls := hown
  have hl : lv_has ls 3 [(0, .ref (xad E 75))] := hl
  have hinX5 : ∀ w ∈ u_ws RX5 TX5 5, w ∈ wsX5_countReached := fun w h => (List.mem_cons_of_mem _ (List.mem_append_right _ h))
  refine x_iconst hx hb dX5_countReached_0 ?_
  refine lv_istore_n (lv' := [(1, .int (iZ 0)), (0, .ref (xad E 75))]) hx hb dX5_countReached_1 rfl hl (by decide) rfl (fun ls hl => ?_)
  refine x_iconst hx hb dX5_countReached_2 ?_
  refine lv_istore_n (lv' := [(2, .int (iZ 0)), (1, .int (iZ 0)), (0, .ref (xad E 75))]) hx hb dX5_countReached_3 rfl hl (by decide) rfl (fun ls hl => ?_)
  have K4 : ∀ (nK : Nat) (cnt i : Int) (H : Heap) (locs : List Loc) (ls : Array Slot), (25 - i).toNat < nK → (0 ≤ i ∧ i ≤ 25) → (cnt = cnbK (fun c => decide (le c < 25)) i) → (0 ≤ cnt ∧ cnt ≤ i) → Hx E (xA E s.heap.size) s.heap σ H locs → lv_has ls 3 [(2, .int (iZ i)), (1, .int (iZ cnt)), (0, .ref (xad E 75))] → W p l e rm_X5_countReached s m args below meth c H locs 0 0 Q (F0 m 4 ls []) := by
    intro n4
    induction n4 with
    | zero =>
      intro cnt i H locs ls hm
      exact absurd hm (by first | exact Nat.not_lt_zero _ | omega)
    | succ n4 ih4 =>
      intro cnt i H locs ls hm4 hi hcnt hcb  hH hl
      refine lv_iload_n hx hb dX5_countReached_4 rfl (lv_at hl 0 rfl) ?_
      refine x_bipush hx hb dX5_countReached_5 (by decide) ?_
      refine x_icmp_ge (tgt := 30) hx hb dX5_countReached_7 (by decide) (by omega) (by decide) (fun c7 => ?_) (fun c7 => ?_)
      · refine lv_iload_n hx hb dX5_countReached_30 rfl (lv_at hl 1 rfl) ?_
        subst hQ
        exact x_iret hx hb hr hlocks hH (Nat.le_of_ble_eq_true rfl) (Nat.le_of_ble_eq_true rfl) ⟨(show cnt = (cnbK (fun c => decide (le c < 25)) 25) from (by have e : i = 25 := (by omega); subst e; exact hcnt)), rfl⟩ dX5_countReached_31
      · refine lv_aload_n hx hb dX5_countReached_10 rfl (lv_at hl 2 rfl) ?_
        refine x_get hx hb hts hown hK hH 75 (ltw (by decide)) f75 hinX5 rfl 0 (by decide) (List.mem_of_getElem? (i := 1) rfl) rfl dX5_countReached_11 ?_
        refine lv_iload_n hx hb dX5_countReached_14 rfl (lv_at hl 0 rfl) ?_
        refine x_iald hx hb hK hH 76 (ltw (by decide)) f76 (by omega) (by omega) (by omega) dX5_countReached_15 ?_
        have hv2 := hle i
        refine x_bipush hx hb dX5_countReached_16 (by decide) ?_
        refine x_icmp_ge (tgt := 24) hx hb dX5_countReached_18 (by decide) (by omega) (by decide) (fun c18 => ?_) (fun c18 => ?_)
        · refine x_iinc (lv' := [(2, .int (iZ (i + 1))), (1, .int (iZ cnt)), (0, .ref (xad E 75))]) hx hb dX5_countReached_24 hl (k := 0) rfl (by decide) rfl (fun ls hl => ?_)
          refine lv_goto (tgt := 4) hx hb dX5_countReached_27 (by decide) ?_
          exact ih4 cnt (i + 1) _ _ _ (by omega) (by first | omega | rfl | assumption | simp_all) (by rw [cnbK_s (by omega), ← hcnt]; first | (rw [decide_eq_true (show le i < 25 by omega)]; rfl) | (rw [decide_eq_false (show ¬ le i < 25 by omega)]; simp [b2])) (by first | omega | rfl | assumption | simp_all)  hH (lv_sub hl [0, 1, 2] rfl)
        · refine x_iinc (lv' := [(1, .int (iZ (cnt + 1))), (2, .int (iZ i)), (0, .ref (xad E 75))]) hx hb dX5_countReached_21 hl (k := 1) rfl (by decide) rfl (fun ls hl => ?_)
          refine x_iinc (lv' := [(2, .int (iZ (i + 1))), (1, .int (iZ (cnt + 1))), (0, .ref (xad E 75))]) hx hb dX5_countReached_24 hl (k := 1) rfl (by decide) rfl (fun ls hl => ?_)
          refine lv_goto (tgt := 4) hx hb dX5_countReached_27 (by decide) ?_
          exact ih4 (cnt + 1) (i + 1) _ _ _ (by omega) (by first | omega | rfl | assumption | simp_all) (by rw [cnbK_s (by omega), ← hcnt]; first | (rw [decide_eq_true (show le i < 25 by omega)]; rfl) | (rw [decide_eq_false (show ¬ le i < 25 by omega)]; simp [b2])) (by first | omega | rfl | assumption | simp_all)  hH (lv_sub hl [0, 1, 2] rfl)
  exact K4 26 0 0 _ _ _ (by first | omega | decide) (by first | omega | rfl | assumption | simp_all) (by rfl) (by first | omega | rfl | assumption | simp_all)  hH (lv_sub hl [0, 1, 2] rfl)

def rm_X1_moveWalker : Room := { frames := 3, cells := 0, slots := 0, locals := 74 }
set_option maxRecDepth 100000 in
set_option maxHeartbeats 4000000 in
theorem c_X1_moveWalker (l : Launch) (E : xE) (ST : xST) (hSF : SF ST) (σ : xW) (b : Nat) (w : Int) (r : Int) (c0 : Int) (op : Int → Int) (lk : Int → Int) (kp : Int → Int) (wc : Int → Int) (pn : Int) (nw : Int) (sh : Int) (wk : Int) (le : Int → Int) (rl : Int → Int) (fs : Int → Int) (qu : Int → Int) (gr : Int → Int) (hr0 : bd E σ b op lk kp wc pn nw sh wk) (hr1 : sr E σ le rl fs qu gr) (hB : BI op lk kp wc pn nw) (hw : rg w) (hbs : b + 6 ≤ 75) (hr : rg r) (hc : rg c0) : CI l E ST yX1_moveWalker wsX1_moveWalker rm_X1_moveWalker [.ref (xad E b), .ref (xad E 75), .int (iZ w), .int (iZ r), .int (iZ c0)] σ (fun (z : Int) (u : xW) => z = (walkF op lk kp wc pn nw sh wk w r c0).1 ∧ (∃ (op1 lk1 kp1 wc1 : Int → Int) (pn1 nw1 sh1 wk1 : Int) (le1 fs1 qu1 : Int → Int), bd E u b op1 lk1 kp1 wc1 pn1 nw1 sh1 wk1 ∧ sr E u le1 rl fs1 qu1 gr ∧ ((op1, lk1, kp1, wc1, pn1, nw1, sh1, wk1) = (walkF op lk kp wc pn nw sh wk w r c0).2)) ∧ ∀ j : Nat, (j < b ∨ b + 6 ≤ j) → j ≠ 76 → j ≠ 78 → j ≠ 79 → u j = σ j) := by
  obtain ⟨fb_0, fb_1, fb_2, fb_3, fb_4, ro0, fb_5⟩ := hr0
  obtain ⟨f75, f76, f77, f78, f79, f80⟩ := hr1
  refine CI_of (by decide) rfl (Nat.le_of_ble_eq_true rfl) ?_
  intro p e s m args below meth c Q ls G hH hl hQ
  obtain ⟨hx, hb, hml, hown, hts, hK, hST, hlocks, hr, hno⟩ := G
  have hOK := hSF.1
  have hown : s.vm.findClass RX1 = some m.cls := hown
  have hl : lv_has ls 7 [(0, .ref (xad E b)), (1, .ref (xad E 75)), (2, .int (iZ w)), (3, .int (iZ r)), (4, .int (iZ c0))] := hl
  have hinX1 : ∀ w ∈ u_ws RX1 TX1 9, w ∈ wsX1_moveWalker := fun w h => (List.mem_cons_of_mem _ (List.mem_append_left _ (List.mem_append_right _ h)))
  have hinX5 : ∀ w ∈ u_ws RX5 TX5 5, w ∈ wsX1_moveWalker := fun w h => (List.mem_cons_of_mem _ (List.mem_append_right _ h))
  obtain ⟨hop, hlk, hkp, hwc, hpn, hnw⟩ := id hB
  refine lv_aload_n hx hb dX1_moveWalker_0 rfl (lv_at hl 0 rfl) ?_
  refine lv_iload_n hx hb dX1_moveWalker_1 rfl (lv_at hl 2 rfl) ?_
  refine x_cVID (As := [.int (iZ w)]) (rest := []) hx hb hml hts hown hK hST hOK hH b (c_X1_isWalker l E ST hSF σ b w op lk kp wc pn nw sh wk ⟨fb_0, fb_1, fb_2, fb_3, fb_4, _, fb_5⟩ (by omega) (by omega) (by omega)) (cwV 1 hts gX1_moveWalker_X1_isWalker rfl rfl rfl (by decide +kernel) ⟨Nat.le_of_ble_eq_true rfl, Nat.le_of_ble_eq_true rfl⟩) (by omega) fb_0 rfl rfl hl.1 rfl (Nat.le_of_ble_eq_true rfl) dX1_moveWalker_2 ⟨Nat.le_of_ble_eq_true rfl, Nat.le_of_ble_eq_true rfl⟩ (fun z u h => h) (fun H locs hH => ?_)
  refine x_ifb_eq (tgt := 23) hx hb dX1_moveWalker_5 (by decide) (fun c5 => ?_) (fun c5 => ?_)
  · have c5 := of_decide_eq_false c5
    refine x_iconst hx hb dX1_moveWalker_23 ?_
    subst hQ
    exact x_iret hx hb hr hlocks hH (Nat.le_of_ble_eq_true rfl) (Nat.le_of_ble_eq_true rfl) ⟨(show (-1) = ((walkF op lk kp wc pn nw sh wk w r c0).1) from (by unfold walkF; (repeat' split) <;> first | rfl | (exfalso; omega))), ⟨op, lk, kp, wc, pn, nw, sh, wk, le, fs, qu, ⟨fb_0, fb_1, fb_2, fb_3, fb_4, _, fb_5⟩, ⟨f75, f76, f77, f78, f79, f80⟩, (by unfold walkF; (repeat' split) <;> first | rfl | (exfalso; omega))⟩, fun j hj0 hj1 hj2 hj3 => rfl⟩ dX1_moveWalker_24
  · have c5 := of_decide_eq_true c5
    refine lv_iload_n hx hb dX1_moveWalker_8 rfl (lv_at hl 3 rfl) ?_
    refine x_cSNID (As := [.int (iZ r)]) (rest := []) hx hb hml hts hown hK hST hOK hH (c_X6_isLine l E ST hSF σ r  (by omega)) ⟨va_cnB (host := "BrambleShift") 1 hts gX1_moveWalker_X6_isLine_n53 rfl rfl rfl (hSF.nest hST (List.mem_of_getElem? (i := 0) rfl)) (hts _ (List.mem_of_getElem? (i := 11) rfl)) (by decide +kernel) ⟨Nat.le_of_ble_eq_true rfl, Nat.le_of_ble_eq_true rfl⟩, hts _ (List.mem_of_getElem? (i := 10) rfl), trivial⟩ rfl hl.1 rfl (Nat.le_of_ble_eq_true rfl) dX1_moveWalker_9 ⟨Nat.le_of_ble_eq_true rfl, Nat.le_of_ble_eq_true rfl⟩ (fun z u h => h) (fun H locs hH => ?_)
    refine x_ifb_eq (tgt := 23) hx hb dX1_moveWalker_12 (by decide) (fun c12 => ?_) (fun c12 => ?_)
    · have c12 := of_decide_eq_false c12
      refine x_iconst hx hb dX1_moveWalker_23 ?_
      subst hQ
      exact x_iret hx hb hr hlocks hH (Nat.le_of_ble_eq_true rfl) (Nat.le_of_ble_eq_true rfl) ⟨(show (-1) = ((walkF op lk kp wc pn nw sh wk w r c0).1) from (by unfold walkF; (repeat' split) <;> first | rfl | (exfalso; omega))), ⟨op, lk, kp, wc, pn, nw, sh, wk, le, fs, qu, ⟨fb_0, fb_1, fb_2, fb_3, fb_4, _, fb_5⟩, ⟨f75, f76, f77, f78, f79, f80⟩, (by unfold walkF; (repeat' split) <;> first | rfl | (exfalso; omega))⟩, fun j hj0 hj1 hj2 hj3 => rfl⟩ dX1_moveWalker_24
    · have c12 := of_decide_eq_true c12
      refine lv_iload hx hb dX1_moveWalker_15 (lv_at hl 4 rfl) ?_
      refine x_cSNID (As := [.int (iZ c0)]) (rest := []) hx hb hml hts hown hK hST hOK hH (c_X6_isLine l E ST hSF σ c0  (by omega)) ⟨va_cnB (host := "BrambleShift") 1 hts gX1_moveWalker_X6_isLine_n53 rfl rfl rfl (hSF.nest hST (List.mem_of_getElem? (i := 0) rfl)) (hts _ (List.mem_of_getElem? (i := 11) rfl)) (by decide +kernel) ⟨Nat.le_of_ble_eq_true rfl, Nat.le_of_ble_eq_true rfl⟩, hts _ (List.mem_of_getElem? (i := 10) rfl), trivial⟩ rfl hl.1 rfl (Nat.le_of_ble_eq_true rfl) dX1_moveWalker_17 ⟨Nat.le_of_ble_eq_true rfl, Nat.le_of_ble_eq_true rfl⟩ (fun z u h => h) (fun H locs hH => ?_)
      refine x_ifb_ne (tgt := 25) hx hb dX1_moveWalker_20 (by decide) (fun c20 => ?_) (fun c20 => ?_)
      · have c20 := of_decide_eq_true c20
        refine lv_iload_n hx hb dX1_moveWalker_25 rfl (lv_at hl 3 rfl) ?_
        refine x_iconst hx hb dX1_moveWalker_26 ?_
        refine x_imul hx hb dX1_moveWalker_27 ?_
        refine lv_iload hx hb dX1_moveWalker_28 (lv_at hl 4 rfl) ?_
        refine x_iadd hx hb dX1_moveWalker_30 ?_
        refine lv_istore (lv' := [(5, .int (iZ ((r * 5) + c0))), (0, .ref (xad E b)), (1, .ref (xad E 75)), (2, .int (iZ w)), (3, .int (iZ r)), (4, .int (iZ c0))]) hx hb dX1_moveWalker_31 hl (by decide) rfl (fun ls hl => ?_)
        refine lv_aload_n hx hb dX1_moveWalker_33 rfl (lv_at hl 1 rfl) ?_
        refine x_get hx hb hts hown hK hH b (by omega) fb_0 hinX1 rfl 3 (by decide) (List.mem_of_getElem? (i := 1) rfl) rfl dX1_moveWalker_34 ?_
        refine lv_iload_n hx hb dX1_moveWalker_37 rfl (lv_at hl 3 rfl) ?_
        refine x_iald hx hb hK hH (b + 4) (by omega) fb_4 (by omega) (by omega) (by omega) dX1_moveWalker_38 ?_
        have hv10 := hwc w
        refine lv_iload hx hb dX1_moveWalker_39 (lv_at hl 0 rfl) ?_
        refine x_icmp_ne (tgt := 47) hx hb dX1_moveWalker_41 (by decide) (by omega) (by omega) (fun c41 => ?_) (fun c41 => ?_)
        · have hdr := dz_rg (G := Gw op lk kp w) (st := wc w) Gw_ok (hwc w)
          refine lv_aload_n hx hb dX1_moveWalker_47 rfl (lv_at hl 2 rfl) ?_
          refine lv_aload_n hx hb dX1_moveWalker_48 rfl (lv_at hl 1 rfl) ?_
          refine lv_iload_n hx hb dX1_moveWalker_49 rfl (lv_at hl 3 rfl) ?_
          refine x_cVV (As := [.ref (xad E b), .int (iZ w)]) (rest := []) hx hb hml hts hown hK hST hOK hH 75 (c_X5_findPaths l E ST hSF σ b w op lk kp wc pn nw sh wk le rl fs qu gr ⟨fb_0, fb_1, fb_2, fb_3, fb_4, _, fb_5⟩ ⟨f75, f76, f77, f78, f79, f80⟩ (by omega) (by omega) (by omega)) (cwV 2 hts gX1_moveWalker_X5_findPaths rfl rfl rfl (by decide +kernel) ⟨Nat.le_of_ble_eq_true rfl, Nat.le_of_ble_eq_true rfl⟩) (ltw (by decide)) f75 rfl rfl hl.1 rfl (Nat.le_of_ble_eq_true rfl) dX1_moveWalker_50 ⟨Nat.le_of_ble_eq_true rfl, Nat.le_of_ble_eq_true rfl⟩ (fun σ12 H locs hp13 hH => ?_)
          obtain ⟨⟨fs1_15, qu1_16, ⟨f75, f76, f77, f78, f79, f80⟩, hf17⟩, fr14⟩ := hp13
          have fb_0 : σ12 b = oB 0 [.ref (xad E (b + 1)), .ref (xad E (b + 2)), .ref (xad E (b + 3)), .ref (xad E (b + 4)), .ref (xad E (b + 5)), .int (iZ pn), .int (iZ nw), .int (iZ sh), .long (lZ wk)] := (fr14 b (by omega) (by omega) (by omega)).trans fb_0
          have fb_1 : σ12 (b + 1) = aI E 25 op := (fr14 (b + 1) (by omega) (by omega) (by omega)).trans fb_1
          have fb_2 : σ12 (b + 2) = aI E 25 lk := (fr14 (b + 2) (by omega) (by omega) (by omega)).trans fb_2
          have fb_3 : σ12 (b + 3) = aI E 6 kp := (fr14 (b + 3) (by omega) (by omega) (by omega)).trans fb_3
          have fb_4 : σ12 (b + 4) = aI E 3 wc := (fr14 (b + 4) (by omega) (by omega) (by omega)).trans fb_4
          have fb_5 : σ12 (b + 5) = aI E 5 ro0 := (fr14 (b + 5) (by omega) (by omega) (by omega)).trans fb_5
          refine lv_aload_n hx hb dX1_moveWalker_53 rfl (lv_at hl 2 rfl) ?_
          refine x_get hx hb hts hown hK hH 75 (ltw (by decide)) f75 hinX5 rfl 0 (by decide) (List.mem_of_getElem? (i := 2) rfl) rfl dX1_moveWalker_54 ?_
          refine lv_iload hx hb dX1_moveWalker_57 (lv_at hl 0 rfl) ?_
          refine x_iald hx hb hK hH 76 (ltw (by decide)) f76 (by omega) (by omega) (by omega) dX1_moveWalker_59 ?_
          have hd9 := hdr (r * 5 + c0)
          refine lv_istore (lv' := [(6, .int (iZ ((dz (Gw op lk kp w) (wc w)) ((r * 5) + c0)))), (5, .int (iZ ((r * 5) + c0))), (0, .ref (xad E b)), (1, .ref (xad E 75)), (2, .int (iZ w)), (3, .int (iZ r)), (4, .int (iZ c0))]) hx hb dX1_moveWalker_60 hl (by decide) rfl (fun ls hl => ?_)
          refine lv_iload hx hb dX1_moveWalker_62 (lv_at hl 0 rfl) ?_
          refine x_bipush hx hb dX1_moveWalker_64 (by decide) ?_
          refine x_icmp_lt (tgt := 72) hx hb dX1_moveWalker_66 (by decide) (by omega) (by decide) (fun c66 => ?_) (fun c66 => ?_)
          · refine lv_aload_n hx hb dX1_moveWalker_72 rfl (lv_at hl 2 rfl) ?_
            refine lv_dup hx hb dX1_moveWalker_73 rfl ?_
            refine x_get hx hb hts hown hK hH b (by omega) fb_0 hinX1 rfl 8 (by decide) (List.mem_of_getElem? (i := 3) rfl) rfl dX1_moveWalker_74 ?_
            refine lv_iload hx hb dX1_moveWalker_77 (lv_at hl 0 rfl) ?_
            refine x_i2l hx hb dX1_moveWalker_79 (by omega) ?_
            refine x_ladd hx hb dX1_moveWalker_80 ?_
            refine x_put (fs' := [.ref (xad E (b + 1)), .ref (xad E (b + 2)), .ref (xad E (b + 3)), .ref (xad E (b + 4)), .ref (xad E (b + 5)), .int (iZ pn), .int (iZ nw), .int (iZ sh), .long (lZ (wk + ((dz (Gw op lk kp w) (wc w)) ((r * 5) + c0))))]) hx hb hts hown hK hH b (by omega) fb_0 hinX1 rfl tyX1 tyX1_ok nmX1 8 (by decide) (List.mem_of_getElem? (i := 3) rfl) rfl (ty := .long) (by decide +kernel) rfl rfl (Nat.le_of_ble_eq_true rfl) rfl dX1_moveWalker_81 (fun σ19 H locs fb_0 fr20 hH => ?_)
            have fb_1 : σ19 (b + 1) = aI E 25 op := (fr20 (b + 1) (by omega)).trans fb_1
            have fb_2 : σ19 (b + 2) = aI E 25 lk := (fr20 (b + 2) (by omega)).trans fb_2
            have fb_3 : σ19 (b + 3) = aI E 6 kp := (fr20 (b + 3) (by omega)).trans fb_3
            have fb_4 : σ19 (b + 4) = aI E 3 wc := (fr20 (b + 4) (by omega)).trans fb_4
            have fb_5 : σ19 (b + 5) = aI E 5 ro0 := (fr20 (b + 5) (by omega)).trans fb_5
            have f75 : σ19 75 = oB 3 [.ref (xad E 76), .ref (xad E 77), .ref (xad E 78), .ref (xad E 79), .ref (xad E 80)] := (fr20 75 (by omega)).trans f75
            have f76 : σ19 76 = aI E 25 (dz (Gw op lk kp w) (wc w)) := (fr20 76 (by omega)).trans f76
            have f77 : σ19 77 = aI E 25 rl := (fr20 77 (by omega)).trans f77
            have f78 : σ19 78 = aI E 25 fs1_15 := (fr20 78 (by omega)).trans f78
            have f79 : σ19 79 = aI E 25 qu1_16 := (fr20 79 (by omega)).trans f79
            have f80 : σ19 80 = aI E 25 gr := (fr20 80 (by omega)).trans f80
            refine lv_aload_n hx hb dX1_moveWalker_84 rfl (lv_at hl 2 rfl) ?_
            refine lv_iload_n hx hb dX1_moveWalker_85 rfl (lv_at hl 4 rfl) ?_
            refine lv_iload hx hb dX1_moveWalker_86 (lv_at hl 1 rfl) ?_
            refine x_cVV (As := [.int (iZ w), .int (iZ ((r * 5) + c0))]) (rest := []) hx hb hml hts hown hK hST hOK hH b (c_X1_bring l E ST hSF σ19 b w ((r * 5) + c0) op lk kp wc pn nw sh (wk + ((dz (Gw op lk kp w) (wc w)) ((r * 5) + c0))) ⟨fb_0, fb_1, fb_2, fb_3, fb_4, _, fb_5⟩ (by omega) (fun j => by have := hkp j; omega) (by omega) (by omega)) (cwV 2 hts gX1_moveWalker_X1_bring rfl rfl rfl (by decide +kernel) ⟨Nat.le_of_ble_eq_true rfl, Nat.le_of_ble_eq_true rfl⟩) (by omega) fb_0 rfl rfl hl.1 rfl (Nat.le_of_ble_eq_true rfl) dX1_moveWalker_88 ⟨Nat.le_of_ble_eq_true rfl, Nat.le_of_ble_eq_true rfl⟩ (fun σ22 H locs hp23 hH => ?_)
            obtain ⟨⟨fb_0, fb_1, fb_2, fb_3, fb_4, ro25, fb_5⟩, fr24⟩ := hp23
            have f75 : σ22 75 = oB 3 [.ref (xad E 76), .ref (xad E 77), .ref (xad E 78), .ref (xad E 79), .ref (xad E 80)] := (fr24 75 (by omega)).trans f75
            have f76 : σ22 76 = aI E 25 (dz (Gw op lk kp w) (wc w)) := (fr24 76 (by omega)).trans f76
            have f77 : σ22 77 = aI E 25 rl := (fr24 77 (by omega)).trans f77
            have f78 : σ22 78 = aI E 25 fs1_15 := (fr24 78 (by omega)).trans f78
            have f79 : σ22 79 = aI E 25 qu1_16 := (fr24 79 (by omega)).trans f79
            have f80 : σ22 80 = aI E 25 gr := (fr24 80 (by omega)).trans f80
            refine lv_iload hx hb dX1_moveWalker_91 (lv_at hl 0 rfl) ?_
            subst hQ
            exact x_iret hx hb hr hlocks hH (Nat.le_of_ble_eq_true rfl) (Nat.le_of_ble_eq_true rfl) ⟨(show ((dz (Gw op lk kp w) (wc w)) ((r * 5) + c0)) = ((walkF op lk kp wc pn nw sh wk w r c0).1) from (by unfold walkF; (repeat' split) <;> first | rfl | (exfalso; omega))), ⟨op, lk, (brK kp ((r * 5) + c0) w 6), (ui wc w ((r * 5) + c0)), pn, nw, sh, (wk + ((dz (Gw op lk kp w) (wc w)) ((r * 5) + c0))), (dz (Gw op lk kp w) (wc w)), fs1_15, qu1_16, ⟨fb_0, fb_1, fb_2, fb_3, fb_4, _, fb_5⟩, ⟨f75, f76, f77, f78, f79, f80⟩, (by unfold walkF; (repeat' split) <;> first | rfl | (exfalso; omega))⟩, fun j hj0 hj1 hj2 hj3 => ((fr24 j (by omega)).trans ((fr20 j (by omega)).trans (fr14 j (by omega) (by omega) (by omega))))⟩ dX1_moveWalker_93
          · refine x_bipush hx hb dX1_moveWalker_69 (by decide) ?_
            subst hQ
            exact x_iret hx hb hr hlocks hH (Nat.le_of_ble_eq_true rfl) (Nat.le_of_ble_eq_true rfl) ⟨(show (-3) = ((walkF op lk kp wc pn nw sh wk w r c0).1) from (by unfold walkF; (repeat' split) <;> first | rfl | (exfalso; omega))), ⟨op, lk, kp, wc, pn, nw, sh, wk, (dz (Gw op lk kp w) (wc w)), fs1_15, qu1_16, ⟨fb_0, fb_1, fb_2, fb_3, fb_4, _, fb_5⟩, ⟨f75, f76, f77, f78, f79, f80⟩, (by unfold walkF; (repeat' split) <;> first | rfl | (exfalso; omega))⟩, fun j hj0 hj1 hj2 hj3 => (fr14 j (by omega) (by omega) (by omega))⟩ dX1_moveWalker_71
        · refine x_bipush hx hb dX1_moveWalker_44 (by decide) ?_
          subst hQ
          exact x_iret hx hb hr hlocks hH (Nat.le_of_ble_eq_true rfl) (Nat.le_of_ble_eq_true rfl) ⟨(show (-2) = ((walkF op lk kp wc pn nw sh wk w r c0).1) from (by unfold walkF; (repeat' split) <;> first | rfl | (exfalso; omega))), ⟨op, lk, kp, wc, pn, nw, sh, wk, le, fs, qu, ⟨fb_0, fb_1, fb_2, fb_3, fb_4, _, fb_5⟩, ⟨f75, f76, f77, f78, f79, f80⟩, (by unfold walkF; (repeat' split) <;> first | rfl | (exfalso; omega))⟩, fun j hj0 hj1 hj2 hj3 => rfl⟩ dX1_moveWalker_46
      · have c20 := of_decide_eq_false c20
        refine x_iconst hx hb dX1_moveWalker_23 ?_
        subst hQ
        exact x_iret hx hb hr hlocks hH (Nat.le_of_ble_eq_true rfl) (Nat.le_of_ble_eq_true rfl) ⟨(show (-1) = ((walkF op lk kp wc pn nw sh wk w r c0).1) from (by unfold walkF; (repeat' split) <;> first | rfl | (exfalso; omega))), ⟨op, lk, kp, wc, pn, nw, sh, wk, le, fs, qu, ⟨fb_0, fb_1, fb_2, fb_3, fb_4, _, fb_5⟩, ⟨f75, f76, f77, f78, f79, f80⟩, (by unfold walkF; (repeat' split) <;> first | rfl | (exfalso; omega))⟩, fun j hj0 hj1 hj2 hj3 => rfl⟩ dX1_moveWalker_24
