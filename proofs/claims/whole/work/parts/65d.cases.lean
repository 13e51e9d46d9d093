/-! ===== the law's cases ===== -/
set_option maxRecDepth 100000 in
set_option maxHeartbeats 4000000 in
theorem lc_36 {p : Program} {l : Launch} {e : Env} {s : State} {m : MethodId} {below : List Frame} {meth : Method} {c : Code} {Q : State → Prop} {E : xE} {ST : xST} {Z : zE} {b L : Nat} {xs : Nat → Int32} (G : LX l E ST Z p s m meth c b L xs) {n : Nat} (hn : 4 * n + 4 ≤ L) {σ : xW} {H : Heap} {locs : List Loc} {ls : Array Slot} (hI : INV (n : Int) E σ) (hH : Hx E (fun q => s.heap.size ≤ q) s.heap σ H locs) (hl : lv_has ls 10 [(5, .int (iZ (4 * (n : Int)))), (0, .ref b), (1, .ref (xad E 0)), (2, .ref (xad E 85)), (3, .ref (xad E 96)), (4, .ref (xad E 97))])
    (kk : ∀ (σ1 : xW) (H1 : Heap) (locs1 : List Loc) (ls1 : Array Slot), INV ((n : Int) + 1) E σ1 → Hx E (fun q => s.heap.size ≤ q) s.heap σ1 H1 locs1 → lv_has ls1 10 [(5, .int (iZ (4 * (n : Int)))), (0, .ref b), (1, .ref (xad E 0)), (2, .ref (xad E 85)), (3, .ref (xad E 96)), (4, .ref (xad E 97))] → W p l e room_1 s m #[Value.ref b] below meth c H1 locs1 (100 + 10 * (n + 1)) (3000 + 100 * (n + 1)) Q (F0 m 2984 ls1 [])) : W p l e room_1 s m #[Value.ref b] below meth c H locs (100 + 10 * n) (3000 + 100 * n) Q (F0 m 2471 ls []) := by
  obtain ⟨hx, hb, hml, hown, hts, hK, hST, hSF, hSX, hSQ, htr, hX, hbl, hlocks, hr, hL⟩ := G
  have hOK := hSF.1
  have hn6 : (0 : Int) ≤ (n : Int) ∧ (n : Int) ≤ 600 := by omega
  obtain ⟨P, hP, hPQ⟩ := s_meanOpenings l E ST hSF hSX htr hn6 hI
  obtain ⟨fs0, h0⟩ : ∃ fs : List Value, σ 0 = oB 4 fs := by obtain ⟨th9, -, h9⟩ := hI; exact h9.ob.1
  refine lv_aload_n hx hb dL_law_2471 rfl (lv_at hl 2 rfl) ?_
  refine x_cVD (As := []) (rest := []) hx hb hml hts hown hK hST hOK hH 0 hP (cwV 0 hts gL_law_X6_meanOpenings rfl rfl rfl (by decide +kernel) ⟨Nat.le_of_ble_eq_true rfl, Nat.le_of_ble_eq_true rfl⟩) (by decide) h0 rfl rfl hl.1 rfl (Nat.le_of_ble_eq_true rfl) dL_law_2472 ⟨by simp only [rm_X6_meanOpenings, room_1]; omega, by simp only [rm_X6_meanOpenings, room_1]; omega⟩ (fun k u H locs hp hH => ?_)
  obtain ⟨⟨fs, h85⟩, Q2, hQ2, hfin⟩ := hPQ k u hp
  refine lv_dstore (lv' := [(6, .double k), (5, .int (iZ (4 * (n : Int)))), (0, .ref b), (1, .ref (xad E 0)), (2, .ref (xad E 85)), (3, .ref (xad E 96)), (4, .ref (xad E 97))]) hx hb dL_law_2475 hl (by decide) rfl (fun ls hl => ?_)
  refine lv_aload_n hx hb dL_law_2477 rfl (lv_at hl 4 rfl) ?_
  refine x_cVD (As := []) (rest := []) hx hb hml hts hown hK hST hOK hH 85 hQ2 (cwV 0 hts gL_law_X7_meanOpenings rfl rfl rfl (by decide +kernel) ⟨Nat.le_of_ble_eq_true rfl, Nat.le_of_ble_eq_true rfl⟩) (by decide) h85 rfl rfl hl.1 rfl (Nat.le_of_ble_eq_true rfl) dL_law_2478 ⟨by simp only [rm_X6_meanOpenings, rm_X7_meanOpenings, room_1]; omega, by simp only [rm_X6_meanOpenings, rm_X7_meanOpenings, room_1]; omega⟩ (fun z t H locs hq hH => ?_)
  obtain ⟨e9, hI2, hcm⟩ := hfin z t hq
  subst e9
  refine lv_dstore (lv' := [(8, .double z), (6, .double z), (5, .int (iZ (4 * (n : Int)))), (0, .ref b), (1, .ref (xad E 0)), (2, .ref (xad E 85)), (3, .ref (xad E 96)), (4, .ref (xad E 97))]) hx hb dL_law_2481 hl (by decide) rfl (fun ls hl => ?_)
  refine lv_dload hx hb dL_law_2483 (lv_at hl 1 rfl) ?_
  refine lv_dload hx hb dL_law_2485 (lv_at hl 0 rfl) ?_
  refine lv_dcmp hx hb dL_law_2487 ?_
  refine lv_if_eq (tgt := 2509) hx hb dL_law_2488 (by decide) (fun _ => ?_) (fun c9 => absurd hcm c9)
  refine lv_goto (tgt := 2984) hx hb dL_law_2509 (by decide) ?_
  exact W.widen (by simp only [rm_X6_meanOpenings, rm_X7_meanOpenings]; omega) (by simp only [rm_X6_meanOpenings, rm_X7_meanOpenings]; omega) (kk t H locs ls hI2 hH (lv_sub hl [2, 3, 4, 5, 6, 7] rfl))
set_option maxRecDepth 100000 in
set_option maxHeartbeats 4000000 in
theorem lc_37 {p : Program} {l : Launch} {e : Env} {s : State} {m : MethodId} {below : List Frame} {meth : Method} {c : Code} {Q : State → Prop} {E : xE} {ST : xST} {Z : zE} {b L : Nat} {xs : Nat → Int32} (G : LX l E ST Z p s m meth c b L xs) {n : Nat} (hn : 4 * n + 4 ≤ L) {σ : xW} {H : Heap} {locs : List Loc} {ls : Array Slot} (hI : INV (n : Int) E σ) (hH : Hx E (fun q => s.heap.size ≤ q) s.heap σ H locs) (hl : lv_has ls 10 [(5, .int (iZ (4 * (n : Int)))), (0, .ref b), (1, .ref (xad E 0)), (2, .ref (xad E 85)), (3, .ref (xad E 96)), (4, .ref (xad E 97))])
    (kk : ∀ (σ1 : xW) (H1 : Heap) (locs1 : List Loc) (ls1 : Array Slot), INV ((n : Int) + 1) E σ1 → Hx E (fun q => s.heap.size ≤ q) s.heap σ1 H1 locs1 → lv_has ls1 10 [(5, .int (iZ (4 * (n : Int)))), (0, .ref b), (1, .ref (xad E 0)), (2, .ref (xad E 85)), (3, .ref (xad E 96)), (4, .ref (xad E 97))] → W p l e room_1 s m #[Value.ref b] below meth c H1 locs1 (100 + 10 * (n + 1)) (3000 + 100 * (n + 1)) Q (F0 m 2984 ls1 [])) : W p l e room_1 s m #[Value.ref b] below meth c H locs (100 + 10 * n) (3000 + 100 * n) Q (F0 m 2512 ls []) := by
  obtain ⟨hx, hb, hml, hown, hts, hK, hST, hSF, hSX, hSQ, htr, hX, hbl, hlocks, hr, hL⟩ := G
  have hOK := hSF.1
  have hn6 : (0 : Int) ≤ (n : Int) ∧ (n : Int) ≤ 600 := by omega
  obtain ⟨p0, e0⟩ : ∃ y : Int, y = (xs (4 * (n : Int) + 1).toNat).toInt := ⟨_, rfl⟩
  have r0 : rg p0 := by rw [e0]; exact iZ_rg _
  obtain ⟨P, hP, hPQ⟩ := s_reachableShare l E ST hSF hSX htr hn6 hI p0 r0
  refine lv_aload_n hx hb dL_law_2512 rfl (lv_at hl 2 rfl) ?_
  refine lv_aload_n hx hb dL_law_2513 rfl (lv_at hl 1 rfl) ?_
  refine lv_iload hx hb dL_law_2514 (lv_at hl 0 rfl) ?_
  refine x_iconst (n := 1) hx hb dL_law_2516 ?_
  refine x_iadd hx hb dL_law_2517 ?_
  refine x_scr hx hb hX hbl hH (by omega) (by omega) hL e0 dL_law_2518 ?_
  refine lv_aload hx hb dL_law_2519 (lv_at hl 5 rfl) ?_
  refine x_cSW (As := [.ref (xad E 0), .int (iZ p0), .ref (xad E 97)]) (rest := []) hx hb hml hts hown hK hST hOK hH hP (vx_cwSW 3 hts gL_law_L_reachableShare rfl rfl rfl (by decide +kernel) ⟨Nat.le_of_ble_eq_true rfl, Nat.le_of_ble_eq_true rfl⟩) rfl hl.1 rfl (Nat.le_of_ble_eq_true rfl) dL_law_2521 ⟨by simp only [rm_L_reachableShare, room_1]; omega, by simp only [rm_L_reachableShare, room_1]; omega⟩ (fun k u H locs hp hH => ?_)
  obtain ⟨⟨fs, h85⟩, Q2, hQ2, hfin⟩ := hPQ k u hp
  refine lv_istore (lv' := [(6, .int (iZ k)), (5, .int (iZ (4 * (n : Int)))), (0, .ref b), (1, .ref (xad E 0)), (2, .ref (xad E 85)), (3, .ref (xad E 96)), (4, .ref (xad E 97))]) hx hb dL_law_2524 hl (by decide) rfl (fun ls hl => ?_)
  refine lv_aload_n hx hb dL_law_2526 rfl (lv_at hl 4 rfl) ?_
  refine lv_aload_n hx hb dL_law_2527 rfl (lv_at hl 2 rfl) ?_
  refine lv_iload hx hb dL_law_2528 (lv_at hl 1 rfl) ?_
  refine x_iconst (n := 1) hx hb dL_law_2530 ?_
  refine x_iadd hx hb dL_law_2531 ?_
  refine x_scr hx hb hX hbl hH (by omega) (by omega) hL e0 dL_law_2532 ?_
  refine x_cVF (As := [.int (iZ p0)]) (rest := []) hx hb hml hts hown hK hST hOK hH 85 hQ2 (cwV 1 hts gL_law_X7_reachableShare rfl rfl rfl (by decide +kernel) ⟨Nat.le_of_ble_eq_true rfl, Nat.le_of_ble_eq_true rfl⟩) (by decide) h85 rfl rfl hl.1 rfl (Nat.le_of_ble_eq_true rfl) dL_law_2533 ⟨by simp only [rm_L_reachableShare, rm_X7_reachableShare, room_1]; omega, by simp only [rm_L_reachableShare, rm_X7_reachableShare, room_1]; omega⟩ (fun z t H locs hq hH => ?_)
  obtain ⟨hT, hkr, h97⟩ := hfin z t hq
  refine lv_fstore (lv' := [(7, .float z), (6, .int (iZ k)), (5, .int (iZ (4 * (n : Int)))), (0, .ref b), (1, .ref (xad E 0)), (2, .ref (xad E 85)), (3, .ref (xad E 96)), (4, .ref (xad E 97))]) hx hb dL_law_2536 hl (by decide) rfl (fun ls hl => ?_)
  obtain ⟨sv, re, ea, fa, ty, li, sz, sp, wr, to, hmo⟩ := hT.mo
  have h85t : t 85 = oB 5 _ := hmo
  refine lv_aload_n hx hb dL_law_2538 rfl (lv_at hl 5 rfl) ?_
  refine x_cVID (z0 := k) (As := []) (rest := []) hx hb hml hts hown hK hST hOK hH 85 (c_X7_thrown l E ST hSF t sv re ea fa ty li k sz sp wr to hmo) (cwV 0 hts gL_law_X7_thrown rfl rfl rfl (by decide +kernel) ⟨Nat.le_of_ble_eq_true rfl, Nat.le_of_ble_eq_true rfl⟩) (by decide) h85t rfl rfl hl.1 rfl (Nat.le_of_ble_eq_true rfl) dL_law_2539 ⟨by simp only [rm_L_reachableShare, rm_X7_reachableShare, rm_X7_thrown, room_1]; omega, by simp only [rm_L_reachableShare, rm_X7_reachableShare, rm_X7_thrown, room_1]; omega⟩ (fun z u h => h) (fun H locs hH => ?_)
  refine lv_iload hx hb dL_law_2542 (lv_at hl 1 rfl) ?_
  refine lv_icmp_eq (tgt := 2549) hx hb dL_law_2544 (by decide) (fun _ => ?_) (fun c9 => absurd rfl c9)
  refine lv_iload hx hb dL_law_2549 (lv_at hl 1 rfl) ?_
  refine x_if_ne (tgt := 2587) hx hb dL_law_2551 (by decide) hkr (fun c0 => ?_) (fun c0 => ?_)
  · refine lv_goto (tgt := 2984) hx hb dL_law_2587 (by decide) ?_
    exact W.widen (by simp only [rm_L_reachableShare, rm_X7_reachableShare, rm_X7_thrown]; omega) (by simp only [rm_L_reachableShare, rm_X7_reachableShare, rm_X7_thrown]; omega) (kk t H locs ls ⟨k, hkr, hT⟩ hH (lv_sub hl [2, 3, 4, 5, 6, 7] rfl))
  · obtain ⟨h97a, h97b, h97c⟩ := h97 c0
    refine lv_aload hx hb dL_law_2554 (lv_at hl 7 rfl) ?_
    refine x_iconst (n := 0) hx hb dL_law_2556 ?_
    refine x_dald hx hb hK hH h97a dL_law_2557 ?_
    refine lv_fload hx hb dL_law_2558 (lv_at hl 0 rfl) ?_
    refine lv_f2d hx hb dL_law_2560 h97b ?_
    refine lv_dcmp hx hb dL_law_2561 ?_
    refine lv_if_eq (tgt := 2587) hx hb dL_law_2562 (by decide) (fun _ => ?_) (fun c9 => absurd h97c c9)
    refine lv_goto (tgt := 2984) hx hb dL_law_2587 (by decide) ?_
    exact W.widen (by simp only [rm_L_reachableShare, rm_X7_reachableShare, rm_X7_thrown]; omega) (by simp only [rm_L_reachableShare, rm_X7_reachableShare, rm_X7_thrown]; omega) (kk t H locs ls ⟨k, hkr, hT⟩ hH (lv_sub hl [2, 3, 4, 5, 6, 7] rfl))
set_option maxRecDepth 100000 in
set_option maxHeartbeats 4000000 in
theorem lc_38 {p : Program} {l : Launch} {e : Env} {s : State} {m : MethodId} {below : List Frame} {meth : Method} {c : Code} {Q : State → Prop} {E : xE} {ST : xST} {Z : zE} {b L : Nat} {xs : Nat → Int32} (G : LX l E ST Z p s m meth c b L xs) {n : Nat} (hn : 4 * n + 4 ≤ L) {σ : xW} {H : Heap} {locs : List Loc} {ls : Array Slot} (hI : INV (n : Int) E σ) (hH : Hx E (fun q => s.heap.size ≤ q) s.heap σ H locs) (hl : lv_has ls 10 [(5, .int (iZ (4 * (n : Int)))), (0, .ref b), (1, .ref (xad E 0)), (2, .ref (xad E 85)), (3, .ref (xad E 96)), (4, .ref (xad E 97))])
    (kk : ∀ (σ1 : xW) (H1 : Heap) (locs1 : List Loc) (ls1 : Array Slot), INV ((n : Int) + 1) E σ1 → Hx E (fun q => s.heap.size ≤ q) s.heap σ1 H1 locs1 → lv_has ls1 10 [(5, .int (iZ (4 * (n : Int)))), (0, .ref b), (1, .ref (xad E 0)), (2, .ref (xad E 85)), (3, .ref (xad E 96)), (4, .ref (xad E 97))] → W p l e room_1 s m #[Value.ref b] below meth c H1 locs1 (100 + 10 * (n + 1)) (3000 + 100 * (n + 1)) Q (F0 m 2984 ls1 [])) : W p l e room_1 s m #[Value.ref b] below meth c H locs (100 + 10 * n) (3000 + 100 * n) Q (F0 m 2590 ls []) := by
  obtain ⟨hx, hb, hml, hown, hts, hK, hST, hSF, hSX, hSQ, htr, hX, hbl, hlocks, hr, hL⟩ := G
  have hOK := hSF.1
  have hn6 : (0 : Int) ≤ (n : Int) ∧ (n : Int) ≤ 600 := by omega
  obtain ⟨P, hP, hPQ⟩ := s_isConsistent l E ST hSF hSX htr hn6 hI
  obtain ⟨fs0, h0⟩ : ∃ fs : List Value, σ 0 = oB 4 fs := by obtain ⟨th9, -, h9⟩ := hI; exact h9.ob.1
  refine lv_aload_n hx hb dL_law_2590 rfl (lv_at hl 2 rfl) ?_
  refine x_cVI (As := []) (rest := []) hx hb hml hts hown hK hST hOK hH 0 hP (cwV 0 hts gL_law_X6_isConsistent rfl rfl rfl (by decide +kernel) ⟨Nat.le_of_ble_eq_true rfl, Nat.le_of_ble_eq_true rfl⟩) (by decide) h0 rfl rfl hl.1 rfl (Nat.le_of_ble_eq_true rfl) dL_law_2591 ⟨by simp only [rm_X6_isConsistent, room_1]; omega, by simp only [rm_X6_isConsistent, room_1]; omega⟩ (fun k u H locs hp hH => ?_)
  obtain ⟨⟨fs, h85⟩, Q2, hQ2, hfin⟩ := hPQ k u hp
  refine lv_aload_n hx hb dL_law_2594 rfl (lv_at hl 3 rfl) ?_
  refine x_cVI (As := []) (rest := [.int (iZ k)]) hx hb hml hts hown hK hST hOK hH 85 hQ2 (cwV 0 hts gL_law_X7_isConsistent rfl rfl rfl (by decide +kernel) ⟨Nat.le_of_ble_eq_true rfl, Nat.le_of_ble_eq_true rfl⟩) (by decide) h85 rfl rfl hl.1 rfl (Nat.le_of_ble_eq_true rfl) dL_law_2595 ⟨by simp only [rm_X6_isConsistent, rm_X7_isConsistent, room_1]; omega, by simp only [rm_X6_isConsistent, rm_X7_isConsistent, room_1]; omega⟩ (fun z t H locs hq hH => ?_)
  obtain ⟨e9, hI2⟩ := hfin z t hq
  subst e9
  refine lv_icmp_eq (tgt := 2984) hx hb dL_law_2598 (by decide) (fun _ => ?_) (fun c9 => absurd rfl c9)
  exact W.widen (by simp only [rm_X6_isConsistent, rm_X7_isConsistent]; omega) (by simp only [rm_X6_isConsistent, rm_X7_isConsistent]; omega) (kk t H locs ls hI2 hH (lv_sub hl [0, 1, 2, 3, 4, 5] rfl))
set_option maxRecDepth 100000 in
set_option maxHeartbeats 4000000 in
theorem lc_39 {p : Program} {l : Launch} {e : Env} {s : State} {m : MethodId} {below : List Frame} {meth : Method} {c : Code} {Q : State → Prop} {E : xE} {ST : xST} {Z : zE} {b L : Nat} {xs : Nat → Int32} (G : LX l E ST Z p s m meth c b L xs) {n : Nat} (hn : 4 * n + 4 ≤ L) {σ : xW} {H : Heap} {locs : List Loc} {ls : Array Slot} (hI : INV (n : Int) E σ) (hH : Hx E (fun q => s.heap.size ≤ q) s.heap σ H locs) (hl : lv_has ls 10 [(5, .int (iZ (4 * (n : Int)))), (0, .ref b), (1, .ref (xad E 0)), (2, .ref (xad E 85)), (3, .ref (xad E 96)), (4, .ref (xad E 97))])
    (kk : ∀ (σ1 : xW) (H1 : Heap) (locs1 : List Loc) (ls1 : Array Slot), INV ((n : Int) + 1) E σ1 → Hx E (fun q => s.heap.size ≤ q) s.heap σ1 H1 locs1 → lv_has ls1 10 [(5, .int (iZ (4 * (n : Int)))), (0, .ref b), (1, .ref (xad E 0)), (2, .ref (xad E 85)), (3, .ref (xad E 96)), (4, .ref (xad E 97))] → W p l e room_1 s m #[Value.ref b] below meth c H1 locs1 (100 + 10 * (n + 1)) (3000 + 100 * (n + 1)) Q (F0 m 2984 ls1 [])) : W p l e room_1 s m #[Value.ref b] below meth c H locs (100 + 10 * n) (3000 + 100 * n) Q (F0 m 2603 ls []) := by
  obtain ⟨hx, hb, hml, hown, hts, hK, hST, hSF, hSX, hSQ, htr, hX, hbl, hlocks, hr, hL⟩ := G
  have hOK := hSF.1
  have hn6 : (0 : Int) ≤ (n : Int) ∧ (n : Int) ≤ 600 := by omega
  obtain ⟨p0, e0⟩ : ∃ y : Int, y = (xs (4 * (n : Int) + 1).toNat).toInt := ⟨_, rfl⟩
  have r0 : rg p0 := by rw [e0]; exact iZ_rg _
  have rc0 := i2cZ_rg p0
  have rq0 : rg (i2cZ p0) := ⟨by omega, by omega⟩
  obtain ⟨P, hP, hPQ⟩ := s_append l E ST hSF hSX htr hn6 hI (i2cZ p0) rc0
  refine lv_aload_n hx hb dL_law_2603 rfl (lv_at hl 2 rfl) ?_
  refine lv_aload_n hx hb dL_law_2604 rfl (lv_at hl 1 rfl) ?_
  refine lv_iload hx hb dL_law_2605 (lv_at hl 0 rfl) ?_
  refine x_iconst (n := 1) hx hb dL_law_2607 ?_
  refine x_iadd hx hb dL_law_2608 ?_
  refine x_scr hx hb hX hbl hH (by omega) (by omega) hL e0 dL_law_2609 ?_
  refine x_i2c hx hb dL_law_2610 ?_
  refine lv_aload_n hx hb dL_law_2611 rfl (lv_at hl 4 rfl) ?_
  refine x_cSW (As := [.ref (xad E 0), .int (iZ (i2cZ p0)), .ref (xad E 96)]) (rest := []) hx hb hml hts hown hK hST hOK hH hP (vx_cwSW 3 hts gL_law_L_append rfl rfl rfl (by decide +kernel) ⟨Nat.le_of_ble_eq_true rfl, Nat.le_of_ble_eq_true rfl⟩) rfl hl.1 rfl (Nat.le_of_ble_eq_true rfl) dL_law_2612 ⟨by simp only [rm_L_append, room_1]; omega, by simp only [rm_L_append, room_1]; omega⟩ (fun k u H locs hp hH => ?_)
  obtain ⟨⟨fs, h85⟩, Q2, hQ2, hfin⟩ := hPQ k u hp
  refine lv_istore (lv' := [(6, .int (iZ k)), (5, .int (iZ (4 * (n : Int)))), (0, .ref b), (1, .ref (xad E 0)), (2, .ref (xad E 85)), (3, .ref (xad E 96)), (4, .ref (xad E 97))]) hx hb dL_law_2615 hl (by decide) rfl (fun ls hl => ?_)
  refine lv_aload_n hx hb dL_law_2617 rfl (lv_at hl 4 rfl) ?_
  refine lv_aload_n hx hb dL_law_2618 rfl (lv_at hl 2 rfl) ?_
  refine lv_iload hx hb dL_law_2619 (lv_at hl 1 rfl) ?_
  refine x_iconst (n := 1) hx hb dL_law_2621 ?_
  refine x_iadd hx hb dL_law_2622 ?_
  refine x_scr hx hb hX hbl hH (by omega) (by omega) hL e0 dL_law_2623 ?_
  refine x_i2c hx hb dL_law_2624 ?_
  refine x_cVI (As := [.int (iZ (i2cZ p0))]) (rest := []) hx hb hml hts hown hK hST hOK hH 85 hQ2 (cwV 1 hts gL_law_X7_append rfl rfl rfl (by decide +kernel) ⟨Nat.le_of_ble_eq_true rfl, Nat.le_of_ble_eq_true rfl⟩) (by decide) h85 rfl rfl hl.1 rfl (Nat.le_of_ble_eq_true rfl) dL_law_2625 ⟨by simp only [rm_L_append, rm_X7_append, room_1]; omega, by simp only [rm_L_append, rm_X7_append, room_1]; omega⟩ (fun z t H locs hq hH => ?_)
  obtain ⟨hT, hkr, h96⟩ := hfin z t hq
  refine lv_istore (lv' := [(7, .int (iZ z)), (6, .int (iZ k)), (5, .int (iZ (4 * (n : Int)))), (0, .ref b), (1, .ref (xad E 0)), (2, .ref (xad E 85)), (3, .ref (xad E 96)), (4, .ref (xad E 97))]) hx hb dL_law_2628 hl (by decide) rfl (fun ls hl => ?_)
  obtain ⟨sv, re, ea, fa, ty, li, sz, sp, wr, to, hmo⟩ := hT.mo
  have h85t : t 85 = oB 5 _ := hmo
  refine lv_aload_n hx hb dL_law_2630 rfl (lv_at hl 5 rfl) ?_
  refine x_cVID (z0 := k) (As := []) (rest := []) hx hb hml hts hown hK hST hOK hH 85 (c_X7_thrown l E ST hSF t sv re ea fa ty li k sz sp wr to hmo) (cwV 0 hts gL_law_X7_thrown rfl rfl rfl (by decide +kernel) ⟨Nat.le_of_ble_eq_true rfl, Nat.le_of_ble_eq_true rfl⟩) (by decide) h85t rfl rfl hl.1 rfl (Nat.le_of_ble_eq_true rfl) dL_law_2631 ⟨by simp only [rm_L_append, rm_X7_append, rm_X7_thrown, room_1]; omega, by simp only [rm_L_append, rm_X7_append, rm_X7_thrown, room_1]; omega⟩ (fun z u h => h) (fun H locs hH => ?_)
  refine lv_iload hx hb dL_law_2634 (lv_at hl 1 rfl) ?_
  refine lv_icmp_eq (tgt := 2641) hx hb dL_law_2636 (by decide) (fun _ => ?_) (fun c9 => absurd rfl c9)
  refine lv_iload hx hb dL_law_2641 (lv_at hl 1 rfl) ?_
  refine x_if_ne (tgt := 2658) hx hb dL_law_2643 (by decide) hkr (fun c0 => ?_) (fun c0 => ?_)
  · refine lv_goto (tgt := 2984) hx hb dL_law_2658 (by decide) ?_
    exact W.widen (by simp only [rm_L_append, rm_X7_append, rm_X7_thrown]; omega) (by simp only [rm_L_append, rm_X7_append, rm_X7_thrown]; omega) (kk t H locs ls ⟨k, hkr, hT⟩ hH (lv_sub hl [2, 3, 4, 5, 6, 7] rfl))
  · refine lv_aload_n hx hb dL_law_2646 rfl (lv_at hl 6 rfl) ?_
    refine x_iconst (n := 0) hx hb dL_law_2647 ?_
    refine x_lald hx hb hK hH (h96 c0) dL_law_2648 ?_
    refine lv_iload hx hb dL_law_2649 (lv_at hl 0 rfl) ?_
    refine lv_i2l (v := (iZ z).toInt64) hx hb dL_law_2651 rfl ?_
    refine W.lcmp hx hb dL_law_2652 ?_
    refine lv_if_eq (tgt := 2658) hx hb dL_law_2653 (by decide) (fun _ => ?_) (fun c9 => absurd ((lg_cmp_eq _ _).mpr rfl) c9)
    refine lv_goto (tgt := 2984) hx hb dL_law_2658 (by decide) ?_
    exact W.widen (by simp only [rm_L_append, rm_X7_append, rm_X7_thrown]; omega) (by simp only [rm_L_append, rm_X7_append, rm_X7_thrown]; omega) (kk t H locs ls ⟨k, hkr, hT⟩ hH (lv_sub hl [2, 3, 4, 5, 6, 7] rfl))
set_option maxRecDepth 100000 in
set_option maxHeartbeats 4000000 in
theorem lc_40 {p : Program} {l : Launch} {e : Env} {s : State} {m : MethodId} {below : List Frame} {meth : Method} {c : Code} {Q : State → Prop} {E : xE} {ST : xST} {Z : zE} {b L : Nat} {xs : Nat → Int32} (G : LX l E ST Z p s m meth c b L xs) {n : Nat} (hn : 4 * n + 4 ≤ L) {σ : xW} {H : Heap} {locs : List Loc} {ls : Array Slot} (hI : INV (n : Int) E σ) (hH : Hx E (fun q => s.heap.size ≤ q) s.heap σ H locs) (hl : lv_has ls 10 [(5, .int (iZ (4 * (n : Int)))), (0, .ref b), (1, .ref (xad E 0)), (2, .ref (xad E 85)), (3, .ref (xad E 96)), (4, .ref (xad E 97))])
    (kk : ∀ (σ1 : xW) (H1 : Heap) (locs1 : List Loc) (ls1 : Array Slot), INV ((n : Int) + 1) E σ1 → Hx E (fun q => s.heap.size ≤ q) s.heap σ1 H1 locs1 → lv_has ls1 10 [(5, .int (iZ (4 * (n : Int)))), (0, .ref b), (1, .ref (xad E 0)), (2, .ref (xad E 85)), (3, .ref (xad E 96)), (4, .ref (xad E 97))] → W p l e room_1 s m #[Value.ref b] below meth c H1 locs1 (100 + 10 * (n + 1)) (3000 + 100 * (n + 1)) Q (F0 m 2984 ls1 [])) : W p l e room_1 s m #[Value.ref b] below meth c H locs (100 + 10 * n) (3000 + 100 * n) Q (F0 m 2661 ls []) := by
  obtain ⟨hx, hb, hml, hown, hts, hK, hST, hSF, hSX, hSQ, htr, hX, hbl, hlocks, hr, hL⟩ := G
  have hOK := hSF.1
  have hn6 : (0 : Int) ≤ (n : Int) ∧ (n : Int) ≤ 600 := by omega
  obtain ⟨P, hP, hPQ⟩ := s_run l E ST hSF Z hSQ hSX htr hn6 hI  
  refine lv_aload_n hx hb dL_law_2661 rfl (lv_at hl 2 rfl) ?_
  refine lv_aload_n hx hb dL_law_2662 rfl (lv_at hl 4 rfl) ?_
  refine x_cSW (As := [.ref (xad E 0), .ref (xad E 96)]) (rest := []) hx hb hml hts hown hK hST hOK hH hP (vx_cwSW 2 hts gL_law_L_run rfl rfl rfl (by decide +kernel) ⟨Nat.le_of_ble_eq_true rfl, Nat.le_of_ble_eq_true rfl⟩) rfl hl.1 rfl (Nat.le_of_ble_eq_true rfl) dL_law_2663 ⟨by simp only [rm_L_run, room_1]; omega, by simp only [rm_L_run, room_1]; omega⟩ (fun k u H locs hp hH => ?_)
  obtain ⟨⟨fs, h85⟩, Q2, hQ2, hfin⟩ := hPQ k u hp
  refine lv_istore (lv' := [(6, .int (iZ k)), (5, .int (iZ (4 * (n : Int)))), (0, .ref b), (1, .ref (xad E 0)), (2, .ref (xad E 85)), (3, .ref (xad E 96)), (4, .ref (xad E 97))]) hx hb dL_law_2666 hl (by decide) rfl (fun ls hl => ?_)
  refine lv_aload_n hx hb dL_law_2668 rfl (lv_at hl 4 rfl) ?_
  refine x_cVI (As := []) (rest := []) hx hb hml hts hown hK hST hOK hH 85 hQ2 (cwV 0 hts gL_law_X7_run rfl rfl rfl (by decide +kernel) ⟨Nat.le_of_ble_eq_true rfl, Nat.le_of_ble_eq_true rfl⟩) (by decide) h85 rfl rfl hl.1 rfl (Nat.le_of_ble_eq_true rfl) dL_law_2669 ⟨by simp only [rm_L_run, rm_X7_run, room_1]; omega, by simp only [rm_L_run, rm_X7_run, room_1]; omega⟩ (fun z t H locs hq hH => ?_)
  obtain ⟨hT, hkr, h96⟩ := hfin z t hq
  refine lv_istore (lv' := [(7, .int (iZ z)), (6, .int (iZ k)), (5, .int (iZ (4 * (n : Int)))), (0, .ref b), (1, .ref (xad E 0)), (2, .ref (xad E 85)), (3, .ref (xad E 96)), (4, .ref (xad E 97))]) hx hb dL_law_2672 hl (by decide) rfl (fun ls hl => ?_)
  obtain ⟨sv, re, ea, fa, ty, li, sz, sp, wr, to, hmo⟩ := hT.mo
  have h85t : t 85 = oB 5 _ := hmo
  refine lv_aload_n hx hb dL_law_2674 rfl (lv_at hl 5 rfl) ?_
  refine x_cVID (z0 := k) (As := []) (rest := []) hx hb hml hts hown hK hST hOK hH 85 (c_X7_thrown l E ST hSF t sv re ea fa ty li k sz sp wr to hmo) (cwV 0 hts gL_law_X7_thrown rfl rfl rfl (by decide +kernel) ⟨Nat.le_of_ble_eq_true rfl, Nat.le_of_ble_eq_true rfl⟩) (by decide) h85t rfl rfl hl.1 rfl (Nat.le_of_ble_eq_true rfl) dL_law_2675 ⟨by simp only [rm_L_run, rm_X7_run, rm_X7_thrown, room_1]; omega, by simp only [rm_L_run, rm_X7_run, rm_X7_thrown, room_1]; omega⟩ (fun z u h => h) (fun H locs hH => ?_)
  refine lv_iload hx hb dL_law_2678 (lv_at hl 1 rfl) ?_
  refine lv_icmp_eq (tgt := 2685) hx hb dL_law_2680 (by decide) (fun _ => ?_) (fun c9 => absurd rfl c9)
  refine lv_iload hx hb dL_law_2685 (lv_at hl 1 rfl) ?_
  refine x_if_ne (tgt := 2702) hx hb dL_law_2687 (by decide) hkr (fun c0 => ?_) (fun c0 => ?_)
  · refine lv_goto (tgt := 2984) hx hb dL_law_2702 (by decide) ?_
    exact W.widen (by simp only [rm_L_run, rm_X7_run, rm_X7_thrown]; omega) (by simp only [rm_L_run, rm_X7_run, rm_X7_thrown]; omega) (kk t H locs ls ⟨k, hkr, hT⟩ hH (lv_sub hl [2, 3, 4, 5, 6, 7] rfl))
  · refine lv_aload_n hx hb dL_law_2690 rfl (lv_at hl 6 rfl) ?_
    refine x_iconst (n := 0) hx hb dL_law_2691 ?_
    refine x_lald hx hb hK hH (h96 c0) dL_law_2692 ?_
    refine lv_iload hx hb dL_law_2693 (lv_at hl 0 rfl) ?_
    refine lv_i2l (v := (iZ z).toInt64) hx hb dL_law_2695 rfl ?_
    refine W.lcmp hx hb dL_law_2696 ?_
    refine lv_if_eq (tgt := 2702) hx hb dL_law_2697 (by decide) (fun _ => ?_) (fun c9 => absurd ((lg_cmp_eq _ _).mpr rfl) c9)
    refine lv_goto (tgt := 2984) hx hb dL_law_2702 (by decide) ?_
    exact W.widen (by simp only [rm_L_run, rm_X7_run, rm_X7_thrown]; omega) (by simp only [rm_L_run, rm_X7_run, rm_X7_thrown]; omega) (kk t H locs ls ⟨k, hkr, hT⟩ hH (lv_sub hl [2, 3, 4, 5, 6, 7] rfl))
set_option maxRecDepth 100000 in
set_option maxHeartbeats 4000000 in
theorem lc_41 {p : Program} {l : Launch} {e : Env} {s : State} {m : MethodId} {below : List Frame} {meth : Method} {c : Code} {Q : State → Prop} {E : xE} {ST : xST} {Z : zE} {b L : Nat} {xs : Nat → Int32} (G : LX l E ST Z p s m meth c b L xs) {n : Nat} (hn : 4 * n + 4 ≤ L) {σ : xW} {H : Heap} {locs : List Loc} {ls : Array Slot} (hI : INV (n : Int) E σ) (hH : Hx E (fun q => s.heap.size ≤ q) s.heap σ H locs) (hl : lv_has ls 10 [(5, .int (iZ (4 * (n : Int)))), (0, .ref b), (1, .ref (xad E 0)), (2, .ref (xad E 85)), (3, .ref (xad E 96)), (4, .ref (xad E 97))])
    (kk : ∀ (σ1 : xW) (H1 : Heap) (locs1 : List Loc) (ls1 : Array Slot), INV ((n : Int) + 1) E σ1 → Hx E (fun q => s.heap.size ≤ q) s.heap σ1 H1 locs1 → lv_has ls1 10 [(5, .int (iZ (4 * (n : Int)))), (0, .ref b), (1, .ref (xad E 0)), (2, .ref (xad E 85)), (3, .ref (xad E 96)), (4, .ref (xad E 97))] → W p l e room_1 s m #[Value.ref b] below meth c H1 locs1 (100 + 10 * (n + 1)) (3000 + 100 * (n + 1)) Q (F0 m 2984 ls1 [])) : W p l e room_1 s m #[Value.ref b] below meth c H locs (100 + 10 * n) (3000 + 100 * n) Q (F0 m 2705 ls []) := by
  obtain ⟨hx, hb, hml, hown, hts, hK, hST, hSF, hSX, hSQ, htr, hX, hbl, hlocks, hr, hL⟩ := G
  have hOK := hSF.1
  have hn6 : (0 : Int) ≤ (n : Int) ∧ (n : Int) ≤ 600 := by omega
  obtain ⟨P, hP, hPQ⟩ := s_errorPosition l E ST hSF hSX htr hn6 hI  
  refine lv_aload_n hx hb dL_law_2705 rfl (lv_at hl 2 rfl) ?_
  refine lv_aload_n hx hb dL_law_2706 rfl (lv_at hl 4 rfl) ?_
  refine x_cSW (As := [.ref (xad E 0), .ref (xad E 96)]) (rest := []) hx hb hml hts hown hK hST hOK hH hP (vx_cwSW 2 hts gL_law_L_errorPosition rfl rfl rfl (by decide +kernel) ⟨Nat.le_of_ble_eq_true rfl, Nat.le_of_ble_eq_true rfl⟩) rfl hl.1 rfl (Nat.le_of_ble_eq_true rfl) dL_law_2707 ⟨by simp only [rm_L_errorPosition, room_1]; omega, by simp only [rm_L_errorPosition, room_1]; omega⟩ (fun k u H locs hp hH => ?_)
  obtain ⟨⟨fs, h85⟩, Q2, hQ2, hfin⟩ := hPQ k u hp
  refine lv_istore (lv' := [(6, .int (iZ k)), (5, .int (iZ (4 * (n : Int)))), (0, .ref b), (1, .ref (xad E 0)), (2, .ref (xad E 85)), (3, .ref (xad E 96)), (4, .ref (xad E 97))]) hx hb dL_law_2710 hl (by decide) rfl (fun ls hl => ?_)
  refine lv_aload_n hx hb dL_law_2712 rfl (lv_at hl 4 rfl) ?_
  refine x_cVI (As := []) (rest := []) hx hb hml hts hown hK hST hOK hH 85 hQ2 (cwV 0 hts gL_law_X7_errorPosition rfl rfl rfl (by decide +kernel) ⟨Nat.le_of_ble_eq_true rfl, Nat.le_of_ble_eq_true rfl⟩) (by decide) h85 rfl rfl hl.1 rfl (Nat.le_of_ble_eq_true rfl) dL_law_2713 ⟨by simp only [rm_L_errorPosition, rm_X7_errorPosition, room_1]; omega, by simp only [rm_L_errorPosition, rm_X7_errorPosition, room_1]; omega⟩ (fun z t H locs hq hH => ?_)
  obtain ⟨hT, hkr, h96⟩ := hfin z t hq
  refine lv_istore (lv' := [(7, .int (iZ z)), (6, .int (iZ k)), (5, .int (iZ (4 * (n : Int)))), (0, .ref b), (1, .ref (xad E 0)), (2, .ref (xad E 85)), (3, .ref (xad E 96)), (4, .ref (xad E 97))]) hx hb dL_law_2716 hl (by decide) rfl (fun ls hl => ?_)
  obtain ⟨sv, re, ea, fa, ty, li, sz, sp, wr, to, hmo⟩ := hT.mo
  have h85t : t 85 = oB 5 _ := hmo
  refine lv_aload_n hx hb dL_law_2718 rfl (lv_at hl 5 rfl) ?_
  refine x_cVID (z0 := k) (As := []) (rest := []) hx hb hml hts hown hK hST hOK hH 85 (c_X7_thrown l E ST hSF t sv re ea fa ty li k sz sp wr to hmo) (cwV 0 hts gL_law_X7_thrown rfl rfl rfl (by decide +kernel) ⟨Nat.le_of_ble_eq_true rfl, Nat.le_of_ble_eq_true rfl⟩) (by decide) h85t rfl rfl hl.1 rfl (Nat.le_of_ble_eq_true rfl) dL_law_2719 ⟨by simp only [rm_L_errorPosition, rm_X7_errorPosition, rm_X7_thrown, room_1]; omega, by simp only [rm_L_errorPosition, rm_X7_errorPosition, rm_X7_thrown, room_1]; omega⟩ (fun z u h => h) (fun H locs hH => ?_)
  refine lv_iload hx hb dL_law_2722 (lv_at hl 1 rfl) ?_
  refine lv_icmp_eq (tgt := 2729) hx hb dL_law_2724 (by decide) (fun _ => ?_) (fun c9 => absurd rfl c9)
  refine lv_iload hx hb dL_law_2729 (lv_at hl 1 rfl) ?_
  refine x_if_ne (tgt := 2746) hx hb dL_law_2731 (by decide) hkr (fun c0 => ?_) (fun c0 => ?_)
  · refine lv_goto (tgt := 2984) hx hb dL_law_2746 (by decide) ?_
    exact W.widen (by simp only [rm_L_errorPosition, rm_X7_errorPosition, rm_X7_thrown]; omega) (by simp only [rm_L_errorPosition, rm_X7_errorPosition, rm_X7_thrown]; omega) (kk t H locs ls ⟨k, hkr, hT⟩ hH (lv_sub hl [2, 3, 4, 5, 6, 7] rfl))
  · refine lv_aload_n hx hb dL_law_2734 rfl (lv_at hl 6 rfl) ?_
    refine x_iconst (n := 0) hx hb dL_law_2735 ?_
    refine x_lald hx hb hK hH (h96 c0) dL_law_2736 ?_
    refine lv_iload hx hb dL_law_2737 (lv_at hl 0 rfl) ?_
    refine lv_i2l (v := (iZ z).toInt64) hx hb dL_law_2739 rfl ?_
    refine W.lcmp hx hb dL_law_2740 ?_
    refine lv_if_eq (tgt := 2746) hx hb dL_law_2741 (by decide) (fun _ => ?_) (fun c9 => absurd ((lg_cmp_eq _ _).mpr rfl) c9)
    refine lv_goto (tgt := 2984) hx hb dL_law_2746 (by decide) ?_
    exact W.widen (by simp only [rm_L_errorPosition, rm_X7_errorPosition, rm_X7_thrown]; omega) (by simp only [rm_L_errorPosition, rm_X7_errorPosition, rm_X7_thrown]; omega) (kk t H locs ls ⟨k, hkr, hT⟩ hH (lv_sub hl [2, 3, 4, 5, 6, 7] rfl))
set_option maxRecDepth 100000 in
set_option maxHeartbeats 4000000 in
theorem lc_42 {p : Program} {l : Launch} {e : Env} {s : State} {m : MethodId} {below : List Frame} {meth : Method} {c : Code} {Q : State → Prop} {E : xE} {ST : xST} {Z : zE} {b L : Nat} {xs : Nat → Int32} (G : LX l E ST Z p s m meth c b L xs) {n : Nat} (hn : 4 * n + 4 ≤ L) {σ : xW} {H : Heap} {locs : List Loc} {ls : Array Slot} (hI : INV (n : Int) E σ) (hH : Hx E (fun q => s.heap.size ≤ q) s.heap σ H locs) (hl : lv_has ls 10 [(5, .int (iZ (4 * (n : Int)))), (0, .ref b), (1, .ref (xad E 0)), (2, .ref (xad E 85)), (3, .ref (xad E 96)), (4, .ref (xad E 97))])
    (kk : ∀ (σ1 : xW) (H1 : Heap) (locs1 : List Loc) (ls1 : Array Slot), INV ((n : Int) + 1) E σ1 → Hx E (fun q => s.heap.size ≤ q) s.heap σ1 H1 locs1 → lv_has ls1 10 [(5, .int (iZ (4 * (n : Int)))), (0, .ref b), (1, .ref (xad E 0)), (2, .ref (xad E 85)), (3, .ref (xad E 96)), (4, .ref (xad E 97))] → W p l e room_1 s m #[Value.ref b] below meth c H1 locs1 (100 + 10 * (n + 1)) (3000 + 100 * (n + 1)) Q (F0 m 2984 ls1 [])) : W p l e room_1 s m #[Value.ref b] below meth c H locs (100 + 10 * n) (3000 + 100 * n) Q (F0 m 2749 ls []) := by
  obtain ⟨hx, hb, hml, hown, hts, hK, hST, hSF, hSX, hSQ, htr, hX, hbl, hlocks, hr, hL⟩ := G
  have hOK := hSF.1
  have hn6 : (0 : Int) ≤ (n : Int) ∧ (n : Int) ≤ 600 := by omega
  obtain ⟨P, hP, hPQ⟩ := s_failedCommand l E ST hSF hSX htr hn6 hI  
  refine lv_aload_n hx hb dL_law_2749 rfl (lv_at hl 2 rfl) ?_
  refine lv_aload_n hx hb dL_law_2750 rfl (lv_at hl 4 rfl) ?_
  refine x_cSW (As := [.ref (xad E 0), .ref (xad E 96)]) (rest := []) hx hb hml hts hown hK hST hOK hH hP (vx_cwSW 2 hts gL_law_L_failedCommand rfl rfl rfl (by decide +kernel) ⟨Nat.le_of_ble_eq_true rfl, Nat.le_of_ble_eq_true rfl⟩) rfl hl.1 rfl (Nat.le_of_ble_eq_true rfl) dL_law_2751 ⟨by simp only [rm_L_failedCommand, room_1]; omega, by simp only [rm_L_failedCommand, room_1]; omega⟩ (fun k u H locs hp hH => ?_)
  obtain ⟨⟨fs, h85⟩, Q2, hQ2, hfin⟩ := hPQ k u hp
  refine lv_istore (lv' := [(6, .int (iZ k)), (5, .int (iZ (4 * (n : Int)))), (0, .ref b), (1, .ref (xad E 0)), (2, .ref (xad E 85)), (3, .ref (xad E 96)), (4, .ref (xad E 97))]) hx hb dL_law_2754 hl (by decide) rfl (fun ls hl => ?_)
  refine lv_aload_n hx hb dL_law_2756 rfl (lv_at hl 4 rfl) ?_
  refine x_cVI (As := []) (rest := []) hx hb hml hts hown hK hST hOK hH 85 hQ2 (cwV 0 hts gL_law_X7_failedCommand rfl rfl rfl (by decide +kernel) ⟨Nat.le_of_ble_eq_true rfl, Nat.le_of_ble_eq_true rfl⟩) (by decide) h85 rfl rfl hl.1 rfl (Nat.le_of_ble_eq_true rfl) dL_law_2757 ⟨by simp only [rm_L_failedCommand, rm_X7_failedCommand, room_1]; omega, by simp only [rm_L_failedCommand, rm_X7_failedCommand, room_1]; omega⟩ (fun z t H locs hq hH => ?_)
  obtain ⟨hT, hkr, h96⟩ := hfin z t hq
  refine lv_istore (lv' := [(7, .int (iZ z)), (6, .int (iZ k)), (5, .int (iZ (4 * (n : Int)))), (0, .ref b), (1, .ref (xad E 0)), (2, .ref (xad E 85)), (3, .ref (xad E 96)), (4, .ref (xad E 97))]) hx hb dL_law_2760 hl (by decide) rfl (fun ls hl => ?_)
  obtain ⟨sv, re, ea, fa, ty, li, sz, sp, wr, to, hmo⟩ := hT.mo
  have h85t : t 85 = oB 5 _ := hmo
  refine lv_aload_n hx hb dL_law_2762 rfl (lv_at hl 5 rfl) ?_
  refine x_cVID (z0 := k) (As := []) (rest := []) hx hb hml hts hown hK hST hOK hH 85 (c_X7_thrown l E ST hSF t sv re ea fa ty li k sz sp wr to hmo) (cwV 0 hts gL_law_X7_thrown rfl rfl rfl (by decide +kernel) ⟨Nat.le_of_ble_eq_true rfl, Nat.le_of_ble_eq_true rfl⟩) (by decide) h85t rfl rfl hl.1 rfl (Nat.le_of_ble_eq_true rfl) dL_law_2763 ⟨by simp only [rm_L_failedCommand, rm_X7_failedCommand, rm_X7_thrown, room_1]; omega, by simp only [rm_L_failedCommand, rm_X7_failedCommand, rm_X7_thrown, room_1]; omega⟩ (fun z u h => h) (fun H locs hH => ?_)
  refine lv_iload hx hb dL_law_2766 (lv_at hl 1 rfl) ?_
  refine lv_icmp_eq (tgt := 2773) hx hb dL_law_2768 (by decide) (fun _ => ?_) (fun c9 => absurd rfl c9)
  refine lv_iload hx hb dL_law_2773 (lv_at hl 1 rfl) ?_
  refine x_if_ne (tgt := 2790) hx hb dL_law_2775 (by decide) hkr (fun c0 => ?_) (fun c0 => ?_)
  · refine lv_goto (tgt := 2984) hx hb dL_law_2790 (by decide) ?_
    exact W.widen (by simp only [rm_L_failedCommand, rm_X7_failedCommand, rm_X7_thrown]; omega) (by simp only [rm_L_failedCommand, rm_X7_failedCommand, rm_X7_thrown]; omega) (kk t H locs ls ⟨k, hkr, hT⟩ hH (lv_sub hl [2, 3, 4, 5, 6, 7] rfl))
  · refine lv_aload_n hx hb dL_law_2778 rfl (lv_at hl 6 rfl) ?_
    refine x_iconst (n := 0) hx hb dL_law_2779 ?_
    refine x_lald hx hb hK hH (h96 c0) dL_law_2780 ?_
    refine lv_iload hx hb dL_law_2781 (lv_at hl 0 rfl) ?_
    refine lv_i2l (v := (iZ z).toInt64) hx hb dL_law_2783 rfl ?_
    refine W.lcmp hx hb dL_law_2784 ?_
    refine lv_if_eq (tgt := 2790) hx hb dL_law_2785 (by decide) (fun _ => ?_) (fun c9 => absurd ((lg_cmp_eq _ _).mpr rfl) c9)
    refine lv_goto (tgt := 2984) hx hb dL_law_2790 (by decide) ?_
    exact W.widen (by simp only [rm_L_failedCommand, rm_X7_failedCommand, rm_X7_thrown]; omega) (by simp only [rm_L_failedCommand, rm_X7_failedCommand, rm_X7_thrown]; omega) (kk t H locs ls ⟨k, hkr, hT⟩ hH (lv_sub hl [2, 3, 4, 5, 6, 7] rfl))
set_option maxRecDepth 100000 in
set_option maxHeartbeats 4000000 in
theorem lc_43 {p : Program} {l : Launch} {e : Env} {s : State} {m : MethodId} {below : List Frame} {meth : Method} {c : Code} {Q : State → Prop} {E : xE} {ST : xST} {Z : zE} {b L : Nat} {xs : Nat → Int32} (G : LX l E ST Z p s m meth c b L xs) {n : Nat} (hn : 4 * n + 4 ≤ L) {σ : xW} {H : Heap} {locs : List Loc} {ls : Array Slot} (hI : INV (n : Int) E σ) (hH : Hx E (fun q => s.heap.size ≤ q) s.heap σ H locs) (hl : lv_has ls 10 [(5, .int (iZ (4 * (n : Int)))), (0, .ref b), (1, .ref (xad E 0)), (2, .ref (xad E 85)), (3, .ref (xad E 96)), (4, .ref (xad E 97))])
    (kk : ∀ (σ1 : xW) (H1 : Heap) (locs1 : List Loc) (ls1 : Array Slot), INV ((n : Int) + 1) E σ1 → Hx E (fun q => s.heap.size ≤ q) s.heap σ1 H1 locs1 → lv_has ls1 10 [(5, .int (iZ (4 * (n : Int)))), (0, .ref b), (1, .ref (xad E 0)), (2, .ref (xad E 85)), (3, .ref (xad E 96)), (4, .ref (xad E 97))] → W p l e room_1 s m #[Value.ref b] below meth c H1 locs1 (100 + 10 * (n + 1)) (3000 + 100 * (n + 1)) Q (F0 m 2984 ls1 [])) : W p l e room_1 s m #[Value.ref b] below meth c H locs (100 + 10 * n) (3000 + 100 * n) Q (F0 m 2793 ls []) := by
  obtain ⟨hx, hb, hml, hown, hts, hK, hST, hSF, hSX, hSQ, htr, hX, hbl, hlocks, hr, hL⟩ := G
  have hOK := hSF.1
  have hn6 : (0 : Int) ≤ (n : Int) ∧ (n : Int) ≤ 600 := by omega
  obtain ⟨p0, e0⟩ : ∃ y : Int, y = (xs (4 * (n : Int) + 1).toNat).toInt := ⟨_, rfl⟩
  have r0 : rg p0 := by rw [e0]; exact iZ_rg _
  obtain ⟨P, hP, hPQ⟩ := s_writeRow l E ST hSF hSX htr hn6 hI p0 r0
  refine lv_aload_n hx hb dL_law_2793 rfl (lv_at hl 2 rfl) ?_
  refine lv_aload_n hx hb dL_law_2794 rfl (lv_at hl 1 rfl) ?_
  refine lv_iload hx hb dL_law_2795 (lv_at hl 0 rfl) ?_
  refine x_iconst (n := 1) hx hb dL_law_2797 ?_
  refine x_iadd hx hb dL_law_2798 ?_
  refine x_scr hx hb hX hbl hH (by omega) (by omega) hL e0 dL_law_2799 ?_
  refine lv_aload_n hx hb dL_law_2800 rfl (lv_at hl 4 rfl) ?_
  refine x_cSW (As := [.ref (xad E 0), .int (iZ p0), .ref (xad E 96)]) (rest := []) hx hb hml hts hown hK hST hOK hH hP (vx_cwSW 3 hts gL_law_L_writeRow rfl rfl rfl (by decide +kernel) ⟨Nat.le_of_ble_eq_true rfl, Nat.le_of_ble_eq_true rfl⟩) rfl hl.1 rfl (Nat.le_of_ble_eq_true rfl) dL_law_2801 ⟨by simp only [rm_L_writeRow, room_1]; omega, by simp only [rm_L_writeRow, room_1]; omega⟩ (fun k u H locs hp hH => ?_)
  obtain ⟨⟨fs, h85⟩, Q2, hQ2, hfin⟩ := hPQ k u hp
  refine lv_istore (lv' := [(6, .int (iZ k)), (5, .int (iZ (4 * (n : Int)))), (0, .ref b), (1, .ref (xad E 0)), (2, .ref (xad E 85)), (3, .ref (xad E 96)), (4, .ref (xad E 97))]) hx hb dL_law_2804 hl (by decide) rfl (fun ls hl => ?_)
  refine lv_aload_n hx hb dL_law_2806 rfl (lv_at hl 4 rfl) ?_
  refine lv_aload_n hx hb dL_law_2807 rfl (lv_at hl 2 rfl) ?_
  refine lv_iload hx hb dL_law_2808 (lv_at hl 1 rfl) ?_
  refine x_iconst (n := 1) hx hb dL_law_2810 ?_
  refine x_iadd hx hb dL_law_2811 ?_
  refine x_scr hx hb hX hbl hH (by omega) (by omega) hL e0 dL_law_2812 ?_
  refine x_cVI (As := [.int (iZ p0)]) (rest := []) hx hb hml hts hown hK hST hOK hH 85 hQ2 (cwV 1 hts gL_law_X7_writeRow rfl rfl rfl (by decide +kernel) ⟨Nat.le_of_ble_eq_true rfl, Nat.le_of_ble_eq_true rfl⟩) (by decide) h85 rfl rfl hl.1 rfl (Nat.le_of_ble_eq_true rfl) dL_law_2813 ⟨by simp only [rm_L_writeRow, rm_X7_writeRow, room_1]; omega, by simp only [rm_L_writeRow, rm_X7_writeRow, room_1]; omega⟩ (fun z t H locs hq hH => ?_)
  obtain ⟨hT, hkr, h96⟩ := hfin z t hq
  refine lv_istore (lv' := [(7, .int (iZ z)), (6, .int (iZ k)), (5, .int (iZ (4 * (n : Int)))), (0, .ref b), (1, .ref (xad E 0)), (2, .ref (xad E 85)), (3, .ref (xad E 96)), (4, .ref (xad E 97))]) hx hb dL_law_2816 hl (by decide) rfl (fun ls hl => ?_)
  obtain ⟨sv, re, ea, fa, ty, li, sz, sp, wr, to, hmo⟩ := hT.mo
  have h85t : t 85 = oB 5 _ := hmo
  refine lv_aload_n hx hb dL_law_2818 rfl (lv_at hl 5 rfl) ?_
  refine x_cVID (z0 := k) (As := []) (rest := []) hx hb hml hts hown hK hST hOK hH 85 (c_X7_thrown l E ST hSF t sv re ea fa ty li k sz sp wr to hmo) (cwV 0 hts gL_law_X7_thrown rfl rfl rfl (by decide +kernel) ⟨Nat.le_of_ble_eq_true rfl, Nat.le_of_ble_eq_true rfl⟩) (by decide) h85t rfl rfl hl.1 rfl (Nat.le_of_ble_eq_true rfl) dL_law_2819 ⟨by simp only [rm_L_writeRow, rm_X7_writeRow, rm_X7_thrown, room_1]; omega, by simp only [rm_L_writeRow, rm_X7_writeRow, rm_X7_thrown, room_1]; omega⟩ (fun z u h => h) (fun H locs hH => ?_)
  refine lv_iload hx hb dL_law_2822 (lv_at hl 1 rfl) ?_
  refine lv_icmp_eq (tgt := 2829) hx hb dL_law_2824 (by decide) (fun _ => ?_) (fun c9 => absurd rfl c9)
  refine lv_iload hx hb dL_law_2829 (lv_at hl 1 rfl) ?_
  refine x_if_ne (tgt := 2846) hx hb dL_law_2831 (by decide) hkr (fun c0 => ?_) (fun c0 => ?_)
  · refine lv_goto (tgt := 2984) hx hb dL_law_2846 (by decide) ?_
    exact W.widen (by simp only [rm_L_writeRow, rm_X7_writeRow, rm_X7_thrown]; omega) (by simp only [rm_L_writeRow, rm_X7_writeRow, rm_X7_thrown]; omega) (kk t H locs ls ⟨k, hkr, hT⟩ hH (lv_sub hl [2, 3, 4, 5, 6, 7] rfl))
  · refine lv_aload_n hx hb dL_law_2834 rfl (lv_at hl 6 rfl) ?_
    refine x_iconst (n := 0) hx hb dL_law_2835 ?_
    refine x_lald hx hb hK hH (h96 c0) dL_law_2836 ?_
    refine lv_iload hx hb dL_law_2837 (lv_at hl 0 rfl) ?_
    refine lv_i2l (v := (iZ z).toInt64) hx hb dL_law_2839 rfl ?_
    refine W.lcmp hx hb dL_law_2840 ?_
    refine lv_if_eq (tgt := 2846) hx hb dL_law_2841 (by decide) (fun _ => ?_) (fun c9 => absurd ((lg_cmp_eq _ _).mpr rfl) c9)
    refine lv_goto (tgt := 2984) hx hb dL_law_2846 (by decide) ?_
    exact W.widen (by simp only [rm_L_writeRow, rm_X7_writeRow, rm_X7_thrown]; omega) (by simp only [rm_L_writeRow, rm_X7_writeRow, rm_X7_thrown]; omega) (kk t H locs ls ⟨k, hkr, hT⟩ hH (lv_sub hl [2, 3, 4, 5, 6, 7] rfl))
set_option maxRecDepth 100000 in
set_option maxHeartbeats 4000000 in
theorem lc_44 {p : Program} {l : Launch} {e : Env} {s : State} {m : MethodId} {below : List Frame} {meth : Method} {c : Code} {Q : State → Prop} {E : xE} {ST : xST} {Z : zE} {b L : Nat} {xs : Nat → Int32} (G : LX l E ST Z p s m meth c b L xs) {n : Nat} (hn : 4 * n + 4 ≤ L) {σ : xW} {H : Heap} {locs : List Loc} {ls : Array Slot} (hI : INV (n : Int) E σ) (hH : Hx E (fun q => s.heap.size ≤ q) s.heap σ H locs) (hl : lv_has ls 10 [(5, .int (iZ (4 * (n : Int)))), (0, .ref b), (1, .ref (xad E 0)), (2, .ref (xad E 85)), (3, .ref (xad E 96)), (4, .ref (xad E 97))])
    (kk : ∀ (σ1 : xW) (H1 : Heap) (locs1 : List Loc) (ls1 : Array Slot), INV ((n : Int) + 1) E σ1 → Hx E (fun q => s.heap.size ≤ q) s.heap σ1 H1 locs1 → lv_has ls1 10 [(5, .int (iZ (4 * (n : Int)))), (0, .ref b), (1, .ref (xad E 0)), (2, .ref (xad E 85)), (3, .ref (xad E 96)), (4, .ref (xad E 97))] → W p l e room_1 s m #[Value.ref b] below meth c H1 locs1 (100 + 10 * (n + 1)) (3000 + 100 * (n + 1)) Q (F0 m 2984 ls1 [])) : W p l e room_1 s m #[Value.ref b] below meth c H locs (100 + 10 * n) (3000 + 100 * n) Q (F0 m 2849 ls []) := by
  obtain ⟨hx, hb, hml, hown, hts, hK, hST, hSF, hSX, hSQ, htr, hX, hbl, hlocks, hr, hL⟩ := G
  have hOK := hSF.1
  have hn6 : (0 : Int) ≤ (n : Int) ∧ (n : Int) ≤ 600 := by omega
  obtain ⟨p0, e0⟩ : ∃ y : Int, y = (xs (4 * (n : Int) + 1).toNat).toInt := ⟨_, rfl⟩
  have r0 : rg p0 := by rw [e0]; exact iZ_rg _
  obtain ⟨P, hP, hPQ⟩ := s_outputAt l E ST hSF hSX htr hn6 hI p0 r0
  refine lv_aload_n hx hb dL_law_2849 rfl (lv_at hl 2 rfl) ?_
  refine lv_aload_n hx hb dL_law_2850 rfl (lv_at hl 1 rfl) ?_
  refine lv_iload hx hb dL_law_2851 (lv_at hl 0 rfl) ?_
  refine x_iconst (n := 1) hx hb dL_law_2853 ?_
  refine x_iadd hx hb dL_law_2854 ?_
  refine x_scr hx hb hX hbl hH (by omega) (by omega) hL e0 dL_law_2855 ?_
  refine lv_aload_n hx hb dL_law_2856 rfl (lv_at hl 4 rfl) ?_
  refine x_cSW (As := [.ref (xad E 0), .int (iZ p0), .ref (xad E 96)]) (rest := []) hx hb hml hts hown hK hST hOK hH hP (vx_cwSW 3 hts gL_law_L_outputAt rfl rfl rfl (by decide +kernel) ⟨Nat.le_of_ble_eq_true rfl, Nat.le_of_ble_eq_true rfl⟩) rfl hl.1 rfl (Nat.le_of_ble_eq_true rfl) dL_law_2857 ⟨by simp only [rm_L_outputAt, room_1]; omega, by simp only [rm_L_outputAt, room_1]; omega⟩ (fun k u H locs hp hH => ?_)
  obtain ⟨⟨fs, h85⟩, Q2, hQ2, hfin⟩ := hPQ k u hp
  refine lv_istore (lv' := [(6, .int (iZ k)), (5, .int (iZ (4 * (n : Int)))), (0, .ref b), (1, .ref (xad E 0)), (2, .ref (xad E 85)), (3, .ref (xad E 96)), (4, .ref (xad E 97))]) hx hb dL_law_2860 hl (by decide) rfl (fun ls hl => ?_)
  refine lv_aload_n hx hb dL_law_2862 rfl (lv_at hl 4 rfl) ?_
  refine lv_aload_n hx hb dL_law_2863 rfl (lv_at hl 2 rfl) ?_
  refine lv_iload hx hb dL_law_2864 (lv_at hl 1 rfl) ?_
  refine x_iconst (n := 1) hx hb dL_law_2866 ?_
  refine x_iadd hx hb dL_law_2867 ?_
  refine x_scr hx hb hX hbl hH (by omega) (by omega) hL e0 dL_law_2868 ?_
  refine x_cVI (As := [.int (iZ p0)]) (rest := []) hx hb hml hts hown hK hST hOK hH 85 hQ2 (cwV 1 hts gL_law_X7_outputAt rfl rfl rfl (by decide +kernel) ⟨Nat.le_of_ble_eq_true rfl, Nat.le_of_ble_eq_true rfl⟩) (by decide) h85 rfl rfl hl.1 rfl (Nat.le_of_ble_eq_true rfl) dL_law_2869 ⟨by simp only [rm_L_outputAt, rm_X7_outputAt, room_1]; omega, by simp only [rm_L_outputAt, rm_X7_outputAt, room_1]; omega⟩ (fun z t H locs hq hH => ?_)
  obtain ⟨hT, hkr, h96⟩ := hfin z t hq
  refine lv_istore (lv' := [(7, .int (iZ z)), (6, .int (iZ k)), (5, .int (iZ (4 * (n : Int)))), (0, .ref b), (1, .ref (xad E 0)), (2, .ref (xad E 85)), (3, .ref (xad E 96)), (4, .ref (xad E 97))]) hx hb dL_law_2872 hl (by decide) rfl (fun ls hl => ?_)
  obtain ⟨sv, re, ea, fa, ty, li, sz, sp, wr, to, hmo⟩ := hT.mo
  have h85t : t 85 = oB 5 _ := hmo
  refine lv_aload_n hx hb dL_law_2874 rfl (lv_at hl 5 rfl) ?_
  refine x_cVID (z0 := k) (As := []) (rest := []) hx hb hml hts hown hK hST hOK hH 85 (c_X7_thrown l E ST hSF t sv re ea fa ty li k sz sp wr to hmo) (cwV 0 hts gL_law_X7_thrown rfl rfl rfl (by decide +kernel) ⟨Nat.le_of_ble_eq_true rfl, Nat.le_of_ble_eq_true rfl⟩) (by decide) h85t rfl rfl hl.1 rfl (Nat.le_of_ble_eq_true rfl) dL_law_2875 ⟨by simp only [rm_L_outputAt, rm_X7_outputAt, rm_X7_thrown, room_1]; omega, by simp only [rm_L_outputAt, rm_X7_outputAt, rm_X7_thrown, room_1]; omega⟩ (fun z u h => h) (fun H locs hH => ?_)
  refine lv_iload hx hb dL_law_2878 (lv_at hl 1 rfl) ?_
  refine lv_icmp_eq (tgt := 2885) hx hb dL_law_2880 (by decide) (fun _ => ?_) (fun c9 => absurd rfl c9)
  refine lv_iload hx hb dL_law_2885 (lv_at hl 1 rfl) ?_
  refine x_if_ne (tgt := 2902) hx hb dL_law_2887 (by decide) hkr (fun c0 => ?_) (fun c0 => ?_)
  · refine lv_goto (tgt := 2984) hx hb dL_law_2902 (by decide) ?_
    exact W.widen (by simp only [rm_L_outputAt, rm_X7_outputAt, rm_X7_thrown]; omega) (by simp only [rm_L_outputAt, rm_X7_outputAt, rm_X7_thrown]; omega) (kk t H locs ls ⟨k, hkr, hT⟩ hH (lv_sub hl [2, 3, 4, 5, 6, 7] rfl))
  · refine lv_aload_n hx hb dL_law_2890 rfl (lv_at hl 6 rfl) ?_
    refine x_iconst (n := 0) hx hb dL_law_2891 ?_
    refine x_lald hx hb hK hH (h96 c0) dL_law_2892 ?_
    refine lv_iload hx hb dL_law_2893 (lv_at hl 0 rfl) ?_
    refine lv_i2l (v := (iZ z).toInt64) hx hb dL_law_2895 rfl ?_
    refine W.lcmp hx hb dL_law_2896 ?_
    refine lv_if_eq (tgt := 2902) hx hb dL_law_2897 (by decide) (fun _ => ?_) (fun c9 => absurd ((lg_cmp_eq _ _).mpr rfl) c9)
    refine lv_goto (tgt := 2984) hx hb dL_law_2902 (by decide) ?_
    exact W.widen (by simp only [rm_L_outputAt, rm_X7_outputAt, rm_X7_thrown]; omega) (by simp only [rm_L_outputAt, rm_X7_outputAt, rm_X7_thrown]; omega) (kk t H locs ls ⟨k, hkr, hT⟩ hH (lv_sub hl [2, 3, 4, 5, 6, 7] rfl))
set_option maxRecDepth 100000 in
set_option maxHeartbeats 4000000 in
theorem lc_45 {p : Program} {l : Launch} {e : Env} {s : State} {m : MethodId} {below : List Frame} {meth : Method} {c : Code} {Q : State → Prop} {E : xE} {ST : xST} {Z : zE} {b L : Nat} {xs : Nat → Int32} (G : LX l E ST Z p s m meth c b L xs) {n : Nat} (hn : 4 * n + 4 ≤ L) {σ : xW} {H : Heap} {locs : List Loc} {ls : Array Slot} (hI : INV (n : Int) E σ) (hH : Hx E (fun q => s.heap.size ≤ q) s.heap σ H locs) (hl : lv_has ls 10 [(5, .int (iZ (4 * (n : Int)))), (0, .ref b), (1, .ref (xad E 0)), (2, .ref (xad E 85)), (3, .ref (xad E 96)), (4, .ref (xad E 97))])
    (kk : ∀ (σ1 : xW) (H1 : Heap) (locs1 : List Loc) (ls1 : Array Slot), INV ((n : Int) + 1) E σ1 → Hx E (fun q => s.heap.size ≤ q) s.heap σ1 H1 locs1 → lv_has ls1 10 [(5, .int (iZ (4 * (n : Int)))), (0, .ref b), (1, .ref (xad E 0)), (2, .ref (xad E 85)), (3, .ref (xad E 96)), (4, .ref (xad E 97))] → W p l e room_1 s m #[Value.ref b] below meth c H1 locs1 (100 + 10 * (n + 1)) (3000 + 100 * (n + 1)) Q (F0 m 2984 ls1 [])) : W p l e room_1 s m #[Value.ref b] below meth c H locs (100 + 10 * n) (3000 + 100 * n) Q (F0 m 2905 ls []) := by
  obtain ⟨hx, hb, hml, hown, hts, hK, hST, hSF, hSX, hSQ, htr, hX, hbl, hlocks, hr, hL⟩ := G
  have hOK := hSF.1
  have hn6 : (0 : Int) ≤ (n : Int) ∧ (n : Int) ≤ 600 := by omega
  obtain ⟨P, hP, hPQ⟩ := s_undo l E ST hSF hSX htr hn6 hI  
  refine lv_aload_n hx hb dL_law_2905 rfl (lv_at hl 2 rfl) ?_
  refine lv_aload_n hx hb dL_law_2906 rfl (lv_at hl 4 rfl) ?_
  refine x_cSW (As := [.ref (xad E 0), .ref (xad E 96)]) (rest := []) hx hb hml hts hown hK hST hOK hH hP (vx_cwSW 2 hts gL_law_L_undo rfl rfl rfl (by decide +kernel) ⟨Nat.le_of_ble_eq_true rfl, Nat.le_of_ble_eq_true rfl⟩) rfl hl.1 rfl (Nat.le_of_ble_eq_true rfl) dL_law_2907 ⟨by simp only [rm_L_undo, room_1]; omega, by simp only [rm_L_undo, room_1]; omega⟩ (fun k u H locs hp hH => ?_)
  obtain ⟨⟨fs, h85⟩, Q2, hQ2, hfin⟩ := hPQ k u hp
  refine lv_istore (lv' := [(6, .int (iZ k)), (5, .int (iZ (4 * (n : Int)))), (0, .ref b), (1, .ref (xad E 0)), (2, .ref (xad E 85)), (3, .ref (xad E 96)), (4, .ref (xad E 97))]) hx hb dL_law_2910 hl (by decide) rfl (fun ls hl => ?_)
  refine lv_aload_n hx hb dL_law_2912 rfl (lv_at hl 4 rfl) ?_
  refine x_cVI (As := []) (rest := []) hx hb hml hts hown hK hST hOK hH 85 hQ2 (cwV 0 hts gL_law_X7_undo rfl rfl rfl (by decide +kernel) ⟨Nat.le_of_ble_eq_true rfl, Nat.le_of_ble_eq_true rfl⟩) (by decide) h85 rfl rfl hl.1 rfl (Nat.le_of_ble_eq_true rfl) dL_law_2913 ⟨by simp only [rm_L_undo, rm_X7_undo, room_1]; omega, by simp only [rm_L_undo, rm_X7_undo, room_1]; omega⟩ (fun z t H locs hq hH => ?_)
  obtain ⟨hT, hkr, h96⟩ := hfin z t hq
  refine lv_istore (lv' := [(7, .int (iZ z)), (6, .int (iZ k)), (5, .int (iZ (4 * (n : Int)))), (0, .ref b), (1, .ref (xad E 0)), (2, .ref (xad E 85)), (3, .ref (xad E 96)), (4, .ref (xad E 97))]) hx hb dL_law_2916 hl (by decide) rfl (fun ls hl => ?_)
  obtain ⟨sv, re, ea, fa, ty, li, sz, sp, wr, to, hmo⟩ := hT.mo
  have h85t : t 85 = oB 5 _ := hmo
  refine lv_aload_n hx hb dL_law_2918 rfl (lv_at hl 5 rfl) ?_
  refine x_cVID (z0 := k) (As := []) (rest := []) hx hb hml hts hown hK hST hOK hH 85 (c_X7_thrown l E ST hSF t sv re ea fa ty li k sz sp wr to hmo) (cwV 0 hts gL_law_X7_thrown rfl rfl rfl (by decide +kernel) ⟨Nat.le_of_ble_eq_true rfl, Nat.le_of_ble_eq_true rfl⟩) (by decide) h85t rfl rfl hl.1 rfl (Nat.le_of_ble_eq_true rfl) dL_law_2919 ⟨by simp only [rm_L_undo, rm_X7_undo, rm_X7_thrown, room_1]; omega, by simp only [rm_L_undo, rm_X7_undo, rm_X7_thrown, room_1]; omega⟩ (fun z u h => h) (fun H locs hH => ?_)
  refine lv_iload hx hb dL_law_2922 (lv_at hl 1 rfl) ?_
  refine lv_icmp_eq (tgt := 2929) hx hb dL_law_2924 (by decide) (fun _ => ?_) (fun c9 => absurd rfl c9)
  refine lv_iload hx hb dL_law_2929 (lv_at hl 1 rfl) ?_
  refine x_if_ne (tgt := 2946) hx hb dL_law_2931 (by decide) hkr (fun c0 => ?_) (fun c0 => ?_)
  · refine lv_goto (tgt := 2984) hx hb dL_law_2946 (by decide) ?_
    exact W.widen (by simp only [rm_L_undo, rm_X7_undo, rm_X7_thrown]; omega) (by simp only [rm_L_undo, rm_X7_undo, rm_X7_thrown]; omega) (kk t H locs ls ⟨k, hkr, hT⟩ hH (lv_sub hl [2, 3, 4, 5, 6, 7] rfl))
  · refine lv_aload_n hx hb dL_law_2934 rfl (lv_at hl 6 rfl) ?_
    refine x_iconst (n := 0) hx hb dL_law_2935 ?_
    refine x_lald hx hb hK hH (h96 c0) dL_law_2936 ?_
    refine lv_iload hx hb dL_law_2937 (lv_at hl 0 rfl) ?_
    refine lv_i2l (v := (iZ z).toInt64) hx hb dL_law_2939 rfl ?_
    refine W.lcmp hx hb dL_law_2940 ?_
    refine lv_if_eq (tgt := 2946) hx hb dL_law_2941 (by decide) (fun _ => ?_) (fun c9 => absurd ((lg_cmp_eq _ _).mpr rfl) c9)
    refine lv_goto (tgt := 2984) hx hb dL_law_2946 (by decide) ?_
    exact W.widen (by simp only [rm_L_undo, rm_X7_undo, rm_X7_thrown]; omega) (by simp only [rm_L_undo, rm_X7_undo, rm_X7_thrown]; omega) (kk t H locs ls ⟨k, hkr, hT⟩ hH (lv_sub hl [2, 3, 4, 5, 6, 7] rfl))
set_option maxRecDepth 100000 in
set_option maxHeartbeats 4000000 in
theorem lc_46 {p : Program} {l : Launch} {e : Env} {s : State} {m : MethodId} {below : List Frame} {meth : Method} {c : Code} {Q : State → Prop} {E : xE} {ST : xST} {Z : zE} {b L : Nat} {xs : Nat → Int32} (G : LX l E ST Z p s m meth c b L xs) {n : Nat} (hn : 4 * n + 4 ≤ L) {σ : xW} {H : Heap} {locs : List Loc} {ls : Array Slot} (hI : INV (n : Int) E σ) (hH : Hx E (fun q => s.heap.size ≤ q) s.heap σ H locs) (hl : lv_has ls 10 [(5, .int (iZ (4 * (n : Int)))), (0, .ref b), (1, .ref (xad E 0)), (2, .ref (xad E 85)), (3, .ref (xad E 96)), (4, .ref (xad E 97))])
    (kk : ∀ (σ1 : xW) (H1 : Heap) (locs1 : List Loc) (ls1 : Array Slot), INV ((n : Int) + 1) E σ1 → Hx E (fun q => s.heap.size ≤ q) s.heap σ1 H1 locs1 → lv_has ls1 10 [(5, .int (iZ (4 * (n : Int)))), (0, .ref b), (1, .ref (xad E 0)), (2, .ref (xad E 85)), (3, .ref (xad E 96)), (4, .ref (xad E 97))] → W p l e room_1 s m #[Value.ref b] below meth c H1 locs1 (100 + 10 * (n + 1)) (3000 + 100 * (n + 1)) Q (F0 m 2984 ls1 [])) : W p l e room_1 s m #[Value.ref b] below meth c H locs (100 + 10 * n) (3000 + 100 * n) Q (F0 m 2949 ls []) := by
  obtain ⟨hx, hb, hml, hown, hts, hK, hST, hSF, hSX, hSQ, htr, hX, hbl, hlocks, hr, hL⟩ := G
  have hOK := hSF.1
  have hn6 : (0 : Int) ≤ (n : Int) ∧ (n : Int) ≤ 600 := by omega
  obtain ⟨P, hP, hPQ⟩ := s_save l E ST hSF hSX htr hn6 hI
  obtain ⟨fs0, h0⟩ : ∃ fs : List Value, σ 0 = oB 4 fs := by obtain ⟨th9, -, h9⟩ := hI; exact h9.ob.1
  refine lv_aload_n hx hb dL_law_2949 rfl (lv_at hl 2 rfl) ?_
  refine x_cVV (As := []) (rest := []) hx hb hml hts hown hK hST hOK hH 0 hP (cwV 0 hts gL_law_X6_save rfl rfl rfl (by decide +kernel) ⟨Nat.le_of_ble_eq_true rfl, Nat.le_of_ble_eq_true rfl⟩) (by decide) h0 rfl rfl hl.1 rfl (Nat.le_of_ble_eq_true rfl) dL_law_2950 ⟨by simp only [rm_X6_save, room_1]; omega, by simp only [rm_X6_save, room_1]; omega⟩ (fun u H locs hp hH => ?_)
  obtain ⟨⟨fs, h85⟩, Q2, hQ2, hfin⟩ := hPQ u hp
  refine lv_aload_n hx hb dL_law_2953 rfl (lv_at hl 3 rfl) ?_
  refine x_cVV (As := []) (rest := []) hx hb hml hts hown hK hST hOK hH 85 hQ2 (cwV 0 hts gL_law_X7_save rfl rfl rfl (by decide +kernel) ⟨Nat.le_of_ble_eq_true rfl, Nat.le_of_ble_eq_true rfl⟩) (by decide) h85 rfl rfl hl.1 rfl (Nat.le_of_ble_eq_true rfl) dL_law_2954 ⟨by simp only [rm_X6_save, rm_X7_save, room_1]; omega, by simp only [rm_X6_save, rm_X7_save, room_1]; omega⟩ (fun t H locs hq hH => ?_)
  refine lv_goto (tgt := 2984) hx hb dL_law_2957 (by decide) ?_
  exact W.widen (by simp only [rm_X6_save, rm_X7_save]; omega) (by simp only [rm_X6_save, rm_X7_save]; omega) (kk t H locs ls (hfin t hq) hH (lv_sub hl [0, 1, 2, 3, 4, 5] rfl))
set_option maxRecDepth 100000 in
set_option maxHeartbeats 4000000 in
theorem lc_47 {p : Program} {l : Launch} {e : Env} {s : State} {m : MethodId} {below : List Frame} {meth : Method} {c : Code} {Q : State → Prop} {E : xE} {ST : xST} {Z : zE} {b L : Nat} {xs : Nat → Int32} (G : LX l E ST Z p s m meth c b L xs) {n : Nat} (hn : 4 * n + 4 ≤ L) {σ : xW} {H : Heap} {locs : List Loc} {ls : Array Slot} (hI : INV (n : Int) E σ) (hH : Hx E (fun q => s.heap.size ≤ q) s.heap σ H locs) (hl : lv_has ls 10 [(5, .int (iZ (4 * (n : Int)))), (0, .ref b), (1, .ref (xad E 0)), (2, .ref (xad E 85)), (3, .ref (xad E 96)), (4, .ref (xad E 97))])
    (kk : ∀ (σ1 : xW) (H1 : Heap) (locs1 : List Loc) (ls1 : Array Slot), INV ((n : Int) + 1) E σ1 → Hx E (fun q => s.heap.size ≤ q) s.heap σ1 H1 locs1 → lv_has ls1 10 [(5, .int (iZ (4 * (n : Int)))), (0, .ref b), (1, .ref (xad E 0)), (2, .ref (xad E 85)), (3, .ref (xad E 96)), (4, .ref (xad E 97))] → W p l e room_1 s m #[Value.ref b] below meth c H1 locs1 (100 + 10 * (n + 1)) (3000 + 100 * (n + 1)) Q (F0 m 2984 ls1 [])) : W p l e room_1 s m #[Value.ref b] below meth c H locs (100 + 10 * n) (3000 + 100 * n) Q (F0 m 2960 ls []) := by
  obtain ⟨hx, hb, hml, hown, hts, hK, hST, hSF, hSX, hSQ, htr, hX, hbl, hlocks, hr, hL⟩ := G
  have hOK := hSF.1
  have hn6 : (0 : Int) ≤ (n : Int) ∧ (n : Int) ≤ 600 := by omega
  obtain ⟨P, hP, hPQ⟩ := s_restore l E ST hSF hSX htr hn6 hI
  refine lv_aload_n hx hb dL_law_2960 rfl (lv_at hl 2 rfl) ?_
  refine x_cSW (As := [.ref (xad E 0)]) (rest := []) hx hb hml hts hown hK hST hOK hH hP (vx_cwSW 1 hts gL_law_L_restore rfl rfl rfl (by decide +kernel) ⟨Nat.le_of_ble_eq_true rfl, Nat.le_of_ble_eq_true rfl⟩) rfl hl.1 rfl (Nat.le_of_ble_eq_true rfl) dL_law_2961 ⟨by simp only [rm_L_restore, room_1]; omega, by simp only [rm_L_restore, room_1]; omega⟩ (fun k u H locs hp hH => ?_)
  obtain ⟨⟨fs, h85⟩, Q2, hQ2, hfin⟩ := hPQ k u hp
  refine lv_istore (lv' := [(6, .int (iZ k)), (5, .int (iZ (4 * (n : Int)))), (0, .ref b), (1, .ref (xad E 0)), (2, .ref (xad E 85)), (3, .ref (xad E 96)), (4, .ref (xad E 97))]) hx hb dL_law_2964 hl (by decide) rfl (fun ls hl => ?_)
  refine lv_aload_n hx hb dL_law_2966 rfl (lv_at hl 4 rfl) ?_
  refine x_cVV (As := []) (rest := []) hx hb hml hts hown hK hST hOK hH 85 hQ2 (cwV 0 hts gL_law_X7_restore rfl rfl rfl (by decide +kernel) ⟨Nat.le_of_ble_eq_true rfl, Nat.le_of_ble_eq_true rfl⟩) (by decide) h85 rfl rfl hl.1 rfl (Nat.le_of_ble_eq_true rfl) dL_law_2967 ⟨by simp only [rm_L_restore, rm_X7_restore, room_1]; omega, by simp only [rm_L_restore, rm_X7_restore, room_1]; omega⟩ (fun t H locs hq hH => ?_)
  obtain ⟨hT, hkr⟩ := hfin t hq
  obtain ⟨sv, re, ea, fa, ty, li, sz, sp, wr, to, hmo⟩ := hT.mo
  have h85t : t 85 = oB 5 _ := hmo
  refine lv_aload_n hx hb dL_law_2970 rfl (lv_at hl 4 rfl) ?_
  refine x_cVID (z0 := k) (As := []) (rest := []) hx hb hml hts hown hK hST hOK hH 85 (c_X7_thrown l E ST hSF t sv re ea fa ty li k sz sp wr to hmo) (cwV 0 hts gL_law_X7_thrown rfl rfl rfl (by decide +kernel) ⟨Nat.le_of_ble_eq_true rfl, Nat.le_of_ble_eq_true rfl⟩) (by decide) h85t rfl rfl hl.1 rfl (Nat.le_of_ble_eq_true rfl) dL_law_2971 ⟨by simp only [rm_L_restore, rm_X7_restore, rm_X7_thrown, room_1]; omega, by simp only [rm_L_restore, rm_X7_restore, rm_X7_thrown, room_1]; omega⟩ (fun z u h => h) (fun H locs hH => ?_)
  refine lv_iload hx hb dL_law_2974 (lv_at hl 0 rfl) ?_
  refine lv_icmp_eq (tgt := 2981) hx hb dL_law_2976 (by decide) (fun _ => ?_) (fun c9 => absurd rfl c9)
  refine lv_goto (tgt := 2984) hx hb dL_law_2981 (by decide) ?_
  exact W.widen (by simp only [rm_L_restore, rm_X7_restore, rm_X7_thrown]; omega) (by simp only [rm_L_restore, rm_X7_restore, rm_X7_thrown]; omega) (kk t H locs ls ⟨k, hkr, hT⟩ hH (lv_sub hl [1, 2, 3, 4, 5, 6] rfl))
