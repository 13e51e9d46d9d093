/-! ===== the law's cases ===== -/
set_option maxRecDepth 100000 in
set_option maxHeartbeats 4000000 in
theorem lc_0 {p : Program} {l : Launch} {e : Env} {s : State} {m : MethodId} {below : List Frame} {meth : Method} {c : Code} {Q : State → Prop} {E : xE} {ST : xST} {Z : zE} {b L : Nat} {xs : Nat → Int32} (G : LX l E ST Z p s m meth c b L xs) {n : Nat} (hn : 4 * n + 4 ≤ L) {σ : xW} {H : Heap} {locs : List Loc} {ls : Array Slot} (hI : INV (n : Int) E σ) (hH : Hx E (fun q => s.heap.size ≤ q) s.heap σ H locs) (hl : lv_has ls 10 [(5, .int (iZ (4 * (n : Int)))), (0, .ref b), (1, .ref (xad E 0)), (2, .ref (xad E 85)), (3, .ref (xad E 96)), (4, .ref (xad E 97))])
    (kk : ∀ (σ1 : xW) (H1 : Heap) (locs1 : List Loc) (ls1 : Array Slot), INV ((n : Int) + 1) E σ1 → Hx E (fun q => s.heap.size ≤ q) s.heap σ1 H1 locs1 → lv_has ls1 10 [(5, .int (iZ (4 * (n : Int)))), (0, .ref b), (1, .ref (xad E 0)), (2, .ref (xad E 85)), (3, .ref (xad E 96)), (4, .ref (xad E 97))] → W p l e room_1 s m #[Value.ref b] below meth c H1 locs1 (100 + 10 * (n + 1)) (3000 + 100 * (n + 1)) Q (F0 m 2984 ls1 [])) : W p l e room_1 s m #[Value.ref b] below meth c H locs (100 + 10 * n) (3000 + 100 * n) Q (F0 m 252 ls []) := by
  obtain ⟨hx, hb, hml, hown, hts, hK, hST, hSF, hSX, hSQ, htr, hX, hbl, hlocks, hr, hL⟩ := G
  have hOK := hSF.1
  have hn6 : (0 : Int) ≤ (n : Int) ∧ (n : Int) ≤ 600 := by omega
  obtain ⟨p0, e0⟩ : ∃ y : Int, y = (xs (4 * (n : Int) + 1).toNat).toInt := ⟨_, rfl⟩
  have r0 : rg p0 := by rw [e0]; exact iZ_rg _
  obtain ⟨p1, e1⟩ : ∃ y : Int, y = (xs (4 * (n : Int) + 2).toNat).toInt := ⟨_, rfl⟩
  have r1 : rg p1 := by rw [e1]; exact iZ_rg _
  obtain ⟨p2, e2⟩ : ∃ y : Int, y = (xs (4 * (n : Int) + 3).toNat).toInt := ⟨_, rfl⟩
  have r2 : rg p2 := by rw [e2]; exact iZ_rg _
  obtain ⟨P, hP, hPQ⟩ := s_setTile l E ST hSF hSX htr hn6 hI p0 p1 p2 r0 r1 r2
  refine lv_aload_n hx hb dL_law_252 rfl (lv_at hl 2 rfl) ?_
  refine lv_aload_n hx hb dL_law_253 rfl (lv_at hl 1 rfl) ?_
  refine lv_iload hx hb dL_law_254 (lv_at hl 0 rfl) ?_
  refine x_iconst (n := 1) hx hb dL_law_256 ?_
  refine x_iadd hx hb dL_law_257 ?_
  refine x_scr hx hb hX hbl hH (by omega) (by omega) hL e0 dL_law_258 ?_
  refine lv_aload_n hx hb dL_law_259 rfl (lv_at hl 1 rfl) ?_
  refine lv_iload hx hb dL_law_260 (lv_at hl 0 rfl) ?_
  refine x_iconst (n := 2) hx hb dL_law_262 ?_
  refine x_iadd hx hb dL_law_263 ?_
  refine x_scr hx hb hX hbl hH (by omega) (by omega) hL e1 dL_law_264 ?_
  refine lv_aload_n hx hb dL_law_265 rfl (lv_at hl 1 rfl) ?_
  refine lv_iload hx hb dL_law_266 (lv_at hl 0 rfl) ?_
  refine x_iconst (n := 3) hx hb dL_law_268 ?_
  refine x_iadd hx hb dL_law_269 ?_
  refine x_scr hx hb hX hbl hH (by omega) (by omega) hL e2 dL_law_270 ?_
  refine lv_aload_n hx hb dL_law_271 rfl (lv_at hl 4 rfl) ?_
  refine x_cSW (As := [.ref (xad E 0), .int (iZ p0), .int (iZ p1), .int (iZ p2), .ref (xad E 96)]) (rest := []) hx hb hml hts hown hK hST hOK hH hP (vx_cwSW 5 hts gL_law_L_setTile rfl rfl rfl (by decide +kernel) ⟨Nat.le_of_ble_eq_true rfl, Nat.le_of_ble_eq_true rfl⟩) rfl hl.1 rfl (Nat.le_of_ble_eq_true rfl) dL_law_272 ⟨by simp only [rm_L_setTile, room_1]; omega, by simp only [rm_L_setTile, room_1]; omega⟩ (fun k u H locs hp hH => ?_)
  obtain ⟨⟨fs, h85⟩, Q2, hQ2, hfin⟩ := hPQ k u hp
  refine lv_istore (lv' := [(6, .int (iZ k)), (5, .int (iZ (4 * (n : Int)))), (0, .ref b), (1, .ref (xad E 0)), (2, .ref (xad E 85)), (3, .ref (xad E 96)), (4, .ref (xad E 97))]) hx hb dL_law_275 hl (by decide) rfl (fun ls hl => ?_)
  refine lv_aload_n hx hb dL_law_277 rfl (lv_at hl 4 rfl) ?_
  refine lv_aload_n hx hb dL_law_278 rfl (lv_at hl 2 rfl) ?_
  refine lv_iload hx hb dL_law_279 (lv_at hl 1 rfl) ?_
  refine x_iconst (n := 1) hx hb dL_law_281 ?_
  refine x_iadd hx hb dL_law_282 ?_
  refine x_scr hx hb hX hbl hH (by omega) (by omega) hL e0 dL_law_283 ?_
  refine lv_aload_n hx hb dL_law_284 rfl (lv_at hl 2 rfl) ?_
  refine lv_iload hx hb dL_law_285 (lv_at hl 1 rfl) ?_
  refine x_iconst (n := 2) hx hb dL_law_287 ?_
  refine x_iadd hx hb dL_law_288 ?_
  refine x_scr hx hb hX hbl hH (by omega) (by omega) hL e1 dL_law_289 ?_
  refine lv_aload_n hx hb dL_law_290 rfl (lv_at hl 2 rfl) ?_
  refine lv_iload hx hb dL_law_291 (lv_at hl 1 rfl) ?_
  refine x_iconst (n := 3) hx hb dL_law_293 ?_
  refine x_iadd hx hb dL_law_294 ?_
  refine x_scr hx hb hX hbl hH (by omega) (by omega) hL e2 dL_law_295 ?_
  refine x_cVI (As := [.int (iZ p0), .int (iZ p1), .int (iZ p2)]) (rest := []) hx hb hml hts hown hK hST hOK hH 85 hQ2 (cwV 3 hts gL_law_X7_setTile rfl rfl rfl (by decide +kernel) ⟨Nat.le_of_ble_eq_true rfl, Nat.le_of_ble_eq_true rfl⟩) (by decide) h85 rfl rfl hl.1 rfl (Nat.le_of_ble_eq_true rfl) dL_law_296 ⟨by simp only [rm_L_setTile, rm_X7_setTile, room_1]; omega, by simp only [rm_L_setTile, rm_X7_setTile, room_1]; omega⟩ (fun z t H locs hq hH => ?_)
  obtain ⟨hT, hkr, h96⟩ := hfin z t hq
  refine lv_istore (lv' := [(7, .int (iZ z)), (6, .int (iZ k)), (5, .int (iZ (4 * (n : Int)))), (0, .ref b), (1, .ref (xad E 0)), (2, .ref (xad E 85)), (3, .ref (xad E 96)), (4, .ref (xad E 97))]) hx hb dL_law_299 hl (by decide) rfl (fun ls hl => ?_)
  obtain ⟨sv, re, ea, fa, ty, li, sz, sp, wr, to, hmo⟩ := hT.mo
  have h85t : t 85 = oB 5 _ := hmo
  refine lv_aload_n hx hb dL_law_301 rfl (lv_at hl 5 rfl) ?_
  refine x_cVID (z0 := k) (As := []) (rest := []) hx hb hml hts hown hK hST hOK hH 85 (c_X7_thrown l E ST hSF t sv re ea fa ty li k sz sp wr to hmo) (cwV 0 hts gL_law_X7_thrown rfl rfl rfl (by decide +kernel) ⟨Nat.le_of_ble_eq_true rfl, Nat.le_of_ble_eq_true rfl⟩) (by decide) h85t rfl rfl hl.1 rfl (Nat.le_of_ble_eq_true rfl) dL_law_302 ⟨by simp only [rm_L_setTile, rm_X7_setTile, rm_X7_thrown, room_1]; omega, by simp only [rm_L_setTile, rm_X7_setTile, rm_X7_thrown, room_1]; omega⟩ (fun z u h => h) (fun H locs hH => ?_)
  refine lv_iload hx hb dL_law_305 (lv_at hl 1 rfl) ?_
  refine lv_icmp_eq (tgt := 312) hx hb dL_law_307 (by decide) (fun _ => ?_) (fun c9 => absurd rfl c9)
  refine lv_iload hx hb dL_law_312 (lv_at hl 1 rfl) ?_
  refine x_if_ne (tgt := 329) hx hb dL_law_314 (by decide) hkr (fun c0 => ?_) (fun c0 => ?_)
  · refine lv_goto (tgt := 2984) hx hb dL_law_329 (by decide) ?_
    exact W.widen (by simp only [rm_L_setTile, rm_X7_setTile, rm_X7_thrown]; omega) (by simp only [rm_L_setTile, rm_X7_setTile, rm_X7_thrown]; omega) (kk t H locs ls ⟨k, hkr, hT⟩ hH (lv_sub hl [2, 3, 4, 5, 6, 7] rfl))
  · refine lv_aload_n hx hb dL_law_317 rfl (lv_at hl 6 rfl) ?_
    refine x_iconst (n := 0) hx hb dL_law_318 ?_
    refine x_lald hx hb hK hH (h96 c0) dL_law_319 ?_
    refine lv_iload hx hb dL_law_320 (lv_at hl 0 rfl) ?_
    refine lv_i2l (v := (iZ z).toInt64) hx hb dL_law_322 rfl ?_
    refine W.lcmp hx hb dL_law_323 ?_
    refine lv_if_eq (tgt := 329) hx hb dL_law_324 (by decide) (fun _ => ?_) (fun c9 => absurd ((lg_cmp_eq _ _).mpr rfl) c9)
    refine lv_goto (tgt := 2984) hx hb dL_law_329 (by decide) ?_
    exact W.widen (by simp only [rm_L_setTile, rm_X7_setTile, rm_X7_thrown]; omega) (by simp only [rm_L_setTile, rm_X7_setTile, rm_X7_thrown]; omega) (kk t H locs ls ⟨k, hkr, hT⟩ hH (lv_sub hl [2, 3, 4, 5, 6, 7] rfl))
set_option maxRecDepth 100000 in
set_option maxHeartbeats 4000000 in
theorem lc_1 {p : Program} {l : Launch} {e : Env} {s : State} {m : MethodId} {below : List Frame} {meth : Method} {c : Code} {Q : State → Prop} {E : xE} {ST : xST} {Z : zE} {b L : Nat} {xs : Nat → Int32} (G : LX l E ST Z p s m meth c b L xs) {n : Nat} (hn : 4 * n + 4 ≤ L) {σ : xW} {H : Heap} {locs : List Loc} {ls : Array Slot} (hI : INV (n : Int) E σ) (hH : Hx E (fun q => s.heap.size ≤ q) s.heap σ H locs) (hl : lv_has ls 10 [(5, .int (iZ (4 * (n : Int)))), (0, .ref b), (1, .ref (xad E 0)), (2, .ref (xad E 85)), (3, .ref (xad E 96)), (4, .ref (xad E 97))])
    (kk : ∀ (σ1 : xW) (H1 : Heap) (locs1 : List Loc) (ls1 : Array Slot), INV ((n : Int) + 1) E σ1 → Hx E (fun q => s.heap.size ≤ q) s.heap σ1 H1 locs1 → lv_has ls1 10 [(5, .int (iZ (4 * (n : Int)))), (0, .ref b), (1, .ref (xad E 0)), (2, .ref (xad E 85)), (3, .ref (xad E 96)), (4, .ref (xad E 97))] → W p l e room_1 s m #[Value.ref b] below meth c H1 locs1 (100 + 10 * (n + 1)) (3000 + 100 * (n + 1)) Q (F0 m 2984 ls1 [])) : W p l e room_1 s m #[Value.ref b] below meth c H locs (100 + 10 * n) (3000 + 100 * n) Q (F0 m 332 ls []) := by
  obtain ⟨hx, hb, hml, hown, hts, hK, hST, hSF, hSX, hSQ, htr, hX, hbl, hlocks, hr, hL⟩ := G
  have hOK := hSF.1
  have hn6 : (0 : Int) ≤ (n : Int) ∧ (n : Int) ≤ 600 := by omega
  obtain ⟨p0, e0⟩ : ∃ y : Int, y = (xs (4 * (n : Int) + 1).toNat).toInt := ⟨_, rfl⟩
  have r0 : rg p0 := by rw [e0]; exact iZ_rg _
  obtain ⟨p1, e1⟩ : ∃ y : Int, y = (xs (4 * (n : Int) + 2).toNat).toInt := ⟨_, rfl⟩
  have r1 : rg p1 := by rw [e1]; exact iZ_rg _
  obtain ⟨p2, e2⟩ : ∃ y : Int, y = (xs (4 * (n : Int) + 3).toNat).toInt := ⟨_, rfl⟩
  have r2 : rg p2 := by rw [e2]; exact iZ_rg _
  obtain ⟨P, hP, hPQ⟩ := s_turnTile l E ST hSF hSX htr hn6 hI p0 p1 p2 r0 r1 r2
  refine lv_aload_n hx hb dL_law_332 rfl (lv_at hl 2 rfl) ?_
  refine lv_aload_n hx hb dL_law_333 rfl (lv_at hl 1 rfl) ?_
  refine lv_iload hx hb dL_law_334 (lv_at hl 0 rfl) ?_
  refine x_iconst (n := 1) hx hb dL_law_336 ?_
  refine x_iadd hx hb dL_law_337 ?_
  refine x_scr hx hb hX hbl hH (by omega) (by omega) hL e0 dL_law_338 ?_
  refine lv_aload_n hx hb dL_law_339 rfl (lv_at hl 1 rfl) ?_
  refine lv_iload hx hb dL_law_340 (lv_at hl 0 rfl) ?_
  refine x_iconst (n := 2) hx hb dL_law_342 ?_
  refine x_iadd hx hb dL_law_343 ?_
  refine x_scr hx hb hX hbl hH (by omega) (by omega) hL e1 dL_law_344 ?_
  refine lv_aload_n hx hb dL_law_345 rfl (lv_at hl 1 rfl) ?_
  refine lv_iload hx hb dL_law_346 (lv_at hl 0 rfl) ?_
  refine x_iconst (n := 3) hx hb dL_law_348 ?_
  refine x_iadd hx hb dL_law_349 ?_
  refine x_scr hx hb hX hbl hH (by omega) (by omega) hL e2 dL_law_350 ?_
  refine lv_aload_n hx hb dL_law_351 rfl (lv_at hl 4 rfl) ?_
  refine x_cSW (As := [.ref (xad E 0), .int (iZ p0), .int (iZ p1), .int (iZ p2), .ref (xad E 96)]) (rest := []) hx hb hml hts hown hK hST hOK hH hP (vx_cwSW 5 hts gL_law_L_turnTile rfl rfl rfl (by decide +kernel) ⟨Nat.le_of_ble_eq_true rfl, Nat.le_of_ble_eq_true rfl⟩) rfl hl.1 rfl (Nat.le_of_ble_eq_true rfl) dL_law_352 ⟨by simp only [rm_L_turnTile, room_1]; omega, by simp only [rm_L_turnTile, room_1]; omega⟩ (fun k u H locs hp hH => ?_)
  obtain ⟨⟨fs, h85⟩, Q2, hQ2, hfin⟩ := hPQ k u hp
  refine lv_istore (lv' := [(6, .int (iZ k)), (5, .int (iZ (4 * (n : Int)))), (0, .ref b), (1, .ref (xad E 0)), (2, .ref (xad E 85)), (3, .ref (xad E 96)), (4, .ref (xad E 97))]) hx hb dL_law_355 hl (by decide) rfl (fun ls hl => ?_)
  refine lv_aload_n hx hb dL_law_357 rfl (lv_at hl 4 rfl) ?_
  refine lv_aload_n hx hb dL_law_358 rfl (lv_at hl 2 rfl) ?_
  refine lv_iload hx hb dL_law_359 (lv_at hl 1 rfl) ?_
  refine x_iconst (n := 1) hx hb dL_law_361 ?_
  refine x_iadd hx hb dL_law_362 ?_
  refine x_scr hx hb hX hbl hH (by omega) (by omega) hL e0 dL_law_363 ?_
  refine lv_aload_n hx hb dL_law_364 rfl (lv_at hl 2 rfl) ?_
  refine lv_iload hx hb dL_law_365 (lv_at hl 1 rfl) ?_
  refine x_iconst (n := 2) hx hb dL_law_367 ?_
  refine x_iadd hx hb dL_law_368 ?_
  refine x_scr hx hb hX hbl hH (by omega) (by omega) hL e1 dL_law_369 ?_
  refine lv_aload_n hx hb dL_law_370 rfl (lv_at hl 2 rfl) ?_
  refine lv_iload hx hb dL_law_371 (lv_at hl 1 rfl) ?_
  refine x_iconst (n := 3) hx hb dL_law_373 ?_
  refine x_iadd hx hb dL_law_374 ?_
  refine x_scr hx hb hX hbl hH (by omega) (by omega) hL e2 dL_law_375 ?_
  refine x_cVI (As := [.int (iZ p0), .int (iZ p1), .int (iZ p2)]) (rest := []) hx hb hml hts hown hK hST hOK hH 85 hQ2 (cwV 3 hts gL_law_X7_turnTile rfl rfl rfl (by decide +kernel) ⟨Nat.le_of_ble_eq_true rfl, Nat.le_of_ble_eq_true rfl⟩) (by decide) h85 rfl rfl hl.1 rfl (Nat.le_of_ble_eq_true rfl) dL_law_376 ⟨by simp only [rm_L_turnTile, rm_X7_turnTile, room_1]; omega, by simp only [rm_L_turnTile, rm_X7_turnTile, room_1]; omega⟩ (fun z t H locs hq hH => ?_)
  obtain ⟨hT, hkr, h96⟩ := hfin z t hq
  refine lv_istore (lv' := [(7, .int (iZ z)), (6, .int (iZ k)), (5, .int (iZ (4 * (n : Int)))), (0, .ref b), (1, .ref (xad E 0)), (2, .ref (xad E 85)), (3, .ref (xad E 96)), (4, .ref (xad E 97))]) hx hb dL_law_379 hl (by decide) rfl (fun ls hl => ?_)
  obtain ⟨sv, re, ea, fa, ty, li, sz, sp, wr, to, hmo⟩ := hT.mo
  have h85t : t 85 = oB 5 _ := hmo
  refine lv_aload_n hx hb dL_law_381 rfl (lv_at hl 5 rfl) ?_
  refine x_cVID (z0 := k) (As := []) (rest := []) hx hb hml hts hown hK hST hOK hH 85 (c_X7_thrown l E ST hSF t sv re ea fa ty li k sz sp wr to hmo) (cwV 0 hts gL_law_X7_thrown rfl rfl rfl (by decide +kernel) ⟨Nat.le_of_ble_eq_true rfl, Nat.le_of_ble_eq_true rfl⟩) (by decide) h85t rfl rfl hl.1 rfl (Nat.le_of_ble_eq_true rfl) dL_law_382 ⟨by simp only [rm_L_turnTile, rm_X7_turnTile, rm_X7_thrown, room_1]; omega, by simp only [rm_L_turnTile, rm_X7_turnTile, rm_X7_thrown, room_1]; omega⟩ (fun z u h => h) (fun H locs hH => ?_)
  refine lv_iload hx hb dL_law_385 (lv_at hl 1 rfl) ?_
  refine lv_icmp_eq (tgt := 392) hx hb dL_law_387 (by decide) (fun _ => ?_) (fun c9 => absurd rfl c9)
  refine lv_iload hx hb dL_law_392 (lv_at hl 1 rfl) ?_
  refine x_if_ne (tgt := 409) hx hb dL_law_394 (by decide) hkr (fun c0 => ?_) (fun c0 => ?_)
  · refine lv_goto (tgt := 2984) hx hb dL_law_409 (by decide) ?_
    exact W.widen (by simp only [rm_L_turnTile, rm_X7_turnTile, rm_X7_thrown]; omega) (by simp only [rm_L_turnTile, rm_X7_turnTile, rm_X7_thrown]; omega) (kk t H locs ls ⟨k, hkr, hT⟩ hH (lv_sub hl [2, 3, 4, 5, 6, 7] rfl))
  · refine lv_aload_n hx hb dL_law_397 rfl (lv_at hl 6 rfl) ?_
    refine x_iconst (n := 0) hx hb dL_law_398 ?_
    refine x_lald hx hb hK hH (h96 c0) dL_law_399 ?_
    refine lv_iload hx hb dL_law_400 (lv_at hl 0 rfl) ?_
    refine lv_i2l (v := (iZ z).toInt64) hx hb dL_law_402 rfl ?_
    refine W.lcmp hx hb dL_law_403 ?_
    refine lv_if_eq (tgt := 409) hx hb dL_law_404 (by decide) (fun _ => ?_) (fun c9 => absurd ((lg_cmp_eq _ _).mpr rfl) c9)
    refine lv_goto (tgt := 2984) hx hb dL_law_409 (by decide) ?_
    exact W.widen (by simp only [rm_L_turnTile, rm_X7_turnTile, rm_X7_thrown]; omega) (by simp only [rm_L_turnTile, rm_X7_turnTile, rm_X7_thrown]; omega) (kk t H locs ls ⟨k, hkr, hT⟩ hH (lv_sub hl [2, 3, 4, 5, 6, 7] rfl))
set_option maxRecDepth 100000 in
set_option maxHeartbeats 4000000 in
theorem lc_2 {p : Program} {l : Launch} {e : Env} {s : State} {m : MethodId} {below : List Frame} {meth : Method} {c : Code} {Q : State → Prop} {E : xE} {ST : xST} {Z : zE} {b L : Nat} {xs : Nat → Int32} (G : LX l E ST Z p s m meth c b L xs) {n : Nat} (hn : 4 * n + 4 ≤ L) {σ : xW} {H : Heap} {locs : List Loc} {ls : Array Slot} (hI : INV (n : Int) E σ) (hH : Hx E (fun q => s.heap.size ≤ q) s.heap σ H locs) (hl : lv_has ls 10 [(5, .int (iZ (4 * (n : Int)))), (0, .ref b), (1, .ref (xad E 0)), (2, .ref (xad E 85)), (3, .ref (xad E 96)), (4, .ref (xad E 97))])
    (kk : ∀ (σ1 : xW) (H1 : Heap) (locs1 : List Loc) (ls1 : Array Slot), INV ((n : Int) + 1) E σ1 → Hx E (fun q => s.heap.size ≤ q) s.heap σ1 H1 locs1 → lv_has ls1 10 [(5, .int (iZ (4 * (n : Int)))), (0, .ref b), (1, .ref (xad E 0)), (2, .ref (xad E 85)), (3, .ref (xad E 96)), (4, .ref (xad E 97))] → W p l e room_1 s m #[Value.ref b] below meth c H1 locs1 (100 + 10 * (n + 1)) (3000 + 100 * (n + 1)) Q (F0 m 2984 ls1 [])) : W p l e room_1 s m #[Value.ref b] below meth c H locs (100 + 10 * n) (3000 + 100 * n) Q (F0 m 412 ls []) := by
  obtain ⟨hx, hb, hml, hown, hts, hK, hST, hSF, hSX, hSQ, htr, hX, hbl, hlocks, hr, hL⟩ := G
  have hOK := hSF.1
  have hn6 : (0 : Int) ≤ (n : Int) ∧ (n : Int) ≤ 600 := by omega
  obtain ⟨p0, e0⟩ : ∃ y : Int, y = (xs (4 * (n : Int) + 1).toNat).toInt := ⟨_, rfl⟩
  have r0 : rg p0 := by rw [e0]; exact iZ_rg _
  obtain ⟨p1, e1⟩ : ∃ y : Int, y = (xs (4 * (n : Int) + 2).toNat).toInt := ⟨_, rfl⟩
  have r1 : rg p1 := by rw [e1]; exact iZ_rg _
  obtain ⟨P, hP, hPQ⟩ := s_pin l E ST hSF hSX htr hn6 hI p0 p1 r0 r1
  refine lv_aload_n hx hb dL_law_412 rfl (lv_at hl 2 rfl) ?_
  refine lv_aload_n hx hb dL_law_413 rfl (lv_at hl 1 rfl) ?_
  refine lv_iload hx hb dL_law_414 (lv_at hl 0 rfl) ?_
  refine x_iconst (n := 1) hx hb dL_law_416 ?_
  refine x_iadd hx hb dL_law_417 ?_
  refine x_scr hx hb hX hbl hH (by omega) (by omega) hL e0 dL_law_418 ?_
  refine lv_aload_n hx hb dL_law_419 rfl (lv_at hl 1 rfl) ?_
  refine lv_iload hx hb dL_law_420 (lv_at hl 0 rfl) ?_
  refine x_iconst (n := 2) hx hb dL_law_422 ?_
  refine x_iadd hx hb dL_law_423 ?_
  refine x_scr hx hb hX hbl hH (by omega) (by omega) hL e1 dL_law_424 ?_
  refine lv_aload_n hx hb dL_law_425 rfl (lv_at hl 4 rfl) ?_
  refine x_cSW (As := [.ref (xad E 0), .int (iZ p0), .int (iZ p1), .ref (xad E 96)]) (rest := []) hx hb hml hts hown hK hST hOK hH hP (vx_cwSW 4 hts gL_law_L_pin rfl rfl rfl (by decide +kernel) ⟨Nat.le_of_ble_eq_true rfl, Nat.le_of_ble_eq_true rfl⟩) rfl hl.1 rfl (Nat.le_of_ble_eq_true rfl) dL_law_426 ⟨by simp only [rm_L_pin, room_1]; omega, by simp only [rm_L_pin, room_1]; omega⟩ (fun k u H locs hp hH => ?_)
  obtain ⟨⟨fs, h85⟩, Q2, hQ2, hfin⟩ := hPQ k u hp
  refine lv_istore (lv' := [(6, .int (iZ k)), (5, .int (iZ (4 * (n : Int)))), (0, .ref b), (1, .ref (xad E 0)), (2, .ref (xad E 85)), (3, .ref (xad E 96)), (4, .ref (xad E 97))]) hx hb dL_law_429 hl (by decide) rfl (fun ls hl => ?_)
  refine lv_aload_n hx hb dL_law_431 rfl (lv_at hl 4 rfl) ?_
  refine lv_aload_n hx hb dL_law_432 rfl (lv_at hl 2 rfl) ?_
  refine lv_iload hx hb dL_law_433 (lv_at hl 1 rfl) ?_
  refine x_iconst (n := 1) hx hb dL_law_435 ?_
  refine x_iadd hx hb dL_law_436 ?_
  refine x_scr hx hb hX hbl hH (by omega) (by omega) hL e0 dL_law_437 ?_
  refine lv_aload_n hx hb dL_law_438 rfl (lv_at hl 2 rfl) ?_
  refine lv_iload hx hb dL_law_439 (lv_at hl 1 rfl) ?_
  refine x_iconst (n := 2) hx hb dL_law_441 ?_
  refine x_iadd hx hb dL_law_442 ?_
  refine x_scr hx hb hX hbl hH (by omega) (by omega) hL e1 dL_law_443 ?_
  refine x_cVI (As := [.int (iZ p0), .int (iZ p1)]) (rest := []) hx hb hml hts hown hK hST hOK hH 85 hQ2 (cwV 2 hts gL_law_X7_pin rfl rfl rfl (by decide +kernel) ⟨Nat.le_of_ble_eq_true rfl, Nat.le_of_ble_eq_true rfl⟩) (by decide) h85 rfl rfl hl.1 rfl (Nat.le_of_ble_eq_true rfl) dL_law_444 ⟨by simp only [rm_L_pin, rm_X7_pin, room_1]; omega, by simp only [rm_L_pin, rm_X7_pin, room_1]; omega⟩ (fun z t H locs hq hH => ?_)
  obtain ⟨hT, hkr, h96⟩ := hfin z t hq
  refine lv_istore (lv' := [(7, .int (iZ z)), (6, .int (iZ k)), (5, .int (iZ (4 * (n : Int)))), (0, .ref b), (1, .ref (xad E 0)), (2, .ref (xad E 85)), (3, .ref (xad E 96)), (4, .ref (xad E 97))]) hx hb dL_law_447 hl (by decide) rfl (fun ls hl => ?_)
  obtain ⟨sv, re, ea, fa, ty, li, sz, sp, wr, to, hmo⟩ := hT.mo
  have h85t : t 85 = oB 5 _ := hmo
  refine lv_aload_n hx hb dL_law_449 rfl (lv_at hl 5 rfl) ?_
  refine x_cVID (z0 := k) (As := []) (rest := []) hx hb hml hts hown hK hST hOK hH 85 (c_X7_thrown l E ST hSF t sv re ea fa ty li k sz sp wr to hmo) (cwV 0 hts gL_law_X7_thrown rfl rfl rfl (by decide +kernel) ⟨Nat.le_of_ble_eq_true rfl, Nat.le_of_ble_eq_true rfl⟩) (by decide) h85t rfl rfl hl.1 rfl (Nat.le_of_ble_eq_true rfl) dL_law_450 ⟨by simp only [rm_L_pin, rm_X7_pin, rm_X7_thrown, room_1]; omega, by simp only [rm_L_pin, rm_X7_pin, rm_X7_thrown, room_1]; omega⟩ (fun z u h => h) (fun H locs hH => ?_)
  refine lv_iload hx hb dL_law_453 (lv_at hl 1 rfl) ?_
  refine lv_icmp_eq (tgt := 460) hx hb dL_law_455 (by decide) (fun _ => ?_) (fun c9 => absurd rfl c9)
  refine lv_iload hx hb dL_law_460 (lv_at hl 1 rfl) ?_
  refine x_if_ne (tgt := 477) hx hb dL_law_462 (by decide) hkr (fun c0 => ?_) (fun c0 => ?_)
  · refine lv_goto (tgt := 2984) hx hb dL_law_477 (by decide) ?_
    exact W.widen (by simp only [rm_L_pin, rm_X7_pin, rm_X7_thrown]; omega) (by simp only [rm_L_pin, rm_X7_pin, rm_X7_thrown]; omega) (kk t H locs ls ⟨k, hkr, hT⟩ hH (lv_sub hl [2, 3, 4, 5, 6, 7] rfl))
  · refine lv_aload_n hx hb dL_law_465 rfl (lv_at hl 6 rfl) ?_
    refine x_iconst (n := 0) hx hb dL_law_466 ?_
    refine x_lald hx hb hK hH (h96 c0) dL_law_467 ?_
    refine lv_iload hx hb dL_law_468 (lv_at hl 0 rfl) ?_
    refine lv_i2l (v := (iZ z).toInt64) hx hb dL_law_470 rfl ?_
    refine W.lcmp hx hb dL_law_471 ?_
    refine lv_if_eq (tgt := 477) hx hb dL_law_472 (by decide) (fun _ => ?_) (fun c9 => absurd ((lg_cmp_eq _ _).mpr rfl) c9)
    refine lv_goto (tgt := 2984) hx hb dL_law_477 (by decide) ?_
    exact W.widen (by simp only [rm_L_pin, rm_X7_pin, rm_X7_thrown]; omega) (by simp only [rm_L_pin, rm_X7_pin, rm_X7_thrown]; omega) (kk t H locs ls ⟨k, hkr, hT⟩ hH (lv_sub hl [2, 3, 4, 5, 6, 7] rfl))
set_option maxRecDepth 100000 in
set_option maxHeartbeats 4000000 in
theorem lc_3 {p : Program} {l : Launch} {e : Env} {s : State} {m : MethodId} {below : List Frame} {meth : Method} {c : Code} {Q : State → Prop} {E : xE} {ST : xST} {Z : zE} {b L : Nat} {xs : Nat → Int32} (G : LX l E ST Z p s m meth c b L xs) {n : Nat} (hn : 4 * n + 4 ≤ L) {σ : xW} {H : Heap} {locs : List Loc} {ls : Array Slot} (hI : INV (n : Int) E σ) (hH : Hx E (fun q => s.heap.size ≤ q) s.heap σ H locs) (hl : lv_has ls 10 [(5, .int (iZ (4 * (n : Int)))), (0, .ref b), (1, .ref (xad E 0)), (2, .ref (xad E 85)), (3, .ref (xad E 96)), (4, .ref (xad E 97))])
    (kk : ∀ (σ1 : xW) (H1 : Heap) (locs1 : List Loc) (ls1 : Array Slot), INV ((n : Int) + 1) E σ1 → Hx E (fun q => s.heap.size ≤ q) s.heap σ1 H1 locs1 → lv_has ls1 10 [(5, .int (iZ (4 * (n : Int)))), (0, .ref b), (1, .ref (xad E 0)), (2, .ref (xad E 85)), (3, .ref (xad E 96)), (4, .ref (xad E 97))] → W p l e room_1 s m #[Value.ref b] below meth c H1 locs1 (100 + 10 * (n + 1)) (3000 + 100 * (n + 1)) Q (F0 m 2984 ls1 [])) : W p l e room_1 s m #[Value.ref b] below meth c H locs (100 + 10 * n) (3000 + 100 * n) Q (F0 m 480 ls []) := by
  obtain ⟨hx, hb, hml, hown, hts, hK, hST, hSF, hSX, hSQ, htr, hX, hbl, hlocks, hr, hL⟩ := G
  have hOK := hSF.1
  have hn6 : (0 : Int) ≤ (n : Int) ∧ (n : Int) ≤ 600 := by omega
  obtain ⟨p0, e0⟩ : ∃ y : Int, y = (xs (4 * (n : Int) + 1).toNat).toInt := ⟨_, rfl⟩
  have r0 : rg p0 := by rw [e0]; exact iZ_rg _
  obtain ⟨p1, e1⟩ : ∃ y : Int, y = (xs (4 * (n : Int) + 2).toNat).toInt := ⟨_, rfl⟩
  have r1 : rg p1 := by rw [e1]; exact iZ_rg _
  obtain ⟨P, hP, hPQ⟩ := s_unpin l E ST hSF hSX htr hn6 hI p0 p1 r0 r1
  refine lv_aload_n hx hb dL_law_480 rfl (lv_at hl 2 rfl) ?_
  refine lv_aload_n hx hb dL_law_481 rfl (lv_at hl 1 rfl) ?_
  refine lv_iload hx hb dL_law_482 (lv_at hl 0 rfl) ?_
  refine x_iconst (n := 1) hx hb dL_law_484 ?_
  refine x_iadd hx hb dL_law_485 ?_
  refine x_scr hx hb hX hbl hH (by omega) (by omega) hL e0 dL_law_486 ?_
  refine lv_aload_n hx hb dL_law_487 rfl (lv_at hl 1 rfl) ?_
  refine lv_iload hx hb dL_law_488 (lv_at hl 0 rfl) ?_
  refine x_iconst (n := 2) hx hb dL_law_490 ?_
  refine x_iadd hx hb dL_law_491 ?_
  refine x_scr hx hb hX hbl hH (by omega) (by omega) hL e1 dL_law_492 ?_
  refine lv_aload_n hx hb dL_law_493 rfl (lv_at hl 4 rfl) ?_
  refine x_cSW (As := [.ref (xad E 0), .int (iZ p0), .int (iZ p1), .ref (xad E 96)]) (rest := []) hx hb hml hts hown hK hST hOK hH hP (vx_cwSW 4 hts gL_law_L_unpin rfl rfl rfl (by decide +kernel) ⟨Nat.le_of_ble_eq_true rfl, Nat.le_of_ble_eq_true rfl⟩) rfl hl.1 rfl (Nat.le_of_ble_eq_true rfl) dL_law_494 ⟨by simp only [rm_L_unpin, room_1]; omega, by simp only [rm_L_unpin, room_1]; omega⟩ (fun k u H locs hp hH => ?_)
  obtain ⟨⟨fs, h85⟩, Q2, hQ2, hfin⟩ := hPQ k u hp
  refine lv_istore (lv' := [(6, .int (iZ k)), (5, .int (iZ (4 * (n : Int)))), (0, .ref b), (1, .ref (xad E 0)), (2, .ref (xad E 85)), (3, .ref (xad E 96)), (4, .ref (xad E 97))]) hx hb dL_law_497 hl (by decide) rfl (fun ls hl => ?_)
  refine lv_aload_n hx hb dL_law_499 rfl (lv_at hl 4 rfl) ?_
  refine lv_aload_n hx hb dL_law_500 rfl (lv_at hl 2 rfl) ?_
  refine lv_iload hx hb dL_law_501 (lv_at hl 1 rfl) ?_
  refine x_iconst (n := 1) hx hb dL_law_503 ?_
  refine x_iadd hx hb dL_law_504 ?_
  refine x_scr hx hb hX hbl hH (by omega) (by omega) hL e0 dL_law_505 ?_
  refine lv_aload_n hx hb dL_law_506 rfl (lv_at hl 2 rfl) ?_
  refine lv_iload hx hb dL_law_507 (lv_at hl 1 rfl) ?_
  refine x_iconst (n := 2) hx hb dL_law_509 ?_
  refine x_iadd hx hb dL_law_510 ?_
  refine x_scr hx hb hX hbl hH (by omega) (by omega) hL e1 dL_law_511 ?_
  refine x_cVI (As := [.int (iZ p0), .int (iZ p1)]) (rest := []) hx hb hml hts hown hK hST hOK hH 85 hQ2 (cwV 2 hts gL_law_X7_unpin rfl rfl rfl (by decide +kernel) ⟨Nat.le_of_ble_eq_true rfl, Nat.le_of_ble_eq_true rfl⟩) (by decide) h85 rfl rfl hl.1 rfl (Nat.le_of_ble_eq_true rfl) dL_law_512 ⟨by simp only [rm_L_unpin, rm_X7_unpin, room_1]; omega, by simp only [rm_L_unpin, rm_X7_unpin, room_1]; omega⟩ (fun z t H locs hq hH => ?_)
  obtain ⟨hT, hkr, h96⟩ := hfin z t hq
  refine lv_istore (lv' := [(7, .int (iZ z)), (6, .int (iZ k)), (5, .int (iZ (4 * (n : Int)))), (0, .ref b), (1, .ref (xad E 0)), (2, .ref (xad E 85)), (3, .ref (xad E 96)), (4, .ref (xad E 97))]) hx hb dL_law_515 hl (by decide) rfl (fun ls hl => ?_)
  obtain ⟨sv, re, ea, fa, ty, li, sz, sp, wr, to, hmo⟩ := hT.mo
  have h85t : t 85 = oB 5 _ := hmo
  refine lv_aload_n hx hb dL_law_517 rfl (lv_at hl 5 rfl) ?_
  refine x_cVID (z0 := k) (As := []) (rest := []) hx hb hml hts hown hK hST hOK hH 85 (c_X7_thrown l E ST hSF t sv re ea fa ty li k sz sp wr to hmo) (cwV 0 hts gL_law_X7_thrown rfl rfl rfl (by decide +kernel) ⟨Nat.le_of_ble_eq_true rfl, Nat.le_of_ble_eq_true rfl⟩) (by decide) h85t rfl rfl hl.1 rfl (Nat.le_of_ble_eq_true rfl) dL_law_518 ⟨by simp only [rm_L_unpin, rm_X7_unpin, rm_X7_thrown, room_1]; omega, by simp only [rm_L_unpin, rm_X7_unpin, rm_X7_thrown, room_1]; omega⟩ (fun z u h => h) (fun H locs hH => ?_)
  refine lv_iload hx hb dL_law_521 (lv_at hl 1 rfl) ?_
  refine lv_icmp_eq (tgt := 528) hx hb dL_law_523 (by decide) (fun _ => ?_) (fun c9 => absurd rfl c9)
  refine lv_iload hx hb dL_law_528 (lv_at hl 1 rfl) ?_
  refine x_if_ne (tgt := 545) hx hb dL_law_530 (by decide) hkr (fun c0 => ?_) (fun c0 => ?_)
  · refine lv_goto (tgt := 2984) hx hb dL_law_545 (by decide) ?_
    exact W.widen (by simp only [rm_L_unpin, rm_X7_unpin, rm_X7_thrown]; omega) (by simp only [rm_L_unpin, rm_X7_unpin, rm_X7_thrown]; omega) (kk t H locs ls ⟨k, hkr, hT⟩ hH (lv_sub hl [2, 3, 4, 5, 6, 7] rfl))
  · refine lv_aload_n hx hb dL_law_533 rfl (lv_at hl 6 rfl) ?_
    refine x_iconst (n := 0) hx hb dL_law_534 ?_
    refine x_lald hx hb hK hH (h96 c0) dL_law_535 ?_
    refine lv_iload hx hb dL_law_536 (lv_at hl 0 rfl) ?_
    refine lv_i2l (v := (iZ z).toInt64) hx hb dL_law_538 rfl ?_
    refine W.lcmp hx hb dL_law_539 ?_
    refine lv_if_eq (tgt := 545) hx hb dL_law_540 (by decide) (fun _ => ?_) (fun c9 => absurd ((lg_cmp_eq _ _).mpr rfl) c9)
    refine lv_goto (tgt := 2984) hx hb dL_law_545 (by decide) ?_
    exact W.widen (by simp only [rm_L_unpin, rm_X7_unpin, rm_X7_thrown]; omega) (by simp only [rm_L_unpin, rm_X7_unpin, rm_X7_thrown]; omega) (kk t H locs ls ⟨k, hkr, hT⟩ hH (lv_sub hl [2, 3, 4, 5, 6, 7] rfl))
set_option maxRecDepth 100000 in
set_option maxHeartbeats 4000000 in
theorem lc_4 {p : Program} {l : Launch} {e : Env} {s : State} {m : MethodId} {below : List Frame} {meth : Method} {c : Code} {Q : State → Prop} {E : xE} {ST : xST} {Z : zE} {b L : Nat} {xs : Nat → Int32} (G : LX l E ST Z p s m meth c b L xs) {n : Nat} (hn : 4 * n + 4 ≤ L) {σ : xW} {H : Heap} {locs : List Loc} {ls : Array Slot} (hI : INV (n : Int) E σ) (hH : Hx E (fun q => s.heap.size ≤ q) s.heap σ H locs) (hl : lv_has ls 10 [(5, .int (iZ (4 * (n : Int)))), (0, .ref b), (1, .ref (xad E 0)), (2, .ref (xad E 85)), (3, .ref (xad E 96)), (4, .ref (xad E 97))])
    (kk : ∀ (σ1 : xW) (H1 : Heap) (locs1 : List Loc) (ls1 : Array Slot), INV ((n : Int) + 1) E σ1 → Hx E (fun q => s.heap.size ≤ q) s.heap σ1 H1 locs1 → lv_has ls1 10 [(5, .int (iZ (4 * (n : Int)))), (0, .ref b), (1, .ref (xad E 0)), (2, .ref (xad E 85)), (3, .ref (xad E 96)), (4, .ref (xad E 97))] → W p l e room_1 s m #[Value.ref b] below meth c H1 locs1 (100 + 10 * (n + 1)) (3000 + 100 * (n + 1)) Q (F0 m 2984 ls1 [])) : W p l e room_1 s m #[Value.ref b] below meth c H locs (100 + 10 * n) (3000 + 100 * n) Q (F0 m 548 ls []) := by
  obtain ⟨hx, hb, hml, hown, hts, hK, hST, hSF, hSX, hSQ, htr, hX, hbl, hlocks, hr, hL⟩ := G
  have hOK := hSF.1
  have hn6 : (0 : Int) ≤ (n : Int) ∧ (n : Int) ≤ 600 := by omega
  obtain ⟨p0, e0⟩ : ∃ y : Int, y = (xs (4 * (n : Int) + 1).toNat).toInt := ⟨_, rfl⟩
  have r0 : rg p0 := by rw [e0]; exact iZ_rg _
  obtain ⟨p1, e1⟩ : ∃ y : Int, y = (xs (4 * (n : Int) + 2).toNat).toInt := ⟨_, rfl⟩
  have r1 : rg p1 := by rw [e1]; exact iZ_rg _
  obtain ⟨P, hP, hPQ⟩ := s_shiftRow l E ST hSF hSX htr hn6 hI p0 p1 r0 r1
  refine lv_aload_n hx hb dL_law_548 rfl (lv_at hl 2 rfl) ?_
  refine lv_aload_n hx hb dL_law_549 rfl (lv_at hl 1 rfl) ?_
  refine lv_iload hx hb dL_law_550 (lv_at hl 0 rfl) ?_
  refine x_iconst (n := 1) hx hb dL_law_552 ?_
  refine x_iadd hx hb dL_law_553 ?_
  refine x_scr hx hb hX hbl hH (by omega) (by omega) hL e0 dL_law_554 ?_
  refine lv_aload_n hx hb dL_law_555 rfl (lv_at hl 1 rfl) ?_
  refine lv_iload hx hb dL_law_556 (lv_at hl 0 rfl) ?_
  refine x_iconst (n := 2) hx hb dL_law_558 ?_
  refine x_iadd hx hb dL_law_559 ?_
  refine x_scr hx hb hX hbl hH (by omega) (by omega) hL e1 dL_law_560 ?_
  refine lv_aload_n hx hb dL_law_561 rfl (lv_at hl 4 rfl) ?_
  refine x_cSW (As := [.ref (xad E 0), .int (iZ p0), .int (iZ p1), .ref (xad E 96)]) (rest := []) hx hb hml hts hown hK hST hOK hH hP (vx_cwSW 4 hts gL_law_L_shiftRow rfl rfl rfl (by decide +kernel) ⟨Nat.le_of_ble_eq_true rfl, Nat.le_of_ble_eq_true rfl⟩) rfl hl.1 rfl (Nat.le_of_ble_eq_true rfl) dL_law_562 ⟨by simp only [rm_L_shiftRow, room_1]; omega, by simp only [rm_L_shiftRow, room_1]; omega⟩ (fun k u H locs hp hH => ?_)
  obtain ⟨⟨fs, h85⟩, Q2, hQ2, hfin⟩ := hPQ k u hp
  refine lv_istore (lv' := [(6, .int (iZ k)), (5, .int (iZ (4 * (n : Int)))), (0, .ref b), (1, .ref (xad E 0)), (2, .ref (xad E 85)), (3, .ref (xad E 96)), (4, .ref (xad E 97))]) hx hb dL_law_565 hl (by decide) rfl (fun ls hl => ?_)
  refine lv_aload_n hx hb dL_law_567 rfl (lv_at hl 4 rfl) ?_
  refine lv_aload_n hx hb dL_law_568 rfl (lv_at hl 2 rfl) ?_
  refine lv_iload hx hb dL_law_569 (lv_at hl 1 rfl) ?_
  refine x_iconst (n := 1) hx hb dL_law_571 ?_
  refine x_iadd hx hb dL_law_572 ?_
  refine x_scr hx hb hX hbl hH (by omega) (by omega) hL e0 dL_law_573 ?_
  refine lv_aload_n hx hb dL_law_574 rfl (lv_at hl 2 rfl) ?_
  refine lv_iload hx hb dL_law_575 (lv_at hl 1 rfl) ?_
  refine x_iconst (n := 2) hx hb dL_law_577 ?_
  refine x_iadd hx hb dL_law_578 ?_
  refine x_scr hx hb hX hbl hH (by omega) (by omega) hL e1 dL_law_579 ?_
  refine x_cVI (As := [.int (iZ p0), .int (iZ p1)]) (rest := []) hx hb hml hts hown hK hST hOK hH 85 hQ2 (cwV 2 hts gL_law_X7_shiftRow rfl rfl rfl (by decide +kernel) ⟨Nat.le_of_ble_eq_true rfl, Nat.le_of_ble_eq_true rfl⟩) (by decide) h85 rfl rfl hl.1 rfl (Nat.le_of_ble_eq_true rfl) dL_law_580 ⟨by simp only [rm_L_shiftRow, rm_X7_shiftRow, room_1]; omega, by simp only [rm_L_shiftRow, rm_X7_shiftRow, room_1]; omega⟩ (fun z t H locs hq hH => ?_)
  obtain ⟨hT, hkr, h96⟩ := hfin z t hq
  refine lv_istore (lv' := [(7, .int (iZ z)), (6, .int (iZ k)), (5, .int (iZ (4 * (n : Int)))), (0, .ref b), (1, .ref (xad E 0)), (2, .ref (xad E 85)), (3, .ref (xad E 96)), (4, .ref (xad E 97))]) hx hb dL_law_583 hl (by decide) rfl (fun ls hl => ?_)
  obtain ⟨sv, re, ea, fa, ty, li, sz, sp, wr, to, hmo⟩ := hT.mo
  have h85t : t 85 = oB 5 _ := hmo
  refine lv_aload_n hx hb dL_law_585 rfl (lv_at hl 5 rfl) ?_
  refine x_cVID (z0 := k) (As := []) (rest := []) hx hb hml hts hown hK hST hOK hH 85 (c_X7_thrown l E ST hSF t sv re ea fa ty li k sz sp wr to hmo) (cwV 0 hts gL_law_X7_thrown rfl rfl rfl (by decide +kernel) ⟨Nat.le_of_ble_eq_true rfl, Nat.le_of_ble_eq_true rfl⟩) (by decide) h85t rfl rfl hl.1 rfl (Nat.le_of_ble_eq_true rfl) dL_law_586 ⟨by simp only [rm_L_shiftRow, rm_X7_shiftRow, rm_X7_thrown, room_1]; omega, by simp only [rm_L_shiftRow, rm_X7_shiftRow, rm_X7_thrown, room_1]; omega⟩ (fun z u h => h) (fun H locs hH => ?_)
  refine lv_iload hx hb dL_law_589 (lv_at hl 1 rfl) ?_
  refine lv_icmp_eq (tgt := 596) hx hb dL_law_591 (by decide) (fun _ => ?_) (fun c9 => absurd rfl c9)
  refine lv_iload hx hb dL_law_596 (lv_at hl 1 rfl) ?_
  refine x_if_ne (tgt := 613) hx hb dL_law_598 (by decide) hkr (fun c0 => ?_) (fun c0 => ?_)
  · refine lv_goto (tgt := 2984) hx hb dL_law_613 (by decide) ?_
    exact W.widen (by simp only [rm_L_shiftRow, rm_X7_shiftRow, rm_X7_thrown]; omega) (by simp only [rm_L_shiftRow, rm_X7_shiftRow, rm_X7_thrown]; omega) (kk t H locs ls ⟨k, hkr, hT⟩ hH (lv_sub hl [2, 3, 4, 5, 6, 7] rfl))
  · refine lv_aload_n hx hb dL_law_601 rfl (lv_at hl 6 rfl) ?_
    refine x_iconst (n := 0) hx hb dL_law_602 ?_
    refine x_lald hx hb hK hH (h96 c0) dL_law_603 ?_
    refine lv_iload hx hb dL_law_604 (lv_at hl 0 rfl) ?_
    refine lv_i2l (v := (iZ z).toInt64) hx hb dL_law_606 rfl ?_
    refine W.lcmp hx hb dL_law_607 ?_
    refine lv_if_eq (tgt := 613) hx hb dL_law_608 (by decide) (fun _ => ?_) (fun c9 => absurd ((lg_cmp_eq _ _).mpr rfl) c9)
    refine lv_goto (tgt := 2984) hx hb dL_law_613 (by decide) ?_
    exact W.widen (by simp only [rm_L_shiftRow, rm_X7_shiftRow, rm_X7_thrown]; omega) (by simp only [rm_L_shiftRow, rm_X7_shiftRow, rm_X7_thrown]; omega) (kk t H locs ls ⟨k, hkr, hT⟩ hH (lv_sub hl [2, 3, 4, 5, 6, 7] rfl))
set_option maxRecDepth 100000 in
set_option maxHeartbeats 4000000 in
theorem lc_5 {p : Program} {l : Launch} {e : Env} {s : State} {m : MethodId} {below : List Frame} {meth : Method} {c : Code} {Q : State → Prop} {E : xE} {ST : xST} {Z : zE} {b L : Nat} {xs : Nat → Int32} (G : LX l E ST Z p s m meth c b L xs) {n : Nat} (hn : 4 * n + 4 ≤ L) {σ : xW} {H : Heap} {locs : List Loc} {ls : Array Slot} (hI : INV (n : Int) E σ) (hH : Hx E (fun q => s.heap.size ≤ q) s.heap σ H locs) (hl : lv_has ls 10 [(5, .int (iZ (4 * (n : Int)))), (0, .ref b), (1, .ref (xad E 0)), (2, .ref (xad E 85)), (3, .ref (xad E 96)), (4, .ref (xad E 97))])
    (kk : ∀ (σ1 : xW) (H1 : Heap) (locs1 : List Loc) (ls1 : Array Slot), INV ((n : Int) + 1) E σ1 → Hx E (fun q => s.heap.size ≤ q) s.heap σ1 H1 locs1 → lv_has ls1 10 [(5, .int (iZ (4 * (n : Int)))), (0, .ref b), (1, .ref (xad E 0)), (2, .ref (xad E 85)), (3, .ref (xad E 96)), (4, .ref (xad E 97))] → W p l e room_1 s m #[Value.ref b] below meth c H1 locs1 (100 + 10 * (n + 1)) (3000 + 100 * (n + 1)) Q (F0 m 2984 ls1 [])) : W p l e room_1 s m #[Value.ref b] below meth c H locs (100 + 10 * n) (3000 + 100 * n) Q (F0 m 616 ls []) := by
  obtain ⟨hx, hb, hml, hown, hts, hK, hST, hSF, hSX, hSQ, htr, hX, hbl, hlocks, hr, hL⟩ := G
  have hOK := hSF.1
  have hn6 : (0 : Int) ≤ (n : Int) ∧ (n : Int) ≤ 600 := by omega
  obtain ⟨p0, e0⟩ : ∃ y : Int, y = (xs (4 * (n : Int) + 1).toNat).toInt := ⟨_, rfl⟩
  have r0 : rg p0 := by rw [e0]; exact iZ_rg _
  obtain ⟨p1, e1⟩ : ∃ y : Int, y = (xs (4 * (n : Int) + 2).toNat).toInt := ⟨_, rfl⟩
  have r1 : rg p1 := by rw [e1]; exact iZ_rg _
  obtain ⟨P, hP, hPQ⟩ := s_shiftColumn l E ST hSF hSX htr hn6 hI p0 p1 r0 r1
  refine lv_aload_n hx hb dL_law_616 rfl (lv_at hl 2 rfl) ?_
  refine lv_aload_n hx hb dL_law_617 rfl (lv_at hl 1 rfl) ?_
  refine lv_iload hx hb dL_law_618 (lv_at hl 0 rfl) ?_
  refine x_iconst (n := 1) hx hb dL_law_620 ?_
  refine x_iadd hx hb dL_law_621 ?_
  refine x_scr hx hb hX hbl hH (by omega) (by omega) hL e0 dL_law_622 ?_
  refine lv_aload_n hx hb dL_law_623 rfl (lv_at hl 1 rfl) ?_
  refine lv_iload hx hb dL_law_624 (lv_at hl 0 rfl) ?_
  refine x_iconst (n := 2) hx hb dL_law_626 ?_
  refine x_iadd hx hb dL_law_627 ?_
  refine x_scr hx hb hX hbl hH (by omega) (by omega) hL e1 dL_law_628 ?_
  refine lv_aload_n hx hb dL_law_629 rfl (lv_at hl 4 rfl) ?_
  refine x_cSW (As := [.ref (xad E 0), .int (iZ p0), .int (iZ p1), .ref (xad E 96)]) (rest := []) hx hb hml hts hown hK hST hOK hH hP (vx_cwSW 4 hts gL_law_L_shiftColumn rfl rfl rfl (by decide +kernel) ⟨Nat.le_of_ble_eq_true rfl, Nat.le_of_ble_eq_true rfl⟩) rfl hl.1 rfl (Nat.le_of_ble_eq_true rfl) dL_law_630 ⟨by simp only [rm_L_shiftColumn, room_1]; omega, by simp only [rm_L_shiftColumn, room_1]; omega⟩ (fun k u H locs hp hH => ?_)
  obtain ⟨⟨fs, h85⟩, Q2, hQ2, hfin⟩ := hPQ k u hp
  refine lv_istore (lv' := [(6, .int (iZ k)), (5, .int (iZ (4 * (n : Int)))), (0, .ref b), (1, .ref (xad E 0)), (2, .ref (xad E 85)), (3, .ref (xad E 96)), (4, .ref (xad E 97))]) hx hb dL_law_633 hl (by decide) rfl (fun ls hl => ?_)
  refine lv_aload_n hx hb dL_law_635 rfl (lv_at hl 4 rfl) ?_
  refine lv_aload_n hx hb dL_law_636 rfl (lv_at hl 2 rfl) ?_
  refine lv_iload hx hb dL_law_637 (lv_at hl 1 rfl) ?_
  refine x_iconst (n := 1) hx hb dL_law_639 ?_
  refine x_iadd hx hb dL_law_640 ?_
  refine x_scr hx hb hX hbl hH (by omega) (by omega) hL e0 dL_law_641 ?_
  refine lv_aload_n hx hb dL_law_642 rfl (lv_at hl 2 rfl) ?_
  refine lv_iload hx hb dL_law_643 (lv_at hl 1 rfl) ?_
  refine x_iconst (n := 2) hx hb dL_law_645 ?_
  refine x_iadd hx hb dL_law_646 ?_
  refine x_scr hx hb hX hbl hH (by omega) (by omega) hL e1 dL_law_647 ?_
  refine x_cVI (As := [.int (iZ p0), .int (iZ p1)]) (rest := []) hx hb hml hts hown hK hST hOK hH 85 hQ2 (cwV 2 hts gL_law_X7_shiftColumn rfl rfl rfl (by decide +kernel) ⟨Nat.le_of_ble_eq_true rfl, Nat.le_of_ble_eq_true rfl⟩) (by decide) h85 rfl rfl hl.1 rfl (Nat.le_of_ble_eq_true rfl) dL_law_648 ⟨by simp only [rm_L_shiftColumn, rm_X7_shiftColumn, room_1]; omega, by simp only [rm_L_shiftColumn, rm_X7_shiftColumn, room_1]; omega⟩ (fun z t H locs hq hH => ?_)
  obtain ⟨hT, hkr, h96⟩ := hfin z t hq
  refine lv_istore (lv' := [(7, .int (iZ z)), (6, .int (iZ k)), (5, .int (iZ (4 * (n : Int)))), (0, .ref b), (1, .ref (xad E 0)), (2, .ref (xad E 85)), (3, .ref (xad E 96)), (4, .ref (xad E 97))]) hx hb dL_law_651 hl (by decide) rfl (fun ls hl => ?_)
  obtain ⟨sv, re, ea, fa, ty, li, sz, sp, wr, to, hmo⟩ := hT.mo
  have h85t : t 85 = oB 5 _ := hmo
  refine lv_aload_n hx hb dL_law_653 rfl (lv_at hl 5 rfl) ?_
  refine x_cVID (z0 := k) (As := []) (rest := []) hx hb hml hts hown hK hST hOK hH 85 (c_X7_thrown l E ST hSF t sv re ea fa ty li k sz sp wr to hmo) (cwV 0 hts gL_law_X7_thrown rfl rfl rfl (by decide +kernel) ⟨Nat.le_of_ble_eq_true rfl, Nat.le_of_ble_eq_true rfl⟩) (by decide) h85t rfl rfl hl.1 rfl (Nat.le_of_ble_eq_true rfl) dL_law_654 ⟨by simp only [rm_L_shiftColumn, rm_X7_shiftColumn, rm_X7_thrown, room_1]; omega, by simp only [rm_L_shiftColumn, rm_X7_shiftColumn, rm_X7_thrown, room_1]; omega⟩ (fun z u h => h) (fun H locs hH => ?_)
  refine lv_iload hx hb dL_law_657 (lv_at hl 1 rfl) ?_
  refine lv_icmp_eq (tgt := 664) hx hb dL_law_659 (by decide) (fun _ => ?_) (fun c9 => absurd rfl c9)
  refine lv_iload hx hb dL_law_664 (lv_at hl 1 rfl) ?_
  refine x_if_ne (tgt := 681) hx hb dL_law_666 (by decide) hkr (fun c0 => ?_) (fun c0 => ?_)
  · refine lv_goto (tgt := 2984) hx hb dL_law_681 (by decide) ?_
    exact W.widen (by simp only [rm_L_shiftColumn, rm_X7_shiftColumn, rm_X7_thrown]; omega) (by simp only [rm_L_shiftColumn, rm_X7_shiftColumn, rm_X7_thrown]; omega) (kk t H locs ls ⟨k, hkr, hT⟩ hH (lv_sub hl [2, 3, 4, 5, 6, 7] rfl))
  · refine lv_aload_n hx hb dL_law_669 rfl (lv_at hl 6 rfl) ?_
    refine x_iconst (n := 0) hx hb dL_law_670 ?_
    refine x_lald hx hb hK hH (h96 c0) dL_law_671 ?_
    refine lv_iload hx hb dL_law_672 (lv_at hl 0 rfl) ?_
    refine lv_i2l (v := (iZ z).toInt64) hx hb dL_law_674 rfl ?_
    refine W.lcmp hx hb dL_law_675 ?_
    refine lv_if_eq (tgt := 681) hx hb dL_law_676 (by decide) (fun _ => ?_) (fun c9 => absurd ((lg_cmp_eq _ _).mpr rfl) c9)
    refine lv_goto (tgt := 2984) hx hb dL_law_681 (by decide) ?_
    exact W.widen (by simp only [rm_L_shiftColumn, rm_X7_shiftColumn, rm_X7_thrown]; omega) (by simp only [rm_L_shiftColumn, rm_X7_shiftColumn, rm_X7_thrown]; omega) (kk t H locs ls ⟨k, hkr, hT⟩ hH (lv_sub hl [2, 3, 4, 5, 6, 7] rfl))
set_option maxRecDepth 100000 in
set_option maxHeartbeats 4000000 in
theorem lc_6 {p : Program} {l : Launch} {e : Env} {s : State} {m : MethodId} {below : List Frame} {meth : Method} {c : Code} {Q : State → Prop} {E : xE} {ST : xST} {Z : zE} {b L : Nat} {xs : Nat → Int32} (G : LX l E ST Z p s m meth c b L xs) {n : Nat} (hn : 4 * n + 4 ≤ L) {σ : xW} {H : Heap} {locs : List Loc} {ls : Array Slot} (hI : INV (n : Int) E σ) (hH : Hx E (fun q => s.heap.size ≤ q) s.heap σ H locs) (hl : lv_has ls 10 [(5, .int (iZ (4 * (n : Int)))), (0, .ref b), (1, .ref (xad E 0)), (2, .ref (xad E 85)), (3, .ref (xad E 96)), (4, .ref (xad E 97))])
    (kk : ∀ (σ1 : xW) (H1 : Heap) (locs1 : List Loc) (ls1 : Array Slot), INV ((n : Int) + 1) E σ1 → Hx E (fun q => s.heap.size ≤ q) s.heap σ1 H1 locs1 → lv_has ls1 10 [(5, .int (iZ (4 * (n : Int)))), (0, .ref b), (1, .ref (xad E 0)), (2, .ref (xad E 85)), (3, .ref (xad E 96)), (4, .ref (xad E 97))] → W p l e room_1 s m #[Value.ref b] below meth c H1 locs1 (100 + 10 * (n + 1)) (3000 + 100 * (n + 1)) Q (F0 m 2984 ls1 [])) : W p l e room_1 s m #[Value.ref b] below meth c H locs (100 + 10 * n) (3000 + 100 * n) Q (F0 m 684 ls []) := by
  obtain ⟨hx, hb, hml, hown, hts, hK, hST, hSF, hSX, hSQ, htr, hX, hbl, hlocks, hr, hL⟩ := G
  have hOK := hSF.1
  have hn6 : (0 : Int) ≤ (n : Int) ∧ (n : Int) ≤ 600 := by omega
  obtain ⟨p0, e0⟩ : ∃ y : Int, y = (xs (4 * (n : Int) + 1).toNat).toInt := ⟨_, rfl⟩
  have r0 : rg p0 := by rw [e0]; exact iZ_rg _
  have rc0 := i2cZ_rg p0
  have rq0 : rg (i2cZ p0) := ⟨by omega, by omega⟩
  obtain ⟨p1, e1⟩ : ∃ y : Int, y = (xs (4 * (n : Int) + 2).toNat).toInt := ⟨_, rfl⟩
  have r1 : rg p1 := by rw [e1]; exact iZ_rg _
  obtain ⟨p2, e2⟩ : ∃ y : Int, y = (xs (4 * (n : Int) + 3).toNat).toInt := ⟨_, rfl⟩
  have r2 : rg p2 := by rw [e2]; exact iZ_rg _
  obtain ⟨P, hP, hPQ⟩ := s_placeKey l E ST hSF hSX htr hn6 hI (i2cZ p0) p1 p2 rq0 r1 r2
  refine lv_aload_n hx hb dL_law_684 rfl (lv_at hl 2 rfl) ?_
  refine lv_aload_n hx hb dL_law_685 rfl (lv_at hl 1 rfl) ?_
  refine lv_iload hx hb dL_law_686 (lv_at hl 0 rfl) ?_
  refine x_iconst (n := 1) hx hb dL_law_688 ?_
  refine x_iadd hx hb dL_law_689 ?_
  refine x_scr hx hb hX hbl hH (by omega) (by omega) hL e0 dL_law_690 ?_
  refine x_i2c hx hb dL_law_691 ?_
  refine lv_aload_n hx hb dL_law_692 rfl (lv_at hl 1 rfl) ?_
  refine lv_iload hx hb dL_law_693 (lv_at hl 0 rfl) ?_
  refine x_iconst (n := 2) hx hb dL_law_695 ?_
  refine x_iadd hx hb dL_law_696 ?_
  refine x_scr hx hb hX hbl hH (by omega) (by omega) hL e1 dL_law_697 ?_
  refine lv_aload_n hx hb dL_law_698 rfl (lv_at hl 1 rfl) ?_
  refine lv_iload hx hb dL_law_699 (lv_at hl 0 rfl) ?_
  refine x_iconst (n := 3) hx hb dL_law_701 ?_
  refine x_iadd hx hb dL_law_702 ?_
  refine x_scr hx hb hX hbl hH (by omega) (by omega) hL e2 dL_law_703 ?_
  refine lv_aload_n hx hb dL_law_704 rfl (lv_at hl 4 rfl) ?_
  refine x_cSW (As := [.ref (xad E 0), .int (iZ (i2cZ p0)), .int (iZ p1), .int (iZ p2), .ref (xad E 96)]) (rest := []) hx hb hml hts hown hK hST hOK hH hP (vx_cwSW 5 hts gL_law_L_placeKey rfl rfl rfl (by decide +kernel) ⟨Nat.le_of_ble_eq_true rfl, Nat.le_of_ble_eq_true rfl⟩) rfl hl.1 rfl (Nat.le_of_ble_eq_true rfl) dL_law_705 ⟨by simp only [rm_L_placeKey, room_1]; omega, by simp only [rm_L_placeKey, room_1]; omega⟩ (fun k u H locs hp hH => ?_)
  obtain ⟨⟨fs, h85⟩, Q2, hQ2, hfin⟩ := hPQ k u hp
  refine lv_istore (lv' := [(6, .int (iZ k)), (5, .int (iZ (4 * (n : Int)))), (0, .ref b), (1, .ref (xad E 0)), (2, .ref (xad E 85)), (3, .ref (xad E 96)), (4, .ref (xad E 97))]) hx hb dL_law_708 hl (by decide) rfl (fun ls hl => ?_)
  refine lv_aload_n hx hb dL_law_710 rfl (lv_at hl 4 rfl) ?_
  refine lv_aload_n hx hb dL_law_711 rfl (lv_at hl 2 rfl) ?_
  refine lv_iload hx hb dL_law_712 (lv_at hl 1 rfl) ?_
  refine x_iconst (n := 1) hx hb dL_law_714 ?_
  refine x_iadd hx hb dL_law_715 ?_
  refine x_scr hx hb hX hbl hH (by omega) (by omega) hL e0 dL_law_716 ?_
  refine x_i2c hx hb dL_law_717 ?_
  refine lv_aload_n hx hb dL_law_718 rfl (lv_at hl 2 rfl) ?_
  refine lv_iload hx hb dL_law_719 (lv_at hl 1 rfl) ?_
  refine x_iconst (n := 2) hx hb dL_law_721 ?_
  refine x_iadd hx hb dL_law_722 ?_
  refine x_scr hx hb hX hbl hH (by omega) (by omega) hL e1 dL_law_723 ?_
  refine lv_aload_n hx hb dL_law_724 rfl (lv_at hl 2 rfl) ?_
  refine lv_iload hx hb dL_law_725 (lv_at hl 1 rfl) ?_
  refine x_iconst (n := 3) hx hb dL_law_727 ?_
  refine x_iadd hx hb dL_law_728 ?_
  refine x_scr hx hb hX hbl hH (by omega) (by omega) hL e2 dL_law_729 ?_
  refine x_cVI (As := [.int (iZ (i2cZ p0)), .int (iZ p1), .int (iZ p2)]) (rest := []) hx hb hml hts hown hK hST hOK hH 85 hQ2 (cwV 3 hts gL_law_X7_placeKey rfl rfl rfl (by decide +kernel) ⟨Nat.le_of_ble_eq_true rfl, Nat.le_of_ble_eq_true rfl⟩) (by decide) h85 rfl rfl hl.1 rfl (Nat.le_of_ble_eq_true rfl) dL_law_730 ⟨by simp only [rm_L_placeKey, rm_X7_placeKey, room_1]; omega, by simp only [rm_L_placeKey, rm_X7_placeKey, room_1]; omega⟩ (fun z t H locs hq hH => ?_)
  obtain ⟨hT, hkr, h96⟩ := hfin z t hq
  refine lv_istore (lv' := [(7, .int (iZ z)), (6, .int (iZ k)), (5, .int (iZ (4 * (n : Int)))), (0, .ref b), (1, .ref (xad E 0)), (2, .ref (xad E 85)), (3, .ref (xad E 96)), (4, .ref (xad E 97))]) hx hb dL_law_733 hl (by decide) rfl (fun ls hl => ?_)
  obtain ⟨sv, re, ea, fa, ty, li, sz, sp, wr, to, hmo⟩ := hT.mo
  have h85t : t 85 = oB 5 _ := hmo
  refine lv_aload_n hx hb dL_law_735 rfl (lv_at hl 5 rfl) ?_
  refine x_cVID (z0 := k) (As := []) (rest := []) hx hb hml hts hown hK hST hOK hH 85 (c_X7_thrown l E ST hSF t sv re ea fa ty li k sz sp wr to hmo) (cwV 0 hts gL_law_X7_thrown rfl rfl rfl (by decide +kernel) ⟨Nat.le_of_ble_eq_true rfl, Nat.le_of_ble_eq_true rfl⟩) (by decide) h85t rfl rfl hl.1 rfl (Nat.le_of_ble_eq_true rfl) dL_law_736 ⟨by simp only [rm_L_placeKey, rm_X7_placeKey, rm_X7_thrown, room_1]; omega, by simp only [rm_L_placeKey, rm_X7_placeKey, rm_X7_thrown, room_1]; omega⟩ (fun z u h => h) (fun H locs hH => ?_)
  refine lv_iload hx hb dL_law_739 (lv_at hl 1 rfl) ?_
  refine lv_icmp_eq (tgt := 746) hx hb dL_law_741 (by decide) (fun _ => ?_) (fun c9 => absurd rfl c9)
  refine lv_iload hx hb dL_law_746 (lv_at hl 1 rfl) ?_
  refine x_if_ne (tgt := 763) hx hb dL_law_748 (by decide) hkr (fun c0 => ?_) (fun c0 => ?_)
  · refine lv_goto (tgt := 2984) hx hb dL_law_763 (by decide) ?_
    exact W.widen (by simp only [rm_L_placeKey, rm_X7_placeKey, rm_X7_thrown]; omega) (by simp only [rm_L_placeKey, rm_X7_placeKey, rm_X7_thrown]; omega) (kk t H locs ls ⟨k, hkr, hT⟩ hH (lv_sub hl [2, 3, 4, 5, 6, 7] rfl))
  · refine lv_aload_n hx hb dL_law_751 rfl (lv_at hl 6 rfl) ?_
    refine x_iconst (n := 0) hx hb dL_law_752 ?_
    refine x_lald hx hb hK hH (h96 c0) dL_law_753 ?_
    refine lv_iload hx hb dL_law_754 (lv_at hl 0 rfl) ?_
    refine lv_i2l (v := (iZ z).toInt64) hx hb dL_law_756 rfl ?_
    refine W.lcmp hx hb dL_law_757 ?_
    refine lv_if_eq (tgt := 763) hx hb dL_law_758 (by decide) (fun _ => ?_) (fun c9 => absurd ((lg_cmp_eq _ _).mpr rfl) c9)
    refine lv_goto (tgt := 2984) hx hb dL_law_763 (by decide) ?_
    exact W.widen (by simp only [rm_L_placeKey, rm_X7_placeKey, rm_X7_thrown]; omega) (by simp only [rm_L_placeKey, rm_X7_placeKey, rm_X7_thrown]; omega) (kk t H locs ls ⟨k, hkr, hT⟩ hH (lv_sub hl [2, 3, 4, 5, 6, 7] rfl))
set_option maxRecDepth 100000 in
set_option maxHeartbeats 4000000 in
theorem lc_7 {p : Program} {l : Launch} {e : Env} {s : State} {m : MethodId} {below : List Frame} {meth : Method} {c : Code} {Q : State → Prop} {E : xE} {ST : xST} {Z : zE} {b L : Nat} {xs : Nat → Int32} (G : LX l E ST Z p s m meth c b L xs) {n : Nat} (hn : 4 * n + 4 ≤ L) {σ : xW} {H : Heap} {locs : List Loc} {ls : Array Slot} (hI : INV (n : Int) E σ) (hH : Hx E (fun q => s.heap.size ≤ q) s.heap σ H locs) (hl : lv_has ls 10 [(5, .int (iZ (4 * (n : Int)))), (0, .ref b), (1, .ref (xad E 0)), (2, .ref (xad E 85)), (3, .ref (xad E 96)), (4, .ref (xad E 97))])
    (kk : ∀ (σ1 : xW) (H1 : Heap) (locs1 : List Loc) (ls1 : Array Slot), INV ((n : Int) + 1) E σ1 → Hx E (fun q => s.heap.size ≤ q) s.heap σ1 H1 locs1 → lv_has ls1 10 [(5, .int (iZ (4 * (n : Int)))), (0, .ref b), (1, .ref (xad E 0)), (2, .ref (xad E 85)), (3, .ref (xad E 96)), (4, .ref (xad E 97))] → W p l e room_1 s m #[Value.ref b] below meth c H1 locs1 (100 + 10 * (n + 1)) (3000 + 100 * (n + 1)) Q (F0 m 2984 ls1 [])) : W p l e room_1 s m #[Value.ref b] below meth c H locs (100 + 10 * n) (3000 + 100 * n) Q (F0 m 766 ls []) := by
  obtain ⟨hx, hb, hml, hown, hts, hK, hST, hSF, hSX, hSQ, htr, hX, hbl, hlocks, hr, hL⟩ := G
  have hOK := hSF.1
  have hn6 : (0 : Int) ≤ (n : Int) ∧ (n : Int) ≤ 600 := by omega
  obtain ⟨p0, e0⟩ : ∃ y : Int, y = (xs (4 * (n : Int) + 1).toNat).toInt := ⟨_, rfl⟩
  have r0 : rg p0 := by rw [e0]; exact iZ_rg _
  obtain ⟨p1, e1⟩ : ∃ y : Int, y = (xs (4 * (n : Int) + 2).toNat).toInt := ⟨_, rfl⟩
  have r1 : rg p1 := by rw [e1]; exact iZ_rg _
  obtain ⟨p2, e2⟩ : ∃ y : Int, y = (xs (4 * (n : Int) + 3).toNat).toInt := ⟨_, rfl⟩
  have r2 : rg p2 := by rw [e2]; exact iZ_rg _
  have rc2 := i2cZ_rg p2
  have rq2 : rg (i2cZ p2) := ⟨by omega, by omega⟩
  obtain ⟨P, hP, hPQ⟩ := s_addLock l E ST hSF hSX htr hn6 hI p0 p1 (i2cZ p2) r0 r1 rq2
  refine lv_aload_n hx hb dL_law_766 rfl (lv_at hl 2 rfl) ?_
  refine lv_aload_n hx hb dL_law_767 rfl (lv_at hl 1 rfl) ?_
  refine lv_iload hx hb dL_law_768 (lv_at hl 0 rfl) ?_
  refine x_iconst (n := 1) hx hb dL_law_770 ?_
  refine x_iadd hx hb dL_law_771 ?_
  refine x_scr hx hb hX hbl hH (by omega) (by omega) hL e0 dL_law_772 ?_
  refine lv_aload_n hx hb dL_law_773 rfl (lv_at hl 1 rfl) ?_
  refine lv_iload hx hb dL_law_774 (lv_at hl 0 rfl) ?_
  refine x_iconst (n := 2) hx hb dL_law_776 ?_
  refine x_iadd hx hb dL_law_777 ?_
  refine x_scr hx hb hX hbl hH (by omega) (by omega) hL e1 dL_law_778 ?_
  refine lv_aload_n hx hb dL_law_779 rfl (lv_at hl 1 rfl) ?_
  refine lv_iload hx hb dL_law_780 (lv_at hl 0 rfl) ?_
  refine x_iconst (n := 3) hx hb dL_law_782 ?_
  refine x_iadd hx hb dL_law_783 ?_
  refine x_scr hx hb hX hbl hH (by omega) (by omega) hL e2 dL_law_784 ?_
  refine x_i2c hx hb dL_law_785 ?_
  refine lv_aload_n hx hb dL_law_786 rfl (lv_at hl 4 rfl) ?_
  refine x_cSW (As := [.ref (xad E 0), .int (iZ p0), .int (iZ p1), .int (iZ (i2cZ p2)), .ref (xad E 96)]) (rest := []) hx hb hml hts hown hK hST hOK hH hP (vx_cwSW 5 hts gL_law_L_addLock rfl rfl rfl (by decide +kernel) ⟨Nat.le_of_ble_eq_true rfl, Nat.le_of_ble_eq_true rfl⟩) rfl hl.1 rfl (Nat.le_of_ble_eq_true rfl) dL_law_787 ⟨by simp only [rm_L_addLock, room_1]; omega, by simp only [rm_L_addLock, room_1]; omega⟩ (fun k u H locs hp hH => ?_)
  obtain ⟨⟨fs, h85⟩, Q2, hQ2, hfin⟩ := hPQ k u hp
  refine lv_istore (lv' := [(6, .int (iZ k)), (5, .int (iZ (4 * (n : Int)))), (0, .ref b), (1, .ref (xad E 0)), (2, .ref (xad E 85)), (3, .ref (xad E 96)), (4, .ref (xad E 97))]) hx hb dL_law_790 hl (by decide) rfl (fun ls hl => ?_)
  refine lv_aload_n hx hb dL_law_792 rfl (lv_at hl 4 rfl) ?_
  refine lv_aload_n hx hb dL_law_793 rfl (lv_at hl 2 rfl) ?_
  refine lv_iload hx hb dL_law_794 (lv_at hl 1 rfl) ?_
  refine x_iconst (n := 1) hx hb dL_law_796 ?_
  refine x_iadd hx hb dL_law_797 ?_
  refine x_scr hx hb hX hbl hH (by omega) (by omega) hL e0 dL_law_798 ?_
  refine lv_aload_n hx hb dL_law_799 rfl (lv_at hl 2 rfl) ?_
  refine lv_iload hx hb dL_law_800 (lv_at hl 1 rfl) ?_
  refine x_iconst (n := 2) hx hb dL_law_802 ?_
  refine x_iadd hx hb dL_law_803 ?_
  refine x_scr hx hb hX hbl hH (by omega) (by omega) hL e1 dL_law_804 ?_
  refine lv_aload_n hx hb dL_law_805 rfl (lv_at hl 2 rfl) ?_
  refine lv_iload hx hb dL_law_806 (lv_at hl 1 rfl) ?_
  refine x_iconst (n := 3) hx hb dL_law_808 ?_
  refine x_iadd hx hb dL_law_809 ?_
  refine x_scr hx hb hX hbl hH (by omega) (by omega) hL e2 dL_law_810 ?_
  refine x_i2c hx hb dL_law_811 ?_
  refine x_cVI (As := [.int (iZ p0), .int (iZ p1), .int (iZ (i2cZ p2))]) (rest := []) hx hb hml hts hown hK hST hOK hH 85 hQ2 (cwV 3 hts gL_law_X7_addLock rfl rfl rfl (by decide +kernel) ⟨Nat.le_of_ble_eq_true rfl, Nat.le_of_ble_eq_true rfl⟩) (by decide) h85 rfl rfl hl.1 rfl (Nat.le_of_ble_eq_true rfl) dL_law_812 ⟨by simp only [rm_L_addLock, rm_X7_addLock, room_1]; omega, by simp only [rm_L_addLock, rm_X7_addLock, room_1]; omega⟩ (fun z t H locs hq hH => ?_)
  obtain ⟨hT, hkr, h96⟩ := hfin z t hq
  refine lv_istore (lv' := [(7, .int (iZ z)), (6, .int (iZ k)), (5, .int (iZ (4 * (n : Int)))), (0, .ref b), (1, .ref (xad E 0)), (2, .ref (xad E 85)), (3, .ref (xad E 96)), (4, .ref (xad E 97))]) hx hb dL_law_815 hl (by decide) rfl (fun ls hl => ?_)
  obtain ⟨sv, re, ea, fa, ty, li, sz, sp, wr, to, hmo⟩ := hT.mo
  have h85t : t 85 = oB 5 _ := hmo
  refine lv_aload_n hx hb dL_law_817 rfl (lv_at hl 5 rfl) ?_
  refine x_cVID (z0 := k) (As := []) (rest := []) hx hb hml hts hown hK hST hOK hH 85 (c_X7_thrown l E ST hSF t sv re ea fa ty li k sz sp wr to hmo) (cwV 0 hts gL_law_X7_thrown rfl rfl rfl (by decide +kernel) ⟨Nat.le_of_ble_eq_true rfl, Nat.le_of_ble_eq_true rfl⟩) (by decide) h85t rfl rfl hl.1 rfl (Nat.le_of_ble_eq_true rfl) dL_law_818 ⟨by simp only [rm_L_addLock, rm_X7_addLock, rm_X7_thrown, room_1]; omega, by simp only [rm_L_addLock, rm_X7_addLock, rm_X7_thrown, room_1]; omega⟩ (fun z u h => h) (fun H locs hH => ?_)
  refine lv_iload hx hb dL_law_821 (lv_at hl 1 rfl) ?_
  refine lv_icmp_eq (tgt := 828) hx hb dL_law_823 (by decide) (fun _ => ?_) (fun c9 => absurd rfl c9)
  refine lv_iload hx hb dL_law_828 (lv_at hl 1 rfl) ?_
  refine x_if_ne (tgt := 845) hx hb dL_law_830 (by decide) hkr (fun c0 => ?_) (fun c0 => ?_)
  · refine lv_goto (tgt := 2984) hx hb dL_law_845 (by decide) ?_
    exact W.widen (by simp only [rm_L_addLock, rm_X7_addLock, rm_X7_thrown]; omega) (by simp only [rm_L_addLock, rm_X7_addLock, rm_X7_thrown]; omega) (kk t H locs ls ⟨k, hkr, hT⟩ hH (lv_sub hl [2, 3, 4, 5, 6, 7] rfl))
  · refine lv_aload_n hx hb dL_law_833 rfl (lv_at hl 6 rfl) ?_
    refine x_iconst (n := 0) hx hb dL_law_834 ?_
    refine x_lald hx hb hK hH (h96 c0) dL_law_835 ?_
    refine lv_iload hx hb dL_law_836 (lv_at hl 0 rfl) ?_
    refine lv_i2l (v := (iZ z).toInt64) hx hb dL_law_838 rfl ?_
    refine W.lcmp hx hb dL_law_839 ?_
    refine lv_if_eq (tgt := 845) hx hb dL_law_840 (by decide) (fun _ => ?_) (fun c9 => absurd ((lg_cmp_eq _ _).mpr rfl) c9)
    refine lv_goto (tgt := 2984) hx hb dL_law_845 (by decide) ?_
    exact W.widen (by simp only [rm_L_addLock, rm_X7_addLock, rm_X7_thrown]; omega) (by simp only [rm_L_addLock, rm_X7_addLock, rm_X7_thrown]; omega) (kk t H locs ls ⟨k, hkr, hT⟩ hH (lv_sub hl [2, 3, 4, 5, 6, 7] rfl))
set_option maxRecDepth 100000 in
set_option maxHeartbeats 4000000 in
theorem lc_8 {p : Program} {l : Launch} {e : Env} {s : State} {m : MethodId} {below : List Frame} {meth : Method} {c : Code} {Q : State → Prop} {E : xE} {ST : xST} {Z : zE} {b L : Nat} {xs : Nat → Int32} (G : LX l E ST Z p s m meth c b L xs) {n : Nat} (hn : 4 * n + 4 ≤ L) {σ : xW} {H : Heap} {locs : List Loc} {ls : Array Slot} (hI : INV (n : Int) E σ) (hH : Hx E (fun q => s.heap.size ≤ q) s.heap σ H locs) (hl : lv_has ls 10 [(5, .int (iZ (4 * (n : Int)))), (0, .ref b), (1, .ref (xad E 0)), (2, .ref (xad E 85)), (3, .ref (xad E 96)), (4, .ref (xad E 97))])
    (kk : ∀ (σ1 : xW) (H1 : Heap) (locs1 : List Loc) (ls1 : Array Slot), INV ((n : Int) + 1) E σ1 → Hx E (fun q => s.heap.size ≤ q) s.heap σ1 H1 locs1 → lv_has ls1 10 [(5, .int (iZ (4 * (n : Int)))), (0, .ref b), (1, .ref (xad E 0)), (2, .ref (xad E 85)), (3, .ref (xad E 96)), (4, .ref (xad E 97))] → W p l e room_1 s m #[Value.ref b] below meth c H1 locs1 (100 + 10 * (n + 1)) (3000 + 100 * (n + 1)) Q (F0 m 2984 ls1 [])) : W p l e room_1 s m #[Value.ref b] below meth c H locs (100 + 10 * n) (3000 + 100 * n) Q (F0 m 848 ls []) := by
  obtain ⟨hx, hb, hml, hown, hts, hK, hST, hSF, hSX, hSQ, htr, hX, hbl, hlocks, hr, hL⟩ := G
  have hOK := hSF.1
  have hn6 : (0 : Int) ≤ (n : Int) ∧ (n : Int) ≤ 600 := by omega
  obtain ⟨p0, e0⟩ : ∃ y : Int, y = (xs (4 * (n : Int) + 1).toNat).toInt := ⟨_, rfl⟩
  have r0 : rg p0 := by rw [e0]; exact iZ_rg _
  obtain ⟨p1, e1⟩ : ∃ y : Int, y = (xs (4 * (n : Int) + 2).toNat).toInt := ⟨_, rfl⟩
  have r1 : rg p1 := by rw [e1]; exact iZ_rg _
  obtain ⟨P, hP, hPQ⟩ := s_removeLock l E ST hSF hSX htr hn6 hI p0 p1 r0 r1
  refine lv_aload_n hx hb dL_law_848 rfl (lv_at hl 2 rfl) ?_
  refine lv_aload_n hx hb dL_law_849 rfl (lv_at hl 1 rfl) ?_
  refine lv_iload hx hb dL_law_850 (lv_at hl 0 rfl) ?_
  refine x_iconst (n := 1) hx hb dL_law_852 ?_
  refine x_iadd hx hb dL_law_853 ?_
  refine x_scr hx hb hX hbl hH (by omega) (by omega) hL e0 dL_law_854 ?_
  refine lv_aload_n hx hb dL_law_855 rfl (lv_at hl 1 rfl) ?_
  refine lv_iload hx hb dL_law_856 (lv_at hl 0 rfl) ?_
  refine x_iconst (n := 2) hx hb dL_law_858 ?_
  refine x_iadd hx hb dL_law_859 ?_
  refine x_scr hx hb hX hbl hH (by omega) (by omega) hL e1 dL_law_860 ?_
  refine lv_aload_n hx hb dL_law_861 rfl (lv_at hl 4 rfl) ?_
  refine x_cSW (As := [.ref (xad E 0), .int (iZ p0), .int (iZ p1), .ref (xad E 96)]) (rest := []) hx hb hml hts hown hK hST hOK hH hP (vx_cwSW 4 hts gL_law_L_removeLock rfl rfl rfl (by decide +kernel) ⟨Nat.le_of_ble_eq_true rfl, Nat.le_of_ble_eq_true rfl⟩) rfl hl.1 rfl (Nat.le_of_ble_eq_true rfl) dL_law_862 ⟨by simp only [rm_L_removeLock, room_1]; omega, by simp only [rm_L_removeLock, room_1]; omega⟩ (fun k u H locs hp hH => ?_)
  obtain ⟨⟨fs, h85⟩, Q2, hQ2, hfin⟩ := hPQ k u hp
  refine lv_istore (lv' := [(6, .int (iZ k)), (5, .int (iZ (4 * (n : Int)))), (0, .ref b), (1, .ref (xad E 0)), (2, .ref (xad E 85)), (3, .ref (xad E 96)), (4, .ref (xad E 97))]) hx hb dL_law_865 hl (by decide) rfl (fun ls hl => ?_)
  refine lv_aload_n hx hb dL_law_867 rfl (lv_at hl 4 rfl) ?_
  refine lv_aload_n hx hb dL_law_868 rfl (lv_at hl 2 rfl) ?_
  refine lv_iload hx hb dL_law_869 (lv_at hl 1 rfl) ?_
  refine x_iconst (n := 1) hx hb dL_law_871 ?_
  refine x_iadd hx hb dL_law_872 ?_
  refine x_scr hx hb hX hbl hH (by omega) (by omega) hL e0 dL_law_873 ?_
  refine lv_aload_n hx hb dL_law_874 rfl (lv_at hl 2 rfl) ?_
  refine lv_iload hx hb dL_law_875 (lv_at hl 1 rfl) ?_
  refine x_iconst (n := 2) hx hb dL_law_877 ?_
  refine x_iadd hx hb dL_law_878 ?_
  refine x_scr hx hb hX hbl hH (by omega) (by omega) hL e1 dL_law_879 ?_
  refine x_cVI (As := [.int (iZ p0), .int (iZ p1)]) (rest := []) hx hb hml hts hown hK hST hOK hH 85 hQ2 (cwV 2 hts gL_law_X7_removeLock rfl rfl rfl (by decide +kernel) ⟨Nat.le_of_ble_eq_true rfl, Nat.le_of_ble_eq_true rfl⟩) (by decide) h85 rfl rfl hl.1 rfl (Nat.le_of_ble_eq_true rfl) dL_law_880 ⟨by simp only [rm_L_removeLock, rm_X7_removeLock, room_1]; omega, by simp only [rm_L_removeLock, rm_X7_removeLock, room_1]; omega⟩ (fun z t H locs hq hH => ?_)
  obtain ⟨hT, hkr, h96⟩ := hfin z t hq
  refine lv_istore (lv' := [(7, .int (iZ z)), (6, .int (iZ k)), (5, .int (iZ (4 * (n : Int)))), (0, .ref b), (1, .ref (xad E 0)), (2, .ref (xad E 85)), (3, .ref (xad E 96)), (4, .ref (xad E 97))]) hx hb dL_law_883 hl (by decide) rfl (fun ls hl => ?_)
  obtain ⟨sv, re, ea, fa, ty, li, sz, sp, wr, to, hmo⟩ := hT.mo
  have h85t : t 85 = oB 5 _ := hmo
  refine lv_aload_n hx hb dL_law_885 rfl (lv_at hl 5 rfl) ?_
  refine x_cVID (z0 := k) (As := []) (rest := []) hx hb hml hts hown hK hST hOK hH 85 (c_X7_thrown l E ST hSF t sv re ea fa ty li k sz sp wr to hmo) (cwV 0 hts gL_law_X7_thrown rfl rfl rfl (by decide +kernel) ⟨Nat.le_of_ble_eq_true rfl, Nat.le_of_ble_eq_true rfl⟩) (by decide) h85t rfl rfl hl.1 rfl (Nat.le_of_ble_eq_true rfl) dL_law_886 ⟨by simp only [rm_L_removeLock, rm_X7_removeLock, rm_X7_thrown, room_1]; omega, by simp only [rm_L_removeLock, rm_X7_removeLock, rm_X7_thrown, room_1]; omega⟩ (fun z u h => h) (fun H locs hH => ?_)
  refine lv_iload hx hb dL_law_889 (lv_at hl 1 rfl) ?_
  refine lv_icmp_eq (tgt := 896) hx hb dL_law_891 (by decide) (fun _ => ?_) (fun c9 => absurd rfl c9)
  refine lv_iload hx hb dL_law_896 (lv_at hl 1 rfl) ?_
  refine x_if_ne (tgt := 913) hx hb dL_law_898 (by decide) hkr (fun c0 => ?_) (fun c0 => ?_)
  · refine lv_goto (tgt := 2984) hx hb dL_law_913 (by decide) ?_
    exact W.widen (by simp only [rm_L_removeLock, rm_X7_removeLock, rm_X7_thrown]; omega) (by simp only [rm_L_removeLock, rm_X7_removeLock, rm_X7_thrown]; omega) (kk t H locs ls ⟨k, hkr, hT⟩ hH (lv_sub hl [2, 3, 4, 5, 6, 7] rfl))
  · refine lv_aload_n hx hb dL_law_901 rfl (lv_at hl 6 rfl) ?_
    refine x_iconst (n := 0) hx hb dL_law_902 ?_
    refine x_lald hx hb hK hH (h96 c0) dL_law_903 ?_
    refine lv_iload hx hb dL_law_904 (lv_at hl 0 rfl) ?_
    refine lv_i2l (v := (iZ z).toInt64) hx hb dL_law_906 rfl ?_
    refine W.lcmp hx hb dL_law_907 ?_
    refine lv_if_eq (tgt := 913) hx hb dL_law_908 (by decide) (fun _ => ?_) (fun c9 => absurd ((lg_cmp_eq _ _).mpr rfl) c9)
    refine lv_goto (tgt := 2984) hx hb dL_law_913 (by decide) ?_
    exact W.widen (by simp only [rm_L_removeLock, rm_X7_removeLock, rm_X7_thrown]; omega) (by simp only [rm_L_removeLock, rm_X7_removeLock, rm_X7_thrown]; omega) (kk t H locs ls ⟨k, hkr, hT⟩ hH (lv_sub hl [2, 3, 4, 5, 6, 7] rfl))
set_option maxRecDepth 100000 in
set_option maxHeartbeats 4000000 in
theorem lc_9 {p : Program} {l : Launch} {e : Env} {s : State} {m : MethodId} {below : List Frame} {meth : Method} {c : Code} {Q : State → Prop} {E : xE} {ST : xST} {Z : zE} {b L : Nat} {xs : Nat → Int32} (G : LX l E ST Z p s m meth c b L xs) {n : Nat} (hn : 4 * n + 4 ≤ L) {σ : xW} {H : Heap} {locs : List Loc} {ls : Array Slot} (hI : INV (n : Int) E σ) (hH : Hx E (fun q => s.heap.size ≤ q) s.heap σ H locs) (hl : lv_has ls 10 [(5, .int (iZ (4 * (n : Int)))), (0, .ref b), (1, .ref (xad E 0)), (2, .ref (xad E 85)), (3, .ref (xad E 96)), (4, .ref (xad E 97))])
    (kk : ∀ (σ1 : xW) (H1 : Heap) (locs1 : List Loc) (ls1 : Array Slot), INV ((n : Int) + 1) E σ1 → Hx E (fun q => s.heap.size ≤ q) s.heap σ1 H1 locs1 → lv_has ls1 10 [(5, .int (iZ (4 * (n : Int)))), (0, .ref b), (1, .ref (xad E 0)), (2, .ref (xad E 85)), (3, .ref (xad E 96)), (4, .ref (xad E 97))] → W p l e room_1 s m #[Value.ref b] below meth c H1 locs1 (100 + 10 * (n + 1)) (3000 + 100 * (n + 1)) Q (F0 m 2984 ls1 [])) : W p l e room_1 s m #[Value.ref b] below meth c H locs (100 + 10 * n) (3000 + 100 * n) Q (F0 m 916 ls []) := by
  obtain ⟨hx, hb, hml, hown, hts, hK, hST, hSF, hSX, hSQ, htr, hX, hbl, hlocks, hr, hL⟩ := G
  have hOK := hSF.1
  have hn6 : (0 : Int) ≤ (n : Int) ∧ (n : Int) ≤ 600 := by omega
  obtain ⟨p0, e0⟩ : ∃ y : Int, y = (xs (4 * (n : Int) + 1).toNat).toInt := ⟨_, rfl⟩
  have r0 : rg p0 := by rw [e0]; exact iZ_rg _
  obtain ⟨p1, e1⟩ : ∃ y : Int, y = (xs (4 * (n : Int) + 2).toNat).toInt := ⟨_, rfl⟩
  have r1 : rg p1 := by rw [e1]; exact iZ_rg _
  obtain ⟨P, hP, hPQ⟩ := s_addWalker l E ST hSF hSX htr hn6 hI p0 p1 r0 r1
  refine lv_aload_n hx hb dL_law_916 rfl (lv_at hl 2 rfl) ?_
  refine lv_aload_n hx hb dL_law_917 rfl (lv_at hl 1 rfl) ?_
  refine lv_iload hx hb dL_law_918 (lv_at hl 0 rfl) ?_
  refine x_iconst (n := 1) hx hb dL_law_920 ?_
  refine x_iadd hx hb dL_law_921 ?_
  refine x_scr hx hb hX hbl hH (by omega) (by omega) hL e0 dL_law_922 ?_
  refine lv_aload_n hx hb dL_law_923 rfl (lv_at hl 1 rfl) ?_
  refine lv_iload hx hb dL_law_924 (lv_at hl 0 rfl) ?_
  refine x_iconst (n := 2) hx hb dL_law_926 ?_
  refine x_iadd hx hb dL_law_927 ?_
  refine x_scr hx hb hX hbl hH (by omega) (by omega) hL e1 dL_law_928 ?_
  refine lv_aload_n hx hb dL_law_929 rfl (lv_at hl 4 rfl) ?_
  refine x_cSW (As := [.ref (xad E 0), .int (iZ p0), .int (iZ p1), .ref (xad E 96)]) (rest := []) hx hb hml hts hown hK hST hOK hH hP (vx_cwSW 4 hts gL_law_L_addWalker rfl rfl rfl (by decide +kernel) ⟨Nat.le_of_ble_eq_true rfl, Nat.le_of_ble_eq_true rfl⟩) rfl hl.1 rfl (Nat.le_of_ble_eq_true rfl) dL_law_930 ⟨by simp only [rm_L_addWalker, room_1]; omega, by simp only [rm_L_addWalker, room_1]; omega⟩ (fun k u H locs hp hH => ?_)
  obtain ⟨⟨fs, h85⟩, Q2, hQ2, hfin⟩ := hPQ k u hp
  refine lv_istore (lv' := [(6, .int (iZ k)), (5, .int (iZ (4 * (n : Int)))), (0, .ref b), (1, .ref (xad E 0)), (2, .ref (xad E 85)), (3, .ref (xad E 96)), (4, .ref (xad E 97))]) hx hb dL_law_933 hl (by decide) rfl (fun ls hl => ?_)
  refine lv_aload_n hx hb dL_law_935 rfl (lv_at hl 4 rfl) ?_
  refine lv_aload_n hx hb dL_law_936 rfl (lv_at hl 2 rfl) ?_
  refine lv_iload hx hb dL_law_937 (lv_at hl 1 rfl) ?_
  refine x_iconst (n := 1) hx hb dL_law_939 ?_
  refine x_iadd hx hb dL_law_940 ?_
  refine x_scr hx hb hX hbl hH (by omega) (by omega) hL e0 dL_law_941 ?_
  refine lv_aload_n hx hb dL_law_942 rfl (lv_at hl 2 rfl) ?_
  refine lv_iload hx hb dL_law_943 (lv_at hl 1 rfl) ?_
  refine x_iconst (n := 2) hx hb dL_law_945 ?_
  refine x_iadd hx hb dL_law_946 ?_
  refine x_scr hx hb hX hbl hH (by omega) (by omega) hL e1 dL_law_947 ?_
  refine x_cVI (As := [.int (iZ p0), .int (iZ p1)]) (rest := []) hx hb hml hts hown hK hST hOK hH 85 hQ2 (cwV 2 hts gL_law_X7_addWalker rfl rfl rfl (by decide +kernel) ⟨Nat.le_of_ble_eq_true rfl, Nat.le_of_ble_eq_true rfl⟩) (by decide) h85 rfl rfl hl.1 rfl (Nat.le_of_ble_eq_true rfl) dL_law_948 ⟨by simp only [rm_L_addWalker, rm_X7_addWalker, room_1]; omega, by simp only [rm_L_addWalker, rm_X7_addWalker, room_1]; omega⟩ (fun z t H locs hq hH => ?_)
  obtain ⟨hT, hkr, h96⟩ := hfin z t hq
  refine lv_istore (lv' := [(7, .int (iZ z)), (6, .int (iZ k)), (5, .int (iZ (4 * (n : Int)))), (0, .ref b), (1, .ref (xad E 0)), (2, .ref (xad E 85)), (3, .ref (xad E 96)), (4, .ref (xad E 97))]) hx hb dL_law_951 hl (by decide) rfl (fun ls hl => ?_)
  obtain ⟨sv, re, ea, fa, ty, li, sz, sp, wr, to, hmo⟩ := hT.mo
  have h85t : t 85 = oB 5 _ := hmo
  refine lv_aload_n hx hb dL_law_953 rfl (lv_at hl 5 rfl) ?_
  refine x_cVID (z0 := k) (As := []) (rest := []) hx hb hml hts hown hK hST hOK hH 85 (c_X7_thrown l E ST hSF t sv re ea fa ty li k sz sp wr to hmo) (cwV 0 hts gL_law_X7_thrown rfl rfl rfl (by decide +kernel) ⟨Nat.le_of_ble_eq_true rfl, Nat.le_of_ble_eq_true rfl⟩) (by decide) h85t rfl rfl hl.1 rfl (Nat.le_of_ble_eq_true rfl) dL_law_954 ⟨by simp only [rm_L_addWalker, rm_X7_addWalker, rm_X7_thrown, room_1]; omega, by simp only [rm_L_addWalker, rm_X7_addWalker, rm_X7_thrown, room_1]; omega⟩ (fun z u h => h) (fun H locs hH => ?_)
  refine lv_iload hx hb dL_law_957 (lv_at hl 1 rfl) ?_
  refine lv_icmp_eq (tgt := 964) hx hb dL_law_959 (by decide) (fun _ => ?_) (fun c9 => absurd rfl c9)
  refine lv_iload hx hb dL_law_964 (lv_at hl 1 rfl) ?_
  refine x_if_ne (tgt := 981) hx hb dL_law_966 (by decide) hkr (fun c0 => ?_) (fun c0 => ?_)
  · refine lv_goto (tgt := 2984) hx hb dL_law_981 (by decide) ?_
    exact W.widen (by simp only [rm_L_addWalker, rm_X7_addWalker, rm_X7_thrown]; omega) (by simp only [rm_L_addWalker, rm_X7_addWalker, rm_X7_thrown]; omega) (kk t H locs ls ⟨k, hkr, hT⟩ hH (lv_sub hl [2, 3, 4, 5, 6, 7] rfl))
  · refine lv_aload_n hx hb dL_law_969 rfl (lv_at hl 6 rfl) ?_
    refine x_iconst (n := 0) hx hb dL_law_970 ?_
    refine x_lald hx hb hK hH (h96 c0) dL_law_971 ?_
    refine lv_iload hx hb dL_law_972 (lv_at hl 0 rfl) ?_
    refine lv_i2l (v := (iZ z).toInt64) hx hb dL_law_974 rfl ?_
    refine W.lcmp hx hb dL_law_975 ?_
    refine lv_if_eq (tgt := 981) hx hb dL_law_976 (by decide) (fun _ => ?_) (fun c9 => absurd ((lg_cmp_eq _ _).mpr rfl) c9)
    refine lv_goto (tgt := 2984) hx hb dL_law_981 (by decide) ?_
    exact W.widen (by simp only [rm_L_addWalker, rm_X7_addWalker, rm_X7_thrown]; omega) (by simp only [rm_L_addWalker, rm_X7_addWalker, rm_X7_thrown]; omega) (kk t H locs ls ⟨k, hkr, hT⟩ hH (lv_sub hl [2, 3, 4, 5, 6, 7] rfl))
set_option maxRecDepth 100000 in
set_option maxHeartbeats 4000000 in
theorem lc_10 {p : Program} {l : Launch} {e : Env} {s : State} {m : MethodId} {below : List Frame} {meth : Method} {c : Code} {Q : State → Prop} {E : xE} {ST : xST} {Z : zE} {b L : Nat} {xs : Nat → Int32} (G : LX l E ST Z p s m meth c b L xs) {n : Nat} (hn : 4 * n + 4 ≤ L) {σ : xW} {H : Heap} {locs : List Loc} {ls : Array Slot} (hI : INV (n : Int) E σ) (hH : Hx E (fun q => s.heap.size ≤ q) s.heap σ H locs) (hl : lv_has ls 10 [(5, .int (iZ (4 * (n : Int)))), (0, .ref b), (1, .ref (xad E 0)), (2, .ref (xad E 85)), (3, .ref (xad E 96)), (4, .ref (xad E 97))])
    (kk : ∀ (σ1 : xW) (H1 : Heap) (locs1 : List Loc) (ls1 : Array Slot), INV ((n : Int) + 1) E σ1 → Hx E (fun q => s.heap.size ≤ q) s.heap σ1 H1 locs1 → lv_has ls1 10 [(5, .int (iZ (4 * (n : Int)))), (0, .ref b), (1, .ref (xad E 0)), (2, .ref (xad E 85)), (3, .ref (xad E 96)), (4, .ref (xad E 97))] → W p l e room_1 s m #[Value.ref b] below meth c H1 locs1 (100 + 10 * (n + 1)) (3000 + 100 * (n + 1)) Q (F0 m 2984 ls1 [])) : W p l e room_1 s m #[Value.ref b] below meth c H locs (100 + 10 * n) (3000 + 100 * n) Q (F0 m 984 ls []) := by
  obtain ⟨hx, hb, hml, hown, hts, hK, hST, hSF, hSX, hSQ, htr, hX, hbl, hlocks, hr, hL⟩ := G
  have hOK := hSF.1
  have hn6 : (0 : Int) ≤ (n : Int) ∧ (n : Int) ≤ 600 := by omega
  obtain ⟨p0, e0⟩ : ∃ y : Int, y = (xs (4 * (n : Int) + 1).toNat).toInt := ⟨_, rfl⟩
  have r0 : rg p0 := by rw [e0]; exact iZ_rg _
  obtain ⟨p1, e1⟩ : ∃ y : Int, y = (xs (4 * (n : Int) + 2).toNat).toInt := ⟨_, rfl⟩
  have r1 : rg p1 := by rw [e1]; exact iZ_rg _
  obtain ⟨p2, e2⟩ : ∃ y : Int, y = (xs (4 * (n : Int) + 3).toNat).toInt := ⟨_, rfl⟩
  have r2 : rg p2 := by rw [e2]; exact iZ_rg _
  obtain ⟨P, hP, hPQ⟩ := s_walk l E ST hSF hSX htr hn6 hI p0 p1 p2 r0 r1 r2
  refine lv_aload_n hx hb dL_law_984 rfl (lv_at hl 2 rfl) ?_
  refine lv_aload_n hx hb dL_law_985 rfl (lv_at hl 1 rfl) ?_
  refine lv_iload hx hb dL_law_986 (lv_at hl 0 rfl) ?_
  refine x_iconst (n := 1) hx hb dL_law_988 ?_
  refine x_iadd hx hb dL_law_989 ?_
  refine x_scr hx hb hX hbl hH (by omega) (by omega) hL e0 dL_law_990 ?_
  refine lv_aload_n hx hb dL_law_991 rfl (lv_at hl 1 rfl) ?_
  refine lv_iload hx hb dL_law_992 (lv_at hl 0 rfl) ?_
  refine x_iconst (n := 2) hx hb dL_law_994 ?_
  refine x_iadd hx hb dL_law_995 ?_
  refine x_scr hx hb hX hbl hH (by omega) (by omega) hL e1 dL_law_996 ?_
  refine lv_aload_n hx hb dL_law_997 rfl (lv_at hl 1 rfl) ?_
  refine lv_iload hx hb dL_law_998 (lv_at hl 0 rfl) ?_
  refine x_iconst (n := 3) hx hb dL_law_1000 ?_
  refine x_iadd hx hb dL_law_1001 ?_
  refine x_scr hx hb hX hbl hH (by omega) (by omega) hL e2 dL_law_1002 ?_
  refine lv_aload_n hx hb dL_law_1003 rfl (lv_at hl 4 rfl) ?_
  refine x_cSW (As := [.ref (xad E 0), .int (iZ p0), .int (iZ p1), .int (iZ p2), .ref (xad E 96)]) (rest := []) hx hb hml hts hown hK hST hOK hH hP (vx_cwSW 5 hts gL_law_L_walk rfl rfl rfl (by decide +kernel) ⟨Nat.le_of_ble_eq_true rfl, Nat.le_of_ble_eq_true rfl⟩) rfl hl.1 rfl (Nat.le_of_ble_eq_true rfl) dL_law_1004 ⟨by simp only [rm_L_walk, room_1]; omega, by simp only [rm_L_walk, room_1]; omega⟩ (fun k u H locs hp hH => ?_)
  obtain ⟨⟨fs, h85⟩, Q2, hQ2, hfin⟩ := hPQ k u hp
  refine lv_istore (lv' := [(6, .int (iZ k)), (5, .int (iZ (4 * (n : Int)))), (0, .ref b), (1, .ref (xad E 0)), (2, .ref (xad E 85)), (3, .ref (xad E 96)), (4, .ref (xad E 97))]) hx hb dL_law_1007 hl (by decide) rfl (fun ls hl => ?_)
  refine lv_aload_n hx hb dL_law_1009 rfl (lv_at hl 4 rfl) ?_
  refine lv_aload_n hx hb dL_law_1010 rfl (lv_at hl 2 rfl) ?_
  refine lv_iload hx hb dL_law_1011 (lv_at hl 1 rfl) ?_
  refine x_iconst (n := 1) hx hb dL_law_1013 ?_
  refine x_iadd hx hb dL_law_1014 ?_
  refine x_scr hx hb hX hbl hH (by omega) (by omega) hL e0 dL_law_1015 ?_
  refine lv_aload_n hx hb dL_law_1016 rfl (lv_at hl 2 rfl) ?_
  refine lv_iload hx hb dL_law_1017 (lv_at hl 1 rfl) ?_
  refine x_iconst (n := 2) hx hb dL_law_1019 ?_
  refine x_iadd hx hb dL_law_1020 ?_
  refine x_scr hx hb hX hbl hH (by omega) (by omega) hL e1 dL_law_1021 ?_
  refine lv_aload_n hx hb dL_law_1022 rfl (lv_at hl 2 rfl) ?_
  refine lv_iload hx hb dL_law_1023 (lv_at hl 1 rfl) ?_
  refine x_iconst (n := 3) hx hb dL_law_1025 ?_
  refine x_iadd hx hb dL_law_1026 ?_
  refine x_scr hx hb hX hbl hH (by omega) (by omega) hL e2 dL_law_1027 ?_
  refine x_cVI (As := [.int (iZ p0), .int (iZ p1), .int (iZ p2)]) (rest := []) hx hb hml hts hown hK hST hOK hH 85 hQ2 (cwV 3 hts gL_law_X7_walk rfl rfl rfl (by decide +kernel) ⟨Nat.le_of_ble_eq_true rfl, Nat.le_of_ble_eq_true rfl⟩) (by decide) h85 rfl rfl hl.1 rfl (Nat.le_of_ble_eq_true rfl) dL_law_1028 ⟨by simp only [rm_L_walk, rm_X7_walk, room_1]; omega, by simp only [rm_L_walk, rm_X7_walk, room_1]; omega⟩ (fun z t H locs hq hH => ?_)
  obtain ⟨hT, hkr, h96⟩ := hfin z t hq
  refine lv_istore (lv' := [(7, .int (iZ z)), (6, .int (iZ k)), (5, .int (iZ (4 * (n : Int)))), (0, .ref b), (1, .ref (xad E 0)), (2, .ref (xad E 85)), (3, .ref (xad E 96)), (4, .ref (xad E 97))]) hx hb dL_law_1031 hl (by decide) rfl (fun ls hl => ?_)
  obtain ⟨sv, re, ea, fa, ty, li, sz, sp, wr, to, hmo⟩ := hT.mo
  have h85t : t 85 = oB 5 _ := hmo
  refine lv_aload_n hx hb dL_law_1033 rfl (lv_at hl 5 rfl) ?_
  refine x_cVID (z0 := k) (As := []) (rest := []) hx hb hml hts hown hK hST hOK hH 85 (c_X7_thrown l E ST hSF t sv re ea fa ty li k sz sp wr to hmo) (cwV 0 hts gL_law_X7_thrown rfl rfl rfl (by decide +kernel) ⟨Nat.le_of_ble_eq_true rfl, Nat.le_of_ble_eq_true rfl⟩) (by decide) h85t rfl rfl hl.1 rfl (Nat.le_of_ble_eq_true rfl) dL_law_1034 ⟨by simp only [rm_L_walk, rm_X7_walk, rm_X7_thrown, room_1]; omega, by simp only [rm_L_walk, rm_X7_walk, rm_X7_thrown, room_1]; omega⟩ (fun z u h => h) (fun H locs hH => ?_)
  refine lv_iload hx hb dL_law_1037 (lv_at hl 1 rfl) ?_
  refine lv_icmp_eq (tgt := 1044) hx hb dL_law_1039 (by decide) (fun _ => ?_) (fun c9 => absurd rfl c9)
  refine lv_iload hx hb dL_law_1044 (lv_at hl 1 rfl) ?_
  refine x_if_ne (tgt := 1061) hx hb dL_law_1046 (by decide) hkr (fun c0 => ?_) (fun c0 => ?_)
  · refine lv_goto (tgt := 2984) hx hb dL_law_1061 (by decide) ?_
    exact W.widen (by simp only [rm_L_walk, rm_X7_walk, rm_X7_thrown]; omega) (by simp only [rm_L_walk, rm_X7_walk, rm_X7_thrown]; omega) (kk t H locs ls ⟨k, hkr, hT⟩ hH (lv_sub hl [2, 3, 4, 5, 6, 7] rfl))
  · refine lv_aload_n hx hb dL_law_1049 rfl (lv_at hl 6 rfl) ?_
    refine x_iconst (n := 0) hx hb dL_law_1050 ?_
    refine x_lald hx hb hK hH (h96 c0) dL_law_1051 ?_
    refine lv_iload hx hb dL_law_1052 (lv_at hl 0 rfl) ?_
    refine lv_i2l (v := (iZ z).toInt64) hx hb dL_law_1054 rfl ?_
    refine W.lcmp hx hb dL_law_1055 ?_
    refine lv_if_eq (tgt := 1061) hx hb dL_law_1056 (by decide) (fun _ => ?_) (fun c9 => absurd ((lg_cmp_eq _ _).mpr rfl) c9)
    refine lv_goto (tgt := 2984) hx hb dL_law_1061 (by decide) ?_
    exact W.widen (by simp only [rm_L_walk, rm_X7_walk, rm_X7_thrown]; omega) (by simp only [rm_L_walk, rm_X7_walk, rm_X7_thrown]; omega) (kk t H locs ls ⟨k, hkr, hT⟩ hH (lv_sub hl [2, 3, 4, 5, 6, 7] rfl))
set_option maxRecDepth 100000 in
set_option maxHeartbeats 4000000 in
theorem lc_11 {p : Program} {l : Launch} {e : Env} {s : State} {m : MethodId} {below : List Frame} {meth : Method} {c : Code} {Q : State → Prop} {E : xE} {ST : xST} {Z : zE} {b L : Nat} {xs : Nat → Int32} (G : LX l E ST Z p s m meth c b L xs) {n : Nat} (hn : 4 * n + 4 ≤ L) {σ : xW} {H : Heap} {locs : List Loc} {ls : Array Slot} (hI : INV (n : Int) E σ) (hH : Hx E (fun q => s.heap.size ≤ q) s.heap σ H locs) (hl : lv_has ls 10 [(5, .int (iZ (4 * (n : Int)))), (0, .ref b), (1, .ref (xad E 0)), (2, .ref (xad E 85)), (3, .ref (xad E 96)), (4, .ref (xad E 97))])
    (kk : ∀ (σ1 : xW) (H1 : Heap) (locs1 : List Loc) (ls1 : Array Slot), INV ((n : Int) + 1) E σ1 → Hx E (fun q => s.heap.size ≤ q) s.heap σ1 H1 locs1 → lv_has ls1 10 [(5, .int (iZ (4 * (n : Int)))), (0, .ref b), (1, .ref (xad E 0)), (2, .ref (xad E 85)), (3, .ref (xad E 96)), (4, .ref (xad E 97))] → W p l e room_1 s m #[Value.ref b] below meth c H1 locs1 (100 + 10 * (n + 1)) (3000 + 100 * (n + 1)) Q (F0 m 2984 ls1 [])) : W p l e room_1 s m #[Value.ref b] below meth c H locs (100 + 10 * n) (3000 + 100 * n) Q (F0 m 1064 ls []) := by
  obtain ⟨hx, hb, hml, hown, hts, hK, hST, hSF, hSX, hSQ, htr, hX, hbl, hlocks, hr, hL⟩ := G
  have hOK := hSF.1
  have hn6 : (0 : Int) ≤ (n : Int) ∧ (n : Int) ≤ 600 := by omega
  obtain ⟨p0, e0⟩ : ∃ y : Int, y = (xs (4 * (n : Int) + 1).toNat).toInt := ⟨_, rfl⟩
  have r0 : rg p0 := by rw [e0]; exact iZ_rg _
  obtain ⟨p1, e1⟩ : ∃ y : Int, y = (xs (4 * (n : Int) + 2).toNat).toInt := ⟨_, rfl⟩
  have r1 : rg p1 := by rw [e1]; exact iZ_rg _
  obtain ⟨P, hP, hPQ⟩ := s_openings l E ST hSF hSX htr hn6 hI p0 p1 r0 r1
  refine lv_aload_n hx hb dL_law_1064 rfl (lv_at hl 2 rfl) ?_
  refine lv_aload_n hx hb dL_law_1065 rfl (lv_at hl 1 rfl) ?_
  refine lv_iload hx hb dL_law_1066 (lv_at hl 0 rfl) ?_
  refine x_iconst (n := 1) hx hb dL_law_1068 ?_
  refine x_iadd hx hb dL_law_1069 ?_
  refine x_scr hx hb hX hbl hH (by omega) (by omega) hL e0 dL_law_1070 ?_
  refine lv_aload_n hx hb dL_law_1071 rfl (lv_at hl 1 rfl) ?_
  refine lv_iload hx hb dL_law_1072 (lv_at hl 0 rfl) ?_
  refine x_iconst (n := 2) hx hb dL_law_1074 ?_
  refine x_iadd hx hb dL_law_1075 ?_
  refine x_scr hx hb hX hbl hH (by omega) (by omega) hL e1 dL_law_1076 ?_
  refine lv_aload_n hx hb dL_law_1077 rfl (lv_at hl 4 rfl) ?_
  refine x_cSW (As := [.ref (xad E 0), .int (iZ p0), .int (iZ p1), .ref (xad E 96)]) (rest := []) hx hb hml hts hown hK hST hOK hH hP (vx_cwSW 4 hts gL_law_L_openings rfl rfl rfl (by decide +kernel) ⟨Nat.le_of_ble_eq_true rfl, Nat.le_of_ble_eq_true rfl⟩) rfl hl.1 rfl (Nat.le_of_ble_eq_true rfl) dL_law_1078 ⟨by simp only [rm_L_openings, room_1]; omega, by simp only [rm_L_openings, room_1]; omega⟩ (fun k u H locs hp hH => ?_)
  obtain ⟨⟨fs, h85⟩, Q2, hQ2, hfin⟩ := hPQ k u hp
  refine lv_istore (lv' := [(6, .int (iZ k)), (5, .int (iZ (4 * (n : Int)))), (0, .ref b), (1, .ref (xad E 0)), (2, .ref (xad E 85)), (3, .ref (xad E 96)), (4, .ref (xad E 97))]) hx hb dL_law_1081 hl (by decide) rfl (fun ls hl => ?_)
  refine lv_aload_n hx hb dL_law_1083 rfl (lv_at hl 4 rfl) ?_
  refine lv_aload_n hx hb dL_law_1084 rfl (lv_at hl 2 rfl) ?_
  refine lv_iload hx hb dL_law_1085 (lv_at hl 1 rfl) ?_
  refine x_iconst (n := 1) hx hb dL_law_1087 ?_
  refine x_iadd hx hb dL_law_1088 ?_
  refine x_scr hx hb hX hbl hH (by omega) (by omega) hL e0 dL_law_1089 ?_
  refine lv_aload_n hx hb dL_law_1090 rfl (lv_at hl 2 rfl) ?_
  refine lv_iload hx hb dL_law_1091 (lv_at hl 1 rfl) ?_
  refine x_iconst (n := 2) hx hb dL_law_1093 ?_
  refine x_iadd hx hb dL_law_1094 ?_
  refine x_scr hx hb hX hbl hH (by omega) (by omega) hL e1 dL_law_1095 ?_
  refine x_cVI (As := [.int (iZ p0), .int (iZ p1)]) (rest := []) hx hb hml hts hown hK hST hOK hH 85 hQ2 (cwV 2 hts gL_law_X7_openings rfl rfl rfl (by decide +kernel) ⟨Nat.le_of_ble_eq_true rfl, Nat.le_of_ble_eq_true rfl⟩) (by decide) h85 rfl rfl hl.1 rfl (Nat.le_of_ble_eq_true rfl) dL_law_1096 ⟨by simp only [rm_L_openings, rm_X7_openings, room_1]; omega, by simp only [rm_L_openings, rm_X7_openings, room_1]; omega⟩ (fun z t H locs hq hH => ?_)
  obtain ⟨hT, hkr, h96⟩ := hfin z t hq
  refine lv_istore (lv' := [(7, .int (iZ z)), (6, .int (iZ k)), (5, .int (iZ (4 * (n : Int)))), (0, .ref b), (1, .ref (xad E 0)), (2, .ref (xad E 85)), (3, .ref (xad E 96)), (4, .ref (xad E 97))]) hx hb dL_law_1099 hl (by decide) rfl (fun ls hl => ?_)
  obtain ⟨sv, re, ea, fa, ty, li, sz, sp, wr, to, hmo⟩ := hT.mo
  have h85t : t 85 = oB 5 _ := hmo
  refine lv_aload_n hx hb dL_law_1101 rfl (lv_at hl 5 rfl) ?_
  refine x_cVID (z0 := k) (As := []) (rest := []) hx hb hml hts hown hK hST hOK hH 85 (c_X7_thrown l E ST hSF t sv re ea fa ty li k sz sp wr to hmo) (cwV 0 hts gL_law_X7_thrown rfl rfl rfl (by decide +kernel) ⟨Nat.le_of_ble_eq_true rfl, Nat.le_of_ble_eq_true rfl⟩) (by decide) h85t rfl rfl hl.1 rfl (Nat.le_of_ble_eq_true rfl) dL_law_1102 ⟨by simp only [rm_L_openings, rm_X7_openings, rm_X7_thrown, room_1]; omega, by simp only [rm_L_openings, rm_X7_openings, rm_X7_thrown, room_1]; omega⟩ (fun z u h => h) (fun H locs hH => ?_)
  refine lv_iload hx hb dL_law_1105 (lv_at hl 1 rfl) ?_
  refine lv_icmp_eq (tgt := 1112) hx hb dL_law_1107 (by decide) (fun _ => ?_) (fun c9 => absurd rfl c9)
  refine lv_iload hx hb dL_law_1112 (lv_at hl 1 rfl) ?_
  refine x_if_ne (tgt := 1129) hx hb dL_law_1114 (by decide) hkr (fun c0 => ?_) (fun c0 => ?_)
  · refine lv_goto (tgt := 2984) hx hb dL_law_1129 (by decide) ?_
    exact W.widen (by simp only [rm_L_openings, rm_X7_openings, rm_X7_thrown]; omega) (by simp only [rm_L_openings, rm_X7_openings, rm_X7_thrown]; omega) (kk t H locs ls ⟨k, hkr, hT⟩ hH (lv_sub hl [2, 3, 4, 5, 6, 7] rfl))
  · refine lv_aload_n hx hb dL_law_1117 rfl (lv_at hl 6 rfl) ?_
    refine x_iconst (n := 0) hx hb dL_law_1118 ?_
    refine x_lald hx hb hK hH (h96 c0) dL_law_1119 ?_
    refine lv_iload hx hb dL_law_1120 (lv_at hl 0 rfl) ?_
    refine lv_i2l (v := (iZ z).toInt64) hx hb dL_law_1122 rfl ?_
    refine W.lcmp hx hb dL_law_1123 ?_
    refine lv_if_eq (tgt := 1129) hx hb dL_law_1124 (by decide) (fun _ => ?_) (fun c9 => absurd ((lg_cmp_eq _ _).mpr rfl) c9)
    refine lv_goto (tgt := 2984) hx hb dL_law_1129 (by decide) ?_
    exact W.widen (by simp only [rm_L_openings, rm_X7_openings, rm_X7_thrown]; omega) (by simp only [rm_L_openings, rm_X7_openings, rm_X7_thrown]; omega) (kk t H locs ls ⟨k, hkr, hT⟩ hH (lv_sub hl [2, 3, 4, 5, 6, 7] rfl))
