/-! ===== areLinesRight ===== -/
set_option maxRecDepth 20000 in
theorem gI4 : GoodIn wsL_law wsJ4_init_da8c8 := (goodIn_c (goodIn_r _ [609] (by decide +kernel) (by decide +kernel)) (goodIn_app (goodIn_r _ [610, 611, 612, 613, 614, 7, 8, 615, 616, 617, 618, 619, 620, 352, 621, 622, 623, 624, 625] (by decide +kernel) (by decide +kernel)) (goodIn_sub (fun w h => (List.mem_append_left _ (List.mem_append_left _ (List.mem_append_left _ (List.mem_append_left _ (List.mem_append_left _ (List.mem_append_left _ (List.mem_append_right _ h)))))))) (by decide +kernel))))
theorem hinJ4L : ∀ w ∈ u_ws RJ4 TJ4 4, w ∈ wML_areLinesRight := fun w h => (goodIn_t (goodIn_x gCJ4_append_15ec4) w ((fun w h => (List.mem_cons_of_mem _ (List.mem_append_left _ (List.mem_append_right _ h)))) w h)).1
theorem TX9.eq {Z : zE} {E E1 : xE} {u : xW} {v : Value} {L M : List Int} (h : TX9 Z E E1 u v L) (e : L = M) : TX9 Z E E1 u v M := e ▸ h
theorem lkM {lk : Int → Int} {ce : Int} (h : ¬ lk ce = -1) : ([] ++ sL 4) ++ [97 + lk ce] = lkL lk ce := by
  unfold lkL
  rw [if_neg h]
  rfl
theorem lk0 {lk : Int → Int} {ce : Int} (h : lk ce = -1) : sL 0 = lkL lk ce := by
  unfold lkL
  rw [if_pos h]
  rfl
theorem kyM {kp : Int → Int} {ce n : Int} {X : List Int} (hn : 0 ≤ n) (h : kp n = ce) : (X ++ kyL kp ce n) ++ (([] ++ sL 0) ++ [97 + n]) = X ++ kyL kp ce (n + 1) := by
  rw [kyL_s hn, if_pos h, List.append_assoc]
  rfl
theorem ky0 {kp : Int → Int} {ce n : Int} {X : List Int} (hn : 0 ≤ n) (h : ¬ kp n = ce) : (X ++ kyL kp ce n) ++ sL 0 = X ++ kyL kp ce (n + 1) := by
  rw [kyL_s hn, if_neg h, List.append_assoc]
  rfl
theorem sl2_16 : slZ 2 = 16 := by decide
def rm_L_areLinesRight : Room := { frames := 10, cells := 3600, slots := 336000, locals := 182 }
section LNKEY
variable {p : Program} {l : Launch} {e : Env} {s : State} {m : MethodId} {args : Array Value} {below : List Frame} {meth : Method} {c : Code} {Q : State → Prop} {E : xE} {ST : xST} {Z : zE} {B : BT} {S : Option BT} {Y9 : lnQ} {σ1 : xW} {X9 : List Int} {r k n7 fv : Int} {CC CS : Nat}
set_option maxHeartbeats 2000000 in
theorem lnKeyD (hF0 : xCf p E ST (xA E s.heap.size) s m args c cL_areLinesRight 7 wML_areLinesRight RL) (hSF : SF ST) (hSQ : SQ Z ST) (hr : 0 ≤ r ∧ r ≤ 4) (hk : 0 ≤ k ∧ k ≤ 4) (hXl : X9.length ≤ 54) (hn7 : 0 ≤ n7 ∧ n7 ≤ 5) (hCC : CC + 9 ≤ 3600) (hCS : CS + 700 ≤ 336000) {E84 : xE} {tw : Nat} {σ89 : xW} {H : Heap} {locs : List Loc} {ls : Array Slot} (hq : kpT B n7 = r * 5 + k) (hB87 : BW E E84 σ89 (X9 ++ kyL (kpT B) (r * 5 + k) n7)) (fcw_0 : cw E84 σ89 B S Y9) (hfw : ∀ j : Nat, 85 ≤ j → j < 85 + xx E → σ89 j = σ1 j) (hH : Hx E84 (xA E s.heap.size) s.heap σ89 H locs) (hl : lv_has ls 7 [(6, .int (iZ n7)), (5, .int (iZ k)), (4, .ref tw), (3, .int (iZ fv)), (2, .int (iZ r)), (1, .int (iZ 1)), (0, .ref (xad E84 0))]) (J255 : ∀ (E91 : xE) (σ92 : xW) (H : Heap) (locs : List Loc), BW E E91 σ92 (X9 ++ kyL (kpT B) (r * 5 + k) (n7 + 1)) → cw E91 σ92 B S Y9 → (∀ j : Nat, 85 ≤ j → j < 85 + xx E → σ92 j = σ1 j) → Hx E91 (xA E s.heap.size) s.heap σ92 H locs → lv_has ls 7 [(6, .int (iZ n7)), (5, .int (iZ k)), (4, .ref tw), (3, .int (iZ fv)), (2, .int (iZ r)), (1, .int (iZ 1)), (0, .ref (xad E91 0))] → W p l e rm_L_areLinesRight s m args below meth c H locs (CC + 9) (CS + 700) Q (F0 m 255 ls [.ref (xad E91 (85 + xx E))])) : W p l e rm_L_areLinesRight s m args below meth c H locs CC CS Q (F0 m 223 ls [.ref (xad E84 (85 + xx E))]) := by
  obtain ⟨hx, hb, hml, hown, hts, hK0, hST, hOK⟩ := hF0
  have hF0 : xCf p E ST (xA E s.heap.size) s m args c cL_areLinesRight 7 wML_areLinesRight RL := ⟨hx, hb, hml, hown, hts, hK0, hST, hOK⟩
  have hF := hF0.mv hB87.1.1 hB87.1.2.1
  have hK := hF.2.2.2.2.2.1
  have hxxE84 := hB87.1.2.2.1
  have hkl := ky6 (kp := kpT B) (ce := (r * 5 + k)) hn7.1
  refine r_new (rest := [.ref (xad E84 (85 + xx E))]) hF hSF hSQ hl.1 fcw_0 hH hinJ4L (List.mem_cons_of_mem _ (List.mem_append_right _ mW_599)) (List.mem_cons_of_mem _ (List.mem_append_right _ mW_600)) (List.mem_cons_of_mem _ (List.mem_append_right _ mW_601)) (cwI 0 hts (goodIn_t (goodIn_x gI4)) rfl rfl rfl (hts _ (List.mem_cons_of_mem _ (List.mem_append_right _ mW_601))) (hts _ (List.mem_cons_of_mem _ (List.mem_append_right _ mW_607))) (hts _ (List.mem_cons_of_mem _ (List.mem_append_right _ mW_608))) rfl (by decide +kernel) ⟨Nat.le_of_ble_eq_true rfl, Nat.le_of_ble_eq_true rfl⟩) (Nat.le_of_ble_eq_true rfl) dL_areLinesRight_223 dL_areLinesRight_226 dL_areLinesRight_227 ⟨by first | (simp only [rm_J4_append_15ec4, rm_J4_init_da8c8, rm_L_areLinesRight]; omega) | omega, by first | (simp only [rm_J4_append_15ec4, rm_J4_init_da8c8, rm_L_areLinesRight]; omega) | omega⟩ (fun E102 σ103 H locs hB105 fcw_0 fr104 hH => ?_)
  replace hB87 := hB87.mv2 fr104
  replace hF := hF0.mv (hB87.1.tr hB105.1).1 (hB87.1.tr hB105.1).2.1
  replace hK := hF.2.2.2.2.2.1
  have hxxE102 := (hB87.1.tr hB105.1).2.2.1
  rw [show xad E84 0 = xad E102 0 from (hB87.1.2.2.2 0 (by omega)).trans ((hB87.1.tr hB105.1).2.2.2 0 (by omega)).symm] at hl
  replace hfw := fun (j : Nat) (j0 : 85 ≤ j) (j1 : j < 85 + xx E) => (fr104 j j0 (by omega)).trans (hfw j j0 j1)
  refine x_ldcS (q := zK Z 0) hx hb hown ((hSQ _ _ _ hST).2.2.2.1 0 _ rfl) dL_areLinesRight_230 ?_
  have hs1232 : (sL 0).length ≤ 1 := by decide
  refine r_apl (i := 0) (rest := [.ref (xad E84 (85 + xx E))]) hF hSF hSQ hl.1 (by omega) (by omega) hB105 fcw_0 hH (by first | (simp only [List.length_append, List.length_cons, List.length_nil]; omega) | omega) (cwV 1 hts (goodIn_t (goodIn_x gK_214)) rfl rfl rfl (by decide +kernel) ⟨Nat.le_of_ble_eq_true rfl, Nat.le_of_ble_eq_true rfl⟩) (Nat.le_of_ble_eq_true rfl) dL_areLinesRight_232 ⟨by first | (simp only [rm_J4_append_15ec4, rm_J4_init_da8c8, rm_L_areLinesRight]; omega) | omega, by first | (simp only [rm_J4_append_15ec4, rm_J4_init_da8c8, rm_L_areLinesRight]; omega) | omega⟩ (fun E106 σ107 H locs hB109 fcw_0 fr108 hH => ?_)
  replace hB87 := hB87.mv2 fr108
  replace hF := hF0.mv (hB87.1.tr hB109.1).1 (hB87.1.tr hB109.1).2.1
  replace hK := hF.2.2.2.2.2.1
  have hxxE106 := (hB87.1.tr hB109.1).2.2.1
  rw [show xad E102 0 = xad E106 0 from ((hB87.1.tr hB105.1).2.2.2 0 (by omega)).trans ((hB87.1.tr hB109.1).2.2.2 0 (by omega)).symm] at hl
  replace hfw := fun (j : Nat) (j0 : 85 ≤ j) (j1 : j < 85 + xx E) => (fr108 j j0 (by omega)).trans (hfw j j0 j1)
  refine x_bipush hx hb dL_areLinesRight_235 (by decide) ?_
  refine lv_iload hx hb dL_areLinesRight_237 (lv_at hl 0 rfl) ?_
  refine x_iadd hx hb dL_areLinesRight_239 ?_
  refine x_i2c hx hb dL_areLinesRight_240 ?_
  rw [i2cZ_in (by omega) (by omega)]
  refine r_apc (i := 97 + n7) (rest := [.ref (xad E84 (85 + xx E))]) hF hSF hSQ hl.1 (by omega) hB109 fcw_0 hH (by first | (simp only [List.length_append, List.length_cons, List.length_nil]; omega) | omega) (cwV 1 hts (goodIn_t (goodIn_x gK_227)) rfl rfl rfl (by decide +kernel) ⟨Nat.le_of_ble_eq_true rfl, Nat.le_of_ble_eq_true rfl⟩) (Nat.le_of_ble_eq_true rfl) dL_areLinesRight_241 ⟨by first | (simp only [rm_J4_append_15ec4, rm_J4_append_cf468, rm_J4_init_da8c8, rm_L_areLinesRight]; omega) | omega, by first | (simp only [rm_J4_append_15ec4, rm_J4_append_cf468, rm_J4_init_da8c8, rm_L_areLinesRight]; omega) | omega⟩ (fun E110 σ111 H locs hB113 fcw_0 fr112 hH => ?_)
  replace hB87 := hB87.mv2 fr112
  replace hF := hF0.mv (hB87.1.tr hB113.1).1 (hB87.1.tr hB113.1).2.1
  replace hK := hF.2.2.2.2.2.1
  have hxxE110 := (hB87.1.tr hB113.1).2.2.1
  rw [show xad E106 0 = xad E110 0 from ((hB87.1.tr hB109.1).2.2.2 0 (by omega)).trans ((hB87.1.tr hB113.1).2.2.2 0 (by omega)).symm] at hl
  replace hfw := fun (j : Nat) (j0 : 85 ≤ j) (j1 : j < 85 + xx E) => (fr112 j j0 (by omega)).trans (hfw j j0 j1)
  refine r_ts (rest := [.ref (xad E84 (85 + xx E))]) hF hSF hSQ hl.1 hB113 fcw_0 hH (cwV 0 hts (goodIn_t (goodIn_x gK_234)) rfl rfl rfl (by decide +kernel) ⟨Nat.le_of_ble_eq_true rfl, Nat.le_of_ble_eq_true rfl⟩) (Nat.le_of_ble_eq_true rfl) dL_areLinesRight_244 ⟨by first | (simp only [rm_J4_append_15ec4, rm_J4_append_cf468, rm_J4_init_da8c8, rm_J4_toString_0e30d, rm_L_areLinesRight]; omega) | omega, by first | (simp only [rm_J4_append_15ec4, rm_J4_append_cf468, rm_J4_init_da8c8, rm_J4_toString_0e30d, rm_L_areLinesRight]; omega) | omega⟩ (fun E114 σ115 H locs hT117 fcw_0 fr116 hH => ?_)
  replace hB87 := hB87.mv2 fr116
  replace hF := hF0.mv (hB87.1.tr hT117.1).1 (hB87.1.tr hT117.1).2.1
  replace hK := hF.2.2.2.2.2.1
  have hxxE114 := (hB87.1.tr hT117.1).2.2.1
  rw [show xad E110 0 = xad E114 0 from ((hB87.1.tr hB113.1).2.2.2 0 (by omega)).trans ((hB87.1.tr hT117.1).2.2.2 0 (by omega)).symm] at hl
  replace hfw := fun (j : Nat) (j0 : 85 ≤ j) (j1 : j < 85 + xx E) => (fr116 j j0 (by omega)).trans (hfw j j0 j1)
  refine lv_goto (tgt := 252) hx hb dL_areLinesRight_247 (by decide) ?_
  rw [show xad E84 (85 + xx E) = xad E114 (85 + xx E) from (hT117.1.2.2.2 _ (by omega)).symm]
  refine r_apd (rest := []) hF hSF hSQ hl.1 hB87 hT117 fcw_0 hH (by first | (simp only [List.length_append, List.length_cons, List.length_nil]; omega) | omega) (cwV 1 hts (goodIn_t (goodIn_x gK_214)) rfl rfl rfl (by decide +kernel) ⟨Nat.le_of_ble_eq_true rfl, Nat.le_of_ble_eq_true rfl⟩) (Nat.le_of_ble_eq_true rfl) dL_areLinesRight_252 ⟨by first | (simp only [rm_J4_append_15ec4, rm_J4_append_cf468, rm_J4_append_d, rm_J4_init_da8c8, rm_J4_toString_0e30d, rm_L_areLinesRight]; omega) | omega, by first | (simp only [rm_J4_append_15ec4, rm_J4_append_cf468, rm_J4_append_d, rm_J4_init_da8c8, rm_J4_toString_0e30d, rm_L_areLinesRight]; omega) | omega⟩ (fun E118 σ119 H locs hB121 fcw_0 fr120 hH => ?_)
  replace hF := hF0.mv hB121.1.1 hB121.1.2.1
  replace hK := hF.2.2.2.2.2.1
  have hxxE118 := hB121.1.2.2.1
  rw [show xad E114 0 = xad E118 0 from ((hB87.1.tr hT117.1).2.2.2 0 (by omega)).trans (hB121.1.2.2.2 0 (by omega)).symm] at hl
  replace hfw := fun (j : Nat) (j0 : 85 ≤ j) (j1 : j < 85 + xx E) => (fr120 j j0 (by omega)).trans (hfw j j0 j1)
  exact W.widen (by first | (simp only [rm_J4_append_15ec4, rm_J4_append_cf468, rm_J4_append_d, rm_J4_init_da8c8, rm_J4_toString_0e30d, rm_L_areLinesRight]; omega) | omega) (by first | (simp only [rm_J4_append_15ec4, rm_J4_append_cf468, rm_J4_append_d, rm_J4_init_da8c8, rm_J4_toString_0e30d, rm_L_areLinesRight]; omega) | omega) (J255 E118 σ119 H locs (hB121.eq (kyM hn7.1 hq)) fcw_0 hfw hH (lv_sub hl [0, 1, 2, 3, 4, 5, 6] rfl))
set_option maxHeartbeats 2000000 in
theorem lnKey (hF0 : xCf p E ST (xA E s.heap.size) s m args c cL_areLinesRight 7 wML_areLinesRight RL) (hSF : SF ST) (hSQ : SQ Z ST) (hSX : SX ST) (htr : l.stackTraces = false) (hr : 0 ≤ r ∧ r ≤ 4) (hk : 0 ≤ k ∧ k ≤ 4) (hXl : X9.length ≤ 54) (hn7 : 0 ≤ n7 ∧ n7 ≤ 5) (hCC : CC + 16 ≤ 3600) (hCS : CS + 1700 ≤ 336000) {Eu : xE} {tw : Nat} {σ9 : xW} {H : Heap} {locs : List Loc} {ls : Array Slot} (fcw_0 : cw Eu σ9 B S Y9) (hTX : TX9 Z E Eu σ9 (.ref tw) (X9 ++ kyL (kpT B) (r * 5 + k) n7)) (hfw : ∀ j : Nat, 85 ≤ j → j < 85 + xx E → σ9 j = σ1 j) (hH : Hx Eu (xA E s.heap.size) s.heap σ9 H locs) (hl : lv_has ls 7 [(6, .int (iZ n7)), (5, .int (iZ k)), (4, .ref tw), (3, .int (iZ fv)), (2, .int (iZ r)), (1, .int (iZ 1)), (0, .ref (xad Eu 0))]) (kont : ∀ (E94 : xE) (σ95 : xW) (H : Heap) (locs : List Loc) (ls : Array Slot), TW E E94 σ95 (X9 ++ kyL (kpT B) (r * 5 + k) (n7 + 1)) → cw E94 σ95 B S Y9 → (∀ j : Nat, 85 ≤ j → j < 85 + xx E → σ95 j = σ1 j) → Hx E94 (xA E s.heap.size) s.heap σ95 H locs → lv_has ls 7 [(6, .int (iZ (n7 + 1))), (5, .int (iZ k)), (4, .ref (xad E94 (85 + xx E))), (3, .int (iZ fv)), (2, .int (iZ r)), (1, .int (iZ 1)), (0, .ref (xad E94 0))] → W p l e rm_L_areLinesRight s m args below meth c H locs (CC + 16) (CS + 1700) Q (F0 m 186 ls [])) : W p l e rm_L_areLinesRight s m args below meth c H locs CC CS Q (F0 m 193 ls []) := by
  obtain ⟨hx, hb, hml, hown, hts, hK0, hST, hOK⟩ := hF0
  have hF0 : xCf p E ST (xA E s.heap.size) s m args c cL_areLinesRight 7 wML_areLinesRight RL := ⟨hx, hb, hml, hown, hts, hK0, hST, hOK⟩
  obtain ⟨d8, hx8⟩ := hTX.ex
  have hF := hF0.mv hx8.1 hx8.2.1
  have hK := hF.2.2.2.2.2.1
  have hxxu := hx8.2.2.1
  have hkl := ky6 (kp := kpT B) (ce := (r * 5 + k)) hn7.1
  refine r_new (rest := []) hF hSF hSQ hl.1 fcw_0 hH hinJ4L (List.mem_cons_of_mem _ (List.mem_append_right _ mW_599)) (List.mem_cons_of_mem _ (List.mem_append_right _ mW_600)) (List.mem_cons_of_mem _ (List.mem_append_right _ mW_601)) (cwI 0 hts (goodIn_t (goodIn_x gI4)) rfl rfl rfl (hts _ (List.mem_cons_of_mem _ (List.mem_append_right _ mW_601))) (hts _ (List.mem_cons_of_mem _ (List.mem_append_right _ mW_607))) (hts _ (List.mem_cons_of_mem _ (List.mem_append_right _ mW_608))) rfl (by decide +kernel) ⟨Nat.le_of_ble_eq_true rfl, Nat.le_of_ble_eq_true rfl⟩) (Nat.le_of_ble_eq_true rfl) dL_areLinesRight_193 dL_areLinesRight_196 dL_areLinesRight_197 ⟨by first | (simp only [rm_J4_init_da8c8, rm_L_areLinesRight]; omega) | omega, by first | (simp only [rm_J4_init_da8c8, rm_L_areLinesRight]; omega) | omega⟩ (fun E80 σ81 H locs hB83 fcw_0 fr82 hH => ?_)
  replace hTX := hTX.mv2 fr82
  replace hF := hF0.mv (hx8.tr hB83.1).1 (hx8.tr hB83.1).2.1
  replace hK := hF.2.2.2.2.2.1
  have hxxE80 := (hx8.tr hB83.1).2.2.1
  rw [show xad Eu 0 = xad E80 0 from (hx8.2.2.2 0 (by omega)).trans ((hx8.tr hB83.1).2.2.2 0 (by omega)).symm] at hl
  replace hfw := fun (j : Nat) (j0 : 85 ≤ j) (j1 : j < 85 + xx E) => (fr82 j j0 (by omega)).trans (hfw j j0 j1)
  refine lv_aload hx hb dL_areLinesRight_200 (lv_at hl 2 rfl) ?_
  refine r_apt (rest := []) hF hSF hSQ hl.1 hTX hB83 fcw_0 hH (by first | (simp only [List.length_append, List.length_cons, List.length_nil]; omega) | omega) (cwV 1 hts (goodIn_t (goodIn_x gK_214)) rfl rfl rfl (by decide +kernel) ⟨Nat.le_of_ble_eq_true rfl, Nat.le_of_ble_eq_true rfl⟩) (cwV 1 hts (goodIn_t (goodIn_x gK_214)) rfl rfl rfl (by decide +kernel) ⟨Nat.le_of_ble_eq_true rfl, Nat.le_of_ble_eq_true rfl⟩) (Nat.le_of_ble_eq_true rfl) dL_areLinesRight_202 ⟨by first | (simp only [rm_J4_append_15ec4, rm_J4_init_da8c8, rm_L_areLinesRight]; omega) | omega, by first | (simp only [rm_J4_append_15ec4, rm_J4_init_da8c8, rm_L_areLinesRight]; omega) | omega⟩ (fun E84 σ85 H locs hB87 fcw_0 fr86 hH => ?_)
  replace hF := hF0.mv hB87.1.1 hB87.1.2.1
  replace hK := hF.2.2.2.2.2.1
  have hxxE84 := hB87.1.2.2.1
  rw [show xad E80 0 = xad E84 0 from ((hx8.tr hB83.1).2.2.2 0 (by omega)).trans (hB87.1.2.2.2 0 (by omega)).symm] at hl
  replace hfw := fun (j : Nat) (j0 : 85 ≤ j) (j1 : j < 85 + xx E) => (fr86 j j0 (by omega)).trans (hfw j j0 j1)
  refine lv_aload_n hx hb dL_areLinesRight_205 rfl (lv_at hl 6 rfl) ?_
  refine x_iconst hx hb dL_areLinesRight_206 ?_
  refine lv_iload hx hb dL_areLinesRight_207 (lv_at hl 0 rfl) ?_
  refine x_iconst hx hb dL_areLinesRight_209 ?_
  refine x_iconst hx hb dL_areLinesRight_210 ?_
  refine x_cSW (As := [.ref (xad E84 0), .int (iZ 3), .int (iZ n7), .int (iZ 0), .int (iZ 0)]) (rest := [.ref (xad E84 (85 + xx E))]) hx hb hml hts hown hK hST hOK hH (c_L_ask_3 l E84 ST hSF hSX htr σ85 n7 0 0 B S Y9 fcw_0 (by omega)) (vx_cwSW 5 hts (goodIn_t gK_162) rfl rfl rfl (by decide +kernel) ⟨Nat.le_of_ble_eq_true rfl, Nat.le_of_ble_eq_true rfl⟩) rfl hl.1 rfl (Nat.le_of_ble_eq_true rfl) dL_areLinesRight_211 ⟨by first | (simp only [rm_J4_append_15ec4, rm_J4_init_da8c8, rm_L_areLinesRight, rm_L_ask_3]; omega) | omega, by first | (simp only [rm_J4_append_15ec4, rm_J4_init_da8c8, rm_L_areLinesRight, rm_L_ask_3]; omega) | omega⟩ (fun z88 σ89 H locs hp90 hH => ?_)
  obtain ⟨hq9, hu9⟩ := hp90
  subst hq9
  rw [hu9] at hH
  have hkr := aKp_rg (kp := kpT B) (i := n7)
  refine x_iconst hx hb dL_areLinesRight_214 ?_
  refine lv_iload_n hx hb dL_areLinesRight_215 rfl (lv_at hl 4 rfl) ?_
  refine x_imul hx hb dL_areLinesRight_216 ?_
  refine lv_iload hx hb dL_areLinesRight_217 (lv_at hl 1 rfl) ?_
  refine x_iadd hx hb dL_areLinesRight_219 ?_
  have J255 : ∀ (E91 : xE) (σ92 : xW) (H : Heap) (locs : List Loc), BW E E91 σ92 (X9 ++ kyL (kpT B) (r * 5 + k) (n7 + 1)) → cw E91 σ92 B S Y9 → (∀ j : Nat, 85 ≤ j → j < 85 + xx E → σ92 j = σ1 j) → Hx E91 (xA E s.heap.size) s.heap σ92 H locs → lv_has ls 7 [(6, .int (iZ n7)), (5, .int (iZ k)), (4, .ref tw), (3, .int (iZ fv)), (2, .int (iZ r)), (1, .int (iZ 1)), (0, .ref (xad E91 0))] → W p l e rm_L_areLinesRight s m args below meth c H locs (((((CC + 1) + rm_J4_init_da8c8.cells) + rm_J4_append_15ec4.cells) + rm_L_ask_3.cells) + 9) (((((CS + 4) + rm_J4_init_da8c8.slots) + rm_J4_append_15ec4.slots) + rm_L_ask_3.slots) + 700) Q (F0 m 255 ls [.ref (xad E91 (85 + xx E))]) := by
    intro E91 σ92 H locs hB93 fcw_0 hfw hH hl
    have hF := hF0.mv hB93.1.1 hB93.1.2.1
    have hK := hF.2.2.2.2.2.1
    have hxxE91 := hB93.1.2.2.1
    refine r_ts (rest := []) hF hSF hSQ hl.1 hB93 fcw_0 hH (cwV 0 hts (goodIn_t (goodIn_x gK_234)) rfl rfl rfl (by decide +kernel) ⟨Nat.le_of_ble_eq_true rfl, Nat.le_of_ble_eq_true rfl⟩) (Nat.le_of_ble_eq_true rfl) dL_areLinesRight_255 ⟨by first | (simp only [rm_J4_append_15ec4, rm_J4_init_da8c8, rm_J4_toString_0e30d, rm_L_areLinesRight, rm_L_ask_3]; omega) | omega, by first | (simp only [rm_J4_append_15ec4, rm_J4_init_da8c8, rm_J4_toString_0e30d, rm_L_areLinesRight, rm_L_ask_3]; omega) | omega⟩ (fun E94 σ95 H locs hT97 fcw_0 fr96 hH => ?_)
    replace hF := hF0.mv hT97.1.1 hT97.1.2.1
    replace hK := hF.2.2.2.2.2.1
    have hxxE94 := hT97.1.2.2.1
    rw [show xad E91 0 = xad E94 0 from (hB93.1.2.2.2 0 (by omega)).trans (hT97.1.2.2.2 0 (by omega)).symm] at hl
    replace hfw := fun (j : Nat) (j0 : 85 ≤ j) (j1 : j < 85 + xx E) => (fr96 j j0 (by omega)).trans (hfw j j0 j1)
    refine lv_astore (lv' := [(4, .ref (xad E94 (85 + xx E))), (6, .int (iZ n7)), (5, .int (iZ k)), (3, .int (iZ fv)), (2, .int (iZ r)), (1, .int (iZ 1)), (0, .ref (xad E94 0))]) hx hb dL_areLinesRight_258 hl (by decide) rfl (fun ls hl => ?_)
    refine x_iinc (lv' := [(6, .int (iZ (n7 + 1))), (4, .ref (xad E94 (85 + xx E))), (5, .int (iZ k)), (3, .int (iZ fv)), (2, .int (iZ r)), (1, .int (iZ 1)), (0, .ref (xad E94 0))]) hx hb dL_areLinesRight_260 hl (k := 1) rfl (by decide) rfl (fun ls hl => ?_)
    refine lv_goto (tgt := 186) hx hb dL_areLinesRight_263 (by decide) ?_
    exact W.widen (by first | (simp only [rm_J4_append_15ec4, rm_J4_init_da8c8, rm_J4_toString_0e30d, rm_L_areLinesRight, rm_L_ask_3]; omega) | omega) (by first | (simp only [rm_J4_append_15ec4, rm_J4_init_da8c8, rm_J4_toString_0e30d, rm_L_areLinesRight, rm_L_ask_3]; omega) | omega) (kont E94 σ95 H locs _ hT97 fcw_0 hfw hH (lv_sub hl [0, 2, 1, 3, 4, 5, 6] rfl))
  refine x_icmp_ne (tgt := 250) hx hb dL_areLinesRight_220 (by decide) (by omega) (by omega) (fun c220 => ?_) (fun c220 => ?_)
  · refine x_ldcS (q := zK Z 0) hx hb hown ((hSQ _ _ _ hST).2.2.2.1 0 _ rfl) dL_areLinesRight_250 ?_
    have hs1252 : (sL 0).length ≤ 1 := by decide
    refine r_apl (i := 0) (rest := []) hF hSF hSQ hl.1 (by omega) (by omega) hB87 fcw_0 hH (by first | (simp only [List.length_append, List.length_cons, List.length_nil]; omega) | omega) (cwV 1 hts (goodIn_t (goodIn_x gK_214)) rfl rfl rfl (by decide +kernel) ⟨Nat.le_of_ble_eq_true rfl, Nat.le_of_ble_eq_true rfl⟩) (Nat.le_of_ble_eq_true rfl) dL_areLinesRight_252 ⟨by first | (simp only [rm_J4_append_15ec4, rm_J4_init_da8c8, rm_L_areLinesRight, rm_L_ask_3]; omega) | omega, by first | (simp only [rm_J4_append_15ec4, rm_J4_init_da8c8, rm_L_areLinesRight, rm_L_ask_3]; omega) | omega⟩ (fun E98 σ99 H locs hB101 fcw_0 fr100 hH => ?_)
    replace hF := hF0.mv hB101.1.1 hB101.1.2.1
    replace hK := hF.2.2.2.2.2.1
    have hxxE98 := hB101.1.2.2.1
    rw [show xad E84 0 = xad E98 0 from (hB87.1.2.2.2 0 (by omega)).trans (hB101.1.2.2.2 0 (by omega)).symm] at hl
    replace hfw := fun (j : Nat) (j0 : 85 ≤ j) (j1 : j < 85 + xx E) => (fr100 j j0 (by omega)).trans (hfw j j0 j1)
    exact W.widen (by first | (simp only [rm_J4_append_15ec4, rm_J4_init_da8c8, rm_L_areLinesRight, rm_L_ask_3]; omega) | omega) (by first | (simp only [rm_J4_append_15ec4, rm_J4_init_da8c8, rm_L_areLinesRight, rm_L_ask_3]; omega) | omega) (J255 E98 σ99 H locs (hB101.eq (ky0 hn7.1 (fun q => c220 (by have := (aKp_eq (kp := kpT B) (i := n7) (k := r * 5 + k) (by omega)).mpr q; omega)))) fcw_0 hfw hH (lv_sub hl [0, 1, 2, 3, 4, 5, 6] rfl))
  · refine lnKeyD hF0 hSF hSQ hr hk hXl hn7 (by simp only [rm_J4_append_15ec4, rm_J4_init_da8c8, rm_L_ask_3]; omega) (by simp only [rm_J4_append_15ec4, rm_J4_init_da8c8, rm_L_ask_3]; omega) ((aKp_eq (by omega)).mp (by omega)) hB87 fcw_0 hfw hH (lv_sub hl [0, 1, 2, 3, 4, 5, 6] rfl) J255
end LNKEY
