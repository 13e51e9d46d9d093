/-! ===== the law's cases ===== -/
set_option maxRecDepth 100000 in
set_option maxHeartbeats 4000000 in
theorem lc_12 {p : Program} {l : Launch} {e : Env} {s : State} {m : MethodId} {below : List Frame} {meth : Method} {c : Code} {Q : State → Prop} {E : xE} {ST : xST} {Z : zE} {b L : Nat} {xs : Nat → Int32} (G : LX l E ST Z p s m meth c b L xs) {n : Nat} (hn : 4 * n + 4 ≤ L) {σ : xW} {H : Heap} {locs : List Loc} {ls : Array Slot} (hI : INV (n : Int) E σ) (hH : Hx E (fun q => s.heap.size ≤ q) s.heap σ H locs) (hl : lv_has ls 10 [(5, .int (iZ (4 * (n : Int)))), (0, .ref b), (1, .ref (xad E 0)), (2, .ref (xad E 85)), (3, .ref (xad E 96)), (4, .ref (xad E 97))])
    (kk : ∀ (σ1 : xW) (H1 : Heap) (locs1 : List Loc) (ls1 : Array Slot), INV ((n : Int) + 1) E σ1 → Hx E (fun q => s.heap.size ≤ q) s.heap σ1 H1 locs1 → lv_has ls1 10 [(5, .int (iZ (4 * (n : Int)))), (0, .ref b), (1, .ref (xad E 0)), (2, .ref (xad E 85)), (3, .ref (xad E 96)), (4, .ref (xad E 97))] → W p l e room_1 s m #[Value.ref b] below meth c H1 locs1 (100 + 10 * (n + 1)) (3000 + 100 * (n + 1)) Q (F0 m 2984 ls1 [])) : W p l e room_1 s m #[Value.ref b] below meth c H locs (100 + 10 * n) (3000 + 100 * n) Q (F0 m 1132 ls []) := by
  obtain ⟨hx, hb, hml, hown, hts, hK, hST, hSF, hSX, hSQ, htr, hX, hbl, hlocks, hr, hL⟩ := G
  have hOK := hSF.1
  have hn6 : (0 : Int) ≤ (n : Int) ∧ (n : Int) ≤ 600 := by omega
  obtain ⟨p0, e0⟩ : ∃ y : Int, y = (xs (4 * (n : Int) + 1).toNat).toInt := ⟨_, rfl⟩
  have r0 : rg p0 := by rw [e0]; exact iZ_rg _
  obtain ⟨p1, e1⟩ : ∃ y : Int, y = (xs (4 * (n : Int) + 2).toNat).toInt := ⟨_, rfl⟩
  have r1 : rg p1 := by rw [e1]; exact iZ_rg _
  obtain ⟨P, hP, hPQ⟩ := s_isPinned l E ST hSF hSX htr hn6 hI p0 p1 r0 r1
  refine lv_aload_n hx hb dL_law_1132 rfl (lv_at hl 2 rfl) ?_
  refine lv_aload_n hx hb dL_law_1133 rfl (lv_at hl 1 rfl) ?_
  refine lv_iload hx hb dL_law_1134 (lv_at hl 0 rfl) ?_
  refine x_iconst (n := 1) hx hb dL_law_1136 ?_
  refine x_iadd hx hb dL_law_1137 ?_
  refine x_scr hx hb hX hbl hH (by omega) (by omega) hL e0 dL_law_1138 ?_
  refine lv_aload_n hx hb dL_law_1139 rfl (lv_at hl 1 rfl) ?_
  refine lv_iload hx hb dL_law_1140 (lv_at hl 0 rfl) ?_
  refine x_iconst (n := 2) hx hb dL_law_1142 ?_
  refine x_iadd hx hb dL_law_1143 ?_
  refine x_scr hx hb hX hbl hH (by omega) (by omega) hL e1 dL_law_1144 ?_
  refine lv_aload_n hx hb dL_law_1145 rfl (lv_at hl 4 rfl) ?_
  refine x_cSW (As := [.ref (xad E 0), .int (iZ p0), .int (iZ p1), .ref (xad E 96)]) (rest := []) hx hb hml hts hown hK hST hOK hH hP (vx_cwSW 4 hts gL_law_L_isPinned rfl rfl rfl (by decide +kernel) ⟨Nat.le_of_ble_eq_true rfl, Nat.le_of_ble_eq_true rfl⟩) rfl hl.1 rfl (Nat.le_of_ble_eq_true rfl) dL_law_1146 ⟨by simp only [rm_L_isPinned, room_1]; omega, by simp only [rm_L_isPinned, room_1]; omega⟩ (fun k u H locs hp hH => ?_)
  obtain ⟨⟨fs, h85⟩, Q2, hQ2, hfin⟩ := hPQ k u hp
  refine lv_istore (lv' := [(6, .int (iZ k)), (5, .int (iZ (4 * (n : Int)))), (0, .ref b), (1, .ref (xad E 0)), (2, .ref (xad E 85)), (3, .ref (xad E 96)), (4, .ref (xad E 97))]) hx hb dL_law_1149 hl (by decide) rfl (fun ls hl => ?_)
  refine lv_aload_n hx hb dL_law_1151 rfl (lv_at hl 4 rfl) ?_
  refine lv_aload_n hx hb dL_law_1152 rfl (lv_at hl 2 rfl) ?_
  refine lv_iload hx hb dL_law_1153 (lv_at hl 1 rfl) ?_
  refine x_iconst (n := 1) hx hb dL_law_1155 ?_
  refine x_iadd hx hb dL_law_1156 ?_
  refine x_scr hx hb hX hbl hH (by omega) (by omega) hL e0 dL_law_1157 ?_
  refine lv_aload_n hx hb dL_law_1158 rfl (lv_at hl 2 rfl) ?_
  refine lv_iload hx hb dL_law_1159 (lv_at hl 1 rfl) ?_
  refine x_iconst (n := 2) hx hb dL_law_1161 ?_
  refine x_iadd hx hb dL_law_1162 ?_
  refine x_scr hx hb hX hbl hH (by omega) (by omega) hL e1 dL_law_1163 ?_
  refine x_cVI (As := [.int (iZ p0), .int (iZ p1)]) (rest := []) hx hb hml hts hown hK hST hOK hH 85 hQ2 (cwV 2 hts gL_law_X7_isPinned rfl rfl rfl (by decide +kernel) ⟨Nat.le_of_ble_eq_true rfl, Nat.le_of_ble_eq_true rfl⟩) (by decide) h85 rfl rfl hl.1 rfl (Nat.le_of_ble_eq_true rfl) dL_law_1164 ⟨by simp only [rm_L_isPinned, rm_X7_isPinned, room_1]; omega, by simp only [rm_L_isPinned, rm_X7_isPinned, room_1]; omega⟩ (fun z t H locs hq hH => ?_)
  obtain ⟨⟨hT, hkr, h96⟩, hb01⟩ := hfin z t hq
  refine lv_istore (lv' := [(7, .int (iZ z)), (6, .int (iZ k)), (5, .int (iZ (4 * (n : Int)))), (0, .ref b), (1, .ref (xad E 0)), (2, .ref (xad E 85)), (3, .ref (xad E 96)), (4, .ref (xad E 97))]) hx hb dL_law_1167 hl (by decide) rfl (fun ls hl => ?_)
  obtain ⟨sv, re, ea, fa, ty, li, sz, sp, wr, to, hmo⟩ := hT.mo
  have h85t : t 85 = oB 5 _ := hmo
  refine lv_aload_n hx hb dL_law_1169 rfl (lv_at hl 5 rfl) ?_
  refine x_cVID (z0 := k) (As := []) (rest := []) hx hb hml hts hown hK hST hOK hH 85 (c_X7_thrown l E ST hSF t sv re ea fa ty li k sz sp wr to hmo) (cwV 0 hts gL_law_X7_thrown rfl rfl rfl (by decide +kernel) ⟨Nat.le_of_ble_eq_true rfl, Nat.le_of_ble_eq_true rfl⟩) (by decide) h85t rfl rfl hl.1 rfl (Nat.le_of_ble_eq_true rfl) dL_law_1170 ⟨by simp only [rm_L_isPinned, rm_X7_isPinned, rm_X7_thrown, room_1]; omega, by simp only [rm_L_isPinned, rm_X7_isPinned, rm_X7_thrown, room_1]; omega⟩ (fun z u h => h) (fun H locs hH => ?_)
  refine lv_iload hx hb dL_law_1173 (lv_at hl 1 rfl) ?_
  refine lv_icmp_eq (tgt := 1180) hx hb dL_law_1175 (by decide) (fun _ => ?_) (fun c9 => absurd rfl c9)
  refine lv_iload hx hb dL_law_1180 (lv_at hl 1 rfl) ?_
  refine x_if_ne (tgt := 1204) hx hb dL_law_1182 (by decide) hkr (fun c0 => ?_) (fun c0 => ?_)
  · refine lv_goto (tgt := 2984) hx hb dL_law_1204 (by decide) ?_
    exact W.widen (by simp only [rm_L_isPinned, rm_X7_isPinned, rm_X7_thrown]; omega) (by simp only [rm_L_isPinned, rm_X7_isPinned, rm_X7_thrown]; omega) (kk t H locs ls ⟨k, hkr, hT⟩ hH (lv_sub hl [2, 3, 4, 5, 6, 7] rfl))
  · refine lv_aload_n hx hb dL_law_1185 rfl (lv_at hl 6 rfl) ?_
    refine x_iconst (n := 0) hx hb dL_law_1186 ?_
    refine x_lald hx hb hK hH (h96 c0) dL_law_1187 ?_
    refine lv_iload hx hb dL_law_1188 (lv_at hl 0 rfl) ?_
    rcases hb01 c0 with e9 | e9
    · subst e9
      refine x_if_eq (tgt := 1197) hx hb dL_law_1190 (by decide) (by decide) (fun _ => ?_) (fun c9 => absurd rfl c9)
      refine lv_lconst (v := (iZ 0).toInt64) hx hb dL_law_1197 (by decide +kernel) ?_
      refine W.lcmp hx hb dL_law_1198 ?_
      refine lv_if_eq (tgt := 1204) hx hb dL_law_1199 (by decide) (fun _ => ?_) (fun c9 => absurd ((lg_cmp_eq _ _).mpr rfl) c9)
      refine lv_goto (tgt := 2984) hx hb dL_law_1204 (by decide) ?_
      exact W.widen (by simp only [rm_L_isPinned, rm_X7_isPinned, rm_X7_thrown]; omega) (by simp only [rm_L_isPinned, rm_X7_isPinned, rm_X7_thrown]; omega) (kk t H locs ls ⟨k, hkr, hT⟩ hH (lv_sub hl [2, 3, 4, 5, 6, 7] rfl))
    · subst e9
      refine x_if_eq (tgt := 1197) hx hb dL_law_1190 (by decide) (by decide) (fun c9 => absurd c9 (by decide)) (fun _ => ?_)
      refine lv_lconst (v := (iZ 1).toInt64) hx hb dL_law_1193 (by decide +kernel) ?_
      refine lv_goto (tgt := 1198) hx hb dL_law_1194 (by decide) ?_
      refine W.lcmp hx hb dL_law_1198 ?_
      refine lv_if_eq (tgt := 1204) hx hb dL_law_1199 (by decide) (fun _ => ?_) (fun c9 => absurd ((lg_cmp_eq _ _).mpr rfl) c9)
      refine lv_goto (tgt := 2984) hx hb dL_law_1204 (by decide) ?_
      exact W.widen (by simp only [rm_L_isPinned, rm_X7_isPinned, rm_X7_thrown]; omega) (by simp only [rm_L_isPinned, rm_X7_isPinned, rm_X7_thrown]; omega) (kk t H locs ls ⟨k, hkr, hT⟩ hH (lv_sub hl [2, 3, 4, 5, 6, 7] rfl))
set_option maxRecDepth 100000 in
set_option maxHeartbeats 4000000 in
theorem lc_13 {p : Program} {l : Launch} {e : Env} {s : State} {m : MethodId} {below : List Frame} {meth : Method} {c : Code} {Q : State → Prop} {E : xE} {ST : xST} {Z : zE} {b L : Nat} {xs : Nat → Int32} (G : LX l E ST Z p s m meth c b L xs) {n : Nat} (hn : 4 * n + 4 ≤ L) {σ : xW} {H : Heap} {locs : List Loc} {ls : Array Slot} (hI : INV (n : Int) E σ) (hH : Hx E (fun q => s.heap.size ≤ q) s.heap σ H locs) (hl : lv_has ls 10 [(5, .int (iZ (4 * (n : Int)))), (0, .ref b), (1, .ref (xad E 0)), (2, .ref (xad E 85)), (3, .ref (xad E 96)), (4, .ref (xad E 97))])
    (kk : ∀ (σ1 : xW) (H1 : Heap) (locs1 : List Loc) (ls1 : Array Slot), INV ((n : Int) + 1) E σ1 → Hx E (fun q => s.heap.size ≤ q) s.heap σ1 H1 locs1 → lv_has ls1 10 [(5, .int (iZ (4 * (n : Int)))), (0, .ref b), (1, .ref (xad E 0)), (2, .ref (xad E 85)), (3, .ref (xad E 96)), (4, .ref (xad E 97))] → W p l e room_1 s m #[Value.ref b] below meth c H1 locs1 (100 + 10 * (n + 1)) (3000 + 100 * (n + 1)) Q (F0 m 2984 ls1 [])) : W p l e room_1 s m #[Value.ref b] below meth c H locs (100 + 10 * n) (3000 + 100 * n) Q (F0 m 1207 ls []) := by
  obtain ⟨hx, hb, hml, hown, hts, hK, hST, hSF, hSX, hSQ, htr, hX, hbl, hlocks, hr, hL⟩ := G
  have hOK := hSF.1
  have hn6 : (0 : Int) ≤ (n : Int) ∧ (n : Int) ≤ 600 := by omega
  obtain ⟨p0, e0⟩ : ∃ y : Int, y = (xs (4 * (n : Int) + 1).toNat).toInt := ⟨_, rfl⟩
  have r0 : rg p0 := by rw [e0]; exact iZ_rg _
  obtain ⟨P, hP, hPQ⟩ := s_canShiftRow l E ST hSF hSX htr hn6 hI p0 r0
  refine lv_aload_n hx hb dL_law_1207 rfl (lv_at hl 2 rfl) ?_
  refine lv_aload_n hx hb dL_law_1208 rfl (lv_at hl 1 rfl) ?_
  refine lv_iload hx hb dL_law_1209 (lv_at hl 0 rfl) ?_
  refine x_iconst (n := 1) hx hb dL_law_1211 ?_
  refine x_iadd hx hb dL_law_1212 ?_
  refine x_scr hx hb hX hbl hH (by omega) (by omega) hL e0 dL_law_1213 ?_
  refine lv_aload_n hx hb dL_law_1214 rfl (lv_at hl 4 rfl) ?_
  refine x_cSW (As := [.ref (xad E 0), .int (iZ p0), .ref (xad E 96)]) (rest := []) hx hb hml hts hown hK hST hOK hH hP (vx_cwSW 3 hts gL_law_L_canShiftRow rfl rfl rfl (by decide +kernel) ⟨Nat.le_of_ble_eq_true rfl, Nat.le_of_ble_eq_true rfl⟩) rfl hl.1 rfl (Nat.le_of_ble_eq_true rfl) dL_law_1215 ⟨by simp only [rm_L_canShiftRow, room_1]; omega, by simp only [rm_L_canShiftRow, room_1]; omega⟩ (fun k u H locs hp hH => ?_)
  obtain ⟨⟨fs, h85⟩, Q2, hQ2, hfin⟩ := hPQ k u hp
  refine lv_istore (lv' := [(6, .int (iZ k)), (5, .int (iZ (4 * (n : Int)))), (0, .ref b), (1, .ref (xad E 0)), (2, .ref (xad E 85)), (3, .ref (xad E 96)), (4, .ref (xad E 97))]) hx hb dL_law_1218 hl (by decide) rfl (fun ls hl => ?_)
  refine lv_aload_n hx hb dL_law_1220 rfl (lv_at hl 4 rfl) ?_
  refine lv_aload_n hx hb dL_law_1221 rfl (lv_at hl 2 rfl) ?_
  refine lv_iload hx hb dL_law_1222 (lv_at hl 1 rfl) ?_
  refine x_iconst (n := 1) hx hb dL_law_1224 ?_
  refine x_iadd hx hb dL_law_1225 ?_
  refine x_scr hx hb hX hbl hH (by omega) (by omega) hL e0 dL_law_1226 ?_
  refine x_cVI (As := [.int (iZ p0)]) (rest := []) hx hb hml hts hown hK hST hOK hH 85 hQ2 (cwV 1 hts gL_law_X7_canShiftRow rfl rfl rfl (by decide +kernel) ⟨Nat.le_of_ble_eq_true rfl, Nat.le_of_ble_eq_true rfl⟩) (by decide) h85 rfl rfl hl.1 rfl (Nat.le_of_ble_eq_true rfl) dL_law_1227 ⟨by simp only [rm_L_canShiftRow, rm_X7_canShiftRow, room_1]; omega, by simp only [rm_L_canShiftRow, rm_X7_canShiftRow, room_1]; omega⟩ (fun z t H locs hq hH => ?_)
  obtain ⟨⟨hT, hkr, h96⟩, hb01⟩ := hfin z t hq
  refine lv_istore (lv' := [(7, .int (iZ z)), (6, .int (iZ k)), (5, .int (iZ (4 * (n : Int)))), (0, .ref b), (1, .ref (xad E 0)), (2, .ref (xad E 85)), (3, .ref (xad E 96)), (4, .ref (xad E 97))]) hx hb dL_law_1230 hl (by decide) rfl (fun ls hl => ?_)
  obtain ⟨sv, re, ea, fa, ty, li, sz, sp, wr, to, hmo⟩ := hT.mo
  have h85t : t 85 = oB 5 _ := hmo
  refine lv_aload_n hx hb dL_law_1232 rfl (lv_at hl 5 rfl) ?_
  refine x_cVID (z0 := k) (As := []) (rest := []) hx hb hml hts hown hK hST hOK hH 85 (c_X7_thrown l E ST hSF t sv re ea fa ty li k sz sp wr to hmo) (cwV 0 hts gL_law_X7_thrown rfl rfl rfl (by decide +kernel) ⟨Nat.le_of_ble_eq_true rfl, Nat.le_of_ble_eq_true rfl⟩) (by decide) h85t rfl rfl hl.1 rfl (Nat.le_of_ble_eq_true rfl) dL_law_1233 ⟨by simp only [rm_L_canShiftRow, rm_X7_canShiftRow, rm_X7_thrown, room_1]; omega, by simp only [rm_L_canShiftRow, rm_X7_canShiftRow, rm_X7_thrown, room_1]; omega⟩ (fun z u h => h) (fun H locs hH => ?_)
  refine lv_iload hx hb dL_law_1236 (lv_at hl 1 rfl) ?_
  refine lv_icmp_eq (tgt := 1243) hx hb dL_law_1238 (by decide) (fun _ => ?_) (fun c9 => absurd rfl c9)
  refine lv_iload hx hb dL_law_1243 (lv_at hl 1 rfl) ?_
  refine x_if_ne (tgt := 1267) hx hb dL_law_1245 (by decide) hkr (fun c0 => ?_) (fun c0 => ?_)
  · refine lv_goto (tgt := 2984) hx hb dL_law_1267 (by decide) ?_
    exact W.widen (by simp only [rm_L_canShiftRow, rm_X7_canShiftRow, rm_X7_thrown]; omega) (by simp only [rm_L_canShiftRow, rm_X7_canShiftRow, rm_X7_thrown]; omega) (kk t H locs ls ⟨k, hkr, hT⟩ hH (lv_sub hl [2, 3, 4, 5, 6, 7] rfl))
  · refine lv_aload_n hx hb dL_law_1248 rfl (lv_at hl 6 rfl) ?_
    refine x_iconst (n := 0) hx hb dL_law_1249 ?_
    refine x_lald hx hb hK hH (h96 c0) dL_law_1250 ?_
    refine lv_iload hx hb dL_law_1251 (lv_at hl 0 rfl) ?_
    rcases hb01 c0 with e9 | e9
    · subst e9
      refine x_if_eq (tgt := 1260) hx hb dL_law_1253 (by decide) (by decide) (fun _ => ?_) (fun c9 => absurd rfl c9)
      refine lv_lconst (v := (iZ 0).toInt64) hx hb dL_law_1260 (by decide +kernel) ?_
      refine W.lcmp hx hb dL_law_1261 ?_
      refine lv_if_eq (tgt := 1267) hx hb dL_law_1262 (by decide) (fun _ => ?_) (fun c9 => absurd ((lg_cmp_eq _ _).mpr rfl) c9)
      refine lv_goto (tgt := 2984) hx hb dL_law_1267 (by decide) ?_
      exact W.widen (by simp only [rm_L_canShiftRow, rm_X7_canShiftRow, rm_X7_thrown]; omega) (by simp only [rm_L_canShiftRow, rm_X7_canShiftRow, rm_X7_thrown]; omega) (kk t H locs ls ⟨k, hkr, hT⟩ hH (lv_sub hl [2, 3, 4, 5, 6, 7] rfl))
    · subst e9
      refine x_if_eq (tgt := 1260) hx hb dL_law_1253 (by decide) (by decide) (fun c9 => absurd c9 (by decide)) (fun _ => ?_)
      refine lv_lconst (v := (iZ 1).toInt64) hx hb dL_law_1256 (by decide +kernel) ?_
      refine lv_goto (tgt := 1261) hx hb dL_law_1257 (by decide) ?_
      refine W.lcmp hx hb dL_law_1261 ?_
      refine lv_if_eq (tgt := 1267) hx hb dL_law_1262 (by decide) (fun _ => ?_) (fun c9 => absurd ((lg_cmp_eq _ _).mpr rfl) c9)
      refine lv_goto (tgt := 2984) hx hb dL_law_1267 (by decide) ?_
      exact W.widen (by simp only [rm_L_canShiftRow, rm_X7_canShiftRow, rm_X7_thrown]; omega) (by simp only [rm_L_canShiftRow, rm_X7_canShiftRow, rm_X7_thrown]; omega) (kk t H locs ls ⟨k, hkr, hT⟩ hH (lv_sub hl [2, 3, 4, 5, 6, 7] rfl))
set_option maxRecDepth 100000 in
set_option maxHeartbeats 4000000 in
theorem lc_14 {p : Program} {l : Launch} {e : Env} {s : State} {m : MethodId} {below : List Frame} {meth : Method} {c : Code} {Q : State → Prop} {E : xE} {ST : xST} {Z : zE} {b L : Nat} {xs : Nat → Int32} (G : LX l E ST Z p s m meth c b L xs) {n : Nat} (hn : 4 * n + 4 ≤ L) {σ : xW} {H : Heap} {locs : List Loc} {ls : Array Slot} (hI : INV (n : Int) E σ) (hH : Hx E (fun q => s.heap.size ≤ q) s.heap σ H locs) (hl : lv_has ls 10 [(5, .int (iZ (4 * (n : Int)))), (0, .ref b), (1, .ref (xad E 0)), (2, .ref (xad E 85)), (3, .ref (xad E 96)), (4, .ref (xad E 97))])
    (kk : ∀ (σ1 : xW) (H1 : Heap) (locs1 : List Loc) (ls1 : Array Slot), INV ((n : Int) + 1) E σ1 → Hx E (fun q => s.heap.size ≤ q) s.heap σ1 H1 locs1 → lv_has ls1 10 [(5, .int (iZ (4 * (n : Int)))), (0, .ref b), (1, .ref (xad E 0)), (2, .ref (xad E 85)), (3, .ref (xad E 96)), (4, .ref (xad E 97))] → W p l e room_1 s m #[Value.ref b] below meth c H1 locs1 (100 + 10 * (n + 1)) (3000 + 100 * (n + 1)) Q (F0 m 2984 ls1 [])) : W p l e room_1 s m #[Value.ref b] below meth c H locs (100 + 10 * n) (3000 + 100 * n) Q (F0 m 1270 ls []) := by
  obtain ⟨hx, hb, hml, hown, hts, hK, hST, hSF, hSX, hSQ, htr, hX, hbl, hlocks, hr, hL⟩ := G
  have hOK := hSF.1
  have hn6 : (0 : Int) ≤ (n : Int) ∧ (n : Int) ≤ 600 := by omega
  obtain ⟨p0, e0⟩ : ∃ y : Int, y = (xs (4 * (n : Int) + 1).toNat).toInt := ⟨_, rfl⟩
  have r0 : rg p0 := by rw [e0]; exact iZ_rg _
  obtain ⟨P, hP, hPQ⟩ := s_canShiftColumn l E ST hSF hSX htr hn6 hI p0 r0
  refine lv_aload_n hx hb dL_law_1270 rfl (lv_at hl 2 rfl) ?_
  refine lv_aload_n hx hb dL_law_1271 rfl (lv_at hl 1 rfl) ?_
  refine lv_iload hx hb dL_law_1272 (lv_at hl 0 rfl) ?_
  refine x_iconst (n := 1) hx hb dL_law_1274 ?_
  refine x_iadd hx hb dL_law_1275 ?_
  refine x_scr hx hb hX hbl hH (by omega) (by omega) hL e0 dL_law_1276 ?_
  refine lv_aload_n hx hb dL_law_1277 rfl (lv_at hl 4 rfl) ?_
  refine x_cSW (As := [.ref (xad E 0), .int (iZ p0), .ref (xad E 96)]) (rest := []) hx hb hml hts hown hK hST hOK hH hP (vx_cwSW 3 hts gL_law_L_canShiftColumn rfl rfl rfl (by decide +kernel) ⟨Nat.le_of_ble_eq_true rfl, Nat.le_of_ble_eq_true rfl⟩) rfl hl.1 rfl (Nat.le_of_ble_eq_true rfl) dL_law_1278 ⟨by simp only [rm_L_canShiftColumn, room_1]; omega, by simp only [rm_L_canShiftColumn, room_1]; omega⟩ (fun k u H locs hp hH => ?_)
  obtain ⟨⟨fs, h85⟩, Q2, hQ2, hfin⟩ := hPQ k u hp
  refine lv_istore (lv' := [(6, .int (iZ k)), (5, .int (iZ (4 * (n : Int)))), (0, .ref b), (1, .ref (xad E 0)), (2, .ref (xad E 85)), (3, .ref (xad E 96)), (4, .ref (xad E 97))]) hx hb dL_law_1281 hl (by decide) rfl (fun ls hl => ?_)
  refine lv_aload_n hx hb dL_law_1283 rfl (lv_at hl 4 rfl) ?_
  refine lv_aload_n hx hb dL_law_1284 rfl (lv_at hl 2 rfl) ?_
  refine lv_iload hx hb dL_law_1285 (lv_at hl 1 rfl) ?_
  refine x_iconst (n := 1) hx hb dL_law_1287 ?_
  refine x_iadd hx hb dL_law_1288 ?_
  refine x_scr hx hb hX hbl hH (by omega) (by omega) hL e0 dL_law_1289 ?_
  refine x_cVI (As := [.int (iZ p0)]) (rest := []) hx hb hml hts hown hK hST hOK hH 85 hQ2 (cwV 1 hts gL_law_X7_canShiftColumn rfl rfl rfl (by decide +kernel) ⟨Nat.le_of_ble_eq_true rfl, Nat.le_of_ble_eq_true rfl⟩) (by decide) h85 rfl rfl hl.1 rfl (Nat.le_of_ble_eq_true rfl) dL_law_1290 ⟨by simp only [rm_L_canShiftColumn, rm_X7_canShiftColumn, room_1]; omega, by simp only [rm_L_canShiftColumn, rm_X7_canShiftColumn, room_1]; omega⟩ (fun z t H locs hq hH => ?_)
  obtain ⟨⟨hT, hkr, h96⟩, hb01⟩ := hfin z t hq
  refine lv_istore (lv' := [(7, .int (iZ z)), (6, .int (iZ k)), (5, .int (iZ (4 * (n : Int)))), (0, .ref b), (1, .ref (xad E 0)), (2, .ref (xad E 85)), (3, .ref (xad E 96)), (4, .ref (xad E 97))]) hx hb dL_law_1293 hl (by decide) rfl (fun ls hl => ?_)
  obtain ⟨sv, re, ea, fa, ty, li, sz, sp, wr, to, hmo⟩ := hT.mo
  have h85t : t 85 = oB 5 _ := hmo
  refine lv_aload_n hx hb dL_law_1295 rfl (lv_at hl 5 rfl) ?_
  refine x_cVID (z0 := k) (As := []) (rest := []) hx hb hml hts hown hK hST hOK hH 85 (c_X7_thrown l E ST hSF t sv re ea fa ty li k sz sp wr to hmo) (cwV 0 hts gL_law_X7_thrown rfl rfl rfl (by decide +kernel) ⟨Nat.le_of_ble_eq_true rfl, Nat.le_of_ble_eq_true rfl⟩) (by decide) h85t rfl rfl hl.1 rfl (Nat.le_of_ble_eq_true rfl) dL_law_1296 ⟨by simp only [rm_L_canShiftColumn, rm_X7_canShiftColumn, rm_X7_thrown, room_1]; omega, by simp only [rm_L_canShiftColumn, rm_X7_canShiftColumn, rm_X7_thrown, room_1]; omega⟩ (fun z u h => h) (fun H locs hH => ?_)
  refine lv_iload hx hb dL_law_1299 (lv_at hl 1 rfl) ?_
  refine lv_icmp_eq (tgt := 1306) hx hb dL_law_1301 (by decide) (fun _ => ?_) (fun c9 => absurd rfl c9)
  refine lv_iload hx hb dL_law_1306 (lv_at hl 1 rfl) ?_
  refine x_if_ne (tgt := 1330) hx hb dL_law_1308 (by decide) hkr (fun c0 => ?_) (fun c0 => ?_)
  · refine lv_goto (tgt := 2984) hx hb dL_law_1330 (by decide) ?_
    exact W.widen (by simp only [rm_L_canShiftColumn, rm_X7_canShiftColumn, rm_X7_thrown]; omega) (by simp only [rm_L_canShiftColumn, rm_X7_canShiftColumn, rm_X7_thrown]; omega) (kk t H locs ls ⟨k, hkr, hT⟩ hH (lv_sub hl [2, 3, 4, 5, 6, 7] rfl))
  · refine lv_aload_n hx hb dL_law_1311 rfl (lv_at hl 6 rfl) ?_
    refine x_iconst (n := 0) hx hb dL_law_1312 ?_
    refine x_lald hx hb hK hH (h96 c0) dL_law_1313 ?_
    refine lv_iload hx hb dL_law_1314 (lv_at hl 0 rfl) ?_
    rcases hb01 c0 with e9 | e9
    · subst e9
      refine x_if_eq (tgt := 1323) hx hb dL_law_1316 (by decide) (by decide) (fun _ => ?_) (fun c9 => absurd rfl c9)
      refine lv_lconst (v := (iZ 0).toInt64) hx hb dL_law_1323 (by decide +kernel) ?_
      refine W.lcmp hx hb dL_law_1324 ?_
      refine lv_if_eq (tgt := 1330) hx hb dL_law_1325 (by decide) (fun _ => ?_) (fun c9 => absurd ((lg_cmp_eq _ _).mpr rfl) c9)
      refine lv_goto (tgt := 2984) hx hb dL_law_1330 (by decide) ?_
      exact W.widen (by simp only [rm_L_canShiftColumn, rm_X7_canShiftColumn, rm_X7_thrown]; omega) (by simp only [rm_L_canShiftColumn, rm_X7_canShiftColumn, rm_X7_thrown]; omega) (kk t H locs ls ⟨k, hkr, hT⟩ hH (lv_sub hl [2, 3, 4, 5, 6, 7] rfl))
    · subst e9
      refine x_if_eq (tgt := 1323) hx hb dL_law_1316 (by decide) (by decide) (fun c9 => absurd c9 (by decide)) (fun _ => ?_)
      refine lv_lconst (v := (iZ 1).toInt64) hx hb dL_law_1319 (by decide +kernel) ?_
      refine lv_goto (tgt := 1324) hx hb dL_law_1320 (by decide) ?_
      refine W.lcmp hx hb dL_law_1324 ?_
      refine lv_if_eq (tgt := 1330) hx hb dL_law_1325 (by decide) (fun _ => ?_) (fun c9 => absurd ((lg_cmp_eq _ _).mpr rfl) c9)
      refine lv_goto (tgt := 2984) hx hb dL_law_1330 (by decide) ?_
      exact W.widen (by simp only [rm_L_canShiftColumn, rm_X7_canShiftColumn, rm_X7_thrown]; omega) (by simp only [rm_L_canShiftColumn, rm_X7_canShiftColumn, rm_X7_thrown]; omega) (kk t H locs ls ⟨k, hkr, hT⟩ hH (lv_sub hl [2, 3, 4, 5, 6, 7] rfl))
set_option maxRecDepth 100000 in
set_option maxHeartbeats 4000000 in
theorem lc_15 {p : Program} {l : Launch} {e : Env} {s : State} {m : MethodId} {below : List Frame} {meth : Method} {c : Code} {Q : State → Prop} {E : xE} {ST : xST} {Z : zE} {b L : Nat} {xs : Nat → Int32} (G : LX l E ST Z p s m meth c b L xs) {n : Nat} (hn : 4 * n + 4 ≤ L) {σ : xW} {H : Heap} {locs : List Loc} {ls : Array Slot} (hI : INV (n : Int) E σ) (hH : Hx E (fun q => s.heap.size ≤ q) s.heap σ H locs) (hl : lv_has ls 10 [(5, .int (iZ (4 * (n : Int)))), (0, .ref b), (1, .ref (xad E 0)), (2, .ref (xad E 85)), (3, .ref (xad E 96)), (4, .ref (xad E 97))])
    (kk : ∀ (σ1 : xW) (H1 : Heap) (locs1 : List Loc) (ls1 : Array Slot), INV ((n : Int) + 1) E σ1 → Hx E (fun q => s.heap.size ≤ q) s.heap σ1 H1 locs1 → lv_has ls1 10 [(5, .int (iZ (4 * (n : Int)))), (0, .ref b), (1, .ref (xad E 0)), (2, .ref (xad E 85)), (3, .ref (xad E 96)), (4, .ref (xad E 97))] → W p l e room_1 s m #[Value.ref b] below meth c H1 locs1 (100 + 10 * (n + 1)) (3000 + 100 * (n + 1)) Q (F0 m 2984 ls1 [])) : W p l e room_1 s m #[Value.ref b] below meth c H locs (100 + 10 * n) (3000 + 100 * n) Q (F0 m 1333 ls []) := by
  obtain ⟨hx, hb, hml, hown, hts, hK, hST, hSF, hSX, hSQ, htr, hX, hbl, hlocks, hr, hL⟩ := G
  have hOK := hSF.1
  have hn6 : (0 : Int) ≤ (n : Int) ∧ (n : Int) ≤ 600 := by omega
  obtain ⟨p0, e0⟩ : ∃ y : Int, y = (xs (4 * (n : Int) + 1).toNat).toInt := ⟨_, rfl⟩
  have r0 : rg p0 := by rw [e0]; exact iZ_rg _
  obtain ⟨p1, e1⟩ : ∃ y : Int, y = (xs (4 * (n : Int) + 2).toNat).toInt := ⟨_, rfl⟩
  have r1 : rg p1 := by rw [e1]; exact iZ_rg _
  obtain ⟨P, hP, hPQ⟩ := s_hasLock l E ST hSF hSX htr hn6 hI p0 p1 r0 r1
  refine lv_aload_n hx hb dL_law_1333 rfl (lv_at hl 2 rfl) ?_
  refine lv_aload_n hx hb dL_law_1334 rfl (lv_at hl 1 rfl) ?_
  refine lv_iload hx hb dL_law_1335 (lv_at hl 0 rfl) ?_
  refine x_iconst (n := 1) hx hb dL_law_1337 ?_
  refine x_iadd hx hb dL_law_1338 ?_
  refine x_scr hx hb hX hbl hH (by omega) (by omega) hL e0 dL_law_1339 ?_
  refine lv_aload_n hx hb dL_law_1340 rfl (lv_at hl 1 rfl) ?_
  refine lv_iload hx hb dL_law_1341 (lv_at hl 0 rfl) ?_
  refine x_iconst (n := 2) hx hb dL_law_1343 ?_
  refine x_iadd hx hb dL_law_1344 ?_
  refine x_scr hx hb hX hbl hH (by omega) (by omega) hL e1 dL_law_1345 ?_
  refine lv_aload_n hx hb dL_law_1346 rfl (lv_at hl 4 rfl) ?_
  refine x_cSW (As := [.ref (xad E 0), .int (iZ p0), .int (iZ p1), .ref (xad E 96)]) (rest := []) hx hb hml hts hown hK hST hOK hH hP (vx_cwSW 4 hts gL_law_L_hasLock rfl rfl rfl (by decide +kernel) ⟨Nat.le_of_ble_eq_true rfl, Nat.le_of_ble_eq_true rfl⟩) rfl hl.1 rfl (Nat.le_of_ble_eq_true rfl) dL_law_1347 ⟨by simp only [rm_L_hasLock, room_1]; omega, by simp only [rm_L_hasLock, room_1]; omega⟩ (fun k u H locs hp hH => ?_)
  obtain ⟨⟨fs, h85⟩, Q2, hQ2, hfin⟩ := hPQ k u hp
  refine lv_istore (lv' := [(6, .int (iZ k)), (5, .int (iZ (4 * (n : Int)))), (0, .ref b), (1, .ref (xad E 0)), (2, .ref (xad E 85)), (3, .ref (xad E 96)), (4, .ref (xad E 97))]) hx hb dL_law_1350 hl (by decide) rfl (fun ls hl => ?_)
  refine lv_aload_n hx hb dL_law_1352 rfl (lv_at hl 4 rfl) ?_
  refine lv_aload_n hx hb dL_law_1353 rfl (lv_at hl 2 rfl) ?_
  refine lv_iload hx hb dL_law_1354 (lv_at hl 1 rfl) ?_
  refine x_iconst (n := 1) hx hb dL_law_1356 ?_
  refine x_iadd hx hb dL_law_1357 ?_
  refine x_scr hx hb hX hbl hH (by omega) (by omega) hL e0 dL_law_1358 ?_
  refine lv_aload_n hx hb dL_law_1359 rfl (lv_at hl 2 rfl) ?_
  refine lv_iload hx hb dL_law_1360 (lv_at hl 1 rfl) ?_
  refine x_iconst (n := 2) hx hb dL_law_1362 ?_
  refine x_iadd hx hb dL_law_1363 ?_
  refine x_scr hx hb hX hbl hH (by omega) (by omega) hL e1 dL_law_1364 ?_
  refine x_cVI (As := [.int (iZ p0), .int (iZ p1)]) (rest := []) hx hb hml hts hown hK hST hOK hH 85 hQ2 (cwV 2 hts gL_law_X7_hasLock rfl rfl rfl (by decide +kernel) ⟨Nat.le_of_ble_eq_true rfl, Nat.le_of_ble_eq_true rfl⟩) (by decide) h85 rfl rfl hl.1 rfl (Nat.le_of_ble_eq_true rfl) dL_law_1365 ⟨by simp only [rm_L_hasLock, rm_X7_hasLock, room_1]; omega, by simp only [rm_L_hasLock, rm_X7_hasLock, room_1]; omega⟩ (fun z t H locs hq hH => ?_)
  obtain ⟨⟨hT, hkr, h96⟩, hb01⟩ := hfin z t hq
  refine lv_istore (lv' := [(7, .int (iZ z)), (6, .int (iZ k)), (5, .int (iZ (4 * (n : Int)))), (0, .ref b), (1, .ref (xad E 0)), (2, .ref (xad E 85)), (3, .ref (xad E 96)), (4, .ref (xad E 97))]) hx hb dL_law_1368 hl (by decide) rfl (fun ls hl => ?_)
  obtain ⟨sv, re, ea, fa, ty, li, sz, sp, wr, to, hmo⟩ := hT.mo
  have h85t : t 85 = oB 5 _ := hmo
  refine lv_aload_n hx hb dL_law_1370 rfl (lv_at hl 5 rfl) ?_
  refine x_cVID (z0 := k) (As := []) (rest := []) hx hb hml hts hown hK hST hOK hH 85 (c_X7_thrown l E ST hSF t sv re ea fa ty li k sz sp wr to hmo) (cwV 0 hts gL_law_X7_thrown rfl rfl rfl (by decide +kernel) ⟨Nat.le_of_ble_eq_true rfl, Nat.le_of_ble_eq_true rfl⟩) (by decide) h85t rfl rfl hl.1 rfl (Nat.le_of_ble_eq_true rfl) dL_law_1371 ⟨by simp only [rm_L_hasLock, rm_X7_hasLock, rm_X7_thrown, room_1]; omega, by simp only [rm_L_hasLock, rm_X7_hasLock, rm_X7_thrown, room_1]; omega⟩ (fun z u h => h) (fun H locs hH => ?_)
  refine lv_iload hx hb dL_law_1374 (lv_at hl 1 rfl) ?_
  refine lv_icmp_eq (tgt := 1381) hx hb dL_law_1376 (by decide) (fun _ => ?_) (fun c9 => absurd rfl c9)
  refine lv_iload hx hb dL_law_1381 (lv_at hl 1 rfl) ?_
  refine x_if_ne (tgt := 1405) hx hb dL_law_1383 (by decide) hkr (fun c0 => ?_) (fun c0 => ?_)
  · refine lv_goto (tgt := 2984) hx hb dL_law_1405 (by decide) ?_
    exact W.widen (by simp only [rm_L_hasLock, rm_X7_hasLock, rm_X7_thrown]; omega) (by simp only [rm_L_hasLock, rm_X7_hasLock, rm_X7_thrown]; omega) (kk t H locs ls ⟨k, hkr, hT⟩ hH (lv_sub hl [2, 3, 4, 5, 6, 7] rfl))
  · refine lv_aload_n hx hb dL_law_1386 rfl (lv_at hl 6 rfl) ?_
    refine x_iconst (n := 0) hx hb dL_law_1387 ?_
    refine x_lald hx hb hK hH (h96 c0) dL_law_1388 ?_
    refine lv_iload hx hb dL_law_1389 (lv_at hl 0 rfl) ?_
    rcases hb01 c0 with e9 | e9
    · subst e9
      refine x_if_eq (tgt := 1398) hx hb dL_law_1391 (by decide) (by decide) (fun _ => ?_) (fun c9 => absurd rfl c9)
      refine lv_lconst (v := (iZ 0).toInt64) hx hb dL_law_1398 (by decide +kernel) ?_
      refine W.lcmp hx hb dL_law_1399 ?_
      refine lv_if_eq (tgt := 1405) hx hb dL_law_1400 (by decide) (fun _ => ?_) (fun c9 => absurd ((lg_cmp_eq _ _).mpr rfl) c9)
      refine lv_goto (tgt := 2984) hx hb dL_law_1405 (by decide) ?_
      exact W.widen (by simp only [rm_L_hasLock, rm_X7_hasLock, rm_X7_thrown]; omega) (by simp only [rm_L_hasLock, rm_X7_hasLock, rm_X7_thrown]; omega) (kk t H locs ls ⟨k, hkr, hT⟩ hH (lv_sub hl [2, 3, 4, 5, 6, 7] rfl))
    · subst e9
      refine x_if_eq (tgt := 1398) hx hb dL_law_1391 (by decide) (by decide) (fun c9 => absurd c9 (by decide)) (fun _ => ?_)
      refine lv_lconst (v := (iZ 1).toInt64) hx hb dL_law_1394 (by decide +kernel) ?_
      refine lv_goto (tgt := 1399) hx hb dL_law_1395 (by decide) ?_
      refine W.lcmp hx hb dL_law_1399 ?_
      refine lv_if_eq (tgt := 1405) hx hb dL_law_1400 (by decide) (fun _ => ?_) (fun c9 => absurd ((lg_cmp_eq _ _).mpr rfl) c9)
      refine lv_goto (tgt := 2984) hx hb dL_law_1405 (by decide) ?_
      exact W.widen (by simp only [rm_L_hasLock, rm_X7_hasLock, rm_X7_thrown]; omega) (by simp only [rm_L_hasLock, rm_X7_hasLock, rm_X7_thrown]; omega) (kk t H locs ls ⟨k, hkr, hT⟩ hH (lv_sub hl [2, 3, 4, 5, 6, 7] rfl))
set_option maxRecDepth 100000 in
set_option maxHeartbeats 4000000 in
theorem lc_16 {p : Program} {l : Launch} {e : Env} {s : State} {m : MethodId} {below : List Frame} {meth : Method} {c : Code} {Q : State → Prop} {E : xE} {ST : xST} {Z : zE} {b L : Nat} {xs : Nat → Int32} (G : LX l E ST Z p s m meth c b L xs) {n : Nat} (hn : 4 * n + 4 ≤ L) {σ : xW} {H : Heap} {locs : List Loc} {ls : Array Slot} (hI : INV (n : Int) E σ) (hH : Hx E (fun q => s.heap.size ≤ q) s.heap σ H locs) (hl : lv_has ls 10 [(5, .int (iZ (4 * (n : Int)))), (0, .ref b), (1, .ref (xad E 0)), (2, .ref (xad E 85)), (3, .ref (xad E 96)), (4, .ref (xad E 97))])
    (kk : ∀ (σ1 : xW) (H1 : Heap) (locs1 : List Loc) (ls1 : Array Slot), INV ((n : Int) + 1) E σ1 → Hx E (fun q => s.heap.size ≤ q) s.heap σ1 H1 locs1 → lv_has ls1 10 [(5, .int (iZ (4 * (n : Int)))), (0, .ref b), (1, .ref (xad E 0)), (2, .ref (xad E 85)), (3, .ref (xad E 96)), (4, .ref (xad E 97))] → W p l e room_1 s m #[Value.ref b] below meth c H1 locs1 (100 + 10 * (n + 1)) (3000 + 100 * (n + 1)) Q (F0 m 2984 ls1 [])) : W p l e room_1 s m #[Value.ref b] below meth c H locs (100 + 10 * n) (3000 + 100 * n) Q (F0 m 1408 ls []) := by
  obtain ⟨hx, hb, hml, hown, hts, hK, hST, hSF, hSX, hSQ, htr, hX, hbl, hlocks, hr, hL⟩ := G
  have hOK := hSF.1
  have hn6 : (0 : Int) ≤ (n : Int) ∧ (n : Int) ≤ 600 := by omega
  obtain ⟨p0, e0⟩ : ∃ y : Int, y = (xs (4 * (n : Int) + 1).toNat).toInt := ⟨_, rfl⟩
  have r0 : rg p0 := by rw [e0]; exact iZ_rg _
  obtain ⟨p1, e1⟩ : ∃ y : Int, y = (xs (4 * (n : Int) + 2).toNat).toInt := ⟨_, rfl⟩
  have r1 : rg p1 := by rw [e1]; exact iZ_rg _
  obtain ⟨P, hP, hPQ⟩ := s_lockAt l E ST hSF hSX htr hn6 hI p0 p1 r0 r1
  refine lv_aload_n hx hb dL_law_1408 rfl (lv_at hl 2 rfl) ?_
  refine lv_aload_n hx hb dL_law_1409 rfl (lv_at hl 1 rfl) ?_
  refine lv_iload hx hb dL_law_1410 (lv_at hl 0 rfl) ?_
  refine x_iconst (n := 1) hx hb dL_law_1412 ?_
  refine x_iadd hx hb dL_law_1413 ?_
  refine x_scr hx hb hX hbl hH (by omega) (by omega) hL e0 dL_law_1414 ?_
  refine lv_aload_n hx hb dL_law_1415 rfl (lv_at hl 1 rfl) ?_
  refine lv_iload hx hb dL_law_1416 (lv_at hl 0 rfl) ?_
  refine x_iconst (n := 2) hx hb dL_law_1418 ?_
  refine x_iadd hx hb dL_law_1419 ?_
  refine x_scr hx hb hX hbl hH (by omega) (by omega) hL e1 dL_law_1420 ?_
  refine lv_aload_n hx hb dL_law_1421 rfl (lv_at hl 4 rfl) ?_
  refine x_cSW (As := [.ref (xad E 0), .int (iZ p0), .int (iZ p1), .ref (xad E 96)]) (rest := []) hx hb hml hts hown hK hST hOK hH hP (vx_cwSW 4 hts gL_law_L_lockAt rfl rfl rfl (by decide +kernel) ⟨Nat.le_of_ble_eq_true rfl, Nat.le_of_ble_eq_true rfl⟩) rfl hl.1 rfl (Nat.le_of_ble_eq_true rfl) dL_law_1422 ⟨by simp only [rm_L_lockAt, room_1]; omega, by simp only [rm_L_lockAt, room_1]; omega⟩ (fun k u H locs hp hH => ?_)
  obtain ⟨⟨fs, h85⟩, Q2, hQ2, hfin⟩ := hPQ k u hp
  refine lv_istore (lv' := [(6, .int (iZ k)), (5, .int (iZ (4 * (n : Int)))), (0, .ref b), (1, .ref (xad E 0)), (2, .ref (xad E 85)), (3, .ref (xad E 96)), (4, .ref (xad E 97))]) hx hb dL_law_1425 hl (by decide) rfl (fun ls hl => ?_)
  refine lv_aload_n hx hb dL_law_1427 rfl (lv_at hl 4 rfl) ?_
  refine lv_aload_n hx hb dL_law_1428 rfl (lv_at hl 2 rfl) ?_
  refine lv_iload hx hb dL_law_1429 (lv_at hl 1 rfl) ?_
  refine x_iconst (n := 1) hx hb dL_law_1431 ?_
  refine x_iadd hx hb dL_law_1432 ?_
  refine x_scr hx hb hX hbl hH (by omega) (by omega) hL e0 dL_law_1433 ?_
  refine lv_aload_n hx hb dL_law_1434 rfl (lv_at hl 2 rfl) ?_
  refine lv_iload hx hb dL_law_1435 (lv_at hl 1 rfl) ?_
  refine x_iconst (n := 2) hx hb dL_law_1437 ?_
  refine x_iadd hx hb dL_law_1438 ?_
  refine x_scr hx hb hX hbl hH (by omega) (by omega) hL e1 dL_law_1439 ?_
  refine x_cVI (As := [.int (iZ p0), .int (iZ p1)]) (rest := []) hx hb hml hts hown hK hST hOK hH 85 hQ2 (cwV 2 hts gL_law_X7_lockAt rfl rfl rfl (by decide +kernel) ⟨Nat.le_of_ble_eq_true rfl, Nat.le_of_ble_eq_true rfl⟩) (by decide) h85 rfl rfl hl.1 rfl (Nat.le_of_ble_eq_true rfl) dL_law_1440 ⟨by simp only [rm_L_lockAt, rm_X7_lockAt, room_1]; omega, by simp only [rm_L_lockAt, rm_X7_lockAt, room_1]; omega⟩ (fun z t H locs hq hH => ?_)
  obtain ⟨hT, hkr, h96⟩ := hfin z t hq
  refine lv_istore (lv' := [(7, .int (iZ z)), (6, .int (iZ k)), (5, .int (iZ (4 * (n : Int)))), (0, .ref b), (1, .ref (xad E 0)), (2, .ref (xad E 85)), (3, .ref (xad E 96)), (4, .ref (xad E 97))]) hx hb dL_law_1443 hl (by decide) rfl (fun ls hl => ?_)
  obtain ⟨sv, re, ea, fa, ty, li, sz, sp, wr, to, hmo⟩ := hT.mo
  have h85t : t 85 = oB 5 _ := hmo
  refine lv_aload_n hx hb dL_law_1445 rfl (lv_at hl 5 rfl) ?_
  refine x_cVID (z0 := k) (As := []) (rest := []) hx hb hml hts hown hK hST hOK hH 85 (c_X7_thrown l E ST hSF t sv re ea fa ty li k sz sp wr to hmo) (cwV 0 hts gL_law_X7_thrown rfl rfl rfl (by decide +kernel) ⟨Nat.le_of_ble_eq_true rfl, Nat.le_of_ble_eq_true rfl⟩) (by decide) h85t rfl rfl hl.1 rfl (Nat.le_of_ble_eq_true rfl) dL_law_1446 ⟨by simp only [rm_L_lockAt, rm_X7_lockAt, rm_X7_thrown, room_1]; omega, by simp only [rm_L_lockAt, rm_X7_lockAt, rm_X7_thrown, room_1]; omega⟩ (fun z u h => h) (fun H locs hH => ?_)
  refine lv_iload hx hb dL_law_1449 (lv_at hl 1 rfl) ?_
  refine lv_icmp_eq (tgt := 1456) hx hb dL_law_1451 (by decide) (fun _ => ?_) (fun c9 => absurd rfl c9)
  refine lv_iload hx hb dL_law_1456 (lv_at hl 1 rfl) ?_
  refine x_if_ne (tgt := 1473) hx hb dL_law_1458 (by decide) hkr (fun c0 => ?_) (fun c0 => ?_)
  · refine lv_goto (tgt := 2984) hx hb dL_law_1473 (by decide) ?_
    exact W.widen (by simp only [rm_L_lockAt, rm_X7_lockAt, rm_X7_thrown]; omega) (by simp only [rm_L_lockAt, rm_X7_lockAt, rm_X7_thrown]; omega) (kk t H locs ls ⟨k, hkr, hT⟩ hH (lv_sub hl [2, 3, 4, 5, 6, 7] rfl))
  · refine lv_aload_n hx hb dL_law_1461 rfl (lv_at hl 6 rfl) ?_
    refine x_iconst (n := 0) hx hb dL_law_1462 ?_
    refine x_lald hx hb hK hH (h96 c0) dL_law_1463 ?_
    refine lv_iload hx hb dL_law_1464 (lv_at hl 0 rfl) ?_
    refine lv_i2l (v := (iZ z).toInt64) hx hb dL_law_1466 rfl ?_
    refine W.lcmp hx hb dL_law_1467 ?_
    refine lv_if_eq (tgt := 1473) hx hb dL_law_1468 (by decide) (fun _ => ?_) (fun c9 => absurd ((lg_cmp_eq _ _).mpr rfl) c9)
    refine lv_goto (tgt := 2984) hx hb dL_law_1473 (by decide) ?_
    exact W.widen (by simp only [rm_L_lockAt, rm_X7_lockAt, rm_X7_thrown]; omega) (by simp only [rm_L_lockAt, rm_X7_lockAt, rm_X7_thrown]; omega) (kk t H locs ls ⟨k, hkr, hT⟩ hH (lv_sub hl [2, 3, 4, 5, 6, 7] rfl))
set_option maxRecDepth 100000 in
set_option maxHeartbeats 4000000 in
theorem lc_17 {p : Program} {l : Launch} {e : Env} {s : State} {m : MethodId} {below : List Frame} {meth : Method} {c : Code} {Q : State → Prop} {E : xE} {ST : xST} {Z : zE} {b L : Nat} {xs : Nat → Int32} (G : LX l E ST Z p s m meth c b L xs) {n : Nat} (hn : 4 * n + 4 ≤ L) {σ : xW} {H : Heap} {locs : List Loc} {ls : Array Slot} (hI : INV (n : Int) E σ) (hH : Hx E (fun q => s.heap.size ≤ q) s.heap σ H locs) (hl : lv_has ls 10 [(5, .int (iZ (4 * (n : Int)))), (0, .ref b), (1, .ref (xad E 0)), (2, .ref (xad E 85)), (3, .ref (xad E 96)), (4, .ref (xad E 97))])
    (kk : ∀ (σ1 : xW) (H1 : Heap) (locs1 : List Loc) (ls1 : Array Slot), INV ((n : Int) + 1) E σ1 → Hx E (fun q => s.heap.size ≤ q) s.heap σ1 H1 locs1 → lv_has ls1 10 [(5, .int (iZ (4 * (n : Int)))), (0, .ref b), (1, .ref (xad E 0)), (2, .ref (xad E 85)), (3, .ref (xad E 96)), (4, .ref (xad E 97))] → W p l e room_1 s m #[Value.ref b] below meth c H1 locs1 (100 + 10 * (n + 1)) (3000 + 100 * (n + 1)) Q (F0 m 2984 ls1 [])) : W p l e room_1 s m #[Value.ref b] below meth c H locs (100 + 10 * n) (3000 + 100 * n) Q (F0 m 1476 ls []) := by
  obtain ⟨hx, hb, hml, hown, hts, hK, hST, hSF, hSX, hSQ, htr, hX, hbl, hlocks, hr, hL⟩ := G
  have hOK := hSF.1
  have hn6 : (0 : Int) ≤ (n : Int) ∧ (n : Int) ≤ 600 := by omega
  obtain ⟨p0, e0⟩ : ∃ y : Int, y = (xs (4 * (n : Int) + 1).toNat).toInt := ⟨_, rfl⟩
  have r0 : rg p0 := by rw [e0]; exact iZ_rg _
  obtain ⟨p1, e1⟩ : ∃ y : Int, y = (xs (4 * (n : Int) + 2).toNat).toInt := ⟨_, rfl⟩
  have r1 : rg p1 := by rw [e1]; exact iZ_rg _
  obtain ⟨P, hP, hPQ⟩ := s_keysAt l E ST hSF hSX htr hn6 hI p0 p1 r0 r1
  refine lv_aload_n hx hb dL_law_1476 rfl (lv_at hl 2 rfl) ?_
  refine lv_aload_n hx hb dL_law_1477 rfl (lv_at hl 1 rfl) ?_
  refine lv_iload hx hb dL_law_1478 (lv_at hl 0 rfl) ?_
  refine x_iconst (n := 1) hx hb dL_law_1480 ?_
  refine x_iadd hx hb dL_law_1481 ?_
  refine x_scr hx hb hX hbl hH (by omega) (by omega) hL e0 dL_law_1482 ?_
  refine lv_aload_n hx hb dL_law_1483 rfl (lv_at hl 1 rfl) ?_
  refine lv_iload hx hb dL_law_1484 (lv_at hl 0 rfl) ?_
  refine x_iconst (n := 2) hx hb dL_law_1486 ?_
  refine x_iadd hx hb dL_law_1487 ?_
  refine x_scr hx hb hX hbl hH (by omega) (by omega) hL e1 dL_law_1488 ?_
  refine lv_aload_n hx hb dL_law_1489 rfl (lv_at hl 4 rfl) ?_
  refine x_cSW (As := [.ref (xad E 0), .int (iZ p0), .int (iZ p1), .ref (xad E 96)]) (rest := []) hx hb hml hts hown hK hST hOK hH hP (vx_cwSW 4 hts gL_law_L_keysAt rfl rfl rfl (by decide +kernel) ⟨Nat.le_of_ble_eq_true rfl, Nat.le_of_ble_eq_true rfl⟩) rfl hl.1 rfl (Nat.le_of_ble_eq_true rfl) dL_law_1490 ⟨by simp only [rm_L_keysAt, room_1]; omega, by simp only [rm_L_keysAt, room_1]; omega⟩ (fun k u H locs hp hH => ?_)
  obtain ⟨⟨fs, h85⟩, Q2, hQ2, hfin⟩ := hPQ k u hp
  refine lv_istore (lv' := [(6, .int (iZ k)), (5, .int (iZ (4 * (n : Int)))), (0, .ref b), (1, .ref (xad E 0)), (2, .ref (xad E 85)), (3, .ref (xad E 96)), (4, .ref (xad E 97))]) hx hb dL_law_1493 hl (by decide) rfl (fun ls hl => ?_)
  refine lv_aload_n hx hb dL_law_1495 rfl (lv_at hl 4 rfl) ?_
  refine lv_aload_n hx hb dL_law_1496 rfl (lv_at hl 2 rfl) ?_
  refine lv_iload hx hb dL_law_1497 (lv_at hl 1 rfl) ?_
  refine x_iconst (n := 1) hx hb dL_law_1499 ?_
  refine x_iadd hx hb dL_law_1500 ?_
  refine x_scr hx hb hX hbl hH (by omega) (by omega) hL e0 dL_law_1501 ?_
  refine lv_aload_n hx hb dL_law_1502 rfl (lv_at hl 2 rfl) ?_
  refine lv_iload hx hb dL_law_1503 (lv_at hl 1 rfl) ?_
  refine x_iconst (n := 2) hx hb dL_law_1505 ?_
  refine x_iadd hx hb dL_law_1506 ?_
  refine x_scr hx hb hX hbl hH (by omega) (by omega) hL e1 dL_law_1507 ?_
  refine x_cVI (As := [.int (iZ p0), .int (iZ p1)]) (rest := []) hx hb hml hts hown hK hST hOK hH 85 hQ2 (cwV 2 hts gL_law_X7_keysAt rfl rfl rfl (by decide +kernel) ⟨Nat.le_of_ble_eq_true rfl, Nat.le_of_ble_eq_true rfl⟩) (by decide) h85 rfl rfl hl.1 rfl (Nat.le_of_ble_eq_true rfl) dL_law_1508 ⟨by simp only [rm_L_keysAt, rm_X7_keysAt, room_1]; omega, by simp only [rm_L_keysAt, rm_X7_keysAt, room_1]; omega⟩ (fun z t H locs hq hH => ?_)
  obtain ⟨hT, hkr, h96⟩ := hfin z t hq
  refine lv_istore (lv' := [(7, .int (iZ z)), (6, .int (iZ k)), (5, .int (iZ (4 * (n : Int)))), (0, .ref b), (1, .ref (xad E 0)), (2, .ref (xad E 85)), (3, .ref (xad E 96)), (4, .ref (xad E 97))]) hx hb dL_law_1511 hl (by decide) rfl (fun ls hl => ?_)
  obtain ⟨sv, re, ea, fa, ty, li, sz, sp, wr, to, hmo⟩ := hT.mo
  have h85t : t 85 = oB 5 _ := hmo
  refine lv_aload_n hx hb dL_law_1513 rfl (lv_at hl 5 rfl) ?_
  refine x_cVID (z0 := k) (As := []) (rest := []) hx hb hml hts hown hK hST hOK hH 85 (c_X7_thrown l E ST hSF t sv re ea fa ty li k sz sp wr to hmo) (cwV 0 hts gL_law_X7_thrown rfl rfl rfl (by decide +kernel) ⟨Nat.le_of_ble_eq_true rfl, Nat.le_of_ble_eq_true rfl⟩) (by decide) h85t rfl rfl hl.1 rfl (Nat.le_of_ble_eq_true rfl) dL_law_1514 ⟨by simp only [rm_L_keysAt, rm_X7_keysAt, rm_X7_thrown, room_1]; omega, by simp only [rm_L_keysAt, rm_X7_keysAt, rm_X7_thrown, room_1]; omega⟩ (fun z u h => h) (fun H locs hH => ?_)
  refine lv_iload hx hb dL_law_1517 (lv_at hl 1 rfl) ?_
  refine lv_icmp_eq (tgt := 1524) hx hb dL_law_1519 (by decide) (fun _ => ?_) (fun c9 => absurd rfl c9)
  refine lv_iload hx hb dL_law_1524 (lv_at hl 1 rfl) ?_
  refine x_if_ne (tgt := 1541) hx hb dL_law_1526 (by decide) hkr (fun c0 => ?_) (fun c0 => ?_)
  · refine lv_goto (tgt := 2984) hx hb dL_law_1541 (by decide) ?_
    exact W.widen (by simp only [rm_L_keysAt, rm_X7_keysAt, rm_X7_thrown]; omega) (by simp only [rm_L_keysAt, rm_X7_keysAt, rm_X7_thrown]; omega) (kk t H locs ls ⟨k, hkr, hT⟩ hH (lv_sub hl [2, 3, 4, 5, 6, 7] rfl))
  · refine lv_aload_n hx hb dL_law_1529 rfl (lv_at hl 6 rfl) ?_
    refine x_iconst (n := 0) hx hb dL_law_1530 ?_
    refine x_lald hx hb hK hH (h96 c0) dL_law_1531 ?_
    refine lv_iload hx hb dL_law_1532 (lv_at hl 0 rfl) ?_
    refine lv_i2l (v := (iZ z).toInt64) hx hb dL_law_1534 rfl ?_
    refine W.lcmp hx hb dL_law_1535 ?_
    refine lv_if_eq (tgt := 1541) hx hb dL_law_1536 (by decide) (fun _ => ?_) (fun c9 => absurd ((lg_cmp_eq _ _).mpr rfl) c9)
    refine lv_goto (tgt := 2984) hx hb dL_law_1541 (by decide) ?_
    exact W.widen (by simp only [rm_L_keysAt, rm_X7_keysAt, rm_X7_thrown]; omega) (by simp only [rm_L_keysAt, rm_X7_keysAt, rm_X7_thrown]; omega) (kk t H locs ls ⟨k, hkr, hT⟩ hH (lv_sub hl [2, 3, 4, 5, 6, 7] rfl))
set_option maxRecDepth 100000 in
set_option maxHeartbeats 4000000 in
theorem lc_18 {p : Program} {l : Launch} {e : Env} {s : State} {m : MethodId} {below : List Frame} {meth : Method} {c : Code} {Q : State → Prop} {E : xE} {ST : xST} {Z : zE} {b L : Nat} {xs : Nat → Int32} (G : LX l E ST Z p s m meth c b L xs) {n : Nat} (hn : 4 * n + 4 ≤ L) {σ : xW} {H : Heap} {locs : List Loc} {ls : Array Slot} (hI : INV (n : Int) E σ) (hH : Hx E (fun q => s.heap.size ≤ q) s.heap σ H locs) (hl : lv_has ls 10 [(5, .int (iZ (4 * (n : Int)))), (0, .ref b), (1, .ref (xad E 0)), (2, .ref (xad E 85)), (3, .ref (xad E 96)), (4, .ref (xad E 97))])
    (kk : ∀ (σ1 : xW) (H1 : Heap) (locs1 : List Loc) (ls1 : Array Slot), INV ((n : Int) + 1) E σ1 → Hx E (fun q => s.heap.size ≤ q) s.heap σ1 H1 locs1 → lv_has ls1 10 [(5, .int (iZ (4 * (n : Int)))), (0, .ref b), (1, .ref (xad E 0)), (2, .ref (xad E 85)), (3, .ref (xad E 96)), (4, .ref (xad E 97))] → W p l e room_1 s m #[Value.ref b] below meth c H1 locs1 (100 + 10 * (n + 1)) (3000 + 100 * (n + 1)) Q (F0 m 2984 ls1 [])) : W p l e room_1 s m #[Value.ref b] below meth c H locs (100 + 10 * n) (3000 + 100 * n) Q (F0 m 1544 ls []) := by
  obtain ⟨hx, hb, hml, hown, hts, hK, hST, hSF, hSX, hSQ, htr, hX, hbl, hlocks, hr, hL⟩ := G
  have hOK := hSF.1
  have hn6 : (0 : Int) ≤ (n : Int) ∧ (n : Int) ≤ 600 := by omega
  obtain ⟨p0, e0⟩ : ∃ y : Int, y = (xs (4 * (n : Int) + 1).toNat).toInt := ⟨_, rfl⟩
  have r0 : rg p0 := by rw [e0]; exact iZ_rg _
  obtain ⟨p1, e1⟩ : ∃ y : Int, y = (xs (4 * (n : Int) + 2).toNat).toInt := ⟨_, rfl⟩
  have r1 : rg p1 := by rw [e1]; exact iZ_rg _
  obtain ⟨p2, e2⟩ : ∃ y : Int, y = (xs (4 * (n : Int) + 3).toNat).toInt := ⟨_, rfl⟩
  have r2 : rg p2 := by rw [e2]; exact iZ_rg _
  obtain ⟨P, hP, hPQ⟩ := s_isConnected l E ST hSF hSX htr hn6 hI p0 p1 p2 r0 r1 r2
  refine lv_aload_n hx hb dL_law_1544 rfl (lv_at hl 2 rfl) ?_
  refine lv_aload_n hx hb dL_law_1545 rfl (lv_at hl 1 rfl) ?_
  refine lv_iload hx hb dL_law_1546 (lv_at hl 0 rfl) ?_
  refine x_iconst (n := 1) hx hb dL_law_1548 ?_
  refine x_iadd hx hb dL_law_1549 ?_
  refine x_scr hx hb hX hbl hH (by omega) (by omega) hL e0 dL_law_1550 ?_
  refine lv_aload_n hx hb dL_law_1551 rfl (lv_at hl 1 rfl) ?_
  refine lv_iload hx hb dL_law_1552 (lv_at hl 0 rfl) ?_
  refine x_iconst (n := 2) hx hb dL_law_1554 ?_
  refine x_iadd hx hb dL_law_1555 ?_
  refine x_scr hx hb hX hbl hH (by omega) (by omega) hL e1 dL_law_1556 ?_
  refine lv_aload_n hx hb dL_law_1557 rfl (lv_at hl 1 rfl) ?_
  refine lv_iload hx hb dL_law_1558 (lv_at hl 0 rfl) ?_
  refine x_iconst (n := 3) hx hb dL_law_1560 ?_
  refine x_iadd hx hb dL_law_1561 ?_
  refine x_scr hx hb hX hbl hH (by omega) (by omega) hL e2 dL_law_1562 ?_
  refine lv_aload_n hx hb dL_law_1563 rfl (lv_at hl 4 rfl) ?_
  refine x_cSW (As := [.ref (xad E 0), .int (iZ p0), .int (iZ p1), .int (iZ p2), .ref (xad E 96)]) (rest := []) hx hb hml hts hown hK hST hOK hH hP (vx_cwSW 5 hts gL_law_L_isConnected rfl rfl rfl (by decide +kernel) ⟨Nat.le_of_ble_eq_true rfl, Nat.le_of_ble_eq_true rfl⟩) rfl hl.1 rfl (Nat.le_of_ble_eq_true rfl) dL_law_1564 ⟨by simp only [rm_L_isConnected, room_1]; omega, by simp only [rm_L_isConnected, room_1]; omega⟩ (fun k u H locs hp hH => ?_)
  obtain ⟨⟨fs, h85⟩, Q2, hQ2, hfin⟩ := hPQ k u hp
  refine lv_istore (lv' := [(6, .int (iZ k)), (5, .int (iZ (4 * (n : Int)))), (0, .ref b), (1, .ref (xad E 0)), (2, .ref (xad E 85)), (3, .ref (xad E 96)), (4, .ref (xad E 97))]) hx hb dL_law_1567 hl (by decide) rfl (fun ls hl => ?_)
  refine lv_aload_n hx hb dL_law_1569 rfl (lv_at hl 4 rfl) ?_
  refine lv_aload_n hx hb dL_law_1570 rfl (lv_at hl 2 rfl) ?_
  refine lv_iload hx hb dL_law_1571 (lv_at hl 1 rfl) ?_
  refine x_iconst (n := 1) hx hb dL_law_1573 ?_
  refine x_iadd hx hb dL_law_1574 ?_
  refine x_scr hx hb hX hbl hH (by omega) (by omega) hL e0 dL_law_1575 ?_
  refine lv_aload_n hx hb dL_law_1576 rfl (lv_at hl 2 rfl) ?_
  refine lv_iload hx hb dL_law_1577 (lv_at hl 1 rfl) ?_
  refine x_iconst (n := 2) hx hb dL_law_1579 ?_
  refine x_iadd hx hb dL_law_1580 ?_
  refine x_scr hx hb hX hbl hH (by omega) (by omega) hL e1 dL_law_1581 ?_
  refine lv_aload_n hx hb dL_law_1582 rfl (lv_at hl 2 rfl) ?_
  refine lv_iload hx hb dL_law_1583 (lv_at hl 1 rfl) ?_
  refine x_iconst (n := 3) hx hb dL_law_1585 ?_
  refine x_iadd hx hb dL_law_1586 ?_
  refine x_scr hx hb hX hbl hH (by omega) (by omega) hL e2 dL_law_1587 ?_
  refine x_cVI (As := [.int (iZ p0), .int (iZ p1), .int (iZ p2)]) (rest := []) hx hb hml hts hown hK hST hOK hH 85 hQ2 (cwV 3 hts gL_law_X7_isConnected rfl rfl rfl (by decide +kernel) ⟨Nat.le_of_ble_eq_true rfl, Nat.le_of_ble_eq_true rfl⟩) (by decide) h85 rfl rfl hl.1 rfl (Nat.le_of_ble_eq_true rfl) dL_law_1588 ⟨by simp only [rm_L_isConnected, rm_X7_isConnected, room_1]; omega, by simp only [rm_L_isConnected, rm_X7_isConnected, room_1]; omega⟩ (fun z t H locs hq hH => ?_)
  obtain ⟨⟨hT, hkr, h96⟩, hb01⟩ := hfin z t hq
  refine lv_istore (lv' := [(7, .int (iZ z)), (6, .int (iZ k)), (5, .int (iZ (4 * (n : Int)))), (0, .ref b), (1, .ref (xad E 0)), (2, .ref (xad E 85)), (3, .ref (xad E 96)), (4, .ref (xad E 97))]) hx hb dL_law_1591 hl (by decide) rfl (fun ls hl => ?_)
  obtain ⟨sv, re, ea, fa, ty, li, sz, sp, wr, to, hmo⟩ := hT.mo
  have h85t : t 85 = oB 5 _ := hmo
  refine lv_aload_n hx hb dL_law_1593 rfl (lv_at hl 5 rfl) ?_
  refine x_cVID (z0 := k) (As := []) (rest := []) hx hb hml hts hown hK hST hOK hH 85 (c_X7_thrown l E ST hSF t sv re ea fa ty li k sz sp wr to hmo) (cwV 0 hts gL_law_X7_thrown rfl rfl rfl (by decide +kernel) ⟨Nat.le_of_ble_eq_true rfl, Nat.le_of_ble_eq_true rfl⟩) (by decide) h85t rfl rfl hl.1 rfl (Nat.le_of_ble_eq_true rfl) dL_law_1594 ⟨by simp only [rm_L_isConnected, rm_X7_isConnected, rm_X7_thrown, room_1]; omega, by simp only [rm_L_isConnected, rm_X7_isConnected, rm_X7_thrown, room_1]; omega⟩ (fun z u h => h) (fun H locs hH => ?_)
  refine lv_iload hx hb dL_law_1597 (lv_at hl 1 rfl) ?_
  refine lv_icmp_eq (tgt := 1604) hx hb dL_law_1599 (by decide) (fun _ => ?_) (fun c9 => absurd rfl c9)
  refine lv_iload hx hb dL_law_1604 (lv_at hl 1 rfl) ?_
  refine x_if_ne (tgt := 1628) hx hb dL_law_1606 (by decide) hkr (fun c0 => ?_) (fun c0 => ?_)
  · refine lv_goto (tgt := 2984) hx hb dL_law_1628 (by decide) ?_
    exact W.widen (by simp only [rm_L_isConnected, rm_X7_isConnected, rm_X7_thrown]; omega) (by simp only [rm_L_isConnected, rm_X7_isConnected, rm_X7_thrown]; omega) (kk t H locs ls ⟨k, hkr, hT⟩ hH (lv_sub hl [2, 3, 4, 5, 6, 7] rfl))
  · refine lv_aload_n hx hb dL_law_1609 rfl (lv_at hl 6 rfl) ?_
    refine x_iconst (n := 0) hx hb dL_law_1610 ?_
    refine x_lald hx hb hK hH (h96 c0) dL_law_1611 ?_
    refine lv_iload hx hb dL_law_1612 (lv_at hl 0 rfl) ?_
    rcases hb01 c0 with e9 | e9
    · subst e9
      refine x_if_eq (tgt := 1621) hx hb dL_law_1614 (by decide) (by decide) (fun _ => ?_) (fun c9 => absurd rfl c9)
      refine lv_lconst (v := (iZ 0).toInt64) hx hb dL_law_1621 (by decide +kernel) ?_
      refine W.lcmp hx hb dL_law_1622 ?_
      refine lv_if_eq (tgt := 1628) hx hb dL_law_1623 (by decide) (fun _ => ?_) (fun c9 => absurd ((lg_cmp_eq _ _).mpr rfl) c9)
      refine lv_goto (tgt := 2984) hx hb dL_law_1628 (by decide) ?_
      exact W.widen (by simp only [rm_L_isConnected, rm_X7_isConnected, rm_X7_thrown]; omega) (by simp only [rm_L_isConnected, rm_X7_isConnected, rm_X7_thrown]; omega) (kk t H locs ls ⟨k, hkr, hT⟩ hH (lv_sub hl [2, 3, 4, 5, 6, 7] rfl))
    · subst e9
      refine x_if_eq (tgt := 1621) hx hb dL_law_1614 (by decide) (by decide) (fun c9 => absurd c9 (by decide)) (fun _ => ?_)
      refine lv_lconst (v := (iZ 1).toInt64) hx hb dL_law_1617 (by decide +kernel) ?_
      refine lv_goto (tgt := 1622) hx hb dL_law_1618 (by decide) ?_
      refine W.lcmp hx hb dL_law_1622 ?_
      refine lv_if_eq (tgt := 1628) hx hb dL_law_1623 (by decide) (fun _ => ?_) (fun c9 => absurd ((lg_cmp_eq _ _).mpr rfl) c9)
      refine lv_goto (tgt := 2984) hx hb dL_law_1628 (by decide) ?_
      exact W.widen (by simp only [rm_L_isConnected, rm_X7_isConnected, rm_X7_thrown]; omega) (by simp only [rm_L_isConnected, rm_X7_isConnected, rm_X7_thrown]; omega) (kk t H locs ls ⟨k, hkr, hT⟩ hH (lv_sub hl [2, 3, 4, 5, 6, 7] rfl))
set_option maxRecDepth 100000 in
set_option maxHeartbeats 4000000 in
theorem lc_19 {p : Program} {l : Launch} {e : Env} {s : State} {m : MethodId} {below : List Frame} {meth : Method} {c : Code} {Q : State → Prop} {E : xE} {ST : xST} {Z : zE} {b L : Nat} {xs : Nat → Int32} (G : LX l E ST Z p s m meth c b L xs) {n : Nat} (hn : 4 * n + 4 ≤ L) {σ : xW} {H : Heap} {locs : List Loc} {ls : Array Slot} (hI : INV (n : Int) E σ) (hH : Hx E (fun q => s.heap.size ≤ q) s.heap σ H locs) (hl : lv_has ls 10 [(5, .int (iZ (4 * (n : Int)))), (0, .ref b), (1, .ref (xad E 0)), (2, .ref (xad E 85)), (3, .ref (xad E 96)), (4, .ref (xad E 97))])
    (kk : ∀ (σ1 : xW) (H1 : Heap) (locs1 : List Loc) (ls1 : Array Slot), INV ((n : Int) + 1) E σ1 → Hx E (fun q => s.heap.size ≤ q) s.heap σ1 H1 locs1 → lv_has ls1 10 [(5, .int (iZ (4 * (n : Int)))), (0, .ref b), (1, .ref (xad E 0)), (2, .ref (xad E 85)), (3, .ref (xad E 96)), (4, .ref (xad E 97))] → W p l e room_1 s m #[Value.ref b] below meth c H1 locs1 (100 + 10 * (n + 1)) (3000 + 100 * (n + 1)) Q (F0 m 2984 ls1 [])) : W p l e room_1 s m #[Value.ref b] below meth c H locs (100 + 10 * n) (3000 + 100 * n) Q (F0 m 1631 ls []) := by
  obtain ⟨hx, hb, hml, hown, hts, hK, hST, hSF, hSX, hSQ, htr, hX, hbl, hlocks, hr, hL⟩ := G
  have hOK := hSF.1
  have hn6 : (0 : Int) ≤ (n : Int) ∧ (n : Int) ≤ 600 := by omega
  obtain ⟨P, hP, hPQ⟩ := s_regionCount l E ST hSF hSX htr hn6 hI
  obtain ⟨fs0, h0⟩ : ∃ fs : List Value, σ 0 = oB 4 fs := by obtain ⟨th9, -, h9⟩ := hI; exact h9.ob.1
  refine lv_aload_n hx hb dL_law_1631 rfl (lv_at hl 2 rfl) ?_
  refine x_cVI (As := []) (rest := []) hx hb hml hts hown hK hST hOK hH 0 hP (cwV 0 hts gL_law_X6_regionCount rfl rfl rfl (by decide +kernel) ⟨Nat.le_of_ble_eq_true rfl, Nat.le_of_ble_eq_true rfl⟩) (by decide) h0 rfl rfl hl.1 rfl (Nat.le_of_ble_eq_true rfl) dL_law_1632 ⟨by simp only [rm_X6_regionCount, room_1]; omega, by simp only [rm_X6_regionCount, room_1]; omega⟩ (fun k u H locs hp hH => ?_)
  obtain ⟨⟨fs, h85⟩, Q2, hQ2, hfin⟩ := hPQ k u hp
  refine lv_aload_n hx hb dL_law_1635 rfl (lv_at hl 3 rfl) ?_
  refine x_cVI (As := []) (rest := [.int (iZ k)]) hx hb hml hts hown hK hST hOK hH 85 hQ2 (cwV 0 hts gL_law_X7_regionCount rfl rfl rfl (by decide +kernel) ⟨Nat.le_of_ble_eq_true rfl, Nat.le_of_ble_eq_true rfl⟩) (by decide) h85 rfl rfl hl.1 rfl (Nat.le_of_ble_eq_true rfl) dL_law_1636 ⟨by simp only [rm_X6_regionCount, rm_X7_regionCount, room_1]; omega, by simp only [rm_X6_regionCount, rm_X7_regionCount, room_1]; omega⟩ (fun z t H locs hq hH => ?_)
  obtain ⟨e9, hI2⟩ := hfin z t hq
  subst e9
  refine lv_icmp_eq (tgt := 2984) hx hb dL_law_1639 (by decide) (fun _ => ?_) (fun c9 => absurd rfl c9)
  exact W.widen (by simp only [rm_X6_regionCount, rm_X7_regionCount]; omega) (by simp only [rm_X6_regionCount, rm_X7_regionCount]; omega) (kk t H locs ls hI2 hH (lv_sub hl [0, 1, 2, 3, 4, 5] rfl))
set_option maxRecDepth 100000 in
set_option maxHeartbeats 4000000 in
theorem lc_20 {p : Program} {l : Launch} {e : Env} {s : State} {m : MethodId} {below : List Frame} {meth : Method} {c : Code} {Q : State → Prop} {E : xE} {ST : xST} {Z : zE} {b L : Nat} {xs : Nat → Int32} (G : LX l E ST Z p s m meth c b L xs) {n : Nat} (hn : 4 * n + 4 ≤ L) {σ : xW} {H : Heap} {locs : List Loc} {ls : Array Slot} (hI : INV (n : Int) E σ) (hH : Hx E (fun q => s.heap.size ≤ q) s.heap σ H locs) (hl : lv_has ls 10 [(5, .int (iZ (4 * (n : Int)))), (0, .ref b), (1, .ref (xad E 0)), (2, .ref (xad E 85)), (3, .ref (xad E 96)), (4, .ref (xad E 97))])
    (kk : ∀ (σ1 : xW) (H1 : Heap) (locs1 : List Loc) (ls1 : Array Slot), INV ((n : Int) + 1) E σ1 → Hx E (fun q => s.heap.size ≤ q) s.heap σ1 H1 locs1 → lv_has ls1 10 [(5, .int (iZ (4 * (n : Int)))), (0, .ref b), (1, .ref (xad E 0)), (2, .ref (xad E 85)), (3, .ref (xad E 96)), (4, .ref (xad E 97))] → W p l e room_1 s m #[Value.ref b] below meth c H1 locs1 (100 + 10 * (n + 1)) (3000 + 100 * (n + 1)) Q (F0 m 2984 ls1 [])) : W p l e room_1 s m #[Value.ref b] below meth c H locs (100 + 10 * n) (3000 + 100 * n) Q (F0 m 1644 ls []) := by
  obtain ⟨hx, hb, hml, hown, hts, hK, hST, hSF, hSX, hSQ, htr, hX, hbl, hlocks, hr, hL⟩ := G
  have hOK := hSF.1
  have hn6 : (0 : Int) ≤ (n : Int) ∧ (n : Int) ≤ 600 := by omega
  obtain ⟨P, hP, hPQ⟩ := s_regionCountByMerging l E ST hSF hSX htr hn6 hI
  obtain ⟨fs0, h0⟩ : ∃ fs : List Value, σ 0 = oB 4 fs := by obtain ⟨th9, -, h9⟩ := hI; exact h9.ob.1
  refine lv_aload_n hx hb dL_law_1644 rfl (lv_at hl 2 rfl) ?_
  refine x_cVI (As := []) (rest := []) hx hb hml hts hown hK hST hOK hH 0 hP (cwV 0 hts gL_law_X6_regionCountByMerging rfl rfl rfl (by decide +kernel) ⟨Nat.le_of_ble_eq_true rfl, Nat.le_of_ble_eq_true rfl⟩) (by decide) h0 rfl rfl hl.1 rfl (Nat.le_of_ble_eq_true rfl) dL_law_1645 ⟨by simp only [rm_X6_regionCountByMerging, room_1]; omega, by simp only [rm_X6_regionCountByMerging, room_1]; omega⟩ (fun k u H locs hp hH => ?_)
  obtain ⟨⟨fs, h85⟩, Q2, hQ2, hfin⟩ := hPQ k u hp
  refine lv_aload_n hx hb dL_law_1648 rfl (lv_at hl 3 rfl) ?_
  refine x_cVI (As := []) (rest := [.int (iZ k)]) hx hb hml hts hown hK hST hOK hH 85 hQ2 (cwV 0 hts gL_law_X7_regionCountByMerging rfl rfl rfl (by decide +kernel) ⟨Nat.le_of_ble_eq_true rfl, Nat.le_of_ble_eq_true rfl⟩) (by decide) h85 rfl rfl hl.1 rfl (Nat.le_of_ble_eq_true rfl) dL_law_1649 ⟨by simp only [rm_X6_regionCountByMerging, rm_X7_regionCountByMerging, room_1]; omega, by simp only [rm_X6_regionCountByMerging, rm_X7_regionCountByMerging, room_1]; omega⟩ (fun z t H locs hq hH => ?_)
  obtain ⟨e9, hI2⟩ := hfin z t hq
  subst e9
  refine lv_icmp_eq (tgt := 2984) hx hb dL_law_1652 (by decide) (fun _ => ?_) (fun c9 => absurd rfl c9)
  exact W.widen (by simp only [rm_X6_regionCountByMerging, rm_X7_regionCountByMerging]; omega) (by simp only [rm_X6_regionCountByMerging, rm_X7_regionCountByMerging]; omega) (kk t H locs ls hI2 hH (lv_sub hl [0, 1, 2, 3, 4, 5] rfl))
set_option maxRecDepth 100000 in
set_option maxHeartbeats 4000000 in
theorem lc_21 {p : Program} {l : Launch} {e : Env} {s : State} {m : MethodId} {below : List Frame} {meth : Method} {c : Code} {Q : State → Prop} {E : xE} {ST : xST} {Z : zE} {b L : Nat} {xs : Nat → Int32} (G : LX l E ST Z p s m meth c b L xs) {n : Nat} (hn : 4 * n + 4 ≤ L) {σ : xW} {H : Heap} {locs : List Loc} {ls : Array Slot} (hI : INV (n : Int) E σ) (hH : Hx E (fun q => s.heap.size ≤ q) s.heap σ H locs) (hl : lv_has ls 10 [(5, .int (iZ (4 * (n : Int)))), (0, .ref b), (1, .ref (xad E 0)), (2, .ref (xad E 85)), (3, .ref (xad E 96)), (4, .ref (xad E 97))])
    (kk : ∀ (σ1 : xW) (H1 : Heap) (locs1 : List Loc) (ls1 : Array Slot), INV ((n : Int) + 1) E σ1 → Hx E (fun q => s.heap.size ≤ q) s.heap σ1 H1 locs1 → lv_has ls1 10 [(5, .int (iZ (4 * (n : Int)))), (0, .ref b), (1, .ref (xad E 0)), (2, .ref (xad E 85)), (3, .ref (xad E 96)), (4, .ref (xad E 97))] → W p l e room_1 s m #[Value.ref b] below meth c H1 locs1 (100 + 10 * (n + 1)) (3000 + 100 * (n + 1)) Q (F0 m 2984 ls1 [])) : W p l e room_1 s m #[Value.ref b] below meth c H locs (100 + 10 * n) (3000 + 100 * n) Q (F0 m 1657 ls []) := by
  obtain ⟨hx, hb, hml, hown, hts, hK, hST, hSF, hSX, hSQ, htr, hX, hbl, hlocks, hr, hL⟩ := G
  have hOK := hSF.1
  have hn6 : (0 : Int) ≤ (n : Int) ∧ (n : Int) ≤ 600 := by omega
  obtain ⟨p0, e0⟩ : ∃ y : Int, y = (xs (4 * (n : Int) + 1).toNat).toInt := ⟨_, rfl⟩
  have r0 : rg p0 := by rw [e0]; exact iZ_rg _
  have rc0 := i2cZ_rg p0
  have rq0 : rg (i2cZ p0) := ⟨by omega, by omega⟩
  obtain ⟨P, hP, hPQ⟩ := s_keyRow l E ST hSF hSX htr hn6 hI (i2cZ p0) rq0
  refine lv_aload_n hx hb dL_law_1657 rfl (lv_at hl 2 rfl) ?_
  refine lv_aload_n hx hb dL_law_1658 rfl (lv_at hl 1 rfl) ?_
  refine lv_iload hx hb dL_law_1659 (lv_at hl 0 rfl) ?_
  refine x_iconst (n := 1) hx hb dL_law_1661 ?_
  refine x_iadd hx hb dL_law_1662 ?_
  refine x_scr hx hb hX hbl hH (by omega) (by omega) hL e0 dL_law_1663 ?_
  refine x_i2c hx hb dL_law_1664 ?_
  refine lv_aload_n hx hb dL_law_1665 rfl (lv_at hl 4 rfl) ?_
  refine x_cSW (As := [.ref (xad E 0), .int (iZ (i2cZ p0)), .ref (xad E 96)]) (rest := []) hx hb hml hts hown hK hST hOK hH hP (vx_cwSW 3 hts gL_law_L_keyRow rfl rfl rfl (by decide +kernel) ⟨Nat.le_of_ble_eq_true rfl, Nat.le_of_ble_eq_true rfl⟩) rfl hl.1 rfl (Nat.le_of_ble_eq_true rfl) dL_law_1666 ⟨by simp only [rm_L_keyRow, room_1]; omega, by simp only [rm_L_keyRow, room_1]; omega⟩ (fun k u H locs hp hH => ?_)
  obtain ⟨⟨fs, h85⟩, Q2, hQ2, hfin⟩ := hPQ k u hp
  refine lv_istore (lv' := [(6, .int (iZ k)), (5, .int (iZ (4 * (n : Int)))), (0, .ref b), (1, .ref (xad E 0)), (2, .ref (xad E 85)), (3, .ref (xad E 96)), (4, .ref (xad E 97))]) hx hb dL_law_1669 hl (by decide) rfl (fun ls hl => ?_)
  refine lv_aload_n hx hb dL_law_1671 rfl (lv_at hl 4 rfl) ?_
  refine lv_aload_n hx hb dL_law_1672 rfl (lv_at hl 2 rfl) ?_
  refine lv_iload hx hb dL_law_1673 (lv_at hl 1 rfl) ?_
  refine x_iconst (n := 1) hx hb dL_law_1675 ?_
  refine x_iadd hx hb dL_law_1676 ?_
  refine x_scr hx hb hX hbl hH (by omega) (by omega) hL e0 dL_law_1677 ?_
  refine x_i2c hx hb dL_law_1678 ?_
  refine x_cVI (As := [.int (iZ (i2cZ p0))]) (rest := []) hx hb hml hts hown hK hST hOK hH 85 hQ2 (cwV 1 hts gL_law_X7_keyRow rfl rfl rfl (by decide +kernel) ⟨Nat.le_of_ble_eq_true rfl, Nat.le_of_ble_eq_true rfl⟩) (by decide) h85 rfl rfl hl.1 rfl (Nat.le_of_ble_eq_true rfl) dL_law_1679 ⟨by simp only [rm_L_keyRow, rm_X7_keyRow, room_1]; omega, by simp only [rm_L_keyRow, rm_X7_keyRow, room_1]; omega⟩ (fun z t H locs hq hH => ?_)
  obtain ⟨hT, hkr, h96⟩ := hfin z t hq
  refine lv_istore (lv' := [(7, .int (iZ z)), (6, .int (iZ k)), (5, .int (iZ (4 * (n : Int)))), (0, .ref b), (1, .ref (xad E 0)), (2, .ref (xad E 85)), (3, .ref (xad E 96)), (4, .ref (xad E 97))]) hx hb dL_law_1682 hl (by decide) rfl (fun ls hl => ?_)
  obtain ⟨sv, re, ea, fa, ty, li, sz, sp, wr, to, hmo⟩ := hT.mo
  have h85t : t 85 = oB 5 _ := hmo
  refine lv_aload_n hx hb dL_law_1684 rfl (lv_at hl 5 rfl) ?_
  refine x_cVID (z0 := k) (As := []) (rest := []) hx hb hml hts hown hK hST hOK hH 85 (c_X7_thrown l E ST hSF t sv re ea fa ty li k sz sp wr to hmo) (cwV 0 hts gL_law_X7_thrown rfl rfl rfl (by decide +kernel) ⟨Nat.le_of_ble_eq_true rfl, Nat.le_of_ble_eq_true rfl⟩) (by decide) h85t rfl rfl hl.1 rfl (Nat.le_of_ble_eq_true rfl) dL_law_1685 ⟨by simp only [rm_L_keyRow, rm_X7_keyRow, rm_X7_thrown, room_1]; omega, by simp only [rm_L_keyRow, rm_X7_keyRow, rm_X7_thrown, room_1]; omega⟩ (fun z u h => h) (fun H locs hH => ?_)
  refine lv_iload hx hb dL_law_1688 (lv_at hl 1 rfl) ?_
  refine lv_icmp_eq (tgt := 1695) hx hb dL_law_1690 (by decide) (fun _ => ?_) (fun c9 => absurd rfl c9)
  refine lv_iload hx hb dL_law_1695 (lv_at hl 1 rfl) ?_
  refine x_if_ne (tgt := 1712) hx hb dL_law_1697 (by decide) hkr (fun c0 => ?_) (fun c0 => ?_)
  · refine lv_goto (tgt := 2984) hx hb dL_law_1712 (by decide) ?_
    exact W.widen (by simp only [rm_L_keyRow, rm_X7_keyRow, rm_X7_thrown]; omega) (by simp only [rm_L_keyRow, rm_X7_keyRow, rm_X7_thrown]; omega) (kk t H locs ls ⟨k, hkr, hT⟩ hH (lv_sub hl [2, 3, 4, 5, 6, 7] rfl))
  · refine lv_aload_n hx hb dL_law_1700 rfl (lv_at hl 6 rfl) ?_
    refine x_iconst (n := 0) hx hb dL_law_1701 ?_
    refine x_lald hx hb hK hH (h96 c0) dL_law_1702 ?_
    refine lv_iload hx hb dL_law_1703 (lv_at hl 0 rfl) ?_
    refine lv_i2l (v := (iZ z).toInt64) hx hb dL_law_1705 rfl ?_
    refine W.lcmp hx hb dL_law_1706 ?_
    refine lv_if_eq (tgt := 1712) hx hb dL_law_1707 (by decide) (fun _ => ?_) (fun c9 => absurd ((lg_cmp_eq _ _).mpr rfl) c9)
    refine lv_goto (tgt := 2984) hx hb dL_law_1712 (by decide) ?_
    exact W.widen (by simp only [rm_L_keyRow, rm_X7_keyRow, rm_X7_thrown]; omega) (by simp only [rm_L_keyRow, rm_X7_keyRow, rm_X7_thrown]; omega) (kk t H locs ls ⟨k, hkr, hT⟩ hH (lv_sub hl [2, 3, 4, 5, 6, 7] rfl))
set_option maxRecDepth 100000 in
set_option maxHeartbeats 4000000 in
theorem lc_22 {p : Program} {l : Launch} {e : Env} {s : State} {m : MethodId} {below : List Frame} {meth : Method} {c : Code} {Q : State → Prop} {E : xE} {ST : xST} {Z : zE} {b L : Nat} {xs : Nat → Int32} (G : LX l E ST Z p s m meth c b L xs) {n : Nat} (hn : 4 * n + 4 ≤ L) {σ : xW} {H : Heap} {locs : List Loc} {ls : Array Slot} (hI : INV (n : Int) E σ) (hH : Hx E (fun q => s.heap.size ≤ q) s.heap σ H locs) (hl : lv_has ls 10 [(5, .int (iZ (4 * (n : Int)))), (0, .ref b), (1, .ref (xad E 0)), (2, .ref (xad E 85)), (3, .ref (xad E 96)), (4, .ref (xad E 97))])
    (kk : ∀ (σ1 : xW) (H1 : Heap) (locs1 : List Loc) (ls1 : Array Slot), INV ((n : Int) + 1) E σ1 → Hx E (fun q => s.heap.size ≤ q) s.heap σ1 H1 locs1 → lv_has ls1 10 [(5, .int (iZ (4 * (n : Int)))), (0, .ref b), (1, .ref (xad E 0)), (2, .ref (xad E 85)), (3, .ref (xad E 96)), (4, .ref (xad E 97))] → W p l e room_1 s m #[Value.ref b] below meth c H1 locs1 (100 + 10 * (n + 1)) (3000 + 100 * (n + 1)) Q (F0 m 2984 ls1 [])) : W p l e room_1 s m #[Value.ref b] below meth c H locs (100 + 10 * n) (3000 + 100 * n) Q (F0 m 1715 ls []) := by
  obtain ⟨hx, hb, hml, hown, hts, hK, hST, hSF, hSX, hSQ, htr, hX, hbl, hlocks, hr, hL⟩ := G
  have hOK := hSF.1
  have hn6 : (0 : Int) ≤ (n : Int) ∧ (n : Int) ≤ 600 := by omega
  obtain ⟨p0, e0⟩ : ∃ y : Int, y = (xs (4 * (n : Int) + 1).toNat).toInt := ⟨_, rfl⟩
  have r0 : rg p0 := by rw [e0]; exact iZ_rg _
  have rc0 := i2cZ_rg p0
  have rq0 : rg (i2cZ p0) := ⟨by omega, by omega⟩
  obtain ⟨P, hP, hPQ⟩ := s_keyColumn l E ST hSF hSX htr hn6 hI (i2cZ p0) rq0
  refine lv_aload_n hx hb dL_law_1715 rfl (lv_at hl 2 rfl) ?_
  refine lv_aload_n hx hb dL_law_1716 rfl (lv_at hl 1 rfl) ?_
  refine lv_iload hx hb dL_law_1717 (lv_at hl 0 rfl) ?_
  refine x_iconst (n := 1) hx hb dL_law_1719 ?_
  refine x_iadd hx hb dL_law_1720 ?_
  refine x_scr hx hb hX hbl hH (by omega) (by omega) hL e0 dL_law_1721 ?_
  refine x_i2c hx hb dL_law_1722 ?_
  refine lv_aload_n hx hb dL_law_1723 rfl (lv_at hl 4 rfl) ?_
  refine x_cSW (As := [.ref (xad E 0), .int (iZ (i2cZ p0)), .ref (xad E 96)]) (rest := []) hx hb hml hts hown hK hST hOK hH hP (vx_cwSW 3 hts gL_law_L_keyColumn rfl rfl rfl (by decide +kernel) ⟨Nat.le_of_ble_eq_true rfl, Nat.le_of_ble_eq_true rfl⟩) rfl hl.1 rfl (Nat.le_of_ble_eq_true rfl) dL_law_1724 ⟨by simp only [rm_L_keyColumn, room_1]; omega, by simp only [rm_L_keyColumn, room_1]; omega⟩ (fun k u H locs hp hH => ?_)
  obtain ⟨⟨fs, h85⟩, Q2, hQ2, hfin⟩ := hPQ k u hp
  refine lv_istore (lv' := [(6, .int (iZ k)), (5, .int (iZ (4 * (n : Int)))), (0, .ref b), (1, .ref (xad E 0)), (2, .ref (xad E 85)), (3, .ref (xad E 96)), (4, .ref (xad E 97))]) hx hb dL_law_1727 hl (by decide) rfl (fun ls hl => ?_)
  refine lv_aload_n hx hb dL_law_1729 rfl (lv_at hl 4 rfl) ?_
  refine lv_aload_n hx hb dL_law_1730 rfl (lv_at hl 2 rfl) ?_
  refine lv_iload hx hb dL_law_1731 (lv_at hl 1 rfl) ?_
  refine x_iconst (n := 1) hx hb dL_law_1733 ?_
  refine x_iadd hx hb dL_law_1734 ?_
  refine x_scr hx hb hX hbl hH (by omega) (by omega) hL e0 dL_law_1735 ?_
  refine x_i2c hx hb dL_law_1736 ?_
  refine x_cVI (As := [.int (iZ (i2cZ p0))]) (rest := []) hx hb hml hts hown hK hST hOK hH 85 hQ2 (cwV 1 hts gL_law_X7_keyColumn rfl rfl rfl (by decide +kernel) ⟨Nat.le_of_ble_eq_true rfl, Nat.le_of_ble_eq_true rfl⟩) (by decide) h85 rfl rfl hl.1 rfl (Nat.le_of_ble_eq_true rfl) dL_law_1737 ⟨by simp only [rm_L_keyColumn, rm_X7_keyColumn, room_1]; omega, by simp only [rm_L_keyColumn, rm_X7_keyColumn, room_1]; omega⟩ (fun z t H locs hq hH => ?_)
  obtain ⟨hT, hkr, h96⟩ := hfin z t hq
  refine lv_istore (lv' := [(7, .int (iZ z)), (6, .int (iZ k)), (5, .int (iZ (4 * (n : Int)))), (0, .ref b), (1, .ref (xad E 0)), (2, .ref (xad E 85)), (3, .ref (xad E 96)), (4, .ref (xad E 97))]) hx hb dL_law_1740 hl (by decide) rfl (fun ls hl => ?_)
  obtain ⟨sv, re, ea, fa, ty, li, sz, sp, wr, to, hmo⟩ := hT.mo
  have h85t : t 85 = oB 5 _ := hmo
  refine lv_aload_n hx hb dL_law_1742 rfl (lv_at hl 5 rfl) ?_
  refine x_cVID (z0 := k) (As := []) (rest := []) hx hb hml hts hown hK hST hOK hH 85 (c_X7_thrown l E ST hSF t sv re ea fa ty li k sz sp wr to hmo) (cwV 0 hts gL_law_X7_thrown rfl rfl rfl (by decide +kernel) ⟨Nat.le_of_ble_eq_true rfl, Nat.le_of_ble_eq_true rfl⟩) (by decide) h85t rfl rfl hl.1 rfl (Nat.le_of_ble_eq_true rfl) dL_law_1743 ⟨by simp only [rm_L_keyColumn, rm_X7_keyColumn, rm_X7_thrown, room_1]; omega, by simp only [rm_L_keyColumn, rm_X7_keyColumn, rm_X7_thrown, room_1]; omega⟩ (fun z u h => h) (fun H locs hH => ?_)
  refine lv_iload hx hb dL_law_1746 (lv_at hl 1 rfl) ?_
  refine lv_icmp_eq (tgt := 1753) hx hb dL_law_1748 (by decide) (fun _ => ?_) (fun c9 => absurd rfl c9)
  refine lv_iload hx hb dL_law_1753 (lv_at hl 1 rfl) ?_
  refine x_if_ne (tgt := 1770) hx hb dL_law_1755 (by decide) hkr (fun c0 => ?_) (fun c0 => ?_)
  · refine lv_goto (tgt := 2984) hx hb dL_law_1770 (by decide) ?_
    exact W.widen (by simp only [rm_L_keyColumn, rm_X7_keyColumn, rm_X7_thrown]; omega) (by simp only [rm_L_keyColumn, rm_X7_keyColumn, rm_X7_thrown]; omega) (kk t H locs ls ⟨k, hkr, hT⟩ hH (lv_sub hl [2, 3, 4, 5, 6, 7] rfl))
  · refine lv_aload_n hx hb dL_law_1758 rfl (lv_at hl 6 rfl) ?_
    refine x_iconst (n := 0) hx hb dL_law_1759 ?_
    refine x_lald hx hb hK hH (h96 c0) dL_law_1760 ?_
    refine lv_iload hx hb dL_law_1761 (lv_at hl 0 rfl) ?_
    refine lv_i2l (v := (iZ z).toInt64) hx hb dL_law_1763 rfl ?_
    refine W.lcmp hx hb dL_law_1764 ?_
    refine lv_if_eq (tgt := 1770) hx hb dL_law_1765 (by decide) (fun _ => ?_) (fun c9 => absurd ((lg_cmp_eq _ _).mpr rfl) c9)
    refine lv_goto (tgt := 2984) hx hb dL_law_1770 (by decide) ?_
    exact W.widen (by simp only [rm_L_keyColumn, rm_X7_keyColumn, rm_X7_thrown]; omega) (by simp only [rm_L_keyColumn, rm_X7_keyColumn, rm_X7_thrown]; omega) (kk t H locs ls ⟨k, hkr, hT⟩ hH (lv_sub hl [2, 3, 4, 5, 6, 7] rfl))
set_option maxRecDepth 100000 in
set_option maxHeartbeats 4000000 in
theorem lc_23 {p : Program} {l : Launch} {e : Env} {s : State} {m : MethodId} {below : List Frame} {meth : Method} {c : Code} {Q : State → Prop} {E : xE} {ST : xST} {Z : zE} {b L : Nat} {xs : Nat → Int32} (G : LX l E ST Z p s m meth c b L xs) {n : Nat} (hn : 4 * n + 4 ≤ L) {σ : xW} {H : Heap} {locs : List Loc} {ls : Array Slot} (hI : INV (n : Int) E σ) (hH : Hx E (fun q => s.heap.size ≤ q) s.heap σ H locs) (hl : lv_has ls 10 [(5, .int (iZ (4 * (n : Int)))), (0, .ref b), (1, .ref (xad E 0)), (2, .ref (xad E 85)), (3, .ref (xad E 96)), (4, .ref (xad E 97))])
    (kk : ∀ (σ1 : xW) (H1 : Heap) (locs1 : List Loc) (ls1 : Array Slot), INV ((n : Int) + 1) E σ1 → Hx E (fun q => s.heap.size ≤ q) s.heap σ1 H1 locs1 → lv_has ls1 10 [(5, .int (iZ (4 * (n : Int)))), (0, .ref b), (1, .ref (xad E 0)), (2, .ref (xad E 85)), (3, .ref (xad E 96)), (4, .ref (xad E 97))] → W p l e room_1 s m #[Value.ref b] below meth c H1 locs1 (100 + 10 * (n + 1)) (3000 + 100 * (n + 1)) Q (F0 m 2984 ls1 [])) : W p l e room_1 s m #[Value.ref b] below meth c H locs (100 + 10 * n) (3000 + 100 * n) Q (F0 m 1773 ls []) := by
  obtain ⟨hx, hb, hml, hown, hts, hK, hST, hSF, hSX, hSQ, htr, hX, hbl, hlocks, hr, hL⟩ := G
  have hOK := hSF.1
  have hn6 : (0 : Int) ≤ (n : Int) ∧ (n : Int) ≤ 600 := by omega
  obtain ⟨p0, e0⟩ : ∃ y : Int, y = (xs (4 * (n : Int) + 1).toNat).toInt := ⟨_, rfl⟩
  have r0 : rg p0 := by rw [e0]; exact iZ_rg _
  have rc0 := i2cZ_rg p0
  have rq0 : rg (i2cZ p0) := ⟨by omega, by omega⟩
  obtain ⟨P, hP, hPQ⟩ := s_carrierOf l E ST hSF hSX htr hn6 hI (i2cZ p0) rq0
  refine lv_aload_n hx hb dL_law_1773 rfl (lv_at hl 2 rfl) ?_
  refine lv_aload_n hx hb dL_law_1774 rfl (lv_at hl 1 rfl) ?_
  refine lv_iload hx hb dL_law_1775 (lv_at hl 0 rfl) ?_
  refine x_iconst (n := 1) hx hb dL_law_1777 ?_
  refine x_iadd hx hb dL_law_1778 ?_
  refine x_scr hx hb hX hbl hH (by omega) (by omega) hL e0 dL_law_1779 ?_
  refine x_i2c hx hb dL_law_1780 ?_
  refine lv_aload_n hx hb dL_law_1781 rfl (lv_at hl 4 rfl) ?_
  refine x_cSW (As := [.ref (xad E 0), .int (iZ (i2cZ p0)), .ref (xad E 96)]) (rest := []) hx hb hml hts hown hK hST hOK hH hP (vx_cwSW 3 hts gL_law_L_carrierOf rfl rfl rfl (by decide +kernel) ⟨Nat.le_of_ble_eq_true rfl, Nat.le_of_ble_eq_true rfl⟩) rfl hl.1 rfl (Nat.le_of_ble_eq_true rfl) dL_law_1782 ⟨by simp only [rm_L_carrierOf, room_1]; omega, by simp only [rm_L_carrierOf, room_1]; omega⟩ (fun k u H locs hp hH => ?_)
  obtain ⟨⟨fs, h85⟩, Q2, hQ2, hfin⟩ := hPQ k u hp
  refine lv_istore (lv' := [(6, .int (iZ k)), (5, .int (iZ (4 * (n : Int)))), (0, .ref b), (1, .ref (xad E 0)), (2, .ref (xad E 85)), (3, .ref (xad E 96)), (4, .ref (xad E 97))]) hx hb dL_law_1785 hl (by decide) rfl (fun ls hl => ?_)
  refine lv_aload_n hx hb dL_law_1787 rfl (lv_at hl 4 rfl) ?_
  refine lv_aload_n hx hb dL_law_1788 rfl (lv_at hl 2 rfl) ?_
  refine lv_iload hx hb dL_law_1789 (lv_at hl 1 rfl) ?_
  refine x_iconst (n := 1) hx hb dL_law_1791 ?_
  refine x_iadd hx hb dL_law_1792 ?_
  refine x_scr hx hb hX hbl hH (by omega) (by omega) hL e0 dL_law_1793 ?_
  refine x_i2c hx hb dL_law_1794 ?_
  refine x_cVI (As := [.int (iZ (i2cZ p0))]) (rest := []) hx hb hml hts hown hK hST hOK hH 85 hQ2 (cwV 1 hts gL_law_X7_carrierOf rfl rfl rfl (by decide +kernel) ⟨Nat.le_of_ble_eq_true rfl, Nat.le_of_ble_eq_true rfl⟩) (by decide) h85 rfl rfl hl.1 rfl (Nat.le_of_ble_eq_true rfl) dL_law_1795 ⟨by simp only [rm_L_carrierOf, rm_X7_carrierOf, room_1]; omega, by simp only [rm_L_carrierOf, rm_X7_carrierOf, room_1]; omega⟩ (fun z t H locs hq hH => ?_)
  obtain ⟨hT, hkr, h96⟩ := hfin z t hq
  refine lv_istore (lv' := [(7, .int (iZ z)), (6, .int (iZ k)), (5, .int (iZ (4 * (n : Int)))), (0, .ref b), (1, .ref (xad E 0)), (2, .ref (xad E 85)), (3, .ref (xad E 96)), (4, .ref (xad E 97))]) hx hb dL_law_1798 hl (by decide) rfl (fun ls hl => ?_)
  obtain ⟨sv, re, ea, fa, ty, li, sz, sp, wr, to, hmo⟩ := hT.mo
  have h85t : t 85 = oB 5 _ := hmo
  refine lv_aload_n hx hb dL_law_1800 rfl (lv_at hl 5 rfl) ?_
  refine x_cVID (z0 := k) (As := []) (rest := []) hx hb hml hts hown hK hST hOK hH 85 (c_X7_thrown l E ST hSF t sv re ea fa ty li k sz sp wr to hmo) (cwV 0 hts gL_law_X7_thrown rfl rfl rfl (by decide +kernel) ⟨Nat.le_of_ble_eq_true rfl, Nat.le_of_ble_eq_true rfl⟩) (by decide) h85t rfl rfl hl.1 rfl (Nat.le_of_ble_eq_true rfl) dL_law_1801 ⟨by simp only [rm_L_carrierOf, rm_X7_carrierOf, rm_X7_thrown, room_1]; omega, by simp only [rm_L_carrierOf, rm_X7_carrierOf, rm_X7_thrown, room_1]; omega⟩ (fun z u h => h) (fun H locs hH => ?_)
  refine lv_iload hx hb dL_law_1804 (lv_at hl 1 rfl) ?_
  refine lv_icmp_eq (tgt := 1811) hx hb dL_law_1806 (by decide) (fun _ => ?_) (fun c9 => absurd rfl c9)
  refine lv_iload hx hb dL_law_1811 (lv_at hl 1 rfl) ?_
  refine x_if_ne (tgt := 1828) hx hb dL_law_1813 (by decide) hkr (fun c0 => ?_) (fun c0 => ?_)
  · refine lv_goto (tgt := 2984) hx hb dL_law_1828 (by decide) ?_
    exact W.widen (by simp only [rm_L_carrierOf, rm_X7_carrierOf, rm_X7_thrown]; omega) (by simp only [rm_L_carrierOf, rm_X7_carrierOf, rm_X7_thrown]; omega) (kk t H locs ls ⟨k, hkr, hT⟩ hH (lv_sub hl [2, 3, 4, 5, 6, 7] rfl))
  · refine lv_aload_n hx hb dL_law_1816 rfl (lv_at hl 6 rfl) ?_
    refine x_iconst (n := 0) hx hb dL_law_1817 ?_
    refine x_lald hx hb hK hH (h96 c0) dL_law_1818 ?_
    refine lv_iload hx hb dL_law_1819 (lv_at hl 0 rfl) ?_
    refine lv_i2l (v := (iZ z).toInt64) hx hb dL_law_1821 rfl ?_
    refine W.lcmp hx hb dL_law_1822 ?_
    refine lv_if_eq (tgt := 1828) hx hb dL_law_1823 (by decide) (fun _ => ?_) (fun c9 => absurd ((lg_cmp_eq _ _).mpr rfl) c9)
    refine lv_goto (tgt := 2984) hx hb dL_law_1828 (by decide) ?_
    exact W.widen (by simp only [rm_L_carrierOf, rm_X7_carrierOf, rm_X7_thrown]; omega) (by simp only [rm_L_carrierOf, rm_X7_carrierOf, rm_X7_thrown]; omega) (kk t H locs ls ⟨k, hkr, hT⟩ hH (lv_sub hl [2, 3, 4, 5, 6, 7] rfl))
