/-! ===== the law's cases ===== -/
set_option maxRecDepth 100000 in
set_option maxHeartbeats 4000000 in
theorem lc_24 {p : Program} {l : Launch} {e : Env} {s : State} {m : MethodId} {below : List Frame} {meth : Method} {c : Code} {Q : State → Prop} {E : xE} {ST : xST} {Z : zE} {b L : Nat} {xs : Nat → Int32} (G : LX l E ST Z p s m meth c b L xs) {n : Nat} (hn : 4 * n + 4 ≤ L) {σ : xW} {H : Heap} {locs : List Loc} {ls : Array Slot} (hI : INV (n : Int) E σ) (hH : Hx E (fun q => s.heap.size ≤ q) s.heap σ H locs) (hl : lv_has ls 10 [(5, .int (iZ (4 * (n : Int)))), (0, .ref b), (1, .ref (xad E 0)), (2, .ref (xad E 85)), (3, .ref (xad E 96)), (4, .ref (xad E 97))])
    (kk : ∀ (σ1 : xW) (H1 : Heap) (locs1 : List Loc) (ls1 : Array Slot), INV ((n : Int) + 1) E σ1 → Hx E (fun q => s.heap.size ≤ q) s.heap σ1 H1 locs1 → lv_has ls1 10 [(5, .int (iZ (4 * (n : Int)))), (0, .ref b), (1, .ref (xad E 0)), (2, .ref (xad E 85)), (3, .ref (xad E 96)), (4, .ref (xad E 97))] → W p l e room_1 s m #[Value.ref b] below meth c H1 locs1 (100 + 10 * (n + 1)) (3000 + 100 * (n + 1)) Q (F0 m 2984 ls1 [])) : W p l e room_1 s m #[Value.ref b] below meth c H locs (100 + 10 * n) (3000 + 100 * n) Q (F0 m 1831 ls []) := by
  obtain ⟨hx, hb, hml, hown, hts, hK, hST, hSF, hSX, hSQ, htr, hX, hbl, hlocks, hr, hL⟩ := G
  have hOK := hSF.1
  have hn6 : (0 : Int) ≤ (n : Int) ∧ (n : Int) ≤ 600 := by omega
  obtain ⟨P, hP, hPQ⟩ := s_walkerCount l E ST hSF hSX htr hn6 hI
  obtain ⟨fs0, h0⟩ : ∃ fs : List Value, σ 0 = oB 4 fs := by obtain ⟨th9, -, h9⟩ := hI; exact h9.ob.1
  refine lv_aload_n hx hb dL_law_1831 rfl (lv_at hl 2 rfl) ?_
  refine x_cVI (As := []) (rest := []) hx hb hml hts hown hK hST hOK hH 0 hP (cwV 0 hts gL_law_X6_walkerCount rfl rfl rfl (by decide +kernel) ⟨Nat.le_of_ble_eq_true rfl, Nat.le_of_ble_eq_true rfl⟩) (by decide) h0 rfl rfl hl.1 rfl (Nat.le_of_ble_eq_true rfl) dL_law_1832 ⟨by simp only [rm_X6_walkerCount, room_1]; omega, by simp only [rm_X6_walkerCount, room_1]; omega⟩ (fun k u H locs hp hH => ?_)
  obtain ⟨⟨fs, h85⟩, Q2, hQ2, hfin⟩ := hPQ k u hp
  refine lv_aload_n hx hb dL_law_1835 rfl (lv_at hl 3 rfl) ?_
  refine x_cVI (As := []) (rest := [.int (iZ k)]) hx hb hml hts hown hK hST hOK hH 85 hQ2 (cwV 0 hts gL_law_X7_walkerCount rfl rfl rfl (by decide +kernel) ⟨Nat.le_of_ble_eq_true rfl, Nat.le_of_ble_eq_true rfl⟩) (by decide) h85 rfl rfl hl.1 rfl (Nat.le_of_ble_eq_true rfl) dL_law_1836 ⟨by simp only [rm_X6_walkerCount, rm_X7_walkerCount, room_1]; omega, by simp only [rm_X6_walkerCount, rm_X7_walkerCount, room_1]; omega⟩ (fun z t H locs hq hH => ?_)
  obtain ⟨e9, hI2⟩ := hfin z t hq
  subst e9
  refine lv_icmp_eq (tgt := 2984) hx hb dL_law_1839 (by decide) (fun _ => ?_) (fun c9 => absurd rfl c9)
  exact W.widen (by simp only [rm_X6_walkerCount, rm_X7_walkerCount]; omega) (by simp only [rm_X6_walkerCount, rm_X7_walkerCount]; omega) (kk t H locs ls hI2 hH (lv_sub hl [0, 1, 2, 3, 4, 5] rfl))
set_option maxRecDepth 100000 in
set_option maxHeartbeats 4000000 in
theorem lc_25 {p : Program} {l : Launch} {e : Env} {s : State} {m : MethodId} {below : List Frame} {meth : Method} {c : Code} {Q : State → Prop} {E : xE} {ST : xST} {Z : zE} {b L : Nat} {xs : Nat → Int32} (G : LX l E ST Z p s m meth c b L xs) {n : Nat} (hn : 4 * n + 4 ≤ L) {σ : xW} {H : Heap} {locs : List Loc} {ls : Array Slot} (hI : INV (n : Int) E σ) (hH : Hx E (fun q => s.heap.size ≤ q) s.heap σ H locs) (hl : lv_has ls 10 [(5, .int (iZ (4 * (n : Int)))), (0, .ref b), (1, .ref (xad E 0)), (2, .ref (xad E 85)), (3, .ref (xad E 96)), (4, .ref (xad E 97))])
    (kk : ∀ (σ1 : xW) (H1 : Heap) (locs1 : List Loc) (ls1 : Array Slot), INV ((n : Int) + 1) E σ1 → Hx E (fun q => s.heap.size ≤ q) s.heap σ1 H1 locs1 → lv_has ls1 10 [(5, .int (iZ (4 * (n : Int)))), (0, .ref b), (1, .ref (xad E 0)), (2, .ref (xad E 85)), (3, .ref (xad E 96)), (4, .ref (xad E 97))] → W p l e room_1 s m #[Value.ref b] below meth c H1 locs1 (100 + 10 * (n + 1)) (3000 + 100 * (n + 1)) Q (F0 m 2984 ls1 [])) : W p l e room_1 s m #[Value.ref b] below meth c H locs (100 + 10 * n) (3000 + 100 * n) Q (F0 m 1844 ls []) := by
  obtain ⟨hx, hb, hml, hown, hts, hK, hST, hSF, hSX, hSQ, htr, hX, hbl, hlocks, hr, hL⟩ := G
  have hOK := hSF.1
  have hn6 : (0 : Int) ≤ (n : Int) ∧ (n : Int) ≤ 600 := by omega
  obtain ⟨p0, e0⟩ : ∃ y : Int, y = (xs (4 * (n : Int) + 1).toNat).toInt := ⟨_, rfl⟩
  have r0 : rg p0 := by rw [e0]; exact iZ_rg _
  obtain ⟨P, hP, hPQ⟩ := s_walkerRow l E ST hSF hSX htr hn6 hI p0 r0
  refine lv_aload_n hx hb dL_law_1844 rfl (lv_at hl 2 rfl) ?_
  refine lv_aload_n hx hb dL_law_1845 rfl (lv_at hl 1 rfl) ?_
  refine lv_iload hx hb dL_law_1846 (lv_at hl 0 rfl) ?_
  refine x_iconst (n := 1) hx hb dL_law_1848 ?_
  refine x_iadd hx hb dL_law_1849 ?_
  refine x_scr hx hb hX hbl hH (by omega) (by omega) hL e0 dL_law_1850 ?_
  refine lv_aload_n hx hb dL_law_1851 rfl (lv_at hl 4 rfl) ?_
  refine x_cSW (As := [.ref (xad E 0), .int (iZ p0), .ref (xad E 96)]) (rest := []) hx hb hml hts hown hK hST hOK hH hP (vx_cwSW 3 hts gL_law_L_walkerRow rfl rfl rfl (by decide +kernel) ⟨Nat.le_of_ble_eq_true rfl, Nat.le_of_ble_eq_true rfl⟩) rfl hl.1 rfl (Nat.le_of_ble_eq_true rfl) dL_law_1852 ⟨by simp only [rm_L_walkerRow, room_1]; omega, by simp only [rm_L_walkerRow, room_1]; omega⟩ (fun k u H locs hp hH => ?_)
  obtain ⟨⟨fs, h85⟩, Q2, hQ2, hfin⟩ := hPQ k u hp
  refine lv_istore (lv' := [(6, .int (iZ k)), (5, .int (iZ (4 * (n : Int)))), (0, .ref b), (1, .ref (xad E 0)), (2, .ref (xad E 85)), (3, .ref (xad E 96)), (4, .ref (xad E 97))]) hx hb dL_law_1855 hl (by decide) rfl (fun ls hl => ?_)
  refine lv_aload_n hx hb dL_law_1857 rfl (lv_at hl 4 rfl) ?_
  refine lv_aload_n hx hb dL_law_1858 rfl (lv_at hl 2 rfl) ?_
  refine lv_iload hx hb dL_law_1859 (lv_at hl 1 rfl) ?_
  refine x_iconst (n := 1) hx hb dL_law_1861 ?_
  refine x_iadd hx hb dL_law_1862 ?_
  refine x_scr hx hb hX hbl hH (by omega) (by omega) hL e0 dL_law_1863 ?_
  refine x_cVI (As := [.int (iZ p0)]) (rest := []) hx hb hml hts hown hK hST hOK hH 85 hQ2 (cwV 1 hts gL_law_X7_walkerRow rfl rfl rfl (by decide +kernel) ⟨Nat.le_of_ble_eq_true rfl, Nat.le_of_ble_eq_true rfl⟩) (by decide) h85 rfl rfl hl.1 rfl (Nat.le_of_ble_eq_true rfl) dL_law_1864 ⟨by simp only [rm_L_walkerRow, rm_X7_walkerRow, room_1]; omega, by simp only [rm_L_walkerRow, rm_X7_walkerRow, room_1]; omega⟩ (fun z t H locs hq hH => ?_)
  obtain ⟨hT, hkr, h96⟩ := hfin z t hq
  refine lv_istore (lv' := [(7, .int (iZ z)), (6, .int (iZ k)), (5, .int (iZ (4 * (n : Int)))), (0, .ref b), (1, .ref (xad E 0)), (2, .ref (xad E 85)), (3, .ref (xad E 96)), (4, .ref (xad E 97))]) hx hb dL_law_1867 hl (by decide) rfl (fun ls hl => ?_)
  obtain ⟨sv, re, ea, fa, ty, li, sz, sp, wr, to, hmo⟩ := hT.mo
  have h85t : t 85 = oB 5 _ := hmo
  refine lv_aload_n hx hb dL_law_1869 rfl (lv_at hl 5 rfl) ?_
  refine x_cVID (z0 := k) (As := []) (rest := []) hx hb hml hts hown hK hST hOK hH 85 (c_X7_thrown l E ST hSF t sv re ea fa ty li k sz sp wr to hmo) (cwV 0 hts gL_law_X7_thrown rfl rfl rfl (by decide +kernel) ⟨Nat.le_of_ble_eq_true rfl, Nat.le_of_ble_eq_true rfl⟩) (by decide) h85t rfl rfl hl.1 rfl (Nat.le_of_ble_eq_true rfl) dL_law_1870 ⟨by simp only [rm_L_walkerRow, rm_X7_walkerRow, rm_X7_thrown, room_1]; omega, by simp only [rm_L_walkerRow, rm_X7_walkerRow, rm_X7_thrown, room_1]; omega⟩ (fun z u h => h) (fun H locs hH => ?_)
  refine lv_iload hx hb dL_law_1873 (lv_at hl 1 rfl) ?_
  refine lv_icmp_eq (tgt := 1880) hx hb dL_law_1875 (by decide) (fun _ => ?_) (fun c9 => absurd rfl c9)
  refine lv_iload hx hb dL_law_1880 (lv_at hl 1 rfl) ?_
  refine x_if_ne (tgt := 1897) hx hb dL_law_1882 (by decide) hkr (fun c0 => ?_) (fun c0 => ?_)
  · refine lv_goto (tgt := 2984) hx hb dL_law_1897 (by decide) ?_
    exact W.widen (by simp only [rm_L_walkerRow, rm_X7_walkerRow, rm_X7_thrown]; omega) (by simp only [rm_L_walkerRow, rm_X7_walkerRow, rm_X7_thrown]; omega) (kk t H locs ls ⟨k, hkr, hT⟩ hH (lv_sub hl [2, 3, 4, 5, 6, 7] rfl))
  · refine lv_aload_n hx hb dL_law_1885 rfl (lv_at hl 6 rfl) ?_
    refine x_iconst (n := 0) hx hb dL_law_1886 ?_
    refine x_lald hx hb hK hH (h96 c0) dL_law_1887 ?_
    refine lv_iload hx hb dL_law_1888 (lv_at hl 0 rfl) ?_
    refine lv_i2l (v := (iZ z).toInt64) hx hb dL_law_1890 rfl ?_
    refine W.lcmp hx hb dL_law_1891 ?_
    refine lv_if_eq (tgt := 1897) hx hb dL_law_1892 (by decide) (fun _ => ?_) (fun c9 => absurd ((lg_cmp_eq _ _).mpr rfl) c9)
    refine lv_goto (tgt := 2984) hx hb dL_law_1897 (by decide) ?_
    exact W.widen (by simp only [rm_L_walkerRow, rm_X7_walkerRow, rm_X7_thrown]; omega) (by simp only [rm_L_walkerRow, rm_X7_walkerRow, rm_X7_thrown]; omega) (kk t H locs ls ⟨k, hkr, hT⟩ hH (lv_sub hl [2, 3, 4, 5, 6, 7] rfl))
set_option maxRecDepth 100000 in
set_option maxHeartbeats 4000000 in
theorem lc_26 {p : Program} {l : Launch} {e : Env} {s : State} {m : MethodId} {below : List Frame} {meth : Method} {c : Code} {Q : State → Prop} {E : xE} {ST : xST} {Z : zE} {b L : Nat} {xs : Nat → Int32} (G : LX l E ST Z p s m meth c b L xs) {n : Nat} (hn : 4 * n + 4 ≤ L) {σ : xW} {H : Heap} {locs : List Loc} {ls : Array Slot} (hI : INV (n : Int) E σ) (hH : Hx E (fun q => s.heap.size ≤ q) s.heap σ H locs) (hl : lv_has ls 10 [(5, .int (iZ (4 * (n : Int)))), (0, .ref b), (1, .ref (xad E 0)), (2, .ref (xad E 85)), (3, .ref (xad E 96)), (4, .ref (xad E 97))])
    (kk : ∀ (σ1 : xW) (H1 : Heap) (locs1 : List Loc) (ls1 : Array Slot), INV ((n : Int) + 1) E σ1 → Hx E (fun q => s.heap.size ≤ q) s.heap σ1 H1 locs1 → lv_has ls1 10 [(5, .int (iZ (4 * (n : Int)))), (0, .ref b), (1, .ref (xad E 0)), (2, .ref (xad E 85)), (3, .ref (xad E 96)), (4, .ref (xad E 97))] → W p l e room_1 s m #[Value.ref b] below meth c H1 locs1 (100 + 10 * (n + 1)) (3000 + 100 * (n + 1)) Q (F0 m 2984 ls1 [])) : W p l e room_1 s m #[Value.ref b] below meth c H locs (100 + 10 * n) (3000 + 100 * n) Q (F0 m 1900 ls []) := by
  obtain ⟨hx, hb, hml, hown, hts, hK, hST, hSF, hSX, hSQ, htr, hX, hbl, hlocks, hr, hL⟩ := G
  have hOK := hSF.1
  have hn6 : (0 : Int) ≤ (n : Int) ∧ (n : Int) ≤ 600 := by omega
  obtain ⟨p0, e0⟩ : ∃ y : Int, y = (xs (4 * (n : Int) + 1).toNat).toInt := ⟨_, rfl⟩
  have r0 : rg p0 := by rw [e0]; exact iZ_rg _
  obtain ⟨P, hP, hPQ⟩ := s_walkerColumn l E ST hSF hSX htr hn6 hI p0 r0
  refine lv_aload_n hx hb dL_law_1900 rfl (lv_at hl 2 rfl) ?_
  refine lv_aload_n hx hb dL_law_1901 rfl (lv_at hl 1 rfl) ?_
  refine lv_iload hx hb dL_law_1902 (lv_at hl 0 rfl) ?_
  refine x_iconst (n := 1) hx hb dL_law_1904 ?_
  refine x_iadd hx hb dL_law_1905 ?_
  refine x_scr hx hb hX hbl hH (by omega) (by omega) hL e0 dL_law_1906 ?_
  refine lv_aload_n hx hb dL_law_1907 rfl (lv_at hl 4 rfl) ?_
  refine x_cSW (As := [.ref (xad E 0), .int (iZ p0), .ref (xad E 96)]) (rest := []) hx hb hml hts hown hK hST hOK hH hP (vx_cwSW 3 hts gL_law_L_walkerColumn rfl rfl rfl (by decide +kernel) ⟨Nat.le_of_ble_eq_true rfl, Nat.le_of_ble_eq_true rfl⟩) rfl hl.1 rfl (Nat.le_of_ble_eq_true rfl) dL_law_1908 ⟨by simp only [rm_L_walkerColumn, room_1]; omega, by simp only [rm_L_walkerColumn, room_1]; omega⟩ (fun k u H locs hp hH => ?_)
  obtain ⟨⟨fs, h85⟩, Q2, hQ2, hfin⟩ := hPQ k u hp
  refine lv_istore (lv' := [(6, .int (iZ k)), (5, .int (iZ (4 * (n : Int)))), (0, .ref b), (1, .ref (xad E 0)), (2, .ref (xad E 85)), (3, .ref (xad E 96)), (4, .ref (xad E 97))]) hx hb dL_law_1911 hl (by decide) rfl (fun ls hl => ?_)
  refine lv_aload_n hx hb dL_law_1913 rfl (lv_at hl 4 rfl) ?_
  refine lv_aload_n hx hb dL_law_1914 rfl (lv_at hl 2 rfl) ?_
  refine lv_iload hx hb dL_law_1915 (lv_at hl 1 rfl) ?_
  refine x_iconst (n := 1) hx hb dL_law_1917 ?_
  refine x_iadd hx hb dL_law_1918 ?_
  refine x_scr hx hb hX hbl hH (by omega) (by omega) hL e0 dL_law_1919 ?_
  refine x_cVI (As := [.int (iZ p0)]) (rest := []) hx hb hml hts hown hK hST hOK hH 85 hQ2 (cwV 1 hts gL_law_X7_walkerColumn rfl rfl rfl (by decide +kernel) ⟨Nat.le_of_ble_eq_true rfl, Nat.le_of_ble_eq_true rfl⟩) (by decide) h85 rfl rfl hl.1 rfl (Nat.le_of_ble_eq_true rfl) dL_law_1920 ⟨by simp only [rm_L_walkerColumn, rm_X7_walkerColumn, room_1]; omega, by simp only [rm_L_walkerColumn, rm_X7_walkerColumn, room_1]; omega⟩ (fun z t H locs hq hH => ?_)
  obtain ⟨hT, hkr, h96⟩ := hfin z t hq
  refine lv_istore (lv' := [(7, .int (iZ z)), (6, .int (iZ k)), (5, .int (iZ (4 * (n : Int)))), (0, .ref b), (1, .ref (xad E 0)), (2, .ref (xad E 85)), (3, .ref (xad E 96)), (4, .ref (xad E 97))]) hx hb dL_law_1923 hl (by decide) rfl (fun ls hl => ?_)
  obtain ⟨sv, re, ea, fa, ty, li, sz, sp, wr, to, hmo⟩ := hT.mo
  have h85t : t 85 = oB 5 _ := hmo
  refine lv_aload_n hx hb dL_law_1925 rfl (lv_at hl 5 rfl) ?_
  refine x_cVID (z0 := k) (As := []) (rest := []) hx hb hml hts hown hK hST hOK hH 85 (c_X7_thrown l E ST hSF t sv re ea fa ty li k sz sp wr to hmo) (cwV 0 hts gL_law_X7_thrown rfl rfl rfl (by decide +kernel) ⟨Nat.le_of_ble_eq_true rfl, Nat.le_of_ble_eq_true rfl⟩) (by decide) h85t rfl rfl hl.1 rfl (Nat.le_of_ble_eq_true rfl) dL_law_1926 ⟨by simp only [rm_L_walkerColumn, rm_X7_walkerColumn, rm_X7_thrown, room_1]; omega, by simp only [rm_L_walkerColumn, rm_X7_walkerColumn, rm_X7_thrown, room_1]; omega⟩ (fun z u h => h) (fun H locs hH => ?_)
  refine lv_iload hx hb dL_law_1929 (lv_at hl 1 rfl) ?_
  refine lv_icmp_eq (tgt := 1936) hx hb dL_law_1931 (by decide) (fun _ => ?_) (fun c9 => absurd rfl c9)
  refine lv_iload hx hb dL_law_1936 (lv_at hl 1 rfl) ?_
  refine x_if_ne (tgt := 1953) hx hb dL_law_1938 (by decide) hkr (fun c0 => ?_) (fun c0 => ?_)
  · refine lv_goto (tgt := 2984) hx hb dL_law_1953 (by decide) ?_
    exact W.widen (by simp only [rm_L_walkerColumn, rm_X7_walkerColumn, rm_X7_thrown]; omega) (by simp only [rm_L_walkerColumn, rm_X7_walkerColumn, rm_X7_thrown]; omega) (kk t H locs ls ⟨k, hkr, hT⟩ hH (lv_sub hl [2, 3, 4, 5, 6, 7] rfl))
  · refine lv_aload_n hx hb dL_law_1941 rfl (lv_at hl 6 rfl) ?_
    refine x_iconst (n := 0) hx hb dL_law_1942 ?_
    refine x_lald hx hb hK hH (h96 c0) dL_law_1943 ?_
    refine lv_iload hx hb dL_law_1944 (lv_at hl 0 rfl) ?_
    refine lv_i2l (v := (iZ z).toInt64) hx hb dL_law_1946 rfl ?_
    refine W.lcmp hx hb dL_law_1947 ?_
    refine lv_if_eq (tgt := 1953) hx hb dL_law_1948 (by decide) (fun _ => ?_) (fun c9 => absurd ((lg_cmp_eq _ _).mpr rfl) c9)
    refine lv_goto (tgt := 2984) hx hb dL_law_1953 (by decide) ?_
    exact W.widen (by simp only [rm_L_walkerColumn, rm_X7_walkerColumn, rm_X7_thrown]; omega) (by simp only [rm_L_walkerColumn, rm_X7_walkerColumn, rm_X7_thrown]; omega) (kk t H locs ls ⟨k, hkr, hT⟩ hH (lv_sub hl [2, 3, 4, 5, 6, 7] rfl))
set_option maxRecDepth 100000 in
set_option maxHeartbeats 4000000 in
theorem lc_27 {p : Program} {l : Launch} {e : Env} {s : State} {m : MethodId} {below : List Frame} {meth : Method} {c : Code} {Q : State → Prop} {E : xE} {ST : xST} {Z : zE} {b L : Nat} {xs : Nat → Int32} (G : LX l E ST Z p s m meth c b L xs) {n : Nat} (hn : 4 * n + 4 ≤ L) {σ : xW} {H : Heap} {locs : List Loc} {ls : Array Slot} (hI : INV (n : Int) E σ) (hH : Hx E (fun q => s.heap.size ≤ q) s.heap σ H locs) (hl : lv_has ls 10 [(5, .int (iZ (4 * (n : Int)))), (0, .ref b), (1, .ref (xad E 0)), (2, .ref (xad E 85)), (3, .ref (xad E 96)), (4, .ref (xad E 97))])
    (kk : ∀ (σ1 : xW) (H1 : Heap) (locs1 : List Loc) (ls1 : Array Slot), INV ((n : Int) + 1) E σ1 → Hx E (fun q => s.heap.size ≤ q) s.heap σ1 H1 locs1 → lv_has ls1 10 [(5, .int (iZ (4 * (n : Int)))), (0, .ref b), (1, .ref (xad E 0)), (2, .ref (xad E 85)), (3, .ref (xad E 96)), (4, .ref (xad E 97))] → W p l e room_1 s m #[Value.ref b] below meth c H1 locs1 (100 + 10 * (n + 1)) (3000 + 100 * (n + 1)) Q (F0 m 2984 ls1 [])) : W p l e room_1 s m #[Value.ref b] below meth c H locs (100 + 10 * n) (3000 + 100 * n) Q (F0 m 1956 ls []) := by
  obtain ⟨hx, hb, hml, hown, hts, hK, hST, hSF, hSX, hSQ, htr, hX, hbl, hlocks, hr, hL⟩ := G
  have hOK := hSF.1
  have hn6 : (0 : Int) ≤ (n : Int) ∧ (n : Int) ≤ 600 := by omega
  obtain ⟨p0, e0⟩ : ∃ y : Int, y = (xs (4 * (n : Int) + 1).toNat).toInt := ⟨_, rfl⟩
  have r0 : rg p0 := by rw [e0]; exact iZ_rg _
  obtain ⟨P, hP, hPQ⟩ := s_keysOf l E ST hSF hSX htr hn6 hI p0 r0
  refine lv_aload_n hx hb dL_law_1956 rfl (lv_at hl 2 rfl) ?_
  refine lv_aload_n hx hb dL_law_1957 rfl (lv_at hl 1 rfl) ?_
  refine lv_iload hx hb dL_law_1958 (lv_at hl 0 rfl) ?_
  refine x_iconst (n := 1) hx hb dL_law_1960 ?_
  refine x_iadd hx hb dL_law_1961 ?_
  refine x_scr hx hb hX hbl hH (by omega) (by omega) hL e0 dL_law_1962 ?_
  refine lv_aload_n hx hb dL_law_1963 rfl (lv_at hl 4 rfl) ?_
  refine x_cSW (As := [.ref (xad E 0), .int (iZ p0), .ref (xad E 96)]) (rest := []) hx hb hml hts hown hK hST hOK hH hP (vx_cwSW 3 hts gL_law_L_keysOf rfl rfl rfl (by decide +kernel) ⟨Nat.le_of_ble_eq_true rfl, Nat.le_of_ble_eq_true rfl⟩) rfl hl.1 rfl (Nat.le_of_ble_eq_true rfl) dL_law_1964 ⟨by simp only [rm_L_keysOf, room_1]; omega, by simp only [rm_L_keysOf, room_1]; omega⟩ (fun k u H locs hp hH => ?_)
  obtain ⟨⟨fs, h85⟩, Q2, hQ2, hfin⟩ := hPQ k u hp
  refine lv_istore (lv' := [(6, .int (iZ k)), (5, .int (iZ (4 * (n : Int)))), (0, .ref b), (1, .ref (xad E 0)), (2, .ref (xad E 85)), (3, .ref (xad E 96)), (4, .ref (xad E 97))]) hx hb dL_law_1967 hl (by decide) rfl (fun ls hl => ?_)
  refine lv_aload_n hx hb dL_law_1969 rfl (lv_at hl 4 rfl) ?_
  refine lv_aload_n hx hb dL_law_1970 rfl (lv_at hl 2 rfl) ?_
  refine lv_iload hx hb dL_law_1971 (lv_at hl 1 rfl) ?_
  refine x_iconst (n := 1) hx hb dL_law_1973 ?_
  refine x_iadd hx hb dL_law_1974 ?_
  refine x_scr hx hb hX hbl hH (by omega) (by omega) hL e0 dL_law_1975 ?_
  refine x_cVI (As := [.int (iZ p0)]) (rest := []) hx hb hml hts hown hK hST hOK hH 85 hQ2 (cwV 1 hts gL_law_X7_keysOf rfl rfl rfl (by decide +kernel) ⟨Nat.le_of_ble_eq_true rfl, Nat.le_of_ble_eq_true rfl⟩) (by decide) h85 rfl rfl hl.1 rfl (Nat.le_of_ble_eq_true rfl) dL_law_1976 ⟨by simp only [rm_L_keysOf, rm_X7_keysOf, room_1]; omega, by simp only [rm_L_keysOf, rm_X7_keysOf, room_1]; omega⟩ (fun z t H locs hq hH => ?_)
  obtain ⟨hT, hkr, h96⟩ := hfin z t hq
  refine lv_istore (lv' := [(7, .int (iZ z)), (6, .int (iZ k)), (5, .int (iZ (4 * (n : Int)))), (0, .ref b), (1, .ref (xad E 0)), (2, .ref (xad E 85)), (3, .ref (xad E 96)), (4, .ref (xad E 97))]) hx hb dL_law_1979 hl (by decide) rfl (fun ls hl => ?_)
  obtain ⟨sv, re, ea, fa, ty, li, sz, sp, wr, to, hmo⟩ := hT.mo
  have h85t : t 85 = oB 5 _ := hmo
  refine lv_aload_n hx hb dL_law_1981 rfl (lv_at hl 5 rfl) ?_
  refine x_cVID (z0 := k) (As := []) (rest := []) hx hb hml hts hown hK hST hOK hH 85 (c_X7_thrown l E ST hSF t sv re ea fa ty li k sz sp wr to hmo) (cwV 0 hts gL_law_X7_thrown rfl rfl rfl (by decide +kernel) ⟨Nat.le_of_ble_eq_true rfl, Nat.le_of_ble_eq_true rfl⟩) (by decide) h85t rfl rfl hl.1 rfl (Nat.le_of_ble_eq_true rfl) dL_law_1982 ⟨by simp only [rm_L_keysOf, rm_X7_keysOf, rm_X7_thrown, room_1]; omega, by simp only [rm_L_keysOf, rm_X7_keysOf, rm_X7_thrown, room_1]; omega⟩ (fun z u h => h) (fun H locs hH => ?_)
  refine lv_iload hx hb dL_law_1985 (lv_at hl 1 rfl) ?_
  refine lv_icmp_eq (tgt := 1992) hx hb dL_law_1987 (by decide) (fun _ => ?_) (fun c9 => absurd rfl c9)
  refine lv_iload hx hb dL_law_1992 (lv_at hl 1 rfl) ?_
  refine x_if_ne (tgt := 2009) hx hb dL_law_1994 (by decide) hkr (fun c0 => ?_) (fun c0 => ?_)
  · refine lv_goto (tgt := 2984) hx hb dL_law_2009 (by decide) ?_
    exact W.widen (by simp only [rm_L_keysOf, rm_X7_keysOf, rm_X7_thrown]; omega) (by simp only [rm_L_keysOf, rm_X7_keysOf, rm_X7_thrown]; omega) (kk t H locs ls ⟨k, hkr, hT⟩ hH (lv_sub hl [2, 3, 4, 5, 6, 7] rfl))
  · refine lv_aload_n hx hb dL_law_1997 rfl (lv_at hl 6 rfl) ?_
    refine x_iconst (n := 0) hx hb dL_law_1998 ?_
    refine x_lald hx hb hK hH (h96 c0) dL_law_1999 ?_
    refine lv_iload hx hb dL_law_2000 (lv_at hl 0 rfl) ?_
    refine lv_i2l (v := (iZ z).toInt64) hx hb dL_law_2002 rfl ?_
    refine W.lcmp hx hb dL_law_2003 ?_
    refine lv_if_eq (tgt := 2009) hx hb dL_law_2004 (by decide) (fun _ => ?_) (fun c9 => absurd ((lg_cmp_eq _ _).mpr rfl) c9)
    refine lv_goto (tgt := 2984) hx hb dL_law_2009 (by decide) ?_
    exact W.widen (by simp only [rm_L_keysOf, rm_X7_keysOf, rm_X7_thrown]; omega) (by simp only [rm_L_keysOf, rm_X7_keysOf, rm_X7_thrown]; omega) (kk t H locs ls ⟨k, hkr, hT⟩ hH (lv_sub hl [2, 3, 4, 5, 6, 7] rfl))
set_option maxRecDepth 100000 in
set_option maxHeartbeats 4000000 in
theorem lc_28 {p : Program} {l : Launch} {e : Env} {s : State} {m : MethodId} {below : List Frame} {meth : Method} {c : Code} {Q : State → Prop} {E : xE} {ST : xST} {Z : zE} {b L : Nat} {xs : Nat → Int32} (G : LX l E ST Z p s m meth c b L xs) {n : Nat} (hn : 4 * n + 4 ≤ L) {σ : xW} {H : Heap} {locs : List Loc} {ls : Array Slot} (hI : INV (n : Int) E σ) (hH : Hx E (fun q => s.heap.size ≤ q) s.heap σ H locs) (hl : lv_has ls 10 [(5, .int (iZ (4 * (n : Int)))), (0, .ref b), (1, .ref (xad E 0)), (2, .ref (xad E 85)), (3, .ref (xad E 96)), (4, .ref (xad E 97))])
    (kk : ∀ (σ1 : xW) (H1 : Heap) (locs1 : List Loc) (ls1 : Array Slot), INV ((n : Int) + 1) E σ1 → Hx E (fun q => s.heap.size ≤ q) s.heap σ1 H1 locs1 → lv_has ls1 10 [(5, .int (iZ (4 * (n : Int)))), (0, .ref b), (1, .ref (xad E 0)), (2, .ref (xad E 85)), (3, .ref (xad E 96)), (4, .ref (xad E 97))] → W p l e room_1 s m #[Value.ref b] below meth c H1 locs1 (100 + 10 * (n + 1)) (3000 + 100 * (n + 1)) Q (F0 m 2984 ls1 [])) : W p l e room_1 s m #[Value.ref b] below meth c H locs (100 + 10 * n) (3000 + 100 * n) Q (F0 m 2012 ls []) := by
  obtain ⟨hx, hb, hml, hown, hts, hK, hST, hSF, hSX, hSQ, htr, hX, hbl, hlocks, hr, hL⟩ := G
  have hOK := hSF.1
  have hn6 : (0 : Int) ≤ (n : Int) ∧ (n : Int) ≤ 600 := by omega
  obtain ⟨p0, e0⟩ : ∃ y : Int, y = (xs (4 * (n : Int) + 1).toNat).toInt := ⟨_, rfl⟩
  have r0 : rg p0 := by rw [e0]; exact iZ_rg _
  obtain ⟨p1, e1⟩ : ∃ y : Int, y = (xs (4 * (n : Int) + 2).toNat).toInt := ⟨_, rfl⟩
  have r1 : rg p1 := by rw [e1]; exact iZ_rg _
  obtain ⟨p2, e2⟩ : ∃ y : Int, y = (xs (4 * (n : Int) + 3).toNat).toInt := ⟨_, rfl⟩
  have r2 : rg p2 := by rw [e2]; exact iZ_rg _
  obtain ⟨P, hP, hPQ⟩ := s_pathLength l E ST hSF hSX htr hn6 hI p0 p1 p2 r0 r1 r2
  refine lv_aload_n hx hb dL_law_2012 rfl (lv_at hl 2 rfl) ?_
  refine lv_aload_n hx hb dL_law_2013 rfl (lv_at hl 1 rfl) ?_
  refine lv_iload hx hb dL_law_2014 (lv_at hl 0 rfl) ?_
  refine x_iconst (n := 1) hx hb dL_law_2016 ?_
  refine x_iadd hx hb dL_law_2017 ?_
  refine x_scr hx hb hX hbl hH (by omega) (by omega) hL e0 dL_law_2018 ?_
  refine lv_aload_n hx hb dL_law_2019 rfl (lv_at hl 1 rfl) ?_
  refine lv_iload hx hb dL_law_2020 (lv_at hl 0 rfl) ?_
  refine x_iconst (n := 2) hx hb dL_law_2022 ?_
  refine x_iadd hx hb dL_law_2023 ?_
  refine x_scr hx hb hX hbl hH (by omega) (by omega) hL e1 dL_law_2024 ?_
  refine lv_aload_n hx hb dL_law_2025 rfl (lv_at hl 1 rfl) ?_
  refine lv_iload hx hb dL_law_2026 (lv_at hl 0 rfl) ?_
  refine x_iconst (n := 3) hx hb dL_law_2028 ?_
  refine x_iadd hx hb dL_law_2029 ?_
  refine x_scr hx hb hX hbl hH (by omega) (by omega) hL e2 dL_law_2030 ?_
  refine lv_aload_n hx hb dL_law_2031 rfl (lv_at hl 4 rfl) ?_
  refine x_cSW (As := [.ref (xad E 0), .int (iZ p0), .int (iZ p1), .int (iZ p2), .ref (xad E 96)]) (rest := []) hx hb hml hts hown hK hST hOK hH hP (vx_cwSW 5 hts gL_law_L_pathLength rfl rfl rfl (by decide +kernel) ⟨Nat.le_of_ble_eq_true rfl, Nat.le_of_ble_eq_true rfl⟩) rfl hl.1 rfl (Nat.le_of_ble_eq_true rfl) dL_law_2032 ⟨by simp only [rm_L_pathLength, room_1]; omega, by simp only [rm_L_pathLength, room_1]; omega⟩ (fun k u H locs hp hH => ?_)
  obtain ⟨⟨fs, h85⟩, Q2, hQ2, hfin⟩ := hPQ k u hp
  refine lv_istore (lv' := [(6, .int (iZ k)), (5, .int (iZ (4 * (n : Int)))), (0, .ref b), (1, .ref (xad E 0)), (2, .ref (xad E 85)), (3, .ref (xad E 96)), (4, .ref (xad E 97))]) hx hb dL_law_2035 hl (by decide) rfl (fun ls hl => ?_)
  refine lv_aload_n hx hb dL_law_2037 rfl (lv_at hl 4 rfl) ?_
  refine lv_aload_n hx hb dL_law_2038 rfl (lv_at hl 2 rfl) ?_
  refine lv_iload hx hb dL_law_2039 (lv_at hl 1 rfl) ?_
  refine x_iconst (n := 1) hx hb dL_law_2041 ?_
  refine x_iadd hx hb dL_law_2042 ?_
  refine x_scr hx hb hX hbl hH (by omega) (by omega) hL e0 dL_law_2043 ?_
  refine lv_aload_n hx hb dL_law_2044 rfl (lv_at hl 2 rfl) ?_
  refine lv_iload hx hb dL_law_2045 (lv_at hl 1 rfl) ?_
  refine x_iconst (n := 2) hx hb dL_law_2047 ?_
  refine x_iadd hx hb dL_law_2048 ?_
  refine x_scr hx hb hX hbl hH (by omega) (by omega) hL e1 dL_law_2049 ?_
  refine lv_aload_n hx hb dL_law_2050 rfl (lv_at hl 2 rfl) ?_
  refine lv_iload hx hb dL_law_2051 (lv_at hl 1 rfl) ?_
  refine x_iconst (n := 3) hx hb dL_law_2053 ?_
  refine x_iadd hx hb dL_law_2054 ?_
  refine x_scr hx hb hX hbl hH (by omega) (by omega) hL e2 dL_law_2055 ?_
  refine x_cVI (As := [.int (iZ p0), .int (iZ p1), .int (iZ p2)]) (rest := []) hx hb hml hts hown hK hST hOK hH 85 hQ2 (cwV 3 hts gL_law_X7_pathLength rfl rfl rfl (by decide +kernel) ⟨Nat.le_of_ble_eq_true rfl, Nat.le_of_ble_eq_true rfl⟩) (by decide) h85 rfl rfl hl.1 rfl (Nat.le_of_ble_eq_true rfl) dL_law_2056 ⟨by simp only [rm_L_pathLength, rm_X7_pathLength, room_1]; omega, by simp only [rm_L_pathLength, rm_X7_pathLength, room_1]; omega⟩ (fun z t H locs hq hH => ?_)
  obtain ⟨hT, hkr, h96⟩ := hfin z t hq
  refine lv_istore (lv' := [(7, .int (iZ z)), (6, .int (iZ k)), (5, .int (iZ (4 * (n : Int)))), (0, .ref b), (1, .ref (xad E 0)), (2, .ref (xad E 85)), (3, .ref (xad E 96)), (4, .ref (xad E 97))]) hx hb dL_law_2059 hl (by decide) rfl (fun ls hl => ?_)
  obtain ⟨sv, re, ea, fa, ty, li, sz, sp, wr, to, hmo⟩ := hT.mo
  have h85t : t 85 = oB 5 _ := hmo
  refine lv_aload_n hx hb dL_law_2061 rfl (lv_at hl 5 rfl) ?_
  refine x_cVID (z0 := k) (As := []) (rest := []) hx hb hml hts hown hK hST hOK hH 85 (c_X7_thrown l E ST hSF t sv re ea fa ty li k sz sp wr to hmo) (cwV 0 hts gL_law_X7_thrown rfl rfl rfl (by decide +kernel) ⟨Nat.le_of_ble_eq_true rfl, Nat.le_of_ble_eq_true rfl⟩) (by decide) h85t rfl rfl hl.1 rfl (Nat.le_of_ble_eq_true rfl) dL_law_2062 ⟨by simp only [rm_L_pathLength, rm_X7_pathLength, rm_X7_thrown, room_1]; omega, by simp only [rm_L_pathLength, rm_X7_pathLength, rm_X7_thrown, room_1]; omega⟩ (fun z u h => h) (fun H locs hH => ?_)
  refine lv_iload hx hb dL_law_2065 (lv_at hl 1 rfl) ?_
  refine lv_icmp_eq (tgt := 2072) hx hb dL_law_2067 (by decide) (fun _ => ?_) (fun c9 => absurd rfl c9)
  refine lv_iload hx hb dL_law_2072 (lv_at hl 1 rfl) ?_
  refine x_if_ne (tgt := 2089) hx hb dL_law_2074 (by decide) hkr (fun c0 => ?_) (fun c0 => ?_)
  · refine lv_goto (tgt := 2984) hx hb dL_law_2089 (by decide) ?_
    exact W.widen (by simp only [rm_L_pathLength, rm_X7_pathLength, rm_X7_thrown]; omega) (by simp only [rm_L_pathLength, rm_X7_pathLength, rm_X7_thrown]; omega) (kk t H locs ls ⟨k, hkr, hT⟩ hH (lv_sub hl [2, 3, 4, 5, 6, 7] rfl))
  · refine lv_aload_n hx hb dL_law_2077 rfl (lv_at hl 6 rfl) ?_
    refine x_iconst (n := 0) hx hb dL_law_2078 ?_
    refine x_lald hx hb hK hH (h96 c0) dL_law_2079 ?_
    refine lv_iload hx hb dL_law_2080 (lv_at hl 0 rfl) ?_
    refine lv_i2l (v := (iZ z).toInt64) hx hb dL_law_2082 rfl ?_
    refine W.lcmp hx hb dL_law_2083 ?_
    refine lv_if_eq (tgt := 2089) hx hb dL_law_2084 (by decide) (fun _ => ?_) (fun c9 => absurd ((lg_cmp_eq _ _).mpr rfl) c9)
    refine lv_goto (tgt := 2984) hx hb dL_law_2089 (by decide) ?_
    exact W.widen (by simp only [rm_L_pathLength, rm_X7_pathLength, rm_X7_thrown]; omega) (by simp only [rm_L_pathLength, rm_X7_pathLength, rm_X7_thrown]; omega) (kk t H locs ls ⟨k, hkr, hT⟩ hH (lv_sub hl [2, 3, 4, 5, 6, 7] rfl))
set_option maxRecDepth 100000 in
set_option maxHeartbeats 4000000 in
theorem lc_29 {p : Program} {l : Launch} {e : Env} {s : State} {m : MethodId} {below : List Frame} {meth : Method} {c : Code} {Q : State → Prop} {E : xE} {ST : xST} {Z : zE} {b L : Nat} {xs : Nat → Int32} (G : LX l E ST Z p s m meth c b L xs) {n : Nat} (hn : 4 * n + 4 ≤ L) {σ : xW} {H : Heap} {locs : List Loc} {ls : Array Slot} (hI : INV (n : Int) E σ) (hH : Hx E (fun q => s.heap.size ≤ q) s.heap σ H locs) (hl : lv_has ls 10 [(5, .int (iZ (4 * (n : Int)))), (0, .ref b), (1, .ref (xad E 0)), (2, .ref (xad E 85)), (3, .ref (xad E 96)), (4, .ref (xad E 97))])
    (kk : ∀ (σ1 : xW) (H1 : Heap) (locs1 : List Loc) (ls1 : Array Slot), INV ((n : Int) + 1) E σ1 → Hx E (fun q => s.heap.size ≤ q) s.heap σ1 H1 locs1 → lv_has ls1 10 [(5, .int (iZ (4 * (n : Int)))), (0, .ref b), (1, .ref (xad E 0)), (2, .ref (xad E 85)), (3, .ref (xad E 96)), (4, .ref (xad E 97))] → W p l e room_1 s m #[Value.ref b] below meth c H1 locs1 (100 + 10 * (n + 1)) (3000 + 100 * (n + 1)) Q (F0 m 2984 ls1 [])) : W p l e room_1 s m #[Value.ref b] below meth c H locs (100 + 10 * n) (3000 + 100 * n) Q (F0 m 2092 ls []) := by
  obtain ⟨hx, hb, hml, hown, hts, hK, hST, hSF, hSX, hSQ, htr, hX, hbl, hlocks, hr, hL⟩ := G
  have hOK := hSF.1
  have hn6 : (0 : Int) ≤ (n : Int) ∧ (n : Int) ≤ 600 := by omega
  obtain ⟨p0, e0⟩ : ∃ y : Int, y = (xs (4 * (n : Int) + 1).toNat).toInt := ⟨_, rfl⟩
  have r0 : rg p0 := by rw [e0]; exact iZ_rg _
  obtain ⟨p1, e1⟩ : ∃ y : Int, y = (xs (4 * (n : Int) + 2).toNat).toInt := ⟨_, rfl⟩
  have r1 : rg p1 := by rw [e1]; exact iZ_rg _
  obtain ⟨p2, e2⟩ : ∃ y : Int, y = (xs (4 * (n : Int) + 3).toNat).toInt := ⟨_, rfl⟩
  have r2 : rg p2 := by rw [e2]; exact iZ_rg _
  obtain ⟨P, hP, hPQ⟩ := s_pathLengthByRounds l E ST hSF hSX htr hn6 hI p0 p1 p2 r0 r1 r2
  refine lv_aload_n hx hb dL_law_2092 rfl (lv_at hl 2 rfl) ?_
  refine lv_aload_n hx hb dL_law_2093 rfl (lv_at hl 1 rfl) ?_
  refine lv_iload hx hb dL_law_2094 (lv_at hl 0 rfl) ?_
  refine x_iconst (n := 1) hx hb dL_law_2096 ?_
  refine x_iadd hx hb dL_law_2097 ?_
  refine x_scr hx hb hX hbl hH (by omega) (by omega) hL e0 dL_law_2098 ?_
  refine lv_aload_n hx hb dL_law_2099 rfl (lv_at hl 1 rfl) ?_
  refine lv_iload hx hb dL_law_2100 (lv_at hl 0 rfl) ?_
  refine x_iconst (n := 2) hx hb dL_law_2102 ?_
  refine x_iadd hx hb dL_law_2103 ?_
  refine x_scr hx hb hX hbl hH (by omega) (by omega) hL e1 dL_law_2104 ?_
  refine lv_aload_n hx hb dL_law_2105 rfl (lv_at hl 1 rfl) ?_
  refine lv_iload hx hb dL_law_2106 (lv_at hl 0 rfl) ?_
  refine x_iconst (n := 3) hx hb dL_law_2108 ?_
  refine x_iadd hx hb dL_law_2109 ?_
  refine x_scr hx hb hX hbl hH (by omega) (by omega) hL e2 dL_law_2110 ?_
  refine lv_aload_n hx hb dL_law_2111 rfl (lv_at hl 4 rfl) ?_
  refine x_cSW (As := [.ref (xad E 0), .int (iZ p0), .int (iZ p1), .int (iZ p2), .ref (xad E 96)]) (rest := []) hx hb hml hts hown hK hST hOK hH hP (vx_cwSW 5 hts gL_law_L_pathLengthByRounds rfl rfl rfl (by decide +kernel) ⟨Nat.le_of_ble_eq_true rfl, Nat.le_of_ble_eq_true rfl⟩) rfl hl.1 rfl (Nat.le_of_ble_eq_true rfl) dL_law_2112 ⟨by simp only [rm_L_pathLengthByRounds, room_1]; omega, by simp only [rm_L_pathLengthByRounds, room_1]; omega⟩ (fun k u H locs hp hH => ?_)
  obtain ⟨⟨fs, h85⟩, Q2, hQ2, hfin⟩ := hPQ k u hp
  refine lv_istore (lv' := [(6, .int (iZ k)), (5, .int (iZ (4 * (n : Int)))), (0, .ref b), (1, .ref (xad E 0)), (2, .ref (xad E 85)), (3, .ref (xad E 96)), (4, .ref (xad E 97))]) hx hb dL_law_2115 hl (by decide) rfl (fun ls hl => ?_)
  refine lv_aload_n hx hb dL_law_2117 rfl (lv_at hl 4 rfl) ?_
  refine lv_aload_n hx hb dL_law_2118 rfl (lv_at hl 2 rfl) ?_
  refine lv_iload hx hb dL_law_2119 (lv_at hl 1 rfl) ?_
  refine x_iconst (n := 1) hx hb dL_law_2121 ?_
  refine x_iadd hx hb dL_law_2122 ?_
  refine x_scr hx hb hX hbl hH (by omega) (by omega) hL e0 dL_law_2123 ?_
  refine lv_aload_n hx hb dL_law_2124 rfl (lv_at hl 2 rfl) ?_
  refine lv_iload hx hb dL_law_2125 (lv_at hl 1 rfl) ?_
  refine x_iconst (n := 2) hx hb dL_law_2127 ?_
  refine x_iadd hx hb dL_law_2128 ?_
  refine x_scr hx hb hX hbl hH (by omega) (by omega) hL e1 dL_law_2129 ?_
  refine lv_aload_n hx hb dL_law_2130 rfl (lv_at hl 2 rfl) ?_
  refine lv_iload hx hb dL_law_2131 (lv_at hl 1 rfl) ?_
  refine x_iconst (n := 3) hx hb dL_law_2133 ?_
  refine x_iadd hx hb dL_law_2134 ?_
  refine x_scr hx hb hX hbl hH (by omega) (by omega) hL e2 dL_law_2135 ?_
  refine x_cVI (As := [.int (iZ p0), .int (iZ p1), .int (iZ p2)]) (rest := []) hx hb hml hts hown hK hST hOK hH 85 hQ2 (cwV 3 hts gL_law_X7_pathLengthByRounds rfl rfl rfl (by decide +kernel) ⟨Nat.le_of_ble_eq_true rfl, Nat.le_of_ble_eq_true rfl⟩) (by decide) h85 rfl rfl hl.1 rfl (Nat.le_of_ble_eq_true rfl) dL_law_2136 ⟨by simp only [rm_L_pathLengthByRounds, rm_X7_pathLengthByRounds, room_1]; omega, by simp only [rm_L_pathLengthByRounds, rm_X7_pathLengthByRounds, room_1]; omega⟩ (fun z t H locs hq hH => ?_)
  obtain ⟨hT, hkr, h96⟩ := hfin z t hq
  refine lv_istore (lv' := [(7, .int (iZ z)), (6, .int (iZ k)), (5, .int (iZ (4 * (n : Int)))), (0, .ref b), (1, .ref (xad E 0)), (2, .ref (xad E 85)), (3, .ref (xad E 96)), (4, .ref (xad E 97))]) hx hb dL_law_2139 hl (by decide) rfl (fun ls hl => ?_)
  obtain ⟨sv, re, ea, fa, ty, li, sz, sp, wr, to, hmo⟩ := hT.mo
  have h85t : t 85 = oB 5 _ := hmo
  refine lv_aload_n hx hb dL_law_2141 rfl (lv_at hl 5 rfl) ?_
  refine x_cVID (z0 := k) (As := []) (rest := []) hx hb hml hts hown hK hST hOK hH 85 (c_X7_thrown l E ST hSF t sv re ea fa ty li k sz sp wr to hmo) (cwV 0 hts gL_law_X7_thrown rfl rfl rfl (by decide +kernel) ⟨Nat.le_of_ble_eq_true rfl, Nat.le_of_ble_eq_true rfl⟩) (by decide) h85t rfl rfl hl.1 rfl (Nat.le_of_ble_eq_true rfl) dL_law_2142 ⟨by simp only [rm_L_pathLengthByRounds, rm_X7_pathLengthByRounds, rm_X7_thrown, room_1]; omega, by simp only [rm_L_pathLengthByRounds, rm_X7_pathLengthByRounds, rm_X7_thrown, room_1]; omega⟩ (fun z u h => h) (fun H locs hH => ?_)
  refine lv_iload hx hb dL_law_2145 (lv_at hl 1 rfl) ?_
  refine lv_icmp_eq (tgt := 2152) hx hb dL_law_2147 (by decide) (fun _ => ?_) (fun c9 => absurd rfl c9)
  refine lv_iload hx hb dL_law_2152 (lv_at hl 1 rfl) ?_
  refine x_if_ne (tgt := 2169) hx hb dL_law_2154 (by decide) hkr (fun c0 => ?_) (fun c0 => ?_)
  · refine lv_goto (tgt := 2984) hx hb dL_law_2169 (by decide) ?_
    exact W.widen (by simp only [rm_L_pathLengthByRounds, rm_X7_pathLengthByRounds, rm_X7_thrown]; omega) (by simp only [rm_L_pathLengthByRounds, rm_X7_pathLengthByRounds, rm_X7_thrown]; omega) (kk t H locs ls ⟨k, hkr, hT⟩ hH (lv_sub hl [2, 3, 4, 5, 6, 7] rfl))
  · refine lv_aload_n hx hb dL_law_2157 rfl (lv_at hl 6 rfl) ?_
    refine x_iconst (n := 0) hx hb dL_law_2158 ?_
    refine x_lald hx hb hK hH (h96 c0) dL_law_2159 ?_
    refine lv_iload hx hb dL_law_2160 (lv_at hl 0 rfl) ?_
    refine lv_i2l (v := (iZ z).toInt64) hx hb dL_law_2162 rfl ?_
    refine W.lcmp hx hb dL_law_2163 ?_
    refine lv_if_eq (tgt := 2169) hx hb dL_law_2164 (by decide) (fun _ => ?_) (fun c9 => absurd ((lg_cmp_eq _ _).mpr rfl) c9)
    refine lv_goto (tgt := 2984) hx hb dL_law_2169 (by decide) ?_
    exact W.widen (by simp only [rm_L_pathLengthByRounds, rm_X7_pathLengthByRounds, rm_X7_thrown]; omega) (by simp only [rm_L_pathLengthByRounds, rm_X7_pathLengthByRounds, rm_X7_thrown]; omega) (kk t H locs ls ⟨k, hkr, hT⟩ hH (lv_sub hl [2, 3, 4, 5, 6, 7] rfl))
set_option maxRecDepth 100000 in
set_option maxHeartbeats 4000000 in
theorem lc_30 {p : Program} {l : Launch} {e : Env} {s : State} {m : MethodId} {below : List Frame} {meth : Method} {c : Code} {Q : State → Prop} {E : xE} {ST : xST} {Z : zE} {b L : Nat} {xs : Nat → Int32} (G : LX l E ST Z p s m meth c b L xs) {n : Nat} (hn : 4 * n + 4 ≤ L) {σ : xW} {H : Heap} {locs : List Loc} {ls : Array Slot} (hI : INV (n : Int) E σ) (hH : Hx E (fun q => s.heap.size ≤ q) s.heap σ H locs) (hl : lv_has ls 10 [(5, .int (iZ (4 * (n : Int)))), (0, .ref b), (1, .ref (xad E 0)), (2, .ref (xad E 85)), (3, .ref (xad E 96)), (4, .ref (xad E 97))])
    (kk : ∀ (σ1 : xW) (H1 : Heap) (locs1 : List Loc) (ls1 : Array Slot), INV ((n : Int) + 1) E σ1 → Hx E (fun q => s.heap.size ≤ q) s.heap σ1 H1 locs1 → lv_has ls1 10 [(5, .int (iZ (4 * (n : Int)))), (0, .ref b), (1, .ref (xad E 0)), (2, .ref (xad E 85)), (3, .ref (xad E 96)), (4, .ref (xad E 97))] → W p l e room_1 s m #[Value.ref b] below meth c H1 locs1 (100 + 10 * (n + 1)) (3000 + 100 * (n + 1)) Q (F0 m 2984 ls1 [])) : W p l e room_1 s m #[Value.ref b] below meth c H locs (100 + 10 * n) (3000 + 100 * n) Q (F0 m 2172 ls []) := by
  obtain ⟨hx, hb, hml, hown, hts, hK, hST, hSF, hSX, hSQ, htr, hX, hbl, hlocks, hr, hL⟩ := G
  have hOK := hSF.1
  have hn6 : (0 : Int) ≤ (n : Int) ∧ (n : Int) ≤ 600 := by omega
  obtain ⟨p0, e0⟩ : ∃ y : Int, y = (xs (4 * (n : Int) + 1).toNat).toInt := ⟨_, rfl⟩
  have r0 : rg p0 := by rw [e0]; exact iZ_rg _
  obtain ⟨p1, e1⟩ : ∃ y : Int, y = (xs (4 * (n : Int) + 2).toNat).toInt := ⟨_, rfl⟩
  have r1 : rg p1 := by rw [e1]; exact iZ_rg _
  obtain ⟨p2, e2⟩ : ∃ y : Int, y = (xs (4 * (n : Int) + 3).toNat).toInt := ⟨_, rfl⟩
  have r2 : rg p2 := by rw [e2]; exact iZ_rg _
  obtain ⟨P, hP, hPQ⟩ := s_firstStep l E ST hSF hSX htr hn6 hI p0 p1 p2 r0 r1 r2
  refine lv_aload_n hx hb dL_law_2172 rfl (lv_at hl 2 rfl) ?_
  refine lv_aload_n hx hb dL_law_2173 rfl (lv_at hl 1 rfl) ?_
  refine lv_iload hx hb dL_law_2174 (lv_at hl 0 rfl) ?_
  refine x_iconst (n := 1) hx hb dL_law_2176 ?_
  refine x_iadd hx hb dL_law_2177 ?_
  refine x_scr hx hb hX hbl hH (by omega) (by omega) hL e0 dL_law_2178 ?_
  refine lv_aload_n hx hb dL_law_2179 rfl (lv_at hl 1 rfl) ?_
  refine lv_iload hx hb dL_law_2180 (lv_at hl 0 rfl) ?_
  refine x_iconst (n := 2) hx hb dL_law_2182 ?_
  refine x_iadd hx hb dL_law_2183 ?_
  refine x_scr hx hb hX hbl hH (by omega) (by omega) hL e1 dL_law_2184 ?_
  refine lv_aload_n hx hb dL_law_2185 rfl (lv_at hl 1 rfl) ?_
  refine lv_iload hx hb dL_law_2186 (lv_at hl 0 rfl) ?_
  refine x_iconst (n := 3) hx hb dL_law_2188 ?_
  refine x_iadd hx hb dL_law_2189 ?_
  refine x_scr hx hb hX hbl hH (by omega) (by omega) hL e2 dL_law_2190 ?_
  refine lv_aload_n hx hb dL_law_2191 rfl (lv_at hl 4 rfl) ?_
  refine x_cSW (As := [.ref (xad E 0), .int (iZ p0), .int (iZ p1), .int (iZ p2), .ref (xad E 96)]) (rest := []) hx hb hml hts hown hK hST hOK hH hP (vx_cwSW 5 hts gL_law_L_firstStep rfl rfl rfl (by decide +kernel) ⟨Nat.le_of_ble_eq_true rfl, Nat.le_of_ble_eq_true rfl⟩) rfl hl.1 rfl (Nat.le_of_ble_eq_true rfl) dL_law_2192 ⟨by simp only [rm_L_firstStep, room_1]; omega, by simp only [rm_L_firstStep, room_1]; omega⟩ (fun k u H locs hp hH => ?_)
  obtain ⟨⟨fs, h85⟩, Q2, hQ2, hfin⟩ := hPQ k u hp
  refine lv_istore (lv' := [(6, .int (iZ k)), (5, .int (iZ (4 * (n : Int)))), (0, .ref b), (1, .ref (xad E 0)), (2, .ref (xad E 85)), (3, .ref (xad E 96)), (4, .ref (xad E 97))]) hx hb dL_law_2195 hl (by decide) rfl (fun ls hl => ?_)
  refine lv_aload_n hx hb dL_law_2197 rfl (lv_at hl 4 rfl) ?_
  refine lv_aload_n hx hb dL_law_2198 rfl (lv_at hl 2 rfl) ?_
  refine lv_iload hx hb dL_law_2199 (lv_at hl 1 rfl) ?_
  refine x_iconst (n := 1) hx hb dL_law_2201 ?_
  refine x_iadd hx hb dL_law_2202 ?_
  refine x_scr hx hb hX hbl hH (by omega) (by omega) hL e0 dL_law_2203 ?_
  refine lv_aload_n hx hb dL_law_2204 rfl (lv_at hl 2 rfl) ?_
  refine lv_iload hx hb dL_law_2205 (lv_at hl 1 rfl) ?_
  refine x_iconst (n := 2) hx hb dL_law_2207 ?_
  refine x_iadd hx hb dL_law_2208 ?_
  refine x_scr hx hb hX hbl hH (by omega) (by omega) hL e1 dL_law_2209 ?_
  refine lv_aload_n hx hb dL_law_2210 rfl (lv_at hl 2 rfl) ?_
  refine lv_iload hx hb dL_law_2211 (lv_at hl 1 rfl) ?_
  refine x_iconst (n := 3) hx hb dL_law_2213 ?_
  refine x_iadd hx hb dL_law_2214 ?_
  refine x_scr hx hb hX hbl hH (by omega) (by omega) hL e2 dL_law_2215 ?_
  refine x_cVI (As := [.int (iZ p0), .int (iZ p1), .int (iZ p2)]) (rest := []) hx hb hml hts hown hK hST hOK hH 85 hQ2 (cwV 3 hts gL_law_X7_firstStep rfl rfl rfl (by decide +kernel) ⟨Nat.le_of_ble_eq_true rfl, Nat.le_of_ble_eq_true rfl⟩) (by decide) h85 rfl rfl hl.1 rfl (Nat.le_of_ble_eq_true rfl) dL_law_2216 ⟨by simp only [rm_L_firstStep, rm_X7_firstStep, room_1]; omega, by simp only [rm_L_firstStep, rm_X7_firstStep, room_1]; omega⟩ (fun z t H locs hq hH => ?_)
  obtain ⟨hT, hkr, h96⟩ := hfin z t hq
  refine lv_istore (lv' := [(7, .int (iZ z)), (6, .int (iZ k)), (5, .int (iZ (4 * (n : Int)))), (0, .ref b), (1, .ref (xad E 0)), (2, .ref (xad E 85)), (3, .ref (xad E 96)), (4, .ref (xad E 97))]) hx hb dL_law_2219 hl (by decide) rfl (fun ls hl => ?_)
  obtain ⟨sv, re, ea, fa, ty, li, sz, sp, wr, to, hmo⟩ := hT.mo
  have h85t : t 85 = oB 5 _ := hmo
  refine lv_aload_n hx hb dL_law_2221 rfl (lv_at hl 5 rfl) ?_
  refine x_cVID (z0 := k) (As := []) (rest := []) hx hb hml hts hown hK hST hOK hH 85 (c_X7_thrown l E ST hSF t sv re ea fa ty li k sz sp wr to hmo) (cwV 0 hts gL_law_X7_thrown rfl rfl rfl (by decide +kernel) ⟨Nat.le_of_ble_eq_true rfl, Nat.le_of_ble_eq_true rfl⟩) (by decide) h85t rfl rfl hl.1 rfl (Nat.le_of_ble_eq_true rfl) dL_law_2222 ⟨by simp only [rm_L_firstStep, rm_X7_firstStep, rm_X7_thrown, room_1]; omega, by simp only [rm_L_firstStep, rm_X7_firstStep, rm_X7_thrown, room_1]; omega⟩ (fun z u h => h) (fun H locs hH => ?_)
  refine lv_iload hx hb dL_law_2225 (lv_at hl 1 rfl) ?_
  refine lv_icmp_eq (tgt := 2232) hx hb dL_law_2227 (by decide) (fun _ => ?_) (fun c9 => absurd rfl c9)
  refine lv_iload hx hb dL_law_2232 (lv_at hl 1 rfl) ?_
  refine x_if_ne (tgt := 2249) hx hb dL_law_2234 (by decide) hkr (fun c0 => ?_) (fun c0 => ?_)
  · refine lv_goto (tgt := 2984) hx hb dL_law_2249 (by decide) ?_
    exact W.widen (by simp only [rm_L_firstStep, rm_X7_firstStep, rm_X7_thrown]; omega) (by simp only [rm_L_firstStep, rm_X7_firstStep, rm_X7_thrown]; omega) (kk t H locs ls ⟨k, hkr, hT⟩ hH (lv_sub hl [2, 3, 4, 5, 6, 7] rfl))
  · refine lv_aload_n hx hb dL_law_2237 rfl (lv_at hl 6 rfl) ?_
    refine x_iconst (n := 0) hx hb dL_law_2238 ?_
    refine x_lald hx hb hK hH (h96 c0) dL_law_2239 ?_
    refine lv_iload hx hb dL_law_2240 (lv_at hl 0 rfl) ?_
    refine lv_i2l (v := (iZ z).toInt64) hx hb dL_law_2242 rfl ?_
    refine W.lcmp hx hb dL_law_2243 ?_
    refine lv_if_eq (tgt := 2249) hx hb dL_law_2244 (by decide) (fun _ => ?_) (fun c9 => absurd ((lg_cmp_eq _ _).mpr rfl) c9)
    refine lv_goto (tgt := 2984) hx hb dL_law_2249 (by decide) ?_
    exact W.widen (by simp only [rm_L_firstStep, rm_X7_firstStep, rm_X7_thrown]; omega) (by simp only [rm_L_firstStep, rm_X7_firstStep, rm_X7_thrown]; omega) (kk t H locs ls ⟨k, hkr, hT⟩ hH (lv_sub hl [2, 3, 4, 5, 6, 7] rfl))
set_option maxRecDepth 100000 in
set_option maxHeartbeats 4000000 in
theorem lc_31 {p : Program} {l : Launch} {e : Env} {s : State} {m : MethodId} {below : List Frame} {meth : Method} {c : Code} {Q : State → Prop} {E : xE} {ST : xST} {Z : zE} {b L : Nat} {xs : Nat → Int32} (G : LX l E ST Z p s m meth c b L xs) {n : Nat} (hn : 4 * n + 4 ≤ L) {σ : xW} {H : Heap} {locs : List Loc} {ls : Array Slot} (hI : INV (n : Int) E σ) (hH : Hx E (fun q => s.heap.size ≤ q) s.heap σ H locs) (hl : lv_has ls 10 [(5, .int (iZ (4 * (n : Int)))), (0, .ref b), (1, .ref (xad E 0)), (2, .ref (xad E 85)), (3, .ref (xad E 96)), (4, .ref (xad E 97))])
    (kk : ∀ (σ1 : xW) (H1 : Heap) (locs1 : List Loc) (ls1 : Array Slot), INV ((n : Int) + 1) E σ1 → Hx E (fun q => s.heap.size ≤ q) s.heap σ1 H1 locs1 → lv_has ls1 10 [(5, .int (iZ (4 * (n : Int)))), (0, .ref b), (1, .ref (xad E 0)), (2, .ref (xad E 85)), (3, .ref (xad E 96)), (4, .ref (xad E 97))] → W p l e room_1 s m #[Value.ref b] below meth c H1 locs1 (100 + 10 * (n + 1)) (3000 + 100 * (n + 1)) Q (F0 m 2984 ls1 [])) : W p l e room_1 s m #[Value.ref b] below meth c H locs (100 + 10 * n) (3000 + 100 * n) Q (F0 m 2252 ls []) := by
  obtain ⟨hx, hb, hml, hown, hts, hK, hST, hSF, hSX, hSQ, htr, hX, hbl, hlocks, hr, hL⟩ := G
  have hOK := hSF.1
  have hn6 : (0 : Int) ≤ (n : Int) ∧ (n : Int) ≤ 600 := by omega
  obtain ⟨p0, e0⟩ : ∃ y : Int, y = (xs (4 * (n : Int) + 1).toNat).toInt := ⟨_, rfl⟩
  have r0 : rg p0 := by rw [e0]; exact iZ_rg _
  obtain ⟨P, hP, hPQ⟩ := s_reachableCells l E ST hSF hSX htr hn6 hI p0 r0
  refine lv_aload_n hx hb dL_law_2252 rfl (lv_at hl 2 rfl) ?_
  refine lv_aload_n hx hb dL_law_2253 rfl (lv_at hl 1 rfl) ?_
  refine lv_iload hx hb dL_law_2254 (lv_at hl 0 rfl) ?_
  refine x_iconst (n := 1) hx hb dL_law_2256 ?_
  refine x_iadd hx hb dL_law_2257 ?_
  refine x_scr hx hb hX hbl hH (by omega) (by omega) hL e0 dL_law_2258 ?_
  refine lv_aload_n hx hb dL_law_2259 rfl (lv_at hl 4 rfl) ?_
  refine x_cSW (As := [.ref (xad E 0), .int (iZ p0), .ref (xad E 96)]) (rest := []) hx hb hml hts hown hK hST hOK hH hP (vx_cwSW 3 hts gL_law_L_reachableCells rfl rfl rfl (by decide +kernel) ⟨Nat.le_of_ble_eq_true rfl, Nat.le_of_ble_eq_true rfl⟩) rfl hl.1 rfl (Nat.le_of_ble_eq_true rfl) dL_law_2260 ⟨by simp only [rm_L_reachableCells, room_1]; omega, by simp only [rm_L_reachableCells, room_1]; omega⟩ (fun k u H locs hp hH => ?_)
  obtain ⟨⟨fs, h85⟩, Q2, hQ2, hfin⟩ := hPQ k u hp
  refine lv_istore (lv' := [(6, .int (iZ k)), (5, .int (iZ (4 * (n : Int)))), (0, .ref b), (1, .ref (xad E 0)), (2, .ref (xad E 85)), (3, .ref (xad E 96)), (4, .ref (xad E 97))]) hx hb dL_law_2263 hl (by decide) rfl (fun ls hl => ?_)
  refine lv_aload_n hx hb dL_law_2265 rfl (lv_at hl 4 rfl) ?_
  refine lv_aload_n hx hb dL_law_2266 rfl (lv_at hl 2 rfl) ?_
  refine lv_iload hx hb dL_law_2267 (lv_at hl 1 rfl) ?_
  refine x_iconst (n := 1) hx hb dL_law_2269 ?_
  refine x_iadd hx hb dL_law_2270 ?_
  refine x_scr hx hb hX hbl hH (by omega) (by omega) hL e0 dL_law_2271 ?_
  refine x_cVI (As := [.int (iZ p0)]) (rest := []) hx hb hml hts hown hK hST hOK hH 85 hQ2 (cwV 1 hts gL_law_X7_reachableCells rfl rfl rfl (by decide +kernel) ⟨Nat.le_of_ble_eq_true rfl, Nat.le_of_ble_eq_true rfl⟩) (by decide) h85 rfl rfl hl.1 rfl (Nat.le_of_ble_eq_true rfl) dL_law_2272 ⟨by simp only [rm_L_reachableCells, rm_X7_reachableCells, room_1]; omega, by simp only [rm_L_reachableCells, rm_X7_reachableCells, room_1]; omega⟩ (fun z t H locs hq hH => ?_)
  obtain ⟨hT, hkr, h96⟩ := hfin z t hq
  refine lv_istore (lv' := [(7, .int (iZ z)), (6, .int (iZ k)), (5, .int (iZ (4 * (n : Int)))), (0, .ref b), (1, .ref (xad E 0)), (2, .ref (xad E 85)), (3, .ref (xad E 96)), (4, .ref (xad E 97))]) hx hb dL_law_2275 hl (by decide) rfl (fun ls hl => ?_)
  obtain ⟨sv, re, ea, fa, ty, li, sz, sp, wr, to, hmo⟩ := hT.mo
  have h85t : t 85 = oB 5 _ := hmo
  refine lv_aload_n hx hb dL_law_2277 rfl (lv_at hl 5 rfl) ?_
  refine x_cVID (z0 := k) (As := []) (rest := []) hx hb hml hts hown hK hST hOK hH 85 (c_X7_thrown l E ST hSF t sv re ea fa ty li k sz sp wr to hmo) (cwV 0 hts gL_law_X7_thrown rfl rfl rfl (by decide +kernel) ⟨Nat.le_of_ble_eq_true rfl, Nat.le_of_ble_eq_true rfl⟩) (by decide) h85t rfl rfl hl.1 rfl (Nat.le_of_ble_eq_true rfl) dL_law_2278 ⟨by simp only [rm_L_reachableCells, rm_X7_reachableCells, rm_X7_thrown, room_1]; omega, by simp only [rm_L_reachableCells, rm_X7_reachableCells, rm_X7_thrown, room_1]; omega⟩ (fun z u h => h) (fun H locs hH => ?_)
  refine lv_iload hx hb dL_law_2281 (lv_at hl 1 rfl) ?_
  refine lv_icmp_eq (tgt := 2288) hx hb dL_law_2283 (by decide) (fun _ => ?_) (fun c9 => absurd rfl c9)
  refine lv_iload hx hb dL_law_2288 (lv_at hl 1 rfl) ?_
  refine x_if_ne (tgt := 2305) hx hb dL_law_2290 (by decide) hkr (fun c0 => ?_) (fun c0 => ?_)
  · refine lv_goto (tgt := 2984) hx hb dL_law_2305 (by decide) ?_
    exact W.widen (by simp only [rm_L_reachableCells, rm_X7_reachableCells, rm_X7_thrown]; omega) (by simp only [rm_L_reachableCells, rm_X7_reachableCells, rm_X7_thrown]; omega) (kk t H locs ls ⟨k, hkr, hT⟩ hH (lv_sub hl [2, 3, 4, 5, 6, 7] rfl))
  · refine lv_aload_n hx hb dL_law_2293 rfl (lv_at hl 6 rfl) ?_
    refine x_iconst (n := 0) hx hb dL_law_2294 ?_
    refine x_lald hx hb hK hH (h96 c0) dL_law_2295 ?_
    refine lv_iload hx hb dL_law_2296 (lv_at hl 0 rfl) ?_
    refine lv_i2l (v := (iZ z).toInt64) hx hb dL_law_2298 rfl ?_
    refine W.lcmp hx hb dL_law_2299 ?_
    refine lv_if_eq (tgt := 2305) hx hb dL_law_2300 (by decide) (fun _ => ?_) (fun c9 => absurd ((lg_cmp_eq _ _).mpr rfl) c9)
    refine lv_goto (tgt := 2984) hx hb dL_law_2305 (by decide) ?_
    exact W.widen (by simp only [rm_L_reachableCells, rm_X7_reachableCells, rm_X7_thrown]; omega) (by simp only [rm_L_reachableCells, rm_X7_reachableCells, rm_X7_thrown]; omega) (kk t H locs ls ⟨k, hkr, hT⟩ hH (lv_sub hl [2, 3, 4, 5, 6, 7] rfl))
set_option maxRecDepth 100000 in
set_option maxHeartbeats 4000000 in
theorem lc_32 {p : Program} {l : Launch} {e : Env} {s : State} {m : MethodId} {below : List Frame} {meth : Method} {c : Code} {Q : State → Prop} {E : xE} {ST : xST} {Z : zE} {b L : Nat} {xs : Nat → Int32} (G : LX l E ST Z p s m meth c b L xs) {n : Nat} (hn : 4 * n + 4 ≤ L) {σ : xW} {H : Heap} {locs : List Loc} {ls : Array Slot} (hI : INV (n : Int) E σ) (hH : Hx E (fun q => s.heap.size ≤ q) s.heap σ H locs) (hl : lv_has ls 10 [(5, .int (iZ (4 * (n : Int)))), (0, .ref b), (1, .ref (xad E 0)), (2, .ref (xad E 85)), (3, .ref (xad E 96)), (4, .ref (xad E 97))])
    (kk : ∀ (σ1 : xW) (H1 : Heap) (locs1 : List Loc) (ls1 : Array Slot), INV ((n : Int) + 1) E σ1 → Hx E (fun q => s.heap.size ≤ q) s.heap σ1 H1 locs1 → lv_has ls1 10 [(5, .int (iZ (4 * (n : Int)))), (0, .ref b), (1, .ref (xad E 0)), (2, .ref (xad E 85)), (3, .ref (xad E 96)), (4, .ref (xad E 97))] → W p l e room_1 s m #[Value.ref b] below meth c H1 locs1 (100 + 10 * (n + 1)) (3000 + 100 * (n + 1)) Q (F0 m 2984 ls1 [])) : W p l e room_1 s m #[Value.ref b] below meth c H locs (100 + 10 * n) (3000 + 100 * n) Q (F0 m 2308 ls []) := by
  obtain ⟨hx, hb, hml, hown, hts, hK, hST, hSF, hSX, hSQ, htr, hX, hbl, hlocks, hr, hL⟩ := G
  have hOK := hSF.1
  have hn6 : (0 : Int) ≤ (n : Int) ∧ (n : Int) ≤ 600 := by omega
  obtain ⟨p0, e0⟩ : ∃ y : Int, y = (xs (4 * (n : Int) + 1).toNat).toInt := ⟨_, rfl⟩
  have r0 : rg p0 := by rw [e0]; exact iZ_rg _
  obtain ⟨P, hP, hPQ⟩ := s_nearestKey l E ST hSF hSX htr hn6 hI p0 r0
  refine lv_aload_n hx hb dL_law_2308 rfl (lv_at hl 2 rfl) ?_
  refine lv_aload_n hx hb dL_law_2309 rfl (lv_at hl 1 rfl) ?_
  refine lv_iload hx hb dL_law_2310 (lv_at hl 0 rfl) ?_
  refine x_iconst (n := 1) hx hb dL_law_2312 ?_
  refine x_iadd hx hb dL_law_2313 ?_
  refine x_scr hx hb hX hbl hH (by omega) (by omega) hL e0 dL_law_2314 ?_
  refine lv_aload_n hx hb dL_law_2315 rfl (lv_at hl 4 rfl) ?_
  refine x_cSW (As := [.ref (xad E 0), .int (iZ p0), .ref (xad E 96)]) (rest := []) hx hb hml hts hown hK hST hOK hH hP (vx_cwSW 3 hts gL_law_L_nearestKey rfl rfl rfl (by decide +kernel) ⟨Nat.le_of_ble_eq_true rfl, Nat.le_of_ble_eq_true rfl⟩) rfl hl.1 rfl (Nat.le_of_ble_eq_true rfl) dL_law_2316 ⟨by simp only [rm_L_nearestKey, room_1]; omega, by simp only [rm_L_nearestKey, room_1]; omega⟩ (fun k u H locs hp hH => ?_)
  obtain ⟨⟨fs, h85⟩, Q2, hQ2, hfin⟩ := hPQ k u hp
  refine lv_istore (lv' := [(6, .int (iZ k)), (5, .int (iZ (4 * (n : Int)))), (0, .ref b), (1, .ref (xad E 0)), (2, .ref (xad E 85)), (3, .ref (xad E 96)), (4, .ref (xad E 97))]) hx hb dL_law_2319 hl (by decide) rfl (fun ls hl => ?_)
  refine lv_aload_n hx hb dL_law_2321 rfl (lv_at hl 4 rfl) ?_
  refine lv_aload_n hx hb dL_law_2322 rfl (lv_at hl 2 rfl) ?_
  refine lv_iload hx hb dL_law_2323 (lv_at hl 1 rfl) ?_
  refine x_iconst (n := 1) hx hb dL_law_2325 ?_
  refine x_iadd hx hb dL_law_2326 ?_
  refine x_scr hx hb hX hbl hH (by omega) (by omega) hL e0 dL_law_2327 ?_
  refine x_cVI (As := [.int (iZ p0)]) (rest := []) hx hb hml hts hown hK hST hOK hH 85 hQ2 (cwV 1 hts gL_law_X7_nearestKey rfl rfl rfl (by decide +kernel) ⟨Nat.le_of_ble_eq_true rfl, Nat.le_of_ble_eq_true rfl⟩) (by decide) h85 rfl rfl hl.1 rfl (Nat.le_of_ble_eq_true rfl) dL_law_2328 ⟨by simp only [rm_L_nearestKey, rm_X7_nearestKey, room_1]; omega, by simp only [rm_L_nearestKey, rm_X7_nearestKey, room_1]; omega⟩ (fun z t H locs hq hH => ?_)
  obtain ⟨hT, hkr, h96⟩ := hfin z t hq
  refine lv_istore (lv' := [(7, .int (iZ z)), (6, .int (iZ k)), (5, .int (iZ (4 * (n : Int)))), (0, .ref b), (1, .ref (xad E 0)), (2, .ref (xad E 85)), (3, .ref (xad E 96)), (4, .ref (xad E 97))]) hx hb dL_law_2331 hl (by decide) rfl (fun ls hl => ?_)
  obtain ⟨sv, re, ea, fa, ty, li, sz, sp, wr, to, hmo⟩ := hT.mo
  have h85t : t 85 = oB 5 _ := hmo
  refine lv_aload_n hx hb dL_law_2333 rfl (lv_at hl 5 rfl) ?_
  refine x_cVID (z0 := k) (As := []) (rest := []) hx hb hml hts hown hK hST hOK hH 85 (c_X7_thrown l E ST hSF t sv re ea fa ty li k sz sp wr to hmo) (cwV 0 hts gL_law_X7_thrown rfl rfl rfl (by decide +kernel) ⟨Nat.le_of_ble_eq_true rfl, Nat.le_of_ble_eq_true rfl⟩) (by decide) h85t rfl rfl hl.1 rfl (Nat.le_of_ble_eq_true rfl) dL_law_2334 ⟨by simp only [rm_L_nearestKey, rm_X7_nearestKey, rm_X7_thrown, room_1]; omega, by simp only [rm_L_nearestKey, rm_X7_nearestKey, rm_X7_thrown, room_1]; omega⟩ (fun z u h => h) (fun H locs hH => ?_)
  refine lv_iload hx hb dL_law_2337 (lv_at hl 1 rfl) ?_
  refine lv_icmp_eq (tgt := 2344) hx hb dL_law_2339 (by decide) (fun _ => ?_) (fun c9 => absurd rfl c9)
  refine lv_iload hx hb dL_law_2344 (lv_at hl 1 rfl) ?_
  refine x_if_ne (tgt := 2361) hx hb dL_law_2346 (by decide) hkr (fun c0 => ?_) (fun c0 => ?_)
  · refine lv_goto (tgt := 2984) hx hb dL_law_2361 (by decide) ?_
    exact W.widen (by simp only [rm_L_nearestKey, rm_X7_nearestKey, rm_X7_thrown]; omega) (by simp only [rm_L_nearestKey, rm_X7_nearestKey, rm_X7_thrown]; omega) (kk t H locs ls ⟨k, hkr, hT⟩ hH (lv_sub hl [2, 3, 4, 5, 6, 7] rfl))
  · refine lv_aload_n hx hb dL_law_2349 rfl (lv_at hl 6 rfl) ?_
    refine x_iconst (n := 0) hx hb dL_law_2350 ?_
    refine x_lald hx hb hK hH (h96 c0) dL_law_2351 ?_
    refine lv_iload hx hb dL_law_2352 (lv_at hl 0 rfl) ?_
    refine lv_i2l (v := (iZ z).toInt64) hx hb dL_law_2354 rfl ?_
    refine W.lcmp hx hb dL_law_2355 ?_
    refine lv_if_eq (tgt := 2361) hx hb dL_law_2356 (by decide) (fun _ => ?_) (fun c9 => absurd ((lg_cmp_eq _ _).mpr rfl) c9)
    refine lv_goto (tgt := 2984) hx hb dL_law_2361 (by decide) ?_
    exact W.widen (by simp only [rm_L_nearestKey, rm_X7_nearestKey, rm_X7_thrown]; omega) (by simp only [rm_L_nearestKey, rm_X7_nearestKey, rm_X7_thrown]; omega) (kk t H locs ls ⟨k, hkr, hT⟩ hH (lv_sub hl [2, 3, 4, 5, 6, 7] rfl))
set_option maxRecDepth 100000 in
set_option maxHeartbeats 4000000 in
theorem lc_33 {p : Program} {l : Launch} {e : Env} {s : State} {m : MethodId} {below : List Frame} {meth : Method} {c : Code} {Q : State → Prop} {E : xE} {ST : xST} {Z : zE} {b L : Nat} {xs : Nat → Int32} (G : LX l E ST Z p s m meth c b L xs) {n : Nat} (hn : 4 * n + 4 ≤ L) {σ : xW} {H : Heap} {locs : List Loc} {ls : Array Slot} (hI : INV (n : Int) E σ) (hH : Hx E (fun q => s.heap.size ≤ q) s.heap σ H locs) (hl : lv_has ls 10 [(5, .int (iZ (4 * (n : Int)))), (0, .ref b), (1, .ref (xad E 0)), (2, .ref (xad E 85)), (3, .ref (xad E 96)), (4, .ref (xad E 97))])
    (kk : ∀ (σ1 : xW) (H1 : Heap) (locs1 : List Loc) (ls1 : Array Slot), INV ((n : Int) + 1) E σ1 → Hx E (fun q => s.heap.size ≤ q) s.heap σ1 H1 locs1 → lv_has ls1 10 [(5, .int (iZ (4 * (n : Int)))), (0, .ref b), (1, .ref (xad E 0)), (2, .ref (xad E 85)), (3, .ref (xad E 96)), (4, .ref (xad E 97))] → W p l e room_1 s m #[Value.ref b] below meth c H1 locs1 (100 + 10 * (n + 1)) (3000 + 100 * (n + 1)) Q (F0 m 2984 ls1 [])) : W p l e room_1 s m #[Value.ref b] below meth c H locs (100 + 10 * n) (3000 + 100 * n) Q (F0 m 2364 ls []) := by
  obtain ⟨hx, hb, hml, hown, hts, hK, hST, hSF, hSX, hSQ, htr, hX, hbl, hlocks, hr, hL⟩ := G
  have hOK := hSF.1
  have hn6 : (0 : Int) ≤ (n : Int) ∧ (n : Int) ≤ 600 := by omega
  obtain ⟨p0, e0⟩ : ∃ y : Int, y = (xs (4 * (n : Int) + 1).toNat).toInt := ⟨_, rfl⟩
  have r0 : rg p0 := by rw [e0]; exact iZ_rg _
  obtain ⟨p1, e1⟩ : ∃ y : Int, y = (xs (4 * (n : Int) + 2).toNat).toInt := ⟨_, rfl⟩
  have r1 : rg p1 := by rw [e1]; exact iZ_rg _
  obtain ⟨p2, e2⟩ : ∃ y : Int, y = (xs (4 * (n : Int) + 3).toNat).toInt := ⟨_, rfl⟩
  have r2 : rg p2 := by rw [e2]; exact iZ_rg _
  obtain ⟨P, hP, hPQ⟩ := s_helpfulShifts l E ST hSF hSX htr hn6 hI p0 p1 p2 r0 r1 r2
  refine lv_aload_n hx hb dL_law_2364 rfl (lv_at hl 2 rfl) ?_
  refine lv_aload_n hx hb dL_law_2365 rfl (lv_at hl 1 rfl) ?_
  refine lv_iload hx hb dL_law_2366 (lv_at hl 0 rfl) ?_
  refine x_iconst (n := 1) hx hb dL_law_2368 ?_
  refine x_iadd hx hb dL_law_2369 ?_
  refine x_scr hx hb hX hbl hH (by omega) (by omega) hL e0 dL_law_2370 ?_
  refine lv_aload_n hx hb dL_law_2371 rfl (lv_at hl 1 rfl) ?_
  refine lv_iload hx hb dL_law_2372 (lv_at hl 0 rfl) ?_
  refine x_iconst (n := 2) hx hb dL_law_2374 ?_
  refine x_iadd hx hb dL_law_2375 ?_
  refine x_scr hx hb hX hbl hH (by omega) (by omega) hL e1 dL_law_2376 ?_
  refine lv_aload_n hx hb dL_law_2377 rfl (lv_at hl 1 rfl) ?_
  refine lv_iload hx hb dL_law_2378 (lv_at hl 0 rfl) ?_
  refine x_iconst (n := 3) hx hb dL_law_2380 ?_
  refine x_iadd hx hb dL_law_2381 ?_
  refine x_scr hx hb hX hbl hH (by omega) (by omega) hL e2 dL_law_2382 ?_
  refine lv_aload_n hx hb dL_law_2383 rfl (lv_at hl 4 rfl) ?_
  refine x_cSW (As := [.ref (xad E 0), .int (iZ p0), .int (iZ p1), .int (iZ p2), .ref (xad E 96)]) (rest := []) hx hb hml hts hown hK hST hOK hH hP (vx_cwSW 5 hts gL_law_L_helpfulShifts rfl rfl rfl (by decide +kernel) ⟨Nat.le_of_ble_eq_true rfl, Nat.le_of_ble_eq_true rfl⟩) rfl hl.1 rfl (Nat.le_of_ble_eq_true rfl) dL_law_2384 ⟨by simp only [rm_L_helpfulShifts, room_1]; omega, by simp only [rm_L_helpfulShifts, room_1]; omega⟩ (fun k u H locs hp hH => ?_)
  obtain ⟨⟨fs, h85⟩, Q2, hQ2, hfin⟩ := hPQ k u hp
  refine lv_istore (lv' := [(6, .int (iZ k)), (5, .int (iZ (4 * (n : Int)))), (0, .ref b), (1, .ref (xad E 0)), (2, .ref (xad E 85)), (3, .ref (xad E 96)), (4, .ref (xad E 97))]) hx hb dL_law_2387 hl (by decide) rfl (fun ls hl => ?_)
  refine lv_aload_n hx hb dL_law_2389 rfl (lv_at hl 4 rfl) ?_
  refine lv_aload_n hx hb dL_law_2390 rfl (lv_at hl 2 rfl) ?_
  refine lv_iload hx hb dL_law_2391 (lv_at hl 1 rfl) ?_
  refine x_iconst (n := 1) hx hb dL_law_2393 ?_
  refine x_iadd hx hb dL_law_2394 ?_
  refine x_scr hx hb hX hbl hH (by omega) (by omega) hL e0 dL_law_2395 ?_
  refine lv_aload_n hx hb dL_law_2396 rfl (lv_at hl 2 rfl) ?_
  refine lv_iload hx hb dL_law_2397 (lv_at hl 1 rfl) ?_
  refine x_iconst (n := 2) hx hb dL_law_2399 ?_
  refine x_iadd hx hb dL_law_2400 ?_
  refine x_scr hx hb hX hbl hH (by omega) (by omega) hL e1 dL_law_2401 ?_
  refine lv_aload_n hx hb dL_law_2402 rfl (lv_at hl 2 rfl) ?_
  refine lv_iload hx hb dL_law_2403 (lv_at hl 1 rfl) ?_
  refine x_iconst (n := 3) hx hb dL_law_2405 ?_
  refine x_iadd hx hb dL_law_2406 ?_
  refine x_scr hx hb hX hbl hH (by omega) (by omega) hL e2 dL_law_2407 ?_
  refine x_cVI (As := [.int (iZ p0), .int (iZ p1), .int (iZ p2)]) (rest := []) hx hb hml hts hown hK hST hOK hH 85 hQ2 (cwV 3 hts gL_law_X7_helpfulShifts rfl rfl rfl (by decide +kernel) ⟨Nat.le_of_ble_eq_true rfl, Nat.le_of_ble_eq_true rfl⟩) (by decide) h85 rfl rfl hl.1 rfl (Nat.le_of_ble_eq_true rfl) dL_law_2408 ⟨by simp only [rm_L_helpfulShifts, rm_X7_helpfulShifts, room_1]; omega, by simp only [rm_L_helpfulShifts, rm_X7_helpfulShifts, room_1]; omega⟩ (fun z t H locs hq hH => ?_)
  obtain ⟨hT, hkr, h96⟩ := hfin z t hq
  refine lv_istore (lv' := [(7, .int (iZ z)), (6, .int (iZ k)), (5, .int (iZ (4 * (n : Int)))), (0, .ref b), (1, .ref (xad E 0)), (2, .ref (xad E 85)), (3, .ref (xad E 96)), (4, .ref (xad E 97))]) hx hb dL_law_2411 hl (by decide) rfl (fun ls hl => ?_)
  obtain ⟨sv, re, ea, fa, ty, li, sz, sp, wr, to, hmo⟩ := hT.mo
  have h85t : t 85 = oB 5 _ := hmo
  refine lv_aload_n hx hb dL_law_2413 rfl (lv_at hl 5 rfl) ?_
  refine x_cVID (z0 := k) (As := []) (rest := []) hx hb hml hts hown hK hST hOK hH 85 (c_X7_thrown l E ST hSF t sv re ea fa ty li k sz sp wr to hmo) (cwV 0 hts gL_law_X7_thrown rfl rfl rfl (by decide +kernel) ⟨Nat.le_of_ble_eq_true rfl, Nat.le_of_ble_eq_true rfl⟩) (by decide) h85t rfl rfl hl.1 rfl (Nat.le_of_ble_eq_true rfl) dL_law_2414 ⟨by simp only [rm_L_helpfulShifts, rm_X7_helpfulShifts, rm_X7_thrown, room_1]; omega, by simp only [rm_L_helpfulShifts, rm_X7_helpfulShifts, rm_X7_thrown, room_1]; omega⟩ (fun z u h => h) (fun H locs hH => ?_)
  refine lv_iload hx hb dL_law_2417 (lv_at hl 1 rfl) ?_
  refine lv_icmp_eq (tgt := 2424) hx hb dL_law_2419 (by decide) (fun _ => ?_) (fun c9 => absurd rfl c9)
  refine lv_iload hx hb dL_law_2424 (lv_at hl 1 rfl) ?_
  refine x_if_ne (tgt := 2441) hx hb dL_law_2426 (by decide) hkr (fun c0 => ?_) (fun c0 => ?_)
  · refine lv_goto (tgt := 2984) hx hb dL_law_2441 (by decide) ?_
    exact W.widen (by simp only [rm_L_helpfulShifts, rm_X7_helpfulShifts, rm_X7_thrown]; omega) (by simp only [rm_L_helpfulShifts, rm_X7_helpfulShifts, rm_X7_thrown]; omega) (kk t H locs ls ⟨k, hkr, hT⟩ hH (lv_sub hl [2, 3, 4, 5, 6, 7] rfl))
  · refine lv_aload_n hx hb dL_law_2429 rfl (lv_at hl 6 rfl) ?_
    refine x_iconst (n := 0) hx hb dL_law_2430 ?_
    refine x_lald hx hb hK hH (h96 c0) dL_law_2431 ?_
    refine lv_iload hx hb dL_law_2432 (lv_at hl 0 rfl) ?_
    refine lv_i2l (v := (iZ z).toInt64) hx hb dL_law_2434 rfl ?_
    refine W.lcmp hx hb dL_law_2435 ?_
    refine lv_if_eq (tgt := 2441) hx hb dL_law_2436 (by decide) (fun _ => ?_) (fun c9 => absurd ((lg_cmp_eq _ _).mpr rfl) c9)
    refine lv_goto (tgt := 2984) hx hb dL_law_2441 (by decide) ?_
    exact W.widen (by simp only [rm_L_helpfulShifts, rm_X7_helpfulShifts, rm_X7_thrown]; omega) (by simp only [rm_L_helpfulShifts, rm_X7_helpfulShifts, rm_X7_thrown]; omega) (kk t H locs ls ⟨k, hkr, hT⟩ hH (lv_sub hl [2, 3, 4, 5, 6, 7] rfl))
set_option maxRecDepth 100000 in
set_option maxHeartbeats 4000000 in
theorem lc_34 {p : Program} {l : Launch} {e : Env} {s : State} {m : MethodId} {below : List Frame} {meth : Method} {c : Code} {Q : State → Prop} {E : xE} {ST : xST} {Z : zE} {b L : Nat} {xs : Nat → Int32} (G : LX l E ST Z p s m meth c b L xs) {n : Nat} (hn : 4 * n + 4 ≤ L) {σ : xW} {H : Heap} {locs : List Loc} {ls : Array Slot} (hI : INV (n : Int) E σ) (hH : Hx E (fun q => s.heap.size ≤ q) s.heap σ H locs) (hl : lv_has ls 10 [(5, .int (iZ (4 * (n : Int)))), (0, .ref b), (1, .ref (xad E 0)), (2, .ref (xad E 85)), (3, .ref (xad E 96)), (4, .ref (xad E 97))])
    (kk : ∀ (σ1 : xW) (H1 : Heap) (locs1 : List Loc) (ls1 : Array Slot), INV ((n : Int) + 1) E σ1 → Hx E (fun q => s.heap.size ≤ q) s.heap σ1 H1 locs1 → lv_has ls1 10 [(5, .int (iZ (4 * (n : Int)))), (0, .ref b), (1, .ref (xad E 0)), (2, .ref (xad E 85)), (3, .ref (xad E 96)), (4, .ref (xad E 97))] → W p l e room_1 s m #[Value.ref b] below meth c H1 locs1 (100 + 10 * (n + 1)) (3000 + 100 * (n + 1)) Q (F0 m 2984 ls1 [])) : W p l e room_1 s m #[Value.ref b] below meth c H locs (100 + 10 * n) (3000 + 100 * n) Q (F0 m 2444 ls []) := by
  obtain ⟨hx, hb, hml, hown, hts, hK, hST, hSF, hSX, hSQ, htr, hX, hbl, hlocks, hr, hL⟩ := G
  have hOK := hSF.1
  have hn6 : (0 : Int) ≤ (n : Int) ∧ (n : Int) ≤ 600 := by omega
  obtain ⟨P, hP, hPQ⟩ := s_shiftCount l E ST hSF hSX htr hn6 hI
  obtain ⟨fs0, h0⟩ : ∃ fs : List Value, σ 0 = oB 4 fs := by obtain ⟨th9, -, h9⟩ := hI; exact h9.ob.1
  refine lv_aload_n hx hb dL_law_2444 rfl (lv_at hl 2 rfl) ?_
  refine x_cVI (As := []) (rest := []) hx hb hml hts hown hK hST hOK hH 0 hP (cwV 0 hts gL_law_X6_shiftCount rfl rfl rfl (by decide +kernel) ⟨Nat.le_of_ble_eq_true rfl, Nat.le_of_ble_eq_true rfl⟩) (by decide) h0 rfl rfl hl.1 rfl (Nat.le_of_ble_eq_true rfl) dL_law_2445 ⟨by simp only [rm_X6_shiftCount, room_1]; omega, by simp only [rm_X6_shiftCount, room_1]; omega⟩ (fun k u H locs hp hH => ?_)
  obtain ⟨⟨fs, h85⟩, Q2, hQ2, hfin⟩ := hPQ k u hp
  refine lv_aload_n hx hb dL_law_2448 rfl (lv_at hl 3 rfl) ?_
  refine x_cVI (As := []) (rest := [.int (iZ k)]) hx hb hml hts hown hK hST hOK hH 85 hQ2 (cwV 0 hts gL_law_X7_shiftCount rfl rfl rfl (by decide +kernel) ⟨Nat.le_of_ble_eq_true rfl, Nat.le_of_ble_eq_true rfl⟩) (by decide) h85 rfl rfl hl.1 rfl (Nat.le_of_ble_eq_true rfl) dL_law_2449 ⟨by simp only [rm_X6_shiftCount, rm_X7_shiftCount, room_1]; omega, by simp only [rm_X6_shiftCount, rm_X7_shiftCount, room_1]; omega⟩ (fun z t H locs hq hH => ?_)
  obtain ⟨e9, hI2⟩ := hfin z t hq
  subst e9
  refine lv_icmp_eq (tgt := 2984) hx hb dL_law_2452 (by decide) (fun _ => ?_) (fun c9 => absurd rfl c9)
  exact W.widen (by simp only [rm_X6_shiftCount, rm_X7_shiftCount]; omega) (by simp only [rm_X6_shiftCount, rm_X7_shiftCount]; omega) (kk t H locs ls hI2 hH (lv_sub hl [0, 1, 2, 3, 4, 5] rfl))
set_option maxRecDepth 100000 in
set_option maxHeartbeats 4000000 in
theorem lc_35 {p : Program} {l : Launch} {e : Env} {s : State} {m : MethodId} {below : List Frame} {meth : Method} {c : Code} {Q : State → Prop} {E : xE} {ST : xST} {Z : zE} {b L : Nat} {xs : Nat → Int32} (G : LX l E ST Z p s m meth c b L xs) {n : Nat} (hn : 4 * n + 4 ≤ L) {σ : xW} {H : Heap} {locs : List Loc} {ls : Array Slot} (hI : INV (n : Int) E σ) (hH : Hx E (fun q => s.heap.size ≤ q) s.heap σ H locs) (hl : lv_has ls 10 [(5, .int (iZ (4 * (n : Int)))), (0, .ref b), (1, .ref (xad E 0)), (2, .ref (xad E 85)), (3, .ref (xad E 96)), (4, .ref (xad E 97))])
    (kk : ∀ (σ1 : xW) (H1 : Heap) (locs1 : List Loc) (ls1 : Array Slot), INV ((n : Int) + 1) E σ1 → Hx E (fun q => s.heap.size ≤ q) s.heap σ1 H1 locs1 → lv_has ls1 10 [(5, .int (iZ (4 * (n : Int)))), (0, .ref b), (1, .ref (xad E 0)), (2, .ref (xad E 85)), (3, .ref (xad E 96)), (4, .ref (xad E 97))] → W p l e room_1 s m #[Value.ref b] below meth c H1 locs1 (100 + 10 * (n + 1)) (3000 + 100 * (n + 1)) Q (F0 m 2984 ls1 [])) : W p l e room_1 s m #[Value.ref b] below meth c H locs (100 + 10 * n) (3000 + 100 * n) Q (F0 m 2457 ls []) := by
  obtain ⟨hx, hb, hml, hown, hts, hK, hST, hSF, hSX, hSQ, htr, hX, hbl, hlocks, hr, hL⟩ := G
  have hOK := hSF.1
  have hn6 : (0 : Int) ≤ (n : Int) ∧ (n : Int) ≤ 600 := by omega
  obtain ⟨P, hP, hPQ⟩ := s_walkedTotal l E ST hSF hSX htr hn6 hI
  obtain ⟨fs0, h0⟩ : ∃ fs : List Value, σ 0 = oB 4 fs := by obtain ⟨th9, -, h9⟩ := hI; exact h9.ob.1
  refine lv_aload_n hx hb dL_law_2457 rfl (lv_at hl 2 rfl) ?_
  refine x_cVL (As := []) (rest := []) hx hb hml hts hown hK hST hOK hH 0 hP (cwV 0 hts gL_law_X6_walkedTotal rfl rfl rfl (by decide +kernel) ⟨Nat.le_of_ble_eq_true rfl, Nat.le_of_ble_eq_true rfl⟩) (by decide) h0 rfl rfl hl.1 rfl (Nat.le_of_ble_eq_true rfl) dL_law_2458 ⟨by simp only [rm_X6_walkedTotal, room_1]; omega, by simp only [rm_X6_walkedTotal, room_1]; omega⟩ (fun k u H locs hp hH => ?_)
  obtain ⟨⟨fs, h85⟩, Q2, hQ2, hfin⟩ := hPQ k u hp
  refine lv_aload_n hx hb dL_law_2461 rfl (lv_at hl 3 rfl) ?_
  refine x_cVL (As := []) (rest := [.long k]) hx hb hml hts hown hK hST hOK hH 85 hQ2 (cwV 0 hts gL_law_X7_walkedTotal rfl rfl rfl (by decide +kernel) ⟨Nat.le_of_ble_eq_true rfl, Nat.le_of_ble_eq_true rfl⟩) (by decide) h85 rfl rfl hl.1 rfl (Nat.le_of_ble_eq_true rfl) dL_law_2462 ⟨by simp only [rm_X6_walkedTotal, rm_X7_walkedTotal, room_1]; omega, by simp only [rm_X6_walkedTotal, rm_X7_walkedTotal, room_1]; omega⟩ (fun z t H locs hq hH => ?_)
  obtain ⟨e9, hI2⟩ := hfin z t hq
  subst e9
  refine W.lcmp hx hb dL_law_2465 ?_
  refine lv_if_eq (tgt := 2984) hx hb dL_law_2466 (by decide) (fun _ => ?_) (fun c9 => absurd ((lg_cmp_eq _ _).mpr rfl) c9)
  exact W.widen (by simp only [rm_X6_walkedTotal, rm_X7_walkedTotal]; omega) (by simp only [rm_X6_walkedTotal, rm_X7_walkedTotal]; omega) (kk t H locs ls hI2 hH (lv_sub hl [0, 1, 2, 3, 4, 5] rfl))
