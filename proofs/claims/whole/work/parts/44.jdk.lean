def rm_J0_coder_7d493 : Room := { frames := 0, cells := 0, slots := 0, locals := 0 }
set_option maxRecDepth 100000 in
set_option maxHeartbeats 4000000 in
theorem c_J0_coder_7d493 (l : Launch) (E : xE) (ST : xST) (hSF : SF ST) (Z : zE) (hSQ : SQ Z ST) (σ : xW) (i : Int) (h0 : 0 ≤ i) (h1 : i < 12) : CI l E ST yJ0_coder_7d493 wsJ0_coder_7d493 rm_J0_coder_7d493 [.ref (zK Z i)] σ (fun (z : Int) (u : xW) => z = 0 ∧ u = σ) := by
  refine CI_of (by decide) rfl (Nat.le_of_ble_eq_true rfl) ?_
  intro p e s m args below meth c Q ls G hH hl hQ
  obtain ⟨hx, hb, hml, hown, hts, hK, hST, hlocks, hr, hno⟩ := G
  have hOK := hSF.1
  have hown : s.vm.findClass RJ0 = some m.cls := hown
  have hl : lv_has ls 1 [(0, .ref (zK Z i))] := hl
  refine x_gcs hx hb hSQ hST hH hown hts (List.mem_of_getElem? (i := 1) rfl) dJ0_coder_7d493_0 ?_
  refine x_if_eq (tgt := 13) hx hb dJ0_coder_7d493_3 (by decide) (by decide) (fun c3 => ?_) (fun c3 => ?_)
  · exact absurd c3 (by decide)
  · refine lv_aload_n hx hb dJ0_coder_7d493_6 rfl (lv_at hl 0 rfl) ?_
    refine x_scod hx hb hSQ hST hH hown hts (i := i) (by omega) (by omega) (List.mem_of_getElem? (i := 2) rfl) dJ0_coder_7d493_7 ?_
    refine lv_goto (tgt := 14) hx hb dJ0_coder_7d493_10 (by decide) ?_
    subst hQ
    exact x_bret hx hb hr hlocks hH (Nat.le_of_ble_eq_true rfl) (Nat.le_of_ble_eq_true rfl) (by decide) ⟨(show 0 = 0 from (by rfl)), rfl⟩ dJ0_coder_7d493_14

def rm_J0_length_8abf5 : Room := { frames := 1, cells := 0, slots := 0, locals := 20 }
set_option maxRecDepth 100000 in
set_option maxHeartbeats 4000000 in
theorem c_J0_length_8abf5 (l : Launch) (E : xE) (ST : xST) (hSF : SF ST) (Z : zE) (hSQ : SQ Z ST) (σ : xW) (i : Int) (h0 : 0 ≤ i) (h1 : i < 12) : CI l E ST yJ0_length_8abf5 wsJ0_length_8abf5 rm_J0_length_8abf5 [.ref (zK Z i)] σ (fun (z : Int) (u : xW) => z = slZ i ∧ u = σ) := by
  refine CI_of (by decide) rfl (Nat.le_of_ble_eq_true rfl) ?_
  intro p e s m args below meth c Q ls G hH hl hQ
  obtain ⟨hx, hb, hml, hown, hts, hK, hST, hlocks, hr, hno⟩ := G
  have hOK := hSF.1
  have hown : s.vm.findClass RJ0 = some m.cls := hown
  have hl : lv_has ls 1 [(0, .ref (zK Z i))] := hl
  have hsl := slZ_b h0 h1
  refine lv_aload_n hx hb dJ0_length_8abf5_0 rfl (lv_at hl 0 rfl) ?_
  refine x_sval hx hb hSQ hST hH hown hts (i := i) (by omega) (by omega) (List.mem_of_getElem? (i := 1) rfl) dJ0_length_8abf5_1 ?_
  refine x_svlen hx hb hSQ hST hH (i := i) (by omega) (by omega) dJ0_length_8abf5_4 ?_
  refine lv_aload_n hx hb dJ0_length_8abf5_5 rfl (lv_at hl 0 rfl) ?_
  refine x_cRID (As := []) (rest := [.int (iZ (slZ i))]) hx hb hml hts hown hK hST hOK hH (x_recS hSQ hST hH (i := i) (by omega) (by omega)) (c_J0_coder_7d493 l E ST hSF Z hSQ σ i  (by omega) (by omega)) (cwV 0 hts gJ0_length_8abf5_J0_coder_7d493 rfl rfl rfl (by decide +kernel) ⟨Nat.le_of_ble_eq_true rfl, Nat.le_of_ble_eq_true rfl⟩) rfl hl.1 rfl (Nat.le_of_ble_eq_true rfl) dJ0_length_8abf5_6 ⟨Nat.le_of_ble_eq_true rfl, Nat.le_of_ble_eq_true rfl⟩ (fun z u h => h) (fun H locs hH => ?_)
  refine x_ishr hx hb dJ0_length_8abf5_9 ?_
  subst hQ
  exact x_iret hx hb hr hlocks hH (Nat.le_of_ble_eq_true rfl) (Nat.le_of_ble_eq_true rfl) ⟨(show (ishrZ (slZ i) 0) = (slZ i) from (by exact ishr_0 (by omega) (by omega))), rfl⟩ dJ0_length_8abf5_10

def rm_J0_isLatin1_aae02 : Room := { frames := 0, cells := 0, slots := 0, locals := 0 }
set_option maxRecDepth 100000 in
set_option maxHeartbeats 4000000 in
theorem c_J0_isLatin1_aae02 (l : Launch) (E : xE) (ST : xST) (hSF : SF ST) (Z : zE) (hSQ : SQ Z ST) (σ : xW) (i : Int) (h0 : 0 ≤ i) (h1 : i < 12) : CI l E ST yJ0_isLatin1_aae02 wsJ0_isLatin1_aae02 rm_J0_isLatin1_aae02 [.ref (zK Z i)] σ (fun (z : Int) (u : xW) => z = b2 true ∧ u = σ) := by
  refine CI_of (by decide) rfl (Nat.le_of_ble_eq_true rfl) ?_
  intro p e s m args below meth c Q ls G hH hl hQ
  obtain ⟨hx, hb, hml, hown, hts, hK, hST, hlocks, hr, hno⟩ := G
  have hOK := hSF.1
  have hown : s.vm.findClass RJ0 = some m.cls := hown
  have hl : lv_has ls 1 [(0, .ref (zK Z i))] := hl
  refine x_gcs hx hb hSQ hST hH hown hts (List.mem_of_getElem? (i := 1) rfl) dJ0_isLatin1_aae02_0 ?_
  refine x_if_eq (tgt := 17) hx hb dJ0_isLatin1_aae02_3 (by decide) (by decide) (fun c3 => ?_) (fun c3 => ?_)
  · exact absurd c3 (by decide)
  · refine lv_aload_n hx hb dJ0_isLatin1_aae02_6 rfl (lv_at hl 0 rfl) ?_
    refine x_scod hx hb hSQ hST hH hown hts (i := i) (by omega) (by omega) (List.mem_of_getElem? (i := 2) rfl) dJ0_isLatin1_aae02_7 ?_
    refine x_if_ne (tgt := 17) hx hb dJ0_isLatin1_aae02_10 (by decide) (by decide) (fun c10 => ?_) (fun c10 => ?_)
    · exact absurd c10 (by decide)
    · refine x_iconst hx hb dJ0_isLatin1_aae02_13 ?_
      refine lv_goto (tgt := 18) hx hb dJ0_isLatin1_aae02_14 (by decide) ?_
      subst hQ
      exact x_zret (b := true) hx hb hr hlocks hH (Nat.le_of_ble_eq_true rfl) (Nat.le_of_ble_eq_true rfl) ⟨congrArg b2 (show true = true from (by rfl)), rfl⟩ dJ0_isLatin1_aae02_18

def rm_J3_checkIndex_8e157 : Room := { frames := 0, cells := 0, slots := 0, locals := 0 }
set_option maxRecDepth 100000 in
set_option maxHeartbeats 4000000 in
theorem c_J3_checkIndex_8e157 (l : Launch) (E : xE) (ST : xST) (hSF : SF ST) (σ : xW) (k : Int) (n : Int) (v9 : Value) (hk : 0 ≤ k ∧ k < n) (hn : n ≤ 2147483647) (hc9 : v9.category = 1) : CI l E ST yJ3_checkIndex_8e157 wsJ3_checkIndex_8e157 rm_J3_checkIndex_8e157 [.int (iZ k), .int (iZ n), v9] σ (fun (z : Int) (u : xW) => z = k ∧ u = σ) := by
  refine CI_of (by decide) rfl (by simp [lg_sl, hc9, show (Value.int (iZ k)).category = 1 from rfl, show (Value.int (iZ n)).category = 1 from rfl]) ?_
  intro p e s m args below meth c Q ls G hH hl hQ
  obtain ⟨hx, hb, hml, hown, hts, hK, hST, hlocks, hr, hno⟩ := G
  have hOK := hSF.1
  have hown : s.vm.findClass RJ3 = some m.cls := hown
  have hl : lv_has ls 3 [(0, .int (iZ k)), (1, .int (iZ n)), (2, v9)] := hl
  refine lv_iload_n hx hb dJ3_checkIndex_8e157_0 rfl (lv_at hl 0 rfl) ?_
  refine x_if_lt (tgt := 9) hx hb dJ3_checkIndex_8e157_1 (by decide) (by omega) (fun c1 => ?_) (fun c1 => ?_)
  · exact absurd c1 (by omega)
  · refine lv_iload_n hx hb dJ3_checkIndex_8e157_4 rfl (lv_at hl 0 rfl) ?_
    refine lv_iload_n hx hb dJ3_checkIndex_8e157_5 rfl (lv_at hl 1 rfl) ?_
    refine x_icmp_lt (tgt := 16) hx hb dJ3_checkIndex_8e157_6 (by decide) (by omega) (by omega) (fun c6 => ?_) (fun c6 => ?_)
    · refine lv_iload_n hx hb dJ3_checkIndex_8e157_16 rfl (lv_at hl 0 rfl) ?_
      subst hQ
      exact x_iret hx hb hr hlocks hH (Nat.le_of_ble_eq_true rfl) (Nat.le_of_ble_eq_true rfl) ⟨(show k = k from (by rfl)), rfl⟩ dJ3_checkIndex_8e157_17
    · exact absurd c6 (by omega)

def rm_J0_checkIndex_df160 : Room := { frames := 1, cells := 0, slots := 0, locals := 22 }
set_option maxRecDepth 100000 in
set_option maxHeartbeats 4000000 in
theorem c_J0_checkIndex_df160 (l : Launch) (E : xE) (ST : xST) (hSF : SF ST) (Z : zE) (hSQ : SQ Z ST) (σ : xW) (k : Int) (n : Int) (hk : 0 ≤ k ∧ k < n) (hn : n ≤ 2147483647) : CV l E ST yJ0_checkIndex_df160 wsJ0_checkIndex_df160 rm_J0_checkIndex_df160 [.int (iZ k), .int (iZ n)] σ (fun (u : xW) => u = σ) := by
  refine CV_of (by decide) rfl (Nat.le_of_ble_eq_true rfl) ?_
  intro p e s m args below meth c Q ls G hH hl hQ
  obtain ⟨hx, hb, hml, hown, hts, hK, hST, hlocks, hr, hno⟩ := G
  have hOK := hSF.1
  have hown : s.vm.findClass RJ0 = some m.cls := hown
  have hl : lv_has ls 2 [(0, .int (iZ k)), (1, .int (iZ n))] := hl
  refine lv_iload_n hx hb dJ0_checkIndex_df160_0 rfl (lv_at hl 0 rfl) ?_
  refine lv_iload_n hx hb dJ0_checkIndex_df160_1 rfl (lv_at hl 1 rfl) ?_
  refine x_gsi hx hb hSQ hST hH hown hts (List.mem_of_getElem? (i := 1) rfl) dJ0_checkIndex_df160_2 (fun vsi hvsi => ?_)
  refine x_cSID (As := [.int (iZ k), .int (iZ n), vsi]) (rest := []) hx hb hml hts hown hK hST hOK hH (c_J3_checkIndex_8e157 l E ST hSF σ k n vsi  (by omega) (by omega) hvsi) (va_cwS 3 hts gJ0_checkIndex_df160_J3_checkIndex_8e157 rfl rfl rfl (by decide +kernel) ⟨Nat.le_of_ble_eq_true rfl, Nat.le_of_ble_eq_true rfl⟩) rfl hl.1 rfl (Nat.le_of_ble_eq_true rfl) dJ0_checkIndex_df160_5 ⟨Nat.le_of_ble_eq_true rfl, Nat.le_of_ble_eq_true rfl⟩ (fun z u h => h) (fun H locs hH => ?_)
  refine lv_pop hx hb dJ0_checkIndex_df160_8 rfl ?_
  subst hQ
  exact x_vret hx hb hr hlocks hH (Nat.le_of_ble_eq_true rfl) (Nat.le_of_ble_eq_true rfl) rfl dJ0_checkIndex_df160_9

def rm_J1_charAt_3b067 : Room := { frames := 2, cells := 0, slots := 0, locals := 43 }
set_option maxRecDepth 100000 in
set_option maxHeartbeats 4000000 in
theorem c_J1_charAt_3b067 (l : Launch) (E : xE) (ST : xST) (hSF : SF ST) (Z : zE) (hSQ : SQ Z ST) (σ : xW) (i : Int) (k : Int) (h0 : 0 ≤ i) (h1 : i < 12) (h2 : 0 ≤ k) (h3 : k < slZ i) : CI l E ST yJ1_charAt_3b067 wsJ1_charAt_3b067 rm_J1_charAt_3b067 [.ref (zV Z i), .int (iZ k)] σ (fun (z : Int) (u : xW) => z = scZ i k ∧ u = σ) := by
  refine CI_of (by decide) rfl (Nat.le_of_ble_eq_true rfl) ?_
  intro p e s m args below meth c Q ls G hH hl hQ
  obtain ⟨hx, hb, hml, hown, hts, hK, hST, hlocks, hr, hno⟩ := G
  have hOK := hSF.1
  have hown : s.vm.findClass RJ1 = some m.cls := hown
  have hl : lv_has ls 2 [(0, .ref (zV Z i)), (1, .int (iZ k))] := hl
  have hsl := slZ_b h0 h1
  have hsc := scZ_b h0 h1 h2 h3
  refine lv_iload_n hx hb dJ1_charAt_3b067_0 rfl (lv_at hl 1 rfl) ?_
  refine lv_aload_n hx hb dJ1_charAt_3b067_1 rfl (lv_at hl 0 rfl) ?_
  refine x_svlen hx hb hSQ hST hH (i := i) (by omega) (by omega) dJ1_charAt_3b067_2 ?_
  refine x_cSVD (As := [.int (iZ k), .int (iZ (slZ i))]) (rest := []) hx hb hml hts hown hK hST hOK hH (c_J0_checkIndex_df160 l E ST hSF Z hSQ σ k (slZ i)  (by omega) (by omega)) (va_cwS 2 hts gJ1_charAt_3b067_J0_checkIndex_df160 rfl rfl rfl (by decide +kernel) ⟨Nat.le_of_ble_eq_true rfl, Nat.le_of_ble_eq_true rfl⟩) rfl hl.1 rfl (Nat.le_of_ble_eq_true rfl) dJ1_charAt_3b067_3 ⟨Nat.le_of_ble_eq_true rfl, Nat.le_of_ble_eq_true rfl⟩ (fun u h => h) (fun H locs hH => ?_)
  refine lv_aload_n hx hb dJ1_charAt_3b067_6 rfl (lv_at hl 0 rfl) ?_
  refine lv_iload_n hx hb dJ1_charAt_3b067_7 rfl (lv_at hl 1 rfl) ?_
  refine x_sbyt hx hb hSQ hST hH (i := i) (k := k) (by omega) (by omega) (by omega) (by omega) dJ1_charAt_3b067_8 ?_
  refine x_sipush hx hb dJ1_charAt_3b067_9 (by decide) ?_
  refine x_iand hx hb dJ1_charAt_3b067_12 ?_
  rw [iand_255 (by omega) (by omega)]
  refine x_i2c hx hb dJ1_charAt_3b067_13 ?_
  rw [i2cZ_in (by omega) (by omega)]
  subst hQ
  exact x_cret hx hb hr hlocks hH (Nat.le_of_ble_eq_true rfl) (Nat.le_of_ble_eq_true rfl) (by omega) (by omega) ⟨(show (scZ i k) = (scZ i k) from (by rfl)), rfl⟩ dJ1_charAt_3b067_14

def rm_J0_charAt_5068e : Room := { frames := 3, cells := 0, slots := 0, locals := 64 }
set_option maxRecDepth 100000 in
set_option maxHeartbeats 4000000 in
theorem c_J0_charAt_5068e (l : Launch) (E : xE) (ST : xST) (hSF : SF ST) (Z : zE) (hSQ : SQ Z ST) (σ : xW) (i : Int) (k : Int) (h0 : 0 ≤ i) (h1 : i < 12) (h2 : 0 ≤ k) (h3 : k < slZ i) : CI l E ST yJ0_charAt_5068e wsJ0_charAt_5068e rm_J0_charAt_5068e [.ref (zK Z i), .int (iZ k)] σ (fun (z : Int) (u : xW) => z = scZ i k ∧ u = σ) := by
  refine CI_of (by decide) rfl (Nat.le_of_ble_eq_true rfl) ?_
  intro p e s m args below meth c Q ls G hH hl hQ
  obtain ⟨hx, hb, hml, hown, hts, hK, hST, hlocks, hr, hno⟩ := G
  have hOK := hSF.1
  have hown : s.vm.findClass RJ0 = some m.cls := hown
  have hl : lv_has ls 2 [(0, .ref (zK Z i)), (1, .int (iZ k))] := hl
  have hsc := scZ_b h0 h1 h2 h3
  refine lv_aload_n hx hb dJ0_charAt_5068e_0 rfl (lv_at hl 0 rfl) ?_
  refine x_cRID (As := []) (rest := []) hx hb hml hts hown hK hST hOK hH (x_recS hSQ hST hH (i := i) (by omega) (by omega)) (c_J0_isLatin1_aae02 l E ST hSF Z hSQ σ i  (by omega) (by omega)) (cwV 0 hts gJ0_charAt_5068e_J0_isLatin1_aae02 rfl rfl rfl (by decide +kernel) ⟨Nat.le_of_ble_eq_true rfl, Nat.le_of_ble_eq_true rfl⟩) rfl hl.1 rfl (Nat.le_of_ble_eq_true rfl) dJ0_charAt_5068e_1 ⟨Nat.le_of_ble_eq_true rfl, Nat.le_of_ble_eq_true rfl⟩ (fun z u h => h) (fun H locs hH => ?_)
  refine x_if_eq (tgt := 16) hx hb dJ0_charAt_5068e_4 (by decide) (rg_b2 _) (fun c4 => ?_) (fun c4 => ?_)
  · exact absurd c4 (by decide)
  · refine lv_aload_n hx hb dJ0_charAt_5068e_7 rfl (lv_at hl 0 rfl) ?_
    refine x_sval hx hb hSQ hST hH hown hts (i := i) (by omega) (by omega) (List.mem_of_getElem? (i := 1) rfl) dJ0_charAt_5068e_8 ?_
    refine lv_iload_n hx hb dJ0_charAt_5068e_11 rfl (lv_at hl 1 rfl) ?_
    refine x_cSID (As := [.ref (zV Z i), .int (iZ k)]) (rest := []) hx hb hml hts hown hK hST hOK hH (c_J1_charAt_3b067 l E ST hSF Z hSQ σ i k  (by omega) (by omega) (by omega) (by omega)) (va_cwS 2 hts gJ0_charAt_5068e_J1_charAt_3b067 rfl rfl rfl (by decide +kernel) ⟨Nat.le_of_ble_eq_true rfl, Nat.le_of_ble_eq_true rfl⟩) rfl hl.1 rfl (Nat.le_of_ble_eq_true rfl) dJ0_charAt_5068e_12 ⟨Nat.le_of_ble_eq_true rfl, Nat.le_of_ble_eq_true rfl⟩ (fun z u h => h) (fun H locs hH => ?_)
    subst hQ
    exact x_cret hx hb hr hlocks hH (Nat.le_of_ble_eq_true rfl) (Nat.le_of_ble_eq_true rfl) (by omega) (by omega) ⟨(show (scZ i k) = (scZ i k) from (by rfl)), rfl⟩ dJ0_charAt_5068e_15

def rm_Jx29ce0_ordinal_8abf5 : Room := { frames := 0, cells := 0, slots := 0, locals := 0 }
set_option maxRecDepth 100000 in
set_option maxHeartbeats 4000000 in
theorem c_Jx29ce0_ordinal_8abf5 (l : Launch) (E : xE) (ST : xST) (hSF : SF ST) (Z : zE) (hSQ : SQ Z ST) (σ : xW) (i : Int) (h0 : 0 ≤ i) (h1 : i < 11) : CI l E ST yJx29ce0_ordinal_8abf5 wsJx29ce0_ordinal_8abf5 rm_Jx29ce0_ordinal_8abf5 [.ref (zC Z i)] σ (fun (z : Int) (u : xW) => z = i ∧ u = σ) := by
  refine CI_of (by decide) rfl (Nat.le_of_ble_eq_true rfl) ?_
  intro p e s m args below meth c Q ls G hH hl hQ
  obtain ⟨hx, hb, hml, hown, hts, hK, hST, hlocks, hr, hno⟩ := G
  have hOK := hSF.1
  have hown : s.vm.findClass RJx29ce0 = some m.cls := hown
  have hl : lv_has ls 1 [(0, .ref (zC Z i))] := hl
  refine lv_aload_n hx hb dJx29ce0_ordinal_8abf5_0 rfl (lv_at hl 0 rfl) ?_
  refine x_cmord hx hb hSQ hST hH hown hts (i := i) (by omega) (by omega) (List.mem_of_getElem? (i := 1) rfl) dJx29ce0_ordinal_8abf5_1 ?_
  subst hQ
  exact x_iret hx hb hr hlocks hH (Nat.le_of_ble_eq_true rfl) (Nat.le_of_ble_eq_true rfl) ⟨(show i = i from (by rfl)), rfl⟩ dJx29ce0_ordinal_8abf5_4
