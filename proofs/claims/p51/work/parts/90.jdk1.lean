
def rm_J0_coder_7d493 : Room := { frames := 0, cells := 0, slots := 0, locals := 0 }
set_option maxRecDepth 100000 in
set_option maxHeartbeats 4000000 in
theorem c_J0_coder_7d493 (l : Launch) (E : xE) (ST : xST) (hSF : SF ST) (Z : zE) (hSQ : SQ Z ST) (σ : xW) (i : Int) (h0 : 0 ≤ i) (h1 : i < 6) : CI l E ST yJ0_coder_7d493 wsJ0_coder_7d493 rm_J0_coder_7d493 [.ref (zK Z i)] σ (fun (z : Int) (u : xW) => z = 0 ∧ u = σ) := by
  refine CI_of (by decide) rfl (Nat.le_of_ble_eq_true rfl) ?_
  intro p e s m args below meth c Q ls G hH hl hQ
  obtain ⟨hx, hb, hml, hown, hts, hK, hST, hlocks, hr, hno⟩ := G
  have hOK := hSF.1
  have hown : s.vm.findClass RJ0 = some m.cls := hown
  have hl : lv_has ls 1 [(0, .ref (zK Z i))] := hl
  have hF : xCf p E ST (xA E s.heap.size) s m args c cJ0_coder_7d493 1 wsJ0_coder_7d493 RJ0 := ⟨hx, hb, hml, hown, hts, hK, hST, hOK⟩
  have hlk9 : meth.locks = false := hlocks
  refine x_gcs hx hb hSQ hST hH hown hts (List.mem_of_getElem? (i := 1) rfl) dJ0_coder_7d493_0 ?_
  refine x_if_eq (tgt := 13) hx hb dJ0_coder_7d493_3 (by decide) (by decide) (fun c3 => ?_) (fun c3 => ?_)
  · exact absurd c3 (by decide)
  · refine lv_aload_n hx hb dJ0_coder_7d493_6 rfl (lv_at hl 0 rfl) ?_
    refine x_scod hx hb hSQ hST hH hown hts (i := i) (by omega) (by omega) (List.mem_of_getElem? (i := 2) rfl) dJ0_coder_7d493_7 ?_
    refine lv_goto (tgt := 14) hx hb dJ0_coder_7d493_10 (by decide) ?_
    subst hQ
    exact x_bret hx hb hr hlocks hH (Nat.le_of_ble_eq_true rfl) (Nat.le_of_ble_eq_true rfl) (by decide) ⟨(show 0 = 0 from (by rfl)), rfl⟩ dJ0_coder_7d493_14

def rm_J0_coder_d : Room := { frames := 0, cells := 0, slots := 0, locals := 0 }
set_option maxRecDepth 100000 in
set_option maxHeartbeats 4000000 in
theorem c_J0_coder_d (l : Launch) (E : xE) (ST : xST) (hSF : SF ST) (Z : zE) (hSQ : SQ Z ST) (σ : xW) (k : Nat) (q : Nat) (hkk : k < 85 + xx E) (hst : σ k = oSt E q) : CI l E ST yJ0_coder_7d493 wsJ0_coder_7d493 rm_J0_coder_d [.ref (xad E k)] σ (fun (z : Int) (u : xW) => z = 0 ∧ u = σ) := by
  refine CI_of (by decide) rfl (Nat.le_of_ble_eq_true rfl) ?_
  intro p e s m args below meth c Q ls G hH hl hQ
  obtain ⟨hx, hb, hml, hown, hts, hK, hST, hlocks, hr, hno⟩ := G
  have hOK := hSF.1
  have hown : s.vm.findClass RJ0 = some m.cls := hown
  have hl : lv_has ls 1 [(0, .ref (xad E k))] := hl
  have hinJ0 : ∀ w ∈ u_ws RJ0 TJ0 4, w ∈ wsJ0_coder_7d493 := fun w h => (List.mem_cons_of_mem _ (List.mem_append_right _ h))
  have hF : xCf p E ST (xA E s.heap.size) s m args c cJ0_coder_7d493 1 wsJ0_coder_7d493 RJ0 := ⟨hx, hb, hml, hown, hts, hK, hST, hOK⟩
  have hlk9 : meth.locks = false := hlocks
  refine x_gcs hx hb hSQ hST hH hown hts (List.mem_of_getElem? (i := 1) rfl) dJ0_coder_7d493_0 ?_
  refine x_if_eq (tgt := 13) hx hb dJ0_coder_7d493_3 (by decide) (by decide) (fun c3 => ?_) (fun c3 => ?_)
  · exact absurd c3 (by decide)
  · refine lv_aload_n hx hb dJ0_coder_7d493_6 rfl (lv_at hl 0 rfl) ?_
    refine x_get hx hb hts hown hK hH k (by omega) hst hinJ0 rfl 1 (by decide) (List.mem_of_getElem? (i := 2) rfl) rfl dJ0_coder_7d493_7 ?_
    refine lv_goto (tgt := 14) hx hb dJ0_coder_7d493_10 (by decide) ?_
    subst hQ
    exact x_bret hx hb hr hlocks hH (Nat.le_of_ble_eq_true rfl) (Nat.le_of_ble_eq_true rfl) (by decide) ⟨(show 0 = 0 from (by rfl)), rfl⟩ dJ0_coder_7d493_14

def rm_J0_isLatin1_aae02 : Room := { frames := 0, cells := 0, slots := 0, locals := 0 }
set_option maxRecDepth 100000 in
set_option maxHeartbeats 4000000 in
theorem c_J0_isLatin1_aae02 (l : Launch) (E : xE) (ST : xST) (hSF : SF ST) (Z : zE) (hSQ : SQ Z ST) (σ : xW) (i : Int) (h0 : 0 ≤ i) (h1 : i < 6) : CI l E ST yJ0_isLatin1_aae02 wsJ0_isLatin1_aae02 rm_J0_isLatin1_aae02 [.ref (zK Z i)] σ (fun (z : Int) (u : xW) => z = b2 true ∧ u = σ) := by
  refine CI_of (by decide) rfl (Nat.le_of_ble_eq_true rfl) ?_
  intro p e s m args below meth c Q ls G hH hl hQ
  obtain ⟨hx, hb, hml, hown, hts, hK, hST, hlocks, hr, hno⟩ := G
  have hOK := hSF.1
  have hown : s.vm.findClass RJ0 = some m.cls := hown
  have hl : lv_has ls 1 [(0, .ref (zK Z i))] := hl
  have hF : xCf p E ST (xA E s.heap.size) s m args c cJ0_isLatin1_aae02 1 wsJ0_isLatin1_aae02 RJ0 := ⟨hx, hb, hml, hown, hts, hK, hST, hOK⟩
  have hlk9 : meth.locks = false := hlocks
  refine x_gcs hx hb hSQ hST hH hown hts (List.mem_of_getElem? (i := 1) rfl) dJ0_isLatin1_aae02_0 ?_
  refine x_if_eq (tgt := 17) hx hb dJ0_isLatin1_aae02_3 (by decide) (by decide) (fun c3 => ?_) (fun c3 => ?_)
  · exact absurd c3 (by decide)
  · refine lv_aload_n hx hb dJ0_isLatin1_aae02_6 rfl (lv_at hl 0 rfl) ?_
    refine x_scod hx hb hSQ hST hH hown hts (i := i) (by omega) (by omega) (List.mem_of_getElem? (i := 2) rfl) dJ0_isLatin1_aae02_7 ?_
    refine x_if_ne (tgt := 17) hx hb dJ0_isLatin1_aae02_10 (by decide) (by decide) (fun c10 => ?_) (fun c10 => ?_)
    · exact absurd c10 (by decide)
    · refine x_iconst hx hb dJ0_isLatin1_aae02_13 ?_
      refine lv_goto (tgt := 18) hx hb dJ0_isLatin1_aae02_14 (by decide) ?_
      subst hQ
      exact x_zret (b := true) hx hb hr hlocks hH (Nat.le_of_ble_eq_true rfl) (Nat.le_of_ble_eq_true rfl) ⟨congrArg b2 (show true = true from (by rfl)), rfl⟩ dJ0_isLatin1_aae02_18

def rm_J0_isLatin1_d : Room := { frames := 0, cells := 0, slots := 0, locals := 0 }
set_option maxRecDepth 100000 in
set_option maxHeartbeats 4000000 in
theorem c_J0_isLatin1_d (l : Launch) (E : xE) (ST : xST) (hSF : SF ST) (Z : zE) (hSQ : SQ Z ST) (σ : xW) (k : Nat) (q : Nat) (hkk : k < 85 + xx E) (hst : σ k = oSt E q) : CI l E ST yJ0_isLatin1_aae02 wsJ0_isLatin1_aae02 rm_J0_isLatin1_d [.ref (xad E k)] σ (fun (z : Int) (u : xW) => z = b2 true ∧ u = σ) := by
  refine CI_of (by decide) rfl (Nat.le_of_ble_eq_true rfl) ?_
  intro p e s m args below meth c Q ls G hH hl hQ
  obtain ⟨hx, hb, hml, hown, hts, hK, hST, hlocks, hr, hno⟩ := G
  have hOK := hSF.1
  have hown : s.vm.findClass RJ0 = some m.cls := hown
  have hl : lv_has ls 1 [(0, .ref (xad E k))] := hl
  have hinJ0 : ∀ w ∈ u_ws RJ0 TJ0 4, w ∈ wsJ0_isLatin1_aae02 := fun w h => (List.mem_cons_of_mem _ (List.mem_append_right _ h))
  have hF : xCf p E ST (xA E s.heap.size) s m args c cJ0_isLatin1_aae02 1 wsJ0_isLatin1_aae02 RJ0 := ⟨hx, hb, hml, hown, hts, hK, hST, hOK⟩
  have hlk9 : meth.locks = false := hlocks
  refine x_gcs hx hb hSQ hST hH hown hts (List.mem_of_getElem? (i := 1) rfl) dJ0_isLatin1_aae02_0 ?_
  refine x_if_eq (tgt := 17) hx hb dJ0_isLatin1_aae02_3 (by decide) (by decide) (fun c3 => ?_) (fun c3 => ?_)
  · exact absurd c3 (by decide)
  · refine lv_aload_n hx hb dJ0_isLatin1_aae02_6 rfl (lv_at hl 0 rfl) ?_
    refine x_get hx hb hts hown hK hH k (by omega) hst hinJ0 rfl 1 (by decide) (List.mem_of_getElem? (i := 2) rfl) rfl dJ0_isLatin1_aae02_7 ?_
    refine x_if_ne (tgt := 17) hx hb dJ0_isLatin1_aae02_10 (by decide) (by decide) (fun c10 => ?_) (fun c10 => ?_)
    · exact absurd c10 (by decide)
    · refine x_iconst hx hb dJ0_isLatin1_aae02_13 ?_
      refine lv_goto (tgt := 18) hx hb dJ0_isLatin1_aae02_14 (by decide) ?_
      subst hQ
      exact x_zret (b := true) hx hb hr hlocks hH (Nat.le_of_ble_eq_true rfl) (Nat.le_of_ble_eq_true rfl) ⟨congrArg b2 (show true = true from (by rfl)), rfl⟩ dJ0_isLatin1_aae02_18

def rm_J0_length_8abf5 : Room := { frames := 1, cells := 0, slots := 0, locals := 20 }
set_option maxRecDepth 100000 in
set_option maxHeartbeats 4000000 in
theorem c_J0_length_8abf5 (l : Launch) (E : xE) (ST : xST) (hSF : SF ST) (Z : zE) (hSQ : SQ Z ST) (σ : xW) (i : Int) (h0 : 0 ≤ i) (h1 : i < 6) : CI l E ST yJ0_length_8abf5 wsJ0_length_8abf5 rm_J0_length_8abf5 [.ref (zK Z i)] σ (fun (z : Int) (u : xW) => z = slZ i ∧ u = σ) := by
  refine CI_of (by decide) rfl (Nat.le_of_ble_eq_true rfl) ?_
  intro p e s m args below meth c Q ls G hH hl hQ
  obtain ⟨hx, hb, hml, hown, hts, hK, hST, hlocks, hr, hno⟩ := G
  have hOK := hSF.1
  have hown : s.vm.findClass RJ0 = some m.cls := hown
  have hl : lv_has ls 1 [(0, .ref (zK Z i))] := hl
  have hsl := slZ_b h0 h1
  have hF : xCf p E ST (xA E s.heap.size) s m args c cJ0_length_8abf5 1 wsJ0_length_8abf5 RJ0 := ⟨hx, hb, hml, hown, hts, hK, hST, hOK⟩
  have hlk9 : meth.locks = false := hlocks
  refine lv_aload_n hx hb dJ0_length_8abf5_0 rfl (lv_at hl 0 rfl) ?_
  refine x_sval hx hb hSQ hST hH hown hts (i := i) (by omega) (by omega) (List.mem_of_getElem? (i := 1) rfl) dJ0_length_8abf5_1 ?_
  refine x_svlen hx hb hSQ hST hH (i := i) (by omega) (by omega) dJ0_length_8abf5_4 ?_
  refine lv_aload_n hx hb dJ0_length_8abf5_5 rfl (lv_at hl 0 rfl) ?_
  refine x_aftI (va_runV (As := []) (rest := [.int (iZ (slZ i))]) hF.fx ((c_J0_coder_7d493 l E ST hSF Z hSQ σ i (by omega) (by omega)) _) (cwV 0 hts gJ0_length_8abf5_J0_coder_7d493 rfl rfl rfl (by decide +kernel) ⟨Nat.le_of_ble_eq_true rfl, Nat.le_of_ble_eq_true rfl⟩) (hF.prv hH (x_recS hSQ hST hH (i := i) (by omega) (by omega)) []) rfl rfl hl.1 rfl (lv_room (Nat.le_of_ble_eq_true rfl)) dJ0_length_8abf5_6 ⟨Nat.le_of_ble_eq_true rfl, Nat.le_of_ble_eq_true rfl⟩) hH (fun z3 σ1 H locs hp2 hH => ?_)
  obtain ⟨hz4, hu5⟩ := hp2
  rw [hu5] at hH
  rw [hz4]
  refine x_ishr hx hb dJ0_length_8abf5_9 ?_
  subst hQ
  exact x_iret hx hb hr hlocks hH (Nat.le_of_ble_eq_true rfl) (Nat.le_of_ble_eq_true rfl) ⟨(show (ishrZ (slZ i) 0) = (slZ i) from (by exact ishr_0 (by omega) (by omega))), rfl⟩ dJ0_length_8abf5_10

def rm_J0_length_d : Room := { frames := 1, cells := 0, slots := 0, locals := 20 }
set_option maxRecDepth 100000 in
set_option maxHeartbeats 4000000 in
theorem c_J0_length_d (l : Launch) (E : xE) (ST : xST) (hSF : SF ST) (Z : zE) (hSQ : SQ Z ST) (σ : xW) (k : Nat) (q : Nat) (M : Nat) (F : Int → Int) (hkk : k < 85 + xx E) (hst : σ k = oSt E q) (hqq : q < 85 + xx E) (hsq : σ q = aY E M F) (hM : M ≤ 200) : CI l E ST yJ0_length_8abf5 wsJ0_length_8abf5 rm_J0_length_d [.ref (xad E k)] σ (fun (z : Int) (u : xW) => z = ((M : Nat) : Int) ∧ u = σ) := by
  refine CI_of (by decide) rfl (Nat.le_of_ble_eq_true rfl) ?_
  intro p e s m args below meth c Q ls G hH hl hQ
  obtain ⟨hx, hb, hml, hown, hts, hK, hST, hlocks, hr, hno⟩ := G
  have hOK := hSF.1
  have hown : s.vm.findClass RJ0 = some m.cls := hown
  have hl : lv_has ls 1 [(0, .ref (xad E k))] := hl
  have hinJ0 : ∀ w ∈ u_ws RJ0 TJ0 4, w ∈ wsJ0_length_8abf5 := fun w h => (List.mem_cons_of_mem _ (List.mem_append_right _ h))
  have hF : xCf p E ST (xA E s.heap.size) s m args c cJ0_length_8abf5 1 wsJ0_length_8abf5 RJ0 := ⟨hx, hb, hml, hown, hts, hK, hST, hOK⟩
  have hlk9 : meth.locks = false := hlocks
  refine lv_aload_n hx hb dJ0_length_8abf5_0 rfl (lv_at hl 0 rfl) ?_
  refine x_get hx hb hts hown hK hH k (by omega) hst hinJ0 rfl 0 (by decide) (List.mem_of_getElem? (i := 1) rfl) rfl dJ0_length_8abf5_1 ?_
  refine x_yalen hx hb hK hH q (by omega) hsq dJ0_length_8abf5_4 ?_
  refine lv_aload_n hx hb dJ0_length_8abf5_5 rfl (lv_at hl 0 rfl) ?_
  refine x_aftI (va_runV (As := []) (rest := [.int (iZ ((M : Nat) : Int))]) hF.fx ((c_J0_coder_d l E ST hSF Z hSQ σ k q (by omega) hst) _) (cwV 0 hts gJ0_length_8abf5_J0_coder_7d493 rfl rfl rfl (by decide +kernel) ⟨Nat.le_of_ble_eq_true rfl, Nat.le_of_ble_eq_true rfl⟩) (hF.prv hH (hF.rcv hH (k0 := k) (by omega) hst rfl) []) rfl rfl hl.1 rfl (lv_room (Nat.le_of_ble_eq_true rfl)) dJ0_length_8abf5_6 ⟨Nat.le_of_ble_eq_true rfl, Nat.le_of_ble_eq_true rfl⟩) hH (fun z3 σ1 H locs hp2 hH => ?_)
  obtain ⟨hz4, hu5⟩ := hp2
  rw [hu5] at hH
  rw [hz4]
  refine x_ishr hx hb dJ0_length_8abf5_9 ?_
  subst hQ
  exact x_iret hx hb hr hlocks hH (Nat.le_of_ble_eq_true rfl) (Nat.le_of_ble_eq_true rfl) ⟨(show (ishrZ ((M : Nat) : Int) 0) = ((M : Nat) : Int) from (by exact ishr_0 (by omega) (by omega))), rfl⟩ dJ0_length_8abf5_10

def rm_J3_checkIndex_8e157 : Room := { frames := 0, cells := 0, slots := 0, locals := 0 }
set_option maxRecDepth 100000 in
set_option maxHeartbeats 4000000 in
theorem c_J3_checkIndex_8e157 (l : Launch) (E : xE) (ST : xST) (hSF : SF ST) (Z : zE) (hSQ : SQ Z ST) (σ : xW) (k : Int) (n : Int) (v9 : Value) (hk : 0 ≤ k ∧ k < n) (hn : n ≤ 2147483647) (hc9 : v9.category = 1) : CI l E ST yJ3_checkIndex_8e157 wsJ3_checkIndex_8e157 rm_J3_checkIndex_8e157 [.int (iZ k), .int (iZ n), v9] σ (fun (z : Int) (u : xW) => z = k ∧ u = σ) := by
  refine CI_of (by decide) rfl (by simp [lg_sl, hc9, show (Value.int (iZ k)).category = 1 from rfl, show (Value.int (iZ n)).category = 1 from rfl]) ?_
  intro p e s m args below meth c Q ls G hH hl hQ
  obtain ⟨hx, hb, hml, hown, hts, hK, hST, hlocks, hr, hno⟩ := G
  have hOK := hSF.1
  have hown : s.vm.findClass RJ3 = some m.cls := hown
  have hl : lv_has ls 3 [(0, .int (iZ k)), (1, .int (iZ n)), (2, v9)] := hl
  have hF : xCf p E ST (xA E s.heap.size) s m args c cJ3_checkIndex_8e157 3 wsJ3_checkIndex_8e157 RJ3 := ⟨hx, hb, hml, hown, hts, hK, hST, hOK⟩
  have hlk9 : meth.locks = false := hlocks
  refine lv_iload_n hx hb dJ3_checkIndex_8e157_0 rfl (lv_at hl 0 rfl) ?_
  refine x_if_lt (tgt := 9) hx hb dJ3_checkIndex_8e157_1 (by decide) (by omega) (fun c1 => ?_) (fun c1 => ?_)
  · exact absurd c1 (by omega)
  · refine lv_iload_n hx hb dJ3_checkIndex_8e157_4 rfl (lv_at hl 0 rfl) ?_
    refine lv_iload_n hx hb dJ3_checkIndex_8e157_5 rfl (lv_at hl 1 rfl) ?_
    refine x_icmp_lt (tgt := 16) hx hb dJ3_checkIndex_8e157_6 (by decide) (by omega) (by omega) (fun c6 => ?_) (fun c6 => ?_)
    · refine lv_iload_n hx hb dJ3_checkIndex_8e157_16 rfl (lv_at hl 0 rfl) ?_
      subst hQ
      exact x_iret hx hb hr hlocks hH (Nat.le_of_ble_eq_true rfl) (Nat.le_of_ble_eq_true rfl) ⟨(show k = k from (by rfl)), rfl⟩ dJ3_checkIndex_8e157_17
    · exact absurd c6 (by omega)

def rm_J0_checkIndex_df160 : Room := { frames := 1, cells := 0, slots := 0, locals := 22 }
set_option maxRecDepth 100000 in
set_option maxHeartbeats 4000000 in
theorem c_J0_checkIndex_df160 (l : Launch) (E : xE) (ST : xST) (hSF : SF ST) (Z : zE) (hSQ : SQ Z ST) (σ : xW) (k : Int) (n : Int) (hk : 0 ≤ k ∧ k < n) (hn : n ≤ 2147483647) : CV l E ST yJ0_checkIndex_df160 wsJ0_checkIndex_df160 rm_J0_checkIndex_df160 [.int (iZ k), .int (iZ n)] σ (fun (u : xW) => u = σ) := by
  refine CV_of (by decide) rfl (Nat.le_of_ble_eq_true rfl) ?_
  intro p e s m args below meth c Q ls G hH hl hQ
  obtain ⟨hx, hb, hml, hown, hts, hK, hST, hlocks, hr, hno⟩ := G
  have hOK := hSF.1
  have hown : s.vm.findClass RJ0 = some m.cls := hown
  have hl : lv_has ls 2 [(0, .int (iZ k)), (1, .int (iZ n))] := hl
  have hF : xCf p E ST (xA E s.heap.size) s m args c cJ0_checkIndex_df160 2 wsJ0_checkIndex_df160 RJ0 := ⟨hx, hb, hml, hown, hts, hK, hST, hOK⟩
  have hlk9 : meth.locks = false := hlocks
  refine lv_iload_n hx hb dJ0_checkIndex_df160_0 rfl (lv_at hl 0 rfl) ?_
  refine lv_iload_n hx hb dJ0_checkIndex_df160_1 rfl (lv_at hl 1 rfl) ?_
  refine x_gsi hx hb hSQ hST hH hown hts (List.mem_of_getElem? (i := 1) rfl) dJ0_checkIndex_df160_2 (fun v1 hv1 => ?_)
  refine x_aftI (va_runS (As := [.int (iZ k), .int (iZ n), v1]) (rest := []) hF.fx ((c_J3_checkIndex_8e157 l E ST hSF Z hSQ σ k n v1 (by omega) (by omega) hv1) _) (va_cwS 3 hts gJ0_checkIndex_df160_J3_checkIndex_8e157 rfl rfl rfl (by decide +kernel) ⟨Nat.le_of_ble_eq_true rfl, Nat.le_of_ble_eq_true rfl⟩) (hF.pre hH [.int (iZ k), .int (iZ n), v1]) rfl rfl hl.1 rfl (lv_room (Nat.le_of_ble_eq_true rfl)) dJ0_checkIndex_df160_5 ⟨Nat.le_of_ble_eq_true rfl, Nat.le_of_ble_eq_true rfl⟩) hH (fun z4 σ2 H locs hp3 hH => ?_)
  obtain ⟨hz5, hu6⟩ := hp3
  rw [hu6] at hH
  rw [hz5]
  refine lv_pop hx hb dJ0_checkIndex_df160_8 rfl ?_
  subst hQ
  exact x_vret hx hb hr hlocks hH (Nat.le_of_ble_eq_true rfl) (Nat.le_of_ble_eq_true rfl) rfl dJ0_checkIndex_df160_9

def rm_J1_charAt_3b067 : Room := { frames := 2, cells := 0, slots := 0, locals := 43 }
set_option maxRecDepth 100000 in
set_option maxHeartbeats 4000000 in
theorem c_J1_charAt_3b067 (l : Launch) (E : xE) (ST : xST) (hSF : SF ST) (Z : zE) (hSQ : SQ Z ST) (σ : xW) (i : Int) (k : Int) (h0 : 0 ≤ i) (h1 : i < 6) (h2 : 0 ≤ k) (h3 : k < slZ i) : CI l E ST yJ1_charAt_3b067 wsJ1_charAt_3b067 rm_J1_charAt_3b067 [.ref (zV Z i), .int (iZ k)] σ (fun (z : Int) (u : xW) => z = scZ i k ∧ u = σ) := by
  refine CI_of (by decide) rfl (Nat.le_of_ble_eq_true rfl) ?_
  intro p e s m args below meth c Q ls G hH hl hQ
  obtain ⟨hx, hb, hml, hown, hts, hK, hST, hlocks, hr, hno⟩ := G
  have hOK := hSF.1
  have hown : s.vm.findClass RJ1 = some m.cls := hown
  have hl : lv_has ls 2 [(0, .ref (zV Z i)), (1, .int (iZ k))] := hl
  have hsl := slZ_b h0 h1
  have hsc := scZ_b h0 h1 h2 h3
  have hF : xCf p E ST (xA E s.heap.size) s m args c cJ1_charAt_3b067 2 wsJ1_charAt_3b067 RJ1 := ⟨hx, hb, hml, hown, hts, hK, hST, hOK⟩
  have hlk9 : meth.locks = false := hlocks
  refine lv_iload_n hx hb dJ1_charAt_3b067_0 rfl (lv_at hl 1 rfl) ?_
  refine lv_aload_n hx hb dJ1_charAt_3b067_1 rfl (lv_at hl 0 rfl) ?_
  refine x_svlen hx hb hSQ hST hH (i := i) (by omega) (by omega) dJ1_charAt_3b067_2 ?_
  refine x_aftV (va_runS (As := [.int (iZ k), .int (iZ (slZ i))]) (rest := []) hF.fx ((c_J0_checkIndex_df160 l E ST hSF Z hSQ σ k (slZ i) (by omega) (by omega)) _) (va_cwS 2 hts gJ1_charAt_3b067_J0_checkIndex_df160 rfl rfl rfl (by decide +kernel) ⟨Nat.le_of_ble_eq_true rfl, Nat.le_of_ble_eq_true rfl⟩) (hF.pre hH [.int (iZ k), .int (iZ (slZ i))]) rfl rfl hl.1 rfl (lv_room (Nat.le_of_ble_eq_true rfl)) dJ1_charAt_3b067_3 ⟨Nat.le_of_ble_eq_true rfl, Nat.le_of_ble_eq_true rfl⟩) hH (fun σ1 H locs hp2 hH => ?_)
  rw [hp2] at hH
  refine lv_aload_n hx hb dJ1_charAt_3b067_6 rfl (lv_at hl 0 rfl) ?_
  refine lv_iload_n hx hb dJ1_charAt_3b067_7 rfl (lv_at hl 1 rfl) ?_
  refine x_sbyt hx hb hSQ hST hH (i := i) (k := k) (by omega) (by omega) (by omega) (by omega) dJ1_charAt_3b067_8 ?_
  refine x_sipush hx hb dJ1_charAt_3b067_9 (by decide) ?_
  refine x_iand hx hb dJ1_charAt_3b067_12 ?_
  rw [iand_255 (by omega) (by omega)]
  refine x_i2c hx hb dJ1_charAt_3b067_13 ?_
  rw [i2cZ_in (by omega) (by omega)]
  subst hQ
  exact x_cret hx hb hr hlocks hH (Nat.le_of_ble_eq_true rfl) (Nat.le_of_ble_eq_true rfl) (by omega) (by omega) ⟨(show (scZ i k) = (scZ i k) from (by rfl)), rfl⟩ dJ1_charAt_3b067_14

def rm_J1_charAt_d : Room := { frames := 2, cells := 0, slots := 0, locals := 43 }
set_option maxRecDepth 100000 in
set_option maxHeartbeats 4000000 in
theorem c_J1_charAt_d (l : Launch) (E : xE) (ST : xST) (hSF : SF ST) (Z : zE) (hSQ : SQ Z ST) (σ : xW) (q : Nat) (M : Nat) (F : Int → Int) (j : Int) (hqq : q < 85 + xx E) (hsq : σ q = aY E M F) (h2 : 0 ≤ j) (h3 : j < M) (h7 : lt7 M F) (hM : M ≤ 200) : CI l E ST yJ1_charAt_3b067 wsJ1_charAt_3b067 rm_J1_charAt_d [.ref (xad E q), .int (iZ j)] σ (fun (z : Int) (u : xW) => z = F j ∧ u = σ) := by
  refine CI_of (by decide) rfl (Nat.le_of_ble_eq_true rfl) ?_
  intro p e s m args below meth c Q ls G hH hl hQ
  obtain ⟨hx, hb, hml, hown, hts, hK, hST, hlocks, hr, hno⟩ := G
  have hOK := hSF.1
  have hown : s.vm.findClass RJ1 = some m.cls := hown
  have hl : lv_has ls 2 [(0, .ref (xad E q)), (1, .int (iZ j))] := hl
  have h78 := h7 j h2 h3
  have hF : xCf p E ST (xA E s.heap.size) s m args c cJ1_charAt_3b067 2 wsJ1_charAt_3b067 RJ1 := ⟨hx, hb, hml, hown, hts, hK, hST, hOK⟩
  have hlk9 : meth.locks = false := hlocks
  refine lv_iload_n hx hb dJ1_charAt_3b067_0 rfl (lv_at hl 1 rfl) ?_
  refine lv_aload_n hx hb dJ1_charAt_3b067_1 rfl (lv_at hl 0 rfl) ?_
  refine x_yalen hx hb hK hH q (by omega) hsq dJ1_charAt_3b067_2 ?_
  refine x_aftV (va_runS (As := [.int (iZ j), .int (iZ ((M : Nat) : Int))]) (rest := []) hF.fx ((c_J0_checkIndex_df160 l E ST hSF Z hSQ σ j ((M : Nat) : Int) (by omega) (by omega)) _) (va_cwS 2 hts gJ1_charAt_3b067_J0_checkIndex_df160 rfl rfl rfl (by decide +kernel) ⟨Nat.le_of_ble_eq_true rfl, Nat.le_of_ble_eq_true rfl⟩) (hF.pre hH [.int (iZ j), .int (iZ ((M : Nat) : Int))]) rfl rfl hl.1 rfl (lv_room (Nat.le_of_ble_eq_true rfl)) dJ1_charAt_3b067_3 ⟨Nat.le_of_ble_eq_true rfl, Nat.le_of_ble_eq_true rfl⟩) hH (fun σ1 H locs hp2 hH => ?_)
  rw [hp2] at hH
  refine lv_aload_n hx hb dJ1_charAt_3b067_6 rfl (lv_at hl 0 rfl) ?_
  refine lv_iload_n hx hb dJ1_charAt_3b067_7 rfl (lv_at hl 1 rfl) ?_
  refine x_yald hx hb hK hH q (by omega) hsq (by omega) (by omega) (by omega) dJ1_charAt_3b067_8 ?_
  refine x_sipush hx hb dJ1_charAt_3b067_9 (by decide) ?_
  refine x_iand hx hb dJ1_charAt_3b067_12 ?_
  have h79 := h7 j h2 h3
  rw [iand_255 (by omega) (by omega)]
  refine x_i2c hx hb dJ1_charAt_3b067_13 ?_
  rw [i2cZ_in (by omega) (by omega)]
  subst hQ
  exact x_cret hx hb hr hlocks hH (Nat.le_of_ble_eq_true rfl) (Nat.le_of_ble_eq_true rfl) (by omega) (by omega) ⟨(show (F j) = (F j) from (by rfl)), rfl⟩ dJ1_charAt_3b067_14

def rm_J0_charAt_5068e : Room := { frames := 3, cells := 0, slots := 0, locals := 64 }
set_option maxRecDepth 100000 in
set_option maxHeartbeats 4000000 in
theorem c_J0_charAt_5068e (l : Launch) (E : xE) (ST : xST) (hSF : SF ST) (Z : zE) (hSQ : SQ Z ST) (σ : xW) (i : Int) (k : Int) (h0 : 0 ≤ i) (h1 : i < 6) (h2 : 0 ≤ k) (h3 : k < slZ i) : CI l E ST yJ0_charAt_5068e wsJ0_charAt_5068e rm_J0_charAt_5068e [.ref (zK Z i), .int (iZ k)] σ (fun (z : Int) (u : xW) => z = scZ i k ∧ u = σ) := by
  refine CI_of (by decide) rfl (Nat.le_of_ble_eq_true rfl) ?_
  intro p e s m args below meth c Q ls G hH hl hQ
  obtain ⟨hx, hb, hml, hown, hts, hK, hST, hlocks, hr, hno⟩ := G
  have hOK := hSF.1
  have hown : s.vm.findClass RJ0 = some m.cls := hown
  have hl : lv_has ls 2 [(0, .ref (zK Z i)), (1, .int (iZ k))] := hl
  have hsc := scZ_b h0 h1 h2 h3
  have hF : xCf p E ST (xA E s.heap.size) s m args c cJ0_charAt_5068e 2 wsJ0_charAt_5068e RJ0 := ⟨hx, hb, hml, hown, hts, hK, hST, hOK⟩
  have hlk9 : meth.locks = false := hlocks
  refine lv_aload_n hx hb dJ0_charAt_5068e_0 rfl (lv_at hl 0 rfl) ?_
  refine x_aftI (va_runV (As := []) (rest := []) hF.fx ((c_J0_isLatin1_aae02 l E ST hSF Z hSQ σ i (by omega) (by omega)) _) (cwV 0 hts gJ0_charAt_5068e_J0_isLatin1_aae02 rfl rfl rfl (by decide +kernel) ⟨Nat.le_of_ble_eq_true rfl, Nat.le_of_ble_eq_true rfl⟩) (hF.prv hH (x_recS hSQ hST hH (i := i) (by omega) (by omega)) []) rfl rfl hl.1 rfl (lv_room (Nat.le_of_ble_eq_true rfl)) dJ0_charAt_5068e_1 ⟨Nat.le_of_ble_eq_true rfl, Nat.le_of_ble_eq_true rfl⟩) hH (fun z3 σ1 H locs hp2 hH => ?_)
  obtain ⟨hz4, hu5⟩ := hp2
  rw [hu5] at hH
  rw [hz4]
  refine x_if_eq (tgt := 16) hx hb dJ0_charAt_5068e_4 (by decide) (rg_b2 _) (fun c4 => ?_) (fun c4 => ?_)
  · exact absurd c4 (by decide)
  · refine lv_aload_n hx hb dJ0_charAt_5068e_7 rfl (lv_at hl 0 rfl) ?_
    refine x_sval hx hb hSQ hST hH hown hts (i := i) (by omega) (by omega) (List.mem_of_getElem? (i := 1) rfl) dJ0_charAt_5068e_8 ?_
    refine lv_iload_n hx hb dJ0_charAt_5068e_11 rfl (lv_at hl 1 rfl) ?_
    refine x_aftI (va_runS (As := [.ref (zV Z i), .int (iZ k)]) (rest := []) hF.fx ((c_J1_charAt_3b067 l E ST hSF Z hSQ σ i k (by omega) (by omega) (by omega) (by omega)) _) (va_cwS 2 hts gJ0_charAt_5068e_J1_charAt_3b067 rfl rfl rfl (by decide +kernel) ⟨Nat.le_of_ble_eq_true rfl, Nat.le_of_ble_eq_true rfl⟩) (hF.pre hH [.ref (zV Z i), .int (iZ k)]) rfl rfl hl.1 rfl (lv_room (Nat.le_of_ble_eq_true rfl)) dJ0_charAt_5068e_12 ⟨Nat.le_of_ble_eq_true rfl, Nat.le_of_ble_eq_true rfl⟩) hH (fun z8 σ6 H locs hp7 hH => ?_)
    obtain ⟨hz9, hu10⟩ := hp7
    rw [hu10] at hH
    rw [hz9]
    subst hQ
    exact x_cret hx hb hr hlocks hH (Nat.le_of_ble_eq_true rfl) (Nat.le_of_ble_eq_true rfl) (by omega) (by omega) ⟨(show (scZ i k) = (scZ i k) from (by rfl)), rfl⟩ dJ0_charAt_5068e_15

def rm_J0_charAt_d : Room := { frames := 3, cells := 0, slots := 0, locals := 64 }
set_option maxRecDepth 100000 in
set_option maxHeartbeats 4000000 in
theorem c_J0_charAt_d (l : Launch) (E : xE) (ST : xST) (hSF : SF ST) (Z : zE) (hSQ : SQ Z ST) (σ : xW) (k : Nat) (q : Nat) (M : Nat) (F : Int → Int) (j : Int) (hkk : k < 85 + xx E) (hst : σ k = oSt E q) (hqq : q < 85 + xx E) (hsq : σ q = aY E M F) (h2 : 0 ≤ j) (h3 : j < M) (h7 : lt7 M F) (hM : M ≤ 200) : CI l E ST yJ0_charAt_5068e wsJ0_charAt_5068e rm_J0_charAt_d [.ref (xad E k), .int (iZ j)] σ (fun (z : Int) (u : xW) => z = F j ∧ u = σ) := by
  refine CI_of (by decide) rfl (Nat.le_of_ble_eq_true rfl) ?_
  intro p e s m args below meth c Q ls G hH hl hQ
  obtain ⟨hx, hb, hml, hown, hts, hK, hST, hlocks, hr, hno⟩ := G
  have hOK := hSF.1
  have hown : s.vm.findClass RJ0 = some m.cls := hown
  have hl : lv_has ls 2 [(0, .ref (xad E k)), (1, .int (iZ j))] := hl
  have hinJ0 : ∀ w ∈ u_ws RJ0 TJ0 4, w ∈ wsJ0_charAt_5068e := fun w h => (List.mem_cons_of_mem _ (List.mem_append_right _ h))
  have h78 := h7 j h2 h3
  have hF : xCf p E ST (xA E s.heap.size) s m args c cJ0_charAt_5068e 2 wsJ0_charAt_5068e RJ0 := ⟨hx, hb, hml, hown, hts, hK, hST, hOK⟩
  have hlk9 : meth.locks = false := hlocks
  refine lv_aload_n hx hb dJ0_charAt_5068e_0 rfl (lv_at hl 0 rfl) ?_
  refine x_aftI (va_runV (As := []) (rest := []) hF.fx ((c_J0_isLatin1_d l E ST hSF Z hSQ σ k q (by omega) hst) _) (cwV 0 hts gJ0_charAt_5068e_J0_isLatin1_aae02 rfl rfl rfl (by decide +kernel) ⟨Nat.le_of_ble_eq_true rfl, Nat.le_of_ble_eq_true rfl⟩) (hF.prv hH (hF.rcv hH (k0 := k) (by omega) hst rfl) []) rfl rfl hl.1 rfl (lv_room (Nat.le_of_ble_eq_true rfl)) dJ0_charAt_5068e_1 ⟨Nat.le_of_ble_eq_true rfl, Nat.le_of_ble_eq_true rfl⟩) hH (fun z3 σ1 H locs hp2 hH => ?_)
  obtain ⟨hz4, hu5⟩ := hp2
  rw [hu5] at hH
  rw [hz4]
  refine x_if_eq (tgt := 16) hx hb dJ0_charAt_5068e_4 (by decide) (rg_b2 _) (fun c4 => ?_) (fun c4 => ?_)
  · exact absurd c4 (by decide)
  · refine lv_aload_n hx hb dJ0_charAt_5068e_7 rfl (lv_at hl 0 rfl) ?_
    refine x_get hx hb hts hown hK hH k (by omega) hst hinJ0 rfl 0 (by decide) (List.mem_of_getElem? (i := 1) rfl) rfl dJ0_charAt_5068e_8 ?_
    refine lv_iload_n hx hb dJ0_charAt_5068e_11 rfl (lv_at hl 1 rfl) ?_
    refine x_aftI (va_runS (As := [.ref (xad E q), .int (iZ j)]) (rest := []) hF.fx ((c_J1_charAt_d l E ST hSF Z hSQ σ q M F j (by omega) hsq (by omega) (by omega) h7 (by omega)) _) (va_cwS 2 hts gJ0_charAt_5068e_J1_charAt_3b067 rfl rfl rfl (by decide +kernel) ⟨Nat.le_of_ble_eq_true rfl, Nat.le_of_ble_eq_true rfl⟩) (hF.pre hH [.ref (xad E q), .int (iZ j)]) rfl rfl hl.1 rfl (lv_room (Nat.le_of_ble_eq_true rfl)) dJ0_charAt_5068e_12 ⟨Nat.le_of_ble_eq_true rfl, Nat.le_of_ble_eq_true rfl⟩) hH (fun z8 σ6 H locs hp7 hH => ?_)
    obtain ⟨hz9, hu10⟩ := hp7
    rw [hu10] at hH
    rw [hz9]
    subst hQ
    exact x_cret hx hb hr hlocks hH (Nat.le_of_ble_eq_true rfl) (Nat.le_of_ble_eq_true rfl) (by omega) (by omega) ⟨(show (F j) = (F j) from (by rfl)), rfl⟩ dJ0_charAt_5068e_15

def rm_J5_isLatin1_aae02 : Room := { frames := 0, cells := 0, slots := 0, locals := 0 }
set_option maxRecDepth 100000 in
set_option maxHeartbeats 4000000 in
theorem c_J5_isLatin1_aae02 (l : Launch) (E : xE) (ST : xST) (hSF : SF ST) (Z : zE) (hSQ : SQ Z ST) (σ : xW) (b : Nat) (r : Nat) (n : Int) (hbb : b < 85 + xx E) (hsb : σ b = oSb E r n) : CI l E ST yJ5_isLatin1_aae02 wsJ5_isLatin1_aae02 rm_J5_isLatin1_aae02 [.ref (xad E b)] σ (fun (z : Int) (u : xW) => z = b2 true ∧ u = σ) := by
  refine CI_of (by decide) rfl (Nat.le_of_ble_eq_true rfl) ?_
  intro p e s m args below meth c Q ls G hH hl hQ
  obtain ⟨hx, hb, hml, hown, hts, hK, hST, hlocks, hr, hno⟩ := G
  have hOK := hSF.1
  have hown : s.vm.findClass RJ5 = some m.cls := hown
  have hl : lv_has ls 1 [(0, .ref (xad E b))] := hl
  have hinJ4 : ∀ w ∈ u_ws RJ4 TJ4 4, w ∈ wsJ5_isLatin1_aae02 := fun w h => (List.mem_cons_of_mem _ (List.mem_append_right _ h))
  have hF : xCf p E ST (xA E s.heap.size) s m args c cJ5_isLatin1_aae02 1 wsJ5_isLatin1_aae02 RJ5 := ⟨hx, hb, hml, hown, hts, hK, hST, hOK⟩
  have hlk9 : meth.locks = false := hlocks
  refine x_gcs hx hb hSQ hST hH hown hts (List.mem_of_getElem? (i := 1) rfl) dJ5_isLatin1_aae02_0 ?_
  refine x_if_eq (tgt := 17) hx hb dJ5_isLatin1_aae02_3 (by decide) (by decide) (fun c3 => ?_) (fun c3 => ?_)
  · exact absurd c3 (by decide)
  · refine lv_aload_n hx hb dJ5_isLatin1_aae02_6 rfl (lv_at hl 0 rfl) ?_
    refine x_get hx hb hts hown hK hH b (by omega) hsb hinJ4 rfl 1 (by decide) (List.mem_of_getElem? (i := 2) rfl) rfl dJ5_isLatin1_aae02_7 ?_
    refine x_if_ne (tgt := 17) hx hb dJ5_isLatin1_aae02_10 (by decide) (by decide) (fun c10 => ?_) (fun c10 => ?_)
    · exact absurd c10 (by decide)
    · refine x_iconst hx hb dJ5_isLatin1_aae02_13 ?_
      refine lv_goto (tgt := 18) hx hb dJ5_isLatin1_aae02_14 (by decide) ?_
      subst hQ
      exact x_zret (b := true) hx hb hr hlocks hH (Nat.le_of_ble_eq_true rfl) (Nat.le_of_ble_eq_true rfl) ⟨congrArg b2 (show true = true from (by rfl)), rfl⟩ dJ5_isLatin1_aae02_18

def rm_J5_length_8abf5 : Room := { frames := 0, cells := 0, slots := 0, locals := 0 }
set_option maxRecDepth 100000 in
set_option maxHeartbeats 4000000 in
theorem c_J5_length_8abf5 (l : Launch) (E : xE) (ST : xST) (hSF : SF ST) (Z : zE) (hSQ : SQ Z ST) (σ : xW) (b : Nat) (r : Nat) (n : Int) (hbb : b < 85 + xx E) (hsb : σ b = oSb E r n) : CI l E ST yJ5_length_8abf5 wsJ5_length_8abf5 rm_J5_length_8abf5 [.ref (xad E b)] σ (fun (z : Int) (u : xW) => z = n ∧ u = σ) := by
  refine CI_of (by decide) rfl (Nat.le_of_ble_eq_true rfl) ?_
  intro p e s m args below meth c Q ls G hH hl hQ
  obtain ⟨hx, hb, hml, hown, hts, hK, hST, hlocks, hr, hno⟩ := G
  have hOK := hSF.1
  have hown : s.vm.findClass RJ5 = some m.cls := hown
  have hl : lv_has ls 1 [(0, .ref (xad E b))] := hl
  have hinJ4 : ∀ w ∈ u_ws RJ4 TJ4 4, w ∈ wsJ5_length_8abf5 := fun w h => (List.mem_cons_of_mem _ (List.mem_append_right _ h))
  have hF : xCf p E ST (xA E s.heap.size) s m args c cJ5_length_8abf5 1 wsJ5_length_8abf5 RJ5 := ⟨hx, hb, hml, hown, hts, hK, hST, hOK⟩
  have hlk9 : meth.locks = false := hlocks
  refine lv_aload_n hx hb dJ5_length_8abf5_0 rfl (lv_at hl 0 rfl) ?_
  refine x_get hx hb hts hown hK hH b (by omega) hsb hinJ4 rfl 3 (by decide) (List.mem_of_getElem? (i := 1) rfl) rfl dJ5_length_8abf5_1 ?_
  subst hQ
  exact x_iret hx hb hr hlocks hH (Nat.le_of_ble_eq_true rfl) (Nat.le_of_ble_eq_true rfl) ⟨(show n = n from (by rfl)), rfl⟩ dJ5_length_8abf5_4

def rm_J4_length_8abf5 : Room := { frames := 1, cells := 0, slots := 0, locals := 20 }
set_option maxRecDepth 100000 in
set_option maxHeartbeats 4000000 in
theorem c_J4_length_8abf5 (l : Launch) (E : xE) (ST : xST) (hSF : SF ST) (Z : zE) (hSQ : SQ Z ST) (σ : xW) (b : Nat) (r : Nat) (n : Int) (hbb : b < 85 + xx E) (hsb : σ b = oSb E r n) : CI l E ST yJ4_length_8abf5 wsJ4_length_8abf5 rm_J4_length_8abf5 [.ref (xad E b)] σ (fun (z : Int) (u : xW) => z = n ∧ u = σ) := by
  refine CI_of (by decide) rfl (Nat.le_of_ble_eq_true rfl) ?_
  intro p e s m args below meth c Q ls G hH hl hQ
  obtain ⟨hx, hb, hml, hown, hts, hK, hST, hlocks, hr, hno⟩ := G
  have hOK := hSF.1
  have hown : s.vm.findClass RJ4 = some m.cls := hown
  have hl : lv_has ls 1 [(0, .ref (xad E b))] := hl
  have hF : xCf p E ST (xA E s.heap.size) s m args c cJ4_length_8abf5 1 wsJ4_length_8abf5 RJ4 := ⟨hx, hb, hml, hown, hts, hK, hST, hOK⟩
  have hlk9 : meth.locks = false := hlocks
  refine lv_aload_n hx hb dJ4_length_8abf5_0 rfl (lv_at hl 0 rfl) ?_
  refine x_aftI (va_runSU (hK.1 6 (RJ4, TJ4, 4) rfl).2 (As := []) (rest := []) hF.fx ((c_J5_length_8abf5 l E ST hSF Z hSQ σ b r n (by omega) hsb) _) (va_cwSU 0 hts gJ4_length_8abf5_J5_length_8abf5_s343 rfl rfl rfl (by decide +kernel) ⟨Nat.le_of_ble_eq_true rfl, Nat.le_of_ble_eq_true rfl⟩) (hF.prv hH (hF.rcv hH (k0 := b) (by omega) hsb rfl) []) rfl rfl hl.1 rfl (lv_room (Nat.le_of_ble_eq_true rfl)) dJ4_length_8abf5_1 ⟨Nat.le_of_ble_eq_true rfl, Nat.le_of_ble_eq_true rfl⟩) hH (fun z3 σ1 H locs hp2 hH => ?_)
  obtain ⟨hz4, hu5⟩ := hp2
  rw [hu5] at hH
  rw [hz4]
  subst hQ
  exact x_iret hx hb hr hlocks hH (Nat.le_of_ble_eq_true rfl) (Nat.le_of_ble_eq_true rfl) ⟨(show n = n from (by rfl)), rfl⟩ dJ4_length_8abf5_4

def rm_J5_getValue_6d5f1 : Room := { frames := 0, cells := 0, slots := 0, locals := 0 }
set_option maxRecDepth 100000 in
set_option maxHeartbeats 4000000 in
theorem c_J5_getValue_6d5f1 (l : Launch) (E : xE) (ST : xST) (hSF : SF ST) (Z : zE) (hSQ : SQ Z ST) (σ : xW) (b : Nat) (r : Nat) (n : Int) (hbb : b < 85 + xx E) (hsb : σ b = oSb E r n) : CR l E ST yJ5_getValue_6d5f1 wsJ5_getValue_6d5f1 rm_J5_getValue_6d5f1 [.ref (xad E b)] σ (fun (Ez : xE) (g : Nat) (u : xW) => Ez = E ∧ g = r ∧ u = σ) := by
  refine CR_of (by decide) rfl (Nat.le_of_ble_eq_true rfl) ?_
  intro p e s m args below meth c Q ls G hH hl hQ
  obtain ⟨hx, hb, hml, hown, hts, hK, hST, hlocks, hr, hno⟩ := G
  have hOK := hSF.1
  have hown : s.vm.findClass RJ5 = some m.cls := hown
  have hl : lv_has ls 1 [(0, .ref (xad E b))] := hl
  have hinJ4 : ∀ w ∈ u_ws RJ4 TJ4 4, w ∈ wsJ5_getValue_6d5f1 := fun w h => (List.mem_cons_of_mem _ (List.mem_append_right _ h))
  have hF : xCf p E ST (xA E s.heap.size) s m args c cJ5_getValue_6d5f1 1 wsJ5_getValue_6d5f1 RJ5 := ⟨hx, hb, hml, hown, hts, hK, hST, hOK⟩
  have hlk9 : meth.locks = false := hlocks
  refine lv_aload_n hx hb dJ5_getValue_6d5f1_0 rfl (lv_at hl 0 rfl) ?_
  refine x_get hx hb hts hown hK hH b (by omega) hsb hinJ4 rfl 0 (by decide) (List.mem_of_getElem? (i := 1) rfl) rfl dJ5_getValue_6d5f1_1 ?_
  subst hQ
  exact x_aret (post := (fun (Ez : xE) (g : Nat) (u : xW) => Ez = E ∧ g = r ∧ u = σ)) hx hb hr hlocks hH (Nat.le_of_ble_eq_true rfl) (Nat.le_of_ble_eq_true rfl) ⟨rfl, rfl, rfl⟩ dJ5_getValue_6d5f1_4

def rm_J1_canEncode_fc78d : Room := { frames := 0, cells := 0, slots := 0, locals := 0 }
set_option maxRecDepth 100000 in
set_option maxHeartbeats 4000000 in
theorem c_J1_canEncode_fc78d (l : Launch) (E : xE) (ST : xST) (hSF : SF ST) (Z : zE) (hSQ : SQ Z ST) (σ : xW) (c9 : Int) (hc : 0 ≤ c9 ∧ c9 ≤ 127) : CI l E ST yJ1_canEncode_fc78d wsJ1_canEncode_fc78d rm_J1_canEncode_fc78d [.int (iZ c9)] σ (fun (z : Int) (u : xW) => z = b2 true ∧ u = σ) := by
  refine CI_of (by decide) rfl (Nat.le_of_ble_eq_true rfl) ?_
  intro p e s m args below meth c Q ls G hH hl hQ
  obtain ⟨hx, hb, hml, hown, hts, hK, hST, hlocks, hr, hno⟩ := G
  have hOK := hSF.1
  have hown : s.vm.findClass RJ1 = some m.cls := hown
  have hl : lv_has ls 1 [(0, .int (iZ c9))] := hl
  have hF : xCf p E ST (xA E s.heap.size) s m args c cJ1_canEncode_fc78d 1 wsJ1_canEncode_fc78d RJ1 := ⟨hx, hb, hml, hown, hts, hK, hST, hOK⟩
  have hlk9 : meth.locks = false := hlocks
  refine lv_iload_n hx hb dJ1_canEncode_fc78d_0 rfl (lv_at hl 0 rfl) ?_
  refine x_sipush hx hb dJ1_canEncode_fc78d_1 (by decide) ?_
  refine x_icmp_gt (tgt := 11) hx hb dJ1_canEncode_fc78d_4 (by decide) (by omega) (by decide) (fun c4 => ?_) (fun c4 => ?_)
  · exact absurd c4 (by omega)
  · refine x_iconst hx hb dJ1_canEncode_fc78d_7 ?_
    refine lv_goto (tgt := 12) hx hb dJ1_canEncode_fc78d_8 (by decide) ?_
    subst hQ
    exact x_zret (b := true) hx hb hr hlocks hH (Nat.le_of_ble_eq_true rfl) (Nat.le_of_ble_eq_true rfl) ⟨congrArg b2 (show true = true from (by rfl)), rfl⟩ dJ1_canEncode_fc78d_12

def rm_J8_newLength_cabcc : Room := { frames := 1, cells := 0, slots := 0, locals := 24 }
set_option maxRecDepth 100000 in
set_option maxHeartbeats 4000000 in
theorem c_J8_newLength_cabcc (l : Launch) (E : xE) (ST : xST) (hSF : SF ST) (Z : zE) (hSQ : SQ Z ST) (σ : xW) (o9 : Int) (g9 : Int) (p9 : Int) (ho : 0 ≤ o9 ∧ o9 ≤ 500 ∧ 0 < p9 ∧ p9 ≤ 1000 ∧ -1000 ≤ g9 ∧ g9 ≤ 1000) : CI l E ST yJ8_newLength_cabcc wsJ8_newLength_cabcc rm_J8_newLength_cabcc [.int (iZ o9), .int (iZ g9), .int (iZ p9)] σ (fun (z : Int) (u : xW) => (o9 + p9 ≤ z ∧ o9 + g9 ≤ z ∧ (z = o9 + p9 ∨ z = o9 + g9)) ∧ u = σ) := by
  refine CI_of (by decide) rfl (Nat.le_of_ble_eq_true rfl) ?_
  intro p e s m args below meth c Q ls G hH hl hQ
  obtain ⟨hx, hb, hml, hown, hts, hK, hST, hlocks, hr, hno⟩ := G
  have hOK := hSF.1
  have hown : s.vm.findClass RJ8 = some m.cls := hown
  have hl : lv_has ls 4 [(0, .int (iZ o9)), (1, .int (iZ g9)), (2, .int (iZ p9))] := hl
  have hF : xCf p E ST (xA E s.heap.size) s m args c cJ8_newLength_cabcc 4 wsJ8_newLength_cabcc RJ8 := ⟨hx, hb, hml, hown, hts, hK, hST, hOK⟩
  have hlk9 : meth.locks = false := hlocks
  refine lv_iload_n hx hb dJ8_newLength_cabcc_0 rfl (lv_at hl 0 rfl) ?_
  refine lv_iload_n hx hb dJ8_newLength_cabcc_1 rfl (lv_at hl 1 rfl) ?_
  refine lv_iload_n hx hb dJ8_newLength_cabcc_2 rfl (lv_at hl 2 rfl) ?_
  refine x_max hx hb hml hown hts (List.mem_of_getElem? (i := 1) rfl) (List.mem_of_getElem? (i := 2) rfl) (List.mem_of_getElem? (i := 3) rfl) (List.mem_of_getElem? (i := 4) rfl) hl.1 (Nat.le_of_ble_eq_true rfl) (Nat.le_of_ble_eq_true rfl) (Nat.le_of_ble_eq_true rfl) (Nat.le_of_ble_eq_true rfl) (by omega) (by omega) dJ8_newLength_cabcc_3 ?_
  obtain ⟨x9, hx9, hx8⟩ : ∃ x9 : Int, x9 = (if g9 < p9 then p9 else g9) ∧ (p9 ≤ x9 ∧ g9 ≤ x9 ∧ (x9 = p9 ∨ x9 = g9)) := ⟨_, rfl, by split <;> omega⟩
  rw [← hx9]
  refine x_iadd hx hb dJ8_newLength_cabcc_6 ?_
  refine lv_istore_n (lv' := [(3, .int (iZ (o9 + x9))), (0, .int (iZ o9)), (1, .int (iZ g9)), (2, .int (iZ p9))]) hx hb dJ8_newLength_cabcc_7 rfl hl (by decide) rfl (fun ls hl => ?_)
  refine x_iconst hx hb dJ8_newLength_cabcc_8 ?_
  refine lv_iload_n hx hb dJ8_newLength_cabcc_9 rfl (lv_at hl 0 rfl) ?_
  refine x_icmp_ge (tgt := 21) hx hb dJ8_newLength_cabcc_10 (by decide) (by decide) (by omega) (fun c10 => ?_) (fun c10 => ?_)
  · exact absurd c10 (by omega)
  · refine lv_iload_n hx hb dJ8_newLength_cabcc_13 rfl (lv_at hl 0 rfl) ?_
    refine x_ldc (n := 2147483639) hx hb hown (hts _ (List.mem_of_getElem? (i := 5) rfl)) (by decide) dJ8_newLength_cabcc_14 ?_
    refine x_icmp_gt (tgt := 21) hx hb dJ8_newLength_cabcc_16 (by decide) (by omega) (by decide) (fun c16 => ?_) (fun c16 => ?_)
    · exact absurd c16 (by omega)
    · refine lv_iload_n hx hb dJ8_newLength_cabcc_19 rfl (lv_at hl 0 rfl) ?_
      subst hQ
      exact x_iret hx hb hr hlocks hH (Nat.le_of_ble_eq_true rfl) (Nat.le_of_ble_eq_true rfl) ⟨(by omega), rfl⟩ dJ8_newLength_cabcc_20
