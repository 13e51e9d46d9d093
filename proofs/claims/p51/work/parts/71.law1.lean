def rm_L_cell : Room := { frames := 0, cells := 0, slots := 0, locals := 0 }
set_option maxRecDepth 100000 in
set_option maxHeartbeats 4000000 in
theorem c_L_cell (l : Launch) (E : xE) (ST : xST) (hSF : SF ST) (zb zL : Nat) (zx : Int → Int) (hSC : SC zb zL zx ST) (hzL : zL ≤ 260) (σ : xW) (i9 : Int) (h0 : 0 ≤ i9 ∧ i9 ≤ 1000) : CI l E ST yL_cell wML_cell rm_L_cell [.ref zb, .int (iZ i9)] σ (fun (z : Int) (u : xW) => (True) ∧ u = σ) := by
  refine CI_of (by decide) rfl (Nat.le_of_ble_eq_true rfl) ?_
  intro p e s m args below meth c Q ls G hH hl hQ
  obtain ⟨hx, hb, hml, hown, hts, hK, hST, hlocks, hr, hno⟩ := G
  have hOK := hSF.1
  have hown : s.vm.findClass RL = some m.cls := hown
  have hl : lv_has ls 3 [(0, .ref zb), (1, .int (iZ i9))] := hl
  refine x_ldc (n := 69069) hx hb hown (hts _ (List.mem_cons_of_mem _ (List.mem_append_right _ mW_91))) (by decide) dL_cell_0 ?_
  refine lv_iload_n hx hb dL_cell_2 rfl (lv_at hl 1 rfl) ?_
  refine lv_aload_n hx hb dL_cell_3 rfl (lv_at hl 0 rfl) ?_
  refine x_scl hx hb hSC hST hH dL_cell_4 ?_
  refine x_icmp_ge (tgt := 14) hx hb dL_cell_5 (by decide) (by omega) (by omega) (fun c5 => ?_) (fun c5 => ?_)
  · refine x_iconst hx hb dL_cell_14 ?_
    refine x_sipush hx hb dL_cell_15 (by decide) ?_
    refine lv_iload_n hx hb dL_cell_18 rfl (lv_at hl 1 rfl) ?_
    refine x_imul hx hb dL_cell_19 ?_
    refine x_iadd hx hb dL_cell_20 ?_
    refine x_imul hx hb dL_cell_21 ?_
    refine x_sipush hx hb dL_cell_22 (by decide) ?_
    refine x_iadd hx hb dL_cell_25 ?_
    refine lv_istore_n (lv' := [(2, .int (iZ ((69069 * (0 + (1009 * i9))) + 12345))), (0, .ref zb), (1, .int (iZ i9))]) hx hb dL_cell_26 rfl hl (by decide) rfl (fun ls hl => ?_)
    refine lv_iload_n hx hb dL_cell_27 rfl (lv_at hl 0 rfl) ?_
    refine lv_iload_n hx hb dL_cell_28 rfl (lv_at hl 0 rfl) ?_
    refine x_bipush hx hb dL_cell_29 (by decide) ?_
    refine x_iushr hx hb dL_cell_31 ?_
    refine x_ixor hx hb dL_cell_32 ?_
    refine x_ldc (n := 1103515245) hx hb hown (hts _ (List.mem_cons_of_mem _ (List.mem_append_right _ mW_92))) (by decide) dL_cell_33 ?_
    refine x_imul hx hb dL_cell_35 ?_
    refine lv_istore_n (lv' := [(2, .int (iZ ((ixorZ ((69069 * (0 + (1009 * i9))) + 12345) (iushrZ ((69069 * (0 + (1009 * i9))) + 12345) 13)) * 1103515245))), (0, .ref zb), (1, .int (iZ i9))]) hx hb dL_cell_36 rfl hl (by decide) rfl (fun ls hl => ?_)
    refine lv_iload_n hx hb dL_cell_37 rfl (lv_at hl 0 rfl) ?_
    refine lv_iload_n hx hb dL_cell_38 rfl (lv_at hl 0 rfl) ?_
    refine x_bipush hx hb dL_cell_39 (by decide) ?_
    refine x_iushr hx hb dL_cell_41 ?_
    refine x_ixor hx hb dL_cell_42 ?_
    subst hQ
    exact x_iret hx hb hr hlocks hH (Nat.le_of_ble_eq_true rfl) (Nat.le_of_ble_eq_true rfl) ⟨(by trivial), rfl⟩ dL_cell_43
  · refine lv_aload_n hx hb dL_cell_8 rfl (lv_at hl 0 rfl) ?_
    refine lv_iload_n hx hb dL_cell_9 rfl (lv_at hl 1 rfl) ?_
    refine x_sci hx hb hSC hST hH (i := i9) (by omega) (by omega) (by omega) dL_cell_10 ?_
    refine lv_goto (tgt := 15) hx hb dL_cell_11 (by decide) ?_
    refine x_sipush hx hb dL_cell_15 (by decide) ?_
    refine lv_iload_n hx hb dL_cell_18 rfl (lv_at hl 1 rfl) ?_
    refine x_imul hx hb dL_cell_19 ?_
    refine x_iadd hx hb dL_cell_20 ?_
    refine x_imul hx hb dL_cell_21 ?_
    refine x_sipush hx hb dL_cell_22 (by decide) ?_
    refine x_iadd hx hb dL_cell_25 ?_
    refine lv_istore_n (lv' := [(2, .int (iZ ((69069 * ((zx i9) + (1009 * i9))) + 12345))), (0, .ref zb), (1, .int (iZ i9))]) hx hb dL_cell_26 rfl hl (by decide) rfl (fun ls hl => ?_)
    refine lv_iload_n hx hb dL_cell_27 rfl (lv_at hl 0 rfl) ?_
    refine lv_iload_n hx hb dL_cell_28 rfl (lv_at hl 0 rfl) ?_
    refine x_bipush hx hb dL_cell_29 (by decide) ?_
    refine x_iushr hx hb dL_cell_31 ?_
    refine x_ixor hx hb dL_cell_32 ?_
    refine x_ldc (n := 1103515245) hx hb hown (hts _ (List.mem_cons_of_mem _ (List.mem_append_right _ mW_92))) (by decide) dL_cell_33 ?_
    refine x_imul hx hb dL_cell_35 ?_
    refine lv_istore_n (lv' := [(2, .int (iZ ((ixorZ ((69069 * ((zx i9) + (1009 * i9))) + 12345) (iushrZ ((69069 * ((zx i9) + (1009 * i9))) + 12345) 13)) * 1103515245))), (0, .ref zb), (1, .int (iZ i9))]) hx hb dL_cell_36 rfl hl (by decide) rfl (fun ls hl => ?_)
    refine lv_iload_n hx hb dL_cell_37 rfl (lv_at hl 0 rfl) ?_
    refine lv_iload_n hx hb dL_cell_38 rfl (lv_at hl 0 rfl) ?_
    refine x_bipush hx hb dL_cell_39 (by decide) ?_
    refine x_iushr hx hb dL_cell_41 ?_
    refine x_ixor hx hb dL_cell_42 ?_
    subst hQ
    exact x_iret hx hb hr hlocks hH (Nat.le_of_ble_eq_true rfl) (Nat.le_of_ble_eq_true rfl) ⟨(by trivial), rfl⟩ dL_cell_43

def rm_L_pick : Room := { frames := 1, cells := 0, slots := 0, locals := 22 }
set_option maxRecDepth 100000 in
set_option maxHeartbeats 4000000 in
theorem c_L_pick (l : Launch) (E : xE) (ST : xST) (hSF : SF ST) (zb zL : Nat) (zx : Int → Int) (hSC : SC zb zL zx ST) (hzL : zL ≤ 260) (σ : xW) (i9 : Int) (m9 : Int) (h0 : 0 ≤ i9 ∧ i9 ≤ 1000) (hm : 0 < m9 ∧ m9 ≤ 1000) : CI l E ST yL_pick wML_pick rm_L_pick [.ref zb, .int (iZ i9), .int (iZ m9)] σ (fun (z : Int) (u : xW) => (0 ≤ z ∧ z < m9) ∧ u = σ) := by
  refine CI_of (by decide) rfl (Nat.le_of_ble_eq_true rfl) ?_
  intro p e s m args below meth c Q ls G hH hl hQ
  obtain ⟨hx, hb, hml, hown, hts, hK, hST, hlocks, hr, hno⟩ := G
  have hOK := hSF.1
  have hown : s.vm.findClass RL = some m.cls := hown
  have hl : lv_has ls 3 [(0, .ref zb), (1, .int (iZ i9)), (2, .int (iZ m9))] := hl
  refine lv_aload_n hx hb dL_pick_0 rfl (lv_at hl 0 rfl) ?_
  refine lv_iload_n hx hb dL_pick_1 rfl (lv_at hl 1 rfl) ?_
  refine x_cSI (As := [.ref zb, .int (iZ i9)]) (rest := []) hx hb hml hts hown hK hST hOK hH (c_L_cell l E ST hSF zb zL zx hSC hzL σ i9  (by omega)) (va_cwS 2 hts (goodIn_t gK_9) rfl rfl rfl (by decide +kernel) ⟨Nat.le_of_ble_eq_true rfl, Nat.le_of_ble_eq_true rfl⟩) rfl hl.1 rfl (Nat.le_of_ble_eq_true rfl) dL_pick_2 ⟨Nat.le_of_ble_eq_true rfl, Nat.le_of_ble_eq_true rfl⟩ (fun zc σ1 H locs hp2 hH => ?_)
  obtain ⟨hz3, hu4⟩ := hp2
  rw [hu4] at hH
  refine x_bipush hx hb dL_pick_5 (by decide) ?_
  refine x_iushr hx hb dL_pick_7 ?_
  have hu8 := iushr8 zc
  refine lv_iload_n hx hb dL_pick_8 rfl (lv_at hl 2 rfl) ?_
  refine x_irem hx hb dL_pick_9 (by omega) (by omega) (by omega) (by omega) ?_
  subst hQ
  exact x_iret hx hb hr hlocks hH (Nat.le_of_ble_eq_true rfl) (Nat.le_of_ble_eq_true rfl) ⟨(by exact ⟨Int.emod_nonneg _ (by omega), Int.emod_lt_of_pos _ (by omega)⟩), rfl⟩ dL_pick_10

def rm_L_told : Room := { frames := 0, cells := 0, slots := 0, locals := 0 }
set_option maxRecDepth 100000 in
set_option maxHeartbeats 4000000 in
theorem c_L_told (l : Launch) (E : xE) (ST : xST) (hSF : SF ST) (σ : xW) (b9 : Bool)  : CI l E ST yL_told wML_told rm_L_told [.int (iZ (b2 b9))] σ (fun (z : Int) (u : xW) => z = b2 b9 ∧ u = σ) := by
  refine CI_of (by decide) rfl (Nat.le_of_ble_eq_true rfl) ?_
  intro p e s m args below meth c Q ls G hH hl hQ
  obtain ⟨hx, hb, hml, hown, hts, hK, hST, hlocks, hr, hno⟩ := G
  have hOK := hSF.1
  have hown : s.vm.findClass RL = some m.cls := hown
  have hl : lv_has ls 1 [(0, .int (iZ (b2 b9)))] := hl
  refine lv_iload_n hx hb dL_told_0 rfl (lv_at hl 0 rfl) ?_
  refine x_ifb_eq (tgt := 8) hx hb dL_told_1 (by decide) (fun c1 => ?_) (fun c1 => ?_)
  · refine x_iconst hx hb dL_told_8 ?_
    subst hQ
    exact x_iret hx hb hr hlocks hH (Nat.le_of_ble_eq_true rfl) (Nat.le_of_ble_eq_true rfl) ⟨(show 0 = (b2 b9) from (by rw [c1]; rfl)), rfl⟩ dL_told_9
  · refine x_iconst hx hb dL_told_4 ?_
    refine lv_goto (tgt := 9) hx hb dL_told_5 (by decide) ?_
    subst hQ
    exact x_iret hx hb hr hlocks hH (Nat.le_of_ble_eq_true rfl) (Nat.le_of_ble_eq_true rfl) ⟨(show 1 = (b2 b9) from (by rw [c1]; rfl)), rfl⟩ dL_told_9

def rm_L_tile : Room := { frames := 2, cells := 0, slots := 0, locals := 44 }
set_option maxRecDepth 100000 in
set_option maxHeartbeats 4000000 in
theorem c_L_tile (l : Launch) (E : xE) (ST : xST) (hSF : SF ST) (zb zL : Nat) (zx : Int → Int) (hSC : SC zb zL zx ST) (hzL : zL ≤ 260) (σ : xW) (i9 : Int) (h0 : 0 ≤ i9 ∧ i9 ≤ 990) : CI l E ST yL_tile wML_tile rm_L_tile [.ref zb, .int (iZ i9)] σ (fun (z : Int) (u : xW) => (rg z) ∧ u = σ) := by
  refine CI_of (by decide) rfl (Nat.le_of_ble_eq_true rfl) ?_
  intro p e s m args below meth c Q ls G hH hl hQ
  obtain ⟨hx, hb, hml, hown, hts, hK, hST, hlocks, hr, hno⟩ := G
  have hOK := hSF.1
  have hown : s.vm.findClass RL = some m.cls := hown
  have hl : lv_has ls 2 [(0, .ref zb), (1, .int (iZ i9))] := hl
  refine lv_aload_n hx hb dL_tile_0 rfl (lv_at hl 0 rfl) ?_
  refine lv_iload_n hx hb dL_tile_1 rfl (lv_at hl 1 rfl) ?_
  refine x_iconst hx hb dL_tile_2 ?_
  refine x_cSI (As := [.ref zb, .int (iZ i9), .int (iZ 3)]) (rest := []) hx hb hml hts hown hK hST hOK hH (c_L_pick l E ST hSF zb zL zx hSC hzL σ i9 3  (by omega) (by omega)) (va_cwS 3 hts (goodIn_t gK_133) rfl rfl rfl (by decide +kernel) ⟨Nat.le_of_ble_eq_true rfl, Nat.le_of_ble_eq_true rfl⟩) rfl hl.1 rfl (Nat.le_of_ble_eq_true rfl) dL_tile_3 ⟨Nat.le_of_ble_eq_true rfl, Nat.le_of_ble_eq_true rfl⟩ (fun z1 σ2 H locs hp3 hH => ?_)
  obtain ⟨hz4, hu5⟩ := hp3
  rw [hu5] at hH
  refine x_if_ne (tgt := 14) hx hb dL_tile_6 (by decide) (by omega) (fun c6 => ?_) (fun c6 => ?_)
  · refine lv_aload_n hx hb dL_tile_14 rfl (lv_at hl 0 rfl) ?_
    refine lv_iload_n hx hb dL_tile_15 rfl (lv_at hl 1 rfl) ?_
    refine x_iconst hx hb dL_tile_16 ?_
    refine x_cSI (As := [.ref zb, .int (iZ i9), .int (iZ 2)]) (rest := []) hx hb hml hts hown hK hST hOK hH (c_L_pick l E ST hSF zb zL zx hSC hzL σ i9 2  (by omega) (by omega)) (va_cwS 3 hts (goodIn_t gK_133) rfl rfl rfl (by decide +kernel) ⟨Nat.le_of_ble_eq_true rfl, Nat.le_of_ble_eq_true rfl⟩) rfl hl.1 rfl (Nat.le_of_ble_eq_true rfl) dL_tile_17 ⟨Nat.le_of_ble_eq_true rfl, Nat.le_of_ble_eq_true rfl⟩ (fun z6 σ7 H locs hp8 hH => ?_)
    obtain ⟨hz9, hu10⟩ := hp8
    rw [hu10] at hH
    refine x_if_ne (tgt := 41) hx hb dL_tile_20 (by decide) (by omega) (fun c20 => ?_) (fun c20 => ?_)
    · refine lv_aload_n hx hb dL_tile_41 rfl (lv_at hl 0 rfl) ?_
      refine lv_iload_n hx hb dL_tile_42 rfl (lv_at hl 1 rfl) ?_
      refine x_iconst hx hb dL_tile_43 ?_
      refine x_iadd hx hb dL_tile_44 ?_
      refine x_bipush hx hb dL_tile_45 (by decide) ?_
      refine x_cSI (As := [.ref zb, .int (iZ (i9 + 1)), .int (iZ 16)]) (rest := []) hx hb hml hts hown hK hST hOK hH (c_L_pick l E ST hSF zb zL zx hSC hzL σ (i9 + 1) 16  (by omega) (by omega)) (va_cwS 3 hts (goodIn_t gK_133) rfl rfl rfl (by decide +kernel) ⟨Nat.le_of_ble_eq_true rfl, Nat.le_of_ble_eq_true rfl⟩) rfl hl.1 rfl (Nat.le_of_ble_eq_true rfl) dL_tile_47 ⟨Nat.le_of_ble_eq_true rfl, Nat.le_of_ble_eq_true rfl⟩ (fun z11 σ12 H locs hp13 hH => ?_)
      obtain ⟨hz14, hu15⟩ := hp13
      rw [hu15] at hH
      subst hQ
      exact x_iret hx hb hr hlocks hH (Nat.le_of_ble_eq_true rfl) (Nat.le_of_ble_eq_true rfl) ⟨(by first | omega | exact iZ_rg _ | decide), rfl⟩ dL_tile_50
    · refine x_bipush hx hb dL_tile_23 (by decide) ?_
      refine x_iconst hx hb dL_tile_25 ?_
      refine lv_aload_n hx hb dL_tile_26 rfl (lv_at hl 0 rfl) ?_
      refine lv_iload_n hx hb dL_tile_27 rfl (lv_at hl 1 rfl) ?_
      refine x_iconst hx hb dL_tile_28 ?_
      refine x_iadd hx hb dL_tile_29 ?_
      refine x_iconst hx hb dL_tile_30 ?_
      refine x_cSI (As := [.ref zb, .int (iZ (i9 + 1)), .int (iZ 4)]) (rest := [.int (iZ 1), .int (iZ 15)]) hx hb hml hts hown hK hST hOK hH (c_L_pick l E ST hSF zb zL zx hSC hzL σ (i9 + 1) 4  (by omega) (by omega)) (va_cwS 3 hts (goodIn_t gK_133) rfl rfl rfl (by decide +kernel) ⟨Nat.le_of_ble_eq_true rfl, Nat.le_of_ble_eq_true rfl⟩) rfl hl.1 rfl (Nat.le_of_ble_eq_true rfl) dL_tile_31 ⟨Nat.le_of_ble_eq_true rfl, Nat.le_of_ble_eq_true rfl⟩ (fun z16 σ17 H locs hp18 hH => ?_)
      obtain ⟨hz19, hu20⟩ := hp18
      rw [hu20] at hH
      refine x_ishl hx hb dL_tile_34 ?_
      refine x_iconst hx hb dL_tile_35 ?_
      refine x_ixor hx hb dL_tile_36 ?_
      refine x_iand hx hb dL_tile_37 ?_
      refine lv_goto (tgt := 50) hx hb dL_tile_38 (by decide) ?_
      subst hQ
      exact x_iret hx hb hr hlocks hH (Nat.le_of_ble_eq_true rfl) (Nat.le_of_ble_eq_true rfl) ⟨(by first | omega | exact iZ_rg _ | decide), rfl⟩ dL_tile_50
  · refine x_bipush hx hb dL_tile_9 (by decide) ?_
    refine lv_goto (tgt := 50) hx hb dL_tile_11 (by decide) ?_
    subst hQ
    exact x_iret hx hb hr hlocks hH (Nat.le_of_ble_eq_true rfl) (Nat.le_of_ble_eq_true rfl) ⟨(by first | omega | exact iZ_rg _ | decide), rfl⟩ dL_tile_50
