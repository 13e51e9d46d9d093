def rm_X7_readsCommand : Room := { frames := 5, cells := 0, slots := 0, locals := 110 }
set_option maxRecDepth 100000 in
set_option maxHeartbeats 16000000 in
theorem c_X7_readsCommand (l : Launch) (E : xE) (ST : xST) (hSF : SF ST) (Z : zE) (hSQ : SQ Z ST) (σ : xW) (sv : Bool) (re : Int) (ea : Int) (fa : Int) (ty : Int) (li : Int) (th : Int) (sz : Int) (sp : Int) (wr : Int) (to : Int) (tx : Int → Int) (nu : Int → Int) (hr0 : mo E σ sv re ea fa ty li th sz sp wr to) (hr1 : txt E σ tx) (hr2 : num E σ nu) (hsp : 0 ≤ sp ∧ sp ≤ sz) (hsz : sz ≤ 60) (htx : ∀ j, 0 ≤ tx j ∧ tx j ≤ 65535) (hwr : wr = -1) (hto : 0 ≤ to ∧ to ≤ 12) (hnu : nuR nu) : CV l E ST yX7_readsCommand wsX7_readsCommand rm_X7_readsCommand [.ref (xad E 85)] σ (fun (u : xW) => (∃ (sp1 wr1 : Int) (nu1 : Int → Int), mo E u sv re ea fa ty li th sz sp1 wr1 (to + 1) ∧ num E u nu1 ∧ (rcP tx sz sp sp1 wr1 nu1 (4 * to)) ∧ ((0 ≤ sp1 ∧ sp1 ≤ sz) ∧ -1 ≤ wr1 ∧ wr1 ≤ sz) ∧ (∀ j : Int, j < 4 * to → nu1 j = nu j) ∧ (nuR nu1)) ∧ ∀ j : Nat, j ≠ 85 → j ≠ 95 → u j = σ j) := by
  have f85 : σ 85 = oB 5 [.ref (xad E 86), .ref (xad E 87), .ref (xad E 88), .ref (xad E 89), .ref (xad E 90), .int (iZ (b2 sv)), .int (iZ re), .int (iZ ea), .int (iZ fa), .ref (xad E 91), .ref (xad E 92), .ref (xad E 93), .int (iZ ty), .ref (xad E 94), .int (iZ li), .int (iZ th), .int (iZ sz), .int (iZ sp), .int (iZ wr), .int (iZ to), .ref (xad E 95)] := hr0
  have f93 : σ 93 = aI E 60 tx := hr1
  have f95 : σ 95 = aI E 120 nu := hr2
  refine CV_of (by decide) rfl (Nat.le_of_ble_eq_true rfl) ?_
  intro p e s m args below meth c Q ls G hH hl hQ
  obtain ⟨hx, hb, hml, hown, hts, hK, hST, hlocks, hr, hno⟩ := G
  have hOK := hSF.1
  have hown : s.vm.findClass RX7 = some m.cls := hown
  have hl : lv_has ls 3 [(0, .ref (xad E 85))] := hl
  have hinX7 : ∀ w ∈ u_ws RX7 TX7 21, w ∈ wsX7_readsCommand := fun w h => (List.mem_cons_of_mem _ (List.mem_append_right _ h))
  refine x_iconst hx hb dX7_readsCommand_0 ?_
  refine lv_aload_n hx hb dX7_readsCommand_1 rfl (lv_at hl 0 rfl) ?_
  refine x_get hx hb hts hown hK hH 85 (by decide) f85 hinX7 rfl 19 (by decide) (List.mem_of_getElem? (i := 1) rfl) rfl dX7_readsCommand_2 ?_
  refine x_imul hx hb dX7_readsCommand_5 ?_
  refine lv_istore_n (lv' := [(1, .int (iZ (4 * to))), (0, .ref (xad E 85))]) hx hb dX7_readsCommand_6 rfl hl (by decide) rfl (fun ls hl => ?_)
  refine lv_aload_n hx hb dX7_readsCommand_7 rfl (lv_at hl 1 rfl) ?_
  refine x_cVI (As := []) (rest := []) hx hb hml hts hown hK hST hOK hH 85 (c_X7_kindHere l E ST hSF Z hSQ σ sv re ea fa ty li th sz sp wr to tx f85 f93 (by omega) (by omega) (by assumption) (by omega)) (cwV 0 hts gX7_readsCommand_X7_kindHere rfl rfl rfl (by decide +kernel) ⟨Nat.le_of_ble_eq_true rfl, Nat.le_of_ble_eq_true rfl⟩) (by decide) f85 rfl rfl hl.1 rfl (Nat.le_of_ble_eq_true rfl) dX7_readsCommand_8 ⟨Nat.le_of_ble_eq_true rfl, Nat.le_of_ble_eq_true rfl⟩ (fun kd σ1 H locs hp2 hH => ?_)
  obtain ⟨hkd, ⟨sp_, wr_, f85, hkh⟩, fr3⟩ := hp2
  have f93 : σ1 93 = aI E 60 tx := (fr3 93 (by omega)).trans f93
  have f95 : σ1 95 = aI E 120 nu := (fr3 95 (by omega)).trans f95
  have hkb := kh_b hkh hsp hwr
  refine lv_istore_n (lv' := [(2, .int (iZ kd)), (1, .int (iZ (4 * to))), (0, .ref (xad E 85))]) hx hb dX7_readsCommand_11 rfl hl (by decide) rfl (fun ls hl => ?_)
  refine lv_aload_n hx hb dX7_readsCommand_12 rfl (lv_at hl 2 rfl) ?_
  refine x_get hx hb hts hown hK hH 85 (by decide) f85 hinX7 rfl 20 (by decide) (List.mem_of_getElem? (i := 2) rfl) rfl dX7_readsCommand_13 ?_
  refine lv_iload_n hx hb dX7_readsCommand_16 rfl (lv_at hl 1 rfl) ?_
  refine lv_iload_n hx hb dX7_readsCommand_17 rfl (lv_at hl 0 rfl) ?_
  refine x_iast hx hb hK hH 95 (by decide) f95 (by omega) (by omega) (by omega) dX7_readsCommand_18 (fun σ4 H locs f95 fr5 hH => ?_)
  have f85 : σ4 85 = oB 5 [.ref (xad E 86), .ref (xad E 87), .ref (xad E 88), .ref (xad E 89), .ref (xad E 90), .int (iZ (b2 sv)), .int (iZ re), .int (iZ ea), .int (iZ fa), .ref (xad E 91), .ref (xad E 92), .ref (xad E 93), .int (iZ ty), .ref (xad E 94), .int (iZ li), .int (iZ th), .int (iZ sz), .int (iZ sp_), .int (iZ wr_), .int (iZ to), .ref (xad E 95)] := (fr5 85 (by omega)).trans f85
  have f93 : σ4 93 = aI E 60 tx := (fr5 93 (by omega)).trans f93
  refine lv_aload_n hx hb dX7_readsCommand_19 rfl (lv_at hl 2 rfl) ?_
  refine lv_dup hx hb dX7_readsCommand_20 rfl ?_
  refine x_get hx hb hts hown hK hH 85 (by decide) f85 hinX7 rfl 19 (by decide) (List.mem_of_getElem? (i := 1) rfl) rfl dX7_readsCommand_21 ?_
  refine x_iconst hx hb dX7_readsCommand_24 ?_
  refine x_iadd hx hb dX7_readsCommand_25 ?_
  refine x_put (fs' := [.ref (xad E 86), .ref (xad E 87), .ref (xad E 88), .ref (xad E 89), .ref (xad E 90), .int (iZ (b2 sv)), .int (iZ re), .int (iZ ea), .int (iZ fa), .ref (xad E 91), .ref (xad E 92), .ref (xad E 93), .int (iZ ty), .ref (xad E 94), .int (iZ li), .int (iZ th), .int (iZ sz), .int (iZ sp_), .int (iZ wr_), .int (iZ (to + 1)), .ref (xad E 95)]) hx hb hts hown hK hH 85 (by decide) f85 hinX7 rfl tyX7 tyX7_ok nmX7 19 (by decide) (List.mem_of_getElem? (i := 1) rfl) rfl (ty := .int) (by decide +kernel) rfl rfl (Nat.le_of_ble_eq_true rfl) rfl dX7_readsCommand_26 (fun σ6 H locs f85 fr7 hH => ?_)
  have f93 : σ6 93 = aI E 60 tx := (fr7 93 (by omega)).trans f93
  have f95 : σ6 95 = aI E 120 (ui nu (4 * to) kd) := (fr7 95 (by omega)).trans f95
  refine lv_aload_n hx hb dX7_readsCommand_29 rfl (lv_at hl 2 rfl) ?_
  refine x_get hx hb hts hown hK hH 85 (by decide) f85 hinX7 rfl 18 (by decide) (List.mem_of_getElem? (i := 3) rfl) rfl dX7_readsCommand_30 ?_
  refine x_iconst hx hb dX7_readsCommand_33 ?_
  refine x_icmp_eq (tgt := 38) hx hb dX7_readsCommand_34 (by decide) (by omega) (by decide) (fun c34 => ?_) (fun c34 => ?_)
  · have hk2 := kh_ok hkh hsp c34
    obtain ⟨M0, hM0⟩ : ∃ M0 : Int × List Int, M0 = mtL tx sz (sArg kd) (sp + wlZ kd) [] := ⟨_, rfl⟩
    have hR0 : RelI tx sz M0 (sArg kd) sp_ wr_ [] := by rw [hM0, hk2.2.2, c34]; exact RelI_0 hk2.1 hk2.2.1 hsp
    refine lv_iload_n hx hb dX7_readsCommand_38 rfl (lv_at hl 0 rfl) ?_
    refine x_iconst hx hb dX7_readsCommand_39 ?_
    refine x_icmp_eq (tgt := 48) hx hb dX7_readsCommand_40 (by decide) (by omega) (by decide) (fun c40 => ?_) (fun c40 => ?_)
    · have hRs : RelI tx sz M0 [68, 83, 68] sp_ wr_ [] := by rw [← sArg_45 (kd := kd) (by omega)]; exact hR0
      refine lv_aload_n hx hb dX7_readsCommand_48 rfl (lv_at hl 2 rfl) ?_
      refine lv_iload_n hx hb dX7_readsCommand_49 rfl (lv_at hl 1 rfl) ?_
      refine x_cVV (As := [.int (iZ (4 * to))]) (rest := []) hx hb hml hts hown hK hST hOK hH 85 (c_X7_steps l E ST hSF σ6 (4 * to) M0 sv re ea fa ty li th sz sp_ wr_ (to + 1) tx (ui nu (4 * to) kd) f85 f93 f95 (by omega) (by omega) (by assumption) (by omega) (by omega) (by assumption)) (cwV 1 hts gX7_readsCommand_X7_steps rfl rfl rfl (by decide +kernel) ⟨Nat.le_of_ble_eq_true rfl, Nat.le_of_ble_eq_true rfl⟩) (by decide) f85 rfl rfl hl.1 rfl (Nat.le_of_ble_eq_true rfl) dX7_readsCommand_50 ⟨Nat.le_of_ble_eq_true rfl, Nat.le_of_ble_eq_true rfl⟩ (fun σ9 H locs hp10 hH => ?_)
      obtain ⟨⟨spA, wrA, d1_, q9_, d2_, f85, f95, hrA, hbA, hdA⟩, fr11⟩ := hp10
      have f93 : σ9 93 = aI E 60 tx := (fr11 93 (by omega) (by omega)).trans f93
      have e0_ : (ui (ui (ui nu (4 * to) kd) ((4 * to) + 1) d1_) ((4 * to) + 2) (q9_ * d2_)) (4 * to) = kd := by rw [ui_n (by omega), ui_n (by omega), ui_s]
      have e1_ : (ui (ui (ui nu (4 * to) kd) ((4 * to) + 1) d1_) ((4 * to) + 2) (q9_ * d2_)) (4 * to + 1) = d1_ := by rw [ui_n (by omega), ui_s]
      have e2_ : (ui (ui (ui nu (4 * to) kd) ((4 * to) + 1) d1_) ((4 * to) + 2) (q9_ * d2_)) (4 * to + 2) = (q9_ * d2_) := by rw [ui_s]
      have hrc := rc_fin hk2.1 hk2.2.1 hsp (by rw [← hM0]; exact hrA) e0_ (nm_45 (n3 := (ui (ui (ui nu (4 * to) kd) ((4 * to) + 1) d1_) ((4 * to) + 2) (q9_ * d2_)) (4 * to + 3)) (by omega) (by rw [e1_]) e2_)
      have hpm := mul_pm (d := d2_) (by omega) hdA.2.2
      subst hQ
      exact x_vret hx hb hr hlocks hH (Nat.le_of_ble_eq_true rfl) (Nat.le_of_ble_eq_true rfl) ⟨⟨spA, wrA, (ui (ui (ui nu (4 * to) kd) ((4 * to) + 1) d1_) ((4 * to) + 2) (q9_ * d2_)), f85, f95, (by exact hrc), (by omega), (by intro j hj; first | (rw [ui_n (by omega), ui_n (by omega), ui_n (by omega), ui_n (by omega)]; done) | (rw [ui_n (by omega), ui_n (by omega), ui_n (by omega)]; done) | (rw [ui_n (by omega)]; done)), (by repeat (first | exact hnu | refine nu_r ?_ (by omega)))⟩, fun j hj0 hj1 => ((fr11 j (by omega) (by omega)).trans ((fr7 j (by omega)).trans ((fr5 j (by omega)).trans (fr3 j (by omega)))))⟩ dX7_readsCommand_53
    · refine lv_iload_n hx hb dX7_readsCommand_43 rfl (lv_at hl 0 rfl) ?_
      refine x_iconst hx hb dX7_readsCommand_44 ?_
      refine x_icmp_ne (tgt := 54) hx hb dX7_readsCommand_45 (by decide) (by omega) (by decide) (fun c45 => ?_) (fun c45 => ?_)
      · refine lv_iload_n hx hb dX7_readsCommand_54 rfl (lv_at hl 0 rfl) ?_
        refine x_bipush hx hb dX7_readsCommand_55 (by decide) ?_
        refine x_icmp_eq (tgt := 66) hx hb dX7_readsCommand_57 (by decide) (by omega) (by decide) (fun c57 => ?_) (fun c57 => ?_)
        · refine lv_aload_n hx hb dX7_readsCommand_66 rfl (lv_at hl 2 rfl) ?_
          refine x_get hx hb hts hown hK hH 85 (by decide) f85 hinX7 rfl 20 (by decide) (List.mem_of_getElem? (i := 2) rfl) rfl dX7_readsCommand_67 ?_
          refine lv_iload_n hx hb dX7_readsCommand_70 rfl (lv_at hl 1 rfl) ?_
          refine x_iconst hx hb dX7_readsCommand_71 ?_
          refine x_iadd hx hb dX7_readsCommand_72 ?_
          refine lv_iload_n hx hb dX7_readsCommand_73 rfl (lv_at hl 0 rfl) ?_
          refine x_bipush hx hb dX7_readsCommand_74 (by decide) ?_
          refine x_icmp_ne (tgt := 86) hx hb dX7_readsCommand_76 (by decide) (by omega) (by decide) (fun c76 => ?_) (fun c76 => ?_)
          · exfalso; omega
          · have hR6 : RelI tx sz M0 [76, 32, 68, 68] sp_ wr_ [] := by rw [← sArg_6 (kd := kd) (by omega)]; exact hR0
            have hR6b := rel_L hR6
            have hsA := rSp_b (t := tx) (n := sz) (a := 97) (b := 102) (sp := sp_) (wr := wr_) (by omega)
            have hwA := rWr_b (t := tx) (n := sz) (a := 97) (b := 102) (sp := sp_) (wr := wr_) (by omega) (by omega)
            have hvA := rVl_b (t := tx) (n := sz) (a := 97) (b := 102) (sp := sp_) (wr := wr_) (by decide)
            refine lv_aload_n hx hb dX7_readsCommand_79 rfl (lv_at hl 2 rfl) ?_
            refine x_cVIE (As := []) (rest := [.int (iZ ((4 * to) + 3)), .ref (xad E 95)]) hx hb hml hts hown hK hST hOK hH 85 (c_X7_letter l E ST hSF σ6 sv re ea fa ty li th sz sp_ wr_ (to + 1) tx f85 f93 (by omega) (by omega) (by assumption) (by omega)) (cwV 0 hts gX7_readsCommand_X7_letter rfl rfl rfl (by decide +kernel) ⟨Nat.le_of_ble_eq_true rfl, Nat.le_of_ble_eq_true rfl⟩) (by decide) f85 rfl rfl hl.1 rfl (Nat.le_of_ble_eq_true rfl) dX7_readsCommand_80 ⟨Nat.le_of_ble_eq_true rfl, Nat.le_of_ble_eq_true rfl⟩ (fun z u h => h) (fun σ14 H locs hp15 hH => ?_)
            obtain ⟨f85, fr16⟩ := hp15
            have f93 : σ14 93 = aI E 60 tx := (fr16 93 (by omega)).trans f93
            have f95 : σ14 95 = aI E 120 (ui nu (4 * to) kd) := (fr16 95 (by omega)).trans f95
            refine lv_goto (tgt := 90) hx hb dX7_readsCommand_83 (by decide) ?_
            refine x_iast hx hb hK hH 95 (by decide) f95 (by omega) (by omega) (by omega) dX7_readsCommand_90 (fun σ18 H locs f95 fr19 hH => ?_)
            have f85 : σ18 85 = oB 5 [.ref (xad E 86), .ref (xad E 87), .ref (xad E 88), .ref (xad E 89), .ref (xad E 90), .int (iZ (b2 sv)), .int (iZ re), .int (iZ ea), .int (iZ fa), .ref (xad E 91), .ref (xad E 92), .ref (xad E 93), .int (iZ ty), .ref (xad E 94), .int (iZ li), .int (iZ th), .int (iZ sz), .int (iZ (rSp tx sz 97 102 sp_ wr_)), .int (iZ (rWr tx sz 97 102 sp_ wr_)), .int (iZ (to + 1)), .ref (xad E 95)] := (fr19 85 (by omega)).trans f85
            have f93 : σ18 93 = aI E 60 tx := (fr19 93 (by omega)).trans f93
            have hR6c := rel_B hR6b
            have hsA := rSp_b (t := tx) (n := sz) (a := 32) (b := 32) (sp := (rSp tx sz 97 102 sp_ wr_)) (wr := (rWr tx sz 97 102 sp_ wr_)) (by omega)
            have hwA := rWr_b (t := tx) (n := sz) (a := 32) (b := 32) (sp := (rSp tx sz 97 102 sp_ wr_)) (wr := (rWr tx sz 97 102 sp_ wr_)) (by omega) (by omega)
            refine lv_aload_n hx hb dX7_readsCommand_91 rfl (lv_at hl 2 rfl) ?_
            refine x_cVV (As := []) (rest := []) hx hb hml hts hown hK hST hOK hH 85 (c_X7_blank l E ST hSF σ18 sv re ea fa ty li th sz (rSp tx sz 97 102 sp_ wr_) (rWr tx sz 97 102 sp_ wr_) (to + 1) tx f85 f93 (by omega) (by omega) (by assumption) (by omega)) (cwV 0 hts gX7_readsCommand_X7_blank rfl rfl rfl (by decide +kernel) ⟨Nat.le_of_ble_eq_true rfl, Nat.le_of_ble_eq_true rfl⟩) (by decide) f85 rfl rfl hl.1 rfl (Nat.le_of_ble_eq_true rfl) dX7_readsCommand_92 ⟨Nat.le_of_ble_eq_true rfl, Nat.le_of_ble_eq_true rfl⟩ (fun σ21 H locs hp22 hH => ?_)
            obtain ⟨f85, fr23⟩ := hp22
            have f93 : σ21 93 = aI E 60 tx := (fr23 93 (by omega)).trans f93
            have f95 : σ21 95 = aI E 120 (ui (ui nu (4 * to) kd) ((4 * to) + 3) (97 + rVl tx sz 97 102 sp_ wr_)) := (fr23 95 (by omega)).trans f95
            refine lv_aload_n hx hb dX7_readsCommand_95 rfl (lv_at hl 2 rfl) ?_
            refine lv_iload_n hx hb dX7_readsCommand_96 rfl (lv_at hl 1 rfl) ?_
            refine x_iconst hx hb dX7_readsCommand_97 ?_
            refine x_iadd hx hb dX7_readsCommand_98 ?_
            refine x_cVV (As := [.int (iZ ((4 * to) + 1))]) (rest := []) hx hb hml hts hown hK hST hOK hH 85 (c_X7_cell l E ST hSF σ21 ((4 * to) + 1) M0 ([]) ([] ++ [97 + rVl tx sz 97 102 sp_ wr_]) sv re ea fa ty li th sz (rSp tx sz 32 32 (rSp tx sz 97 102 sp_ wr_) (rWr tx sz 97 102 sp_ wr_)) (rWr tx sz 32 32 (rSp tx sz 97 102 sp_ wr_) (rWr tx sz 97 102 sp_ wr_)) (to + 1) tx (ui (ui nu (4 * to) kd) ((4 * to) + 3) (97 + rVl tx sz 97 102 sp_ wr_)) f85 f93 f95 (by omega) (by omega) (by assumption) (by omega) (by omega) hR6c) (cwV 1 hts gX7_readsCommand_X7_cell rfl rfl rfl (by decide +kernel) ⟨Nat.le_of_ble_eq_true rfl, Nat.le_of_ble_eq_true rfl⟩) (by decide) f85 rfl rfl hl.1 rfl (Nat.le_of_ble_eq_true rfl) dX7_readsCommand_99 ⟨Nat.le_of_ble_eq_true rfl, Nat.le_of_ble_eq_true rfl⟩ (fun σ26 H locs hp27 hH => ?_)
            obtain ⟨⟨spC, wrC, d1_, d2_, f85, f95, hrC, hbC, hdC⟩, fr28⟩ := hp27
            have f93 : σ26 93 = aI E 60 tx := (fr28 93 (by omega) (by omega)).trans f93
            refine lv_iload_n hx hb dX7_readsCommand_102 rfl (lv_at hl 0 rfl) ?_
            refine x_iconst hx hb dX7_readsCommand_103 ?_
            refine x_icmp_lt (tgt := 113) hx hb dX7_readsCommand_104 (by decide) (by omega) (by decide) (fun c104 => ?_) (fun c104 => ?_)
            · exfalso; omega
            · refine lv_iload_n hx hb dX7_readsCommand_107 rfl (lv_at hl 0 rfl) ?_
              refine x_bipush hx hb dX7_readsCommand_108 (by decide) ?_
              refine x_icmp_ne (tgt := 152) hx hb dX7_readsCommand_110 (by decide) (by omega) (by decide) (fun c110 => ?_) (fun c110 => ?_)
              · have e0_ : (ui (ui (ui (ui nu (4 * to) kd) ((4 * to) + 3) (97 + rVl tx sz 97 102 sp_ wr_)) ((4 * to) + 1) d1_) (((4 * to) + 1) + 1) d2_) (4 * to) = kd := by rw [ui_n (by omega), ui_n (by omega), ui_n (by omega), ui_s]
                have e1_ : (ui (ui (ui (ui nu (4 * to) kd) ((4 * to) + 3) (97 + rVl tx sz 97 102 sp_ wr_)) ((4 * to) + 1) d1_) (((4 * to) + 1) + 1) d2_) (4 * to + 1) = d1_ := by rw [ui_n (by omega), ui_s]
                have e2_ : (ui (ui (ui (ui nu (4 * to) kd) ((4 * to) + 3) (97 + rVl tx sz 97 102 sp_ wr_)) ((4 * to) + 1) d1_) (((4 * to) + 1) + 1) d2_) (4 * to + 2) = d2_ := by rw [show (4 * to + 2 : Int) = 4 * to + 1 + 1 by omega, ui_s]
                have e3_ : (ui (ui (ui (ui nu (4 * to) kd) ((4 * to) + 3) (97 + rVl tx sz 97 102 sp_ wr_)) ((4 * to) + 1) d1_) (((4 * to) + 1) + 1) d2_) (4 * to + 3) = (97 + rVl tx sz 97 102 sp_ wr_) := by rw [ui_n (by omega), ui_n (by omega), ui_s]
                have hrc := rc_fin hk2.1 hk2.2.1 hsp (by rw [← hM0]; exact hrC) e0_ (nm_610 (by omega) (by rw [e3_, e1_, e2_]; rfl))
                subst hQ
                exact x_vret hx hb hr hlocks hH (Nat.le_of_ble_eq_true rfl) (Nat.le_of_ble_eq_true rfl) ⟨⟨spC, wrC, (ui (ui (ui (ui nu (4 * to) kd) ((4 * to) + 3) (97 + rVl tx sz 97 102 sp_ wr_)) ((4 * to) + 1) d1_) (((4 * to) + 1) + 1) d2_), f85, f95, (by exact hrc), (by omega), (by intro j hj; first | (rw [ui_n (by omega), ui_n (by omega), ui_n (by omega), ui_n (by omega)]; done) | (rw [ui_n (by omega), ui_n (by omega), ui_n (by omega)]; done) | (rw [ui_n (by omega)]; done)), (by repeat (first | exact hnu | refine nu_r ?_ (by omega)))⟩, fun j hj0 hj1 => ((fr28 j (by omega) (by omega)).trans ((fr23 j (by omega)).trans ((fr19 j (by omega)).trans ((fr16 j (by omega)).trans ((fr7 j (by omega)).trans ((fr5 j (by omega)).trans (fr3 j (by omega))))))))⟩ dX7_readsCommand_152
              · exfalso; omega
        · refine lv_iload_n hx hb dX7_readsCommand_60 rfl (lv_at hl 0 rfl) ?_
          refine x_bipush hx hb dX7_readsCommand_61 (by decide) ?_
          refine x_icmp_ne (tgt := 95) hx hb dX7_readsCommand_63 (by decide) (by omega) (by decide) (fun c63 => ?_) (fun c63 => ?_)
          · refine lv_aload_n hx hb dX7_readsCommand_95 rfl (lv_at hl 2 rfl) ?_
            refine lv_iload_n hx hb dX7_readsCommand_96 rfl (lv_at hl 1 rfl) ?_
            refine x_iconst hx hb dX7_readsCommand_97 ?_
            refine x_iadd hx hb dX7_readsCommand_98 ?_
            refine x_cVV (As := [.int (iZ ((4 * to) + 1))]) (rest := []) hx hb hml hts hown hK hST hOK hH 85 (c_X7_cell l E ST hSF σ6 ((4 * to) + 1) M0 ((sArg kd).drop 2) ([]) sv re ea fa ty li th sz sp_ wr_ (to + 1) tx (ui nu (4 * to) kd) f85 f93 f95 (by omega) (by omega) (by assumption) (by omega) (by omega) (by rw [← sArg_dd (kd := kd) (by omega) (by omega) (by omega) (by omega) (by omega) (by omega)]; exact hR0)) (cwV 1 hts gX7_readsCommand_X7_cell rfl rfl rfl (by decide +kernel) ⟨Nat.le_of_ble_eq_true rfl, Nat.le_of_ble_eq_true rfl⟩) (by decide) f85 rfl rfl hl.1 rfl (Nat.le_of_ble_eq_true rfl) dX7_readsCommand_99 ⟨Nat.le_of_ble_eq_true rfl, Nat.le_of_ble_eq_true rfl⟩ (fun σ31 H locs hp32 hH => ?_)
            obtain ⟨⟨spC, wrC, d1_, d2_, f85, f95, hrC, hbC, hdC⟩, fr33⟩ := hp32
            have f93 : σ31 93 = aI E 60 tx := (fr33 93 (by omega) (by omega)).trans f93
            refine lv_iload_n hx hb dX7_readsCommand_102 rfl (lv_at hl 0 rfl) ?_
            refine x_iconst hx hb dX7_readsCommand_103 ?_
            refine x_icmp_lt (tgt := 113) hx hb dX7_readsCommand_104 (by decide) (by omega) (by decide) (fun c104 => ?_) (fun c104 => ?_)
            · have hRb : RelI tx sz M0 (32 :: (sArg kd).drop 3) spC wrC ([] ++ [d1_] ++ [d2_]) := by rw [← sArg_b (kd := kd) (by omega)]; exact hrC
              have hRb2 := rel_B hRb
              have hsA := rSp_b (t := tx) (n := sz) (a := 32) (b := 32) (sp := spC) (wr := wrC) (by omega)
              have hwA := rWr_b (t := tx) (n := sz) (a := 32) (b := 32) (sp := spC) (wr := wrC) (by omega) (by omega)
              refine lv_aload_n hx hb dX7_readsCommand_113 rfl (lv_at hl 2 rfl) ?_
              refine x_cVV (As := []) (rest := []) hx hb hml hts hown hK hST hOK hH 85 (c_X7_blank l E ST hSF σ31 sv re ea fa ty li th sz spC wrC (to + 1) tx f85 f93 (by omega) (by omega) (by assumption) (by omega)) (cwV 0 hts gX7_readsCommand_X7_blank rfl rfl rfl (by decide +kernel) ⟨Nat.le_of_ble_eq_true rfl, Nat.le_of_ble_eq_true rfl⟩) (by decide) f85 rfl rfl hl.1 rfl (Nat.le_of_ble_eq_true rfl) dX7_readsCommand_114 ⟨Nat.le_of_ble_eq_true rfl, Nat.le_of_ble_eq_true rfl⟩ (fun σ36 H locs hp37 hH => ?_)
              obtain ⟨f85, fr38⟩ := hp37
              have f93 : σ36 93 = aI E 60 tx := (fr38 93 (by omega)).trans f93
              have f95 : σ36 95 = aI E 120 (ui (ui (ui nu (4 * to) kd) ((4 * to) + 1) d1_) (((4 * to) + 1) + 1) d2_) := (fr38 95 (by omega)).trans f95
              refine lv_aload_n hx hb dX7_readsCommand_117 rfl (lv_at hl 2 rfl) ?_
              refine x_get hx hb hts hown hK hH 85 (by decide) f85 hinX7 rfl 20 (by decide) (List.mem_of_getElem? (i := 2) rfl) rfl dX7_readsCommand_118 ?_
              refine lv_iload_n hx hb dX7_readsCommand_121 rfl (lv_at hl 1 rfl) ?_
              refine x_iconst hx hb dX7_readsCommand_122 ?_
              refine x_iadd hx hb dX7_readsCommand_123 ?_
              refine lv_iload_n hx hb dX7_readsCommand_124 rfl (lv_at hl 0 rfl) ?_
              refine x_if_ne (tgt := 135) hx hb dX7_readsCommand_125 (by decide) (by omega) (fun c125 => ?_) (fun c125 => ?_)
              · refine lv_iload_n hx hb dX7_readsCommand_135 rfl (lv_at hl 0 rfl) ?_
                refine x_iconst hx hb dX7_readsCommand_136 ?_
                refine x_icmp_ne (tgt := 147) hx hb dX7_readsCommand_137 (by decide) (by omega) (by decide) (fun c137 => ?_) (fun c137 => ?_)
                · exfalso; omega
                · have hRn : RelI tx sz M0 [68] (rSp tx sz 32 32 spC wrC) (rWr tx sz 32 32 spC wrC) ([] ++ [d1_] ++ [d2_]) := by rw [show [68] = (sArg kd).drop 3 by rw [sArg_1 (kd := kd) (by omega)]; rfl]; exact hRb2
                  have hRz := rel_D hRn
                  have hsZ := rSp_b (t := tx) (n := sz) (a := 48) (b := 57) (sp := (rSp tx sz 32 32 spC wrC)) (wr := (rWr tx sz 32 32 spC wrC)) (by omega)
                  have hwZ := rWr_b (t := tx) (n := sz) (a := 48) (b := 57) (sp := (rSp tx sz 32 32 spC wrC)) (wr := (rWr tx sz 32 32 spC wrC)) (by omega) (by omega)
                  have hvZ := rVl_b (t := tx) (n := sz) (a := 48) (b := 57) (sp := (rSp tx sz 32 32 spC wrC)) (wr := (rWr tx sz 32 32 spC wrC)) (by decide)
                  refine lv_aload_n hx hb dX7_readsCommand_140 rfl (lv_at hl 2 rfl) ?_
                  refine x_cVIE (As := []) (rest := [.int (iZ ((4 * to) + 3)), .ref (xad E 95)]) hx hb hml hts hown hK hST hOK hH 85 (c_X7_digit l E ST hSF σ36 sv re ea fa ty li th sz (rSp tx sz 32 32 spC wrC) (rWr tx sz 32 32 spC wrC) (to + 1) tx f85 f93 (by omega) (by omega) (by assumption) (by omega)) (cwV 0 hts gX7_readsCommand_X7_digit rfl rfl rfl (by decide +kernel) ⟨Nat.le_of_ble_eq_true rfl, Nat.le_of_ble_eq_true rfl⟩) (by decide) f85 rfl rfl hl.1 rfl (Nat.le_of_ble_eq_true rfl) dX7_readsCommand_141 ⟨Nat.le_of_ble_eq_true rfl, Nat.le_of_ble_eq_true rfl⟩ (fun z u h => h) (fun σ41 H locs hp42 hH => ?_)
                  obtain ⟨f85, fr43⟩ := hp42
                  have f93 : σ41 93 = aI E 60 tx := (fr43 93 (by omega)).trans f93
                  have f95 : σ41 95 = aI E 120 (ui (ui (ui nu (4 * to) kd) ((4 * to) + 1) d1_) (((4 * to) + 1) + 1) d2_) := (fr43 95 (by omega)).trans f95
                  refine lv_goto (tgt := 151) hx hb dX7_readsCommand_144 (by decide) ?_
                  refine x_iast hx hb hK hH 95 (by decide) f95 (by omega) (by omega) (by omega) dX7_readsCommand_151 (fun σ45 H locs f95 fr46 hH => ?_)
                  have f85 : σ45 85 = oB 5 [.ref (xad E 86), .ref (xad E 87), .ref (xad E 88), .ref (xad E 89), .ref (xad E 90), .int (iZ (b2 sv)), .int (iZ re), .int (iZ ea), .int (iZ fa), .ref (xad E 91), .ref (xad E 92), .ref (xad E 93), .int (iZ ty), .ref (xad E 94), .int (iZ li), .int (iZ th), .int (iZ sz), .int (iZ (rSp tx sz 48 57 (rSp tx sz 32 32 spC wrC) (rWr tx sz 32 32 spC wrC))), .int (iZ (rWr tx sz 48 57 (rSp tx sz 32 32 spC wrC) (rWr tx sz 32 32 spC wrC))), .int (iZ (to + 1)), .ref (xad E 95)] := (fr46 85 (by omega)).trans f85
                  have f93 : σ45 93 = aI E 60 tx := (fr46 93 (by omega)).trans f93
                  have e0_ : (ui (ui (ui (ui nu (4 * to) kd) ((4 * to) + 1) d1_) (((4 * to) + 1) + 1) d2_) ((4 * to) + 3) (rVl tx sz 48 57 (rSp tx sz 32 32 spC wrC) (rWr tx sz 32 32 spC wrC))) (4 * to) = kd := by rw [ui_n (by omega), ui_n (by omega), ui_n (by omega), ui_s]
                  have e1_ : (ui (ui (ui (ui nu (4 * to) kd) ((4 * to) + 1) d1_) (((4 * to) + 1) + 1) d2_) ((4 * to) + 3) (rVl tx sz 48 57 (rSp tx sz 32 32 spC wrC) (rWr tx sz 32 32 spC wrC))) (4 * to + 1) = d1_ := by rw [ui_n (by omega), ui_n (by omega), ui_s]
                  have e2_ : (ui (ui (ui (ui nu (4 * to) kd) ((4 * to) + 1) d1_) (((4 * to) + 1) + 1) d2_) ((4 * to) + 3) (rVl tx sz 48 57 (rSp tx sz 32 32 spC wrC) (rWr tx sz 32 32 spC wrC))) (4 * to + 2) = d2_ := by rw [ui_n (by omega), show (4 * to + 2 : Int) = 4 * to + 1 + 1 by omega, ui_s]
                  have e3_ : (ui (ui (ui (ui nu (4 * to) kd) ((4 * to) + 1) d1_) (((4 * to) + 1) + 1) d2_) ((4 * to) + 3) (rVl tx sz 48 57 (rSp tx sz 32 32 spC wrC) (rWr tx sz 32 32 spC wrC))) (4 * to + 3) = (rVl tx sz 48 57 (rSp tx sz 32 32 spC wrC) (rWr tx sz 32 32 spC wrC)) := by rw [ui_s]
                  have hrc := rc_fin hk2.1 hk2.2.1 hsp (by rw [← hM0]; exact hRz) e0_ (nm_0 (by omega) (by rw [e1_, e2_, e3_]; rfl))
                  subst hQ
                  exact x_vret hx hb hr hlocks hH (Nat.le_of_ble_eq_true rfl) (Nat.le_of_ble_eq_true rfl) ⟨⟨(rSp tx sz 48 57 (rSp tx sz 32 32 spC wrC) (rWr tx sz 32 32 spC wrC)), (rWr tx sz 48 57 (rSp tx sz 32 32 spC wrC) (rWr tx sz 32 32 spC wrC)), (ui (ui (ui (ui nu (4 * to) kd) ((4 * to) + 1) d1_) (((4 * to) + 1) + 1) d2_) ((4 * to) + 3) (rVl tx sz 48 57 (rSp tx sz 32 32 spC wrC) (rWr tx sz 32 32 spC wrC))), f85, f95, (by exact hrc), (by omega), (by intro j hj; first | (rw [ui_n (by omega), ui_n (by omega), ui_n (by omega), ui_n (by omega)]; done) | (rw [ui_n (by omega), ui_n (by omega), ui_n (by omega)]; done) | (rw [ui_n (by omega)]; done)), (by repeat (first | exact hnu | refine nu_r ?_ (by omega)))⟩, fun j hj0 hj1 => ((fr46 j (by omega)).trans ((fr43 j (by omega)).trans ((fr38 j (by omega)).trans ((fr33 j (by omega) (by omega)).trans ((fr7 j (by omega)).trans ((fr5 j (by omega)).trans (fr3 j (by omega))))))))⟩ dX7_readsCommand_152
              · have hRn : RelI tx sz M0 [78] (rSp tx sz 32 32 spC wrC) (rWr tx sz 32 32 spC wrC) ([] ++ [d1_] ++ [d2_]) := by rw [show [78] = (sArg kd).drop 3 by rw [sArg_0 (kd := kd) (by omega)]; rfl]; exact hRb2
                refine lv_aload_n hx hb dX7_readsCommand_128 rfl (lv_at hl 2 rfl) ?_
                refine x_cVI (As := []) (rest := [.int (iZ ((4 * to) + 3)), .ref (xad E 95)]) hx hb hml hts hown hK hST hOK hH 85 (c_X7_number l E ST hSF σ36 M0 ([] ++ [d1_] ++ [d2_]) sv re ea fa ty li th sz (rSp tx sz 32 32 spC wrC) (rWr tx sz 32 32 spC wrC) (to + 1) tx f85 f93 (by omega) (by omega) (by assumption) (by omega) hRn) (cwV 0 hts gX7_readsCommand_X7_number rfl rfl rfl (by decide +kernel) ⟨Nat.le_of_ble_eq_true rfl, Nat.le_of_ble_eq_true rfl⟩) (by decide) f85 rfl rfl hl.1 rfl (Nat.le_of_ble_eq_true rfl) dX7_readsCommand_129 ⟨Nat.le_of_ble_eq_true rfl, Nat.le_of_ble_eq_true rfl⟩ (fun zn_ σ47 H locs hp48 hH => ?_)
                obtain ⟨hzn, ⟨spZ, wrZ, f85, hRz, hbZ⟩, fr49⟩ := hp48
                have f93 : σ47 93 = aI E 60 tx := (fr49 93 (by omega)).trans f93
                have f95 : σ47 95 = aI E 120 (ui (ui (ui nu (4 * to) kd) ((4 * to) + 1) d1_) (((4 * to) + 1) + 1) d2_) := (fr49 95 (by omega)).trans f95
                refine lv_goto (tgt := 151) hx hb dX7_readsCommand_132 (by decide) ?_
                refine x_iast hx hb hK hH 95 (by decide) f95 (by omega) (by omega) (by omega) dX7_readsCommand_151 (fun σ50 H locs f95 fr51 hH => ?_)
                have f85 : σ50 85 = oB 5 [.ref (xad E 86), .ref (xad E 87), .ref (xad E 88), .ref (xad E 89), .ref (xad E 90), .int (iZ (b2 sv)), .int (iZ re), .int (iZ ea), .int (iZ fa), .ref (xad E 91), .ref (xad E 92), .ref (xad E 93), .int (iZ ty), .ref (xad E 94), .int (iZ li), .int (iZ th), .int (iZ sz), .int (iZ spZ), .int (iZ wrZ), .int (iZ (to + 1)), .ref (xad E 95)] := (fr51 85 (by omega)).trans f85
                have f93 : σ50 93 = aI E 60 tx := (fr51 93 (by omega)).trans f93
                have e0_ : (ui (ui (ui (ui nu (4 * to) kd) ((4 * to) + 1) d1_) (((4 * to) + 1) + 1) d2_) ((4 * to) + 3) zn_) (4 * to) = kd := by rw [ui_n (by omega), ui_n (by omega), ui_n (by omega), ui_s]
                have e1_ : (ui (ui (ui (ui nu (4 * to) kd) ((4 * to) + 1) d1_) (((4 * to) + 1) + 1) d2_) ((4 * to) + 3) zn_) (4 * to + 1) = d1_ := by rw [ui_n (by omega), ui_n (by omega), ui_s]
                have e2_ : (ui (ui (ui (ui nu (4 * to) kd) ((4 * to) + 1) d1_) (((4 * to) + 1) + 1) d2_) ((4 * to) + 3) zn_) (4 * to + 2) = d2_ := by rw [ui_n (by omega), show (4 * to + 2 : Int) = 4 * to + 1 + 1 by omega, ui_s]
                have e3_ : (ui (ui (ui (ui nu (4 * to) kd) ((4 * to) + 1) d1_) (((4 * to) + 1) + 1) d2_) ((4 * to) + 3) zn_) (4 * to + 3) = zn_ := by rw [ui_s]
                have hrc := rc_fin hk2.1 hk2.2.1 hsp (by rw [← hM0]; exact hRz) e0_ (nm_0 (by omega) (by rw [e1_, e2_, e3_]; rfl))
                subst hQ
                exact x_vret hx hb hr hlocks hH (Nat.le_of_ble_eq_true rfl) (Nat.le_of_ble_eq_true rfl) ⟨⟨spZ, wrZ, (ui (ui (ui (ui nu (4 * to) kd) ((4 * to) + 1) d1_) (((4 * to) + 1) + 1) d2_) ((4 * to) + 3) zn_), f85, f95, (by exact hrc), (by omega), (by intro j hj; first | (rw [ui_n (by omega), ui_n (by omega), ui_n (by omega), ui_n (by omega)]; done) | (rw [ui_n (by omega), ui_n (by omega), ui_n (by omega)]; done) | (rw [ui_n (by omega)]; done)), (by repeat (first | exact hnu | refine nu_r ?_ (by omega)))⟩, fun j hj0 hj1 => ((fr51 j (by omega)).trans ((fr49 j (by omega)).trans ((fr38 j (by omega)).trans ((fr33 j (by omega) (by omega)).trans ((fr7 j (by omega)).trans ((fr5 j (by omega)).trans (fr3 j (by omega))))))))⟩ dX7_readsCommand_152
            · refine lv_iload_n hx hb dX7_readsCommand_107 rfl (lv_at hl 0 rfl) ?_
              refine x_bipush hx hb dX7_readsCommand_108 (by decide) ?_
              refine x_icmp_ne (tgt := 152) hx hb dX7_readsCommand_110 (by decide) (by omega) (by decide) (fun c110 => ?_) (fun c110 => ?_)
              · have e0_ : (ui (ui (ui nu (4 * to) kd) ((4 * to) + 1) d1_) (((4 * to) + 1) + 1) d2_) (4 * to) = kd := by rw [ui_n (by omega), ui_n (by omega), ui_s]
                have e1_ : (ui (ui (ui nu (4 * to) kd) ((4 * to) + 1) d1_) (((4 * to) + 1) + 1) d2_) (4 * to + 1) = d1_ := by rw [ui_n (by omega), ui_s]
                have e2_ : (ui (ui (ui nu (4 * to) kd) ((4 * to) + 1) d1_) (((4 * to) + 1) + 1) d2_) (4 * to + 2) = d2_ := by rw [show (4 * to + 2 : Int) = 4 * to + 1 + 1 by omega, ui_s]
                have hrC2 : RelI tx sz M0 [] spC wrC ([] ++ [d1_] ++ [d2_]) := by have e9 : (sArg kd).drop 2 = [] := (by rw [sArg_2 (kd := kd) (by omega)]; rfl); rw [e9] at hrC; exact hrC
                have hrc := rc_fin hk2.1 hk2.2.1 hsp (by rw [← hM0]; exact hrC2) e0_ (nm_2 (n3 := (ui (ui (ui nu (4 * to) kd) ((4 * to) + 1) d1_) (((4 * to) + 1) + 1) d2_) (4 * to + 3)) (by omega) (by rw [e1_, e2_]; rfl))
                subst hQ
                exact x_vret hx hb hr hlocks hH (Nat.le_of_ble_eq_true rfl) (Nat.le_of_ble_eq_true rfl) ⟨⟨spC, wrC, (ui (ui (ui nu (4 * to) kd) ((4 * to) + 1) d1_) (((4 * to) + 1) + 1) d2_), f85, f95, (by exact hrc), (by omega), (by intro j hj; first | (rw [ui_n (by omega), ui_n (by omega), ui_n (by omega), ui_n (by omega)]; done) | (rw [ui_n (by omega), ui_n (by omega), ui_n (by omega)]; done) | (rw [ui_n (by omega)]; done)), (by repeat (first | exact hnu | refine nu_r ?_ (by omega)))⟩, fun j hj0 hj1 => ((fr33 j (by omega) (by omega)).trans ((fr7 j (by omega)).trans ((fr5 j (by omega)).trans (fr3 j (by omega)))))⟩ dX7_readsCommand_152
              · have hRb : RelI tx sz M0 (32 :: (sArg kd).drop 3) spC wrC ([] ++ [d1_] ++ [d2_]) := by rw [← sArg_b (kd := kd) (by omega)]; exact hrC
                have hRb2 := rel_B hRb
                have hsA := rSp_b (t := tx) (n := sz) (a := 32) (b := 32) (sp := spC) (wr := wrC) (by omega)
                have hwA := rWr_b (t := tx) (n := sz) (a := 32) (b := 32) (sp := spC) (wr := wrC) (by omega) (by omega)
                refine lv_aload_n hx hb dX7_readsCommand_113 rfl (lv_at hl 2 rfl) ?_
                refine x_cVV (As := []) (rest := []) hx hb hml hts hown hK hST hOK hH 85 (c_X7_blank l E ST hSF σ31 sv re ea fa ty li th sz spC wrC (to + 1) tx f85 f93 (by omega) (by omega) (by assumption) (by omega)) (cwV 0 hts gX7_readsCommand_X7_blank rfl rfl rfl (by decide +kernel) ⟨Nat.le_of_ble_eq_true rfl, Nat.le_of_ble_eq_true rfl⟩) (by decide) f85 rfl rfl hl.1 rfl (Nat.le_of_ble_eq_true rfl) dX7_readsCommand_114 ⟨Nat.le_of_ble_eq_true rfl, Nat.le_of_ble_eq_true rfl⟩ (fun σ53 H locs hp54 hH => ?_)
                obtain ⟨f85, fr55⟩ := hp54
                have f93 : σ53 93 = aI E 60 tx := (fr55 93 (by omega)).trans f93
                have f95 : σ53 95 = aI E 120 (ui (ui (ui nu (4 * to) kd) ((4 * to) + 1) d1_) (((4 * to) + 1) + 1) d2_) := (fr55 95 (by omega)).trans f95
                refine lv_aload_n hx hb dX7_readsCommand_117 rfl (lv_at hl 2 rfl) ?_
                refine x_get hx hb hts hown hK hH 85 (by decide) f85 hinX7 rfl 20 (by decide) (List.mem_of_getElem? (i := 2) rfl) rfl dX7_readsCommand_118 ?_
                refine lv_iload_n hx hb dX7_readsCommand_121 rfl (lv_at hl 1 rfl) ?_
                refine x_iconst hx hb dX7_readsCommand_122 ?_
                refine x_iadd hx hb dX7_readsCommand_123 ?_
                refine lv_iload_n hx hb dX7_readsCommand_124 rfl (lv_at hl 0 rfl) ?_
                refine x_if_ne (tgt := 135) hx hb dX7_readsCommand_125 (by decide) (by omega) (fun c125 => ?_) (fun c125 => ?_)
                · refine lv_iload_n hx hb dX7_readsCommand_135 rfl (lv_at hl 0 rfl) ?_
                  refine x_iconst hx hb dX7_readsCommand_136 ?_
                  refine x_icmp_ne (tgt := 147) hx hb dX7_readsCommand_137 (by decide) (by omega) (by decide) (fun c137 => ?_) (fun c137 => ?_)
                  · have hRn : RelI tx sz M0 [76] (rSp tx sz 32 32 spC wrC) (rWr tx sz 32 32 spC wrC) ([] ++ [d1_] ++ [d2_]) := by rw [show [76] = (sArg kd).drop 3 by rw [sArg_7 (kd := kd) (by omega)]; rfl]; exact hRb2
                    have hRz := rel_L hRn
                    have hsZ := rSp_b (t := tx) (n := sz) (a := 97) (b := 102) (sp := (rSp tx sz 32 32 spC wrC)) (wr := (rWr tx sz 32 32 spC wrC)) (by omega)
                    have hwZ := rWr_b (t := tx) (n := sz) (a := 97) (b := 102) (sp := (rSp tx sz 32 32 spC wrC)) (wr := (rWr tx sz 32 32 spC wrC)) (by omega) (by omega)
                    have hvZ := rVl_b (t := tx) (n := sz) (a := 97) (b := 102) (sp := (rSp tx sz 32 32 spC wrC)) (wr := (rWr tx sz 32 32 spC wrC)) (by decide)
                    refine lv_aload_n hx hb dX7_readsCommand_147 rfl (lv_at hl 2 rfl) ?_
                    refine x_cVIE (As := []) (rest := [.int (iZ ((4 * to) + 3)), .ref (xad E 95)]) hx hb hml hts hown hK hST hOK hH 85 (c_X7_letter l E ST hSF σ53 sv re ea fa ty li th sz (rSp tx sz 32 32 spC wrC) (rWr tx sz 32 32 spC wrC) (to + 1) tx f85 f93 (by omega) (by omega) (by assumption) (by omega)) (cwV 0 hts gX7_readsCommand_X7_letter rfl rfl rfl (by decide +kernel) ⟨Nat.le_of_ble_eq_true rfl, Nat.le_of_ble_eq_true rfl⟩) (by decide) f85 rfl rfl hl.1 rfl (Nat.le_of_ble_eq_true rfl) dX7_readsCommand_148 ⟨Nat.le_of_ble_eq_true rfl, Nat.le_of_ble_eq_true rfl⟩ (fun z u h => h) (fun σ58 H locs hp59 hH => ?_)
                    obtain ⟨f85, fr60⟩ := hp59
                    have f93 : σ58 93 = aI E 60 tx := (fr60 93 (by omega)).trans f93
                    have f95 : σ58 95 = aI E 120 (ui (ui (ui nu (4 * to) kd) ((4 * to) + 1) d1_) (((4 * to) + 1) + 1) d2_) := (fr60 95 (by omega)).trans f95
                    refine x_iast hx hb hK hH 95 (by decide) f95 (by omega) (by omega) (by omega) dX7_readsCommand_151 (fun σ62 H locs f95 fr63 hH => ?_)
                    have f85 : σ62 85 = oB 5 [.ref (xad E 86), .ref (xad E 87), .ref (xad E 88), .ref (xad E 89), .ref (xad E 90), .int (iZ (b2 sv)), .int (iZ re), .int (iZ ea), .int (iZ fa), .ref (xad E 91), .ref (xad E 92), .ref (xad E 93), .int (iZ ty), .ref (xad E 94), .int (iZ li), .int (iZ th), .int (iZ sz), .int (iZ (rSp tx sz 97 102 (rSp tx sz 32 32 spC wrC) (rWr tx sz 32 32 spC wrC))), .int (iZ (rWr tx sz 97 102 (rSp tx sz 32 32 spC wrC) (rWr tx sz 32 32 spC wrC))), .int (iZ (to + 1)), .ref (xad E 95)] := (fr63 85 (by omega)).trans f85
                    have f93 : σ62 93 = aI E 60 tx := (fr63 93 (by omega)).trans f93
                    have e0_ : (ui (ui (ui (ui nu (4 * to) kd) ((4 * to) + 1) d1_) (((4 * to) + 1) + 1) d2_) ((4 * to) + 3) (97 + rVl tx sz 97 102 (rSp tx sz 32 32 spC wrC) (rWr tx sz 32 32 spC wrC))) (4 * to) = kd := by rw [ui_n (by omega), ui_n (by omega), ui_n (by omega), ui_s]
                    have e1_ : (ui (ui (ui (ui nu (4 * to) kd) ((4 * to) + 1) d1_) (((4 * to) + 1) + 1) d2_) ((4 * to) + 3) (97 + rVl tx sz 97 102 (rSp tx sz 32 32 spC wrC) (rWr tx sz 32 32 spC wrC))) (4 * to + 1) = d1_ := by rw [ui_n (by omega), ui_n (by omega), ui_s]
                    have e2_ : (ui (ui (ui (ui nu (4 * to) kd) ((4 * to) + 1) d1_) (((4 * to) + 1) + 1) d2_) ((4 * to) + 3) (97 + rVl tx sz 97 102 (rSp tx sz 32 32 spC wrC) (rWr tx sz 32 32 spC wrC))) (4 * to + 2) = d2_ := by rw [ui_n (by omega), show (4 * to + 2 : Int) = 4 * to + 1 + 1 by omega, ui_s]
                    have e3_ : (ui (ui (ui (ui nu (4 * to) kd) ((4 * to) + 1) d1_) (((4 * to) + 1) + 1) d2_) ((4 * to) + 3) (97 + rVl tx sz 97 102 (rSp tx sz 32 32 spC wrC) (rWr tx sz 32 32 spC wrC))) (4 * to + 3) = (97 + rVl tx sz 97 102 (rSp tx sz 32 32 spC wrC) (rWr tx sz 32 32 spC wrC)) := by rw [ui_s]
                    have hrc := rc_fin hk2.1 hk2.2.1 hsp (by rw [← hM0]; exact hRz) e0_ (nm_0 (by omega) (by rw [e1_, e2_, e3_]; rfl))
                    subst hQ
                    exact x_vret hx hb hr hlocks hH (Nat.le_of_ble_eq_true rfl) (Nat.le_of_ble_eq_true rfl) ⟨⟨(rSp tx sz 97 102 (rSp tx sz 32 32 spC wrC) (rWr tx sz 32 32 spC wrC)), (rWr tx sz 97 102 (rSp tx sz 32 32 spC wrC) (rWr tx sz 32 32 spC wrC)), (ui (ui (ui (ui nu (4 * to) kd) ((4 * to) + 1) d1_) (((4 * to) + 1) + 1) d2_) ((4 * to) + 3) (97 + rVl tx sz 97 102 (rSp tx sz 32 32 spC wrC) (rWr tx sz 32 32 spC wrC))), f85, f95, (by exact hrc), (by omega), (by intro j hj; first | (rw [ui_n (by omega), ui_n (by omega), ui_n (by omega), ui_n (by omega)]; done) | (rw [ui_n (by omega), ui_n (by omega), ui_n (by omega)]; done) | (rw [ui_n (by omega)]; done)), (by repeat (first | exact hnu | refine nu_r ?_ (by omega)))⟩, fun j hj0 hj1 => ((fr63 j (by omega)).trans ((fr60 j (by omega)).trans ((fr55 j (by omega)).trans ((fr33 j (by omega) (by omega)).trans ((fr7 j (by omega)).trans ((fr5 j (by omega)).trans (fr3 j (by omega))))))))⟩ dX7_readsCommand_152
                  · exfalso; omega
                · exfalso; omega
          · refine lv_aload_n hx hb dX7_readsCommand_66 rfl (lv_at hl 2 rfl) ?_
            refine x_get hx hb hts hown hK hH 85 (by decide) f85 hinX7 rfl 20 (by decide) (List.mem_of_getElem? (i := 2) rfl) rfl dX7_readsCommand_67 ?_
            refine lv_iload_n hx hb dX7_readsCommand_70 rfl (lv_at hl 1 rfl) ?_
            refine x_iconst hx hb dX7_readsCommand_71 ?_
            refine x_iadd hx hb dX7_readsCommand_72 ?_
            refine lv_iload_n hx hb dX7_readsCommand_73 rfl (lv_at hl 0 rfl) ?_
            refine x_bipush hx hb dX7_readsCommand_74 (by decide) ?_
            refine x_icmp_ne (tgt := 86) hx hb dX7_readsCommand_76 (by decide) (by omega) (by decide) (fun c76 => ?_) (fun c76 => ?_)
            · have hR6 : RelI tx sz M0 [68, 32, 68, 68] sp_ wr_ [] := by rw [← sArg_10 (kd := kd) (by omega)]; exact hR0
              have hR6b := rel_D hR6
              have hsA := rSp_b (t := tx) (n := sz) (a := 48) (b := 57) (sp := sp_) (wr := wr_) (by omega)
              have hwA := rWr_b (t := tx) (n := sz) (a := 48) (b := 57) (sp := sp_) (wr := wr_) (by omega) (by omega)
              have hvA := rVl_b (t := tx) (n := sz) (a := 48) (b := 57) (sp := sp_) (wr := wr_) (by decide)
              refine lv_aload_n hx hb dX7_readsCommand_86 rfl (lv_at hl 2 rfl) ?_
              refine x_cVIE (As := []) (rest := [.int (iZ ((4 * to) + 3)), .ref (xad E 95)]) hx hb hml hts hown hK hST hOK hH 85 (c_X7_digit l E ST hSF σ6 sv re ea fa ty li th sz sp_ wr_ (to + 1) tx f85 f93 (by omega) (by omega) (by assumption) (by omega)) (cwV 0 hts gX7_readsCommand_X7_digit rfl rfl rfl (by decide +kernel) ⟨Nat.le_of_ble_eq_true rfl, Nat.le_of_ble_eq_true rfl⟩) (by decide) f85 rfl rfl hl.1 rfl (Nat.le_of_ble_eq_true rfl) dX7_readsCommand_87 ⟨Nat.le_of_ble_eq_true rfl, Nat.le_of_ble_eq_true rfl⟩ (fun z u h => h) (fun σ65 H locs hp66 hH => ?_)
              obtain ⟨f85, fr67⟩ := hp66
              have f93 : σ65 93 = aI E 60 tx := (fr67 93 (by omega)).trans f93
              have f95 : σ65 95 = aI E 120 (ui nu (4 * to) kd) := (fr67 95 (by omega)).trans f95
              refine x_iast hx hb hK hH 95 (by decide) f95 (by omega) (by omega) (by omega) dX7_readsCommand_90 (fun σ69 H locs f95 fr70 hH => ?_)
              have f85 : σ69 85 = oB 5 [.ref (xad E 86), .ref (xad E 87), .ref (xad E 88), .ref (xad E 89), .ref (xad E 90), .int (iZ (b2 sv)), .int (iZ re), .int (iZ ea), .int (iZ fa), .ref (xad E 91), .ref (xad E 92), .ref (xad E 93), .int (iZ ty), .ref (xad E 94), .int (iZ li), .int (iZ th), .int (iZ sz), .int (iZ (rSp tx sz 48 57 sp_ wr_)), .int (iZ (rWr tx sz 48 57 sp_ wr_)), .int (iZ (to + 1)), .ref (xad E 95)] := (fr70 85 (by omega)).trans f85
              have f93 : σ69 93 = aI E 60 tx := (fr70 93 (by omega)).trans f93
              have hR6c := rel_B hR6b
              have hsA := rSp_b (t := tx) (n := sz) (a := 32) (b := 32) (sp := (rSp tx sz 48 57 sp_ wr_)) (wr := (rWr tx sz 48 57 sp_ wr_)) (by omega)
              have hwA := rWr_b (t := tx) (n := sz) (a := 32) (b := 32) (sp := (rSp tx sz 48 57 sp_ wr_)) (wr := (rWr tx sz 48 57 sp_ wr_)) (by omega) (by omega)
              refine lv_aload_n hx hb dX7_readsCommand_91 rfl (lv_at hl 2 rfl) ?_
              refine x_cVV (As := []) (rest := []) hx hb hml hts hown hK hST hOK hH 85 (c_X7_blank l E ST hSF σ69 sv re ea fa ty li th sz (rSp tx sz 48 57 sp_ wr_) (rWr tx sz 48 57 sp_ wr_) (to + 1) tx f85 f93 (by omega) (by omega) (by assumption) (by omega)) (cwV 0 hts gX7_readsCommand_X7_blank rfl rfl rfl (by decide +kernel) ⟨Nat.le_of_ble_eq_true rfl, Nat.le_of_ble_eq_true rfl⟩) (by decide) f85 rfl rfl hl.1 rfl (Nat.le_of_ble_eq_true rfl) dX7_readsCommand_92 ⟨Nat.le_of_ble_eq_true rfl, Nat.le_of_ble_eq_true rfl⟩ (fun σ72 H locs hp73 hH => ?_)
              obtain ⟨f85, fr74⟩ := hp73
              have f93 : σ72 93 = aI E 60 tx := (fr74 93 (by omega)).trans f93
              have f95 : σ72 95 = aI E 120 (ui (ui nu (4 * to) kd) ((4 * to) + 3) (rVl tx sz 48 57 sp_ wr_)) := (fr74 95 (by omega)).trans f95
              refine lv_aload_n hx hb dX7_readsCommand_95 rfl (lv_at hl 2 rfl) ?_
              refine lv_iload_n hx hb dX7_readsCommand_96 rfl (lv_at hl 1 rfl) ?_
              refine x_iconst hx hb dX7_readsCommand_97 ?_
              refine x_iadd hx hb dX7_readsCommand_98 ?_
              refine x_cVV (As := [.int (iZ ((4 * to) + 1))]) (rest := []) hx hb hml hts hown hK hST hOK hH 85 (c_X7_cell l E ST hSF σ72 ((4 * to) + 1) M0 ([]) ([] ++ [rVl tx sz 48 57 sp_ wr_]) sv re ea fa ty li th sz (rSp tx sz 32 32 (rSp tx sz 48 57 sp_ wr_) (rWr tx sz 48 57 sp_ wr_)) (rWr tx sz 32 32 (rSp tx sz 48 57 sp_ wr_) (rWr tx sz 48 57 sp_ wr_)) (to + 1) tx (ui (ui nu (4 * to) kd) ((4 * to) + 3) (rVl tx sz 48 57 sp_ wr_)) f85 f93 f95 (by omega) (by omega) (by assumption) (by omega) (by omega) hR6c) (cwV 1 hts gX7_readsCommand_X7_cell rfl rfl rfl (by decide +kernel) ⟨Nat.le_of_ble_eq_true rfl, Nat.le_of_ble_eq_true rfl⟩) (by decide) f85 rfl rfl hl.1 rfl (Nat.le_of_ble_eq_true rfl) dX7_readsCommand_99 ⟨Nat.le_of_ble_eq_true rfl, Nat.le_of_ble_eq_true rfl⟩ (fun σ77 H locs hp78 hH => ?_)
              obtain ⟨⟨spC, wrC, d1_, d2_, f85, f95, hrC, hbC, hdC⟩, fr79⟩ := hp78
              have f93 : σ77 93 = aI E 60 tx := (fr79 93 (by omega) (by omega)).trans f93
              refine lv_iload_n hx hb dX7_readsCommand_102 rfl (lv_at hl 0 rfl) ?_
              refine x_iconst hx hb dX7_readsCommand_103 ?_
              refine x_icmp_lt (tgt := 113) hx hb dX7_readsCommand_104 (by decide) (by omega) (by decide) (fun c104 => ?_) (fun c104 => ?_)
              · exfalso; omega
              · refine lv_iload_n hx hb dX7_readsCommand_107 rfl (lv_at hl 0 rfl) ?_
                refine x_bipush hx hb dX7_readsCommand_108 (by decide) ?_
                refine x_icmp_ne (tgt := 152) hx hb dX7_readsCommand_110 (by decide) (by omega) (by decide) (fun c110 => ?_) (fun c110 => ?_)
                · have e0_ : (ui (ui (ui (ui nu (4 * to) kd) ((4 * to) + 3) (rVl tx sz 48 57 sp_ wr_)) ((4 * to) + 1) d1_) (((4 * to) + 1) + 1) d2_) (4 * to) = kd := by rw [ui_n (by omega), ui_n (by omega), ui_n (by omega), ui_s]
                  have e1_ : (ui (ui (ui (ui nu (4 * to) kd) ((4 * to) + 3) (rVl tx sz 48 57 sp_ wr_)) ((4 * to) + 1) d1_) (((4 * to) + 1) + 1) d2_) (4 * to + 1) = d1_ := by rw [ui_n (by omega), ui_s]
                  have e2_ : (ui (ui (ui (ui nu (4 * to) kd) ((4 * to) + 3) (rVl tx sz 48 57 sp_ wr_)) ((4 * to) + 1) d1_) (((4 * to) + 1) + 1) d2_) (4 * to + 2) = d2_ := by rw [show (4 * to + 2 : Int) = 4 * to + 1 + 1 by omega, ui_s]
                  have e3_ : (ui (ui (ui (ui nu (4 * to) kd) ((4 * to) + 3) (rVl tx sz 48 57 sp_ wr_)) ((4 * to) + 1) d1_) (((4 * to) + 1) + 1) d2_) (4 * to + 3) = (rVl tx sz 48 57 sp_ wr_) := by rw [ui_n (by omega), ui_n (by omega), ui_s]
                  have hrc := rc_fin hk2.1 hk2.2.1 hsp (by rw [← hM0]; exact hrC) e0_ (nm_610 (by omega) (by rw [e3_, e1_, e2_]; rfl))
                  subst hQ
                  exact x_vret hx hb hr hlocks hH (Nat.le_of_ble_eq_true rfl) (Nat.le_of_ble_eq_true rfl) ⟨⟨spC, wrC, (ui (ui (ui (ui nu (4 * to) kd) ((4 * to) + 3) (rVl tx sz 48 57 sp_ wr_)) ((4 * to) + 1) d1_) (((4 * to) + 1) + 1) d2_), f85, f95, (by exact hrc), (by omega), (by intro j hj; first | (rw [ui_n (by omega), ui_n (by omega), ui_n (by omega), ui_n (by omega)]; done) | (rw [ui_n (by omega), ui_n (by omega), ui_n (by omega)]; done) | (rw [ui_n (by omega)]; done)), (by repeat (first | exact hnu | refine nu_r ?_ (by omega)))⟩, fun j hj0 hj1 => ((fr79 j (by omega) (by omega)).trans ((fr74 j (by omega)).trans ((fr70 j (by omega)).trans ((fr67 j (by omega)).trans ((fr7 j (by omega)).trans ((fr5 j (by omega)).trans (fr3 j (by omega))))))))⟩ dX7_readsCommand_152
                · exfalso; omega
            · exfalso; omega
      · have hRs : RelI tx sz M0 [68, 83, 68] sp_ wr_ [] := by rw [← sArg_45 (kd := kd) (by omega)]; exact hR0
        refine lv_aload_n hx hb dX7_readsCommand_48 rfl (lv_at hl 2 rfl) ?_
        refine lv_iload_n hx hb dX7_readsCommand_49 rfl (lv_at hl 1 rfl) ?_
        refine x_cVV (As := [.int (iZ (4 * to))]) (rest := []) hx hb hml hts hown hK hST hOK hH 85 (c_X7_steps l E ST hSF σ6 (4 * to) M0 sv re ea fa ty li th sz sp_ wr_ (to + 1) tx (ui nu (4 * to) kd) f85 f93 f95 (by omega) (by omega) (by assumption) (by omega) (by omega) (by assumption)) (cwV 1 hts gX7_readsCommand_X7_steps rfl rfl rfl (by decide +kernel) ⟨Nat.le_of_ble_eq_true rfl, Nat.le_of_ble_eq_true rfl⟩) (by decide) f85 rfl rfl hl.1 rfl (Nat.le_of_ble_eq_true rfl) dX7_readsCommand_50 ⟨Nat.le_of_ble_eq_true rfl, Nat.le_of_ble_eq_true rfl⟩ (fun σ82 H locs hp83 hH => ?_)
        obtain ⟨⟨spA, wrA, d1_, q9_, d2_, f85, f95, hrA, hbA, hdA⟩, fr84⟩ := hp83
        have f93 : σ82 93 = aI E 60 tx := (fr84 93 (by omega) (by omega)).trans f93
        have e0_ : (ui (ui (ui nu (4 * to) kd) ((4 * to) + 1) d1_) ((4 * to) + 2) (q9_ * d2_)) (4 * to) = kd := by rw [ui_n (by omega), ui_n (by omega), ui_s]
        have e1_ : (ui (ui (ui nu (4 * to) kd) ((4 * to) + 1) d1_) ((4 * to) + 2) (q9_ * d2_)) (4 * to + 1) = d1_ := by rw [ui_n (by omega), ui_s]
        have e2_ : (ui (ui (ui nu (4 * to) kd) ((4 * to) + 1) d1_) ((4 * to) + 2) (q9_ * d2_)) (4 * to + 2) = (q9_ * d2_) := by rw [ui_s]
        have hrc := rc_fin hk2.1 hk2.2.1 hsp (by rw [← hM0]; exact hrA) e0_ (nm_45 (n3 := (ui (ui (ui nu (4 * to) kd) ((4 * to) + 1) d1_) ((4 * to) + 2) (q9_ * d2_)) (4 * to + 3)) (by omega) (by rw [e1_]) e2_)
        have hpm := mul_pm (d := d2_) (by omega) hdA.2.2
        subst hQ
        exact x_vret hx hb hr hlocks hH (Nat.le_of_ble_eq_true rfl) (Nat.le_of_ble_eq_true rfl) ⟨⟨spA, wrA, (ui (ui (ui nu (4 * to) kd) ((4 * to) + 1) d1_) ((4 * to) + 2) (q9_ * d2_)), f85, f95, (by exact hrc), (by omega), (by intro j hj; first | (rw [ui_n (by omega), ui_n (by omega), ui_n (by omega), ui_n (by omega)]; done) | (rw [ui_n (by omega), ui_n (by omega), ui_n (by omega)]; done) | (rw [ui_n (by omega)]; done)), (by repeat (first | exact hnu | refine nu_r ?_ (by omega)))⟩, fun j hj0 hj1 => ((fr84 j (by omega) (by omega)).trans ((fr7 j (by omega)).trans ((fr5 j (by omega)).trans (fr3 j (by omega)))))⟩ dX7_readsCommand_53
  · subst hQ
    exact x_vret hx hb hr hlocks hH (Nat.le_of_ble_eq_true rfl) (Nat.le_of_ble_eq_true rfl) ⟨⟨sp_, wr_, (ui nu (4 * to) kd), f85, f95, (by exact kh_no hkh hsp hwr c34), (by omega), (by intro j hj; first | (rw [ui_n (by omega), ui_n (by omega), ui_n (by omega), ui_n (by omega)]; done) | (rw [ui_n (by omega), ui_n (by omega), ui_n (by omega)]; done) | (rw [ui_n (by omega)]; done)), (by repeat (first | exact hnu | refine nu_r ?_ (by omega)))⟩, fun j hj0 hj1 => ((fr7 j (by omega)).trans ((fr5 j (by omega)).trans (fr3 j (by omega))))⟩ dX7_readsCommand_37
