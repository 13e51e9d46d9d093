def rm_L_areShiftsRight : Room := { frames := 11, cells := 130, slots := 780, locals := 204 }
set_option maxRecDepth 100000 in
set_option maxHeartbeats 4000000 in
theorem c_L_areShiftsRight (l : Launch) (E : xE) (ST : xST) (hSF : SF ST) (hSX : SX ST) (htr : l.stackTraces = false) (σ : xW) (w : Int) (to : Int) (B : BT) (S : Option BT) (Y : lnQ) (hr0 : cw E σ B S Y) (hw : 0 ≤ w ∧ w ≤ 2) (ht : 0 ≤ to ∧ to ≤ 24) : CI l E ST yL_areShiftsRight wML_areShiftsRight rm_L_areShiftsRight [.ref (xad E 0), .int (iZ w), .int (iZ to)] σ (fun (z : Int) (u : xW) => z = b2 true ∧ (∃ (S1 : Option BT), cw E u B S1 Y) ∧ ∀ j : Nat, (j < 0 ∨ 0 + 85 ≤ j) → u j = σ j) := by
  have fcw_0 : cw E σ B S Y := hr0
  refine CI_of (by decide) rfl (Nat.le_of_ble_eq_true rfl) ?_
  intro p e s m args below meth c Q ls G hH hl hQ
  obtain ⟨hx, hb, hml, hown, hts, hK, hST, hlocks, hr, hno⟩ := G
  have hOK := hSF.1
  have hown : s.vm.findClass RL = some m.cls := hown
  have hl : lv_has ls 8 [(0, .ref (xad E 0)), (1, .int (iZ w)), (2, .int (iZ to))] := hl
  obtain ⟨hop, hlk9, hkp, hwc9, hpn, hnw⟩ : BI (opT B) (lkT B) (kpT B) (wcT B) (pnT B) (nwT B) := fcw_0.bit
  have hlo : rg (loF B) := iZ_rg _
  refine lv_iload_n hx hb dL_areShiftsRight_0 rfl (lv_at hl 1 rfl) ?_
  refine lv_aload_n hx hb dL_areShiftsRight_1 rfl (lv_at hl 0 rfl) ?_
  obtain ⟨fs9, hfs9⟩ := fcw_0.o0
  refine x_cVID (As := []) (rest := [.int (iZ w)]) hx hb hml hts hown hK hST hOK hH 0 (q_walkerCount l E ST hSF σ B S Y fcw_0 ) (cwV 0 hts (goodIn_t (goodIn_x gK_143)) rfl rfl rfl (by decide +kernel) ⟨Nat.le_of_ble_eq_true rfl, Nat.le_of_ble_eq_true rfl⟩) (ltw (by decide)) hfs9 rfl rfl hl.1 rfl (Nat.le_of_ble_eq_true rfl) dL_areShiftsRight_2 ⟨Nat.le_of_ble_eq_true rfl, Nat.le_of_ble_eq_true rfl⟩ (fun z u h => h) (fun H locs hH => ?_)
  refine x_icmp_lt (tgt := 10) hx hb dL_areShiftsRight_5 (by decide) (by omega) (by omega) (fun c5 => ?_) (fun c5 => ?_)
  · have hwb : 0 ≤ w ∧ w < nwT B := by omega
    refine lv_aload_n hx hb dL_areShiftsRight_10 rfl (lv_at hl 0 rfl) ?_
    refine lv_iload_n hx hb dL_areShiftsRight_11 rfl (lv_at hl 1 rfl) ?_
    refine lv_iload_n hx hb dL_areShiftsRight_12 rfl (lv_at hl 2 rfl) ?_
    refine x_iconst hx hb dL_areShiftsRight_13 ?_
    refine x_idiv hx hb dL_areShiftsRight_14 (by omega) (by omega) (by omega) (by omega) ?_
    refine lv_iload_n hx hb dL_areShiftsRight_15 rfl (lv_at hl 2 rfl) ?_
    refine x_iconst hx hb dL_areShiftsRight_16 ?_
    refine x_irem hx hb dL_areShiftsRight_17 (by omega) (by omega) (by omega) (by omega) ?_
    obtain ⟨fs9, hfs9⟩ := fcw_0.o0
    refine x_cVIE (As := [.int (iZ w), .int (iZ (to / 5)), .int (iZ (to % 5))]) (rest := []) hx hb hml hts hown hK hST hOK hH 0 (q_helpfulShifts0 l E ST hSF σ w (to / 5) (to % 5) B S Y fcw_0 (by omega) (by omega) (by omega) (by omega) (by omega)) (cwV 3 hts (goodIn_t (goodIn_x gK_110)) rfl rfl rfl (by decide +kernel) ⟨Nat.le_of_ble_eq_true rfl, Nat.le_of_ble_eq_true rfl⟩) (ltw (by decide)) hfs9 rfl rfl hl.1 rfl (Nat.le_of_ble_eq_true rfl) dL_areShiftsRight_18 ⟨Nat.le_of_ble_eq_true rfl, Nat.le_of_ble_eq_true rfl⟩ (fun z u h => h) (fun σ5 H locs hp6 hH => ?_)
    obtain ⟨fcw_0, fr7⟩ := hp6
    rw [show to / 5 * 5 + to % 5 = to by omega]
    refine lv_istore_n (lv' := [(3, .int (iZ (hsA B w to))), (0, .ref (xad E 0)), (1, .int (iZ w)), (2, .int (iZ to))]) hx hb dL_areShiftsRight_21 rfl hl (by decide) rfl (fun ls hl => ?_)
    refine lv_aload_n hx hb dL_areShiftsRight_22 rfl (lv_at hl 1 rfl) ?_
    refine x_cSID (As := [.ref (xad E 0)]) (rest := []) hx hb hml hts hown hK hST hOK hH (c_L_looks l E ST hSF hSX htr σ5 B S Y fcw_0 ) (va_cwS 1 hts (goodIn_t gK_265) rfl rfl rfl (by decide +kernel) ⟨Nat.le_of_ble_eq_true rfl, Nat.le_of_ble_eq_true rfl⟩) rfl hl.1 rfl (Nat.le_of_ble_eq_true rfl) dL_areShiftsRight_23 ⟨Nat.le_of_ble_eq_true rfl, Nat.le_of_ble_eq_true rfl⟩ (fun z u h => h) (fun H locs hH => ?_)
    refine lv_istore (lv' := [(4, .int (iZ (loF B))), (3, .int (iZ (hsA B w to))), (0, .ref (xad E 0)), (1, .int (iZ w)), (2, .int (iZ to))]) hx hb dL_areShiftsRight_26 hl (by decide) rfl (fun ls hl => ?_)
    refine lv_aload_n hx hb dL_areShiftsRight_28 rfl (lv_at hl 2 rfl) ?_
    obtain ⟨fs9, hfs9⟩ := fcw_0.o0
    refine x_cVV (As := []) (rest := []) hx hb hml hts hown hK hST hOK hH 0 (q_save l E ST hSF  σ5 B S Y fcw_0 ) (cwV 0 hts (goodIn_t (goodIn_x gK_269)) rfl rfl rfl (by decide +kernel) ⟨Nat.le_of_ble_eq_true rfl, Nat.le_of_ble_eq_true rfl⟩) (ltw (by decide)) hfs9 rfl rfl hl.1 rfl (Nat.le_of_ble_eq_true rfl) dL_areShiftsRight_29 ⟨Nat.le_of_ble_eq_true rfl, Nat.le_of_ble_eq_true rfl⟩ (fun σ13 H locs hp14 hH => ?_)
    obtain ⟨fcw_0, fr15⟩ := hp14
    refine x_iconst hx hb dL_areShiftsRight_32 ?_
    refine lv_istore (lv' := [(5, .int (iZ 0)), (4, .int (iZ (loF B))), (3, .int (iZ (hsA B w to))), (0, .ref (xad E 0)), (1, .int (iZ w)), (2, .int (iZ to))]) hx hb dL_areShiftsRight_33 hl (by decide) rfl (fun ls hl => ?_)
    refine x_iconst hx hb dL_areShiftsRight_35 ?_
    refine lv_istore (lv' := [(6, .int (iZ 0)), (5, .int (iZ 0)), (4, .int (iZ (loF B))), (3, .int (iZ (hsA B w to))), (0, .ref (xad E 0)), (1, .int (iZ w)), (2, .int (iZ to))]) hx hb dL_areShiftsRight_36 hl (by decide) rfl (fun ls hl => ?_)
    have K38 : ∀ (nK : Nat) (mm k : Int) (σ17 : xW) (H : Heap) (locs : List Loc) (ls : Array Slot), (20 - k).toNat < nK → (0 ≤ k ∧ k ≤ 20) → (mm = smK (fun q => hlK B w to q) k) → (0 ≤ mm ∧ mm ≤ k) → cw E σ17 B (some B) Y → (∀ j : Nat, (j < 0 ∨ 0 + 85 ≤ j) → σ17 j = σ13 j) → Hx E (xA E s.heap.size) s.heap σ17 H locs → lv_has ls 8 [(6, .int (iZ k)), (5, .int (iZ mm)), (4, .int (iZ (loF B))), (3, .int (iZ (hsA B w to))), (0, .ref (xad E 0)), (1, .int (iZ w)), (2, .int (iZ to))] → W p l e rm_L_areShiftsRight s m args below meth c H locs ((0 + rm_L_looks.cells) + 2 * (k).toNat) ((0 + rm_L_looks.slots) + 12 * (k).toNat) Q (F0 m 38 ls []) := by
      intro n38
      induction n38 with
      | zero =>
        intro mm k σ17 H locs ls hm
        exact absurd hm (by first | exact Nat.not_lt_zero _ | omega)
      | succ n38 ih38 =>
        intro mm k σ17 H locs ls hm38 hk hmm hmb fcw_0 fr18 hH hl
        refine lv_iload hx hb dL_areShiftsRight_38 (lv_at hl 0 rfl) ?_
        refine x_bipush hx hb dL_areShiftsRight_40 (by decide) ?_
        refine x_icmp_ge (tgt := 117) hx hb dL_areShiftsRight_42 (by decide) (by omega) (by decide) (fun c42 => ?_) (fun c42 => ?_)
        · have hme : mm = hsA B w to := (by have e9 : k = 20 := (by omega); rw [hmm, e9]; exact hs_all)
          refine lv_iload_n hx hb dL_areShiftsRight_117 rfl (lv_at hl 3 rfl) ?_
          refine lv_iload hx hb dL_areShiftsRight_118 (lv_at hl 1 rfl) ?_
          refine x_icmp_ne (tgt := 136) hx hb dL_areShiftsRight_120 (by decide) (by omega) (by omega) (fun c120 => ?_) (fun c120 => ?_)
          · exact absurd hme.symm c120
          · refine lv_aload_n hx hb dL_areShiftsRight_123 rfl (lv_at hl 4 rfl) ?_
            refine x_cSID (As := [.ref (xad E 0)]) (rest := []) hx hb hml hts hown hK hST hOK hH (c_L_looks l E ST hSF hSX htr σ17 B (some B) Y fcw_0 ) (va_cwS 1 hts (goodIn_t gK_265) rfl rfl rfl (by decide +kernel) ⟨Nat.le_of_ble_eq_true rfl, Nat.le_of_ble_eq_true rfl⟩) rfl hl.1 rfl (Nat.le_of_ble_eq_true rfl) dL_areShiftsRight_124 ⟨by first | omega | (simp only [rm_L_areShiftsRight, rm_L_looks, rm_X6_helpfulShifts0, rm_X6_save, rm_X6_walkerCount]; omega), by first | omega | (simp only [rm_L_areShiftsRight, rm_L_looks, rm_X6_helpfulShifts0, rm_X6_save, rm_X6_walkerCount]; omega)⟩ (fun z u h => h) (fun H locs hH => ?_)
            refine lv_iload hx hb dL_areShiftsRight_127 (lv_at hl 2 rfl) ?_
            refine x_icmp_ne (tgt := 136) hx hb dL_areShiftsRight_129 (by decide) (by omega) (by omega) (fun c129 => ?_) (fun c129 => ?_)
            · exact absurd rfl c129
            · refine x_iconst hx hb dL_areShiftsRight_132 ?_
              refine lv_goto (tgt := 137) hx hb dL_areShiftsRight_133 (by decide) ?_
              subst hQ
              exact x_zret (b := true) hx hb hr hlocks hH (by first | omega | (simp only [rm_L_areShiftsRight, rm_L_looks, rm_X6_helpfulShifts0, rm_X6_save, rm_X6_walkerCount]; omega)) (by first | omega | (simp only [rm_L_areShiftsRight, rm_L_looks, rm_X6_helpfulShifts0, rm_X6_save, rm_X6_walkerCount]; omega)) ⟨congrArg b2 (show true = true from (by rfl)), ⟨(some B), fcw_0⟩, fun j hj0 => ((fr18 j (by omega)).trans ((fr15 j (by omega)).trans (fr7 j (by omega))))⟩ dL_areShiftsRight_137
        · refine lv_aload_n hx hb dL_areShiftsRight_45 rfl (lv_at hl 4 rfl) ?_
          refine x_iconst hx hb dL_areShiftsRight_46 ?_
          refine lv_iload hx hb dL_areShiftsRight_47 (lv_at hl 0 rfl) ?_
          refine x_bipush hx hb dL_areShiftsRight_49 (by decide) ?_
          refine x_idiv hx hb dL_areShiftsRight_51 (by omega) (by omega) (by omega) (by omega) ?_
          refine x_iadd hx hb dL_areShiftsRight_52 ?_
          by_cases cs53 : k < 10
          · rw [show 4 + k / 10 = 4 by omega]
            refine lv_iload hx hb dL_areShiftsRight_53 (lv_at hl 0 rfl) ?_
            refine x_iconst hx hb dL_areShiftsRight_55 ?_
            refine x_irem hx hb dL_areShiftsRight_56 (by omega) (by omega) (by omega) (by omega) ?_
            refine lv_iload hx hb dL_areShiftsRight_57 (lv_at hl 0 rfl) ?_
            refine x_iconst hx hb dL_areShiftsRight_59 ?_
            refine x_idiv hx hb dL_areShiftsRight_60 (by omega) (by omega) (by omega) (by omega) ?_
            refine x_iconst hx hb dL_areShiftsRight_61 ?_
            refine x_irem hx hb dL_areShiftsRight_62 (by omega) (by omega) (by omega) (by omega) ?_
            refine x_if_ne (tgt := 70) hx hb dL_areShiftsRight_63 (by decide) (by omega) (fun c63 => ?_) (fun c63 => ?_)
            · refine x_iconst hx hb dL_areShiftsRight_70 ?_
              refine x_iconst hx hb dL_areShiftsRight_71 ?_
              refine x_cSW (As := [.ref (xad E 0), .int (iZ 4), .int (iZ (k % 5)), .int (iZ (-1)), .int (iZ 0)]) (rest := []) hx hb hml hts hown hK hST hOK hH (c_L_deed_4 l E ST hSF hSX htr σ17 (k % 5) (-1) 0 B (some B) Y fcw_0 (by omega) (by omega) (by omega)) (vx_cwSW 5 hts (goodIn_t gK_140) rfl rfl rfl (by decide +kernel) ⟨Nat.le_of_ble_eq_true rfl, Nat.le_of_ble_eq_true rfl⟩) rfl hl.1 rfl (Nat.le_of_ble_eq_true rfl) dL_areShiftsRight_72 ⟨by first | omega | (simp only [rm_L_areShiftsRight, rm_L_deed_4, rm_L_looks, rm_X6_helpfulShifts0, rm_X6_save, rm_X6_walkerCount]; omega), by first | omega | (simp only [rm_L_areShiftsRight, rm_L_deed_4, rm_L_looks, rm_X6_helpfulShifts0, rm_X6_save, rm_X6_walkerCount]; omega)⟩ (fun zd σ22 H locs hp23 hH => ?_)
              obtain ⟨hzd, fcw_0, fr24⟩ := hp23
              refine lv_istore (lv' := [(7, .int (iZ zd)), (6, .int (iZ k)), (5, .int (iZ mm)), (4, .int (iZ (loF B))), (3, .int (iZ (hsA B w to))), (0, .ref (xad E 0)), (1, .int (iZ w)), (2, .int (iZ to))]) hx hb dL_areShiftsRight_75 hl (by decide) rfl (fun ls hl => ?_)
              refine lv_iload hx hb dL_areShiftsRight_77 (lv_at hl 2 rfl) ?_
              refine lv_iload hx hb dL_areShiftsRight_79 (lv_at hl 0 rfl) ?_
              refine x_if_lt (tgt := 103) hx hb dL_areShiftsRight_81 (by decide) (by omega) (fun c81 => ?_) (fun c81 => ?_)
              · refine x_iconst hx hb dL_areShiftsRight_103 ?_
                refine x_iadd hx hb dL_areShiftsRight_104 ?_
                refine lv_istore (lv' := [(5, .int (iZ (mm + 0))), (7, .int (iZ zd)), (6, .int (iZ k)), (4, .int (iZ (loF B))), (3, .int (iZ (hsA B w to))), (0, .ref (xad E 0)), (1, .int (iZ w)), (2, .int (iZ to))]) hx hb dL_areShiftsRight_105 hl (by decide) rfl (fun ls hl => ?_)
                refine lv_aload_n hx hb dL_areShiftsRight_107 rfl (lv_at hl 5 rfl) ?_
                obtain ⟨fs9, hfs9⟩ := fcw_0.o0
                refine x_cVV (As := []) (rest := []) hx hb hml hts hown hK hST hOK hH 0 (q_restore0 l E ST hSF  σ22 B ((rowF (opT B) (lkT B) (kpT B) (wcT B) (pnT B) (nwT B) (shB B) (wkB B) (k % 5) (-1)).2) Y fcw_0 ) (cwV 0 hts (goodIn_t (goodIn_x gK_272)) rfl rfl rfl (by decide +kernel) ⟨Nat.le_of_ble_eq_true rfl, Nat.le_of_ble_eq_true rfl⟩) (ltw (by decide)) hfs9 rfl rfl hl.1 rfl (Nat.le_of_ble_eq_true rfl) dL_areShiftsRight_108 ⟨by first | omega | (simp only [rm_L_areShiftsRight, rm_L_deed_4, rm_L_looks, rm_X6_helpfulShifts0, rm_X6_restore0, rm_X6_save, rm_X6_walkerCount]; omega), by first | omega | (simp only [rm_L_areShiftsRight, rm_L_deed_4, rm_L_looks, rm_X6_helpfulShifts0, rm_X6_restore0, rm_X6_save, rm_X6_walkerCount]; omega)⟩ (fun σ26 H locs hp27 hH => ?_)
                obtain ⟨fcw_0, fr28⟩ := hp27
                refine x_iinc (lv' := [(6, .int (iZ (k + 1))), (5, .int (iZ (mm + 0))), (7, .int (iZ zd)), (4, .int (iZ (loF B))), (3, .int (iZ (hsA B w to))), (0, .ref (xad E 0)), (1, .int (iZ w)), (2, .int (iZ to))]) hx hb dL_areShiftsRight_111 hl (k := 2) rfl (by decide) rfl (fun ls hl => ?_)
                refine lv_goto (tgt := 38) hx hb dL_areShiftsRight_114 (by decide) ?_
                exact W.widen (by first | omega | (simp only [rm_L_areShiftsRight, rm_L_deed_4, rm_L_looks, rm_X6_helpfulShifts0, rm_X6_restore0, rm_X6_save, rm_X6_walkerCount]; omega)) (by first | omega | (simp only [rm_L_areShiftsRight, rm_L_deed_4, rm_L_looks, rm_X6_helpfulShifts0, rm_X6_restore0, rm_X6_save, rm_X6_walkerCount]; omega)) (ih38 (mm + 0) (k + 1) σ26 _ _ _ (by omega) (by omega) (by rw [smK_s (by omega), ← hmm]; (first | rw [hl_row (by omega) (by first | exact st_p c63 | exact st_m c63)] | rw [hl_col (by omega) (by first | exact st_p c63 | exact st_m c63)]); first | rw [aS_no hnw.1 (by first | exact Or.inl rfl | exact Or.inr rfl) (by first | exact row_mv (by omega) | exact col_mv (by omega)) hzd.1 c81] | rw [aS_far (by first | exact Or.inl rfl | exact Or.inr rfl) (by first | exact row_mv (by omega) | exact col_mv (by omega)) hzd.1 c81 c96] | rw [aS_near (by first | exact Or.inl rfl | exact Or.inr rfl) (by first | exact row_mv (by omega) | exact col_mv (by omega)) hzd.1 c81 c96]) (by omega) fcw_0 (fun j hj0 => ((fr28 j (by omega)).trans ((fr24 j (by omega)).trans (fr18 j (by omega))))) hH (lv_sub hl [0, 1, 3, 4, 5, 6, 7] rfl))
              · refine lv_aload_n hx hb dL_areShiftsRight_84 rfl (lv_at hl 5 rfl) ?_
                refine x_iconst hx hb dL_areShiftsRight_85 ?_
                refine lv_iload_n hx hb dL_areShiftsRight_86 rfl (lv_at hl 7 rfl) ?_
                refine x_iconst hx hb dL_areShiftsRight_87 ?_
                refine x_idiv hx hb dL_areShiftsRight_88 (by omega) (by omega) (by omega) (by omega) ?_
                refine lv_iload_n hx hb dL_areShiftsRight_89 rfl (lv_at hl 7 rfl) ?_
                refine x_iconst hx hb dL_areShiftsRight_90 ?_
                refine x_irem hx hb dL_areShiftsRight_91 (by omega) (by omega) (by omega) (by omega) ?_
                refine lv_iload_n hx hb dL_areShiftsRight_92 rfl (lv_at hl 6 rfl) ?_
                refine x_cSW (As := [.ref (xad E 0), .int (iZ 5), .int (iZ (to / 5)), .int (iZ (to % 5)), .int (iZ w)]) (rest := [.int (iZ mm)]) hx hb hml hts hown hK hST hOK hH (c_L_ask_5 l E ST hSF hSX htr σ22 (to / 5) (to % 5) w ((rowF (opT B) (lkT B) (kpT B) (wcT B) (pnT B) (nwT B) (shB B) (wkB B) (k % 5) (-1)).2) (some B) Y fcw_0 (by omega) (by rw [rowF_nw]; exact hwb)) (vx_cwSW 5 hts (goodIn_t gK_162) rfl rfl rfl (by decide +kernel) ⟨Nat.le_of_ble_eq_true rfl, Nat.le_of_ble_eq_true rfl⟩) rfl hl.1 rfl (Nat.le_of_ble_eq_true rfl) dL_areShiftsRight_93 ⟨by first | omega | (simp only [rm_L_areShiftsRight, rm_L_ask_5, rm_L_deed_4, rm_L_looks, rm_X6_helpfulShifts0, rm_X6_save, rm_X6_walkerCount]; omega), by first | omega | (simp only [rm_L_areShiftsRight, rm_L_ask_5, rm_L_deed_4, rm_L_looks, rm_X6_helpfulShifts0, rm_X6_save, rm_X6_walkerCount]; omega)⟩ (fun z30 σ31 H locs hp32 hH => ?_)
                obtain ⟨hq9, hp32⟩ := hp32
                subst hq9
                obtain ⟨fcw_0, fr33⟩ := hp32
                rw [show to / 5 * 5 + to % 5 = to by omega]
                have hdz9 := aDz_rg (dz_rg (G := Gw (opT ((rowF (opT B) (lkT B) (kpT B) (wcT B) (pnT B) (nwT B) (shB B) (wkB B) (k % 5) (-1)).2)) (lkT ((rowF (opT B) (lkT B) (kpT B) (wcT B) (pnT B) (nwT B) (shB B) (wkB B) (k % 5) (-1)).2)) (kpT ((rowF (opT B) (lkT B) (kpT B) (wcT B) (pnT B) (nwT B) (shB B) (wkB B) (k % 5) (-1)).2)) w) (st := wcT ((rowF (opT B) (lkT B) (kpT B) (wcT B) (pnT B) (nwT B) (shB B) (wkB B) (k % 5) (-1)).2) w) Gw_ok (fcw_0.bit.2.2.2.1 w) to)
                refine x_if_lt (tgt := 103) hx hb dL_areShiftsRight_96 (by decide) (by omega) (fun c96 => ?_) (fun c96 => ?_)
                · refine x_iconst hx hb dL_areShiftsRight_103 ?_
                  refine x_iadd hx hb dL_areShiftsRight_104 ?_
                  refine lv_istore (lv' := [(5, .int (iZ (mm + 0))), (7, .int (iZ zd)), (6, .int (iZ k)), (4, .int (iZ (loF B))), (3, .int (iZ (hsA B w to))), (0, .ref (xad E 0)), (1, .int (iZ w)), (2, .int (iZ to))]) hx hb dL_areShiftsRight_105 hl (by decide) rfl (fun ls hl => ?_)
                  refine lv_aload_n hx hb dL_areShiftsRight_107 rfl (lv_at hl 5 rfl) ?_
                  obtain ⟨fs9, hfs9⟩ := fcw_0.o0
                  refine x_cVV (As := []) (rest := []) hx hb hml hts hown hK hST hOK hH 0 (q_restore0 l E ST hSF  σ31 B ((rowF (opT B) (lkT B) (kpT B) (wcT B) (pnT B) (nwT B) (shB B) (wkB B) (k % 5) (-1)).2) Y fcw_0 ) (cwV 0 hts (goodIn_t (goodIn_x gK_272)) rfl rfl rfl (by decide +kernel) ⟨Nat.le_of_ble_eq_true rfl, Nat.le_of_ble_eq_true rfl⟩) (ltw (by decide)) hfs9 rfl rfl hl.1 rfl (Nat.le_of_ble_eq_true rfl) dL_areShiftsRight_108 ⟨by first | omega | (simp only [rm_L_areShiftsRight, rm_L_ask_5, rm_L_deed_4, rm_L_looks, rm_X6_helpfulShifts0, rm_X6_restore0, rm_X6_save, rm_X6_walkerCount]; omega), by first | omega | (simp only [rm_L_areShiftsRight, rm_L_ask_5, rm_L_deed_4, rm_L_looks, rm_X6_helpfulShifts0, rm_X6_restore0, rm_X6_save, rm_X6_walkerCount]; omega)⟩ (fun σ36 H locs hp37 hH => ?_)
                  obtain ⟨fcw_0, fr38⟩ := hp37
                  refine x_iinc (lv' := [(6, .int (iZ (k + 1))), (5, .int (iZ (mm + 0))), (7, .int (iZ zd)), (4, .int (iZ (loF B))), (3, .int (iZ (hsA B w to))), (0, .ref (xad E 0)), (1, .int (iZ w)), (2, .int (iZ to))]) hx hb dL_areShiftsRight_111 hl (k := 2) rfl (by decide) rfl (fun ls hl => ?_)
                  refine lv_goto (tgt := 38) hx hb dL_areShiftsRight_114 (by decide) ?_
                  exact W.widen (by first | omega | (simp only [rm_L_areShiftsRight, rm_L_ask_5, rm_L_deed_4, rm_L_looks, rm_X6_helpfulShifts0, rm_X6_restore0, rm_X6_save, rm_X6_walkerCount]; omega)) (by first | omega | (simp only [rm_L_areShiftsRight, rm_L_ask_5, rm_L_deed_4, rm_L_looks, rm_X6_helpfulShifts0, rm_X6_restore0, rm_X6_save, rm_X6_walkerCount]; omega)) (ih38 (mm + 0) (k + 1) σ36 _ _ _ (by omega) (by omega) (by rw [smK_s (by omega), ← hmm]; (first | rw [hl_row (by omega) (by first | exact st_p c63 | exact st_m c63)] | rw [hl_col (by omega) (by first | exact st_p c63 | exact st_m c63)]); first | rw [aS_no hnw.1 (by first | exact Or.inl rfl | exact Or.inr rfl) (by first | exact row_mv (by omega) | exact col_mv (by omega)) hzd.1 c81] | rw [aS_far (by first | exact Or.inl rfl | exact Or.inr rfl) (by first | exact row_mv (by omega) | exact col_mv (by omega)) hzd.1 c81 c96] | rw [aS_near (by first | exact Or.inl rfl | exact Or.inr rfl) (by first | exact row_mv (by omega) | exact col_mv (by omega)) hzd.1 c81 c96]) (by omega) fcw_0 (fun j hj0 => ((fr38 j (by omega)).trans ((fr33 j (by omega)).trans ((fr24 j (by omega)).trans (fr18 j (by omega)))))) hH (lv_sub hl [0, 1, 3, 4, 5, 6, 7] rfl))
                · refine x_iconst hx hb dL_areShiftsRight_99 ?_
                  refine lv_goto (tgt := 104) hx hb dL_areShiftsRight_100 (by decide) ?_
                  refine x_iadd hx hb dL_areShiftsRight_104 ?_
                  refine lv_istore (lv' := [(5, .int (iZ (mm + 1))), (7, .int (iZ zd)), (6, .int (iZ k)), (4, .int (iZ (loF B))), (3, .int (iZ (hsA B w to))), (0, .ref (xad E 0)), (1, .int (iZ w)), (2, .int (iZ to))]) hx hb dL_areShiftsRight_105 hl (by decide) rfl (fun ls hl => ?_)
                  refine lv_aload_n hx hb dL_areShiftsRight_107 rfl (lv_at hl 5 rfl) ?_
                  obtain ⟨fs9, hfs9⟩ := fcw_0.o0
                  refine x_cVV (As := []) (rest := []) hx hb hml hts hown hK hST hOK hH 0 (q_restore0 l E ST hSF  σ31 B ((rowF (opT B) (lkT B) (kpT B) (wcT B) (pnT B) (nwT B) (shB B) (wkB B) (k % 5) (-1)).2) Y fcw_0 ) (cwV 0 hts (goodIn_t (goodIn_x gK_272)) rfl rfl rfl (by decide +kernel) ⟨Nat.le_of_ble_eq_true rfl, Nat.le_of_ble_eq_true rfl⟩) (ltw (by decide)) hfs9 rfl rfl hl.1 rfl (Nat.le_of_ble_eq_true rfl) dL_areShiftsRight_108 ⟨by first | omega | (simp only [rm_L_areShiftsRight, rm_L_ask_5, rm_L_deed_4, rm_L_looks, rm_X6_helpfulShifts0, rm_X6_restore0, rm_X6_save, rm_X6_walkerCount]; omega), by first | omega | (simp only [rm_L_areShiftsRight, rm_L_ask_5, rm_L_deed_4, rm_L_looks, rm_X6_helpfulShifts0, rm_X6_restore0, rm_X6_save, rm_X6_walkerCount]; omega)⟩ (fun σ41 H locs hp42 hH => ?_)
                  obtain ⟨fcw_0, fr43⟩ := hp42
                  refine x_iinc (lv' := [(6, .int (iZ (k + 1))), (5, .int (iZ (mm + 1))), (7, .int (iZ zd)), (4, .int (iZ (loF B))), (3, .int (iZ (hsA B w to))), (0, .ref (xad E 0)), (1, .int (iZ w)), (2, .int (iZ to))]) hx hb dL_areShiftsRight_111 hl (k := 2) rfl (by decide) rfl (fun ls hl => ?_)
                  refine lv_goto (tgt := 38) hx hb dL_areShiftsRight_114 (by decide) ?_
                  exact W.widen (by first | omega | (simp only [rm_L_areShiftsRight, rm_L_ask_5, rm_L_deed_4, rm_L_looks, rm_X6_helpfulShifts0, rm_X6_restore0, rm_X6_save, rm_X6_walkerCount]; omega)) (by first | omega | (simp only [rm_L_areShiftsRight, rm_L_ask_5, rm_L_deed_4, rm_L_looks, rm_X6_helpfulShifts0, rm_X6_restore0, rm_X6_save, rm_X6_walkerCount]; omega)) (ih38 (mm + 1) (k + 1) σ41 _ _ _ (by omega) (by omega) (by rw [smK_s (by omega), ← hmm]; (first | rw [hl_row (by omega) (by first | exact st_p c63 | exact st_m c63)] | rw [hl_col (by omega) (by first | exact st_p c63 | exact st_m c63)]); first | rw [aS_no hnw.1 (by first | exact Or.inl rfl | exact Or.inr rfl) (by first | exact row_mv (by omega) | exact col_mv (by omega)) hzd.1 c81] | rw [aS_far (by first | exact Or.inl rfl | exact Or.inr rfl) (by first | exact row_mv (by omega) | exact col_mv (by omega)) hzd.1 c81 c96] | rw [aS_near (by first | exact Or.inl rfl | exact Or.inr rfl) (by first | exact row_mv (by omega) | exact col_mv (by omega)) hzd.1 c81 c96]) (by omega) fcw_0 (fun j hj0 => ((fr43 j (by omega)).trans ((fr33 j (by omega)).trans ((fr24 j (by omega)).trans (fr18 j (by omega)))))) hH (lv_sub hl [0, 1, 3, 4, 5, 6, 7] rfl))
            · refine x_iconst hx hb dL_areShiftsRight_66 ?_
              refine lv_goto (tgt := 71) hx hb dL_areShiftsRight_67 (by decide) ?_
              refine x_iconst hx hb dL_areShiftsRight_71 ?_
              refine x_cSW (As := [.ref (xad E 0), .int (iZ 4), .int (iZ (k % 5)), .int (iZ 1), .int (iZ 0)]) (rest := []) hx hb hml hts hown hK hST hOK hH (c_L_deed_4 l E ST hSF hSX htr σ17 (k % 5) 1 0 B (some B) Y fcw_0 (by omega) (by omega) (by omega)) (vx_cwSW 5 hts (goodIn_t gK_140) rfl rfl rfl (by decide +kernel) ⟨Nat.le_of_ble_eq_true rfl, Nat.le_of_ble_eq_true rfl⟩) rfl hl.1 rfl (Nat.le_of_ble_eq_true rfl) dL_areShiftsRight_72 ⟨by first | omega | (simp only [rm_L_areShiftsRight, rm_L_deed_4, rm_L_looks, rm_X6_helpfulShifts0, rm_X6_save, rm_X6_walkerCount]; omega), by first | omega | (simp only [rm_L_areShiftsRight, rm_L_deed_4, rm_L_looks, rm_X6_helpfulShifts0, rm_X6_save, rm_X6_walkerCount]; omega)⟩ (fun zd σ45 H locs hp46 hH => ?_)
              obtain ⟨hzd, fcw_0, fr47⟩ := hp46
              refine lv_istore (lv' := [(7, .int (iZ zd)), (6, .int (iZ k)), (5, .int (iZ mm)), (4, .int (iZ (loF B))), (3, .int (iZ (hsA B w to))), (0, .ref (xad E 0)), (1, .int (iZ w)), (2, .int (iZ to))]) hx hb dL_areShiftsRight_75 hl (by decide) rfl (fun ls hl => ?_)
              refine lv_iload hx hb dL_areShiftsRight_77 (lv_at hl 2 rfl) ?_
              refine lv_iload hx hb dL_areShiftsRight_79 (lv_at hl 0 rfl) ?_
              refine x_if_lt (tgt := 103) hx hb dL_areShiftsRight_81 (by decide) (by omega) (fun c81 => ?_) (fun c81 => ?_)
              · refine x_iconst hx hb dL_areShiftsRight_103 ?_
                refine x_iadd hx hb dL_areShiftsRight_104 ?_
                refine lv_istore (lv' := [(5, .int (iZ (mm + 0))), (7, .int (iZ zd)), (6, .int (iZ k)), (4, .int (iZ (loF B))), (3, .int (iZ (hsA B w to))), (0, .ref (xad E 0)), (1, .int (iZ w)), (2, .int (iZ to))]) hx hb dL_areShiftsRight_105 hl (by decide) rfl (fun ls hl => ?_)
                refine lv_aload_n hx hb dL_areShiftsRight_107 rfl (lv_at hl 5 rfl) ?_
                obtain ⟨fs9, hfs9⟩ := fcw_0.o0
                refine x_cVV (As := []) (rest := []) hx hb hml hts hown hK hST hOK hH 0 (q_restore0 l E ST hSF  σ45 B ((rowF (opT B) (lkT B) (kpT B) (wcT B) (pnT B) (nwT B) (shB B) (wkB B) (k % 5) 1).2) Y fcw_0 ) (cwV 0 hts (goodIn_t (goodIn_x gK_272)) rfl rfl rfl (by decide +kernel) ⟨Nat.le_of_ble_eq_true rfl, Nat.le_of_ble_eq_true rfl⟩) (ltw (by decide)) hfs9 rfl rfl hl.1 rfl (Nat.le_of_ble_eq_true rfl) dL_areShiftsRight_108 ⟨by first | omega | (simp only [rm_L_areShiftsRight, rm_L_deed_4, rm_L_looks, rm_X6_helpfulShifts0, rm_X6_restore0, rm_X6_save, rm_X6_walkerCount]; omega), by first | omega | (simp only [rm_L_areShiftsRight, rm_L_deed_4, rm_L_looks, rm_X6_helpfulShifts0, rm_X6_restore0, rm_X6_save, rm_X6_walkerCount]; omega)⟩ (fun σ49 H locs hp50 hH => ?_)
                obtain ⟨fcw_0, fr51⟩ := hp50
                refine x_iinc (lv' := [(6, .int (iZ (k + 1))), (5, .int (iZ (mm + 0))), (7, .int (iZ zd)), (4, .int (iZ (loF B))), (3, .int (iZ (hsA B w to))), (0, .ref (xad E 0)), (1, .int (iZ w)), (2, .int (iZ to))]) hx hb dL_areShiftsRight_111 hl (k := 2) rfl (by decide) rfl (fun ls hl => ?_)
                refine lv_goto (tgt := 38) hx hb dL_areShiftsRight_114 (by decide) ?_
                exact W.widen (by first | omega | (simp only [rm_L_areShiftsRight, rm_L_deed_4, rm_L_looks, rm_X6_helpfulShifts0, rm_X6_restore0, rm_X6_save, rm_X6_walkerCount]; omega)) (by first | omega | (simp only [rm_L_areShiftsRight, rm_L_deed_4, rm_L_looks, rm_X6_helpfulShifts0, rm_X6_restore0, rm_X6_save, rm_X6_walkerCount]; omega)) (ih38 (mm + 0) (k + 1) σ49 _ _ _ (by omega) (by omega) (by rw [smK_s (by omega), ← hmm]; (first | rw [hl_row (by omega) (by first | exact st_p c63 | exact st_m c63)] | rw [hl_col (by omega) (by first | exact st_p c63 | exact st_m c63)]); first | rw [aS_no hnw.1 (by first | exact Or.inl rfl | exact Or.inr rfl) (by first | exact row_mv (by omega) | exact col_mv (by omega)) hzd.1 c81] | rw [aS_far (by first | exact Or.inl rfl | exact Or.inr rfl) (by first | exact row_mv (by omega) | exact col_mv (by omega)) hzd.1 c81 c96] | rw [aS_near (by first | exact Or.inl rfl | exact Or.inr rfl) (by first | exact row_mv (by omega) | exact col_mv (by omega)) hzd.1 c81 c96]) (by omega) fcw_0 (fun j hj0 => ((fr51 j (by omega)).trans ((fr47 j (by omega)).trans (fr18 j (by omega))))) hH (lv_sub hl [0, 1, 3, 4, 5, 6, 7] rfl))
              · refine lv_aload_n hx hb dL_areShiftsRight_84 rfl (lv_at hl 5 rfl) ?_
                refine x_iconst hx hb dL_areShiftsRight_85 ?_
                refine lv_iload_n hx hb dL_areShiftsRight_86 rfl (lv_at hl 7 rfl) ?_
                refine x_iconst hx hb dL_areShiftsRight_87 ?_
                refine x_idiv hx hb dL_areShiftsRight_88 (by omega) (by omega) (by omega) (by omega) ?_
                refine lv_iload_n hx hb dL_areShiftsRight_89 rfl (lv_at hl 7 rfl) ?_
                refine x_iconst hx hb dL_areShiftsRight_90 ?_
                refine x_irem hx hb dL_areShiftsRight_91 (by omega) (by omega) (by omega) (by omega) ?_
                refine lv_iload_n hx hb dL_areShiftsRight_92 rfl (lv_at hl 6 rfl) ?_
                refine x_cSW (As := [.ref (xad E 0), .int (iZ 5), .int (iZ (to / 5)), .int (iZ (to % 5)), .int (iZ w)]) (rest := [.int (iZ mm)]) hx hb hml hts hown hK hST hOK hH (c_L_ask_5 l E ST hSF hSX htr σ45 (to / 5) (to % 5) w ((rowF (opT B) (lkT B) (kpT B) (wcT B) (pnT B) (nwT B) (shB B) (wkB B) (k % 5) 1).2) (some B) Y fcw_0 (by omega) (by rw [rowF_nw]; exact hwb)) (vx_cwSW 5 hts (goodIn_t gK_162) rfl rfl rfl (by decide +kernel) ⟨Nat.le_of_ble_eq_true rfl, Nat.le_of_ble_eq_true rfl⟩) rfl hl.1 rfl (Nat.le_of_ble_eq_true rfl) dL_areShiftsRight_93 ⟨by first | omega | (simp only [rm_L_areShiftsRight, rm_L_ask_5, rm_L_deed_4, rm_L_looks, rm_X6_helpfulShifts0, rm_X6_save, rm_X6_walkerCount]; omega), by first | omega | (simp only [rm_L_areShiftsRight, rm_L_ask_5, rm_L_deed_4, rm_L_looks, rm_X6_helpfulShifts0, rm_X6_save, rm_X6_walkerCount]; omega)⟩ (fun z53 σ54 H locs hp55 hH => ?_)
                obtain ⟨hq9, hp55⟩ := hp55
                subst hq9
                obtain ⟨fcw_0, fr56⟩ := hp55
                rw [show to / 5 * 5 + to % 5 = to by omega]
                have hdz9 := aDz_rg (dz_rg (G := Gw (opT ((rowF (opT B) (lkT B) (kpT B) (wcT B) (pnT B) (nwT B) (shB B) (wkB B) (k % 5) 1).2)) (lkT ((rowF (opT B) (lkT B) (kpT B) (wcT B) (pnT B) (nwT B) (shB B) (wkB B) (k % 5) 1).2)) (kpT ((rowF (opT B) (lkT B) (kpT B) (wcT B) (pnT B) (nwT B) (shB B) (wkB B) (k % 5) 1).2)) w) (st := wcT ((rowF (opT B) (lkT B) (kpT B) (wcT B) (pnT B) (nwT B) (shB B) (wkB B) (k % 5) 1).2) w) Gw_ok (fcw_0.bit.2.2.2.1 w) to)
                refine x_if_lt (tgt := 103) hx hb dL_areShiftsRight_96 (by decide) (by omega) (fun c96 => ?_) (fun c96 => ?_)
                · refine x_iconst hx hb dL_areShiftsRight_103 ?_
                  refine x_iadd hx hb dL_areShiftsRight_104 ?_
                  refine lv_istore (lv' := [(5, .int (iZ (mm + 0))), (7, .int (iZ zd)), (6, .int (iZ k)), (4, .int (iZ (loF B))), (3, .int (iZ (hsA B w to))), (0, .ref (xad E 0)), (1, .int (iZ w)), (2, .int (iZ to))]) hx hb dL_areShiftsRight_105 hl (by decide) rfl (fun ls hl => ?_)
                  refine lv_aload_n hx hb dL_areShiftsRight_107 rfl (lv_at hl 5 rfl) ?_
                  obtain ⟨fs9, hfs9⟩ := fcw_0.o0
                  refine x_cVV (As := []) (rest := []) hx hb hml hts hown hK hST hOK hH 0 (q_restore0 l E ST hSF  σ54 B ((rowF (opT B) (lkT B) (kpT B) (wcT B) (pnT B) (nwT B) (shB B) (wkB B) (k % 5) 1).2) Y fcw_0 ) (cwV 0 hts (goodIn_t (goodIn_x gK_272)) rfl rfl rfl (by decide +kernel) ⟨Nat.le_of_ble_eq_true rfl, Nat.le_of_ble_eq_true rfl⟩) (ltw (by decide)) hfs9 rfl rfl hl.1 rfl (Nat.le_of_ble_eq_true rfl) dL_areShiftsRight_108 ⟨by first | omega | (simp only [rm_L_areShiftsRight, rm_L_ask_5, rm_L_deed_4, rm_L_looks, rm_X6_helpfulShifts0, rm_X6_restore0, rm_X6_save, rm_X6_walkerCount]; omega), by first | omega | (simp only [rm_L_areShiftsRight, rm_L_ask_5, rm_L_deed_4, rm_L_looks, rm_X6_helpfulShifts0, rm_X6_restore0, rm_X6_save, rm_X6_walkerCount]; omega)⟩ (fun σ59 H locs hp60 hH => ?_)
                  obtain ⟨fcw_0, fr61⟩ := hp60
                  refine x_iinc (lv' := [(6, .int (iZ (k + 1))), (5, .int (iZ (mm + 0))), (7, .int (iZ zd)), (4, .int (iZ (loF B))), (3, .int (iZ (hsA B w to))), (0, .ref (xad E 0)), (1, .int (iZ w)), (2, .int (iZ to))]) hx hb dL_areShiftsRight_111 hl (k := 2) rfl (by decide) rfl (fun ls hl => ?_)
                  refine lv_goto (tgt := 38) hx hb dL_areShiftsRight_114 (by decide) ?_
                  exact W.widen (by first | omega | (simp only [rm_L_areShiftsRight, rm_L_ask_5, rm_L_deed_4, rm_L_looks, rm_X6_helpfulShifts0, rm_X6_restore0, rm_X6_save, rm_X6_walkerCount]; omega)) (by first | omega | (simp only [rm_L_areShiftsRight, rm_L_ask_5, rm_L_deed_4, rm_L_looks, rm_X6_helpfulShifts0, rm_X6_restore0, rm_X6_save, rm_X6_walkerCount]; omega)) (ih38 (mm + 0) (k + 1) σ59 _ _ _ (by omega) (by omega) (by rw [smK_s (by omega), ← hmm]; (first | rw [hl_row (by omega) (by first | exact st_p c63 | exact st_m c63)] | rw [hl_col (by omega) (by first | exact st_p c63 | exact st_m c63)]); first | rw [aS_no hnw.1 (by first | exact Or.inl rfl | exact Or.inr rfl) (by first | exact row_mv (by omega) | exact col_mv (by omega)) hzd.1 c81] | rw [aS_far (by first | exact Or.inl rfl | exact Or.inr rfl) (by first | exact row_mv (by omega) | exact col_mv (by omega)) hzd.1 c81 c96] | rw [aS_near (by first | exact Or.inl rfl | exact Or.inr rfl) (by first | exact row_mv (by omega) | exact col_mv (by omega)) hzd.1 c81 c96]) (by omega) fcw_0 (fun j hj0 => ((fr61 j (by omega)).trans ((fr56 j (by omega)).trans ((fr47 j (by omega)).trans (fr18 j (by omega)))))) hH (lv_sub hl [0, 1, 3, 4, 5, 6, 7] rfl))
                · refine x_iconst hx hb dL_areShiftsRight_99 ?_
                  refine lv_goto (tgt := 104) hx hb dL_areShiftsRight_100 (by decide) ?_
                  refine x_iadd hx hb dL_areShiftsRight_104 ?_
                  refine lv_istore (lv' := [(5, .int (iZ (mm + 1))), (7, .int (iZ zd)), (6, .int (iZ k)), (4, .int (iZ (loF B))), (3, .int (iZ (hsA B w to))), (0, .ref (xad E 0)), (1, .int (iZ w)), (2, .int (iZ to))]) hx hb dL_areShiftsRight_105 hl (by decide) rfl (fun ls hl => ?_)
                  refine lv_aload_n hx hb dL_areShiftsRight_107 rfl (lv_at hl 5 rfl) ?_
                  obtain ⟨fs9, hfs9⟩ := fcw_0.o0
                  refine x_cVV (As := []) (rest := []) hx hb hml hts hown hK hST hOK hH 0 (q_restore0 l E ST hSF  σ54 B ((rowF (opT B) (lkT B) (kpT B) (wcT B) (pnT B) (nwT B) (shB B) (wkB B) (k % 5) 1).2) Y fcw_0 ) (cwV 0 hts (goodIn_t (goodIn_x gK_272)) rfl rfl rfl (by decide +kernel) ⟨Nat.le_of_ble_eq_true rfl, Nat.le_of_ble_eq_true rfl⟩) (ltw (by decide)) hfs9 rfl rfl hl.1 rfl (Nat.le_of_ble_eq_true rfl) dL_areShiftsRight_108 ⟨by first | omega | (simp only [rm_L_areShiftsRight, rm_L_ask_5, rm_L_deed_4, rm_L_looks, rm_X6_helpfulShifts0, rm_X6_restore0, rm_X6_save, rm_X6_walkerCount]; omega), by first | omega | (simp only [rm_L_areShiftsRight, rm_L_ask_5, rm_L_deed_4, rm_L_looks, rm_X6_helpfulShifts0, rm_X6_restore0, rm_X6_save, rm_X6_walkerCount]; omega)⟩ (fun σ64 H locs hp65 hH => ?_)
                  obtain ⟨fcw_0, fr66⟩ := hp65
                  refine x_iinc (lv' := [(6, .int (iZ (k + 1))), (5, .int (iZ (mm + 1))), (7, .int (iZ zd)), (4, .int (iZ (loF B))), (3, .int (iZ (hsA B w to))), (0, .ref (xad E 0)), (1, .int (iZ w)), (2, .int (iZ to))]) hx hb dL_areShiftsRight_111 hl (k := 2) rfl (by decide) rfl (fun ls hl => ?_)
                  refine lv_goto (tgt := 38) hx hb dL_areShiftsRight_114 (by decide) ?_
                  exact W.widen (by first | omega | (simp only [rm_L_areShiftsRight, rm_L_ask_5, rm_L_deed_4, rm_L_looks, rm_X6_helpfulShifts0, rm_X6_restore0, rm_X6_save, rm_X6_walkerCount]; omega)) (by first | omega | (simp only [rm_L_areShiftsRight, rm_L_ask_5, rm_L_deed_4, rm_L_looks, rm_X6_helpfulShifts0, rm_X6_restore0, rm_X6_save, rm_X6_walkerCount]; omega)) (ih38 (mm + 1) (k + 1) σ64 _ _ _ (by omega) (by omega) (by rw [smK_s (by omega), ← hmm]; (first | rw [hl_row (by omega) (by first | exact st_p c63 | exact st_m c63)] | rw [hl_col (by omega) (by first | exact st_p c63 | exact st_m c63)]); first | rw [aS_no hnw.1 (by first | exact Or.inl rfl | exact Or.inr rfl) (by first | exact row_mv (by omega) | exact col_mv (by omega)) hzd.1 c81] | rw [aS_far (by first | exact Or.inl rfl | exact Or.inr rfl) (by first | exact row_mv (by omega) | exact col_mv (by omega)) hzd.1 c81 c96] | rw [aS_near (by first | exact Or.inl rfl | exact Or.inr rfl) (by first | exact row_mv (by omega) | exact col_mv (by omega)) hzd.1 c81 c96]) (by omega) fcw_0 (fun j hj0 => ((fr66 j (by omega)).trans ((fr56 j (by omega)).trans ((fr47 j (by omega)).trans (fr18 j (by omega)))))) hH (lv_sub hl [0, 1, 3, 4, 5, 6, 7] rfl))
          · rw [show 4 + k / 10 = 5 by omega]
            refine lv_iload hx hb dL_areShiftsRight_53 (lv_at hl 0 rfl) ?_
            refine x_iconst hx hb dL_areShiftsRight_55 ?_
            refine x_irem hx hb dL_areShiftsRight_56 (by omega) (by omega) (by omega) (by omega) ?_
            refine lv_iload hx hb dL_areShiftsRight_57 (lv_at hl 0 rfl) ?_
            refine x_iconst hx hb dL_areShiftsRight_59 ?_
            refine x_idiv hx hb dL_areShiftsRight_60 (by omega) (by omega) (by omega) (by omega) ?_
            refine x_iconst hx hb dL_areShiftsRight_61 ?_
            refine x_irem hx hb dL_areShiftsRight_62 (by omega) (by omega) (by omega) (by omega) ?_
            refine x_if_ne (tgt := 70) hx hb dL_areShiftsRight_63 (by decide) (by omega) (fun c63 => ?_) (fun c63 => ?_)
            · refine x_iconst hx hb dL_areShiftsRight_70 ?_
              refine x_iconst hx hb dL_areShiftsRight_71 ?_
              refine x_cSW (As := [.ref (xad E 0), .int (iZ 5), .int (iZ (k % 5)), .int (iZ (-1)), .int (iZ 0)]) (rest := []) hx hb hml hts hown hK hST hOK hH (c_L_deed_5 l E ST hSF hSX htr σ17 (k % 5) (-1) 0 B (some B) Y fcw_0 (by omega) (by omega) (by omega)) (vx_cwSW 5 hts (goodIn_t gK_140) rfl rfl rfl (by decide +kernel) ⟨Nat.le_of_ble_eq_true rfl, Nat.le_of_ble_eq_true rfl⟩) rfl hl.1 rfl (Nat.le_of_ble_eq_true rfl) dL_areShiftsRight_72 ⟨by first | omega | (simp only [rm_L_areShiftsRight, rm_L_deed_5, rm_L_looks, rm_X6_helpfulShifts0, rm_X6_save, rm_X6_walkerCount]; omega), by first | omega | (simp only [rm_L_areShiftsRight, rm_L_deed_5, rm_L_looks, rm_X6_helpfulShifts0, rm_X6_save, rm_X6_walkerCount]; omega)⟩ (fun zd σ68 H locs hp69 hH => ?_)
              obtain ⟨hzd, fcw_0, fr70⟩ := hp69
              refine lv_istore (lv' := [(7, .int (iZ zd)), (6, .int (iZ k)), (5, .int (iZ mm)), (4, .int (iZ (loF B))), (3, .int (iZ (hsA B w to))), (0, .ref (xad E 0)), (1, .int (iZ w)), (2, .int (iZ to))]) hx hb dL_areShiftsRight_75 hl (by decide) rfl (fun ls hl => ?_)
              refine lv_iload hx hb dL_areShiftsRight_77 (lv_at hl 2 rfl) ?_
              refine lv_iload hx hb dL_areShiftsRight_79 (lv_at hl 0 rfl) ?_
              refine x_if_lt (tgt := 103) hx hb dL_areShiftsRight_81 (by decide) (by omega) (fun c81 => ?_) (fun c81 => ?_)
              · refine x_iconst hx hb dL_areShiftsRight_103 ?_
                refine x_iadd hx hb dL_areShiftsRight_104 ?_
                refine lv_istore (lv' := [(5, .int (iZ (mm + 0))), (7, .int (iZ zd)), (6, .int (iZ k)), (4, .int (iZ (loF B))), (3, .int (iZ (hsA B w to))), (0, .ref (xad E 0)), (1, .int (iZ w)), (2, .int (iZ to))]) hx hb dL_areShiftsRight_105 hl (by decide) rfl (fun ls hl => ?_)
                refine lv_aload_n hx hb dL_areShiftsRight_107 rfl (lv_at hl 5 rfl) ?_
                obtain ⟨fs9, hfs9⟩ := fcw_0.o0
                refine x_cVV (As := []) (rest := []) hx hb hml hts hown hK hST hOK hH 0 (q_restore0 l E ST hSF  σ68 B ((colF (opT B) (lkT B) (kpT B) (wcT B) (pnT B) (nwT B) (shB B) (wkB B) (k % 5) (-1)).2) Y fcw_0 ) (cwV 0 hts (goodIn_t (goodIn_x gK_272)) rfl rfl rfl (by decide +kernel) ⟨Nat.le_of_ble_eq_true rfl, Nat.le_of_ble_eq_true rfl⟩) (ltw (by decide)) hfs9 rfl rfl hl.1 rfl (Nat.le_of_ble_eq_true rfl) dL_areShiftsRight_108 ⟨by first | omega | (simp only [rm_L_areShiftsRight, rm_L_deed_5, rm_L_looks, rm_X6_helpfulShifts0, rm_X6_restore0, rm_X6_save, rm_X6_walkerCount]; omega), by first | omega | (simp only [rm_L_areShiftsRight, rm_L_deed_5, rm_L_looks, rm_X6_helpfulShifts0, rm_X6_restore0, rm_X6_save, rm_X6_walkerCount]; omega)⟩ (fun σ72 H locs hp73 hH => ?_)
                obtain ⟨fcw_0, fr74⟩ := hp73
                refine x_iinc (lv' := [(6, .int (iZ (k + 1))), (5, .int (iZ (mm + 0))), (7, .int (iZ zd)), (4, .int (iZ (loF B))), (3, .int (iZ (hsA B w to))), (0, .ref (xad E 0)), (1, .int (iZ w)), (2, .int (iZ to))]) hx hb dL_areShiftsRight_111 hl (k := 2) rfl (by decide) rfl (fun ls hl => ?_)
                refine lv_goto (tgt := 38) hx hb dL_areShiftsRight_114 (by decide) ?_
                exact W.widen (by first | omega | (simp only [rm_L_areShiftsRight, rm_L_deed_5, rm_L_looks, rm_X6_helpfulShifts0, rm_X6_restore0, rm_X6_save, rm_X6_walkerCount]; omega)) (by first | omega | (simp only [rm_L_areShiftsRight, rm_L_deed_5, rm_L_looks, rm_X6_helpfulShifts0, rm_X6_restore0, rm_X6_save, rm_X6_walkerCount]; omega)) (ih38 (mm + 0) (k + 1) σ72 _ _ _ (by omega) (by omega) (by rw [smK_s (by omega), ← hmm]; (first | rw [hl_row (by omega) (by first | exact st_p c63 | exact st_m c63)] | rw [hl_col (by omega) (by first | exact st_p c63 | exact st_m c63)]); first | rw [aS_no hnw.1 (by first | exact Or.inl rfl | exact Or.inr rfl) (by first | exact row_mv (by omega) | exact col_mv (by omega)) hzd.1 c81] | rw [aS_far (by first | exact Or.inl rfl | exact Or.inr rfl) (by first | exact row_mv (by omega) | exact col_mv (by omega)) hzd.1 c81 c96] | rw [aS_near (by first | exact Or.inl rfl | exact Or.inr rfl) (by first | exact row_mv (by omega) | exact col_mv (by omega)) hzd.1 c81 c96]) (by omega) fcw_0 (fun j hj0 => ((fr74 j (by omega)).trans ((fr70 j (by omega)).trans (fr18 j (by omega))))) hH (lv_sub hl [0, 1, 3, 4, 5, 6, 7] rfl))
              · refine lv_aload_n hx hb dL_areShiftsRight_84 rfl (lv_at hl 5 rfl) ?_
                refine x_iconst hx hb dL_areShiftsRight_85 ?_
                refine lv_iload_n hx hb dL_areShiftsRight_86 rfl (lv_at hl 7 rfl) ?_
                refine x_iconst hx hb dL_areShiftsRight_87 ?_
                refine x_idiv hx hb dL_areShiftsRight_88 (by omega) (by omega) (by omega) (by omega) ?_
                refine lv_iload_n hx hb dL_areShiftsRight_89 rfl (lv_at hl 7 rfl) ?_
                refine x_iconst hx hb dL_areShiftsRight_90 ?_
                refine x_irem hx hb dL_areShiftsRight_91 (by omega) (by omega) (by omega) (by omega) ?_
                refine lv_iload_n hx hb dL_areShiftsRight_92 rfl (lv_at hl 6 rfl) ?_
                refine x_cSW (As := [.ref (xad E 0), .int (iZ 5), .int (iZ (to / 5)), .int (iZ (to % 5)), .int (iZ w)]) (rest := [.int (iZ mm)]) hx hb hml hts hown hK hST hOK hH (c_L_ask_5 l E ST hSF hSX htr σ68 (to / 5) (to % 5) w ((colF (opT B) (lkT B) (kpT B) (wcT B) (pnT B) (nwT B) (shB B) (wkB B) (k % 5) (-1)).2) (some B) Y fcw_0 (by omega) (by rw [colF_nw]; exact hwb)) (vx_cwSW 5 hts (goodIn_t gK_162) rfl rfl rfl (by decide +kernel) ⟨Nat.le_of_ble_eq_true rfl, Nat.le_of_ble_eq_true rfl⟩) rfl hl.1 rfl (Nat.le_of_ble_eq_true rfl) dL_areShiftsRight_93 ⟨by first | omega | (simp only [rm_L_areShiftsRight, rm_L_ask_5, rm_L_deed_5, rm_L_looks, rm_X6_helpfulShifts0, rm_X6_save, rm_X6_walkerCount]; omega), by first | omega | (simp only [rm_L_areShiftsRight, rm_L_ask_5, rm_L_deed_5, rm_L_looks, rm_X6_helpfulShifts0, rm_X6_save, rm_X6_walkerCount]; omega)⟩ (fun z76 σ77 H locs hp78 hH => ?_)
                obtain ⟨hq9, hp78⟩ := hp78
                subst hq9
                obtain ⟨fcw_0, fr79⟩ := hp78
                rw [show to / 5 * 5 + to % 5 = to by omega]
                have hdz9 := aDz_rg (dz_rg (G := Gw (opT ((colF (opT B) (lkT B) (kpT B) (wcT B) (pnT B) (nwT B) (shB B) (wkB B) (k % 5) (-1)).2)) (lkT ((colF (opT B) (lkT B) (kpT B) (wcT B) (pnT B) (nwT B) (shB B) (wkB B) (k % 5) (-1)).2)) (kpT ((colF (opT B) (lkT B) (kpT B) (wcT B) (pnT B) (nwT B) (shB B) (wkB B) (k % 5) (-1)).2)) w) (st := wcT ((colF (opT B) (lkT B) (kpT B) (wcT B) (pnT B) (nwT B) (shB B) (wkB B) (k % 5) (-1)).2) w) Gw_ok (fcw_0.bit.2.2.2.1 w) to)
                refine x_if_lt (tgt := 103) hx hb dL_areShiftsRight_96 (by decide) (by omega) (fun c96 => ?_) (fun c96 => ?_)
                · refine x_iconst hx hb dL_areShiftsRight_103 ?_
                  refine x_iadd hx hb dL_areShiftsRight_104 ?_
                  refine lv_istore (lv' := [(5, .int (iZ (mm + 0))), (7, .int (iZ zd)), (6, .int (iZ k)), (4, .int (iZ (loF B))), (3, .int (iZ (hsA B w to))), (0, .ref (xad E 0)), (1, .int (iZ w)), (2, .int (iZ to))]) hx hb dL_areShiftsRight_105 hl (by decide) rfl (fun ls hl => ?_)
                  refine lv_aload_n hx hb dL_areShiftsRight_107 rfl (lv_at hl 5 rfl) ?_
                  obtain ⟨fs9, hfs9⟩ := fcw_0.o0
                  refine x_cVV (As := []) (rest := []) hx hb hml hts hown hK hST hOK hH 0 (q_restore0 l E ST hSF  σ77 B ((colF (opT B) (lkT B) (kpT B) (wcT B) (pnT B) (nwT B) (shB B) (wkB B) (k % 5) (-1)).2) Y fcw_0 ) (cwV 0 hts (goodIn_t (goodIn_x gK_272)) rfl rfl rfl (by decide +kernel) ⟨Nat.le_of_ble_eq_true rfl, Nat.le_of_ble_eq_true rfl⟩) (ltw (by decide)) hfs9 rfl rfl hl.1 rfl (Nat.le_of_ble_eq_true rfl) dL_areShiftsRight_108 ⟨by first | omega | (simp only [rm_L_areShiftsRight, rm_L_ask_5, rm_L_deed_5, rm_L_looks, rm_X6_helpfulShifts0, rm_X6_restore0, rm_X6_save, rm_X6_walkerCount]; omega), by first | omega | (simp only [rm_L_areShiftsRight, rm_L_ask_5, rm_L_deed_5, rm_L_looks, rm_X6_helpfulShifts0, rm_X6_restore0, rm_X6_save, rm_X6_walkerCount]; omega)⟩ (fun σ82 H locs hp83 hH => ?_)
                  obtain ⟨fcw_0, fr84⟩ := hp83
                  refine x_iinc (lv' := [(6, .int (iZ (k + 1))), (5, .int (iZ (mm + 0))), (7, .int (iZ zd)), (4, .int (iZ (loF B))), (3, .int (iZ (hsA B w to))), (0, .ref (xad E 0)), (1, .int (iZ w)), (2, .int (iZ to))]) hx hb dL_areShiftsRight_111 hl (k := 2) rfl (by decide) rfl (fun ls hl => ?_)
                  refine lv_goto (tgt := 38) hx hb dL_areShiftsRight_114 (by decide) ?_
                  exact W.widen (by first | omega | (simp only [rm_L_areShiftsRight, rm_L_ask_5, rm_L_deed_5, rm_L_looks, rm_X6_helpfulShifts0, rm_X6_restore0, rm_X6_save, rm_X6_walkerCount]; omega)) (by first | omega | (simp only [rm_L_areShiftsRight, rm_L_ask_5, rm_L_deed_5, rm_L_looks, rm_X6_helpfulShifts0, rm_X6_restore0, rm_X6_save, rm_X6_walkerCount]; omega)) (ih38 (mm + 0) (k + 1) σ82 _ _ _ (by omega) (by omega) (by rw [smK_s (by omega), ← hmm]; (first | rw [hl_row (by omega) (by first | exact st_p c63 | exact st_m c63)] | rw [hl_col (by omega) (by first | exact st_p c63 | exact st_m c63)]); first | rw [aS_no hnw.1 (by first | exact Or.inl rfl | exact Or.inr rfl) (by first | exact row_mv (by omega) | exact col_mv (by omega)) hzd.1 c81] | rw [aS_far (by first | exact Or.inl rfl | exact Or.inr rfl) (by first | exact row_mv (by omega) | exact col_mv (by omega)) hzd.1 c81 c96] | rw [aS_near (by first | exact Or.inl rfl | exact Or.inr rfl) (by first | exact row_mv (by omega) | exact col_mv (by omega)) hzd.1 c81 c96]) (by omega) fcw_0 (fun j hj0 => ((fr84 j (by omega)).trans ((fr79 j (by omega)).trans ((fr70 j (by omega)).trans (fr18 j (by omega)))))) hH (lv_sub hl [0, 1, 3, 4, 5, 6, 7] rfl))
                · refine x_iconst hx hb dL_areShiftsRight_99 ?_
                  refine lv_goto (tgt := 104) hx hb dL_areShiftsRight_100 (by decide) ?_
                  refine x_iadd hx hb dL_areShiftsRight_104 ?_
                  refine lv_istore (lv' := [(5, .int (iZ (mm + 1))), (7, .int (iZ zd)), (6, .int (iZ k)), (4, .int (iZ (loF B))), (3, .int (iZ (hsA B w to))), (0, .ref (xad E 0)), (1, .int (iZ w)), (2, .int (iZ to))]) hx hb dL_areShiftsRight_105 hl (by decide) rfl (fun ls hl => ?_)
                  refine lv_aload_n hx hb dL_areShiftsRight_107 rfl (lv_at hl 5 rfl) ?_
                  obtain ⟨fs9, hfs9⟩ := fcw_0.o0
                  refine x_cVV (As := []) (rest := []) hx hb hml hts hown hK hST hOK hH 0 (q_restore0 l E ST hSF  σ77 B ((colF (opT B) (lkT B) (kpT B) (wcT B) (pnT B) (nwT B) (shB B) (wkB B) (k % 5) (-1)).2) Y fcw_0 ) (cwV 0 hts (goodIn_t (goodIn_x gK_272)) rfl rfl rfl (by decide +kernel) ⟨Nat.le_of_ble_eq_true rfl, Nat.le_of_ble_eq_true rfl⟩) (ltw (by decide)) hfs9 rfl rfl hl.1 rfl (Nat.le_of_ble_eq_true rfl) dL_areShiftsRight_108 ⟨by first | omega | (simp only [rm_L_areShiftsRight, rm_L_ask_5, rm_L_deed_5, rm_L_looks, rm_X6_helpfulShifts0, rm_X6_restore0, rm_X6_save, rm_X6_walkerCount]; omega), by first | omega | (simp only [rm_L_areShiftsRight, rm_L_ask_5, rm_L_deed_5, rm_L_looks, rm_X6_helpfulShifts0, rm_X6_restore0, rm_X6_save, rm_X6_walkerCount]; omega)⟩ (fun σ87 H locs hp88 hH => ?_)
                  obtain ⟨fcw_0, fr89⟩ := hp88
                  refine x_iinc (lv' := [(6, .int (iZ (k + 1))), (5, .int (iZ (mm + 1))), (7, .int (iZ zd)), (4, .int (iZ (loF B))), (3, .int (iZ (hsA B w to))), (0, .ref (xad E 0)), (1, .int (iZ w)), (2, .int (iZ to))]) hx hb dL_areShiftsRight_111 hl (k := 2) rfl (by decide) rfl (fun ls hl => ?_)
                  refine lv_goto (tgt := 38) hx hb dL_areShiftsRight_114 (by decide) ?_
                  exact W.widen (by first | omega | (simp only [rm_L_areShiftsRight, rm_L_ask_5, rm_L_deed_5, rm_L_looks, rm_X6_helpfulShifts0, rm_X6_restore0, rm_X6_save, rm_X6_walkerCount]; omega)) (by first | omega | (simp only [rm_L_areShiftsRight, rm_L_ask_5, rm_L_deed_5, rm_L_looks, rm_X6_helpfulShifts0, rm_X6_restore0, rm_X6_save, rm_X6_walkerCount]; omega)) (ih38 (mm + 1) (k + 1) σ87 _ _ _ (by omega) (by omega) (by rw [smK_s (by omega), ← hmm]; (first | rw [hl_row (by omega) (by first | exact st_p c63 | exact st_m c63)] | rw [hl_col (by omega) (by first | exact st_p c63 | exact st_m c63)]); first | rw [aS_no hnw.1 (by first | exact Or.inl rfl | exact Or.inr rfl) (by first | exact row_mv (by omega) | exact col_mv (by omega)) hzd.1 c81] | rw [aS_far (by first | exact Or.inl rfl | exact Or.inr rfl) (by first | exact row_mv (by omega) | exact col_mv (by omega)) hzd.1 c81 c96] | rw [aS_near (by first | exact Or.inl rfl | exact Or.inr rfl) (by first | exact row_mv (by omega) | exact col_mv (by omega)) hzd.1 c81 c96]) (by omega) fcw_0 (fun j hj0 => ((fr89 j (by omega)).trans ((fr79 j (by omega)).trans ((fr70 j (by omega)).trans (fr18 j (by omega)))))) hH (lv_sub hl [0, 1, 3, 4, 5, 6, 7] rfl))
            · refine x_iconst hx hb dL_areShiftsRight_66 ?_
              refine lv_goto (tgt := 71) hx hb dL_areShiftsRight_67 (by decide) ?_
              refine x_iconst hx hb dL_areShiftsRight_71 ?_
              refine x_cSW (As := [.ref (xad E 0), .int (iZ 5), .int (iZ (k % 5)), .int (iZ 1), .int (iZ 0)]) (rest := []) hx hb hml hts hown hK hST hOK hH (c_L_deed_5 l E ST hSF hSX htr σ17 (k % 5) 1 0 B (some B) Y fcw_0 (by omega) (by omega) (by omega)) (vx_cwSW 5 hts (goodIn_t gK_140) rfl rfl rfl (by decide +kernel) ⟨Nat.le_of_ble_eq_true rfl, Nat.le_of_ble_eq_true rfl⟩) rfl hl.1 rfl (Nat.le_of_ble_eq_true rfl) dL_areShiftsRight_72 ⟨by first | omega | (simp only [rm_L_areShiftsRight, rm_L_deed_5, rm_L_looks, rm_X6_helpfulShifts0, rm_X6_save, rm_X6_walkerCount]; omega), by first | omega | (simp only [rm_L_areShiftsRight, rm_L_deed_5, rm_L_looks, rm_X6_helpfulShifts0, rm_X6_save, rm_X6_walkerCount]; omega)⟩ (fun zd σ91 H locs hp92 hH => ?_)
              obtain ⟨hzd, fcw_0, fr93⟩ := hp92
              refine lv_istore (lv' := [(7, .int (iZ zd)), (6, .int (iZ k)), (5, .int (iZ mm)), (4, .int (iZ (loF B))), (3, .int (iZ (hsA B w to))), (0, .ref (xad E 0)), (1, .int (iZ w)), (2, .int (iZ to))]) hx hb dL_areShiftsRight_75 hl (by decide) rfl (fun ls hl => ?_)
              refine lv_iload hx hb dL_areShiftsRight_77 (lv_at hl 2 rfl) ?_
              refine lv_iload hx hb dL_areShiftsRight_79 (lv_at hl 0 rfl) ?_
              refine x_if_lt (tgt := 103) hx hb dL_areShiftsRight_81 (by decide) (by omega) (fun c81 => ?_) (fun c81 => ?_)
              · refine x_iconst hx hb dL_areShiftsRight_103 ?_
                refine x_iadd hx hb dL_areShiftsRight_104 ?_
                refine lv_istore (lv' := [(5, .int (iZ (mm + 0))), (7, .int (iZ zd)), (6, .int (iZ k)), (4, .int (iZ (loF B))), (3, .int (iZ (hsA B w to))), (0, .ref (xad E 0)), (1, .int (iZ w)), (2, .int (iZ to))]) hx hb dL_areShiftsRight_105 hl (by decide) rfl (fun ls hl => ?_)
                refine lv_aload_n hx hb dL_areShiftsRight_107 rfl (lv_at hl 5 rfl) ?_
                obtain ⟨fs9, hfs9⟩ := fcw_0.o0
                refine x_cVV (As := []) (rest := []) hx hb hml hts hown hK hST hOK hH 0 (q_restore0 l E ST hSF  σ91 B ((colF (opT B) (lkT B) (kpT B) (wcT B) (pnT B) (nwT B) (shB B) (wkB B) (k % 5) 1).2) Y fcw_0 ) (cwV 0 hts (goodIn_t (goodIn_x gK_272)) rfl rfl rfl (by decide +kernel) ⟨Nat.le_of_ble_eq_true rfl, Nat.le_of_ble_eq_true rfl⟩) (ltw (by decide)) hfs9 rfl rfl hl.1 rfl (Nat.le_of_ble_eq_true rfl) dL_areShiftsRight_108 ⟨by first | omega | (simp only [rm_L_areShiftsRight, rm_L_deed_5, rm_L_looks, rm_X6_helpfulShifts0, rm_X6_restore0, rm_X6_save, rm_X6_walkerCount]; omega), by first | omega | (simp only [rm_L_areShiftsRight, rm_L_deed_5, rm_L_looks, rm_X6_helpfulShifts0, rm_X6_restore0, rm_X6_save, rm_X6_walkerCount]; omega)⟩ (fun σ95 H locs hp96 hH => ?_)
                obtain ⟨fcw_0, fr97⟩ := hp96
                refine x_iinc (lv' := [(6, .int (iZ (k + 1))), (5, .int (iZ (mm + 0))), (7, .int (iZ zd)), (4, .int (iZ (loF B))), (3, .int (iZ (hsA B w to))), (0, .ref (xad E 0)), (1, .int (iZ w)), (2, .int (iZ to))]) hx hb dL_areShiftsRight_111 hl (k := 2) rfl (by decide) rfl (fun ls hl => ?_)
                refine lv_goto (tgt := 38) hx hb dL_areShiftsRight_114 (by decide) ?_
                exact W.widen (by first | omega | (simp only [rm_L_areShiftsRight, rm_L_deed_5, rm_L_looks, rm_X6_helpfulShifts0, rm_X6_restore0, rm_X6_save, rm_X6_walkerCount]; omega)) (by first | omega | (simp only [rm_L_areShiftsRight, rm_L_deed_5, rm_L_looks, rm_X6_helpfulShifts0, rm_X6_restore0, rm_X6_save, rm_X6_walkerCount]; omega)) (ih38 (mm + 0) (k + 1) σ95 _ _ _ (by omega) (by omega) (by rw [smK_s (by omega), ← hmm]; (first | rw [hl_row (by omega) (by first | exact st_p c63 | exact st_m c63)] | rw [hl_col (by omega) (by first | exact st_p c63 | exact st_m c63)]); first | rw [aS_no hnw.1 (by first | exact Or.inl rfl | exact Or.inr rfl) (by first | exact row_mv (by omega) | exact col_mv (by omega)) hzd.1 c81] | rw [aS_far (by first | exact Or.inl rfl | exact Or.inr rfl) (by first | exact row_mv (by omega) | exact col_mv (by omega)) hzd.1 c81 c96] | rw [aS_near (by first | exact Or.inl rfl | exact Or.inr rfl) (by first | exact row_mv (by omega) | exact col_mv (by omega)) hzd.1 c81 c96]) (by omega) fcw_0 (fun j hj0 => ((fr97 j (by omega)).trans ((fr93 j (by omega)).trans (fr18 j (by omega))))) hH (lv_sub hl [0, 1, 3, 4, 5, 6, 7] rfl))
              · refine lv_aload_n hx hb dL_areShiftsRight_84 rfl (lv_at hl 5 rfl) ?_
                refine x_iconst hx hb dL_areShiftsRight_85 ?_
                refine lv_iload_n hx hb dL_areShiftsRight_86 rfl (lv_at hl 7 rfl) ?_
                refine x_iconst hx hb dL_areShiftsRight_87 ?_
                refine x_idiv hx hb dL_areShiftsRight_88 (by omega) (by omega) (by omega) (by omega) ?_
                refine lv_iload_n hx hb dL_areShiftsRight_89 rfl (lv_at hl 7 rfl) ?_
                refine x_iconst hx hb dL_areShiftsRight_90 ?_
                refine x_irem hx hb dL_areShiftsRight_91 (by omega) (by omega) (by omega) (by omega) ?_
                refine lv_iload_n hx hb dL_areShiftsRight_92 rfl (lv_at hl 6 rfl) ?_
                refine x_cSW (As := [.ref (xad E 0), .int (iZ 5), .int (iZ (to / 5)), .int (iZ (to % 5)), .int (iZ w)]) (rest := [.int (iZ mm)]) hx hb hml hts hown hK hST hOK hH (c_L_ask_5 l E ST hSF hSX htr σ91 (to / 5) (to % 5) w ((colF (opT B) (lkT B) (kpT B) (wcT B) (pnT B) (nwT B) (shB B) (wkB B) (k % 5) 1).2) (some B) Y fcw_0 (by omega) (by rw [colF_nw]; exact hwb)) (vx_cwSW 5 hts (goodIn_t gK_162) rfl rfl rfl (by decide +kernel) ⟨Nat.le_of_ble_eq_true rfl, Nat.le_of_ble_eq_true rfl⟩) rfl hl.1 rfl (Nat.le_of_ble_eq_true rfl) dL_areShiftsRight_93 ⟨by first | omega | (simp only [rm_L_areShiftsRight, rm_L_ask_5, rm_L_deed_5, rm_L_looks, rm_X6_helpfulShifts0, rm_X6_save, rm_X6_walkerCount]; omega), by first | omega | (simp only [rm_L_areShiftsRight, rm_L_ask_5, rm_L_deed_5, rm_L_looks, rm_X6_helpfulShifts0, rm_X6_save, rm_X6_walkerCount]; omega)⟩ (fun z99 σ100 H locs hp101 hH => ?_)
                obtain ⟨hq9, hp101⟩ := hp101
                subst hq9
                obtain ⟨fcw_0, fr102⟩ := hp101
                rw [show to / 5 * 5 + to % 5 = to by omega]
                have hdz9 := aDz_rg (dz_rg (G := Gw (opT ((colF (opT B) (lkT B) (kpT B) (wcT B) (pnT B) (nwT B) (shB B) (wkB B) (k % 5) 1).2)) (lkT ((colF (opT B) (lkT B) (kpT B) (wcT B) (pnT B) (nwT B) (shB B) (wkB B) (k % 5) 1).2)) (kpT ((colF (opT B) (lkT B) (kpT B) (wcT B) (pnT B) (nwT B) (shB B) (wkB B) (k % 5) 1).2)) w) (st := wcT ((colF (opT B) (lkT B) (kpT B) (wcT B) (pnT B) (nwT B) (shB B) (wkB B) (k % 5) 1).2) w) Gw_ok (fcw_0.bit.2.2.2.1 w) to)
                refine x_if_lt (tgt := 103) hx hb dL_areShiftsRight_96 (by decide) (by omega) (fun c96 => ?_) (fun c96 => ?_)
                · refine x_iconst hx hb dL_areShiftsRight_103 ?_
                  refine x_iadd hx hb dL_areShiftsRight_104 ?_
                  refine lv_istore (lv' := [(5, .int (iZ (mm + 0))), (7, .int (iZ zd)), (6, .int (iZ k)), (4, .int (iZ (loF B))), (3, .int (iZ (hsA B w to))), (0, .ref (xad E 0)), (1, .int (iZ w)), (2, .int (iZ to))]) hx hb dL_areShiftsRight_105 hl (by decide) rfl (fun ls hl => ?_)
                  refine lv_aload_n hx hb dL_areShiftsRight_107 rfl (lv_at hl 5 rfl) ?_
                  obtain ⟨fs9, hfs9⟩ := fcw_0.o0
                  refine x_cVV (As := []) (rest := []) hx hb hml hts hown hK hST hOK hH 0 (q_restore0 l E ST hSF  σ100 B ((colF (opT B) (lkT B) (kpT B) (wcT B) (pnT B) (nwT B) (shB B) (wkB B) (k % 5) 1).2) Y fcw_0 ) (cwV 0 hts (goodIn_t (goodIn_x gK_272)) rfl rfl rfl (by decide +kernel) ⟨Nat.le_of_ble_eq_true rfl, Nat.le_of_ble_eq_true rfl⟩) (ltw (by decide)) hfs9 rfl rfl hl.1 rfl (Nat.le_of_ble_eq_true rfl) dL_areShiftsRight_108 ⟨by first | omega | (simp only [rm_L_areShiftsRight, rm_L_ask_5, rm_L_deed_5, rm_L_looks, rm_X6_helpfulShifts0, rm_X6_restore0, rm_X6_save, rm_X6_walkerCount]; omega), by first | omega | (simp only [rm_L_areShiftsRight, rm_L_ask_5, rm_L_deed_5, rm_L_looks, rm_X6_helpfulShifts0, rm_X6_restore0, rm_X6_save, rm_X6_walkerCount]; omega)⟩ (fun σ105 H locs hp106 hH => ?_)
                  obtain ⟨fcw_0, fr107⟩ := hp106
                  refine x_iinc (lv' := [(6, .int (iZ (k + 1))), (5, .int (iZ (mm + 0))), (7, .int (iZ zd)), (4, .int (iZ (loF B))), (3, .int (iZ (hsA B w to))), (0, .ref (xad E 0)), (1, .int (iZ w)), (2, .int (iZ to))]) hx hb dL_areShiftsRight_111 hl (k := 2) rfl (by decide) rfl (fun ls hl => ?_)
                  refine lv_goto (tgt := 38) hx hb dL_areShiftsRight_114 (by decide) ?_
                  exact W.widen (by first | omega | (simp only [rm_L_areShiftsRight, rm_L_ask_5, rm_L_deed_5, rm_L_looks, rm_X6_helpfulShifts0, rm_X6_restore0, rm_X6_save, rm_X6_walkerCount]; omega)) (by first | omega | (simp only [rm_L_areShiftsRight, rm_L_ask_5, rm_L_deed_5, rm_L_looks, rm_X6_helpfulShifts0, rm_X6_restore0, rm_X6_save, rm_X6_walkerCount]; omega)) (ih38 (mm + 0) (k + 1) σ105 _ _ _ (by omega) (by omega) (by rw [smK_s (by omega), ← hmm]; (first | rw [hl_row (by omega) (by first | exact st_p c63 | exact st_m c63)] | rw [hl_col (by omega) (by first | exact st_p c63 | exact st_m c63)]); first | rw [aS_no hnw.1 (by first | exact Or.inl rfl | exact Or.inr rfl) (by first | exact row_mv (by omega) | exact col_mv (by omega)) hzd.1 c81] | rw [aS_far (by first | exact Or.inl rfl | exact Or.inr rfl) (by first | exact row_mv (by omega) | exact col_mv (by omega)) hzd.1 c81 c96] | rw [aS_near (by first | exact Or.inl rfl | exact Or.inr rfl) (by first | exact row_mv (by omega) | exact col_mv (by omega)) hzd.1 c81 c96]) (by omega) fcw_0 (fun j hj0 => ((fr107 j (by omega)).trans ((fr102 j (by omega)).trans ((fr93 j (by omega)).trans (fr18 j (by omega)))))) hH (lv_sub hl [0, 1, 3, 4, 5, 6, 7] rfl))
                · refine x_iconst hx hb dL_areShiftsRight_99 ?_
                  refine lv_goto (tgt := 104) hx hb dL_areShiftsRight_100 (by decide) ?_
                  refine x_iadd hx hb dL_areShiftsRight_104 ?_
                  refine lv_istore (lv' := [(5, .int (iZ (mm + 1))), (7, .int (iZ zd)), (6, .int (iZ k)), (4, .int (iZ (loF B))), (3, .int (iZ (hsA B w to))), (0, .ref (xad E 0)), (1, .int (iZ w)), (2, .int (iZ to))]) hx hb dL_areShiftsRight_105 hl (by decide) rfl (fun ls hl => ?_)
                  refine lv_aload_n hx hb dL_areShiftsRight_107 rfl (lv_at hl 5 rfl) ?_
                  obtain ⟨fs9, hfs9⟩ := fcw_0.o0
                  refine x_cVV (As := []) (rest := []) hx hb hml hts hown hK hST hOK hH 0 (q_restore0 l E ST hSF  σ100 B ((colF (opT B) (lkT B) (kpT B) (wcT B) (pnT B) (nwT B) (shB B) (wkB B) (k % 5) 1).2) Y fcw_0 ) (cwV 0 hts (goodIn_t (goodIn_x gK_272)) rfl rfl rfl (by decide +kernel) ⟨Nat.le_of_ble_eq_true rfl, Nat.le_of_ble_eq_true rfl⟩) (ltw (by decide)) hfs9 rfl rfl hl.1 rfl (Nat.le_of_ble_eq_true rfl) dL_areShiftsRight_108 ⟨by first | omega | (simp only [rm_L_areShiftsRight, rm_L_ask_5, rm_L_deed_5, rm_L_looks, rm_X6_helpfulShifts0, rm_X6_restore0, rm_X6_save, rm_X6_walkerCount]; omega), by first | omega | (simp only [rm_L_areShiftsRight, rm_L_ask_5, rm_L_deed_5, rm_L_looks, rm_X6_helpfulShifts0, rm_X6_restore0, rm_X6_save, rm_X6_walkerCount]; omega)⟩ (fun σ110 H locs hp111 hH => ?_)
                  obtain ⟨fcw_0, fr112⟩ := hp111
                  refine x_iinc (lv' := [(6, .int (iZ (k + 1))), (5, .int (iZ (mm + 1))), (7, .int (iZ zd)), (4, .int (iZ (loF B))), (3, .int (iZ (hsA B w to))), (0, .ref (xad E 0)), (1, .int (iZ w)), (2, .int (iZ to))]) hx hb dL_areShiftsRight_111 hl (k := 2) rfl (by decide) rfl (fun ls hl => ?_)
                  refine lv_goto (tgt := 38) hx hb dL_areShiftsRight_114 (by decide) ?_
                  exact W.widen (by first | omega | (simp only [rm_L_areShiftsRight, rm_L_ask_5, rm_L_deed_5, rm_L_looks, rm_X6_helpfulShifts0, rm_X6_restore0, rm_X6_save, rm_X6_walkerCount]; omega)) (by first | omega | (simp only [rm_L_areShiftsRight, rm_L_ask_5, rm_L_deed_5, rm_L_looks, rm_X6_helpfulShifts0, rm_X6_restore0, rm_X6_save, rm_X6_walkerCount]; omega)) (ih38 (mm + 1) (k + 1) σ110 _ _ _ (by omega) (by omega) (by rw [smK_s (by omega), ← hmm]; (first | rw [hl_row (by omega) (by first | exact st_p c63 | exact st_m c63)] | rw [hl_col (by omega) (by first | exact st_p c63 | exact st_m c63)]); first | rw [aS_no hnw.1 (by first | exact Or.inl rfl | exact Or.inr rfl) (by first | exact row_mv (by omega) | exact col_mv (by omega)) hzd.1 c81] | rw [aS_far (by first | exact Or.inl rfl | exact Or.inr rfl) (by first | exact row_mv (by omega) | exact col_mv (by omega)) hzd.1 c81 c96] | rw [aS_near (by first | exact Or.inl rfl | exact Or.inr rfl) (by first | exact row_mv (by omega) | exact col_mv (by omega)) hzd.1 c81 c96]) (by omega) fcw_0 (fun j hj0 => ((fr112 j (by omega)).trans ((fr102 j (by omega)).trans ((fr93 j (by omega)).trans (fr18 j (by omega)))))) hH (lv_sub hl [0, 1, 3, 4, 5, 6, 7] rfl))
    exact W.widen (by first | omega | (simp only [rm_L_areShiftsRight, rm_L_looks, rm_X6_helpfulShifts0, rm_X6_save, rm_X6_walkerCount]; omega)) (by first | omega | (simp only [rm_L_areShiftsRight, rm_L_looks, rm_X6_helpfulShifts0, rm_X6_save, rm_X6_walkerCount]; omega)) (K38 21 0 0 σ13 _ _ _ (by first | omega | decide) (by omega) (by rfl) (by omega) fcw_0 (fun j _ => rfl) hH (lv_sub hl [0, 1, 2, 3, 4, 5, 6] rfl))
  · refine x_iconst hx hb dL_areShiftsRight_8 ?_
    subst hQ
    exact x_zret (b := true) hx hb hr hlocks hH (Nat.le_of_ble_eq_true rfl) (Nat.le_of_ble_eq_true rfl) ⟨congrArg b2 (show true = true from (by rfl)), ⟨S, fcw_0⟩, fun j hj0 => rfl⟩ dL_areShiftsRight_9
