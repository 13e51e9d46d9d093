def rm_L_looks : Room := { frames := 10, cells := 37, slots := 222, locals := 182 }
set_option maxRecDepth 100000 in
set_option maxHeartbeats 4000000 in
theorem c_L_looks (l : Launch) (E : xE) (ST : xST) (hSF : SF ST) (hSX : SX ST) (htr : l.stackTraces = false) (σ : xW) (B : BT) (S : Option BT) (Y : lnQ) (hr0 : cw E σ B S Y) : CI l E ST yL_looks wML_looks rm_L_looks [.ref (xad E 0)] σ (fun (z : Int) (u : xW) => z = loF B ∧ u = σ) := by
  have fcw_0 : cw E σ B S Y := hr0
  refine CI_of (by decide) rfl (Nat.le_of_ble_eq_true rfl) ?_
  intro p e s m args below meth c Q ls G hH hl hQ
  obtain ⟨hx, hb, hml, hown, hts, hK, hST, hlocks, hr, hno⟩ := G
  have hOK := hSF.1
  have hown : s.vm.findClass RL = some m.cls := hown
  have hl : lv_has ls 3 [(0, .ref (xad E 0))] := hl
  obtain ⟨hop, hlk9, hkp, hwc9, hpn, hnw⟩ : BI (opT B) (lkT B) (kpT B) (wcT B) (pnT B) (nwT B) := fcw_0.bit
  refine x_bipush hx hb dL_looks_0 (by decide) ?_
  refine x_bipush hx hb dL_looks_2 (by decide) ?_
  refine lv_aload_n hx hb dL_looks_4 rfl (lv_at hl 0 rfl) ?_
  obtain ⟨fs9, hfs9⟩ := fcw_0.o0
  refine x_cVID (As := []) (rest := [.int (iZ 31), .int (iZ 31)]) hx hb hml hts hown hK hST hOK hH 0 (q_walkerCount l E ST hSF σ B S Y fcw_0 ) (cwV 0 hts (goodIn_t (goodIn_x gK_143)) rfl rfl rfl (by decide +kernel) ⟨Nat.le_of_ble_eq_true rfl, Nat.le_of_ble_eq_true rfl⟩) (ltw (by decide)) hfs9 rfl rfl hl.1 rfl (Nat.le_of_ble_eq_true rfl) dL_looks_5 ⟨Nat.le_of_ble_eq_true rfl, Nat.le_of_ble_eq_true rfl⟩ (fun z u h => h) (fun H locs hH => ?_)
  refine x_imul hx hb dL_looks_8 ?_
  refine lv_aload_n hx hb dL_looks_9 rfl (lv_at hl 0 rfl) ?_
  obtain ⟨fs9, hfs9⟩ := fcw_0.o0
  refine x_cVID (As := []) (rest := [.int (iZ (31 * (nwT B))), .int (iZ 31)]) hx hb hml hts hown hK hST hOK hH 0 (q_shiftCount l E ST hSF σ B S Y fcw_0 ) (cwV 0 hts (goodIn_t (goodIn_x gK_151)) rfl rfl rfl (by decide +kernel) ⟨Nat.le_of_ble_eq_true rfl, Nat.le_of_ble_eq_true rfl⟩) (ltw (by decide)) hfs9 rfl rfl hl.1 rfl (Nat.le_of_ble_eq_true rfl) dL_looks_10 ⟨Nat.le_of_ble_eq_true rfl, Nat.le_of_ble_eq_true rfl⟩ (fun z u h => h) (fun H locs hH => ?_)
  refine x_iadd hx hb dL_looks_13 ?_
  refine x_imul hx hb dL_looks_14 ?_
  refine lv_aload_n hx hb dL_looks_15 rfl (lv_at hl 0 rfl) ?_
  obtain ⟨fs9, hfs9⟩ := fcw_0.o0
  refine x_cVL (As := []) (rest := [.int (iZ (31 * ((31 * (nwT B)) + (shB B))))]) hx hb hml hts hown hK hST hOK hH 0 (q_walkedTotal l E ST hSF σ B S Y fcw_0 ) (cwV 0 hts (goodIn_t (goodIn_x gK_154)) rfl rfl rfl (by decide +kernel) ⟨Nat.le_of_ble_eq_true rfl, Nat.le_of_ble_eq_true rfl⟩) (ltw (by decide)) hfs9 rfl rfl hl.1 rfl (Nat.le_of_ble_eq_true rfl) dL_looks_16 ⟨Nat.le_of_ble_eq_true rfl, Nat.le_of_ble_eq_true rfl⟩ (fun z7 σ8 H locs hp9 hH => ?_)
  obtain ⟨hq9, hu10⟩ := hp9
  subst hq9
  rw [hu10] at hH
  refine x_l2i hx hb dL_looks_19 ?_
  refine x_iadd hx hb dL_looks_20 ?_
  refine lv_istore_n (lv' := [(1, .int (iZ ((31 * ((31 * (nwT B)) + (shB B))) + (l2Z (lZ (wkB B)))))), (0, .ref (xad E 0))]) hx hb dL_looks_21 rfl hl (by decide) rfl (fun ls hl => ?_)
  refine x_iconst hx hb dL_looks_22 ?_
  refine lv_istore_n (lv' := [(2, .int (iZ 0)), (1, .int (iZ ((31 * ((31 * (nwT B)) + (shB B))) + (l2Z (lZ (wkB B)))))), (0, .ref (xad E 0))]) hx hb dL_looks_23 rfl hl (by decide) rfl (fun ls hl => ?_)
  have K24 : ∀ (nK : Nat) (x k : Int) (H : Heap) (locs : List Loc) (ls : Array Slot), (25 - k).toNat < nK → (0 ≤ k ∧ k ≤ 25) → (x = loAK B k) → Hx E (xA E s.heap.size) s.heap σ H locs → lv_has ls 3 [(2, .int (iZ k)), (1, .int (iZ x)), (0, .ref (xad E 0))] → W p l e rm_L_looks s m args below meth c H locs (0 + 1 * (k).toNat) (0 + 6 * (k).toNat) Q (F0 m 24 ls []) := by
    intro n24
    induction n24 with
    | zero =>
      intro x k H locs ls hm
      exact absurd hm (by first | exact Nat.not_lt_zero _ | omega)
    | succ n24 ih24 =>
      intro x k H locs ls hm24 hk hxv  hH hl
      refine lv_iload_n hx hb dL_looks_24 rfl (lv_at hl 0 rfl) ?_
      refine x_bipush hx hb dL_looks_25 (by decide) ?_
      refine x_icmp_ge (tgt := 85) hx hb dL_looks_27 (by decide) (by omega) (by decide) (fun c27 => ?_) (fun c27 => ?_)
      · refine x_iconst hx hb dL_looks_85 ?_
        refine lv_istore_n (lv' := [(2, .int (iZ 0)), (1, .int (iZ x)), (0, .ref (xad E 0))]) hx hb dL_looks_86 rfl hl (by decide) rfl (fun ls hl => ?_)
        have K87 : ∀ (nK : Nat) (x2 k2 : Int) (H : Heap) (locs : List Loc) (ls : Array Slot), (6 - k2).toNat < nK → (0 ≤ k2 ∧ k2 ≤ 6) → (x2 = loBK B k2) → Hx E (xA E s.heap.size) s.heap σ H locs → lv_has ls 3 [(2, .int (iZ k2)), (1, .int (iZ x2)), (0, .ref (xad E 0))] → W p l e rm_L_looks s m args below meth c H locs ((0 + 1 * (k).toNat) + 2 * (k2).toNat) ((0 + 6 * (k).toNat) + 12 * (k2).toNat) Q (F0 m 87 ls []) := by
          intro n87
          induction n87 with
          | zero =>
            intro x2 k2 H locs ls hm
            exact absurd hm (by first | exact Nat.not_lt_zero _ | omega)
          | succ n87 ih87 =>
            intro x2 k2 H locs ls hm87 hk2 hxv2  hH hl
            refine lv_iload_n hx hb dL_looks_87 rfl (lv_at hl 0 rfl) ?_
            refine x_bipush hx hb dL_looks_88 (by decide) ?_
            refine x_icmp_ge (tgt := 125) hx hb dL_looks_90 (by decide) (by omega) (by decide) (fun c90 => ?_) (fun c90 => ?_)
            · refine x_iconst hx hb dL_looks_125 ?_
              refine lv_istore_n (lv' := [(2, .int (iZ 0)), (1, .int (iZ x2)), (0, .ref (xad E 0))]) hx hb dL_looks_126 rfl hl (by decide) rfl (fun ls hl => ?_)
              have K127 : ∀ (nK : Nat) (x3 k3 : Int) (H : Heap) (locs : List Loc) (ls : Array Slot), (nwT B - k3).toNat < nK → (0 ≤ k3 ∧ k3 ≤ nwT B) → (x3 = loCK B k3) → Hx E (xA E s.heap.size) s.heap σ H locs → lv_has ls 3 [(2, .int (iZ k3)), (1, .int (iZ x3)), (0, .ref (xad E 0))] → W p l e rm_L_looks s m args below meth c H locs ((0 + 1 * (k).toNat) + 2 * (k2).toNat) ((0 + 6 * (k).toNat) + 12 * (k2).toNat) Q (F0 m 127 ls []) := by
                intro n127
                induction n127 with
                | zero =>
                  intro x3 k3 H locs ls hm
                  exact absurd hm (by first | exact Nat.not_lt_zero _ | omega)
                | succ n127 ih127 =>
                  intro x3 k3 H locs ls hm127 hk3 hxv3  hH hl
                  refine lv_iload_n hx hb dL_looks_127 rfl (lv_at hl 0 rfl) ?_
                  refine lv_aload_n hx hb dL_looks_128 rfl (lv_at hl 2 rfl) ?_
                  obtain ⟨fs9, hfs9⟩ := fcw_0.o0
                  refine x_cVID (As := []) (rest := [.int (iZ k3)]) hx hb hml hts hown hK hST hOK hH 0 (q_walkerCount l E ST hSF σ B S Y fcw_0 ) (cwV 0 hts (goodIn_t (goodIn_x gK_143)) rfl rfl rfl (by decide +kernel) ⟨Nat.le_of_ble_eq_true rfl, Nat.le_of_ble_eq_true rfl⟩) (ltw (by decide)) hfs9 rfl rfl hl.1 rfl (Nat.le_of_ble_eq_true rfl) dL_looks_129 ⟨by first | omega | (simp only [rm_L_looks, rm_X6_shiftCount, rm_X6_walkedTotal, rm_X6_walkerCount]; omega), by first | omega | (simp only [rm_L_looks, rm_X6_shiftCount, rm_X6_walkedTotal, rm_X6_walkerCount]; omega)⟩ (fun z u h => h) (fun H locs hH => ?_)
                  refine x_icmp_ge (tgt := 161) hx hb dL_looks_132 (by decide) (by omega) (by omega) (fun c132 => ?_) (fun c132 => ?_)
                  · refine lv_iload_n hx hb dL_looks_161 rfl (lv_at hl 1 rfl) ?_
                    rw [show iZ x3 = iZ (iZ x3).toInt from (iZ_self _).symm]
                    subst hQ
                    exact x_iret hx hb hr hlocks hH (by first | omega | (simp only [rm_L_looks, rm_X6_shiftCount, rm_X6_walkedTotal, rm_X6_walkerCount]; omega)) (by first | omega | (simp only [rm_L_looks, rm_X6_shiftCount, rm_X6_walkedTotal, rm_X6_walkerCount]; omega)) ⟨(show ((iZ x3).toInt) = (loF B) from (by have e9 : k3 = nwT B := (by omega); subst e9; rw [hxv3]; rfl)), rfl⟩ dL_looks_162
                  · refine x_bipush hx hb dL_looks_135 (by decide) ?_
                    refine x_bipush hx hb dL_looks_137 (by decide) ?_
                    refine lv_iload_n hx hb dL_looks_139 rfl (lv_at hl 1 rfl) ?_
                    refine x_imul hx hb dL_looks_140 ?_
                    refine lv_aload_n hx hb dL_looks_141 rfl (lv_at hl 2 rfl) ?_
                    refine lv_iload_n hx hb dL_looks_142 rfl (lv_at hl 0 rfl) ?_
                    obtain ⟨fs9, hfs9⟩ := fcw_0.o0
                    refine x_cVID (As := [.int (iZ k3)]) (rest := [.int (iZ (31 * x3)), .int (iZ 31)]) hx hb hml hts hown hK hST hOK hH 0 (q_walkerRow0 l E ST hSF σ k3 B S Y fcw_0 (by omega) (by omega)) (cwV 1 hts (goodIn_t (goodIn_x gK_165)) rfl rfl rfl (by decide +kernel) ⟨Nat.le_of_ble_eq_true rfl, Nat.le_of_ble_eq_true rfl⟩) (ltw (by decide)) hfs9 rfl rfl hl.1 rfl (Nat.le_of_ble_eq_true rfl) dL_looks_143 ⟨by first | omega | (simp only [rm_L_looks, rm_X6_shiftCount, rm_X6_walkedTotal, rm_X6_walkerCount, rm_X6_walkerRow0]; omega), by first | omega | (simp only [rm_L_looks, rm_X6_shiftCount, rm_X6_walkedTotal, rm_X6_walkerCount, rm_X6_walkerRow0]; omega)⟩ (fun z u h => h) (fun H locs hH => ?_)
                    refine x_iadd hx hb dL_looks_146 ?_
                    refine x_imul hx hb dL_looks_147 ?_
                    refine lv_aload_n hx hb dL_looks_148 rfl (lv_at hl 2 rfl) ?_
                    refine lv_iload_n hx hb dL_looks_149 rfl (lv_at hl 0 rfl) ?_
                    obtain ⟨fs9, hfs9⟩ := fcw_0.o0
                    refine x_cVID (As := [.int (iZ k3)]) (rest := [.int (iZ (31 * ((31 * x3) + ((wcT B) k3 / 5))))]) hx hb hml hts hown hK hST hOK hH 0 (q_walkerColumn0 l E ST hSF σ k3 B S Y fcw_0 (by omega) (by omega)) (cwV 1 hts (goodIn_t (goodIn_x gK_168)) rfl rfl rfl (by decide +kernel) ⟨Nat.le_of_ble_eq_true rfl, Nat.le_of_ble_eq_true rfl⟩) (ltw (by decide)) hfs9 rfl rfl hl.1 rfl (Nat.le_of_ble_eq_true rfl) dL_looks_150 ⟨by first | omega | (simp only [rm_L_looks, rm_X6_shiftCount, rm_X6_walkedTotal, rm_X6_walkerColumn0, rm_X6_walkerCount, rm_X6_walkerRow0]; omega), by first | omega | (simp only [rm_L_looks, rm_X6_shiftCount, rm_X6_walkedTotal, rm_X6_walkerColumn0, rm_X6_walkerCount, rm_X6_walkerRow0]; omega)⟩ (fun z u h => h) (fun H locs hH => ?_)
                    refine x_iadd hx hb dL_looks_153 ?_
                    refine lv_istore_n (lv' := [(1, .int (iZ ((31 * ((31 * x3) + ((wcT B) k3 / 5))) + ((wcT B) k3 % 5)))), (2, .int (iZ k3)), (0, .ref (xad E 0))]) hx hb dL_looks_154 rfl hl (by decide) rfl (fun ls hl => ?_)
                    refine x_iinc (lv' := [(2, .int (iZ (k3 + 1))), (1, .int (iZ ((31 * ((31 * x3) + ((wcT B) k3 / 5))) + ((wcT B) k3 % 5)))), (0, .ref (xad E 0))]) hx hb dL_looks_155 hl (k := 1) rfl (by decide) rfl (fun ls hl => ?_)
                    refine lv_goto (tgt := 127) hx hb dL_looks_158 (by decide) ?_
                    exact ih127 ((31 * ((31 * x3) + ((wcT B) k3 / 5))) + ((wcT B) k3 % 5)) (k3 + 1) _ _ _ (by omega) (by omega) (by rw [loCK_s (by omega), ← hxv3])  hH (lv_sub hl [0, 1, 2] rfl)
              exact K127 4 x2 0 _ _ _ (by first | omega | decide) (by omega) (by have e9 : k2 = 6 := (by omega); subst e9; exact hxv2)  hH (lv_sub hl [0, 1, 2] rfl)
            · refine x_bipush hx hb dL_looks_93 (by decide) ?_
              refine x_bipush hx hb dL_looks_95 (by decide) ?_
              refine lv_iload_n hx hb dL_looks_97 rfl (lv_at hl 1 rfl) ?_
              refine x_imul hx hb dL_looks_98 ?_
              refine lv_aload_n hx hb dL_looks_99 rfl (lv_at hl 2 rfl) ?_
              refine x_iconst hx hb dL_looks_100 ?_
              refine lv_iload_n hx hb dL_looks_101 rfl (lv_at hl 0 rfl) ?_
              refine x_iconst hx hb dL_looks_102 ?_
              refine x_iconst hx hb dL_looks_103 ?_
              refine x_cSW (As := [.ref (xad E 0), .int (iZ 3), .int (iZ k2), .int (iZ 0), .int (iZ 0)]) (rest := [.int (iZ (31 * x2)), .int (iZ 31)]) hx hb hml hts hown hK hST hOK hH (c_L_ask_3 l E ST hSF hSX htr σ k2 0 0 B S Y fcw_0 (by omega)) (vx_cwSW 5 hts (goodIn_t gK_162) rfl rfl rfl (by decide +kernel) ⟨Nat.le_of_ble_eq_true rfl, Nat.le_of_ble_eq_true rfl⟩) rfl hl.1 rfl (Nat.le_of_ble_eq_true rfl) dL_looks_104 ⟨by first | omega | (simp only [rm_L_ask_3, rm_L_looks, rm_X6_shiftCount, rm_X6_walkedTotal, rm_X6_walkerCount]; omega), by first | omega | (simp only [rm_L_ask_3, rm_L_looks, rm_X6_shiftCount, rm_X6_walkedTotal, rm_X6_walkerCount]; omega)⟩ (fun z23 σ24 H locs hp25 hH => ?_)
              obtain ⟨hq9, hu9⟩ := hp25
              subst hq9
              rw [hu9] at hH
              refine x_iadd hx hb dL_looks_107 ?_
              refine x_imul hx hb dL_looks_108 ?_
              refine lv_aload_n hx hb dL_looks_109 rfl (lv_at hl 2 rfl) ?_
              refine x_iconst hx hb dL_looks_110 ?_
              refine lv_iload_n hx hb dL_looks_111 rfl (lv_at hl 0 rfl) ?_
              refine x_iconst hx hb dL_looks_112 ?_
              refine x_iconst hx hb dL_looks_113 ?_
              refine x_cSW (As := [.ref (xad E 0), .int (iZ 4), .int (iZ k2), .int (iZ 0), .int (iZ 0)]) (rest := [.int (iZ (31 * ((31 * x2) + (aKp (kpT B) k2))))]) hx hb hml hts hown hK hST hOK hH (c_L_ask_4 l E ST hSF hSX htr σ k2 0 0 B S Y fcw_0 (by omega)) (vx_cwSW 5 hts (goodIn_t gK_162) rfl rfl rfl (by decide +kernel) ⟨Nat.le_of_ble_eq_true rfl, Nat.le_of_ble_eq_true rfl⟩) rfl hl.1 rfl (Nat.le_of_ble_eq_true rfl) dL_looks_114 ⟨by first | omega | (simp only [rm_L_ask_3, rm_L_ask_4, rm_L_looks, rm_X6_shiftCount, rm_X6_walkedTotal, rm_X6_walkerCount]; omega), by first | omega | (simp only [rm_L_ask_3, rm_L_ask_4, rm_L_looks, rm_X6_shiftCount, rm_X6_walkedTotal, rm_X6_walkerCount]; omega)⟩ (fun z26 σ27 H locs hp28 hH => ?_)
              obtain ⟨hq9, hu9⟩ := hp28
              subst hq9
              rw [hu9] at hH
              refine x_iadd hx hb dL_looks_117 ?_
              refine lv_istore_n (lv' := [(1, .int (iZ ((31 * ((31 * x2) + (aKp (kpT B) k2))) + (aCa (kpT B) k2)))), (2, .int (iZ k2)), (0, .ref (xad E 0))]) hx hb dL_looks_118 rfl hl (by decide) rfl (fun ls hl => ?_)
              refine x_iinc (lv' := [(2, .int (iZ (k2 + 1))), (1, .int (iZ ((31 * ((31 * x2) + (aKp (kpT B) k2))) + (aCa (kpT B) k2)))), (0, .ref (xad E 0))]) hx hb dL_looks_119 hl (k := 1) rfl (by decide) rfl (fun ls hl => ?_)
              refine lv_goto (tgt := 87) hx hb dL_looks_122 (by decide) ?_
              exact W.widen (by first | omega | (simp only [rm_L_ask_3, rm_L_ask_4, rm_L_looks, rm_X6_shiftCount, rm_X6_walkedTotal, rm_X6_walkerCount]; omega)) (by first | omega | (simp only [rm_L_ask_3, rm_L_ask_4, rm_L_looks, rm_X6_shiftCount, rm_X6_walkedTotal, rm_X6_walkerCount]; omega)) (ih87 ((31 * ((31 * x2) + (aKp (kpT B) k2))) + (aCa (kpT B) k2)) (k2 + 1) _ _ _ (by omega) (by omega) (by rw [loBK_s (by omega), ← hxv2])  hH (lv_sub hl [0, 1, 2] rfl))
        exact W.widen (by first | omega | (simp only [rm_L_looks, rm_X6_shiftCount, rm_X6_walkedTotal, rm_X6_walkerCount]; omega)) (by first | omega | (simp only [rm_L_looks, rm_X6_shiftCount, rm_X6_walkedTotal, rm_X6_walkerCount]; omega)) (K87 7 x 0 _ _ _ (by first | omega | decide) (by omega) (by have e9 : k = 25 := (by omega); subst e9; exact hxv)  hH (lv_sub hl [0, 1, 2] rfl))
      · refine x_bipush hx hb dL_looks_30 (by decide) ?_
        refine x_bipush hx hb dL_looks_32 (by decide) ?_
        refine x_bipush hx hb dL_looks_34 (by decide) ?_
        refine lv_iload_n hx hb dL_looks_36 rfl (lv_at hl 1 rfl) ?_
        refine x_imul hx hb dL_looks_37 ?_
        refine lv_aload_n hx hb dL_looks_38 rfl (lv_at hl 2 rfl) ?_
        refine lv_iload_n hx hb dL_looks_39 rfl (lv_at hl 0 rfl) ?_
        refine x_iconst hx hb dL_looks_40 ?_
        refine x_idiv hx hb dL_looks_41 (by omega) (by omega) (by omega) (by omega) ?_
        refine lv_iload_n hx hb dL_looks_42 rfl (lv_at hl 0 rfl) ?_
        refine x_iconst hx hb dL_looks_43 ?_
        refine x_irem hx hb dL_looks_44 (by omega) (by omega) (by omega) (by omega) ?_
        obtain ⟨fs9, hfs9⟩ := fcw_0.o0
        refine x_cVID (As := [.int (iZ (k / 5)), .int (iZ (k % 5))]) (rest := [.int (iZ (31 * x)), .int (iZ 31), .int (iZ 31)]) hx hb hml hts hown hK hST hOK hH 0 (q_openings0 l E ST hSF σ (k / 5) (k % 5) B S Y fcw_0 (by omega) (by omega) (by omega)) (cwV 2 hts (goodIn_t (goodIn_x gK_73)) rfl rfl rfl (by decide +kernel) ⟨Nat.le_of_ble_eq_true rfl, Nat.le_of_ble_eq_true rfl⟩) (ltw (by decide)) hfs9 rfl rfl hl.1 rfl (Nat.le_of_ble_eq_true rfl) dL_looks_45 ⟨by first | omega | (simp only [rm_L_looks, rm_X6_openings0, rm_X6_shiftCount, rm_X6_walkedTotal, rm_X6_walkerCount]; omega), by first | omega | (simp only [rm_L_looks, rm_X6_openings0, rm_X6_shiftCount, rm_X6_walkedTotal, rm_X6_walkerCount]; omega)⟩ (fun z u h => h) (fun H locs hH => ?_)
        rw [show k / 5 * 5 + k % 5 = k by omega]
        refine x_iadd hx hb dL_looks_48 ?_
        refine x_imul hx hb dL_looks_49 ?_
        refine lv_aload_n hx hb dL_looks_50 rfl (lv_at hl 2 rfl) ?_
        refine lv_iload_n hx hb dL_looks_51 rfl (lv_at hl 0 rfl) ?_
        refine x_iconst hx hb dL_looks_52 ?_
        refine x_idiv hx hb dL_looks_53 (by omega) (by omega) (by omega) (by omega) ?_
        refine lv_iload_n hx hb dL_looks_54 rfl (lv_at hl 0 rfl) ?_
        refine x_iconst hx hb dL_looks_55 ?_
        refine x_irem hx hb dL_looks_56 (by omega) (by omega) (by omega) (by omega) ?_
        obtain ⟨fs9, hfs9⟩ := fcw_0.o0
        refine x_cVID (As := [.int (iZ (k / 5)), .int (iZ (k % 5))]) (rest := [.int (iZ (31 * ((31 * x) + (opT B k)))), .int (iZ 31)]) hx hb hml hts hown hK hST hOK hH 0 (q_isPinned0 l E ST hSF σ (k / 5) (k % 5) B S Y fcw_0 (by omega) (by omega) (by omega)) (cwV 2 hts (goodIn_t (goodIn_x gK_158)) rfl rfl rfl (by decide +kernel) ⟨Nat.le_of_ble_eq_true rfl, Nat.le_of_ble_eq_true rfl⟩) (ltw (by decide)) hfs9 rfl rfl hl.1 rfl (Nat.le_of_ble_eq_true rfl) dL_looks_57 ⟨by first | omega | (simp only [rm_L_looks, rm_X6_isPinned0, rm_X6_openings0, rm_X6_shiftCount, rm_X6_walkedTotal, rm_X6_walkerCount]; omega), by first | omega | (simp only [rm_L_looks, rm_X6_isPinned0, rm_X6_openings0, rm_X6_shiftCount, rm_X6_walkedTotal, rm_X6_walkerCount]; omega)⟩ (fun z u h => h) (fun H locs hH => ?_)
        rw [show k / 5 * 5 + k % 5 = k by omega]
        refine x_cSID (As := [.int (iZ (b2 (decide (iandZ (ishrZ (pnT B) k) 1 = 1))))]) (rest := [.int (iZ (31 * ((31 * x) + (opT B k)))), .int (iZ 31)]) hx hb hml hts hown hK hST hOK hH (c_L_told l E ST hSF  σ (decide (iandZ (ishrZ (pnT B) k) 1 = 1))  ) (va_cwS 1 hts (goodIn_t gK_83) rfl rfl rfl (by decide +kernel) ⟨Nat.le_of_ble_eq_true rfl, Nat.le_of_ble_eq_true rfl⟩) rfl hl.1 rfl (Nat.le_of_ble_eq_true rfl) dL_looks_60 ⟨by first | omega | (simp only [rm_L_looks, rm_L_told, rm_X6_isPinned0, rm_X6_openings0, rm_X6_shiftCount, rm_X6_walkedTotal, rm_X6_walkerCount]; omega), by first | omega | (simp only [rm_L_looks, rm_L_told, rm_X6_isPinned0, rm_X6_openings0, rm_X6_shiftCount, rm_X6_walkedTotal, rm_X6_walkerCount]; omega)⟩ (fun z u h => h) (fun H locs hH => ?_)
        refine x_iadd hx hb dL_looks_63 ?_
        refine x_imul hx hb dL_looks_64 ?_
        refine lv_aload_n hx hb dL_looks_65 rfl (lv_at hl 2 rfl) ?_
        refine x_iconst hx hb dL_looks_66 ?_
        refine lv_iload_n hx hb dL_looks_67 rfl (lv_at hl 0 rfl) ?_
        refine x_iconst hx hb dL_looks_68 ?_
        refine x_idiv hx hb dL_looks_69 (by omega) (by omega) (by omega) (by omega) ?_
        refine lv_iload_n hx hb dL_looks_70 rfl (lv_at hl 0 rfl) ?_
        refine x_iconst hx hb dL_looks_71 ?_
        refine x_irem hx hb dL_looks_72 (by omega) (by omega) (by omega) (by omega) ?_
        refine x_iconst hx hb dL_looks_73 ?_
        refine x_cSW (As := [.ref (xad E 0), .int (iZ 1), .int (iZ (k / 5)), .int (iZ (k % 5)), .int (iZ 0)]) (rest := [.int (iZ (31 * ((31 * ((31 * x) + (opT B k))) + (b2 (decide (iandZ (ishrZ (pnT B) k) 1 = 1))))))]) hx hb hml hts hown hK hST hOK hH (c_L_ask_1 l E ST hSF hSX htr σ (k / 5) (k % 5) 0 B S Y fcw_0 (by omega)) (vx_cwSW 5 hts (goodIn_t gK_162) rfl rfl rfl (by decide +kernel) ⟨Nat.le_of_ble_eq_true rfl, Nat.le_of_ble_eq_true rfl⟩) rfl hl.1 rfl (Nat.le_of_ble_eq_true rfl) dL_looks_74 ⟨by first | omega | (simp only [rm_L_ask_1, rm_L_looks, rm_L_told, rm_X6_isPinned0, rm_X6_openings0, rm_X6_shiftCount, rm_X6_walkedTotal, rm_X6_walkerCount]; omega), by first | omega | (simp only [rm_L_ask_1, rm_L_looks, rm_L_told, rm_X6_isPinned0, rm_X6_openings0, rm_X6_shiftCount, rm_X6_walkedTotal, rm_X6_walkerCount]; omega)⟩ (fun z38 σ39 H locs hp40 hH => ?_)
        obtain ⟨hq9, hu9⟩ := hp40
        subst hq9
        rw [hu9] at hH
        rw [show k / 5 * 5 + k % 5 = k by omega]
        refine x_iadd hx hb dL_looks_77 ?_
        refine lv_istore_n (lv' := [(1, .int (iZ ((31 * ((31 * ((31 * x) + (opT B k))) + (b2 (decide (iandZ (ishrZ (pnT B) k) 1 = 1))))) + (aLk (lkT B) k)))), (2, .int (iZ k)), (0, .ref (xad E 0))]) hx hb dL_looks_78 rfl hl (by decide) rfl (fun ls hl => ?_)
        refine x_iinc (lv' := [(2, .int (iZ (k + 1))), (1, .int (iZ ((31 * ((31 * ((31 * x) + (opT B k))) + (b2 (decide (iandZ (ishrZ (pnT B) k) 1 = 1))))) + (aLk (lkT B) k)))), (0, .ref (xad E 0))]) hx hb dL_looks_79 hl (k := 1) rfl (by decide) rfl (fun ls hl => ?_)
        refine lv_goto (tgt := 24) hx hb dL_looks_82 (by decide) ?_
        exact W.widen (by first | omega | (simp only [rm_L_ask_1, rm_L_looks, rm_L_told, rm_X6_isPinned0, rm_X6_openings0, rm_X6_shiftCount, rm_X6_walkedTotal, rm_X6_walkerCount]; omega)) (by first | omega | (simp only [rm_L_ask_1, rm_L_looks, rm_L_told, rm_X6_isPinned0, rm_X6_openings0, rm_X6_shiftCount, rm_X6_walkedTotal, rm_X6_walkerCount]; omega)) (ih24 ((31 * ((31 * ((31 * x) + (opT B k))) + (b2 (decide (iandZ (ishrZ (pnT B) k) 1 = 1))))) + (aLk (lkT B) k)) (k + 1) _ _ _ (by omega) (by omega) (by rw [loAK_s (by omega), ← hxv])  hH (lv_sub hl [0, 1, 2] rfl))
  exact W.widen (by first | omega | (simp only [rm_L_looks, rm_X6_shiftCount, rm_X6_walkedTotal, rm_X6_walkerCount]; omega)) (by first | omega | (simp only [rm_L_looks, rm_X6_shiftCount, rm_X6_walkedTotal, rm_X6_walkerCount]; omega)) (K24 26 ((31 * ((31 * (nwT B)) + (shB B))) + (l2Z (lZ (wkB B)))) 0 _ _ _ (by first | omega | decide) (by omega) (by rfl)  hH (lv_sub hl [0, 1, 2] rfl))
