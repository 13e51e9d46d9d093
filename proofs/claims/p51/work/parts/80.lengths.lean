def rm_L_lengths : Room := { frames := 31, cells := 2600, slots := 15700, locals := 523 }
set_option maxRecDepth 100000 in
set_option maxHeartbeats 4000000 in
theorem c_L_lengths (l : Launch) (E : xE) (ST : xST) (hSF : SF ST) (hSX : SX ST) (htr : l.stackTraces = false) (σ : xW) (w : Int) (st9 : Int) (B : BT) (S : Option BT) (Y : lnQ) (hr0 : cw E σ B S Y) (hw : 0 ≤ w ∧ w ≤ 2) (hst : 0 ≤ st9 ∧ st9 ≤ 24) : CR l E ST yL_lengths wML_lengths rm_L_lengths [.ref (xad E 0), .int (iZ w), .int (iZ st9)] σ (fun (Ez : xE) (g : Nat) (u : xW) => xE1 E Ez g ∧ cw Ez u B S Y ∧ (∃ F : Int → Int, u g = aI Ez 25 F ∧ ∀ c : Int, 0 ≤ c → c ≤ 24 → F c = f99 (dz (Gw (opT B) (lkT B) (kpT B) w) st9 c)) ∧ ∀ j : Nat, 85 ≤ j → j ≠ g → u j = σ j) := by
  have fcw_0 : cw E σ B S Y := hr0
  refine CR_of (by decide) rfl (Nat.le_of_ble_eq_true rfl) ?_
  intro p e s m args below meth c Q ls G hH hl hQ
  obtain ⟨hx, hb, hml, hown, hts, hK, hST, hlocks, hr, hno⟩ := G
  have hOK := hSF.1
  have hown : s.vm.findClass RL = some m.cls := hown
  have hl : lv_has ls 7 [(0, .ref (xad E 0)), (1, .int (iZ w)), (2, .int (iZ st9))] := hl
  have hG : gOK (Gw (opT B) (lkT B) (kpT B) w) := Gw_ok
  refine x_bipush hx hb dL_lengths_0 (by decide) ?_
  refine x_newI (n := 25) (N := 25) hx hb hts hK hH fcw_0 (List.mem_cons_of_mem _ (List.mem_append_right _ mW_38)) rfl (by decide) (Nat.le_of_ble_eq_true rfl) (Nat.le_of_ble_eq_true rfl) dL_lengths_2 (fun E1 g2 σ3 H hE5 hK hH fcw_0 fg2_0 fr4 => ?_)
  have hgg2 := hE5.lt
  rw [← hE5.2.2.2.2 0 (by omega)] at hl
  refine lv_astore_n (lv' := [(3, .ref (xad E1 g2)), (0, .ref (xad E1 0)), (1, .int (iZ w)), (2, .int (iZ st9))]) hx hb dL_lengths_4 rfl hl (by decide) rfl (fun ls hl => ?_)
  refine x_iconst hx hb dL_lengths_5 ?_
  refine lv_istore (lv' := [(4, .int (iZ 0)), (3, .ref (xad E1 g2)), (0, .ref (xad E1 0)), (1, .int (iZ w)), (2, .int (iZ st9))]) hx hb dL_lengths_6 hl (by decide) rfl (fun ls hl => ?_)
  have K8 : ∀ (nK : Nat) (i : Int) (F : Int → Int) (σ6 : xW) (H : Heap) (locs : List Loc) (ls : Array Slot), (25 - i).toNat < nK → (0 ≤ i ∧ i ≤ 25) → (∀ j : Int, 0 ≤ j → j < i → F j = if j = st9 then 0 else 99) → cw E1 σ6 B S Y → σ6 g2 = aI E1 25 F → (∀ j : Nat, j ≠ g2 → σ6 j = σ3 j) → Hx E1 (xA E s.heap.size) s.heap σ6 H locs → lv_has ls 7 [(4, .int (iZ i)), (3, .ref (xad E1 g2)), (0, .ref (xad E1 0)), (1, .int (iZ w)), (2, .int (iZ st9))] → W p l e rm_L_lengths s m args below meth c H locs (0 + 1) (0 + 25) Q (F0 m 8 ls []) := by
    intro n8
    induction n8 with
    | zero =>
      intro i F σ6 H locs ls hm
      exact absurd hm (by first | exact Nat.not_lt_zero _ | omega)
    | succ n8 ih8 =>
      intro i F σ6 H locs ls hm8 hi hF fcw_0 fg2_0 fr7 hH hl
      refine lv_iload hx hb dL_lengths_8 (lv_at hl 0 rfl) ?_
      refine x_bipush hx hb dL_lengths_10 (by decide) ?_
      refine x_icmp_ge (tgt := 37) hx hb dL_lengths_12 (by decide) (by omega) (by decide) (fun c12 => ?_) (fun c12 => ?_)
      · refine x_iconst hx hb dL_lengths_37 ?_
        refine lv_istore (lv' := [(4, .int (iZ 1)), (3, .ref (xad E1 g2)), (0, .ref (xad E1 0)), (1, .int (iZ w)), (2, .int (iZ st9))]) hx hb dL_lengths_38 hl (by decide) rfl (fun ls hl => ?_)
        have K40 : ∀ (nK : Nat) (lb : Bool) (r9 : Int) (F2 : Int → Int) (σ8 : xW) (H : Heap) (locs : List Loc) (ls : Array Slot), (26 - r9).toNat < nK → (0 ≤ r9 ∧ r9 ≤ 25) → (lgI (Gw (opT B) (lkT B) (kpT B) w) st9 r9 F2 lb) → (lb = true → r9 ≤ 24) → cw E1 σ8 B S Y → σ8 g2 = aI E1 25 F2 → (∀ j : Nat, j ≠ g2 → σ8 j = σ6 j) → Hx E1 (xA E s.heap.size) s.heap σ8 H locs → lv_has ls 7 [(4, .int (iZ (b2 lb))), (3, .ref (xad E1 g2)), (0, .ref (xad E1 0)), (1, .int (iZ w)), (2, .int (iZ st9))] → W p l e rm_L_lengths s m args below meth c H locs ((0 + 1) + 100 * (r9).toNat) ((0 + 25) + 600 * (r9).toNat) Q (F0 m 40 ls []) := by
          intro n40
          induction n40 with
          | zero =>
            intro lb r9 F2 σ8 H locs ls hm
            exact absurd hm (by first | exact Nat.not_lt_zero _ | omega)
          | succ n40 ih40 =>
            intro lb r9 F2 σ8 H locs ls hm40 hr9 hI hr24 fcw_0 fg2_0 fr9 hH hl
            refine lv_iload hx hb dL_lengths_40 (lv_at hl 0 rfl) ?_
            refine x_ifb_eq (tgt := 141) hx hb dL_lengths_42 (by decide) (fun c42 => ?_) (fun c42 => ?_)
            · have hlb : lb = false := c42
              rw [hlb] at hI
              refine lv_aload_n hx hb dL_lengths_141 rfl (lv_at hl 1 rfl) ?_
              subst hQ
              exact x_aret (post := (fun (Ez : xE) (g : Nat) (u : xW) => xE1 E Ez g ∧ cw Ez u B S Y ∧ (∃ F : Int → Int, u g = aI Ez 25 F ∧ ∀ c : Int, 0 ≤ c → c ≤ 24 → F c = f99 (dz (Gw (opT B) (lkT B) (kpT B) w) st9 c)) ∧ ∀ j : Nat, 85 ≤ j → j ≠ g → u j = σ j)) hx hb hr hlocks hH (by first | omega | (simp only [rm_L_lengths]; omega)) (by first | omega | (simp only [rm_L_lengths]; omega)) ⟨hE5, fcw_0, ⟨_, fg2_0, (by exact fun c h0 h1 => lgI_end hG hst hr9.1 hI h0 h1)⟩, fun j hj0 hj1 => ((fr9 j (by omega)).trans ((fr7 j (by omega)).trans (fr4 j (by omega) (by omega))))⟩ dL_lengths_142
            · have hlb : lb = true := c42
              rw [hlb] at hI
              have hI2 := hI
              have hr24b := hr24 hlb
              refine x_iconst hx hb dL_lengths_45 ?_
              refine lv_istore (lv' := [(4, .int (iZ 0)), (3, .ref (xad E1 g2)), (0, .ref (xad E1 0)), (1, .int (iZ w)), (2, .int (iZ st9))]) hx hb dL_lengths_46 hl (by decide) rfl (fun ls hl => ?_)
              refine x_iconst hx hb dL_lengths_48 ?_
              refine lv_istore (lv' := [(5, .int (iZ 0)), (4, .int (iZ 0)), (3, .ref (xad E1 g2)), (0, .ref (xad E1 0)), (1, .int (iZ w)), (2, .int (iZ st9))]) hx hb dL_lengths_49 hl (by decide) rfl (fun ls hl => ?_)
              have K51 : ∀ (nK : Nat) (k : Int) (lb2 : Bool) (F3 : Int → Int) (σ10 : xW) (H : Heap) (locs : List Loc) (ls : Array Slot), (100 - k).toNat < nK → (0 ≤ k ∧ k ≤ 100) → (lsI (Gw (opT B) (lkT B) (kpT B) w) st9 k F2 F3 lb2) → cw E1 σ10 B S Y → σ10 g2 = aI E1 25 F3 → (∀ j : Nat, j ≠ g2 → σ10 j = σ8 j) → Hx E1 (xA E s.heap.size) s.heap σ10 H locs → lv_has ls 7 [(5, .int (iZ k)), (4, .int (iZ (b2 lb2))), (3, .ref (xad E1 g2)), (0, .ref (xad E1 0)), (1, .int (iZ w)), (2, .int (iZ st9))] → W p l e rm_L_lengths s m args below meth c H locs (((0 + 1) + 100 * (r9).toNat) + 1 * (k).toNat) (((0 + 25) + 600 * (r9).toNat) + 6 * (k).toNat) Q (F0 m 51 ls []) := by
                intro n51
                induction n51 with
                | zero =>
                  intro k lb2 F3 σ10 H locs ls hm
                  exact absurd hm (by first | exact Nat.not_lt_zero _ | omega)
                | succ n51 ih51 =>
                  intro k lb2 F3 σ10 H locs ls hm51 hk hJ fcw_0 fg2_0 fr11 hH hl
                  refine lv_iload hx hb dL_lengths_51 (lv_at hl 0 rfl) ?_
                  refine x_bipush hx hb dL_lengths_53 (by decide) ?_
                  refine x_icmp_ge (tgt := 138) hx hb dL_lengths_55 (by decide) (by omega) (by decide) (fun c55 => ?_) (fun c55 => ?_)
                  · refine lv_goto (tgt := 40) hx hb dL_lengths_138 (by decide) ?_
                    exact W.widen (by first | omega | (simp only [rm_L_lengths]; omega)) (by first | omega | (simp only [rm_L_lengths]; omega)) (ih40 lb2 (r9 + 1) F3 σ10 _ _ _ (by omega) (by omega) (by exact (lsI_end hG hst hI2 (by omega) (by have e9 : k = 100 := (by omega); rw [← e9]; exact hJ)).1) (by exact (lsI_end hG hst hI2 (by omega) (by have e9 : k = 100 := (by omega); rw [← e9]; exact hJ)).2) fcw_0 fg2_0 (fun j hj0 => ((fr11 j (by omega)).trans (fr9 j (by omega)))) hH (lv_sub hl [1, 2, 3, 4, 5] rfl))
                  · refine lv_aload_n hx hb dL_lengths_58 rfl (lv_at hl 2 rfl) ?_
                    refine lv_iload hx hb dL_lengths_59 (lv_at hl 0 rfl) ?_
                    refine x_iconst hx hb dL_lengths_61 ?_
                    refine x_idiv hx hb dL_lengths_62 (by omega) (by omega) (by omega) (by omega) ?_
                    refine x_iald hx hb hK hH g2 (by omega) fg2_0 (by omega) (by omega) (by omega) dL_lengths_63 ?_
                    refine x_bipush hx hb dL_lengths_64 (by decide) ?_
                    have hv66 := lnS_rg hJ.1 (c := k / 4) (by omega) (by omega)
                    refine x_icmp_ne (tgt := 73) hx hb dL_lengths_66 (by decide) (by omega) (by decide) (fun c66 => ?_) (fun c66 => ?_)
                    · refine lv_aload_n hx hb dL_lengths_73 rfl (lv_at hl 3 rfl) ?_
                      refine lv_iload hx hb dL_lengths_74 (lv_at hl 0 rfl) ?_
                      refine x_iconst hx hb dL_lengths_76 ?_
                      refine x_idiv hx hb dL_lengths_77 (by omega) (by omega) (by omega) (by omega) ?_
                      refine lv_iload hx hb dL_lengths_78 (lv_at hl 0 rfl) ?_
                      refine x_iconst hx hb dL_lengths_80 ?_
                      refine x_irem hx hb dL_lengths_81 (by omega) (by omega) (by omega) (by omega) ?_
                      refine x_cSID (As := [.ref (xad E1 0), .int (iZ (k / 4)), .int (iZ (k % 4))]) (rest := []) hx hb hml hts hown hK hST hOK hH (c_L_joined l E1 ST hSF  σ10 (k / 4) (k % 4) B S Y fcw_0 (by omega) (by omega)) (va_cwS 3 hts (goodIn_t gK_171) rfl rfl rfl (by decide +kernel) ⟨Nat.le_of_ble_eq_true rfl, Nat.le_of_ble_eq_true rfl⟩) rfl hl.1 rfl (Nat.le_of_ble_eq_true rfl) dL_lengths_82 ⟨by first | omega | (simp only [rm_L_joined_0, rm_L_lengths]; omega), by first | omega | (simp only [rm_L_joined_0, rm_L_lengths]; omega)⟩ (fun z u h => h) (fun H locs hH => ?_)
                      refine lv_istore (lv' := [(6, .int (iZ (cnZ (opT B) (k / 4) (k % 4)))), (5, .int (iZ k)), (4, .int (iZ (b2 lb2))), (3, .ref (xad E1 g2)), (0, .ref (xad E1 0)), (1, .int (iZ w)), (2, .int (iZ st9))]) hx hb dL_lengths_85 hl (by decide) rfl (fun ls hl => ?_)
                      have hcx8 := cnZ_rg (op := opT B) (c := k / 4) (d := k % 4) (by omega) (by omega)
                      refine lv_iload hx hb dL_lengths_87 (lv_at hl 0 rfl) ?_
                      refine x_if_lt (tgt := 132) hx hb dL_lengths_89 (by decide) (by omega) (fun c89 => ?_) (fun c89 => ?_)
                      · refine x_iinc (lv' := [(5, .int (iZ (k + 1))), (6, .int (iZ (cnZ (opT B) (k / 4) (k % 4)))), (4, .int (iZ (b2 lb2))), (3, .ref (xad E1 g2)), (0, .ref (xad E1 0)), (1, .int (iZ w)), (2, .int (iZ st9))]) hx hb dL_lengths_132 hl (k := 1) rfl (by decide) rfl (fun ls hl => ?_)
                        refine lv_goto (tgt := 51) hx hb dL_lengths_135 (by decide) ?_
                        exact W.widen (by first | omega | (simp only [rm_L_joined_0, rm_L_lengths]; omega)) (by first | omega | (simp only [rm_L_joined_0, rm_L_lengths]; omega)) (ih51 (k + 1) lb2 F3 σ10 _ _ _ (by omega) (by omega) (by first | exact lsI_low hJ (by omega) (Gw_yes2 c114) (by omega) hG c66 (by omega) | exact lsI_no hJ (by omega) (fun h _ => absurd c66 h) hG | exact lsI_no hJ (by omega) (fun _ h => absurd (Gw_no2 (by omega)) h) hG | exact lsI_no hJ (by omega) (fun _ h => (by rw [Gw_val h]; omega)) hG | exact lsI_no hJ (by omega) (fun _ h => absurd (Gw_lock2 c114) h) hG) fcw_0 fg2_0 (fun j hj0 => (fr11 j (by omega))) hH (lv_sub hl [0, 2, 3, 4, 5, 6] rfl))
                      · refine lv_aload_n hx hb dL_lengths_92 rfl (lv_at hl 3 rfl) ?_
                        refine lv_iload hx hb dL_lengths_93 (lv_at hl 0 rfl) ?_
                        refine x_iald hx hb hK hH g2 (by omega) fg2_0 (by omega) (by omega) (by omega) dL_lengths_95 ?_
                        refine lv_aload_n hx hb dL_lengths_96 rfl (lv_at hl 3 rfl) ?_
                        refine lv_iload hx hb dL_lengths_97 (lv_at hl 1 rfl) ?_
                        refine x_iconst hx hb dL_lengths_99 ?_
                        refine x_idiv hx hb dL_lengths_100 (by omega) (by omega) (by omega) (by omega) ?_
                        refine x_iald hx hb hK hH g2 (by omega) fg2_0 (by omega) (by omega) (by omega) dL_lengths_101 ?_
                        refine x_iconst hx hb dL_lengths_102 ?_
                        refine x_iadd hx hb dL_lengths_103 ?_
                        have hcx := cnZ_rg (op := opT B) (c := k / 4) (d := k % 4) (by omega) (by omega)
                        have hv104 := lnS_rg hJ.1 (c := (cnZ (opT B) (k / 4) (k % 4))) (by omega) (by omega)
                        refine x_icmp_le (tgt := 132) hx hb dL_lengths_104 (by decide) (by omega) (by omega) (fun c104 => ?_) (fun c104 => ?_)
                        · refine x_iinc (lv' := [(5, .int (iZ (k + 1))), (6, .int (iZ (cnZ (opT B) (k / 4) (k % 4)))), (4, .int (iZ (b2 lb2))), (3, .ref (xad E1 g2)), (0, .ref (xad E1 0)), (1, .int (iZ w)), (2, .int (iZ st9))]) hx hb dL_lengths_132 hl (k := 1) rfl (by decide) rfl (fun ls hl => ?_)
                          refine lv_goto (tgt := 51) hx hb dL_lengths_135 (by decide) ?_
                          exact W.widen (by first | omega | (simp only [rm_L_joined_0, rm_L_lengths]; omega)) (by first | omega | (simp only [rm_L_joined_0, rm_L_lengths]; omega)) (ih51 (k + 1) lb2 F3 σ10 _ _ _ (by omega) (by omega) (by first | exact lsI_low hJ (by omega) (Gw_yes2 c114) (by omega) hG c66 (by omega) | exact lsI_no hJ (by omega) (fun h _ => absurd c66 h) hG | exact lsI_no hJ (by omega) (fun _ h => absurd (Gw_no2 (by omega)) h) hG | exact lsI_no hJ (by omega) (fun _ h => (by rw [Gw_val h]; omega)) hG | exact lsI_no hJ (by omega) (fun _ h => absurd (Gw_lock2 c114) h) hG) fcw_0 fg2_0 (fun j hj0 => (fr11 j (by omega))) hH (lv_sub hl [0, 2, 3, 4, 5, 6] rfl))
                        · have hcx7 := cnZ_rg (op := opT B) (c := k / 4) (d := k % 4) (by omega) (by omega)
                          refine lv_aload_n hx hb dL_lengths_107 rfl (lv_at hl 4 rfl) ?_
                          refine lv_iload_n hx hb dL_lengths_108 rfl (lv_at hl 5 rfl) ?_
                          refine lv_iload hx hb dL_lengths_109 (lv_at hl 0 rfl) ?_
                          refine x_cSID (As := [.ref (xad E1 0), .int (iZ w), .int (iZ (cnZ (opT B) (k / 4) (k % 4)))]) (rest := []) hx hb hml hts hown hK hST hOK hH (c_L_mayEnter l E1 ST hSF hSX htr σ10 w (cnZ (opT B) (k / 4) (k % 4)) B S Y fcw_0 (by omega) (by omega)) (va_cwS 3 hts (goodIn_t gK_175) rfl rfl rfl (by decide +kernel) ⟨Nat.le_of_ble_eq_true rfl, Nat.le_of_ble_eq_true rfl⟩) rfl hl.1 rfl (Nat.le_of_ble_eq_true rfl) dL_lengths_111 ⟨by first | omega | (simp only [rm_L_joined_0, rm_L_lengths, rm_L_mayEnter_n]; omega), by first | omega | (simp only [rm_L_joined_0, rm_L_lengths, rm_L_mayEnter_n]; omega)⟩ (fun z u h => h) (fun H locs hH => ?_)
                          refine x_ifb_eq (tgt := 132) hx hb dL_lengths_114 (by decide) (fun c114 => ?_) (fun c114 => ?_)
                          · have c114 := of_decide_eq_false c114
                            refine x_iinc (lv' := [(5, .int (iZ (k + 1))), (6, .int (iZ (cnZ (opT B) (k / 4) (k % 4)))), (4, .int (iZ (b2 lb2))), (3, .ref (xad E1 g2)), (0, .ref (xad E1 0)), (1, .int (iZ w)), (2, .int (iZ st9))]) hx hb dL_lengths_132 hl (k := 1) rfl (by decide) rfl (fun ls hl => ?_)
                            refine lv_goto (tgt := 51) hx hb dL_lengths_135 (by decide) ?_
                            exact W.widen (by first | omega | (simp only [rm_L_joined_0, rm_L_lengths, rm_L_mayEnter_n]; omega)) (by first | omega | (simp only [rm_L_joined_0, rm_L_lengths, rm_L_mayEnter_n]; omega)) (ih51 (k + 1) lb2 F3 σ10 _ _ _ (by omega) (by omega) (by first | exact lsI_low hJ (by omega) (Gw_yes2 c114) (by omega) hG c66 (by omega) | exact lsI_no hJ (by omega) (fun h _ => absurd c66 h) hG | exact lsI_no hJ (by omega) (fun _ h => absurd (Gw_no2 (by omega)) h) hG | exact lsI_no hJ (by omega) (fun _ h => (by rw [Gw_val h]; omega)) hG | exact lsI_no hJ (by omega) (fun _ h => absurd (Gw_lock2 c114) h) hG) fcw_0 fg2_0 (fun j hj0 => (fr11 j (by omega))) hH (lv_sub hl [0, 2, 3, 4, 5, 6] rfl))
                          · have c114 := of_decide_eq_true c114
                            refine lv_aload_n hx hb dL_lengths_117 rfl (lv_at hl 3 rfl) ?_
                            refine lv_iload hx hb dL_lengths_118 (lv_at hl 0 rfl) ?_
                            refine lv_aload_n hx hb dL_lengths_120 rfl (lv_at hl 3 rfl) ?_
                            refine lv_iload hx hb dL_lengths_121 (lv_at hl 1 rfl) ?_
                            refine x_iconst hx hb dL_lengths_123 ?_
                            refine x_idiv hx hb dL_lengths_124 (by omega) (by omega) (by omega) (by omega) ?_
                            refine x_iald hx hb hK hH g2 (by omega) fg2_0 (by omega) (by omega) (by omega) dL_lengths_125 ?_
                            refine x_iconst hx hb dL_lengths_126 ?_
                            refine x_iadd hx hb dL_lengths_127 ?_
                            refine x_iast hx hb hK hH g2 (by omega) fg2_0 (by omega) (by omega) (by omega) dL_lengths_128 (fun σ18 H locs fg2_0 fr19 hH => ?_)
                            have fcw_0 := fcw_0.fr (fun j hj9 => fr19 j (by omega))
                            refine x_iconst hx hb dL_lengths_129 ?_
                            refine lv_istore (lv' := [(4, .int (iZ 1)), (6, .int (iZ (cnZ (opT B) (k / 4) (k % 4)))), (5, .int (iZ k)), (3, .ref (xad E1 g2)), (0, .ref (xad E1 0)), (1, .int (iZ w)), (2, .int (iZ st9))]) hx hb dL_lengths_130 hl (by decide) rfl (fun ls hl => ?_)
                            refine x_iinc (lv' := [(5, .int (iZ (k + 1))), (4, .int (iZ 1)), (6, .int (iZ (cnZ (opT B) (k / 4) (k % 4)))), (3, .ref (xad E1 g2)), (0, .ref (xad E1 0)), (1, .int (iZ w)), (2, .int (iZ st9))]) hx hb dL_lengths_132 hl (k := 2) rfl (by decide) rfl (fun ls hl => ?_)
                            refine lv_goto (tgt := 51) hx hb dL_lengths_135 (by decide) ?_
                            exact W.widen (by first | omega | (simp only [rm_L_joined_0, rm_L_lengths, rm_L_mayEnter_n]; omega)) (by first | omega | (simp only [rm_L_joined_0, rm_L_lengths, rm_L_mayEnter_n]; omega)) (ih51 (k + 1) true (ui F3 (cnZ (opT B) (k / 4) (k % 4)) ((F3 (k / 4)) + 1)) σ18 _ _ _ (by omega) (by omega) (by first | exact lsI_low hJ (by omega) (Gw_yes2 c114) (by omega) hG c66 (by omega) | exact lsI_no hJ (by omega) (fun h _ => absurd c66 h) hG | exact lsI_no hJ (by omega) (fun _ h => absurd (Gw_no2 (by omega)) h) hG | exact lsI_no hJ (by omega) (fun _ h => (by rw [Gw_val h]; omega)) hG | exact lsI_no hJ (by omega) (fun _ h => absurd (Gw_lock2 c114) h) hG) fcw_0 fg2_0 (fun j hj0 => ((fr19 j (by omega)).trans (fr11 j (by omega)))) hH (lv_sub hl [0, 1, 3, 4, 5, 6] rfl))
                    · refine x_iconst hx hb dL_lengths_69 ?_
                      refine lv_goto (tgt := 85) hx hb dL_lengths_70 (by decide) ?_
                      refine lv_istore (lv' := [(6, .int (iZ (-1))), (5, .int (iZ k)), (4, .int (iZ (b2 lb2))), (3, .ref (xad E1 g2)), (0, .ref (xad E1 0)), (1, .int (iZ w)), (2, .int (iZ st9))]) hx hb dL_lengths_85 hl (by decide) rfl (fun ls hl => ?_)
                      have hcx8 := cnZ_rg (op := opT B) (c := k / 4) (d := k % 4) (by omega) (by omega)
                      refine lv_iload hx hb dL_lengths_87 (lv_at hl 0 rfl) ?_
                      refine x_if_lt (tgt := 132) hx hb dL_lengths_89 (by decide) (by decide) (fun c89 => ?_) (fun c89 => ?_)
                      · refine x_iinc (lv' := [(5, .int (iZ (k + 1))), (6, .int (iZ (-1))), (4, .int (iZ (b2 lb2))), (3, .ref (xad E1 g2)), (0, .ref (xad E1 0)), (1, .int (iZ w)), (2, .int (iZ st9))]) hx hb dL_lengths_132 hl (k := 1) rfl (by decide) rfl (fun ls hl => ?_)
                        refine lv_goto (tgt := 51) hx hb dL_lengths_135 (by decide) ?_
                        exact W.widen (by first | omega | (simp only [rm_L_lengths]; omega)) (by first | omega | (simp only [rm_L_lengths]; omega)) (ih51 (k + 1) lb2 F3 σ10 _ _ _ (by omega) (by omega) (by first | exact lsI_low hJ (by omega) (Gw_yes2 c114) (by omega) hG c66 (by omega) | exact lsI_no hJ (by omega) (fun h _ => absurd c66 h) hG | exact lsI_no hJ (by omega) (fun _ h => absurd (Gw_no2 (by omega)) h) hG | exact lsI_no hJ (by omega) (fun _ h => (by rw [Gw_val h]; omega)) hG | exact lsI_no hJ (by omega) (fun _ h => absurd (Gw_lock2 c114) h) hG) fcw_0 fg2_0 (fun j hj0 => (fr11 j (by omega))) hH (lv_sub hl [0, 2, 3, 4, 5, 6] rfl))
                      · exact absurd c89 (by decide)
              exact W.widen (by first | omega | (simp only [rm_L_lengths]; omega)) (by first | omega | (simp only [rm_L_lengths]; omega)) (K51 101 0 false F2 σ8 _ _ _ (by first | omega | decide) (by omega) (by exact lsI_0 hI2) fcw_0 fg2_0 (fun j _ => rfl) hH (lv_sub hl [0, 1, 2, 3, 4, 5] rfl))
        exact W.widen (by first | omega | (simp only [rm_L_lengths]; omega)) (by first | omega | (simp only [rm_L_lengths]; omega)) (K40 27 true 0 F σ6 _ _ _ (by first | omega | decide) (by omega) (by have e9 : i = 25 := (by omega); subst e9; exact lgI_0 hst hF) (by omega) fcw_0 fg2_0 (fun j _ => rfl) hH (lv_sub hl [0, 1, 2, 3, 4] rfl))
      · refine lv_aload_n hx hb dL_lengths_15 rfl (lv_at hl 1 rfl) ?_
        refine lv_iload hx hb dL_lengths_16 (lv_at hl 0 rfl) ?_
        refine lv_iload hx hb dL_lengths_18 (lv_at hl 0 rfl) ?_
        refine lv_iload_n hx hb dL_lengths_20 rfl (lv_at hl 4 rfl) ?_
        refine x_icmp_ne (tgt := 28) hx hb dL_lengths_21 (by decide) (by omega) (by omega) (fun c21 => ?_) (fun c21 => ?_)
        · refine x_bipush hx hb dL_lengths_28 (by decide) ?_
          refine x_iast hx hb hK hH g2 (by omega) fg2_0 (by omega) (by omega) (by omega) dL_lengths_30 (fun σ20 H locs fg2_0 fr21 hH => ?_)
          have fcw_0 := fcw_0.fr (fun j hj9 => fr21 j (by omega))
          refine x_iinc (lv' := [(4, .int (iZ (i + 1))), (3, .ref (xad E1 g2)), (0, .ref (xad E1 0)), (1, .int (iZ w)), (2, .int (iZ st9))]) hx hb dL_lengths_31 hl (k := 0) rfl (by decide) rfl (fun ls hl => ?_)
          refine lv_goto (tgt := 8) hx hb dL_lengths_34 (by decide) ?_
          exact ih8 (i + 1) (ui F i 99) σ20 _ _ _ (by omega) (by omega) (by exact far_step hF (by split <;> omega)) fcw_0 fg2_0 (fun j hj0 => ((fr21 j (by omega)).trans (fr7 j (by omega)))) hH (lv_sub hl [0, 1, 2, 3, 4] rfl)
        · refine x_iconst hx hb dL_lengths_24 ?_
          refine lv_goto (tgt := 30) hx hb dL_lengths_25 (by decide) ?_
          refine x_iast hx hb hK hH g2 (by omega) fg2_0 (by omega) (by omega) (by omega) dL_lengths_30 (fun σ22 H locs fg2_0 fr23 hH => ?_)
          have fcw_0 := fcw_0.fr (fun j hj9 => fr23 j (by omega))
          refine x_iinc (lv' := [(4, .int (iZ (i + 1))), (3, .ref (xad E1 g2)), (0, .ref (xad E1 0)), (1, .int (iZ w)), (2, .int (iZ st9))]) hx hb dL_lengths_31 hl (k := 0) rfl (by decide) rfl (fun ls hl => ?_)
          refine lv_goto (tgt := 8) hx hb dL_lengths_34 (by decide) ?_
          exact ih8 (i + 1) (ui F i 0) σ22 _ _ _ (by omega) (by omega) (by exact far_step hF (by split <;> omega)) fcw_0 fg2_0 (fun j hj0 => ((fr23 j (by omega)).trans (fr7 j (by omega)))) hH (lv_sub hl [0, 1, 2, 3, 4] rfl)
  exact K8 26 0 (fun _ => 0) σ3 _ _ _ (by first | omega | decide) (by omega) (by intro j h0 h1; omega) fcw_0 fg2_0 (fun j _ => rfl) hH (lv_sub hl [0, 1, 2, 3, 4] rfl)
