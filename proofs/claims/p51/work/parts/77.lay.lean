def rm_L_lay : Room := { frames := 10, cells := 50, slots := 300, locals := 183 }
set_option maxRecDepth 100000 in
set_option maxHeartbeats 4000000 in
theorem c_L_lay (l : Launch) (E : xE) (ST : xST) (hSF : SF ST) (zb zL : Nat) (zx : Int → Int) (hSC : SC zb zL zx ST) (hzL : zL ≤ 260) (hSX : SX ST) (htr : l.stackTraces = false) (σ : xW) (B : BT) (S : Option BT) (Y : lnQ) (hr0 : cw E σ B S Y) : CV l E ST yL_lay wML_lay rm_L_lay [.ref (xad E 0), .ref zb] σ (fun (u : xW) => (∃ (B1 : BT), cw E u B1 S Y) ∧ ∀ j : Nat, (j < 0 ∨ 0 + 85 ≤ j) → u j = σ j) := by
  have fcw_0 : cw E σ B S Y := hr0
  refine CV_of (by decide) rfl (Nat.le_of_ble_eq_true rfl) ?_
  intro p e s m args below meth c Q ls G hH hl hQ
  obtain ⟨hx, hb, hml, hown, hts, hK, hST, hlocks, hr, hno⟩ := G
  have hOK := hSF.1
  have hown : s.vm.findClass RL = some m.cls := hown
  have hl : lv_has ls 4 [(0, .ref (xad E 0)), (1, .ref zb)] := hl
  refine x_iconst hx hb dL_lay_0 ?_
  refine lv_istore_n (lv' := [(2, .int (iZ 0)), (0, .ref (xad E 0)), (1, .ref zb)]) hx hb dL_lay_1 rfl hl (by decide) rfl (fun ls hl => ?_)
  refine x_iconst hx hb dL_lay_2 ?_
  refine lv_istore_n (lv' := [(3, .int (iZ 0)), (2, .int (iZ 0)), (0, .ref (xad E 0)), (1, .ref zb)]) hx hb dL_lay_3 rfl hl (by decide) rfl (fun ls hl => ?_)
  have K4 : ∀ (nK : Nat) (w9 k : Int) (B2 : BT) (σ1 : xW) (H : Heap) (locs : List Loc) (ls : Array Slot), (25 - k).toNat < nK → (0 ≤ k ∧ k ≤ 25) → cw E σ1 B2 S Y → (∀ j : Nat, (j < 0 ∨ 0 + 85 ≤ j) → σ1 j = σ j) → Hx E (xA E s.heap.size) s.heap σ1 H locs → lv_has ls 4 [(3, .int (iZ k)), (2, .int (iZ w9)), (0, .ref (xad E 0)), (1, .ref zb)] → W p l e rm_L_lay s m args below meth c H locs (0 + 1 * (k).toNat) (0 + 6 * (k).toNat) Q (F0 m 4 ls []) := by
    intro n4
    induction n4 with
    | zero =>
      intro w9 k B2 σ1 H locs ls hm
      exact absurd hm (by first | exact Nat.not_lt_zero _ | omega)
    | succ n4 ih4 =>
      intro w9 k B2 σ1 H locs ls hm4 hk fcw_0 fr2 hH hl
      refine lv_iload_n hx hb dL_lay_4 rfl (lv_at hl 0 rfl) ?_
      refine x_bipush hx hb dL_lay_5 (by decide) ?_
      refine x_icmp_ge (tgt := 41) hx hb dL_lay_7 (by decide) (by omega) (by decide) (fun c7 => ?_) (fun c7 => ?_)
      · refine x_iconst hx hb dL_lay_41 ?_
        refine lv_istore_n (lv' := [(3, .int (iZ 0)), (2, .int (iZ w9)), (0, .ref (xad E 0)), (1, .ref zb)]) hx hb dL_lay_42 rfl hl (by decide) rfl (fun ls hl => ?_)
        have K43 : ∀ (nK : Nat) (w8 k8 : Int) (B2 : BT) (σ3 : xW) (H : Heap) (locs : List Loc) (ls : Array Slot), (4 - k8).toNat < nK → (0 ≤ k8 ∧ k8 ≤ 3) → cw E σ3 B2 S Y → (∀ j : Nat, (j < 0 ∨ 0 + 85 ≤ j) → σ3 j = σ1 j) → Hx E (xA E s.heap.size) s.heap σ3 H locs → lv_has ls 4 [(3, .int (iZ k8)), (2, .int (iZ w8)), (0, .ref (xad E 0)), (1, .ref zb)] → W p l e rm_L_lay s m args below meth c H locs ((0 + 1 * (k).toNat) + 1 * (k8).toNat) ((0 + 6 * (k).toNat) + 6 * (k8).toNat) Q (F0 m 43 ls []) := by
          intro n43
          induction n43 with
          | zero =>
            intro w8 k8 B2 σ3 H locs ls hm
            exact absurd hm (by first | exact Nat.not_lt_zero _ | omega)
          | succ n43 ih43 =>
            intro w8 k8 B2 σ3 H locs ls hm43 hk8 fcw_0 fr4 hH hl
            refine lv_iload_n hx hb dL_lay_43 rfl (lv_at hl 0 rfl) ?_
            refine lv_aload_n hx hb dL_lay_44 rfl (lv_at hl 3 rfl) ?_
            refine x_iconst hx hb dL_lay_45 ?_
            refine x_iconst hx hb dL_lay_46 ?_
            refine x_cSI (As := [.ref zb, .int (iZ 0), .int (iZ 4)]) (rest := [.int (iZ k8)]) hx hb hml hts hown hK hST hOK hH (c_L_pick l E ST hSF zb zL zx hSC hzL σ3 0 4  (by omega) (by omega)) (va_cwS 3 hts (goodIn_t gK_133) rfl rfl rfl (by decide +kernel) ⟨Nat.le_of_ble_eq_true rfl, Nat.le_of_ble_eq_true rfl⟩) rfl hl.1 rfl (Nat.le_of_ble_eq_true rfl) dL_lay_47 ⟨by first | omega | (simp only [rm_L_lay, rm_L_pick]; omega), by first | omega | (simp only [rm_L_lay, rm_L_pick]; omega)⟩ (fun z5 σ6 H locs hp7 hH => ?_)
            obtain ⟨hz8, hu9⟩ := hp7
            rw [hu9] at hH
            refine x_icmp_ge (tgt := 87) hx hb dL_lay_50 (by decide) (by omega) (by omega) (fun c50 => ?_) (fun c50 => ?_)
            · refine x_iconst hx hb dL_lay_87 ?_
              refine lv_istore_n (lv' := [(3, .int (iZ 0)), (2, .int (iZ w8)), (0, .ref (xad E 0)), (1, .ref zb)]) hx hb dL_lay_88 rfl hl (by decide) rfl (fun ls hl => ?_)
              have K89 : ∀ (nK : Nat) (w7 k7 : Int) (B2 : BT) (σ10 : xW) (H : Heap) (locs : List Loc) (ls : Array Slot), (6 - k7).toNat < nK → (0 ≤ k7 ∧ k7 ≤ 6) → cw E σ10 B2 S Y → (∀ j : Nat, (j < 0 ∨ 0 + 85 ≤ j) → σ10 j = σ3 j) → Hx E (xA E s.heap.size) s.heap σ10 H locs → lv_has ls 4 [(3, .int (iZ k7)), (2, .int (iZ w7)), (0, .ref (xad E 0)), (1, .ref zb)] → W p l e rm_L_lay s m args below meth c H locs (((0 + 1 * (k).toNat) + 1 * (k8).toNat) + 2 * (k7).toNat) (((0 + 6 * (k).toNat) + 6 * (k8).toNat) + 12 * (k7).toNat) Q (F0 m 89 ls []) := by
                intro n89
                induction n89 with
                | zero =>
                  intro w7 k7 B2 σ10 H locs ls hm
                  exact absurd hm (by first | exact Nat.not_lt_zero _ | omega)
                | succ n89 ih89 =>
                  intro w7 k7 B2 σ10 H locs ls hm89 hk7 fcw_0 fr11 hH hl
                  refine lv_iload_n hx hb dL_lay_89 rfl (lv_at hl 0 rfl) ?_
                  refine x_bipush hx hb dL_lay_90 (by decide) ?_
                  refine x_icmp_ge (tgt := 192) hx hb dL_lay_92 (by decide) (by omega) (by decide) (fun c92 => ?_) (fun c92 => ?_)
                  · refine x_iconst hx hb dL_lay_192 ?_
                    refine lv_istore_n (lv' := [(3, .int (iZ 0)), (2, .int (iZ w7)), (0, .ref (xad E 0)), (1, .ref zb)]) hx hb dL_lay_193 rfl hl (by decide) rfl (fun ls hl => ?_)
                    have K194 : ∀ (nK : Nat) (w6 k6 : Int) (B2 : BT) (σ12 : xW) (H : Heap) (locs : List Loc) (ls : Array Slot), (3 - k6).toNat < nK → (0 ≤ k6 ∧ k6 ≤ 2) → cw E σ12 B2 S Y → (∀ j : Nat, (j < 0 ∨ 0 + 85 ≤ j) → σ12 j = σ10 j) → Hx E (xA E s.heap.size) s.heap σ12 H locs → lv_has ls 4 [(3, .int (iZ k6)), (2, .int (iZ w6)), (0, .ref (xad E 0)), (1, .ref zb)] → W p l e rm_L_lay s m args below meth c H locs ((((0 + 1 * (k).toNat) + 1 * (k8).toNat) + 2 * (k7).toNat) + 1 * (k6).toNat) ((((0 + 6 * (k).toNat) + 6 * (k8).toNat) + 12 * (k7).toNat) + 6 * (k6).toNat) Q (F0 m 194 ls []) := by
                      intro n194
                      induction n194 with
                      | zero =>
                        intro w6 k6 B2 σ12 H locs ls hm
                        exact absurd hm (by first | exact Nat.not_lt_zero _ | omega)
                      | succ n194 ih194 =>
                        intro w6 k6 B2 σ12 H locs ls hm194 hk6 fcw_0 fr13 hH hl
                        refine lv_iload_n hx hb dL_lay_194 rfl (lv_at hl 0 rfl) ?_
                        refine lv_aload_n hx hb dL_lay_195 rfl (lv_at hl 3 rfl) ?_
                        refine x_iconst hx hb dL_lay_196 ?_
                        refine x_iconst hx hb dL_lay_197 ?_
                        refine x_cSI (As := [.ref zb, .int (iZ 1), .int (iZ 3)]) (rest := [.int (iZ k6)]) hx hb hml hts hown hK hST hOK hH (c_L_pick l E ST hSF zb zL zx hSC hzL σ12 1 3  (by omega) (by omega)) (va_cwS 3 hts (goodIn_t gK_133) rfl rfl rfl (by decide +kernel) ⟨Nat.le_of_ble_eq_true rfl, Nat.le_of_ble_eq_true rfl⟩) rfl hl.1 rfl (Nat.le_of_ble_eq_true rfl) dL_lay_198 ⟨by first | omega | (simp only [rm_L_lay, rm_L_pick]; omega), by first | omega | (simp only [rm_L_lay, rm_L_pick]; omega)⟩ (fun z14 σ15 H locs hp16 hH => ?_)
                        obtain ⟨hz17, hu18⟩ := hp16
                        rw [hu18] at hH
                        refine x_icmp_ge (tgt := 237) hx hb dL_lay_201 (by decide) (by omega) (by omega) (fun c201 => ?_) (fun c201 => ?_)
                        · subst hQ
                          exact x_vret hx hb hr hlocks hH (by first | omega | (simp only [rm_L_lay, rm_L_pick]; omega)) (by first | omega | (simp only [rm_L_lay, rm_L_pick]; omega)) ⟨⟨B2, fcw_0⟩, fun j hj0 => ((fr13 j (by omega)).trans ((fr11 j (by omega)).trans ((fr4 j (by omega)).trans (fr2 j (by omega)))))⟩ dL_lay_237
                        · refine lv_iload_n hx hb dL_lay_204 rfl (lv_at hl 1 rfl) ?_
                          refine lv_aload_n hx hb dL_lay_205 rfl (lv_at hl 2 rfl) ?_
                          refine x_iconst hx hb dL_lay_206 ?_
                          refine lv_aload_n hx hb dL_lay_207 rfl (lv_at hl 3 rfl) ?_
                          refine x_bipush hx hb dL_lay_208 (by decide) ?_
                          refine lv_iload_n hx hb dL_lay_210 rfl (lv_at hl 0 rfl) ?_
                          refine x_iadd hx hb dL_lay_211 ?_
                          refine x_iconst hx hb dL_lay_212 ?_
                          refine x_cSI (As := [.ref zb, .int (iZ (101 + k6)), .int (iZ 5)]) (rest := [.int (iZ 2), .ref (xad E 0), .int (iZ w6)]) hx hb hml hts hown hK hST hOK hH (c_L_pick l E ST hSF zb zL zx hSC hzL σ12 (101 + k6) 5  (by omega) (by omega)) (va_cwS 3 hts (goodIn_t gK_133) rfl rfl rfl (by decide +kernel) ⟨Nat.le_of_ble_eq_true rfl, Nat.le_of_ble_eq_true rfl⟩) rfl hl.1 rfl (Nat.le_of_ble_eq_true rfl) dL_lay_213 ⟨by first | omega | (simp only [rm_L_lay, rm_L_pick]; omega), by first | omega | (simp only [rm_L_lay, rm_L_pick]; omega)⟩ (fun z19 σ20 H locs hp21 hH => ?_)
                          obtain ⟨hz22, hu23⟩ := hp21
                          rw [hu23] at hH
                          refine lv_aload_n hx hb dL_lay_216 rfl (lv_at hl 3 rfl) ?_
                          refine x_bipush hx hb dL_lay_217 (by decide) ?_
                          refine lv_iload_n hx hb dL_lay_219 rfl (lv_at hl 0 rfl) ?_
                          refine x_iadd hx hb dL_lay_220 ?_
                          refine x_iconst hx hb dL_lay_221 ?_
                          refine x_cSI (As := [.ref zb, .int (iZ (111 + k6)), .int (iZ 5)]) (rest := [.int (iZ z19), .int (iZ 2), .ref (xad E 0), .int (iZ w6)]) hx hb hml hts hown hK hST hOK hH (c_L_pick l E ST hSF zb zL zx hSC hzL σ12 (111 + k6) 5  (by omega) (by omega)) (va_cwS 3 hts (goodIn_t gK_133) rfl rfl rfl (by decide +kernel) ⟨Nat.le_of_ble_eq_true rfl, Nat.le_of_ble_eq_true rfl⟩) rfl hl.1 rfl (Nat.le_of_ble_eq_true rfl) dL_lay_222 ⟨by first | omega | (simp only [rm_L_lay, rm_L_pick]; omega), by first | omega | (simp only [rm_L_lay, rm_L_pick]; omega)⟩ (fun z24 σ25 H locs hp26 hH => ?_)
                          obtain ⟨hz27, hu28⟩ := hp26
                          rw [hu28] at hH
                          refine x_iconst hx hb dL_lay_225 ?_
                          refine x_cSW (As := [.ref (xad E 0), .int (iZ 2), .int (iZ z19), .int (iZ z24), .int (iZ 0)]) (rest := [.int (iZ w6)]) hx hb hml hts hown hK hST hOK hH (c_L_deed_2 l E ST hSF hSX htr σ12 z19 z24 0 B2 S Y fcw_0 (by omega) (by omega) (by omega)) (vx_cwSW 5 hts (goodIn_t gK_140) rfl rfl rfl (by decide +kernel) ⟨Nat.le_of_ble_eq_true rfl, Nat.le_of_ble_eq_true rfl⟩) rfl hl.1 rfl (Nat.le_of_ble_eq_true rfl) dL_lay_226 ⟨by first | omega | (simp only [rm_L_deed_2, rm_L_lay, rm_L_pick]; omega), by first | omega | (simp only [rm_L_deed_2, rm_L_lay, rm_L_pick]; omega)⟩ (fun z29 σ30 H locs hp31 hH => ?_)
                          obtain ⟨hz33, fcw_0, fr32⟩ := hp31
                          refine x_iadd hx hb dL_lay_229 ?_
                          refine lv_istore_n (lv' := [(2, .int (iZ (w6 + z29))), (3, .int (iZ k6)), (0, .ref (xad E 0)), (1, .ref zb)]) hx hb dL_lay_230 rfl hl (by decide) rfl (fun ls hl => ?_)
                          refine x_iinc (lv' := [(3, .int (iZ (k6 + 1))), (2, .int (iZ (w6 + z29))), (0, .ref (xad E 0)), (1, .ref zb)]) hx hb dL_lay_231 hl (k := 1) rfl (by decide) rfl (fun ls hl => ?_)
                          refine lv_goto (tgt := 194) hx hb dL_lay_234 (by decide) ?_
                          exact W.widen (by first | omega | (simp only [rm_L_deed_2, rm_L_lay, rm_L_pick]; omega)) (by first | omega | (simp only [rm_L_deed_2, rm_L_lay, rm_L_pick]; omega)) (ih194 (w6 + z29) (k6 + 1) ((fixF (opT B2) (lkT B2) (kpT B2) (wcT B2) (pnT B2) (nwT B2) (shB B2) (wkB B2) z19 z24).2) σ30 _ _ _ (by omega) (by first | omega | rfl | assumption | simp_all) fcw_0 (fun j hj0 => ((fr32 j (by omega)).trans (fr13 j (by omega)))) hH (lv_sub hl [0, 1, 2, 3] rfl))
                    exact W.widen (by first | omega | (simp only [rm_L_lay, rm_L_pick]; omega)) (by first | omega | (simp only [rm_L_lay, rm_L_pick]; omega)) (K194 4 w7 0 B2 σ10 _ _ _ (by first | omega | decide) (by first | omega | rfl | assumption | simp_all) fcw_0 (fun j _ => rfl) hH (lv_sub hl [0, 1, 2, 3] rfl))
                  · refine lv_iload_n hx hb dL_lay_95 rfl (lv_at hl 1 rfl) ?_
                    refine lv_aload_n hx hb dL_lay_96 rfl (lv_at hl 3 rfl) ?_
                    refine x_bipush hx hb dL_lay_97 (by decide) ?_
                    refine lv_iload_n hx hb dL_lay_99 rfl (lv_at hl 0 rfl) ?_
                    refine x_iadd hx hb dL_lay_100 ?_
                    refine x_iconst hx hb dL_lay_101 ?_
                    refine x_cSI (As := [.ref zb, .int (iZ (31 + k7)), .int (iZ 3)]) (rest := [.int (iZ w7)]) hx hb hml hts hown hK hST hOK hH (c_L_pick l E ST hSF zb zL zx hSC hzL σ10 (31 + k7) 3  (by omega) (by omega)) (va_cwS 3 hts (goodIn_t gK_133) rfl rfl rfl (by decide +kernel) ⟨Nat.le_of_ble_eq_true rfl, Nat.le_of_ble_eq_true rfl⟩) rfl hl.1 rfl (Nat.le_of_ble_eq_true rfl) dL_lay_102 ⟨by first | omega | (simp only [rm_L_lay, rm_L_pick]; omega), by first | omega | (simp only [rm_L_lay, rm_L_pick]; omega)⟩ (fun z34 σ35 H locs hp36 hH => ?_)
                    obtain ⟨hz37, hu38⟩ := hp36
                    rw [hu38] at hH
                    refine x_if_ne (tgt := 112) hx hb dL_lay_105 (by decide) (by omega) (fun c105 => ?_) (fun c105 => ?_)
                    · refine lv_aload_n hx hb dL_lay_112 rfl (lv_at hl 2 rfl) ?_
                      refine x_bipush hx hb dL_lay_113 (by decide) ?_
                      refine lv_aload_n hx hb dL_lay_115 rfl (lv_at hl 3 rfl) ?_
                      refine x_bipush hx hb dL_lay_116 (by decide) ?_
                      refine lv_iload_n hx hb dL_lay_118 rfl (lv_at hl 0 rfl) ?_
                      refine x_iadd hx hb dL_lay_119 ?_
                      refine x_iconst hx hb dL_lay_120 ?_
                      refine x_cSI (As := [.ref zb, .int (iZ (41 + k7)), .int (iZ 5)]) (rest := [.int (iZ 6), .ref (xad E 0), .int (iZ w7)]) hx hb hml hts hown hK hST hOK hH (c_L_pick l E ST hSF zb zL zx hSC hzL σ10 (41 + k7) 5  (by omega) (by omega)) (va_cwS 3 hts (goodIn_t gK_133) rfl rfl rfl (by decide +kernel) ⟨Nat.le_of_ble_eq_true rfl, Nat.le_of_ble_eq_true rfl⟩) rfl hl.1 rfl (Nat.le_of_ble_eq_true rfl) dL_lay_121 ⟨by first | omega | (simp only [rm_L_lay, rm_L_pick]; omega), by first | omega | (simp only [rm_L_lay, rm_L_pick]; omega)⟩ (fun z39 σ40 H locs hp41 hH => ?_)
                      obtain ⟨hz42, hu43⟩ := hp41
                      rw [hu43] at hH
                      refine lv_aload_n hx hb dL_lay_124 rfl (lv_at hl 3 rfl) ?_
                      refine x_bipush hx hb dL_lay_125 (by decide) ?_
                      refine lv_iload_n hx hb dL_lay_127 rfl (lv_at hl 0 rfl) ?_
                      refine x_iadd hx hb dL_lay_128 ?_
                      refine x_iconst hx hb dL_lay_129 ?_
                      refine x_cSI (As := [.ref zb, .int (iZ (51 + k7)), .int (iZ 5)]) (rest := [.int (iZ z39), .int (iZ 6), .ref (xad E 0), .int (iZ w7)]) hx hb hml hts hown hK hST hOK hH (c_L_pick l E ST hSF zb zL zx hSC hzL σ10 (51 + k7) 5  (by omega) (by omega)) (va_cwS 3 hts (goodIn_t gK_133) rfl rfl rfl (by decide +kernel) ⟨Nat.le_of_ble_eq_true rfl, Nat.le_of_ble_eq_true rfl⟩) rfl hl.1 rfl (Nat.le_of_ble_eq_true rfl) dL_lay_130 ⟨by first | omega | (simp only [rm_L_lay, rm_L_pick]; omega), by first | omega | (simp only [rm_L_lay, rm_L_pick]; omega)⟩ (fun z44 σ45 H locs hp46 hH => ?_)
                      obtain ⟨hz47, hu48⟩ := hp46
                      rw [hu48] at hH
                      refine lv_iload_n hx hb dL_lay_133 rfl (lv_at hl 0 rfl) ?_
                      refine x_cSW (As := [.ref (xad E 0), .int (iZ 6), .int (iZ z39), .int (iZ z44), .int (iZ k7)]) (rest := [.int (iZ w7)]) hx hb hml hts hown hK hST hOK hH (c_L_deed_6 l E ST hSF hSX htr σ10 z39 z44 k7 B2 S Y fcw_0 (by omega) (by omega) (by omega)) (vx_cwSW 5 hts (goodIn_t gK_140) rfl rfl rfl (by decide +kernel) ⟨Nat.le_of_ble_eq_true rfl, Nat.le_of_ble_eq_true rfl⟩) rfl hl.1 rfl (Nat.le_of_ble_eq_true rfl) dL_lay_134 ⟨by first | omega | (simp only [rm_L_deed_6, rm_L_lay, rm_L_pick]; omega), by first | omega | (simp only [rm_L_deed_6, rm_L_lay, rm_L_pick]; omega)⟩ (fun z49 σ50 H locs hp51 hH => ?_)
                      obtain ⟨hz53, fcw_0, fr52⟩ := hp51
                      refine x_iadd hx hb dL_lay_137 ?_
                      refine lv_istore_n (lv' := [(2, .int (iZ (w7 + z49))), (3, .int (iZ k7)), (0, .ref (xad E 0)), (1, .ref zb)]) hx hb dL_lay_138 rfl hl (by decide) rfl (fun ls hl => ?_)
                      refine lv_iload_n hx hb dL_lay_139 rfl (lv_at hl 0 rfl) ?_
                      refine lv_aload_n hx hb dL_lay_140 rfl (lv_at hl 3 rfl) ?_
                      refine x_bipush hx hb dL_lay_141 (by decide) ?_
                      refine lv_iload_n hx hb dL_lay_143 rfl (lv_at hl 1 rfl) ?_
                      refine x_iadd hx hb dL_lay_144 ?_
                      refine x_iconst hx hb dL_lay_145 ?_
                      refine x_cSI (As := [.ref zb, .int (iZ (61 + k7)), .int (iZ 2)]) (rest := [.int (iZ (w7 + z49))]) hx hb hml hts hown hK hST hOK hH (c_L_pick l E ST hSF zb zL zx hSC hzL σ50 (61 + k7) 2  (by omega) (by omega)) (va_cwS 3 hts (goodIn_t gK_133) rfl rfl rfl (by decide +kernel) ⟨Nat.le_of_ble_eq_true rfl, Nat.le_of_ble_eq_true rfl⟩) rfl hl.1 rfl (Nat.le_of_ble_eq_true rfl) dL_lay_146 ⟨by first | omega | (simp only [rm_L_deed_6, rm_L_lay, rm_L_pick]; omega), by first | omega | (simp only [rm_L_deed_6, rm_L_lay, rm_L_pick]; omega)⟩ (fun z54 σ55 H locs hp56 hH => ?_)
                      obtain ⟨hz57, hu58⟩ := hp56
                      rw [hu58] at hH
                      refine lv_aload_n hx hb dL_lay_149 rfl (lv_at hl 2 rfl) ?_
                      refine x_bipush hx hb dL_lay_150 (by decide) ?_
                      refine lv_aload_n hx hb dL_lay_152 rfl (lv_at hl 3 rfl) ?_
                      refine x_bipush hx hb dL_lay_153 (by decide) ?_
                      refine lv_iload_n hx hb dL_lay_155 rfl (lv_at hl 1 rfl) ?_
                      refine x_iadd hx hb dL_lay_156 ?_
                      refine x_iconst hx hb dL_lay_157 ?_
                      refine x_cSI (As := [.ref zb, .int (iZ (71 + k7)), .int (iZ 5)]) (rest := [.int (iZ 7), .ref (xad E 0), .int (iZ z54), .int (iZ (w7 + z49))]) hx hb hml hts hown hK hST hOK hH (c_L_pick l E ST hSF zb zL zx hSC hzL σ50 (71 + k7) 5  (by omega) (by omega)) (va_cwS 3 hts (goodIn_t gK_133) rfl rfl rfl (by decide +kernel) ⟨Nat.le_of_ble_eq_true rfl, Nat.le_of_ble_eq_true rfl⟩) rfl hl.1 rfl (Nat.le_of_ble_eq_true rfl) dL_lay_158 ⟨by first | omega | (simp only [rm_L_deed_6, rm_L_lay, rm_L_pick]; omega), by first | omega | (simp only [rm_L_deed_6, rm_L_lay, rm_L_pick]; omega)⟩ (fun z59 σ60 H locs hp61 hH => ?_)
                      obtain ⟨hz62, hu63⟩ := hp61
                      rw [hu63] at hH
                      refine lv_aload_n hx hb dL_lay_161 rfl (lv_at hl 3 rfl) ?_
                      refine x_bipush hx hb dL_lay_162 (by decide) ?_
                      refine lv_iload_n hx hb dL_lay_164 rfl (lv_at hl 1 rfl) ?_
                      refine x_iadd hx hb dL_lay_165 ?_
                      refine x_iconst hx hb dL_lay_166 ?_
                      refine x_cSI (As := [.ref zb, .int (iZ (81 + k7)), .int (iZ 5)]) (rest := [.int (iZ z59), .int (iZ 7), .ref (xad E 0), .int (iZ z54), .int (iZ (w7 + z49))]) hx hb hml hts hown hK hST hOK hH (c_L_pick l E ST hSF zb zL zx hSC hzL σ50 (81 + k7) 5  (by omega) (by omega)) (va_cwS 3 hts (goodIn_t gK_133) rfl rfl rfl (by decide +kernel) ⟨Nat.le_of_ble_eq_true rfl, Nat.le_of_ble_eq_true rfl⟩) rfl hl.1 rfl (Nat.le_of_ble_eq_true rfl) dL_lay_167 ⟨by first | omega | (simp only [rm_L_deed_6, rm_L_lay, rm_L_pick]; omega), by first | omega | (simp only [rm_L_deed_6, rm_L_lay, rm_L_pick]; omega)⟩ (fun z64 σ65 H locs hp66 hH => ?_)
                      obtain ⟨hz67, hu68⟩ := hp66
                      rw [hu68] at hH
                      refine lv_aload_n hx hb dL_lay_170 rfl (lv_at hl 3 rfl) ?_
                      refine x_bipush hx hb dL_lay_171 (by decide) ?_
                      refine lv_iload_n hx hb dL_lay_173 rfl (lv_at hl 1 rfl) ?_
                      refine x_iadd hx hb dL_lay_174 ?_
                      refine x_bipush hx hb dL_lay_175 (by decide) ?_
                      refine x_cSI (As := [.ref zb, .int (iZ (91 + k7)), .int (iZ 6)]) (rest := [.int (iZ z64), .int (iZ z59), .int (iZ 7), .ref (xad E 0), .int (iZ z54), .int (iZ (w7 + z49))]) hx hb hml hts hown hK hST hOK hH (c_L_pick l E ST hSF zb zL zx hSC hzL σ50 (91 + k7) 6  (by omega) (by omega)) (va_cwS 3 hts (goodIn_t gK_133) rfl rfl rfl (by decide +kernel) ⟨Nat.le_of_ble_eq_true rfl, Nat.le_of_ble_eq_true rfl⟩) rfl hl.1 rfl (Nat.le_of_ble_eq_true rfl) dL_lay_177 ⟨by first | omega | (simp only [rm_L_deed_6, rm_L_lay, rm_L_pick]; omega), by first | omega | (simp only [rm_L_deed_6, rm_L_lay, rm_L_pick]; omega)⟩ (fun z69 σ70 H locs hp71 hH => ?_)
                      obtain ⟨hz72, hu73⟩ := hp71
                      rw [hu73] at hH
                      refine x_cSW (As := [.ref (xad E 0), .int (iZ 7), .int (iZ z59), .int (iZ z64), .int (iZ z69)]) (rest := [.int (iZ z54), .int (iZ (w7 + z49))]) hx hb hml hts hown hK hST hOK hH (c_L_deed_7 l E ST hSF hSX htr σ50 z59 z64 z69 ((layF (opT B2) (lkT B2) (kpT B2) (wcT B2) (pnT B2) (nwT B2) (shB B2) (wkB B2) (i2cZ (97 + k7)) z39 z44).2) S Y fcw_0 (by omega) (by omega) (by omega)) (vx_cwSW 5 hts (goodIn_t gK_140) rfl rfl rfl (by decide +kernel) ⟨Nat.le_of_ble_eq_true rfl, Nat.le_of_ble_eq_true rfl⟩) rfl hl.1 rfl (Nat.le_of_ble_eq_true rfl) dL_lay_180 ⟨by first | omega | (simp only [rm_L_deed_6, rm_L_deed_7, rm_L_lay, rm_L_pick]; omega), by first | omega | (simp only [rm_L_deed_6, rm_L_deed_7, rm_L_lay, rm_L_pick]; omega)⟩ (fun z74 σ75 H locs hp76 hH => ?_)
                      obtain ⟨hz78, fcw_0, fr77⟩ := hp76
                      refine x_imul hx hb dL_lay_183 ?_
                      refine x_iadd hx hb dL_lay_184 ?_
                      refine lv_istore_n (lv' := [(2, .int (iZ ((w7 + z49) + (z54 * z74)))), (3, .int (iZ k7)), (0, .ref (xad E 0)), (1, .ref zb)]) hx hb dL_lay_185 rfl hl (by decide) rfl (fun ls hl => ?_)
                      refine x_iinc (lv' := [(3, .int (iZ (k7 + 1))), (2, .int (iZ ((w7 + z49) + (z54 * z74)))), (0, .ref (xad E 0)), (1, .ref zb)]) hx hb dL_lay_186 hl (k := 1) rfl (by decide) rfl (fun ls hl => ?_)
                      refine lv_goto (tgt := 89) hx hb dL_lay_189 (by decide) ?_
                      exact W.widen (by first | omega | (simp only [rm_L_deed_6, rm_L_deed_7, rm_L_lay, rm_L_pick]; omega)) (by first | omega | (simp only [rm_L_deed_6, rm_L_deed_7, rm_L_lay, rm_L_pick]; omega)) (ih89 ((w7 + z49) + (z54 * z74)) (k7 + 1) ((hangF (opT ((layF (opT B2) (lkT B2) (kpT B2) (wcT B2) (pnT B2) (nwT B2) (shB B2) (wkB B2) (i2cZ (97 + k7)) z39 z44).2)) (lkT ((layF (opT B2) (lkT B2) (kpT B2) (wcT B2) (pnT B2) (nwT B2) (shB B2) (wkB B2) (i2cZ (97 + k7)) z39 z44).2)) (kpT ((layF (opT B2) (lkT B2) (kpT B2) (wcT B2) (pnT B2) (nwT B2) (shB B2) (wkB B2) (i2cZ (97 + k7)) z39 z44).2)) (wcT ((layF (opT B2) (lkT B2) (kpT B2) (wcT B2) (pnT B2) (nwT B2) (shB B2) (wkB B2) (i2cZ (97 + k7)) z39 z44).2)) (pnT ((layF (opT B2) (lkT B2) (kpT B2) (wcT B2) (pnT B2) (nwT B2) (shB B2) (wkB B2) (i2cZ (97 + k7)) z39 z44).2)) (nwT ((layF (opT B2) (lkT B2) (kpT B2) (wcT B2) (pnT B2) (nwT B2) (shB B2) (wkB B2) (i2cZ (97 + k7)) z39 z44).2)) (shB ((layF (opT B2) (lkT B2) (kpT B2) (wcT B2) (pnT B2) (nwT B2) (shB B2) (wkB B2) (i2cZ (97 + k7)) z39 z44).2)) (wkB ((layF (opT B2) (lkT B2) (kpT B2) (wcT B2) (pnT B2) (nwT B2) (shB B2) (wkB B2) (i2cZ (97 + k7)) z39 z44).2)) z59 z64 (i2cZ (97 + z69))).2) σ75 _ _ _ (by omega) (by first | omega | rfl | assumption | simp_all) fcw_0 (fun j hj0 => ((fr77 j (by omega)).trans ((fr52 j (by omega)).trans (fr11 j (by omega))))) hH (lv_sub hl [0, 1, 2, 3] rfl))
                    · refine x_iconst hx hb dL_lay_108 ?_
                      refine lv_goto (tgt := 137) hx hb dL_lay_109 (by decide) ?_
                      refine x_iadd hx hb dL_lay_137 ?_
                      refine lv_istore_n (lv' := [(2, .int (iZ (w7 + 0))), (3, .int (iZ k7)), (0, .ref (xad E 0)), (1, .ref zb)]) hx hb dL_lay_138 rfl hl (by decide) rfl (fun ls hl => ?_)
                      refine lv_iload_n hx hb dL_lay_139 rfl (lv_at hl 0 rfl) ?_
                      refine lv_aload_n hx hb dL_lay_140 rfl (lv_at hl 3 rfl) ?_
                      refine x_bipush hx hb dL_lay_141 (by decide) ?_
                      refine lv_iload_n hx hb dL_lay_143 rfl (lv_at hl 1 rfl) ?_
                      refine x_iadd hx hb dL_lay_144 ?_
                      refine x_iconst hx hb dL_lay_145 ?_
                      refine x_cSI (As := [.ref zb, .int (iZ (61 + k7)), .int (iZ 2)]) (rest := [.int (iZ (w7 + 0))]) hx hb hml hts hown hK hST hOK hH (c_L_pick l E ST hSF zb zL zx hSC hzL σ10 (61 + k7) 2  (by omega) (by omega)) (va_cwS 3 hts (goodIn_t gK_133) rfl rfl rfl (by decide +kernel) ⟨Nat.le_of_ble_eq_true rfl, Nat.le_of_ble_eq_true rfl⟩) rfl hl.1 rfl (Nat.le_of_ble_eq_true rfl) dL_lay_146 ⟨by first | omega | (simp only [rm_L_lay, rm_L_pick]; omega), by first | omega | (simp only [rm_L_lay, rm_L_pick]; omega)⟩ (fun z79 σ80 H locs hp81 hH => ?_)
                      obtain ⟨hz82, hu83⟩ := hp81
                      rw [hu83] at hH
                      refine lv_aload_n hx hb dL_lay_149 rfl (lv_at hl 2 rfl) ?_
                      refine x_bipush hx hb dL_lay_150 (by decide) ?_
                      refine lv_aload_n hx hb dL_lay_152 rfl (lv_at hl 3 rfl) ?_
                      refine x_bipush hx hb dL_lay_153 (by decide) ?_
                      refine lv_iload_n hx hb dL_lay_155 rfl (lv_at hl 1 rfl) ?_
                      refine x_iadd hx hb dL_lay_156 ?_
                      refine x_iconst hx hb dL_lay_157 ?_
                      refine x_cSI (As := [.ref zb, .int (iZ (71 + k7)), .int (iZ 5)]) (rest := [.int (iZ 7), .ref (xad E 0), .int (iZ z79), .int (iZ (w7 + 0))]) hx hb hml hts hown hK hST hOK hH (c_L_pick l E ST hSF zb zL zx hSC hzL σ10 (71 + k7) 5  (by omega) (by omega)) (va_cwS 3 hts (goodIn_t gK_133) rfl rfl rfl (by decide +kernel) ⟨Nat.le_of_ble_eq_true rfl, Nat.le_of_ble_eq_true rfl⟩) rfl hl.1 rfl (Nat.le_of_ble_eq_true rfl) dL_lay_158 ⟨by first | omega | (simp only [rm_L_lay, rm_L_pick]; omega), by first | omega | (simp only [rm_L_lay, rm_L_pick]; omega)⟩ (fun z84 σ85 H locs hp86 hH => ?_)
                      obtain ⟨hz87, hu88⟩ := hp86
                      rw [hu88] at hH
                      refine lv_aload_n hx hb dL_lay_161 rfl (lv_at hl 3 rfl) ?_
                      refine x_bipush hx hb dL_lay_162 (by decide) ?_
                      refine lv_iload_n hx hb dL_lay_164 rfl (lv_at hl 1 rfl) ?_
                      refine x_iadd hx hb dL_lay_165 ?_
                      refine x_iconst hx hb dL_lay_166 ?_
                      refine x_cSI (As := [.ref zb, .int (iZ (81 + k7)), .int (iZ 5)]) (rest := [.int (iZ z84), .int (iZ 7), .ref (xad E 0), .int (iZ z79), .int (iZ (w7 + 0))]) hx hb hml hts hown hK hST hOK hH (c_L_pick l E ST hSF zb zL zx hSC hzL σ10 (81 + k7) 5  (by omega) (by omega)) (va_cwS 3 hts (goodIn_t gK_133) rfl rfl rfl (by decide +kernel) ⟨Nat.le_of_ble_eq_true rfl, Nat.le_of_ble_eq_true rfl⟩) rfl hl.1 rfl (Nat.le_of_ble_eq_true rfl) dL_lay_167 ⟨by first | omega | (simp only [rm_L_lay, rm_L_pick]; omega), by first | omega | (simp only [rm_L_lay, rm_L_pick]; omega)⟩ (fun z89 σ90 H locs hp91 hH => ?_)
                      obtain ⟨hz92, hu93⟩ := hp91
                      rw [hu93] at hH
                      refine lv_aload_n hx hb dL_lay_170 rfl (lv_at hl 3 rfl) ?_
                      refine x_bipush hx hb dL_lay_171 (by decide) ?_
                      refine lv_iload_n hx hb dL_lay_173 rfl (lv_at hl 1 rfl) ?_
                      refine x_iadd hx hb dL_lay_174 ?_
                      refine x_bipush hx hb dL_lay_175 (by decide) ?_
                      refine x_cSI (As := [.ref zb, .int (iZ (91 + k7)), .int (iZ 6)]) (rest := [.int (iZ z89), .int (iZ z84), .int (iZ 7), .ref (xad E 0), .int (iZ z79), .int (iZ (w7 + 0))]) hx hb hml hts hown hK hST hOK hH (c_L_pick l E ST hSF zb zL zx hSC hzL σ10 (91 + k7) 6  (by omega) (by omega)) (va_cwS 3 hts (goodIn_t gK_133) rfl rfl rfl (by decide +kernel) ⟨Nat.le_of_ble_eq_true rfl, Nat.le_of_ble_eq_true rfl⟩) rfl hl.1 rfl (Nat.le_of_ble_eq_true rfl) dL_lay_177 ⟨by first | omega | (simp only [rm_L_lay, rm_L_pick]; omega), by first | omega | (simp only [rm_L_lay, rm_L_pick]; omega)⟩ (fun z94 σ95 H locs hp96 hH => ?_)
                      obtain ⟨hz97, hu98⟩ := hp96
                      rw [hu98] at hH
                      refine x_cSW (As := [.ref (xad E 0), .int (iZ 7), .int (iZ z84), .int (iZ z89), .int (iZ z94)]) (rest := [.int (iZ z79), .int (iZ (w7 + 0))]) hx hb hml hts hown hK hST hOK hH (c_L_deed_7 l E ST hSF hSX htr σ10 z84 z89 z94 B2 S Y fcw_0 (by omega) (by omega) (by omega)) (vx_cwSW 5 hts (goodIn_t gK_140) rfl rfl rfl (by decide +kernel) ⟨Nat.le_of_ble_eq_true rfl, Nat.le_of_ble_eq_true rfl⟩) rfl hl.1 rfl (Nat.le_of_ble_eq_true rfl) dL_lay_180 ⟨by first | omega | (simp only [rm_L_deed_7, rm_L_lay, rm_L_pick]; omega), by first | omega | (simp only [rm_L_deed_7, rm_L_lay, rm_L_pick]; omega)⟩ (fun z99 σ100 H locs hp101 hH => ?_)
                      obtain ⟨hz103, fcw_0, fr102⟩ := hp101
                      refine x_imul hx hb dL_lay_183 ?_
                      refine x_iadd hx hb dL_lay_184 ?_
                      refine lv_istore_n (lv' := [(2, .int (iZ ((w7 + 0) + (z79 * z99)))), (3, .int (iZ k7)), (0, .ref (xad E 0)), (1, .ref zb)]) hx hb dL_lay_185 rfl hl (by decide) rfl (fun ls hl => ?_)
                      refine x_iinc (lv' := [(3, .int (iZ (k7 + 1))), (2, .int (iZ ((w7 + 0) + (z79 * z99)))), (0, .ref (xad E 0)), (1, .ref zb)]) hx hb dL_lay_186 hl (k := 1) rfl (by decide) rfl (fun ls hl => ?_)
                      refine lv_goto (tgt := 89) hx hb dL_lay_189 (by decide) ?_
                      exact W.widen (by first | omega | (simp only [rm_L_deed_7, rm_L_lay, rm_L_pick]; omega)) (by first | omega | (simp only [rm_L_deed_7, rm_L_lay, rm_L_pick]; omega)) (ih89 ((w7 + 0) + (z79 * z99)) (k7 + 1) ((hangF (opT B2) (lkT B2) (kpT B2) (wcT B2) (pnT B2) (nwT B2) (shB B2) (wkB B2) z84 z89 (i2cZ (97 + z94))).2) σ100 _ _ _ (by omega) (by first | omega | rfl | assumption | simp_all) fcw_0 (fun j hj0 => ((fr102 j (by omega)).trans (fr11 j (by omega)))) hH (lv_sub hl [0, 1, 2, 3] rfl))
              exact W.widen (by first | omega | (simp only [rm_L_lay, rm_L_pick]; omega)) (by first | omega | (simp only [rm_L_lay, rm_L_pick]; omega)) (K89 7 w8 0 B2 σ3 _ _ _ (by first | omega | decide) (by first | omega | rfl | assumption | simp_all) fcw_0 (fun j _ => rfl) hH (lv_sub hl [0, 1, 2, 3] rfl))
            · refine lv_iload_n hx hb dL_lay_53 rfl (lv_at hl 1 rfl) ?_
              refine lv_aload_n hx hb dL_lay_54 rfl (lv_at hl 2 rfl) ?_
              refine x_bipush hx hb dL_lay_55 (by decide) ?_
              refine lv_aload_n hx hb dL_lay_57 rfl (lv_at hl 3 rfl) ?_
              refine x_bipush hx hb dL_lay_58 (by decide) ?_
              refine lv_iload_n hx hb dL_lay_60 rfl (lv_at hl 0 rfl) ?_
              refine x_iadd hx hb dL_lay_61 ?_
              refine x_iconst hx hb dL_lay_62 ?_
              refine x_cSI (As := [.ref zb, .int (iZ (11 + k8)), .int (iZ 5)]) (rest := [.int (iZ 9), .ref (xad E 0), .int (iZ w8)]) hx hb hml hts hown hK hST hOK hH (c_L_pick l E ST hSF zb zL zx hSC hzL σ3 (11 + k8) 5  (by omega) (by omega)) (va_cwS 3 hts (goodIn_t gK_133) rfl rfl rfl (by decide +kernel) ⟨Nat.le_of_ble_eq_true rfl, Nat.le_of_ble_eq_true rfl⟩) rfl hl.1 rfl (Nat.le_of_ble_eq_true rfl) dL_lay_63 ⟨by first | omega | (simp only [rm_L_lay, rm_L_pick]; omega), by first | omega | (simp only [rm_L_lay, rm_L_pick]; omega)⟩ (fun z104 σ105 H locs hp106 hH => ?_)
              obtain ⟨hz107, hu108⟩ := hp106
              rw [hu108] at hH
              refine lv_aload_n hx hb dL_lay_66 rfl (lv_at hl 3 rfl) ?_
              refine x_bipush hx hb dL_lay_67 (by decide) ?_
              refine lv_iload_n hx hb dL_lay_69 rfl (lv_at hl 0 rfl) ?_
              refine x_iadd hx hb dL_lay_70 ?_
              refine x_iconst hx hb dL_lay_71 ?_
              refine x_cSI (As := [.ref zb, .int (iZ (21 + k8)), .int (iZ 5)]) (rest := [.int (iZ z104), .int (iZ 9), .ref (xad E 0), .int (iZ w8)]) hx hb hml hts hown hK hST hOK hH (c_L_pick l E ST hSF zb zL zx hSC hzL σ3 (21 + k8) 5  (by omega) (by omega)) (va_cwS 3 hts (goodIn_t gK_133) rfl rfl rfl (by decide +kernel) ⟨Nat.le_of_ble_eq_true rfl, Nat.le_of_ble_eq_true rfl⟩) rfl hl.1 rfl (Nat.le_of_ble_eq_true rfl) dL_lay_72 ⟨by first | omega | (simp only [rm_L_lay, rm_L_pick]; omega), by first | omega | (simp only [rm_L_lay, rm_L_pick]; omega)⟩ (fun z109 σ110 H locs hp111 hH => ?_)
              obtain ⟨hz112, hu113⟩ := hp111
              rw [hu113] at hH
              refine x_iconst hx hb dL_lay_75 ?_
              refine x_cSW (As := [.ref (xad E 0), .int (iZ 9), .int (iZ z104), .int (iZ z109), .int (iZ 0)]) (rest := [.int (iZ w8)]) hx hb hml hts hown hK hST hOK hH (c_L_deed_9 l E ST hSF hSX htr σ3 z104 z109 0 B2 S Y fcw_0 (by omega) (by omega) (by omega)) (vx_cwSW 5 hts (goodIn_t gK_140) rfl rfl rfl (by decide +kernel) ⟨Nat.le_of_ble_eq_true rfl, Nat.le_of_ble_eq_true rfl⟩) rfl hl.1 rfl (Nat.le_of_ble_eq_true rfl) dL_lay_76 ⟨by first | omega | (simp only [rm_L_deed_9, rm_L_lay, rm_L_pick]; omega), by first | omega | (simp only [rm_L_deed_9, rm_L_lay, rm_L_pick]; omega)⟩ (fun z114 σ115 H locs hp116 hH => ?_)
              obtain ⟨hz118, fcw_0, fr117⟩ := hp116
              refine x_iadd hx hb dL_lay_79 ?_
              refine lv_istore_n (lv' := [(2, .int (iZ (w8 + z114))), (3, .int (iZ k8)), (0, .ref (xad E 0)), (1, .ref zb)]) hx hb dL_lay_80 rfl hl (by decide) rfl (fun ls hl => ?_)
              refine x_iinc (lv' := [(3, .int (iZ (k8 + 1))), (2, .int (iZ (w8 + z114))), (0, .ref (xad E 0)), (1, .ref zb)]) hx hb dL_lay_81 hl (k := 1) rfl (by decide) rfl (fun ls hl => ?_)
              refine lv_goto (tgt := 43) hx hb dL_lay_84 (by decide) ?_
              exact W.widen (by first | omega | (simp only [rm_L_deed_9, rm_L_lay, rm_L_pick]; omega)) (by first | omega | (simp only [rm_L_deed_9, rm_L_lay, rm_L_pick]; omega)) (ih43 (w8 + z114) (k8 + 1) ((enterF (opT B2) (lkT B2) (kpT B2) (wcT B2) (pnT B2) (nwT B2) (shB B2) (wkB B2) z104 z109).2) σ115 _ _ _ (by omega) (by first | omega | rfl | assumption | simp_all) fcw_0 (fun j hj0 => ((fr117 j (by omega)).trans (fr4 j (by omega)))) hH (lv_sub hl [0, 1, 2, 3] rfl))
        exact W.widen (by first | omega | (simp only [rm_L_lay]; omega)) (by first | omega | (simp only [rm_L_lay]; omega)) (K43 5 w9 0 B2 σ1 _ _ _ (by first | omega | decide) (by first | omega | rfl | assumption | simp_all) fcw_0 (fun j _ => rfl) hH (lv_sub hl [0, 1, 2, 3] rfl))
      · refine lv_iload_n hx hb dL_lay_10 rfl (lv_at hl 1 rfl) ?_
        refine lv_aload_n hx hb dL_lay_11 rfl (lv_at hl 2 rfl) ?_
        refine x_iconst hx hb dL_lay_12 ?_
        refine lv_iload_n hx hb dL_lay_13 rfl (lv_at hl 0 rfl) ?_
        refine x_iconst hx hb dL_lay_14 ?_
        refine x_idiv hx hb dL_lay_15 (by omega) (by omega) (by omega) (by omega) ?_
        refine lv_iload_n hx hb dL_lay_16 rfl (lv_at hl 0 rfl) ?_
        refine x_iconst hx hb dL_lay_17 ?_
        refine x_irem hx hb dL_lay_18 (by omega) (by omega) (by omega) (by omega) ?_
        refine lv_aload_n hx hb dL_lay_19 rfl (lv_at hl 3 rfl) ?_
        refine x_sipush hx hb dL_lay_20 (by decide) ?_
        refine x_iconst hx hb dL_lay_23 ?_
        refine lv_iload_n hx hb dL_lay_24 rfl (lv_at hl 0 rfl) ?_
        refine x_imul hx hb dL_lay_25 ?_
        refine x_iadd hx hb dL_lay_26 ?_
        refine x_cSI (As := [.ref zb, .int (iZ (400 + (2 * k)))]) (rest := [.int (iZ (k % 5)), .int (iZ (k / 5)), .int (iZ 0), .ref (xad E 0), .int (iZ w9)]) hx hb hml hts hown hK hST hOK hH (c_L_tile l E ST hSF zb zL zx hSC hzL σ1 (400 + (2 * k))  (by omega)) (va_cwS 2 hts (goodIn_t gK_137) rfl rfl rfl (by decide +kernel) ⟨Nat.le_of_ble_eq_true rfl, Nat.le_of_ble_eq_true rfl⟩) rfl hl.1 rfl (Nat.le_of_ble_eq_true rfl) dL_lay_27 ⟨by first | omega | (simp only [rm_L_lay, rm_L_tile]; omega), by first | omega | (simp only [rm_L_lay, rm_L_tile]; omega)⟩ (fun z119 σ120 H locs hp121 hH => ?_)
        obtain ⟨hz122, hu123⟩ := hp121
        rw [hu123] at hH
        refine x_cSW (As := [.ref (xad E 0), .int (iZ 0), .int (iZ (k / 5)), .int (iZ (k % 5)), .int (iZ z119)]) (rest := [.int (iZ w9)]) hx hb hml hts hown hK hST hOK hH (c_L_deed_0 l E ST hSF hSX htr σ1 (k / 5) (k % 5) z119 B2 S Y fcw_0 (by omega) (by omega) (by omega)) (vx_cwSW 5 hts (goodIn_t gK_140) rfl rfl rfl (by decide +kernel) ⟨Nat.le_of_ble_eq_true rfl, Nat.le_of_ble_eq_true rfl⟩) rfl hl.1 rfl (Nat.le_of_ble_eq_true rfl) dL_lay_30 ⟨by first | omega | (simp only [rm_L_deed_0, rm_L_lay, rm_L_tile]; omega), by first | omega | (simp only [rm_L_deed_0, rm_L_lay, rm_L_tile]; omega)⟩ (fun z124 σ125 H locs hp126 hH => ?_)
        obtain ⟨hz128, fcw_0, fr127⟩ := hp126
        refine x_iadd hx hb dL_lay_33 ?_
        refine lv_istore_n (lv' := [(2, .int (iZ (w9 + z124))), (3, .int (iZ k)), (0, .ref (xad E 0)), (1, .ref zb)]) hx hb dL_lay_34 rfl hl (by decide) rfl (fun ls hl => ?_)
        refine x_iinc (lv' := [(3, .int (iZ (k + 1))), (2, .int (iZ (w9 + z124))), (0, .ref (xad E 0)), (1, .ref zb)]) hx hb dL_lay_35 hl (k := 1) rfl (by decide) rfl (fun ls hl => ?_)
        refine lv_goto (tgt := 4) hx hb dL_lay_38 (by decide) ?_
        exact W.widen (by first | omega | (simp only [rm_L_deed_0, rm_L_lay, rm_L_tile]; omega)) (by first | omega | (simp only [rm_L_deed_0, rm_L_lay, rm_L_tile]; omega)) (ih4 (w9 + z124) (k + 1) ((setF (opT B2) (lkT B2) (kpT B2) (wcT B2) (pnT B2) (nwT B2) (shB B2) (wkB B2) (k / 5) (k % 5) z119).2) σ125 _ _ _ (by omega) (by first | omega | rfl | assumption | simp_all) fcw_0 (fun j hj0 => ((fr127 j (by omega)).trans (fr2 j (by omega)))) hH (lv_sub hl [0, 1, 2, 3] rfl))
  exact W.widen (by first | omega | (simp only [rm_L_lay]; omega)) (by first | omega | (simp only [rm_L_lay]; omega)) (K4 26 0 0 B σ _ _ _ (by first | omega | decide) (by first | omega | rfl | assumption | simp_all) fcw_0 (fun j _ => rfl) hH (lv_sub hl [0, 1, 2, 3] rfl))

def rm_L_any : Room := { frames := 10, cells := 1, slots := 6, locals := 189 }
set_option maxRecDepth 100000 in
set_option maxHeartbeats 4000000 in
theorem c_L_any (l : Launch) (E : xE) (ST : xST) (hSF : SF ST) (zb zL : Nat) (zx : Int → Int) (hSC : SC zb zL zx ST) (hzL : zL ≤ 260) (hSX : SX ST) (htr : l.stackTraces = false) (σ : xW) (i9 : Int) (B : BT) (S : Option BT) (Y : lnQ) (hr0 : cw E σ B S Y) (h0 : 0 ≤ i9 ∧ i9 ≤ 900) : CI l E ST yL_any wML_any rm_L_any [.ref (xad E 0), .ref zb, .int (iZ i9)] σ (fun (z : Int) (u : xW) => (True) ∧ (∃ (B1 : BT), cw E u B1 S Y) ∧ ∀ j : Nat, (j < 0 ∨ 0 + 85 ≤ j) → u j = σ j) := by
  have fcw_0 : cw E σ B S Y := hr0
  refine CI_of (by decide) rfl (Nat.le_of_ble_eq_true rfl) ?_
  intro p e s m args below meth c Q ls G hH hl hQ
  obtain ⟨hx, hb, hml, hown, hts, hK, hST, hlocks, hr, hno⟩ := G
  have hOK := hSF.1
  have hown : s.vm.findClass RL = some m.cls := hown
  have hl : lv_has ls 7 [(0, .ref (xad E 0)), (1, .ref zb), (2, .int (iZ i9))] := hl
  obtain ⟨hop, hlk9, hkp, hwc9, hpn, hnw⟩ : BI (opT B) (lkT B) (kpT B) (wcT B) (pnT B) (nwT B) := fcw_0.bit
  refine lv_aload_n hx hb dL_any_0 rfl (lv_at hl 1 rfl) ?_
  refine lv_iload_n hx hb dL_any_1 rfl (lv_at hl 2 rfl) ?_
  refine x_iconst hx hb dL_any_2 ?_
  refine x_iadd hx hb dL_any_3 ?_
  refine x_iconst hx hb dL_any_4 ?_
  refine x_cSI (As := [.ref zb, .int (iZ (i9 + 1)), .int (iZ 5)]) (rest := []) hx hb hml hts hown hK hST hOK hH (c_L_pick l E ST hSF zb zL zx hSC hzL σ (i9 + 1) 5  (by omega) (by omega)) (va_cwS 3 hts (goodIn_t gK_133) rfl rfl rfl (by decide +kernel) ⟨Nat.le_of_ble_eq_true rfl, Nat.le_of_ble_eq_true rfl⟩) rfl hl.1 rfl (Nat.le_of_ble_eq_true rfl) dL_any_5 ⟨Nat.le_of_ble_eq_true rfl, Nat.le_of_ble_eq_true rfl⟩ (fun z1 σ2 H locs hp3 hH => ?_)
  obtain ⟨hz4, hu5⟩ := hp3
  rw [hu5] at hH
  refine lv_istore_n (lv' := [(3, .int (iZ z1)), (0, .ref (xad E 0)), (1, .ref zb), (2, .int (iZ i9))]) hx hb dL_any_8 rfl hl (by decide) rfl (fun ls hl => ?_)
  refine lv_aload_n hx hb dL_any_9 rfl (lv_at hl 2 rfl) ?_
  refine lv_iload_n hx hb dL_any_10 rfl (lv_at hl 3 rfl) ?_
  refine x_iconst hx hb dL_any_11 ?_
  refine x_iadd hx hb dL_any_12 ?_
  refine x_iconst hx hb dL_any_13 ?_
  refine x_cSI (As := [.ref zb, .int (iZ (i9 + 2)), .int (iZ 5)]) (rest := []) hx hb hml hts hown hK hST hOK hH (c_L_pick l E ST hSF zb zL zx hSC hzL σ (i9 + 2) 5  (by omega) (by omega)) (va_cwS 3 hts (goodIn_t gK_133) rfl rfl rfl (by decide +kernel) ⟨Nat.le_of_ble_eq_true rfl, Nat.le_of_ble_eq_true rfl⟩) rfl hl.1 rfl (Nat.le_of_ble_eq_true rfl) dL_any_14 ⟨Nat.le_of_ble_eq_true rfl, Nat.le_of_ble_eq_true rfl⟩ (fun z6 σ7 H locs hp8 hH => ?_)
  obtain ⟨hz9, hu10⟩ := hp8
  rw [hu10] at hH
  refine lv_istore (lv' := [(4, .int (iZ z6)), (3, .int (iZ z1)), (0, .ref (xad E 0)), (1, .ref zb), (2, .int (iZ i9))]) hx hb dL_any_17 hl (by decide) rfl (fun ls hl => ?_)
  refine lv_aload_n hx hb dL_any_19 rfl (lv_at hl 3 rfl) ?_
  refine lv_iload_n hx hb dL_any_20 rfl (lv_at hl 4 rfl) ?_
  refine x_iconst hx hb dL_any_21 ?_
  refine x_iadd hx hb dL_any_22 ?_
  refine x_iconst hx hb dL_any_23 ?_
  refine lv_aload_n hx hb dL_any_24 rfl (lv_at hl 2 rfl) ?_
  obtain ⟨fs9, hfs9⟩ := fcw_0.o0
  refine x_cVID (As := []) (rest := [.int (iZ 1), .int (iZ (i9 + 3)), .ref zb]) hx hb hml hts hown hK hST hOK hH 0 (q_walkerCount l E ST hSF σ B S Y fcw_0 ) (cwV 0 hts (goodIn_t (goodIn_x gK_143)) rfl rfl rfl (by decide +kernel) ⟨Nat.le_of_ble_eq_true rfl, Nat.le_of_ble_eq_true rfl⟩) (ltw (by decide)) hfs9 rfl rfl hl.1 rfl (Nat.le_of_ble_eq_true rfl) dL_any_25 ⟨Nat.le_of_ble_eq_true rfl, Nat.le_of_ble_eq_true rfl⟩ (fun z u h => h) (fun H locs hH => ?_)
  refine x_max hx hb hml hown hts (List.mem_cons_of_mem _ (List.mem_append_right _ mW_402)) (List.mem_cons_of_mem _ (List.mem_append_right _ mW_312)) (List.mem_cons_of_mem _ (List.mem_append_right _ mW_138)) (List.mem_cons_of_mem _ (List.mem_append_right _ mW_313)) hl.1 (Nat.le_of_ble_eq_true rfl) (Nat.le_of_ble_eq_true rfl) (Nat.le_of_ble_eq_true rfl) (Nat.le_of_ble_eq_true rfl) (by decide) (by omega) dL_any_28 ?_
  refine x_cSI (As := [.ref zb, .int (iZ (i9 + 3)), .int (iZ (if 1 < (nwT B) then (nwT B) else 1))]) (rest := []) hx hb hml hts hown hK hST hOK hH (c_L_pick l E ST hSF zb zL zx hSC hzL σ (i9 + 3) (if 1 < (nwT B) then (nwT B) else 1)  (by omega) (by split <;> omega)) (va_cwS 3 hts (goodIn_t gK_133) rfl rfl rfl (by decide +kernel) ⟨Nat.le_of_ble_eq_true rfl, Nat.le_of_ble_eq_true rfl⟩) rfl hl.1 rfl (Nat.le_of_ble_eq_true rfl) dL_any_31 ⟨Nat.le_of_ble_eq_true rfl, Nat.le_of_ble_eq_true rfl⟩ (fun zw σ14 H locs hp15 hH => ?_)
  obtain ⟨hzw, hu16⟩ := hp15
  rw [hu16] at hH
  have hzw9 : 0 ≤ zw ∧ zw ≤ 3 := by
    refine ⟨hzw.1, ?_⟩
    have h9 := hzw.2
    split at h9 <;> omega
  refine lv_istore (lv' := [(5, .int (iZ zw)), (4, .int (iZ z6)), (3, .int (iZ z1)), (0, .ref (xad E 0)), (1, .ref zb), (2, .int (iZ i9))]) hx hb dL_any_34 hl (by decide) rfl (fun ls hl => ?_)
  refine x_iconst hx hb dL_any_36 ?_
  refine lv_aload_n hx hb dL_any_37 rfl (lv_at hl 4 rfl) ?_
  refine lv_iload_n hx hb dL_any_38 rfl (lv_at hl 5 rfl) ?_
  refine x_iconst hx hb dL_any_39 ?_
  refine x_iadd hx hb dL_any_40 ?_
  refine x_iconst hx hb dL_any_41 ?_
  refine x_cSI (As := [.ref zb, .int (iZ (i9 + 4)), .int (iZ 4)]) (rest := [.int (iZ 1)]) hx hb hml hts hown hK hST hOK hH (c_L_pick l E ST hSF zb zL zx hSC hzL σ (i9 + 4) 4  (by omega) (by omega)) (va_cwS 3 hts (goodIn_t gK_133) rfl rfl rfl (by decide +kernel) ⟨Nat.le_of_ble_eq_true rfl, Nat.le_of_ble_eq_true rfl⟩) rfl hl.1 rfl (Nat.le_of_ble_eq_true rfl) dL_any_42 ⟨Nat.le_of_ble_eq_true rfl, Nat.le_of_ble_eq_true rfl⟩ (fun z17 σ18 H locs hp19 hH => ?_)
  obtain ⟨hz20, hu21⟩ := hp19
  rw [hu21] at hH
  refine x_iadd hx hb dL_any_45 ?_
  refine lv_istore (lv' := [(6, .int (iZ (1 + z17))), (5, .int (iZ zw)), (4, .int (iZ z6)), (3, .int (iZ z1)), (0, .ref (xad E 0)), (1, .ref zb), (2, .int (iZ i9))]) hx hb dL_any_46 hl (by decide) rfl (fun ls hl => ?_)
  refine lv_aload_n hx hb dL_any_48 rfl (lv_at hl 5 rfl) ?_
  refine lv_iload_n hx hb dL_any_49 rfl (lv_at hl 6 rfl) ?_
  refine x_bipush hx hb dL_any_50 (by decide) ?_
  refine x_cSI (As := [.ref zb, .int (iZ i9), .int (iZ 24)]) (rest := []) hx hb hml hts hown hK hST hOK hH (c_L_pick l E ST hSF zb zL zx hSC hzL σ i9 24  (by omega) (by omega)) (va_cwS 3 hts (goodIn_t gK_133) rfl rfl rfl (by decide +kernel) ⟨Nat.le_of_ble_eq_true rfl, Nat.le_of_ble_eq_true rfl⟩) rfl hl.1 rfl (Nat.le_of_ble_eq_true rfl) dL_any_52 ⟨Nat.le_of_ble_eq_true rfl, Nat.le_of_ble_eq_true rfl⟩ (fun z22 σ23 H locs hp24 hH => ?_)
  obtain ⟨hz25, hu26⟩ := hp24
  rw [hu26] at hH
  rcases (show (z22 = 0) ∨ (z22 = 1) ∨ (z22 = 2) ∨ (z22 = 3) ∨ (z22 = 4) ∨ (z22 = 5) ∨ (z22 = 6) ∨ (z22 = 7) ∨ (z22 = 8) ∨ (z22 = 9) ∨ (z22 = 10) ∨ (z22 = 11) ∨ (z22 = 12) ∨ (z22 = 13) ∨ (z22 = 14) ∨ (z22 = 15) ∨ (z22 = 16) ∨ (z22 = 17) ∨ (z22 < 0 ∨ 17 < z22) by omega) with c55 | c55 | c55 | c55 | c55 | c55 | c55 | c55 | c55 | c55 | c55 | c55 | c55 | c55 | c55 | c55 | c55 | c55 | c55
  · refine x_tableIn (tgt := 140) hx hb 0 c55 (by omega) dL_any_55 (by decide) (by decide) rfl (by decide) ?_
    refine lv_aload_n hx hb dL_any_140 rfl (lv_at hl 4 rfl) ?_
    refine x_iconst hx hb dL_any_141 ?_
    refine lv_iload_n hx hb dL_any_142 rfl (lv_at hl 3 rfl) ?_
    refine lv_iload hx hb dL_any_143 (lv_at hl 2 rfl) ?_
    refine lv_aload_n hx hb dL_any_145 rfl (lv_at hl 5 rfl) ?_
    refine lv_iload_n hx hb dL_any_146 rfl (lv_at hl 6 rfl) ?_
    refine x_iconst hx hb dL_any_147 ?_
    refine x_iadd hx hb dL_any_148 ?_
    refine x_cSI (As := [.ref zb, .int (iZ (i9 + 4))]) (rest := [.int (iZ z6), .int (iZ z1), .int (iZ 0), .ref (xad E 0)]) hx hb hml hts hown hK hST hOK hH (c_L_tile l E ST hSF zb zL zx hSC hzL σ (i9 + 4)  (by omega)) (va_cwS 2 hts (goodIn_t gK_137) rfl rfl rfl (by decide +kernel) ⟨Nat.le_of_ble_eq_true rfl, Nat.le_of_ble_eq_true rfl⟩) rfl hl.1 rfl (Nat.le_of_ble_eq_true rfl) dL_any_149 ⟨Nat.le_of_ble_eq_true rfl, Nat.le_of_ble_eq_true rfl⟩ (fun z27 σ28 H locs hp29 hH => ?_)
    obtain ⟨hz30, hu31⟩ := hp29
    rw [hu31] at hH
    refine x_cSW (As := [.ref (xad E 0), .int (iZ 0), .int (iZ z1), .int (iZ z6), .int (iZ z27)]) (rest := []) hx hb hml hts hown hK hST hOK hH (c_L_deed_0 l E ST hSF hSX htr σ z1 z6 z27 B S Y fcw_0 (by omega) (by omega) (by omega)) (vx_cwSW 5 hts (goodIn_t gK_140) rfl rfl rfl (by decide +kernel) ⟨Nat.le_of_ble_eq_true rfl, Nat.le_of_ble_eq_true rfl⟩) rfl hl.1 rfl (Nat.le_of_ble_eq_true rfl) dL_any_152 ⟨Nat.le_of_ble_eq_true rfl, Nat.le_of_ble_eq_true rfl⟩ (fun z32 σ33 H locs hp34 hH => ?_)
    obtain ⟨hz36, fcw_0, fr35⟩ := hp34
    subst hQ
    exact x_iret hx hb hr hlocks hH (Nat.le_of_ble_eq_true rfl) (Nat.le_of_ble_eq_true rfl) ⟨(by trivial), ⟨((setF (opT B) (lkT B) (kpT B) (wcT B) (pnT B) (nwT B) (shB B) (wkB B) z1 z6 z27).2), fcw_0⟩, fun j hj0 => (fr35 j (by omega))⟩ dL_any_155
  · refine x_tableIn (tgt := 156) hx hb 1 c55 (by omega) dL_any_55 (by decide) (by decide) rfl (by decide) ?_
    refine lv_aload_n hx hb dL_any_156 rfl (lv_at hl 4 rfl) ?_
    refine x_iconst hx hb dL_any_157 ?_
    refine lv_iload_n hx hb dL_any_158 rfl (lv_at hl 3 rfl) ?_
    refine lv_iload hx hb dL_any_159 (lv_at hl 2 rfl) ?_
    refine x_iconst hx hb dL_any_161 ?_
    refine lv_aload_n hx hb dL_any_162 rfl (lv_at hl 5 rfl) ?_
    refine lv_iload_n hx hb dL_any_163 rfl (lv_at hl 6 rfl) ?_
    refine x_iconst hx hb dL_any_164 ?_
    refine x_iadd hx hb dL_any_165 ?_
    refine x_iconst hx hb dL_any_166 ?_
    refine x_cSI (As := [.ref zb, .int (iZ (i9 + 4)), .int (iZ 3)]) (rest := [.int (iZ 1), .int (iZ z6), .int (iZ z1), .int (iZ 1), .ref (xad E 0)]) hx hb hml hts hown hK hST hOK hH (c_L_pick l E ST hSF zb zL zx hSC hzL σ (i9 + 4) 3  (by omega) (by omega)) (va_cwS 3 hts (goodIn_t gK_133) rfl rfl rfl (by decide +kernel) ⟨Nat.le_of_ble_eq_true rfl, Nat.le_of_ble_eq_true rfl⟩) rfl hl.1 rfl (Nat.le_of_ble_eq_true rfl) dL_any_167 ⟨Nat.le_of_ble_eq_true rfl, Nat.le_of_ble_eq_true rfl⟩ (fun z37 σ38 H locs hp39 hH => ?_)
    obtain ⟨hz40, hu41⟩ := hp39
    rw [hu41] at hH
    refine x_iadd hx hb dL_any_170 ?_
    refine x_cSW (As := [.ref (xad E 0), .int (iZ 1), .int (iZ z1), .int (iZ z6), .int (iZ (1 + z37))]) (rest := []) hx hb hml hts hown hK hST hOK hH (c_L_deed_1 l E ST hSF hSX htr σ z1 z6 (1 + z37) B S Y fcw_0 (by omega) (by omega) (by omega)) (vx_cwSW 5 hts (goodIn_t gK_140) rfl rfl rfl (by decide +kernel) ⟨Nat.le_of_ble_eq_true rfl, Nat.le_of_ble_eq_true rfl⟩) rfl hl.1 rfl (Nat.le_of_ble_eq_true rfl) dL_any_171 ⟨Nat.le_of_ble_eq_true rfl, Nat.le_of_ble_eq_true rfl⟩ (fun z42 σ43 H locs hp44 hH => ?_)
    obtain ⟨hz46, fcw_0, fr45⟩ := hp44
    subst hQ
    exact x_iret hx hb hr hlocks hH (Nat.le_of_ble_eq_true rfl) (Nat.le_of_ble_eq_true rfl) ⟨(by trivial), ⟨((turnF (opT B) (lkT B) (kpT B) (wcT B) (pnT B) (nwT B) (shB B) (wkB B) z1 z6 (1 + z37)).2), fcw_0⟩, fun j hj0 => (fr45 j (by omega))⟩ dL_any_174
  · refine x_tableIn (tgt := 156) hx hb 2 c55 (by omega) dL_any_55 (by decide) (by decide) rfl (by decide) ?_
    refine lv_aload_n hx hb dL_any_156 rfl (lv_at hl 4 rfl) ?_
    refine x_iconst hx hb dL_any_157 ?_
    refine lv_iload_n hx hb dL_any_158 rfl (lv_at hl 3 rfl) ?_
    refine lv_iload hx hb dL_any_159 (lv_at hl 2 rfl) ?_
    refine x_iconst hx hb dL_any_161 ?_
    refine lv_aload_n hx hb dL_any_162 rfl (lv_at hl 5 rfl) ?_
    refine lv_iload_n hx hb dL_any_163 rfl (lv_at hl 6 rfl) ?_
    refine x_iconst hx hb dL_any_164 ?_
    refine x_iadd hx hb dL_any_165 ?_
    refine x_iconst hx hb dL_any_166 ?_
    refine x_cSI (As := [.ref zb, .int (iZ (i9 + 4)), .int (iZ 3)]) (rest := [.int (iZ 1), .int (iZ z6), .int (iZ z1), .int (iZ 1), .ref (xad E 0)]) hx hb hml hts hown hK hST hOK hH (c_L_pick l E ST hSF zb zL zx hSC hzL σ (i9 + 4) 3  (by omega) (by omega)) (va_cwS 3 hts (goodIn_t gK_133) rfl rfl rfl (by decide +kernel) ⟨Nat.le_of_ble_eq_true rfl, Nat.le_of_ble_eq_true rfl⟩) rfl hl.1 rfl (Nat.le_of_ble_eq_true rfl) dL_any_167 ⟨Nat.le_of_ble_eq_true rfl, Nat.le_of_ble_eq_true rfl⟩ (fun z47 σ48 H locs hp49 hH => ?_)
    obtain ⟨hz50, hu51⟩ := hp49
    rw [hu51] at hH
    refine x_iadd hx hb dL_any_170 ?_
    refine x_cSW (As := [.ref (xad E 0), .int (iZ 1), .int (iZ z1), .int (iZ z6), .int (iZ (1 + z47))]) (rest := []) hx hb hml hts hown hK hST hOK hH (c_L_deed_1 l E ST hSF hSX htr σ z1 z6 (1 + z47) B S Y fcw_0 (by omega) (by omega) (by omega)) (vx_cwSW 5 hts (goodIn_t gK_140) rfl rfl rfl (by decide +kernel) ⟨Nat.le_of_ble_eq_true rfl, Nat.le_of_ble_eq_true rfl⟩) rfl hl.1 rfl (Nat.le_of_ble_eq_true rfl) dL_any_171 ⟨Nat.le_of_ble_eq_true rfl, Nat.le_of_ble_eq_true rfl⟩ (fun z52 σ53 H locs hp54 hH => ?_)
    obtain ⟨hz56, fcw_0, fr55⟩ := hp54
    subst hQ
    exact x_iret hx hb hr hlocks hH (Nat.le_of_ble_eq_true rfl) (Nat.le_of_ble_eq_true rfl) ⟨(by trivial), ⟨((turnF (opT B) (lkT B) (kpT B) (wcT B) (pnT B) (nwT B) (shB B) (wkB B) z1 z6 (1 + z47)).2), fcw_0⟩, fun j hj0 => (fr55 j (by omega))⟩ dL_any_174
  · refine x_tableIn (tgt := 156) hx hb 3 c55 (by omega) dL_any_55 (by decide) (by decide) rfl (by decide) ?_
    refine lv_aload_n hx hb dL_any_156 rfl (lv_at hl 4 rfl) ?_
    refine x_iconst hx hb dL_any_157 ?_
    refine lv_iload_n hx hb dL_any_158 rfl (lv_at hl 3 rfl) ?_
    refine lv_iload hx hb dL_any_159 (lv_at hl 2 rfl) ?_
    refine x_iconst hx hb dL_any_161 ?_
    refine lv_aload_n hx hb dL_any_162 rfl (lv_at hl 5 rfl) ?_
    refine lv_iload_n hx hb dL_any_163 rfl (lv_at hl 6 rfl) ?_
    refine x_iconst hx hb dL_any_164 ?_
    refine x_iadd hx hb dL_any_165 ?_
    refine x_iconst hx hb dL_any_166 ?_
    refine x_cSI (As := [.ref zb, .int (iZ (i9 + 4)), .int (iZ 3)]) (rest := [.int (iZ 1), .int (iZ z6), .int (iZ z1), .int (iZ 1), .ref (xad E 0)]) hx hb hml hts hown hK hST hOK hH (c_L_pick l E ST hSF zb zL zx hSC hzL σ (i9 + 4) 3  (by omega) (by omega)) (va_cwS 3 hts (goodIn_t gK_133) rfl rfl rfl (by decide +kernel) ⟨Nat.le_of_ble_eq_true rfl, Nat.le_of_ble_eq_true rfl⟩) rfl hl.1 rfl (Nat.le_of_ble_eq_true rfl) dL_any_167 ⟨Nat.le_of_ble_eq_true rfl, Nat.le_of_ble_eq_true rfl⟩ (fun z57 σ58 H locs hp59 hH => ?_)
    obtain ⟨hz60, hu61⟩ := hp59
    rw [hu61] at hH
    refine x_iadd hx hb dL_any_170 ?_
    refine x_cSW (As := [.ref (xad E 0), .int (iZ 1), .int (iZ z1), .int (iZ z6), .int (iZ (1 + z57))]) (rest := []) hx hb hml hts hown hK hST hOK hH (c_L_deed_1 l E ST hSF hSX htr σ z1 z6 (1 + z57) B S Y fcw_0 (by omega) (by omega) (by omega)) (vx_cwSW 5 hts (goodIn_t gK_140) rfl rfl rfl (by decide +kernel) ⟨Nat.le_of_ble_eq_true rfl, Nat.le_of_ble_eq_true rfl⟩) rfl hl.1 rfl (Nat.le_of_ble_eq_true rfl) dL_any_171 ⟨Nat.le_of_ble_eq_true rfl, Nat.le_of_ble_eq_true rfl⟩ (fun z62 σ63 H locs hp64 hH => ?_)
    obtain ⟨hz66, fcw_0, fr65⟩ := hp64
    subst hQ
    exact x_iret hx hb hr hlocks hH (Nat.le_of_ble_eq_true rfl) (Nat.le_of_ble_eq_true rfl) ⟨(by trivial), ⟨((turnF (opT B) (lkT B) (kpT B) (wcT B) (pnT B) (nwT B) (shB B) (wkB B) z1 z6 (1 + z57)).2), fcw_0⟩, fun j hj0 => (fr65 j (by omega))⟩ dL_any_174
  · refine x_tableIn (tgt := 175) hx hb 4 c55 (by omega) dL_any_55 (by decide) (by decide) rfl (by decide) ?_
    refine lv_aload_n hx hb dL_any_175 rfl (lv_at hl 4 rfl) ?_
    refine x_iconst hx hb dL_any_176 ?_
    refine lv_iload_n hx hb dL_any_177 rfl (lv_at hl 3 rfl) ?_
    refine lv_iload hx hb dL_any_178 (lv_at hl 2 rfl) ?_
    refine x_iconst hx hb dL_any_180 ?_
    refine x_cSW (As := [.ref (xad E 0), .int (iZ 2), .int (iZ z1), .int (iZ z6), .int (iZ 0)]) (rest := []) hx hb hml hts hown hK hST hOK hH (c_L_deed_2 l E ST hSF hSX htr σ z1 z6 0 B S Y fcw_0 (by omega) (by omega) (by omega)) (vx_cwSW 5 hts (goodIn_t gK_140) rfl rfl rfl (by decide +kernel) ⟨Nat.le_of_ble_eq_true rfl, Nat.le_of_ble_eq_true rfl⟩) rfl hl.1 rfl (Nat.le_of_ble_eq_true rfl) dL_any_181 ⟨Nat.le_of_ble_eq_true rfl, Nat.le_of_ble_eq_true rfl⟩ (fun z67 σ68 H locs hp69 hH => ?_)
    obtain ⟨hz71, fcw_0, fr70⟩ := hp69
    subst hQ
    exact x_iret hx hb hr hlocks hH (Nat.le_of_ble_eq_true rfl) (Nat.le_of_ble_eq_true rfl) ⟨(by trivial), ⟨((fixF (opT B) (lkT B) (kpT B) (wcT B) (pnT B) (nwT B) (shB B) (wkB B) z1 z6).2), fcw_0⟩, fun j hj0 => (fr70 j (by omega))⟩ dL_any_184
  · refine x_tableIn (tgt := 185) hx hb 5 c55 (by omega) dL_any_55 (by decide) (by decide) rfl (by decide) ?_
    refine lv_aload_n hx hb dL_any_185 rfl (lv_at hl 4 rfl) ?_
    refine x_iconst hx hb dL_any_186 ?_
    refine lv_iload_n hx hb dL_any_187 rfl (lv_at hl 3 rfl) ?_
    refine lv_iload hx hb dL_any_188 (lv_at hl 2 rfl) ?_
    refine x_iconst hx hb dL_any_190 ?_
    refine x_cSW (As := [.ref (xad E 0), .int (iZ 3), .int (iZ z1), .int (iZ z6), .int (iZ 0)]) (rest := []) hx hb hml hts hown hK hST hOK hH (c_L_deed_3 l E ST hSF hSX htr σ z1 z6 0 B S Y fcw_0 (by omega) (by omega) (by omega)) (vx_cwSW 5 hts (goodIn_t gK_140) rfl rfl rfl (by decide +kernel) ⟨Nat.le_of_ble_eq_true rfl, Nat.le_of_ble_eq_true rfl⟩) rfl hl.1 rfl (Nat.le_of_ble_eq_true rfl) dL_any_191 ⟨Nat.le_of_ble_eq_true rfl, Nat.le_of_ble_eq_true rfl⟩ (fun z72 σ73 H locs hp74 hH => ?_)
    obtain ⟨hz76, fcw_0, fr75⟩ := hp74
    subst hQ
    exact x_iret hx hb hr hlocks hH (Nat.le_of_ble_eq_true rfl) (Nat.le_of_ble_eq_true rfl) ⟨(by trivial), ⟨((freeF (opT B) (lkT B) (kpT B) (wcT B) (pnT B) (nwT B) (shB B) (wkB B) z1 z6).2), fcw_0⟩, fun j hj0 => (fr75 j (by omega))⟩ dL_any_194
  · refine x_tableIn (tgt := 185) hx hb 6 c55 (by omega) dL_any_55 (by decide) (by decide) rfl (by decide) ?_
    refine lv_aload_n hx hb dL_any_185 rfl (lv_at hl 4 rfl) ?_
    refine x_iconst hx hb dL_any_186 ?_
    refine lv_iload_n hx hb dL_any_187 rfl (lv_at hl 3 rfl) ?_
    refine lv_iload hx hb dL_any_188 (lv_at hl 2 rfl) ?_
    refine x_iconst hx hb dL_any_190 ?_
    refine x_cSW (As := [.ref (xad E 0), .int (iZ 3), .int (iZ z1), .int (iZ z6), .int (iZ 0)]) (rest := []) hx hb hml hts hown hK hST hOK hH (c_L_deed_3 l E ST hSF hSX htr σ z1 z6 0 B S Y fcw_0 (by omega) (by omega) (by omega)) (vx_cwSW 5 hts (goodIn_t gK_140) rfl rfl rfl (by decide +kernel) ⟨Nat.le_of_ble_eq_true rfl, Nat.le_of_ble_eq_true rfl⟩) rfl hl.1 rfl (Nat.le_of_ble_eq_true rfl) dL_any_191 ⟨Nat.le_of_ble_eq_true rfl, Nat.le_of_ble_eq_true rfl⟩ (fun z77 σ78 H locs hp79 hH => ?_)
    obtain ⟨hz81, fcw_0, fr80⟩ := hp79
    subst hQ
    exact x_iret hx hb hr hlocks hH (Nat.le_of_ble_eq_true rfl) (Nat.le_of_ble_eq_true rfl) ⟨(by trivial), ⟨((freeF (opT B) (lkT B) (kpT B) (wcT B) (pnT B) (nwT B) (shB B) (wkB B) z1 z6).2), fcw_0⟩, fun j hj0 => (fr80 j (by omega))⟩ dL_any_194
  · refine x_tableIn (tgt := 195) hx hb 7 c55 (by omega) dL_any_55 (by decide) (by decide) rfl (by decide) ?_
    refine lv_aload_n hx hb dL_any_195 rfl (lv_at hl 4 rfl) ?_
    refine x_iconst hx hb dL_any_196 ?_
    refine lv_iload_n hx hb dL_any_197 rfl (lv_at hl 3 rfl) ?_
    refine lv_aload_n hx hb dL_any_198 rfl (lv_at hl 5 rfl) ?_
    refine lv_iload_n hx hb dL_any_199 rfl (lv_at hl 6 rfl) ?_
    refine x_iconst hx hb dL_any_200 ?_
    refine x_iadd hx hb dL_any_201 ?_
    refine x_iconst hx hb dL_any_202 ?_
    refine x_cSI (As := [.ref zb, .int (iZ (i9 + 5)), .int (iZ 2)]) (rest := [.int (iZ z1), .int (iZ 4), .ref (xad E 0)]) hx hb hml hts hown hK hST hOK hH (c_L_pick l E ST hSF zb zL zx hSC hzL σ (i9 + 5) 2  (by omega) (by omega)) (va_cwS 3 hts (goodIn_t gK_133) rfl rfl rfl (by decide +kernel) ⟨Nat.le_of_ble_eq_true rfl, Nat.le_of_ble_eq_true rfl⟩) rfl hl.1 rfl (Nat.le_of_ble_eq_true rfl) dL_any_203 ⟨Nat.le_of_ble_eq_true rfl, Nat.le_of_ble_eq_true rfl⟩ (fun z82 σ83 H locs hp84 hH => ?_)
    obtain ⟨hz85, hu86⟩ := hp84
    rw [hu86] at hH
    refine x_if_ne (tgt := 214) hx hb dL_any_206 (by decide) (by omega) (fun c206 => ?_) (fun c206 => ?_)
    · refine lv_iload hx hb dL_any_214 (lv_at hl 0 rfl) ?_
      refine x_ineg hx hb dL_any_216 ?_
      refine x_iconst hx hb dL_any_217 ?_
      refine x_cSW (As := [.ref (xad E 0), .int (iZ 4), .int (iZ z1), .int (iZ (-(1 + z17))), .int (iZ 0)]) (rest := []) hx hb hml hts hown hK hST hOK hH (c_L_deed_4 l E ST hSF hSX htr σ z1 (-(1 + z17)) 0 B S Y fcw_0 (by omega) (by omega) (by omega)) (vx_cwSW 5 hts (goodIn_t gK_140) rfl rfl rfl (by decide +kernel) ⟨Nat.le_of_ble_eq_true rfl, Nat.le_of_ble_eq_true rfl⟩) rfl hl.1 rfl (Nat.le_of_ble_eq_true rfl) dL_any_218 ⟨Nat.le_of_ble_eq_true rfl, Nat.le_of_ble_eq_true rfl⟩ (fun z87 σ88 H locs hp89 hH => ?_)
      obtain ⟨hz91, fcw_0, fr90⟩ := hp89
      subst hQ
      exact x_iret hx hb hr hlocks hH (Nat.le_of_ble_eq_true rfl) (Nat.le_of_ble_eq_true rfl) ⟨(by trivial), ⟨((rowF (opT B) (lkT B) (kpT B) (wcT B) (pnT B) (nwT B) (shB B) (wkB B) z1 (-(1 + z17))).2), fcw_0⟩, fun j hj0 => (fr90 j (by omega))⟩ dL_any_221
    · refine lv_iload hx hb dL_any_209 (lv_at hl 0 rfl) ?_
      refine lv_goto (tgt := 217) hx hb dL_any_211 (by decide) ?_
      refine x_iconst hx hb dL_any_217 ?_
      refine x_cSW (As := [.ref (xad E 0), .int (iZ 4), .int (iZ z1), .int (iZ (1 + z17)), .int (iZ 0)]) (rest := []) hx hb hml hts hown hK hST hOK hH (c_L_deed_4 l E ST hSF hSX htr σ z1 (1 + z17) 0 B S Y fcw_0 (by omega) (by omega) (by omega)) (vx_cwSW 5 hts (goodIn_t gK_140) rfl rfl rfl (by decide +kernel) ⟨Nat.le_of_ble_eq_true rfl, Nat.le_of_ble_eq_true rfl⟩) rfl hl.1 rfl (Nat.le_of_ble_eq_true rfl) dL_any_218 ⟨Nat.le_of_ble_eq_true rfl, Nat.le_of_ble_eq_true rfl⟩ (fun z92 σ93 H locs hp94 hH => ?_)
      obtain ⟨hz96, fcw_0, fr95⟩ := hp94
      subst hQ
      exact x_iret hx hb hr hlocks hH (Nat.le_of_ble_eq_true rfl) (Nat.le_of_ble_eq_true rfl) ⟨(by trivial), ⟨((rowF (opT B) (lkT B) (kpT B) (wcT B) (pnT B) (nwT B) (shB B) (wkB B) z1 (1 + z17)).2), fcw_0⟩, fun j hj0 => (fr95 j (by omega))⟩ dL_any_221
  · refine x_tableIn (tgt := 195) hx hb 8 c55 (by omega) dL_any_55 (by decide) (by decide) rfl (by decide) ?_
    refine lv_aload_n hx hb dL_any_195 rfl (lv_at hl 4 rfl) ?_
    refine x_iconst hx hb dL_any_196 ?_
    refine lv_iload_n hx hb dL_any_197 rfl (lv_at hl 3 rfl) ?_
    refine lv_aload_n hx hb dL_any_198 rfl (lv_at hl 5 rfl) ?_
    refine lv_iload_n hx hb dL_any_199 rfl (lv_at hl 6 rfl) ?_
    refine x_iconst hx hb dL_any_200 ?_
    refine x_iadd hx hb dL_any_201 ?_
    refine x_iconst hx hb dL_any_202 ?_
    refine x_cSI (As := [.ref zb, .int (iZ (i9 + 5)), .int (iZ 2)]) (rest := [.int (iZ z1), .int (iZ 4), .ref (xad E 0)]) hx hb hml hts hown hK hST hOK hH (c_L_pick l E ST hSF zb zL zx hSC hzL σ (i9 + 5) 2  (by omega) (by omega)) (va_cwS 3 hts (goodIn_t gK_133) rfl rfl rfl (by decide +kernel) ⟨Nat.le_of_ble_eq_true rfl, Nat.le_of_ble_eq_true rfl⟩) rfl hl.1 rfl (Nat.le_of_ble_eq_true rfl) dL_any_203 ⟨Nat.le_of_ble_eq_true rfl, Nat.le_of_ble_eq_true rfl⟩ (fun z97 σ98 H locs hp99 hH => ?_)
    obtain ⟨hz100, hu101⟩ := hp99
    rw [hu101] at hH
    refine x_if_ne (tgt := 214) hx hb dL_any_206 (by decide) (by omega) (fun c206 => ?_) (fun c206 => ?_)
    · refine lv_iload hx hb dL_any_214 (lv_at hl 0 rfl) ?_
      refine x_ineg hx hb dL_any_216 ?_
      refine x_iconst hx hb dL_any_217 ?_
      refine x_cSW (As := [.ref (xad E 0), .int (iZ 4), .int (iZ z1), .int (iZ (-(1 + z17))), .int (iZ 0)]) (rest := []) hx hb hml hts hown hK hST hOK hH (c_L_deed_4 l E ST hSF hSX htr σ z1 (-(1 + z17)) 0 B S Y fcw_0 (by omega) (by omega) (by omega)) (vx_cwSW 5 hts (goodIn_t gK_140) rfl rfl rfl (by decide +kernel) ⟨Nat.le_of_ble_eq_true rfl, Nat.le_of_ble_eq_true rfl⟩) rfl hl.1 rfl (Nat.le_of_ble_eq_true rfl) dL_any_218 ⟨Nat.le_of_ble_eq_true rfl, Nat.le_of_ble_eq_true rfl⟩ (fun z102 σ103 H locs hp104 hH => ?_)
      obtain ⟨hz106, fcw_0, fr105⟩ := hp104
      subst hQ
      exact x_iret hx hb hr hlocks hH (Nat.le_of_ble_eq_true rfl) (Nat.le_of_ble_eq_true rfl) ⟨(by trivial), ⟨((rowF (opT B) (lkT B) (kpT B) (wcT B) (pnT B) (nwT B) (shB B) (wkB B) z1 (-(1 + z17))).2), fcw_0⟩, fun j hj0 => (fr105 j (by omega))⟩ dL_any_221
    · refine lv_iload hx hb dL_any_209 (lv_at hl 0 rfl) ?_
      refine lv_goto (tgt := 217) hx hb dL_any_211 (by decide) ?_
      refine x_iconst hx hb dL_any_217 ?_
      refine x_cSW (As := [.ref (xad E 0), .int (iZ 4), .int (iZ z1), .int (iZ (1 + z17)), .int (iZ 0)]) (rest := []) hx hb hml hts hown hK hST hOK hH (c_L_deed_4 l E ST hSF hSX htr σ z1 (1 + z17) 0 B S Y fcw_0 (by omega) (by omega) (by omega)) (vx_cwSW 5 hts (goodIn_t gK_140) rfl rfl rfl (by decide +kernel) ⟨Nat.le_of_ble_eq_true rfl, Nat.le_of_ble_eq_true rfl⟩) rfl hl.1 rfl (Nat.le_of_ble_eq_true rfl) dL_any_218 ⟨Nat.le_of_ble_eq_true rfl, Nat.le_of_ble_eq_true rfl⟩ (fun z107 σ108 H locs hp109 hH => ?_)
      obtain ⟨hz111, fcw_0, fr110⟩ := hp109
      subst hQ
      exact x_iret hx hb hr hlocks hH (Nat.le_of_ble_eq_true rfl) (Nat.le_of_ble_eq_true rfl) ⟨(by trivial), ⟨((rowF (opT B) (lkT B) (kpT B) (wcT B) (pnT B) (nwT B) (shB B) (wkB B) z1 (1 + z17)).2), fcw_0⟩, fun j hj0 => (fr110 j (by omega))⟩ dL_any_221
  · refine x_tableIn (tgt := 195) hx hb 9 c55 (by omega) dL_any_55 (by decide) (by decide) rfl (by decide) ?_
    refine lv_aload_n hx hb dL_any_195 rfl (lv_at hl 4 rfl) ?_
    refine x_iconst hx hb dL_any_196 ?_
    refine lv_iload_n hx hb dL_any_197 rfl (lv_at hl 3 rfl) ?_
    refine lv_aload_n hx hb dL_any_198 rfl (lv_at hl 5 rfl) ?_
    refine lv_iload_n hx hb dL_any_199 rfl (lv_at hl 6 rfl) ?_
    refine x_iconst hx hb dL_any_200 ?_
    refine x_iadd hx hb dL_any_201 ?_
    refine x_iconst hx hb dL_any_202 ?_
    refine x_cSI (As := [.ref zb, .int (iZ (i9 + 5)), .int (iZ 2)]) (rest := [.int (iZ z1), .int (iZ 4), .ref (xad E 0)]) hx hb hml hts hown hK hST hOK hH (c_L_pick l E ST hSF zb zL zx hSC hzL σ (i9 + 5) 2  (by omega) (by omega)) (va_cwS 3 hts (goodIn_t gK_133) rfl rfl rfl (by decide +kernel) ⟨Nat.le_of_ble_eq_true rfl, Nat.le_of_ble_eq_true rfl⟩) rfl hl.1 rfl (Nat.le_of_ble_eq_true rfl) dL_any_203 ⟨Nat.le_of_ble_eq_true rfl, Nat.le_of_ble_eq_true rfl⟩ (fun z112 σ113 H locs hp114 hH => ?_)
    obtain ⟨hz115, hu116⟩ := hp114
    rw [hu116] at hH
    refine x_if_ne (tgt := 214) hx hb dL_any_206 (by decide) (by omega) (fun c206 => ?_) (fun c206 => ?_)
    · refine lv_iload hx hb dL_any_214 (lv_at hl 0 rfl) ?_
      refine x_ineg hx hb dL_any_216 ?_
      refine x_iconst hx hb dL_any_217 ?_
      refine x_cSW (As := [.ref (xad E 0), .int (iZ 4), .int (iZ z1), .int (iZ (-(1 + z17))), .int (iZ 0)]) (rest := []) hx hb hml hts hown hK hST hOK hH (c_L_deed_4 l E ST hSF hSX htr σ z1 (-(1 + z17)) 0 B S Y fcw_0 (by omega) (by omega) (by omega)) (vx_cwSW 5 hts (goodIn_t gK_140) rfl rfl rfl (by decide +kernel) ⟨Nat.le_of_ble_eq_true rfl, Nat.le_of_ble_eq_true rfl⟩) rfl hl.1 rfl (Nat.le_of_ble_eq_true rfl) dL_any_218 ⟨Nat.le_of_ble_eq_true rfl, Nat.le_of_ble_eq_true rfl⟩ (fun z117 σ118 H locs hp119 hH => ?_)
      obtain ⟨hz121, fcw_0, fr120⟩ := hp119
      subst hQ
      exact x_iret hx hb hr hlocks hH (Nat.le_of_ble_eq_true rfl) (Nat.le_of_ble_eq_true rfl) ⟨(by trivial), ⟨((rowF (opT B) (lkT B) (kpT B) (wcT B) (pnT B) (nwT B) (shB B) (wkB B) z1 (-(1 + z17))).2), fcw_0⟩, fun j hj0 => (fr120 j (by omega))⟩ dL_any_221
    · refine lv_iload hx hb dL_any_209 (lv_at hl 0 rfl) ?_
      refine lv_goto (tgt := 217) hx hb dL_any_211 (by decide) ?_
      refine x_iconst hx hb dL_any_217 ?_
      refine x_cSW (As := [.ref (xad E 0), .int (iZ 4), .int (iZ z1), .int (iZ (1 + z17)), .int (iZ 0)]) (rest := []) hx hb hml hts hown hK hST hOK hH (c_L_deed_4 l E ST hSF hSX htr σ z1 (1 + z17) 0 B S Y fcw_0 (by omega) (by omega) (by omega)) (vx_cwSW 5 hts (goodIn_t gK_140) rfl rfl rfl (by decide +kernel) ⟨Nat.le_of_ble_eq_true rfl, Nat.le_of_ble_eq_true rfl⟩) rfl hl.1 rfl (Nat.le_of_ble_eq_true rfl) dL_any_218 ⟨Nat.le_of_ble_eq_true rfl, Nat.le_of_ble_eq_true rfl⟩ (fun z122 σ123 H locs hp124 hH => ?_)
      obtain ⟨hz126, fcw_0, fr125⟩ := hp124
      subst hQ
      exact x_iret hx hb hr hlocks hH (Nat.le_of_ble_eq_true rfl) (Nat.le_of_ble_eq_true rfl) ⟨(by trivial), ⟨((rowF (opT B) (lkT B) (kpT B) (wcT B) (pnT B) (nwT B) (shB B) (wkB B) z1 (1 + z17)).2), fcw_0⟩, fun j hj0 => (fr125 j (by omega))⟩ dL_any_221
  · refine x_tableIn (tgt := 222) hx hb 10 c55 (by omega) dL_any_55 (by decide) (by decide) rfl (by decide) ?_
    refine lv_aload_n hx hb dL_any_222 rfl (lv_at hl 4 rfl) ?_
    refine x_iconst hx hb dL_any_223 ?_
    refine lv_iload_n hx hb dL_any_224 rfl (lv_at hl 3 rfl) ?_
    refine lv_aload_n hx hb dL_any_225 rfl (lv_at hl 5 rfl) ?_
    refine lv_iload_n hx hb dL_any_226 rfl (lv_at hl 6 rfl) ?_
    refine x_iconst hx hb dL_any_227 ?_
    refine x_iadd hx hb dL_any_228 ?_
    refine x_iconst hx hb dL_any_229 ?_
    refine x_cSI (As := [.ref zb, .int (iZ (i9 + 5)), .int (iZ 2)]) (rest := [.int (iZ z1), .int (iZ 5), .ref (xad E 0)]) hx hb hml hts hown hK hST hOK hH (c_L_pick l E ST hSF zb zL zx hSC hzL σ (i9 + 5) 2  (by omega) (by omega)) (va_cwS 3 hts (goodIn_t gK_133) rfl rfl rfl (by decide +kernel) ⟨Nat.le_of_ble_eq_true rfl, Nat.le_of_ble_eq_true rfl⟩) rfl hl.1 rfl (Nat.le_of_ble_eq_true rfl) dL_any_230 ⟨Nat.le_of_ble_eq_true rfl, Nat.le_of_ble_eq_true rfl⟩ (fun z127 σ128 H locs hp129 hH => ?_)
    obtain ⟨hz130, hu131⟩ := hp129
    rw [hu131] at hH
    refine x_if_ne (tgt := 241) hx hb dL_any_233 (by decide) (by omega) (fun c233 => ?_) (fun c233 => ?_)
    · refine lv_iload hx hb dL_any_241 (lv_at hl 0 rfl) ?_
      refine x_ineg hx hb dL_any_243 ?_
      refine x_iconst hx hb dL_any_244 ?_
      refine x_cSW (As := [.ref (xad E 0), .int (iZ 5), .int (iZ z1), .int (iZ (-(1 + z17))), .int (iZ 0)]) (rest := []) hx hb hml hts hown hK hST hOK hH (c_L_deed_5 l E ST hSF hSX htr σ z1 (-(1 + z17)) 0 B S Y fcw_0 (by omega) (by omega) (by omega)) (vx_cwSW 5 hts (goodIn_t gK_140) rfl rfl rfl (by decide +kernel) ⟨Nat.le_of_ble_eq_true rfl, Nat.le_of_ble_eq_true rfl⟩) rfl hl.1 rfl (Nat.le_of_ble_eq_true rfl) dL_any_245 ⟨Nat.le_of_ble_eq_true rfl, Nat.le_of_ble_eq_true rfl⟩ (fun z132 σ133 H locs hp134 hH => ?_)
      obtain ⟨hz136, fcw_0, fr135⟩ := hp134
      subst hQ
      exact x_iret hx hb hr hlocks hH (Nat.le_of_ble_eq_true rfl) (Nat.le_of_ble_eq_true rfl) ⟨(by trivial), ⟨((colF (opT B) (lkT B) (kpT B) (wcT B) (pnT B) (nwT B) (shB B) (wkB B) z1 (-(1 + z17))).2), fcw_0⟩, fun j hj0 => (fr135 j (by omega))⟩ dL_any_248
    · refine lv_iload hx hb dL_any_236 (lv_at hl 0 rfl) ?_
      refine lv_goto (tgt := 244) hx hb dL_any_238 (by decide) ?_
      refine x_iconst hx hb dL_any_244 ?_
      refine x_cSW (As := [.ref (xad E 0), .int (iZ 5), .int (iZ z1), .int (iZ (1 + z17)), .int (iZ 0)]) (rest := []) hx hb hml hts hown hK hST hOK hH (c_L_deed_5 l E ST hSF hSX htr σ z1 (1 + z17) 0 B S Y fcw_0 (by omega) (by omega) (by omega)) (vx_cwSW 5 hts (goodIn_t gK_140) rfl rfl rfl (by decide +kernel) ⟨Nat.le_of_ble_eq_true rfl, Nat.le_of_ble_eq_true rfl⟩) rfl hl.1 rfl (Nat.le_of_ble_eq_true rfl) dL_any_245 ⟨Nat.le_of_ble_eq_true rfl, Nat.le_of_ble_eq_true rfl⟩ (fun z137 σ138 H locs hp139 hH => ?_)
      obtain ⟨hz141, fcw_0, fr140⟩ := hp139
      subst hQ
      exact x_iret hx hb hr hlocks hH (Nat.le_of_ble_eq_true rfl) (Nat.le_of_ble_eq_true rfl) ⟨(by trivial), ⟨((colF (opT B) (lkT B) (kpT B) (wcT B) (pnT B) (nwT B) (shB B) (wkB B) z1 (1 + z17)).2), fcw_0⟩, fun j hj0 => (fr140 j (by omega))⟩ dL_any_248
  · refine x_tableIn (tgt := 222) hx hb 11 c55 (by omega) dL_any_55 (by decide) (by decide) rfl (by decide) ?_
    refine lv_aload_n hx hb dL_any_222 rfl (lv_at hl 4 rfl) ?_
    refine x_iconst hx hb dL_any_223 ?_
    refine lv_iload_n hx hb dL_any_224 rfl (lv_at hl 3 rfl) ?_
    refine lv_aload_n hx hb dL_any_225 rfl (lv_at hl 5 rfl) ?_
    refine lv_iload_n hx hb dL_any_226 rfl (lv_at hl 6 rfl) ?_
    refine x_iconst hx hb dL_any_227 ?_
    refine x_iadd hx hb dL_any_228 ?_
    refine x_iconst hx hb dL_any_229 ?_
    refine x_cSI (As := [.ref zb, .int (iZ (i9 + 5)), .int (iZ 2)]) (rest := [.int (iZ z1), .int (iZ 5), .ref (xad E 0)]) hx hb hml hts hown hK hST hOK hH (c_L_pick l E ST hSF zb zL zx hSC hzL σ (i9 + 5) 2  (by omega) (by omega)) (va_cwS 3 hts (goodIn_t gK_133) rfl rfl rfl (by decide +kernel) ⟨Nat.le_of_ble_eq_true rfl, Nat.le_of_ble_eq_true rfl⟩) rfl hl.1 rfl (Nat.le_of_ble_eq_true rfl) dL_any_230 ⟨Nat.le_of_ble_eq_true rfl, Nat.le_of_ble_eq_true rfl⟩ (fun z142 σ143 H locs hp144 hH => ?_)
    obtain ⟨hz145, hu146⟩ := hp144
    rw [hu146] at hH
    refine x_if_ne (tgt := 241) hx hb dL_any_233 (by decide) (by omega) (fun c233 => ?_) (fun c233 => ?_)
    · refine lv_iload hx hb dL_any_241 (lv_at hl 0 rfl) ?_
      refine x_ineg hx hb dL_any_243 ?_
      refine x_iconst hx hb dL_any_244 ?_
      refine x_cSW (As := [.ref (xad E 0), .int (iZ 5), .int (iZ z1), .int (iZ (-(1 + z17))), .int (iZ 0)]) (rest := []) hx hb hml hts hown hK hST hOK hH (c_L_deed_5 l E ST hSF hSX htr σ z1 (-(1 + z17)) 0 B S Y fcw_0 (by omega) (by omega) (by omega)) (vx_cwSW 5 hts (goodIn_t gK_140) rfl rfl rfl (by decide +kernel) ⟨Nat.le_of_ble_eq_true rfl, Nat.le_of_ble_eq_true rfl⟩) rfl hl.1 rfl (Nat.le_of_ble_eq_true rfl) dL_any_245 ⟨Nat.le_of_ble_eq_true rfl, Nat.le_of_ble_eq_true rfl⟩ (fun z147 σ148 H locs hp149 hH => ?_)
      obtain ⟨hz151, fcw_0, fr150⟩ := hp149
      subst hQ
      exact x_iret hx hb hr hlocks hH (Nat.le_of_ble_eq_true rfl) (Nat.le_of_ble_eq_true rfl) ⟨(by trivial), ⟨((colF (opT B) (lkT B) (kpT B) (wcT B) (pnT B) (nwT B) (shB B) (wkB B) z1 (-(1 + z17))).2), fcw_0⟩, fun j hj0 => (fr150 j (by omega))⟩ dL_any_248
    · refine lv_iload hx hb dL_any_236 (lv_at hl 0 rfl) ?_
      refine lv_goto (tgt := 244) hx hb dL_any_238 (by decide) ?_
      refine x_iconst hx hb dL_any_244 ?_
      refine x_cSW (As := [.ref (xad E 0), .int (iZ 5), .int (iZ z1), .int (iZ (1 + z17)), .int (iZ 0)]) (rest := []) hx hb hml hts hown hK hST hOK hH (c_L_deed_5 l E ST hSF hSX htr σ z1 (1 + z17) 0 B S Y fcw_0 (by omega) (by omega) (by omega)) (vx_cwSW 5 hts (goodIn_t gK_140) rfl rfl rfl (by decide +kernel) ⟨Nat.le_of_ble_eq_true rfl, Nat.le_of_ble_eq_true rfl⟩) rfl hl.1 rfl (Nat.le_of_ble_eq_true rfl) dL_any_245 ⟨Nat.le_of_ble_eq_true rfl, Nat.le_of_ble_eq_true rfl⟩ (fun z152 σ153 H locs hp154 hH => ?_)
      obtain ⟨hz156, fcw_0, fr155⟩ := hp154
      subst hQ
      exact x_iret hx hb hr hlocks hH (Nat.le_of_ble_eq_true rfl) (Nat.le_of_ble_eq_true rfl) ⟨(by trivial), ⟨((colF (opT B) (lkT B) (kpT B) (wcT B) (pnT B) (nwT B) (shB B) (wkB B) z1 (1 + z17)).2), fcw_0⟩, fun j hj0 => (fr155 j (by omega))⟩ dL_any_248
  · refine x_tableIn (tgt := 222) hx hb 12 c55 (by omega) dL_any_55 (by decide) (by decide) rfl (by decide) ?_
    refine lv_aload_n hx hb dL_any_222 rfl (lv_at hl 4 rfl) ?_
    refine x_iconst hx hb dL_any_223 ?_
    refine lv_iload_n hx hb dL_any_224 rfl (lv_at hl 3 rfl) ?_
    refine lv_aload_n hx hb dL_any_225 rfl (lv_at hl 5 rfl) ?_
    refine lv_iload_n hx hb dL_any_226 rfl (lv_at hl 6 rfl) ?_
    refine x_iconst hx hb dL_any_227 ?_
    refine x_iadd hx hb dL_any_228 ?_
    refine x_iconst hx hb dL_any_229 ?_
    refine x_cSI (As := [.ref zb, .int (iZ (i9 + 5)), .int (iZ 2)]) (rest := [.int (iZ z1), .int (iZ 5), .ref (xad E 0)]) hx hb hml hts hown hK hST hOK hH (c_L_pick l E ST hSF zb zL zx hSC hzL σ (i9 + 5) 2  (by omega) (by omega)) (va_cwS 3 hts (goodIn_t gK_133) rfl rfl rfl (by decide +kernel) ⟨Nat.le_of_ble_eq_true rfl, Nat.le_of_ble_eq_true rfl⟩) rfl hl.1 rfl (Nat.le_of_ble_eq_true rfl) dL_any_230 ⟨Nat.le_of_ble_eq_true rfl, Nat.le_of_ble_eq_true rfl⟩ (fun z157 σ158 H locs hp159 hH => ?_)
    obtain ⟨hz160, hu161⟩ := hp159
    rw [hu161] at hH
    refine x_if_ne (tgt := 241) hx hb dL_any_233 (by decide) (by omega) (fun c233 => ?_) (fun c233 => ?_)
    · refine lv_iload hx hb dL_any_241 (lv_at hl 0 rfl) ?_
      refine x_ineg hx hb dL_any_243 ?_
      refine x_iconst hx hb dL_any_244 ?_
      refine x_cSW (As := [.ref (xad E 0), .int (iZ 5), .int (iZ z1), .int (iZ (-(1 + z17))), .int (iZ 0)]) (rest := []) hx hb hml hts hown hK hST hOK hH (c_L_deed_5 l E ST hSF hSX htr σ z1 (-(1 + z17)) 0 B S Y fcw_0 (by omega) (by omega) (by omega)) (vx_cwSW 5 hts (goodIn_t gK_140) rfl rfl rfl (by decide +kernel) ⟨Nat.le_of_ble_eq_true rfl, Nat.le_of_ble_eq_true rfl⟩) rfl hl.1 rfl (Nat.le_of_ble_eq_true rfl) dL_any_245 ⟨Nat.le_of_ble_eq_true rfl, Nat.le_of_ble_eq_true rfl⟩ (fun z162 σ163 H locs hp164 hH => ?_)
      obtain ⟨hz166, fcw_0, fr165⟩ := hp164
      subst hQ
      exact x_iret hx hb hr hlocks hH (Nat.le_of_ble_eq_true rfl) (Nat.le_of_ble_eq_true rfl) ⟨(by trivial), ⟨((colF (opT B) (lkT B) (kpT B) (wcT B) (pnT B) (nwT B) (shB B) (wkB B) z1 (-(1 + z17))).2), fcw_0⟩, fun j hj0 => (fr165 j (by omega))⟩ dL_any_248
    · refine lv_iload hx hb dL_any_236 (lv_at hl 0 rfl) ?_
      refine lv_goto (tgt := 244) hx hb dL_any_238 (by decide) ?_
      refine x_iconst hx hb dL_any_244 ?_
      refine x_cSW (As := [.ref (xad E 0), .int (iZ 5), .int (iZ z1), .int (iZ (1 + z17)), .int (iZ 0)]) (rest := []) hx hb hml hts hown hK hST hOK hH (c_L_deed_5 l E ST hSF hSX htr σ z1 (1 + z17) 0 B S Y fcw_0 (by omega) (by omega) (by omega)) (vx_cwSW 5 hts (goodIn_t gK_140) rfl rfl rfl (by decide +kernel) ⟨Nat.le_of_ble_eq_true rfl, Nat.le_of_ble_eq_true rfl⟩) rfl hl.1 rfl (Nat.le_of_ble_eq_true rfl) dL_any_245 ⟨Nat.le_of_ble_eq_true rfl, Nat.le_of_ble_eq_true rfl⟩ (fun z167 σ168 H locs hp169 hH => ?_)
      obtain ⟨hz171, fcw_0, fr170⟩ := hp169
      subst hQ
      exact x_iret hx hb hr hlocks hH (Nat.le_of_ble_eq_true rfl) (Nat.le_of_ble_eq_true rfl) ⟨(by trivial), ⟨((colF (opT B) (lkT B) (kpT B) (wcT B) (pnT B) (nwT B) (shB B) (wkB B) z1 (1 + z17)).2), fcw_0⟩, fun j hj0 => (fr170 j (by omega))⟩ dL_any_248
  · refine x_tableIn (tgt := 249) hx hb 13 c55 (by omega) dL_any_55 (by decide) (by decide) rfl (by decide) ?_
    refine lv_aload_n hx hb dL_any_249 rfl (lv_at hl 4 rfl) ?_
    refine x_bipush hx hb dL_any_250 (by decide) ?_
    refine lv_iload_n hx hb dL_any_252 rfl (lv_at hl 3 rfl) ?_
    refine lv_iload hx hb dL_any_253 (lv_at hl 2 rfl) ?_
    refine lv_aload_n hx hb dL_any_255 rfl (lv_at hl 5 rfl) ?_
    refine lv_iload_n hx hb dL_any_256 rfl (lv_at hl 6 rfl) ?_
    refine x_iconst hx hb dL_any_257 ?_
    refine x_iadd hx hb dL_any_258 ?_
    refine x_bipush hx hb dL_any_259 (by decide) ?_
    refine x_cSI (As := [.ref zb, .int (iZ (i9 + 5)), .int (iZ 6)]) (rest := [.int (iZ z6), .int (iZ z1), .int (iZ 6), .ref (xad E 0)]) hx hb hml hts hown hK hST hOK hH (c_L_pick l E ST hSF zb zL zx hSC hzL σ (i9 + 5) 6  (by omega) (by omega)) (va_cwS 3 hts (goodIn_t gK_133) rfl rfl rfl (by decide +kernel) ⟨Nat.le_of_ble_eq_true rfl, Nat.le_of_ble_eq_true rfl⟩) rfl hl.1 rfl (Nat.le_of_ble_eq_true rfl) dL_any_261 ⟨Nat.le_of_ble_eq_true rfl, Nat.le_of_ble_eq_true rfl⟩ (fun z172 σ173 H locs hp174 hH => ?_)
    obtain ⟨hz175, hu176⟩ := hp174
    rw [hu176] at hH
    refine x_cSW (As := [.ref (xad E 0), .int (iZ 6), .int (iZ z1), .int (iZ z6), .int (iZ z172)]) (rest := []) hx hb hml hts hown hK hST hOK hH (c_L_deed_6 l E ST hSF hSX htr σ z1 z6 z172 B S Y fcw_0 (by omega) (by omega) (by omega)) (vx_cwSW 5 hts (goodIn_t gK_140) rfl rfl rfl (by decide +kernel) ⟨Nat.le_of_ble_eq_true rfl, Nat.le_of_ble_eq_true rfl⟩) rfl hl.1 rfl (Nat.le_of_ble_eq_true rfl) dL_any_264 ⟨Nat.le_of_ble_eq_true rfl, Nat.le_of_ble_eq_true rfl⟩ (fun z177 σ178 H locs hp179 hH => ?_)
    obtain ⟨hz181, fcw_0, fr180⟩ := hp179
    subst hQ
    exact x_iret hx hb hr hlocks hH (Nat.le_of_ble_eq_true rfl) (Nat.le_of_ble_eq_true rfl) ⟨(by trivial), ⟨((layF (opT B) (lkT B) (kpT B) (wcT B) (pnT B) (nwT B) (shB B) (wkB B) (i2cZ (97 + z172)) z1 z6).2), fcw_0⟩, fun j hj0 => (fr180 j (by omega))⟩ dL_any_267
  · refine x_tableIn (tgt := 249) hx hb 14 c55 (by omega) dL_any_55 (by decide) (by decide) rfl (by decide) ?_
    refine lv_aload_n hx hb dL_any_249 rfl (lv_at hl 4 rfl) ?_
    refine x_bipush hx hb dL_any_250 (by decide) ?_
    refine lv_iload_n hx hb dL_any_252 rfl (lv_at hl 3 rfl) ?_
    refine lv_iload hx hb dL_any_253 (lv_at hl 2 rfl) ?_
    refine lv_aload_n hx hb dL_any_255 rfl (lv_at hl 5 rfl) ?_
    refine lv_iload_n hx hb dL_any_256 rfl (lv_at hl 6 rfl) ?_
    refine x_iconst hx hb dL_any_257 ?_
    refine x_iadd hx hb dL_any_258 ?_
    refine x_bipush hx hb dL_any_259 (by decide) ?_
    refine x_cSI (As := [.ref zb, .int (iZ (i9 + 5)), .int (iZ 6)]) (rest := [.int (iZ z6), .int (iZ z1), .int (iZ 6), .ref (xad E 0)]) hx hb hml hts hown hK hST hOK hH (c_L_pick l E ST hSF zb zL zx hSC hzL σ (i9 + 5) 6  (by omega) (by omega)) (va_cwS 3 hts (goodIn_t gK_133) rfl rfl rfl (by decide +kernel) ⟨Nat.le_of_ble_eq_true rfl, Nat.le_of_ble_eq_true rfl⟩) rfl hl.1 rfl (Nat.le_of_ble_eq_true rfl) dL_any_261 ⟨Nat.le_of_ble_eq_true rfl, Nat.le_of_ble_eq_true rfl⟩ (fun z182 σ183 H locs hp184 hH => ?_)
    obtain ⟨hz185, hu186⟩ := hp184
    rw [hu186] at hH
    refine x_cSW (As := [.ref (xad E 0), .int (iZ 6), .int (iZ z1), .int (iZ z6), .int (iZ z182)]) (rest := []) hx hb hml hts hown hK hST hOK hH (c_L_deed_6 l E ST hSF hSX htr σ z1 z6 z182 B S Y fcw_0 (by omega) (by omega) (by omega)) (vx_cwSW 5 hts (goodIn_t gK_140) rfl rfl rfl (by decide +kernel) ⟨Nat.le_of_ble_eq_true rfl, Nat.le_of_ble_eq_true rfl⟩) rfl hl.1 rfl (Nat.le_of_ble_eq_true rfl) dL_any_264 ⟨Nat.le_of_ble_eq_true rfl, Nat.le_of_ble_eq_true rfl⟩ (fun z187 σ188 H locs hp189 hH => ?_)
    obtain ⟨hz191, fcw_0, fr190⟩ := hp189
    subst hQ
    exact x_iret hx hb hr hlocks hH (Nat.le_of_ble_eq_true rfl) (Nat.le_of_ble_eq_true rfl) ⟨(by trivial), ⟨((layF (opT B) (lkT B) (kpT B) (wcT B) (pnT B) (nwT B) (shB B) (wkB B) (i2cZ (97 + z182)) z1 z6).2), fcw_0⟩, fun j hj0 => (fr190 j (by omega))⟩ dL_any_267
  · refine x_tableIn (tgt := 268) hx hb 15 c55 (by omega) dL_any_55 (by decide) (by decide) rfl (by decide) ?_
    refine lv_aload_n hx hb dL_any_268 rfl (lv_at hl 4 rfl) ?_
    refine x_bipush hx hb dL_any_269 (by decide) ?_
    refine lv_iload_n hx hb dL_any_271 rfl (lv_at hl 3 rfl) ?_
    refine lv_iload hx hb dL_any_272 (lv_at hl 2 rfl) ?_
    refine lv_aload_n hx hb dL_any_274 rfl (lv_at hl 5 rfl) ?_
    refine lv_iload_n hx hb dL_any_275 rfl (lv_at hl 6 rfl) ?_
    refine x_iconst hx hb dL_any_276 ?_
    refine x_iadd hx hb dL_any_277 ?_
    refine x_bipush hx hb dL_any_278 (by decide) ?_
    refine x_cSI (As := [.ref zb, .int (iZ (i9 + 5)), .int (iZ 6)]) (rest := [.int (iZ z6), .int (iZ z1), .int (iZ 7), .ref (xad E 0)]) hx hb hml hts hown hK hST hOK hH (c_L_pick l E ST hSF zb zL zx hSC hzL σ (i9 + 5) 6  (by omega) (by omega)) (va_cwS 3 hts (goodIn_t gK_133) rfl rfl rfl (by decide +kernel) ⟨Nat.le_of_ble_eq_true rfl, Nat.le_of_ble_eq_true rfl⟩) rfl hl.1 rfl (Nat.le_of_ble_eq_true rfl) dL_any_280 ⟨Nat.le_of_ble_eq_true rfl, Nat.le_of_ble_eq_true rfl⟩ (fun z192 σ193 H locs hp194 hH => ?_)
    obtain ⟨hz195, hu196⟩ := hp194
    rw [hu196] at hH
    refine x_cSW (As := [.ref (xad E 0), .int (iZ 7), .int (iZ z1), .int (iZ z6), .int (iZ z192)]) (rest := []) hx hb hml hts hown hK hST hOK hH (c_L_deed_7 l E ST hSF hSX htr σ z1 z6 z192 B S Y fcw_0 (by omega) (by omega) (by omega)) (vx_cwSW 5 hts (goodIn_t gK_140) rfl rfl rfl (by decide +kernel) ⟨Nat.le_of_ble_eq_true rfl, Nat.le_of_ble_eq_true rfl⟩) rfl hl.1 rfl (Nat.le_of_ble_eq_true rfl) dL_any_283 ⟨Nat.le_of_ble_eq_true rfl, Nat.le_of_ble_eq_true rfl⟩ (fun z197 σ198 H locs hp199 hH => ?_)
    obtain ⟨hz201, fcw_0, fr200⟩ := hp199
    subst hQ
    exact x_iret hx hb hr hlocks hH (Nat.le_of_ble_eq_true rfl) (Nat.le_of_ble_eq_true rfl) ⟨(by trivial), ⟨((hangF (opT B) (lkT B) (kpT B) (wcT B) (pnT B) (nwT B) (shB B) (wkB B) z1 z6 (i2cZ (97 + z192))).2), fcw_0⟩, fun j hj0 => (fr200 j (by omega))⟩ dL_any_286
  · refine x_tableIn (tgt := 287) hx hb 16 c55 (by omega) dL_any_55 (by decide) (by decide) rfl (by decide) ?_
    refine lv_aload_n hx hb dL_any_287 rfl (lv_at hl 4 rfl) ?_
    refine x_bipush hx hb dL_any_288 (by decide) ?_
    refine lv_iload_n hx hb dL_any_290 rfl (lv_at hl 3 rfl) ?_
    refine lv_iload hx hb dL_any_291 (lv_at hl 2 rfl) ?_
    refine x_iconst hx hb dL_any_293 ?_
    refine x_cSW (As := [.ref (xad E 0), .int (iZ 8), .int (iZ z1), .int (iZ z6), .int (iZ 0)]) (rest := []) hx hb hml hts hown hK hST hOK hH (c_L_deed_8 l E ST hSF hSX htr σ z1 z6 0 B S Y fcw_0 (by omega) (by omega) (by omega)) (vx_cwSW 5 hts (goodIn_t gK_140) rfl rfl rfl (by decide +kernel) ⟨Nat.le_of_ble_eq_true rfl, Nat.le_of_ble_eq_true rfl⟩) rfl hl.1 rfl (Nat.le_of_ble_eq_true rfl) dL_any_294 ⟨Nat.le_of_ble_eq_true rfl, Nat.le_of_ble_eq_true rfl⟩ (fun z202 σ203 H locs hp204 hH => ?_)
    obtain ⟨hz206, fcw_0, fr205⟩ := hp204
    subst hQ
    exact x_iret hx hb hr hlocks hH (Nat.le_of_ble_eq_true rfl) (Nat.le_of_ble_eq_true rfl) ⟨(by trivial), ⟨((takeF (opT B) (lkT B) (kpT B) (wcT B) (pnT B) (nwT B) (shB B) (wkB B) z1 z6).2), fcw_0⟩, fun j hj0 => (fr205 j (by omega))⟩ dL_any_297
  · refine x_tableIn (tgt := 298) hx hb 17 c55 (by omega) dL_any_55 (by decide) (by decide) rfl (by decide) ?_
    refine lv_aload_n hx hb dL_any_298 rfl (lv_at hl 4 rfl) ?_
    refine x_bipush hx hb dL_any_299 (by decide) ?_
    refine lv_iload_n hx hb dL_any_301 rfl (lv_at hl 3 rfl) ?_
    refine lv_iload hx hb dL_any_302 (lv_at hl 2 rfl) ?_
    refine x_iconst hx hb dL_any_304 ?_
    refine x_cSW (As := [.ref (xad E 0), .int (iZ 9), .int (iZ z1), .int (iZ z6), .int (iZ 0)]) (rest := []) hx hb hml hts hown hK hST hOK hH (c_L_deed_9 l E ST hSF hSX htr σ z1 z6 0 B S Y fcw_0 (by omega) (by omega) (by omega)) (vx_cwSW 5 hts (goodIn_t gK_140) rfl rfl rfl (by decide +kernel) ⟨Nat.le_of_ble_eq_true rfl, Nat.le_of_ble_eq_true rfl⟩) rfl hl.1 rfl (Nat.le_of_ble_eq_true rfl) dL_any_305 ⟨Nat.le_of_ble_eq_true rfl, Nat.le_of_ble_eq_true rfl⟩ (fun z207 σ208 H locs hp209 hH => ?_)
    obtain ⟨hz211, fcw_0, fr210⟩ := hp209
    subst hQ
    exact x_iret hx hb hr hlocks hH (Nat.le_of_ble_eq_true rfl) (Nat.le_of_ble_eq_true rfl) ⟨(by trivial), ⟨((enterF (opT B) (lkT B) (kpT B) (wcT B) (pnT B) (nwT B) (shB B) (wkB B) z1 z6).2), fcw_0⟩, fun j hj0 => (fr210 j (by omega))⟩ dL_any_308
  · refine x_tableOut (tgt := 309) hx hb (by omega) dL_any_55 c55 (by decide) ?_
    refine lv_aload_n hx hb dL_any_309 rfl (lv_at hl 4 rfl) ?_
    refine x_bipush hx hb dL_any_310 (by decide) ?_
    refine lv_iload_n hx hb dL_any_312 rfl (lv_at hl 3 rfl) ?_
    refine lv_iload hx hb dL_any_313 (lv_at hl 2 rfl) ?_
    refine lv_iload hx hb dL_any_315 (lv_at hl 1 rfl) ?_
    refine x_cSW (As := [.ref (xad E 0), .int (iZ 10), .int (iZ z1), .int (iZ z6), .int (iZ zw)]) (rest := []) hx hb hml hts hown hK hST hOK hH (c_L_deed_10 l E ST hSF hSX htr σ z1 z6 zw B S Y fcw_0 (by omega) (by omega) (by omega)) (vx_cwSW 5 hts (goodIn_t gK_140) rfl rfl rfl (by decide +kernel) ⟨Nat.le_of_ble_eq_true rfl, Nat.le_of_ble_eq_true rfl⟩) rfl hl.1 rfl (Nat.le_of_ble_eq_true rfl) dL_any_317 ⟨Nat.le_of_ble_eq_true rfl, Nat.le_of_ble_eq_true rfl⟩ (fun z212 σ213 H locs hp214 hH => ?_)
    obtain ⟨hz216, fcw_0, fr215⟩ := hp214
    subst hQ
    exact x_iret hx hb hr hlocks hH (Nat.le_of_ble_eq_true rfl) (Nat.le_of_ble_eq_true rfl) ⟨(by trivial), ⟨((walkF (opT B) (lkT B) (kpT B) (wcT B) (pnT B) (nwT B) (shB B) (wkB B) zw z1 z6).2), fcw_0⟩, fun j hj0 => (fr215 j (by omega))⟩ dL_any_320
