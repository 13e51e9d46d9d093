def rm_X4_match : Room := { frames := 4, cells := 0, slots := 0, locals := 85 }
set_option maxRecDepth 100000 in
set_option maxHeartbeats 4000000 in
theorem c_X4_match (l : Launch) (E : xE) (ST : xST) (hSF : SF ST) (Z : zE) (hSQ : SQ Z ST) (σ : xW) (i : Int) (st : Int) (tx : Int → Int) (ln : Int) (cs : Int) (cm : Value) (va : Int → Int) (hr0 : pg E σ tx ln cs cm va) (h0 : 0 ≤ i) (h1 : i < 11) (hst : 0 ≤ st ∧ st ≤ ln) (hln : 0 ≤ ln ∧ ln ≤ 60) (htx : ∀ j, 0 ≤ tx j ∧ tx j ≤ 65535) (hva : ∀ j : Int, -1 ≤ va j ∧ va j ≤ 102) : CI l E ST yX4_match wsX4_match rm_X4_match [.ref (xad E 81), .ref (zK Z i), .int (iZ st)] σ (fun (z : Int) (u : xW) => z = (mtL tx ln (sPat i) st []).1 ∧ (∃ (va1 : Int → Int), pg E u tx ln cs cm va1 ∧ (∀ j : Nat, j < (mtL tx ln (sPat i) st []).2.length → va1 j = (mtL tx ln (sPat i) st []).2.getD j 0) ∧ (∀ j : Int, -1 ≤ va1 j ∧ va1 j ≤ 102)) ∧ ∀ j : Nat, j ≠ 83 → u j = σ j) := by
  obtain ⟨f81, f82, f83⟩ := hr0
  refine CI_of (by decide) rfl (Nat.le_of_ble_eq_true rfl) ?_
  intro p e s m args below meth c Q ls G hH hl hQ
  obtain ⟨hx, hb, hml, hown, hts, hK, hST, hlocks, hr, hno⟩ := G
  have hOK := hSF.1
  have hown : s.vm.findClass RX4 = some m.cls := hown
  have hl : lv_has ls 8 [(0, .ref (xad E 81)), (1, .ref (zK Z i)), (2, .int (iZ st))] := hl
  have hinX4 : ∀ w ∈ u_ws RX4 TX4 5, w ∈ wsX4_match := fun w h => (List.mem_cons_of_mem _ (List.mem_append_right _ h))
  have hsl := slZ_b h0 (show i < 12 by omega)
  have hlen := sPat_len (i := i) h0 (by omega)
  refine lv_iload_n hx hb dX4_match_0 rfl (lv_at hl 2 rfl) ?_
  refine lv_istore_n (lv' := [(3, .int (iZ st)), (0, .ref (xad E 81)), (1, .ref (zK Z i)), (2, .int (iZ st))]) hx hb dX4_match_1 rfl hl (by decide) rfl (fun ls hl => ?_)
  refine x_iconst hx hb dX4_match_2 ?_
  refine lv_istore (lv' := [(4, .int (iZ 0)), (3, .int (iZ st)), (0, .ref (xad E 81)), (1, .ref (zK Z i)), (2, .int (iZ st))]) hx hb dX4_match_3 hl (by decide) rfl (fun ls hl => ?_)
  refine x_iconst hx hb dX4_match_5 ?_
  refine lv_istore (lv' := [(5, .int (iZ 0)), (4, .int (iZ 0)), (3, .int (iZ st)), (0, .ref (xad E 81)), (1, .ref (zK Z i)), (2, .int (iZ st))]) hx hb dX4_match_6 hl (by decide) rfl (fun ls hl => ?_)
  have K8 : ∀ (nK : Nat) (a cnt idx : Int) (va2 : Int → Int) (σ1 : xW) (H : Heap) (locs : List Loc) (ls : Array Slot), (slZ i - idx).toNat < nK → ((0 ≤ idx ∧ idx ≤ slZ i) ∧ (0 ≤ a ∧ a ≤ ln)) → (mtI tx ln (sPat i) st idx a cnt va2) → (∀ j : Int, -1 ≤ va2 j ∧ va2 j ≤ 102) → σ1 81 = oB 2 [.ref (xad E 82), .int (iZ ln), .int (iZ cs), cm, .ref (xad E 83)] → σ1 82 = aC E 60 tx → σ1 83 = aI E 3 va2 → (∀ j : Nat, j ≠ 83 → σ1 j = σ j) → Hx E (xA E s.heap.size) s.heap σ1 H locs → lv_has ls 8 [(5, .int (iZ idx)), (4, .int (iZ cnt)), (3, .int (iZ a)), (0, .ref (xad E 81)), (1, .ref (zK Z i)), (2, .int (iZ st))] → W p l e rm_X4_match s m args below meth c H locs 0 0 Q (F0 m 8 ls []) := by
    intro n8
    induction n8 with
    | zero =>
      intro a cnt idx va2 σ1 H locs ls hm
      exact absurd hm (by first | exact Nat.not_lt_zero _ | omega)
    | succ n8 ih8 =>
      intro a cnt idx va2 σ1 H locs ls hm8 hix hI hvr f81 f82 f83 fr2 hH hl
      refine lv_iload hx hb dX4_match_8 (lv_at hl 0 rfl) ?_
      refine lv_aload_n hx hb dX4_match_10 rfl (lv_at hl 4 rfl) ?_
      refine x_cRID (As := []) (rest := [.int (iZ idx)]) hx hb hml hts hown hK hST hOK hH (x_recS hSQ hST hH (i := i) (by omega) (by omega)) (c_J0_length_8abf5 l E ST hSF Z hSQ σ1 i  (by omega) (by omega)) (cwV 0 hts gX4_match_J0_length_8abf5 rfl rfl rfl (by decide +kernel) ⟨Nat.le_of_ble_eq_true rfl, Nat.le_of_ble_eq_true rfl⟩) rfl hl.1 rfl (Nat.le_of_ble_eq_true rfl) dX4_match_11 ⟨Nat.le_of_ble_eq_true rfl, Nat.le_of_ble_eq_true rfl⟩ (fun z u h => h) (fun H locs hH => ?_)
      refine x_icmp_ge (tgt := 150) hx hb dX4_match_14 (by decide) (by omega) (by omega) (fun c14 => ?_) (fun c14 => ?_)
      · refine lv_iload_n hx hb dX4_match_150 rfl (lv_at hl 2 rfl) ?_
        subst hQ
        exact x_iret hx hb hr hlocks hH (Nat.le_of_ble_eq_true rfl) (Nat.le_of_ble_eq_true rfl) ⟨(show a = ((mtL tx ln (sPat i) st []).1) from (by exact (mtI_end hI (by omega)).1)), ⟨va2, ⟨f81, f82, f83⟩, (by exact (mtI_end hI (by omega)).2), (by exact hvr)⟩, fun j hj0 => (fr2 j (by omega))⟩ dX4_match_151
      · have hsc := scZ_b h0 (show i < 12 by omega) (show 0 ≤ idx by omega) (show idx < slZ i by omega)
        refine lv_aload_n hx hb dX4_match_17 rfl (lv_at hl 4 rfl) ?_
        refine lv_iload hx hb dX4_match_18 (lv_at hl 0 rfl) ?_
        refine x_cRID (As := [.int (iZ idx)]) (rest := []) hx hb hml hts hown hK hST hOK hH (x_recS hSQ hST hH (i := i) (by omega) (by omega)) (c_J0_charAt_5068e l E ST hSF Z hSQ σ1 i idx  (by omega) (by omega) (by omega) (by omega)) (cwV 1 hts gX4_match_J0_charAt_5068e rfl rfl rfl (by decide +kernel) ⟨Nat.le_of_ble_eq_true rfl, Nat.le_of_ble_eq_true rfl⟩) rfl hl.1 rfl (Nat.le_of_ble_eq_true rfl) dX4_match_20 ⟨Nat.le_of_ble_eq_true rfl, Nat.le_of_ble_eq_true rfl⟩ (fun z u h => h) (fun H locs hH => ?_)
        refine lv_istore (lv' := [(6, .int (iZ (scZ i idx))), (5, .int (iZ idx)), (4, .int (iZ cnt)), (3, .int (iZ a)), (0, .ref (xad E 81)), (1, .ref (zK Z i)), (2, .int (iZ st))]) hx hb dX4_match_23 hl (by decide) rfl (fun ls hl => ?_)
        refine lv_iload_n hx hb dX4_match_25 rfl (lv_at hl 3 rfl) ?_
        refine lv_aload_n hx hb dX4_match_26 rfl (lv_at hl 4 rfl) ?_
        refine x_get hx hb hts hown hK hH 81 (by decide) f81 hinX4 rfl 1 (by decide) (List.mem_of_getElem? (i := 1) rfl) rfl dX4_match_27 ?_
        refine x_icmp_ge (tgt := 47) hx hb dX4_match_30 (by decide) (by omega) (by omega) (fun c30 => ?_) (fun c30 => ?_)
        · have hbad := mtI_bad (k := scZ i idx) hI (by omega) (by omega) rfl (fun q => by omega)
          refine lv_iload_n hx hb dX4_match_47 rfl (lv_at hl 3 rfl) ?_
          refine x_iconst hx hb dX4_match_48 ?_
          refine x_ixor hx hb dX4_match_49 ?_
          subst hQ
          exact x_iret hx hb hr hlocks hH (Nat.le_of_ble_eq_true rfl) (Nat.le_of_ble_eq_true rfl) ⟨(show (ixorZ a (-1)) = ((mtL tx ln (sPat i) st []).1) from (by rw [ixor_m1 (by omega) (by omega)]; exact hbad.1)), ⟨va2, ⟨f81, f82, f83⟩, (by exact hbad.2), (by exact hvr)⟩, fun j hj0 => (fr2 j (by omega))⟩ dX4_match_50
        · refine lv_iload hx hb dX4_match_33 (lv_at hl 0 rfl) ?_
          refine lv_aload_n hx hb dX4_match_35 rfl (lv_at hl 4 rfl) ?_
          refine x_get hx hb hts hown hK hH 81 (by decide) f81 hinX4 rfl 0 (by decide) (List.mem_of_getElem? (i := 2) rfl) rfl dX4_match_36 ?_
          refine lv_iload_n hx hb dX4_match_39 rfl (lv_at hl 3 rfl) ?_
          refine x_cald hx hb hK hH 82 (by decide) f82 (by omega) (by omega) (by omega) dX4_match_40 ?_
          have hv9 := htx a
          refine x_cSID (As := [.int (iZ (scZ i idx)), .int (iZ (tx a))]) (rest := []) hx hb hml hts hown hK hST hOK hH (c_X4_fits l E ST hSF σ1 (scZ i idx) (tx a)  (by omega) (by omega)) (va_cwS 2 hts gX4_match_X4_fits rfl rfl rfl (by decide +kernel) ⟨Nat.le_of_ble_eq_true rfl, Nat.le_of_ble_eq_true rfl⟩) rfl hl.1 rfl (Nat.le_of_ble_eq_true rfl) dX4_match_41 ⟨Nat.le_of_ble_eq_true rfl, Nat.le_of_ble_eq_true rfl⟩ (fun z u h => h) (fun H locs hH => ?_)
          refine x_ifb_ne (tgt := 51) hx hb dX4_match_44 (by decide) (fun c44 => ?_) (fun c44 => ?_)
          · refine lv_iload hx hb dX4_match_51 (lv_at hl 0 rfl) ?_
            refine lv_aload_n hx hb dX4_match_53 rfl (lv_at hl 4 rfl) ?_
            refine x_get hx hb hts hown hK hH 81 (by decide) f81 hinX4 rfl 0 (by decide) (List.mem_of_getElem? (i := 2) rfl) rfl dX4_match_54 ?_
            refine lv_iload_n hx hb dX4_match_57 rfl (lv_at hl 3 rfl) ?_
            refine x_cald hx hb hK hH 82 (by decide) f82 (by omega) (by omega) (by omega) dX4_match_58 ?_
            have hv13 := htx a
            refine x_cSID (As := [.int (iZ (scZ i idx)), .int (iZ (tx a))]) (rest := []) hx hb hml hts hown hK hST hOK hH (c_X4_valueOf l E ST hSF σ1 (scZ i idx) (tx a)  (by omega) (by omega)) (va_cwS 2 hts gX4_match_X4_valueOf rfl rfl rfl (by decide +kernel) ⟨Nat.le_of_ble_eq_true rfl, Nat.le_of_ble_eq_true rfl⟩) rfl hl.1 rfl (Nat.le_of_ble_eq_true rfl) dX4_match_59 ⟨Nat.le_of_ble_eq_true rfl, Nat.le_of_ble_eq_true rfl⟩ (fun z u h => h) (fun H locs hH => ?_)
            refine lv_istore (lv' := [(7, .int (iZ (vlZ (scZ i idx) (tx a)))), (6, .int (iZ (scZ i idx))), (5, .int (iZ idx)), (4, .int (iZ cnt)), (3, .int (iZ a)), (0, .ref (xad E 81)), (1, .ref (zK Z i)), (2, .int (iZ st))]) hx hb dX4_match_62 hl (by decide) rfl (fun ls hl => ?_)
            refine x_iinc (lv' := [(3, .int (iZ (a + 1))), (7, .int (iZ (vlZ (scZ i idx) (tx a)))), (6, .int (iZ (scZ i idx))), (5, .int (iZ idx)), (4, .int (iZ cnt)), (0, .ref (xad E 81)), (1, .ref (zK Z i)), (2, .int (iZ st))]) hx hb dX4_match_64 hl (k := 4) rfl (by decide) rfl (fun ls hl => ?_)
            refine lv_iload hx hb dX4_match_67 (lv_at hl 2 rfl) ?_
            refine x_bipush hx hb dX4_match_69 (by decide) ?_
            refine x_icmp_ne (tgt := 118) hx hb dX4_match_71 (by decide) (by omega) (by decide) (fun c71 => ?_) (fun c71 => ?_)
            · refine lv_iload hx hb dX4_match_118 (lv_at hl 2 rfl) ?_
              refine x_cSID (As := [.int (iZ (scZ i idx))]) (rest := []) hx hb hml hts hown hK hST hOK hH (c_X4_isPlaceholder l E ST hSF σ1 (scZ i idx)  (by omega)) (va_cwS 1 hts gX4_match_X4_isPlaceholder rfl rfl rfl (by decide +kernel) ⟨Nat.le_of_ble_eq_true rfl, Nat.le_of_ble_eq_true rfl⟩) rfl hl.1 rfl (Nat.le_of_ble_eq_true rfl) dX4_match_120 ⟨Nat.le_of_ble_eq_true rfl, Nat.le_of_ble_eq_true rfl⟩ (fun z u h => h) (fun H locs hH => ?_)
              refine x_ifb_eq (tgt := 144) hx hb dX4_match_123 (by decide) (fun c123 => ?_) (fun c123 => ?_)
              · have c123 := of_decide_eq_false c123
                refine x_iinc (lv' := [(5, .int (iZ (idx + 1))), (3, .int (iZ (a + 1))), (7, .int (iZ (vlZ (scZ i idx) (tx a)))), (6, .int (iZ (scZ i idx))), (4, .int (iZ cnt)), (0, .ref (xad E 81)), (1, .ref (zK Z i)), (2, .int (iZ st))]) hx hb dX4_match_144 hl (k := 3) rfl (by decide) rfl (fun ls hl => ?_)
                refine lv_goto (tgt := 8) hx hb dX4_match_147 (by decide) ?_
                exact ih8 (a + 1) cnt (idx + 1) va2 σ1 _ _ _ (by omega) (by omega) (by first | exact mtI_n2 hI (by omega) (by omega) rfl c71 (by omega) c44 (by omega) c93 | exact mtI_ph hI (by omega) (by omega) rfl c123 (by omega) c44 (fun q => c71 q.1) | exact mtI_ph hI (by omega) (by omega) rfl c123 (by omega) c44 (fun q => by omega) | exact mtI_ph hI (by omega) (by omega) rfl c123 (by omega) c44 (fun q => by rw [c93] at q; exact absurd q.2.2 (by decide)) | exact mtI_lit hI (by omega) (by omega) rfl c123 (by omega) c44 | exact absurd (Or.inr (Or.inl c71)) c123) (by first | exact hvr | (intro j; have h9 := hvr j; have h8 := vlN2 c71 c44 c93; unfold ui; split <;> omega) | (intro j; have h9 := hvr j; have h8 := vlZ_ph c123 c44; unfold ui; split <;> omega)) f81 f82 f83 (fun j hj0 => (fr2 j (by omega))) hH (lv_sub hl [0, 4, 1, 5, 6, 7] rfl)
              · have c123 := of_decide_eq_true c123
                have hcc := mtI_c hI (by omega) (by omega) rfl c123
                refine lv_iload hx hb dX4_match_126 (lv_at hl 4 rfl) ?_
                refine x_iconst hx hb dX4_match_128 ?_
                refine x_icmp_ge (tgt := 144) hx hb dX4_match_129 (by decide) (by omega) (by decide) (fun c129 => ?_) (fun c129 => ?_)
                · exact absurd c129 (by omega)
                · refine lv_aload_n hx hb dX4_match_132 rfl (lv_at hl 5 rfl) ?_
                  refine x_get hx hb hts hown hK hH 81 (by decide) f81 hinX4 rfl 4 (by decide) (List.mem_of_getElem? (i := 3) rfl) rfl dX4_match_133 ?_
                  refine lv_iload hx hb dX4_match_136 (lv_at hl 4 rfl) ?_
                  refine lv_iload hx hb dX4_match_138 (lv_at hl 1 rfl) ?_
                  refine x_iast hx hb hK hH 83 (by decide) f83 (by omega) (by omega) (by omega) dX4_match_140 (fun σ20 H locs f83 fr21 hH => ?_)
                  have f81 : σ20 81 = oB 2 [.ref (xad E 82), .int (iZ ln), .int (iZ cs), cm, .ref (xad E 83)] := (fr21 81 (by omega)).trans f81
                  have f82 : σ20 82 = aC E 60 tx := (fr21 82 (by omega)).trans f82
                  refine x_iinc (lv' := [(4, .int (iZ (cnt + 1))), (3, .int (iZ (a + 1))), (7, .int (iZ (vlZ (scZ i idx) (tx a)))), (6, .int (iZ (scZ i idx))), (5, .int (iZ idx)), (0, .ref (xad E 81)), (1, .ref (zK Z i)), (2, .int (iZ st))]) hx hb dX4_match_141 hl (k := 4) rfl (by decide) rfl (fun ls hl => ?_)
                  refine x_iinc (lv' := [(5, .int (iZ (idx + 1))), (4, .int (iZ (cnt + 1))), (3, .int (iZ (a + 1))), (7, .int (iZ (vlZ (scZ i idx) (tx a)))), (6, .int (iZ (scZ i idx))), (0, .ref (xad E 81)), (1, .ref (zK Z i)), (2, .int (iZ st))]) hx hb dX4_match_144 hl (k := 4) rfl (by decide) rfl (fun ls hl => ?_)
                  refine lv_goto (tgt := 8) hx hb dX4_match_147 (by decide) ?_
                  exact ih8 (a + 1) (cnt + 1) (idx + 1) (ui va2 cnt (vlZ (scZ i idx) (tx a))) σ20 _ _ _ (by omega) (by omega) (by first | exact mtI_n2 hI (by omega) (by omega) rfl c71 (by omega) c44 (by omega) c93 | exact mtI_ph hI (by omega) (by omega) rfl c123 (by omega) c44 (fun q => c71 q.1) | exact mtI_ph hI (by omega) (by omega) rfl c123 (by omega) c44 (fun q => by omega) | exact mtI_ph hI (by omega) (by omega) rfl c123 (by omega) c44 (fun q => by rw [c93] at q; exact absurd q.2.2 (by decide)) | exact mtI_lit hI (by omega) (by omega) rfl c123 (by omega) c44 | exact absurd (Or.inr (Or.inl c71)) c123) (by first | exact hvr | (intro j; have h9 := hvr j; have h8 := vlN2 c71 c44 c93; unfold ui; split <;> omega) | (intro j; have h9 := hvr j; have h8 := vlZ_ph c123 c44; unfold ui; split <;> omega)) f81 f82 f83 (fun j hj0 => ((fr21 j (by omega)).trans (fr2 j (by omega)))) hH (lv_sub hl [0, 1, 2, 5, 6, 7] rfl)
            · refine lv_iload_n hx hb dX4_match_74 rfl (lv_at hl 0 rfl) ?_
              refine lv_aload_n hx hb dX4_match_75 rfl (lv_at hl 5 rfl) ?_
              refine x_get hx hb hts hown hK hH 81 (by decide) f81 hinX4 rfl 1 (by decide) (List.mem_of_getElem? (i := 1) rfl) rfl dX4_match_76 ?_
              refine x_icmp_ge (tgt := 118) hx hb dX4_match_79 (by decide) (by omega) (by omega) (fun c79 => ?_) (fun c79 => ?_)
              · refine lv_iload hx hb dX4_match_118 (lv_at hl 2 rfl) ?_
                refine x_cSID (As := [.int (iZ (scZ i idx))]) (rest := []) hx hb hml hts hown hK hST hOK hH (c_X4_isPlaceholder l E ST hSF σ1 (scZ i idx)  (by omega)) (va_cwS 1 hts gX4_match_X4_isPlaceholder rfl rfl rfl (by decide +kernel) ⟨Nat.le_of_ble_eq_true rfl, Nat.le_of_ble_eq_true rfl⟩) rfl hl.1 rfl (Nat.le_of_ble_eq_true rfl) dX4_match_120 ⟨Nat.le_of_ble_eq_true rfl, Nat.le_of_ble_eq_true rfl⟩ (fun z u h => h) (fun H locs hH => ?_)
                refine x_ifb_eq (tgt := 144) hx hb dX4_match_123 (by decide) (fun c123 => ?_) (fun c123 => ?_)
                · have c123 := of_decide_eq_false c123
                  refine x_iinc (lv' := [(5, .int (iZ (idx + 1))), (3, .int (iZ (a + 1))), (7, .int (iZ (vlZ (scZ i idx) (tx a)))), (6, .int (iZ (scZ i idx))), (4, .int (iZ cnt)), (0, .ref (xad E 81)), (1, .ref (zK Z i)), (2, .int (iZ st))]) hx hb dX4_match_144 hl (k := 3) rfl (by decide) rfl (fun ls hl => ?_)
                  refine lv_goto (tgt := 8) hx hb dX4_match_147 (by decide) ?_
                  exact ih8 (a + 1) cnt (idx + 1) va2 σ1 _ _ _ (by omega) (by omega) (by first | exact mtI_n2 hI (by omega) (by omega) rfl c71 (by omega) c44 (by omega) c93 | exact mtI_ph hI (by omega) (by omega) rfl c123 (by omega) c44 (fun q => c71 q.1) | exact mtI_ph hI (by omega) (by omega) rfl c123 (by omega) c44 (fun q => by omega) | exact mtI_ph hI (by omega) (by omega) rfl c123 (by omega) c44 (fun q => by rw [c93] at q; exact absurd q.2.2 (by decide)) | exact mtI_lit hI (by omega) (by omega) rfl c123 (by omega) c44 | exact absurd (Or.inr (Or.inl c71)) c123) (by first | exact hvr | (intro j; have h9 := hvr j; have h8 := vlN2 c71 c44 c93; unfold ui; split <;> omega) | (intro j; have h9 := hvr j; have h8 := vlZ_ph c123 c44; unfold ui; split <;> omega)) f81 f82 f83 (fun j hj0 => (fr2 j (by omega))) hH (lv_sub hl [0, 4, 1, 5, 6, 7] rfl)
                · have c123 := of_decide_eq_true c123
                  have hcc := mtI_c hI (by omega) (by omega) rfl c123
                  refine lv_iload hx hb dX4_match_126 (lv_at hl 4 rfl) ?_
                  refine x_iconst hx hb dX4_match_128 ?_
                  refine x_icmp_ge (tgt := 144) hx hb dX4_match_129 (by decide) (by omega) (by decide) (fun c129 => ?_) (fun c129 => ?_)
                  · exact absurd c129 (by omega)
                  · refine lv_aload_n hx hb dX4_match_132 rfl (lv_at hl 5 rfl) ?_
                    refine x_get hx hb hts hown hK hH 81 (by decide) f81 hinX4 rfl 4 (by decide) (List.mem_of_getElem? (i := 3) rfl) rfl dX4_match_133 ?_
                    refine lv_iload hx hb dX4_match_136 (lv_at hl 4 rfl) ?_
                    refine lv_iload hx hb dX4_match_138 (lv_at hl 1 rfl) ?_
                    refine x_iast hx hb hK hH 83 (by decide) f83 (by omega) (by omega) (by omega) dX4_match_140 (fun σ25 H locs f83 fr26 hH => ?_)
                    have f81 : σ25 81 = oB 2 [.ref (xad E 82), .int (iZ ln), .int (iZ cs), cm, .ref (xad E 83)] := (fr26 81 (by omega)).trans f81
                    have f82 : σ25 82 = aC E 60 tx := (fr26 82 (by omega)).trans f82
                    refine x_iinc (lv' := [(4, .int (iZ (cnt + 1))), (3, .int (iZ (a + 1))), (7, .int (iZ (vlZ (scZ i idx) (tx a)))), (6, .int (iZ (scZ i idx))), (5, .int (iZ idx)), (0, .ref (xad E 81)), (1, .ref (zK Z i)), (2, .int (iZ st))]) hx hb dX4_match_141 hl (k := 4) rfl (by decide) rfl (fun ls hl => ?_)
                    refine x_iinc (lv' := [(5, .int (iZ (idx + 1))), (4, .int (iZ (cnt + 1))), (3, .int (iZ (a + 1))), (7, .int (iZ (vlZ (scZ i idx) (tx a)))), (6, .int (iZ (scZ i idx))), (0, .ref (xad E 81)), (1, .ref (zK Z i)), (2, .int (iZ st))]) hx hb dX4_match_144 hl (k := 4) rfl (by decide) rfl (fun ls hl => ?_)
                    refine lv_goto (tgt := 8) hx hb dX4_match_147 (by decide) ?_
                    exact ih8 (a + 1) (cnt + 1) (idx + 1) (ui va2 cnt (vlZ (scZ i idx) (tx a))) σ25 _ _ _ (by omega) (by omega) (by first | exact mtI_n2 hI (by omega) (by omega) rfl c71 (by omega) c44 (by omega) c93 | exact mtI_ph hI (by omega) (by omega) rfl c123 (by omega) c44 (fun q => c71 q.1) | exact mtI_ph hI (by omega) (by omega) rfl c123 (by omega) c44 (fun q => by omega) | exact mtI_ph hI (by omega) (by omega) rfl c123 (by omega) c44 (fun q => by rw [c93] at q; exact absurd q.2.2 (by decide)) | exact mtI_lit hI (by omega) (by omega) rfl c123 (by omega) c44 | exact absurd (Or.inr (Or.inl c71)) c123) (by first | exact hvr | (intro j; have h9 := hvr j; have h8 := vlN2 c71 c44 c93; unfold ui; split <;> omega) | (intro j; have h9 := hvr j; have h8 := vlZ_ph c123 c44; unfold ui; split <;> omega)) f81 f82 f83 (fun j hj0 => ((fr26 j (by omega)).trans (fr2 j (by omega)))) hH (lv_sub hl [0, 1, 2, 5, 6, 7] rfl)
              · refine x_bipush hx hb dX4_match_82 (by decide) ?_
                refine lv_aload_n hx hb dX4_match_84 rfl (lv_at hl 5 rfl) ?_
                refine x_get hx hb hts hown hK hH 81 (by decide) f81 hinX4 rfl 0 (by decide) (List.mem_of_getElem? (i := 2) rfl) rfl dX4_match_85 ?_
                refine lv_iload_n hx hb dX4_match_88 rfl (lv_at hl 0 rfl) ?_
                refine x_cald hx hb hK hH 82 (by decide) f82 (by omega) (by omega) (by omega) dX4_match_89 ?_
                have hv27 := htx (a + 1)
                refine x_cSID (As := [.int (iZ 68), .int (iZ (tx (a + 1)))]) (rest := []) hx hb hml hts hown hK hST hOK hH (c_X4_fits l E ST hSF σ1 68 (tx (a + 1))  (by omega) (by omega)) (va_cwS 2 hts gX4_match_X4_fits rfl rfl rfl (by decide +kernel) ⟨Nat.le_of_ble_eq_true rfl, Nat.le_of_ble_eq_true rfl⟩) rfl hl.1 rfl (Nat.le_of_ble_eq_true rfl) dX4_match_90 ⟨Nat.le_of_ble_eq_true rfl, Nat.le_of_ble_eq_true rfl⟩ (fun z u h => h) (fun H locs hH => ?_)
                refine x_ifb_eq (tgt := 118) hx hb dX4_match_93 (by decide) (fun c93 => ?_) (fun c93 => ?_)
                · refine lv_iload hx hb dX4_match_118 (lv_at hl 2 rfl) ?_
                  refine x_cSID (As := [.int (iZ (scZ i idx))]) (rest := []) hx hb hml hts hown hK hST hOK hH (c_X4_isPlaceholder l E ST hSF σ1 (scZ i idx)  (by omega)) (va_cwS 1 hts gX4_match_X4_isPlaceholder rfl rfl rfl (by decide +kernel) ⟨Nat.le_of_ble_eq_true rfl, Nat.le_of_ble_eq_true rfl⟩) rfl hl.1 rfl (Nat.le_of_ble_eq_true rfl) dX4_match_120 ⟨Nat.le_of_ble_eq_true rfl, Nat.le_of_ble_eq_true rfl⟩ (fun z u h => h) (fun H locs hH => ?_)
                  refine x_ifb_eq (tgt := 144) hx hb dX4_match_123 (by decide) (fun c123 => ?_) (fun c123 => ?_)
                  · have c123 := of_decide_eq_false c123
                    refine x_iinc (lv' := [(5, .int (iZ (idx + 1))), (3, .int (iZ (a + 1))), (7, .int (iZ (vlZ (scZ i idx) (tx a)))), (6, .int (iZ (scZ i idx))), (4, .int (iZ cnt)), (0, .ref (xad E 81)), (1, .ref (zK Z i)), (2, .int (iZ st))]) hx hb dX4_match_144 hl (k := 3) rfl (by decide) rfl (fun ls hl => ?_)
                    refine lv_goto (tgt := 8) hx hb dX4_match_147 (by decide) ?_
                    exact ih8 (a + 1) cnt (idx + 1) va2 σ1 _ _ _ (by omega) (by omega) (by first | exact mtI_n2 hI (by omega) (by omega) rfl c71 (by omega) c44 (by omega) c93 | exact mtI_ph hI (by omega) (by omega) rfl c123 (by omega) c44 (fun q => c71 q.1) | exact mtI_ph hI (by omega) (by omega) rfl c123 (by omega) c44 (fun q => by omega) | exact mtI_ph hI (by omega) (by omega) rfl c123 (by omega) c44 (fun q => by rw [c93] at q; exact absurd q.2.2 (by decide)) | exact mtI_lit hI (by omega) (by omega) rfl c123 (by omega) c44 | exact absurd (Or.inr (Or.inl c71)) c123) (by first | exact hvr | (intro j; have h9 := hvr j; have h8 := vlN2 c71 c44 c93; unfold ui; split <;> omega) | (intro j; have h9 := hvr j; have h8 := vlZ_ph c123 c44; unfold ui; split <;> omega)) f81 f82 f83 (fun j hj0 => (fr2 j (by omega))) hH (lv_sub hl [0, 4, 1, 5, 6, 7] rfl)
                  · have c123 := of_decide_eq_true c123
                    have hcc := mtI_c hI (by omega) (by omega) rfl c123
                    refine lv_iload hx hb dX4_match_126 (lv_at hl 4 rfl) ?_
                    refine x_iconst hx hb dX4_match_128 ?_
                    refine x_icmp_ge (tgt := 144) hx hb dX4_match_129 (by decide) (by omega) (by decide) (fun c129 => ?_) (fun c129 => ?_)
                    · exact absurd c129 (by omega)
                    · refine lv_aload_n hx hb dX4_match_132 rfl (lv_at hl 5 rfl) ?_
                      refine x_get hx hb hts hown hK hH 81 (by decide) f81 hinX4 rfl 4 (by decide) (List.mem_of_getElem? (i := 3) rfl) rfl dX4_match_133 ?_
                      refine lv_iload hx hb dX4_match_136 (lv_at hl 4 rfl) ?_
                      refine lv_iload hx hb dX4_match_138 (lv_at hl 1 rfl) ?_
                      refine x_iast hx hb hK hH 83 (by decide) f83 (by omega) (by omega) (by omega) dX4_match_140 (fun σ34 H locs f83 fr35 hH => ?_)
                      have f81 : σ34 81 = oB 2 [.ref (xad E 82), .int (iZ ln), .int (iZ cs), cm, .ref (xad E 83)] := (fr35 81 (by omega)).trans f81
                      have f82 : σ34 82 = aC E 60 tx := (fr35 82 (by omega)).trans f82
                      refine x_iinc (lv' := [(4, .int (iZ (cnt + 1))), (3, .int (iZ (a + 1))), (7, .int (iZ (vlZ (scZ i idx) (tx a)))), (6, .int (iZ (scZ i idx))), (5, .int (iZ idx)), (0, .ref (xad E 81)), (1, .ref (zK Z i)), (2, .int (iZ st))]) hx hb dX4_match_141 hl (k := 4) rfl (by decide) rfl (fun ls hl => ?_)
                      refine x_iinc (lv' := [(5, .int (iZ (idx + 1))), (4, .int (iZ (cnt + 1))), (3, .int (iZ (a + 1))), (7, .int (iZ (vlZ (scZ i idx) (tx a)))), (6, .int (iZ (scZ i idx))), (0, .ref (xad E 81)), (1, .ref (zK Z i)), (2, .int (iZ st))]) hx hb dX4_match_144 hl (k := 4) rfl (by decide) rfl (fun ls hl => ?_)
                      refine lv_goto (tgt := 8) hx hb dX4_match_147 (by decide) ?_
                      exact ih8 (a + 1) (cnt + 1) (idx + 1) (ui va2 cnt (vlZ (scZ i idx) (tx a))) σ34 _ _ _ (by omega) (by omega) (by first | exact mtI_n2 hI (by omega) (by omega) rfl c71 (by omega) c44 (by omega) c93 | exact mtI_ph hI (by omega) (by omega) rfl c123 (by omega) c44 (fun q => c71 q.1) | exact mtI_ph hI (by omega) (by omega) rfl c123 (by omega) c44 (fun q => by omega) | exact mtI_ph hI (by omega) (by omega) rfl c123 (by omega) c44 (fun q => by rw [c93] at q; exact absurd q.2.2 (by decide)) | exact mtI_lit hI (by omega) (by omega) rfl c123 (by omega) c44 | exact absurd (Or.inr (Or.inl c71)) c123) (by first | exact hvr | (intro j; have h9 := hvr j; have h8 := vlN2 c71 c44 c93; unfold ui; split <;> omega) | (intro j; have h9 := hvr j; have h8 := vlZ_ph c123 c44; unfold ui; split <;> omega)) f81 f82 f83 (fun j hj0 => ((fr35 j (by omega)).trans (fr2 j (by omega)))) hH (lv_sub hl [0, 1, 2, 5, 6, 7] rfl)
                · refine x_bipush hx hb dX4_match_96 (by decide) ?_
                  refine lv_iload hx hb dX4_match_98 (lv_at hl 1 rfl) ?_
                  refine x_imul hx hb dX4_match_100 ?_
                  refine x_bipush hx hb dX4_match_101 (by decide) ?_
                  refine lv_aload_n hx hb dX4_match_103 rfl (lv_at hl 5 rfl) ?_
                  refine x_get hx hb hts hown hK hH 81 (by decide) f81 hinX4 rfl 0 (by decide) (List.mem_of_getElem? (i := 2) rfl) rfl dX4_match_104 ?_
                  refine lv_iload_n hx hb dX4_match_107 rfl (lv_at hl 0 rfl) ?_
                  refine x_cald hx hb hK hH 82 (by decide) f82 (by omega) (by omega) (by omega) dX4_match_108 ?_
                  have hv36 := htx (a + 1)
                  refine x_cSID (As := [.int (iZ 68), .int (iZ (tx (a + 1)))]) (rest := [.int (iZ (10 * (vlZ (scZ i idx) (tx a))))]) hx hb hml hts hown hK hST hOK hH (c_X4_valueOf l E ST hSF σ1 68 (tx (a + 1))  (by omega) (by omega)) (va_cwS 2 hts gX4_match_X4_valueOf rfl rfl rfl (by decide +kernel) ⟨Nat.le_of_ble_eq_true rfl, Nat.le_of_ble_eq_true rfl⟩) rfl hl.1 rfl (Nat.le_of_ble_eq_true rfl) dX4_match_109 ⟨Nat.le_of_ble_eq_true rfl, Nat.le_of_ble_eq_true rfl⟩ (fun z u h => h) (fun H locs hH => ?_)
                  refine x_iadd hx hb dX4_match_112 ?_
                  refine lv_istore (lv' := [(7, .int (iZ ((10 * (vlZ (scZ i idx) (tx a))) + (vlZ 68 (tx (a + 1)))))), (3, .int (iZ (a + 1))), (6, .int (iZ (scZ i idx))), (5, .int (iZ idx)), (4, .int (iZ cnt)), (0, .ref (xad E 81)), (1, .ref (zK Z i)), (2, .int (iZ st))]) hx hb dX4_match_113 hl (by decide) rfl (fun ls hl => ?_)
                  refine x_iinc (lv' := [(3, .int (iZ ((a + 1) + 1))), (7, .int (iZ ((10 * (vlZ (scZ i idx) (tx a))) + (vlZ 68 (tx (a + 1)))))), (6, .int (iZ (scZ i idx))), (5, .int (iZ idx)), (4, .int (iZ cnt)), (0, .ref (xad E 81)), (1, .ref (zK Z i)), (2, .int (iZ st))]) hx hb dX4_match_115 hl (k := 1) rfl (by decide) rfl (fun ls hl => ?_)
                  refine lv_iload hx hb dX4_match_118 (lv_at hl 2 rfl) ?_
                  refine x_cSID (As := [.int (iZ (scZ i idx))]) (rest := []) hx hb hml hts hown hK hST hOK hH (c_X4_isPlaceholder l E ST hSF σ1 (scZ i idx)  (by omega)) (va_cwS 1 hts gX4_match_X4_isPlaceholder rfl rfl rfl (by decide +kernel) ⟨Nat.le_of_ble_eq_true rfl, Nat.le_of_ble_eq_true rfl⟩) rfl hl.1 rfl (Nat.le_of_ble_eq_true rfl) dX4_match_120 ⟨Nat.le_of_ble_eq_true rfl, Nat.le_of_ble_eq_true rfl⟩ (fun z u h => h) (fun H locs hH => ?_)
                  refine x_ifb_eq (tgt := 144) hx hb dX4_match_123 (by decide) (fun c123 => ?_) (fun c123 => ?_)
                  · have c123 := of_decide_eq_false c123
                    refine x_iinc (lv' := [(5, .int (iZ (idx + 1))), (3, .int (iZ ((a + 1) + 1))), (7, .int (iZ ((10 * (vlZ (scZ i idx) (tx a))) + (vlZ 68 (tx (a + 1)))))), (6, .int (iZ (scZ i idx))), (4, .int (iZ cnt)), (0, .ref (xad E 81)), (1, .ref (zK Z i)), (2, .int (iZ st))]) hx hb dX4_match_144 hl (k := 3) rfl (by decide) rfl (fun ls hl => ?_)
                    refine lv_goto (tgt := 8) hx hb dX4_match_147 (by decide) ?_
                    exact ih8 ((a + 1) + 1) cnt (idx + 1) va2 σ1 _ _ _ (by omega) (by omega) (by first | exact mtI_n2 hI (by omega) (by omega) rfl c71 (by omega) c44 (by omega) c93 | exact mtI_ph hI (by omega) (by omega) rfl c123 (by omega) c44 (fun q => c71 q.1) | exact mtI_ph hI (by omega) (by omega) rfl c123 (by omega) c44 (fun q => by omega) | exact mtI_ph hI (by omega) (by omega) rfl c123 (by omega) c44 (fun q => by rw [c93] at q; exact absurd q.2.2 (by decide)) | exact mtI_lit hI (by omega) (by omega) rfl c123 (by omega) c44 | exact absurd (Or.inr (Or.inl c71)) c123) (by first | exact hvr | (intro j; have h9 := hvr j; have h8 := vlN2 c71 c44 c93; unfold ui; split <;> omega) | (intro j; have h9 := hvr j; have h8 := vlZ_ph c123 c44; unfold ui; split <;> omega)) f81 f82 f83 (fun j hj0 => (fr2 j (by omega))) hH (lv_sub hl [0, 4, 1, 5, 6, 7] rfl)
                  · have c123 := of_decide_eq_true c123
                    have hcc := mtI_c hI (by omega) (by omega) rfl c123
                    refine lv_iload hx hb dX4_match_126 (lv_at hl 4 rfl) ?_
                    refine x_iconst hx hb dX4_match_128 ?_
                    refine x_icmp_ge (tgt := 144) hx hb dX4_match_129 (by decide) (by omega) (by decide) (fun c129 => ?_) (fun c129 => ?_)
                    · exact absurd c129 (by omega)
                    · refine lv_aload_n hx hb dX4_match_132 rfl (lv_at hl 5 rfl) ?_
                      refine x_get hx hb hts hown hK hH 81 (by decide) f81 hinX4 rfl 4 (by decide) (List.mem_of_getElem? (i := 3) rfl) rfl dX4_match_133 ?_
                      refine lv_iload hx hb dX4_match_136 (lv_at hl 4 rfl) ?_
                      refine lv_iload hx hb dX4_match_138 (lv_at hl 1 rfl) ?_
                      refine x_iast hx hb hK hH 83 (by decide) f83 (by omega) (by omega) (by omega) dX4_match_140 (fun σ43 H locs f83 fr44 hH => ?_)
                      have f81 : σ43 81 = oB 2 [.ref (xad E 82), .int (iZ ln), .int (iZ cs), cm, .ref (xad E 83)] := (fr44 81 (by omega)).trans f81
                      have f82 : σ43 82 = aC E 60 tx := (fr44 82 (by omega)).trans f82
                      refine x_iinc (lv' := [(4, .int (iZ (cnt + 1))), (3, .int (iZ ((a + 1) + 1))), (7, .int (iZ ((10 * (vlZ (scZ i idx) (tx a))) + (vlZ 68 (tx (a + 1)))))), (6, .int (iZ (scZ i idx))), (5, .int (iZ idx)), (0, .ref (xad E 81)), (1, .ref (zK Z i)), (2, .int (iZ st))]) hx hb dX4_match_141 hl (k := 4) rfl (by decide) rfl (fun ls hl => ?_)
                      refine x_iinc (lv' := [(5, .int (iZ (idx + 1))), (4, .int (iZ (cnt + 1))), (3, .int (iZ ((a + 1) + 1))), (7, .int (iZ ((10 * (vlZ (scZ i idx) (tx a))) + (vlZ 68 (tx (a + 1)))))), (6, .int (iZ (scZ i idx))), (0, .ref (xad E 81)), (1, .ref (zK Z i)), (2, .int (iZ st))]) hx hb dX4_match_144 hl (k := 4) rfl (by decide) rfl (fun ls hl => ?_)
                      refine lv_goto (tgt := 8) hx hb dX4_match_147 (by decide) ?_
                      exact ih8 ((a + 1) + 1) (cnt + 1) (idx + 1) (ui va2 cnt ((10 * (vlZ (scZ i idx) (tx a))) + (vlZ 68 (tx (a + 1))))) σ43 _ _ _ (by omega) (by omega) (by first | exact mtI_n2 hI (by omega) (by omega) rfl c71 (by omega) c44 (by omega) c93 | exact mtI_ph hI (by omega) (by omega) rfl c123 (by omega) c44 (fun q => c71 q.1) | exact mtI_ph hI (by omega) (by omega) rfl c123 (by omega) c44 (fun q => by omega) | exact mtI_ph hI (by omega) (by omega) rfl c123 (by omega) c44 (fun q => by rw [c93] at q; exact absurd q.2.2 (by decide)) | exact mtI_lit hI (by omega) (by omega) rfl c123 (by omega) c44 | exact absurd (Or.inr (Or.inl c71)) c123) (by first | exact hvr | (intro j; have h9 := hvr j; have h8 := vlN2 c71 c44 c93; unfold ui; split <;> omega) | (intro j; have h9 := hvr j; have h8 := vlZ_ph c123 c44; unfold ui; split <;> omega)) f81 f82 f83 (fun j hj0 => ((fr44 j (by omega)).trans (fr2 j (by omega)))) hH (lv_sub hl [0, 1, 2, 5, 6, 7] rfl)
          · have hbad := mtI_bad (k := scZ i idx) hI (by omega) (by omega) rfl (fun q => by rw [c44] at q; exact absurd q.2 (by decide))
            refine lv_iload_n hx hb dX4_match_47 rfl (lv_at hl 3 rfl) ?_
            refine x_iconst hx hb dX4_match_48 ?_
            refine x_ixor hx hb dX4_match_49 ?_
            subst hQ
            exact x_iret hx hb hr hlocks hH (Nat.le_of_ble_eq_true rfl) (Nat.le_of_ble_eq_true rfl) ⟨(show (ixorZ a (-1)) = ((mtL tx ln (sPat i) st []).1) from (by rw [ixor_m1 (by omega) (by omega)]; exact hbad.1)), ⟨va2, ⟨f81, f82, f83⟩, (by exact hbad.2), (by exact hvr)⟩, fun j hj0 => (fr2 j (by omega))⟩ dX4_match_50
  exact K8 100 st 0 0 va σ _ _ _ (by first | omega | decide) (by omega) (by exact mtI_0 (sPat_ph h0 h1)) (by exact hva) f81 f82 f83 (fun j _ => rfl) hH (lv_sub hl [0, 1, 2, 3, 4, 5] rfl)

def rm_X4_readCommand : Room := { frames := 5, cells := 0, slots := 0, locals := 112 }
set_option maxRecDepth 100000 in
set_option maxHeartbeats 4000000 in
theorem c_X4_readCommand (l : Launch) (E : xE) (ST : xST) (hSF : SF ST) (Z : zE) (hSQ : SQ Z ST) (σ : xW) (st : Int) (tx : Int → Int) (ln : Int) (cs : Int) (cm : Value) (va : Int → Int) (hr0 : pg E σ tx ln cs cm va) (hst : 0 ≤ st ∧ st ≤ ln) (hln : 0 ≤ ln ∧ ln ≤ 60) (htx : ∀ j, 0 ≤ tx j ∧ tx j ≤ 65535) (hva : ∀ j : Int, -1 ≤ va j ∧ va j ≤ 102) : CI l E ST yX4_readCommand wsX4_readCommand rm_X4_readCommand [.ref (xad E 81), .int (iZ st)] σ (fun (z : Int) (u : xW) => z = (rdR tx ln st).1 ∧ (∃ (va1 : Int → Int) (cm1 : Value), pg E u tx ln cs cm1 va1 ∧ (0 ≤ (rdR tx ln st).1 → cm1 = .ref (zC Z (rdR tx ln st).2.1) ∧ ∀ j : Nat, j < (rdR tx ln st).2.2.length → va1 j = (rdR tx ln st).2.2.getD j 0) ∧ (∀ j : Int, -1 ≤ va1 j ∧ va1 j ≤ 102)) ∧ ∀ j : Nat, j ≠ 81 → j ≠ 83 → u j = σ j) := by
  obtain ⟨f81, f82, f83⟩ := hr0
  refine CI_of (by decide) rfl (Nat.le_of_ble_eq_true rfl) ?_
  intro p e s m args below meth c Q ls G hH hl hQ
  obtain ⟨hx, hb, hml, hown, hts, hK, hST, hlocks, hr, hno⟩ := G
  have hOK := hSF.1
  have hown : s.vm.findClass RX4 = some m.cls := hown
  have hl : lv_has ls 5 [(0, .ref (xad E 81)), (1, .int (iZ st))] := hl
  have hinX4 : ∀ w ∈ u_ws RX4 TX4 5, w ∈ wsX4_readCommand := fun w h => (List.mem_cons_of_mem _ (List.mem_append_right _ h))
  refine lv_iload_n hx hb dX4_readCommand_0 rfl (lv_at hl 1 rfl) ?_
  refine lv_istore_n (lv' := [(2, .int (iZ st)), (0, .ref (xad E 81)), (1, .int (iZ st))]) hx hb dX4_readCommand_1 rfl hl (by decide) rfl (fun ls hl => ?_)
  refine x_iconst hx hb dX4_readCommand_2 ?_
  refine lv_istore_n (lv' := [(3, .int (iZ 0)), (2, .int (iZ st)), (0, .ref (xad E 81)), (1, .int (iZ st))]) hx hb dX4_readCommand_3 rfl hl (by decide) rfl (fun ls hl => ?_)
  have K4 : ∀ (nK : Nat) (f i : Int) (va2 : Int → Int) (σ1 : xW) (H : Heap) (locs : List Loc) (ls : Array Slot), (11 - i).toNat < nK → (0 ≤ i ∧ i ≤ 11) → (rdI tx ln st i f) → (∀ j : Int, -1 ≤ va2 j ∧ va2 j ≤ 102) → σ1 81 = oB 2 [.ref (xad E 82), .int (iZ ln), .int (iZ cs), cm, .ref (xad E 83)] → σ1 82 = aC E 60 tx → σ1 83 = aI E 3 va2 → (∀ j : Nat, j ≠ 83 → σ1 j = σ j) → Hx E (xA E s.heap.size) s.heap σ1 H locs → lv_has ls 5 [(3, .int (iZ i)), (2, .int (iZ f)), (0, .ref (xad E 81)), (1, .int (iZ st))] → W p l e rm_X4_readCommand s m args below meth c H locs 0 0 Q (F0 m 4 ls []) := by
    intro n4
    induction n4 with
    | zero =>
      intro f i va2 σ1 H locs ls hm
      exact absurd hm (by first | exact Nat.not_lt_zero _ | omega)
    | succ n4 ih4 =>
      intro f i va2 σ1 H locs ls hm4 hi hI hvr f81 f82 f83 fr2 hH hl
      refine lv_iload_n hx hb dX4_readCommand_4 rfl (lv_at hl 0 rfl) ?_
      refine x_gcm hx hb hSQ hST hH hown dX4_readCommand_5 ?_
      refine x_cmlen hx hb hSQ hST hH dX4_readCommand_8 ?_
      refine x_icmp_ge (tgt := 59) hx hb dX4_readCommand_9 (by decide) (by omega) (by decide) (fun c9 => ?_) (fun c9 => ?_)
      · have hf9 := hI.2
        have e9 : i = 11 := by omega
        have hno := rdI_end (by rw [← e9]; exact hI)
        refine lv_iload_n hx hb dX4_readCommand_59 rfl (lv_at hl 1 rfl) ?_
        refine x_iconst hx hb dX4_readCommand_60 ?_
        refine x_ixor hx hb dX4_readCommand_61 ?_
        rw [ixor_m1 (by omega) (by omega)]
        subst hQ
        exact x_iret hx hb hr hlocks hH (Nat.le_of_ble_eq_true rfl) (Nat.le_of_ble_eq_true rfl) ⟨(show (-1 - f) = ((rdR tx ln st).1) from (by rw [hno])), ⟨va2, cm, ⟨f81, f82, f83⟩, (by intro h; rw [hno] at h; exact absurd h (by show ¬ (0 : Int) ≤ -1 - f; omega)), (by exact hvr)⟩, fun j hj0 hj1 => (fr2 j (by omega))⟩ dX4_readCommand_62
      · have hf9 := hI.2
        refine lv_aload_n hx hb dX4_readCommand_12 rfl (lv_at hl 2 rfl) ?_
        refine x_gcm hx hb hSQ hST hH hown dX4_readCommand_13 ?_
        refine lv_iload_n hx hb dX4_readCommand_16 rfl (lv_at hl 0 rfl) ?_
        refine x_cmald hx hb hSQ hST hH (i := i) (by omega) (by omega) dX4_readCommand_17 ?_
        refine x_cmpat hx hb hSQ hST hH hown hts (i := i) (by omega) (by omega) (List.mem_of_getElem? (i := 1) rfl) dX4_readCommand_18 ?_
        refine lv_iload_n hx hb dX4_readCommand_21 rfl (lv_at hl 3 rfl) ?_
        refine x_cVIE (As := [.ref (zK Z i), .int (iZ st)]) (rest := []) hx hb hml hts hown hK hST hOK hH 81 (c_X4_match l E ST hSF Z hSQ σ1 i st tx ln cs cm va2 ⟨f81, f82, f83⟩ (by omega) (by omega) (by omega) (by omega) (by assumption) (by assumption)) (cwV 2 hts gX4_readCommand_X4_match rfl rfl rfl (by decide +kernel) ⟨Nat.le_of_ble_eq_true rfl, Nat.le_of_ble_eq_true rfl⟩) (by decide) f81 rfl rfl hl.1 rfl (Nat.le_of_ble_eq_true rfl) dX4_readCommand_22 ⟨Nat.le_of_ble_eq_true rfl, Nat.le_of_ble_eq_true rfl⟩ (fun z u h => h) (fun σ4 H locs hp5 hH => ?_)
        obtain ⟨⟨va1_7, ⟨f81, f82, f83⟩, hmv, hmr⟩, fr6⟩ := hp5
        have hmb := mtL_b (t := tx) (n := ln) (sPat i) st [] (by omega) (by omega)
        refine lv_istore (lv' := [(4, .int (iZ ((mtL tx ln (sPat i) st []).1))), (3, .int (iZ i)), (2, .int (iZ f)), (0, .ref (xad E 81)), (1, .int (iZ st))]) hx hb dX4_readCommand_25 hl (by decide) rfl (fun ls hl => ?_)
        refine lv_iload hx hb dX4_readCommand_27 (lv_at hl 0 rfl) ?_
        refine x_if_lt (tgt := 44) hx hb dX4_readCommand_29 (by decide) (by omega) (fun c29 => ?_) (fun c29 => ?_)
        · refine lv_iload_n hx hb dX4_readCommand_44 rfl (lv_at hl 2 rfl) ?_
          refine lv_iload hx hb dX4_readCommand_45 (lv_at hl 0 rfl) ?_
          refine x_iconst hx hb dX4_readCommand_47 ?_
          refine x_ixor hx hb dX4_readCommand_48 ?_
          rw [ixor_m1 (by omega) (by omega)]
          refine x_max hx hb hml hown hts (List.mem_of_getElem? (i := 3) rfl) (List.mem_of_getElem? (i := 4) rfl) (List.mem_of_getElem? (i := 5) rfl) (List.mem_of_getElem? (i := 6) rfl) hl.1 (Nat.le_of_ble_eq_true rfl) (Nat.le_of_ble_eq_true rfl) (Nat.le_of_ble_eq_true rfl) (Nat.le_of_ble_eq_true rfl) (by omega) (by omega) dX4_readCommand_49 ?_
          refine lv_istore_n (lv' := [(2, .int (iZ (if f < (-1 - ((mtL tx ln (sPat i) st []).1)) then (-1 - ((mtL tx ln (sPat i) st []).1)) else f))), (4, .int (iZ ((mtL tx ln (sPat i) st []).1))), (3, .int (iZ i)), (0, .ref (xad E 81)), (1, .int (iZ st))]) hx hb dX4_readCommand_52 rfl hl (by decide) rfl (fun ls hl => ?_)
          refine x_iinc (lv' := [(3, .int (iZ (i + 1))), (2, .int (iZ (if f < (-1 - ((mtL tx ln (sPat i) st []).1)) then (-1 - ((mtL tx ln (sPat i) st []).1)) else f))), (4, .int (iZ ((mtL tx ln (sPat i) st []).1))), (0, .ref (xad E 81)), (1, .int (iZ st))]) hx hb dX4_readCommand_53 hl (k := 2) rfl (by decide) rfl (fun ls hl => ?_)
          refine lv_goto (tgt := 4) hx hb dX4_readCommand_56 (by decide) ?_
          exact ih4 (if f < (-1 - ((mtL tx ln (sPat i) st []).1)) then (-1 - ((mtL tx ln (sPat i) st []).1)) else f) (i + 1) va1_7 σ4 _ _ _ (by omega) (by omega) (by exact rdI_no hI (by omega) (by omega) hst (by omega)) (by exact hmr) f81 f82 f83 (fun j hj0 => ((fr6 j (by omega)).trans (fr2 j (by omega)))) hH (lv_sub hl [0, 1, 3, 4] rfl)
        · have hok := rdI_ok hI (by omega) (by omega) (by omega)
          refine lv_aload_n hx hb dX4_readCommand_32 rfl (lv_at hl 3 rfl) ?_
          refine x_gcm hx hb hSQ hST hH hown dX4_readCommand_33 ?_
          refine lv_iload_n hx hb dX4_readCommand_36 rfl (lv_at hl 1 rfl) ?_
          refine x_cmald hx hb hSQ hST hH (i := i) (by omega) (by omega) dX4_readCommand_37 ?_
          refine x_put (fs' := [.ref (xad E 82), .int (iZ ln), .int (iZ cs), .ref (zC Z i), .ref (xad E 83)]) hx hb hts hown hK hH 81 (by decide) f81 hinX4 rfl tyX4 tyX4_ok nmX4 3 (by decide) (List.mem_of_getElem? (i := 2) rfl) rfl (ty := .object "BrambleShift$Command") (by decide +kernel) rfl rfl (Nat.le_of_ble_eq_true rfl) rfl dX4_readCommand_38 (fun σ9 H locs f81 fr10 hH => ?_)
          have f82 : σ9 82 = aC E 60 tx := (fr10 82 (by omega)).trans f82
          have f83 : σ9 83 = aI E 3 va1_7 := (fr10 83 (by omega)).trans f83
          refine lv_iload hx hb dX4_readCommand_41 (lv_at hl 0 rfl) ?_
          subst hQ
          exact x_iret hx hb hr hlocks hH (Nat.le_of_ble_eq_true rfl) (Nat.le_of_ble_eq_true rfl) ⟨(show ((mtL tx ln (sPat i) st []).1) = ((rdR tx ln st).1) from (by rw [hok])), ⟨va1_7, (.ref (zC Z i)), ⟨(f81.trans (by first | rfl | omega | simp_all)), f82, f83⟩, (by intro h; rw [hok]; exact ⟨rfl, hmv⟩), (by exact hmr)⟩, fun j hj0 hj1 => ((fr10 j (by omega)).trans ((fr6 j (by omega)).trans (fr2 j (by omega))))⟩ dX4_readCommand_43
  exact K4 12 st 0 va σ _ _ _ (by first | omega | decide) (by omega) (by exact rdI_0 hst.2) (by exact hva) f81 f82 f83 (fun j _ => rfl) hH (lv_sub hl [0, 1, 2, 3] rfl)

def rm_X4_findError : Room := { frames := 6, cells := 0, slots := 0, locals := 136 }
set_option maxRecDepth 100000 in
set_option maxHeartbeats 4000000 in
theorem c_X4_findError (l : Launch) (E : xE) (ST : xST) (hSF : SF ST) (Z : zE) (hSQ : SQ Z ST) (σ : xW) (tx : Int → Int) (ln : Int) (cs : Int) (cm : Value) (va : Int → Int) (hr0 : pg E σ tx ln cs cm va) (hln : 0 ≤ ln ∧ ln ≤ 60) (htx : ∀ j, 0 ≤ tx j ∧ tx j ≤ 65535) (hva : ∀ j : Int, -1 ≤ va j ∧ va j ≤ 102) : CI l E ST yX4_findError wsX4_findError rm_X4_findError [.ref (xad E 81)] σ (fun (z : Int) (u : xW) => (-1 ≤ z ∧ z ≤ 60) ∧ (∃ (cs1 : Int) (va1 : Int → Int) (cm1 : Value), pg E u tx ln cs1 cm1 va1 ∧ (feP tx ln z cs1) ∧ (∀ j : Int, -1 ≤ va1 j ∧ va1 j ≤ 102)) ∧ ∀ j : Nat, j ≠ 81 → j ≠ 83 → u j = σ j) := by
  obtain ⟨f81, f82, f83⟩ := hr0
  refine CI_of (by decide) rfl (Nat.le_of_ble_eq_true rfl) ?_
  intro p e s m args below meth c Q ls G hH hl hQ
  obtain ⟨hx, hb, hml, hown, hts, hK, hST, hlocks, hr, hno⟩ := G
  have hOK := hSF.1
  have hown : s.vm.findClass RX4 = some m.cls := hown
  have hl : lv_has ls 4 [(0, .ref (xad E 81))] := hl
  have hinX4 : ∀ w ∈ u_ws RX4 TX4 5, w ∈ wsX4_findError := fun w h => (List.mem_cons_of_mem _ (List.mem_append_right _ h))
  refine lv_aload_n hx hb dX4_findError_0 rfl (lv_at hl 0 rfl) ?_
  refine x_iconst hx hb dX4_findError_1 ?_
  refine x_put (fs' := [.ref (xad E 82), .int (iZ ln), .int (iZ 0), cm, .ref (xad E 83)]) hx hb hts hown hK hH 81 (by decide) f81 hinX4 rfl tyX4 tyX4_ok nmX4 2 (by decide) (List.mem_of_getElem? (i := 1) rfl) rfl (ty := .int) (by decide +kernel) rfl rfl (Nat.le_of_ble_eq_true rfl) rfl dX4_findError_2 (fun σ1 H locs f81 fr2 hH => ?_)
  have f82 : σ1 82 = aC E 60 tx := (fr2 82 (by omega)).trans f82
  have f83 : σ1 83 = aI E 3 va := (fr2 83 (by omega)).trans f83
  refine x_iconst hx hb dX4_findError_5 ?_
  refine lv_istore_n (lv' := [(1, .int (iZ 0)), (0, .ref (xad E 81))]) hx hb dX4_findError_6 rfl hl (by decide) rfl (fun ls hl => ?_)
  refine x_iconst hx hb dX4_findError_7 ?_
  refine lv_istore_n (lv' := [(2, .int (iZ 0)), (1, .int (iZ 0)), (0, .ref (xad E 81))]) hx hb dX4_findError_8 rfl hl (by decide) rfl (fun ls hl => ?_)
  have K9 : ∀ (nK : Nat) (a r9 cs2 : Int) (va2 : Int → Int) (cm2 : Value) (σ3 : xW) (H : Heap) (locs : List Loc) (ls : Array Slot), (60 - r9).toNat < nK → ((0 ≤ r9 ∧ r9 ≤ 60) ∧ cs2 = r9) → (preP tx ln r9 ∧ a = atZ tx ln r9) → (∀ j : Int, -1 ≤ va2 j ∧ va2 j ≤ 102) → σ3 81 = oB 2 [.ref (xad E 82), .int (iZ ln), .int (iZ cs2), cm2, .ref (xad E 83)] → σ3 82 = aC E 60 tx → σ3 83 = aI E 3 va2 → (∀ j : Nat, j ≠ 81 → j ≠ 83 → σ3 j = σ1 j) → Hx E (xA E s.heap.size) s.heap σ3 H locs → lv_has ls 4 [(2, .int (iZ r9)), (1, .int (iZ a)), (0, .ref (xad E 81))] → W p l e rm_X4_findError s m args below meth c H locs 0 0 Q (F0 m 9 ls []) := by
    intro n9
    induction n9 with
    | zero =>
      intro a r9 cs2 va2 cm2 σ3 H locs ls hm
      exact absurd hm (by first | exact Nat.not_lt_zero _ | omega)
    | succ n9 ih9 =>
      intro a r9 cs2 va2 cm2 σ3 H locs ls hm9 hr9 hI hvr f81 f82 f83 fr4 hH hl
      refine lv_iload_n hx hb dX4_findError_9 rfl (lv_at hl 0 rfl) ?_
      refine x_bipush hx hb dX4_findError_10 (by decide) ?_
      refine x_icmp_ge (tgt := 72) hx hb dX4_findError_12 (by decide) (by omega) (by decide) (fun c12 => ?_) (fun c12 => ?_)
      · have hpb := preP_b hln.1 hr9.1.1 hI.1
        refine lv_aload_n hx hb dX4_findError_72 rfl (lv_at hl 2 rfl) ?_
        refine x_get hx hb hts hown hK hH 81 (by decide) f81 hinX4 rfl 1 (by decide) (List.mem_of_getElem? (i := 2) rfl) rfl dX4_findError_73 ?_
        subst hQ
        exact x_iret hx hb hr hlocks hH (Nat.le_of_ble_eq_true rfl) (Nat.le_of_ble_eq_true rfl) ⟨(by omega), ⟨cs2, va2, cm2, ⟨f81, f82, f83⟩, (by exfalso; omega), (by exact hvr)⟩, fun j hj0 hj1 => ((fr4 j (by omega) (by omega)).trans (fr2 j (by omega)))⟩ dX4_findError_76
      · have hpb := preP_b hln.1 hr9.1.1 hI.1
        rw [← hI.2] at hpb
        refine lv_aload_n hx hb dX4_findError_15 rfl (lv_at hl 2 rfl) ?_
        refine lv_iload_n hx hb dX4_findError_16 rfl (lv_at hl 1 rfl) ?_
        refine x_cVIE (As := [.int (iZ a)]) (rest := []) hx hb hml hts hown hK hST hOK hH 81 (c_X4_readCommand l E ST hSF Z hSQ σ3 a tx ln cs2 cm2 va2 ⟨f81, f82, f83⟩ (by omega) (by omega) (by assumption) (by assumption)) (cwV 1 hts gX4_findError_X4_readCommand rfl rfl rfl (by decide +kernel) ⟨Nat.le_of_ble_eq_true rfl, Nat.le_of_ble_eq_true rfl⟩) (by decide) f81 rfl rfl hl.1 rfl (Nat.le_of_ble_eq_true rfl) dX4_findError_17 ⟨Nat.le_of_ble_eq_true rfl, Nat.le_of_ble_eq_true rfl⟩ (fun z u h => h) (fun σ6 H locs hp7 hH => ?_)
        obtain ⟨⟨va1_9, cm1_10, ⟨f81, f82, f83⟩, hmv, hmr⟩, fr8⟩ := hp7
        have hrb := rdR_b (t := tx) (n := ln) (st := a) ⟨by omega, by omega⟩; have hen : (rdR tx ln a).1 = enZ tx ln r9 := (by rw [hI.2]; rfl)
        refine lv_istore_n (lv' := [(3, .int (iZ ((rdR tx ln a).1))), (2, .int (iZ r9)), (1, .int (iZ a)), (0, .ref (xad E 81))]) hx hb dX4_findError_20 rfl hl (by decide) rfl (fun ls hl => ?_)
        refine lv_iload_n hx hb dX4_findError_21 rfl (lv_at hl 0 rfl) ?_
        refine x_if_ge (tgt := 29) hx hb dX4_findError_22 (by decide) (by omega) (fun c22 => ?_) (fun c22 => ?_)
        · refine lv_aload_n hx hb dX4_findError_29 rfl (lv_at hl 3 rfl) ?_
          refine lv_dup hx hb dX4_findError_30 rfl ?_
          refine x_get hx hb hts hown hK hH 81 (by decide) f81 hinX4 rfl 2 (by decide) (List.mem_of_getElem? (i := 1) rfl) rfl dX4_findError_31 ?_
          refine x_iconst hx hb dX4_findError_34 ?_
          refine x_iadd hx hb dX4_findError_35 ?_
          refine x_put (fs' := [.ref (xad E 82), .int (iZ ln), .int (iZ (cs2 + 1)), cm1_10, .ref (xad E 83)]) hx hb hts hown hK hH 81 (by decide) f81 hinX4 rfl tyX4 tyX4_ok nmX4 2 (by decide) (List.mem_of_getElem? (i := 1) rfl) rfl (ty := .int) (by decide +kernel) rfl rfl (Nat.le_of_ble_eq_true rfl) rfl dX4_findError_36 (fun σ12 H locs f81 fr13 hH => ?_)
          have f82 : σ12 82 = aC E 60 tx := (fr13 82 (by omega)).trans f82
          have f83 : σ12 83 = aI E 3 va1_9 := (fr13 83 (by omega)).trans f83
          refine lv_iload_n hx hb dX4_findError_39 rfl (lv_at hl 0 rfl) ?_
          refine lv_aload_n hx hb dX4_findError_40 rfl (lv_at hl 3 rfl) ?_
          refine x_get hx hb hts hown hK hH 81 (by decide) f81 hinX4 rfl 1 (by decide) (List.mem_of_getElem? (i := 2) rfl) rfl dX4_findError_41 ?_
          refine x_icmp_lt (tgt := 49) hx hb dX4_findError_44 (by decide) (by omega) (by omega) (fun c44 => ?_) (fun c44 => ?_)
          · refine lv_aload_n hx hb dX4_findError_49 rfl (lv_at hl 3 rfl) ?_
            refine x_get hx hb hts hown hK hH 81 (by decide) f81 hinX4 rfl 0 (by decide) (List.mem_of_getElem? (i := 3) rfl) rfl dX4_findError_50 ?_
            refine lv_iload_n hx hb dX4_findError_53 rfl (lv_at hl 0 rfl) ?_
            refine x_cald hx hb hK hH 82 (by decide) f82 (by omega) (by omega) (by omega) dX4_findError_54 ?_
            have hv14 := htx ((rdR tx ln a).1)
            refine x_bipush hx hb dX4_findError_55 (by decide) ?_
            refine x_icmp_eq (tgt := 62) hx hb dX4_findError_57 (by decide) (by omega) (by decide) (fun c57 => ?_) (fun c57 => ?_)
            · refine lv_iload_n hx hb dX4_findError_62 rfl (lv_at hl 0 rfl) ?_
              refine x_iconst hx hb dX4_findError_63 ?_
              refine x_iadd hx hb dX4_findError_64 ?_
              refine lv_istore_n (lv' := [(1, .int (iZ (((rdR tx ln a).1) + 1))), (3, .int (iZ ((rdR tx ln a).1))), (2, .int (iZ r9)), (0, .ref (xad E 81))]) hx hb dX4_findError_65 rfl hl (by decide) rfl (fun ls hl => ?_)
              refine x_iinc (lv' := [(2, .int (iZ (r9 + 1))), (1, .int (iZ (((rdR tx ln a).1) + 1))), (3, .int (iZ ((rdR tx ln a).1))), (0, .ref (xad E 81))]) hx hb dX4_findError_66 hl (k := 2) rfl (by decide) rfl (fun ls hl => ?_)
              refine lv_goto (tgt := 9) hx hb dX4_findError_69 (by decide) ?_
              exact ih9 (((rdR tx ln a).1) + 1) (r9 + 1) (cs2 + 1) va1_9 cm1_10 σ12 _ _ _ (by omega) (by omega) (by exact ⟨preP_s hI.1 ⟨by omega, by omega, by rw [← hen]; exact c57⟩, by rw [atZ_s (by omega), hen]⟩) (by exact hmr) f81 f82 f83 (fun j hj0 hj1 => ((fr13 j (by omega)).trans ((fr8 j (by omega) (by omega)).trans (fr4 j (by omega) (by omega))))) hH (lv_sub hl [0, 1, 3] rfl)
            · refine lv_iload_n hx hb dX4_findError_60 rfl (lv_at hl 0 rfl) ?_
              subst hQ
              exact x_iret hx hb hr hlocks hH (Nat.le_of_ble_eq_true rfl) (Nat.le_of_ble_eq_true rfl) ⟨(by omega), ⟨(cs2 + 1), va1_9, cm1_10, ⟨f81, f82, f83⟩, (by exact ⟨r9, by omega, hI.1, Or.inr (Or.inr ⟨by omega, by omega, by rw [← hen]; exact c57, hen⟩)⟩), (by exact hmr)⟩, fun j hj0 hj1 => ((fr13 j (by omega)).trans ((fr8 j (by omega) (by omega)).trans ((fr4 j (by omega) (by omega)).trans (fr2 j (by omega)))))⟩ dX4_findError_61
          · refine x_iconst hx hb dX4_findError_47 ?_
            subst hQ
            exact x_iret hx hb hr hlocks hH (Nat.le_of_ble_eq_true rfl) (Nat.le_of_ble_eq_true rfl) ⟨(by omega), ⟨(cs2 + 1), va1_9, cm1_10, ⟨f81, f82, f83⟩, (by exact ⟨r9, by omega, hI.1, Or.inr (Or.inl ⟨by omega, by omega, rfl, by omega⟩)⟩), (by exact hmr)⟩, fun j hj0 hj1 => ((fr13 j (by omega)).trans ((fr8 j (by omega) (by omega)).trans ((fr4 j (by omega) (by omega)).trans (fr2 j (by omega)))))⟩ dX4_findError_48
        · refine lv_iload_n hx hb dX4_findError_25 rfl (lv_at hl 0 rfl) ?_
          refine x_iconst hx hb dX4_findError_26 ?_
          refine x_ixor hx hb dX4_findError_27 ?_
          rw [ixor_m1 (by omega) (by omega)]
          subst hQ
          exact x_iret hx hb hr hlocks hH (Nat.le_of_ble_eq_true rfl) (Nat.le_of_ble_eq_true rfl) ⟨(by omega), ⟨cs2, va1_9, cm1_10, ⟨f81, f82, f83⟩, (by exact ⟨r9, by omega, hI.1, Or.inl ⟨by omega, by rw [hen]⟩⟩), (by exact hmr)⟩, fun j hj0 hj1 => ((fr8 j (by omega) (by omega)).trans ((fr4 j (by omega) (by omega)).trans (fr2 j (by omega))))⟩ dX4_findError_28
  exact K9 61 0 0 0 va cm σ1 _ _ _ (by first | omega | decide) (by omega) (by exact ⟨preP_0, rfl⟩) (by exact hva) f81 f82 f83 (fun j _ _ => rfl) hH (lv_sub hl [0, 1, 2] rfl)
