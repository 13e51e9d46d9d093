def rm_X5_markGroup : Room := { frames := 2, cells := 0, slots := 0, locals := 46 }
set_option maxRecDepth 100000 in
set_option maxHeartbeats 4000000 in
theorem c_X5_markGroup (l : Launch) (E : xE) (ST : xST) (hSF : SF ST) (σ : xW) (b : Nat) (st : Int) (gn : Int) (op : Int → Int) (lk : Int → Int) (kp : Int → Int) (wc : Int → Int) (pn : Int) (nw : Int) (sh : Int) (wk : Int) (le : Int → Int) (rl : Int → Int) (fs : Int → Int) (qu : Int → Int) (gr : Int → Int) (hr0 : bd E σ b op lk kp wc pn nw sh wk) (hr1 : sr E σ le rl fs qu gr) (hB : BI op lk kp wc pn nw) (hbs : b + 6 ≤ 75) (hst : 0 ≤ st ∧ st ≤ 24) (hgn : 0 ≤ gn ∧ gn ≤ 25) (hgr : ∀ c, -1 ≤ gr c ∧ gr c ≤ 25) (hun : ∀ c, cnP op st c → gr c = -1) : CV l E ST yX5_markGroup wsX5_markGroup rm_X5_markGroup [.ref (xad E 75), .ref (xad E b), .int (iZ st), .int (iZ gn)] σ (fun (u : xW) => (∃ (gr1 qu1 : Int → Int), sr E u le rl fs qu1 gr1 ∧ (∀ c, (cnP op st c → gr1 c = gn) ∧ (¬ cnP op st c → gr1 c = gr c))) ∧ ∀ j : Nat, j ≠ 79 → j ≠ 80 → u j = σ j) := by
  obtain ⟨fb_0, fb_1, fb_2, fb_3, fb_4, ro0, fb_5⟩ := hr0
  obtain ⟨f75, f76, f77, f78, f79, f80⟩ := hr1
  refine CV_of (by decide) rfl (Nat.le_of_ble_eq_true rfl) ?_
  intro p e s m args below meth c Q ls G hH hl hQ
  obtain ⟨hx, hb, hml, hown, hts, hK, hST, hlocks, hr, hno⟩ := G
  have hOK := hSF.1
  have hown : s.vm.findClass RX5 = some m.cls := hown
  have hl : lv_has ls 8 [(0, .ref (xad E 75)), (1, .ref (xad E b)), (2, .int (iZ st)), (3, .int (iZ gn))] := hl
  have hinX5 : ∀ w ∈ u_ws RX5 TX5 5, w ∈ wsX5_markGroup := fun w h => (List.mem_cons_of_mem _ (List.mem_append_left _ (List.mem_append_right _ h)))
  obtain ⟨hop, hlk, hkp, hwc, hpn, hnw⟩ := id hB
  refine lv_aload_n hx hb dX5_markGroup_0 rfl (lv_at hl 0 rfl) ?_
  refine x_get hx hb hts hown hK hH 75 (ltw (by decide)) f75 hinX5 rfl 4 (by decide) (List.mem_of_getElem? (i := 1) rfl) rfl dX5_markGroup_1 ?_
  refine lv_iload_n hx hb dX5_markGroup_4 rfl (lv_at hl 2 rfl) ?_
  refine lv_iload_n hx hb dX5_markGroup_5 rfl (lv_at hl 3 rfl) ?_
  refine x_iast hx hb hK hH 80 (ltw (by decide)) f80 (by omega) (by omega) (by omega) dX5_markGroup_6 (fun σ1 H locs f80 fr2 hH => ?_)
  have fb_0 : σ1 b = oB 0 [.ref (xad E (b + 1)), .ref (xad E (b + 2)), .ref (xad E (b + 3)), .ref (xad E (b + 4)), .ref (xad E (b + 5)), .int (iZ pn), .int (iZ nw), .int (iZ sh), .long (lZ wk)] := (fr2 b (by omega)).trans fb_0
  have fb_1 : σ1 (b + 1) = aI E 25 op := (fr2 (b + 1) (by omega)).trans fb_1
  have fb_2 : σ1 (b + 2) = aI E 25 lk := (fr2 (b + 2) (by omega)).trans fb_2
  have fb_3 : σ1 (b + 3) = aI E 6 kp := (fr2 (b + 3) (by omega)).trans fb_3
  have fb_4 : σ1 (b + 4) = aI E 3 wc := (fr2 (b + 4) (by omega)).trans fb_4
  have fb_5 : σ1 (b + 5) = aI E 5 ro0 := (fr2 (b + 5) (by omega)).trans fb_5
  have f75 : σ1 75 = oB 3 [.ref (xad E 76), .ref (xad E 77), .ref (xad E 78), .ref (xad E 79), .ref (xad E 80)] := (fr2 75 (by omega)).trans f75
  have f76 : σ1 76 = aI E 25 le := (fr2 76 (by omega)).trans f76
  have f77 : σ1 77 = aI E 25 rl := (fr2 77 (by omega)).trans f77
  have f78 : σ1 78 = aI E 25 fs := (fr2 78 (by omega)).trans f78
  have f79 : σ1 79 = aI E 25 qu := (fr2 79 (by omega)).trans f79
  refine lv_aload_n hx hb dX5_markGroup_7 rfl (lv_at hl 0 rfl) ?_
  refine x_get hx hb hts hown hK hH 75 (ltw (by decide)) f75 hinX5 rfl 3 (by decide) (List.mem_of_getElem? (i := 2) rfl) rfl dX5_markGroup_8 ?_
  refine x_iconst hx hb dX5_markGroup_11 ?_
  refine lv_iload_n hx hb dX5_markGroup_12 rfl (lv_at hl 2 rfl) ?_
  refine x_iast hx hb hK hH 79 (ltw (by decide)) f79 (by omega) (by omega) (by omega) dX5_markGroup_13 (fun σ3 H locs f79 fr4 hH => ?_)
  have fb_0 : σ3 b = oB 0 [.ref (xad E (b + 1)), .ref (xad E (b + 2)), .ref (xad E (b + 3)), .ref (xad E (b + 4)), .ref (xad E (b + 5)), .int (iZ pn), .int (iZ nw), .int (iZ sh), .long (lZ wk)] := (fr4 b (by omega)).trans fb_0
  have fb_1 : σ3 (b + 1) = aI E 25 op := (fr4 (b + 1) (by omega)).trans fb_1
  have fb_2 : σ3 (b + 2) = aI E 25 lk := (fr4 (b + 2) (by omega)).trans fb_2
  have fb_3 : σ3 (b + 3) = aI E 6 kp := (fr4 (b + 3) (by omega)).trans fb_3
  have fb_4 : σ3 (b + 4) = aI E 3 wc := (fr4 (b + 4) (by omega)).trans fb_4
  have fb_5 : σ3 (b + 5) = aI E 5 ro0 := (fr4 (b + 5) (by omega)).trans fb_5
  have f75 : σ3 75 = oB 3 [.ref (xad E 76), .ref (xad E 77), .ref (xad E 78), .ref (xad E 79), .ref (xad E 80)] := (fr4 75 (by omega)).trans f75
  have f76 : σ3 76 = aI E 25 le := (fr4 76 (by omega)).trans f76
  have f77 : σ3 77 = aI E 25 rl := (fr4 77 (by omega)).trans f77
  have f78 : σ3 78 = aI E 25 fs := (fr4 78 (by omega)).trans f78
  have f80 : σ3 80 = aI E 25 (ui gr st gn) := (fr4 80 (by omega)).trans f80
  refine x_iconst hx hb dX5_markGroup_14 ?_
  refine lv_istore (lv' := [(4, .int (iZ 1)), (0, .ref (xad E 75)), (1, .ref (xad E b)), (2, .int (iZ st)), (3, .int (iZ gn))]) hx hb dX5_markGroup_15 hl (by decide) rfl (fun ls hl => ?_)
  refine x_iconst hx hb dX5_markGroup_17 ?_
  refine lv_istore (lv' := [(5, .int (iZ 0)), (4, .int (iZ 1)), (0, .ref (xad E 75)), (1, .ref (xad E b)), (2, .int (iZ st)), (3, .int (iZ gn))]) hx hb dX5_markGroup_18 hl (by decide) rfl (fun ls hl => ?_)
  have K20 : ∀ (nK : Nat) (fo h : Int) (g q : Int → Int) (σ5 : xW) (H : Heap) (locs : List Loc) (ls : Array Slot), (25 - h).toNat < nK → (fo ≤ 25 ∧ 0 ≤ h ∧ h ≤ fo ∧ 1 ≤ fo) → (mgI op st h 0 gn gr g q fo) → (∀ c, -1 ≤ g c ∧ g c ≤ 25) → σ5 b = oB 0 [.ref (xad E (b + 1)), .ref (xad E (b + 2)), .ref (xad E (b + 3)), .ref (xad E (b + 4)), .ref (xad E (b + 5)), .int (iZ pn), .int (iZ nw), .int (iZ sh), .long (lZ wk)] → σ5 (b + 1) = aI E 25 op → σ5 (b + 2) = aI E 25 lk → σ5 (b + 3) = aI E 6 kp → σ5 (b + 4) = aI E 3 wc → σ5 (b + 5) = aI E 5 ro0 → σ5 75 = oB 3 [.ref (xad E 76), .ref (xad E 77), .ref (xad E 78), .ref (xad E 79), .ref (xad E 80)] → σ5 76 = aI E 25 le → σ5 77 = aI E 25 rl → σ5 78 = aI E 25 fs → σ5 79 = aI E 25 q → σ5 80 = aI E 25 g → (∀ j : Nat, j ≠ 79 → j ≠ 80 → σ5 j = σ3 j) → Hx E (xA E s.heap.size) s.heap σ5 H locs → lv_has ls 8 [(5, .int (iZ h)), (4, .int (iZ fo)), (0, .ref (xad E 75)), (1, .ref (xad E b)), (2, .int (iZ st)), (3, .int (iZ gn))] → W p l e rm_X5_markGroup s m args below meth c H locs 0 0 Q (F0 m 20 ls []) := by
    intro n20
    induction n20 with
    | zero =>
      intro fo h g q σ5 H locs ls hm
      exact absurd hm (by first | exact Nat.not_lt_zero _ | omega)
    | succ n20 ih20 =>
      intro fo h g q σ5 H locs ls hm20 hfo hI hgr1 fb_0 fb_1 fb_2 fb_3 fb_4 fb_5 f75 f76 f77 f78 f79 f80 fr6 hH hl
      refine lv_iload hx hb dX5_markGroup_20 (lv_at hl 0 rfl) ?_
      refine lv_iload hx hb dX5_markGroup_22 (lv_at hl 1 rfl) ?_
      refine x_icmp_ge (tgt := 107) hx hb dX5_markGroup_24 (by decide) (by omega) (by omega) (fun c24 => ?_) (fun c24 => ?_)
      · subst hQ
        exact x_vret hx hb hr hlocks hH (Nat.le_of_ble_eq_true rfl) (Nat.le_of_ble_eq_true rfl) ⟨⟨g, q, ⟨f75, f76, f77, f78, f79, f80⟩, (by exact mgI_end (by have e : h = fo := (by omega); rw [e] at hI; exact hI) hst hgn.1 hun)⟩, fun j hj0 hj1 => ((fr6 j (by omega) (by omega)).trans ((fr4 j (by omega)).trans (fr2 j (by omega))))⟩ dX5_markGroup_107
      · refine lv_iload hx hb dX5_markGroup_27 (lv_at hl 0 rfl) ?_
        refine x_bipush hx hb dX5_markGroup_29 (by decide) ?_
        refine x_icmp_ge (tgt := 107) hx hb dX5_markGroup_31 (by decide) (by omega) (by decide) (fun c31 => ?_) (fun c31 => ?_)
        · subst hQ
          exact x_vret hx hb hr hlocks hH (Nat.le_of_ble_eq_true rfl) (Nat.le_of_ble_eq_true rfl) ⟨⟨g, q, ⟨f75, f76, f77, f78, f79, f80⟩, (by exact mgI_end (by have e : h = fo := (by omega); rw [e] at hI; exact hI) hst hgn.1 hun)⟩, fun j hj0 hj1 => ((fr6 j (by omega) (by omega)).trans ((fr4 j (by omega)).trans (fr2 j (by omega))))⟩ dX5_markGroup_107
        · refine x_iconst hx hb dX5_markGroup_34 ?_
          refine lv_istore (lv' := [(6, .int (iZ 0)), (5, .int (iZ h)), (4, .int (iZ fo)), (0, .ref (xad E 75)), (1, .ref (xad E b)), (2, .int (iZ st)), (3, .int (iZ gn))]) hx hb dX5_markGroup_35 hl (by decide) rfl (fun ls hl => ?_)
          have K37 : ∀ (nK : Nat) (fo2 dd : Int) (g2 q2 : Int → Int) (σ7 : xW) (H : Heap) (locs : List Loc) (ls : Array Slot), (4 - dd).toNat < nK → ((0 ≤ dd ∧ dd ≤ 4) ∧ fo2 ≤ 25 ∧ h < fo2) → (mgI op st h dd gn gr g2 q2 fo2) → (∀ c, -1 ≤ g2 c ∧ g2 c ≤ 25) → σ7 b = oB 0 [.ref (xad E (b + 1)), .ref (xad E (b + 2)), .ref (xad E (b + 3)), .ref (xad E (b + 4)), .ref (xad E (b + 5)), .int (iZ pn), .int (iZ nw), .int (iZ sh), .long (lZ wk)] → σ7 (b + 1) = aI E 25 op → σ7 (b + 2) = aI E 25 lk → σ7 (b + 3) = aI E 6 kp → σ7 (b + 4) = aI E 3 wc → σ7 (b + 5) = aI E 5 ro0 → σ7 75 = oB 3 [.ref (xad E 76), .ref (xad E 77), .ref (xad E 78), .ref (xad E 79), .ref (xad E 80)] → σ7 76 = aI E 25 le → σ7 77 = aI E 25 rl → σ7 78 = aI E 25 fs → σ7 79 = aI E 25 q2 → σ7 80 = aI E 25 g2 → (∀ j : Nat, j ≠ 79 → j ≠ 80 → σ7 j = σ5 j) → Hx E (xA E s.heap.size) s.heap σ7 H locs → lv_has ls 8 [(6, .int (iZ dd)), (5, .int (iZ h)), (4, .int (iZ fo2)), (0, .ref (xad E 75)), (1, .ref (xad E b)), (2, .int (iZ st)), (3, .int (iZ gn))] → W p l e rm_X5_markGroup s m args below meth c H locs 0 0 Q (F0 m 37 ls []) := by
            intro n37
            induction n37 with
            | zero =>
              intro fo2 dd g2 q2 σ7 H locs ls hm
              exact absurd hm (by first | exact Nat.not_lt_zero _ | omega)
            | succ n37 ih37 =>
              intro fo2 dd g2 q2 σ7 H locs ls hm37 hdd hI2 hgr2 fb_0 fb_1 fb_2 fb_3 fb_4 fb_5 f75 f76 f77 f78 f79 f80 fr8 hH hl
              refine lv_iload hx hb dX5_markGroup_37 (lv_at hl 0 rfl) ?_
              refine x_iconst hx hb dX5_markGroup_39 ?_
              refine x_icmp_ge (tgt := 101) hx hb dX5_markGroup_40 (by decide) (by omega) (by decide) (fun c40 => ?_) (fun c40 => ?_)
              · refine x_iinc (lv' := [(5, .int (iZ (h + 1))), (6, .int (iZ dd)), (4, .int (iZ fo2)), (0, .ref (xad E 75)), (1, .ref (xad E b)), (2, .int (iZ st)), (3, .int (iZ gn))]) hx hb dX5_markGroup_101 hl (k := 1) rfl (by decide) rfl (fun ls hl => ?_)
                refine lv_goto (tgt := 20) hx hb dX5_markGroup_104 (by decide) ?_
                exact ih20 fo2 (h + 1) g2 q2 σ7 _ _ _ (by omega) (by first | omega | rfl | assumption | simp_all) (by have e : dd = 4 := (by omega); subst e; exact mgI_next hI2) (by exact hgr2) fb_0 fb_1 fb_2 fb_3 fb_4 fb_5 f75 f76 f77 f78 f79 f80 (fun j hj0 hj1 => ((fr8 j (by omega) (by omega)).trans (fr6 j (by omega) (by omega)))) hH (lv_sub hl [0, 2, 3, 4, 5, 6] rfl)
              · obtain ⟨-, -, -, dq0, -⟩ := id hI2
                have dq := dq0 h (by omega) (by omega)
                have hcr := cnZ_rg (op := op) (c := q2 h) (d := dd) (by omega) (by omega)
                refine lv_aload_n hx hb dX5_markGroup_43 rfl (lv_at hl 4 rfl) ?_
                refine lv_aload_n hx hb dX5_markGroup_44 rfl (lv_at hl 3 rfl) ?_
                refine x_get hx hb hts hown hK hH 75 (ltw (by decide)) f75 hinX5 rfl 3 (by decide) (List.mem_of_getElem? (i := 2) rfl) rfl dX5_markGroup_45 ?_
                refine lv_iload hx hb dX5_markGroup_48 (lv_at hl 1 rfl) ?_
                refine x_iald hx hb hK hH 79 (ltw (by decide)) f79 (by omega) (by omega) (by omega) dX5_markGroup_50 ?_
                refine lv_iload hx hb dX5_markGroup_51 (lv_at hl 0 rfl) ?_
                refine x_cVID (As := [.int (iZ (q2 h)), .int (iZ dd)]) (rest := []) hx hb hml hts hown hK hST hOK hH b (c_X1_connectedNeighbour l E ST hSF σ7 b (q2 h) dd op lk kp wc pn nw sh wk ⟨fb_0, fb_1, fb_2, fb_3, fb_4, _, fb_5⟩ (by omega) (by omega) (by omega) (by omega)) (cwV 2 hts gX5_markGroup_X1_connectedNeighbour rfl rfl rfl (by decide +kernel) ⟨Nat.le_of_ble_eq_true rfl, Nat.le_of_ble_eq_true rfl⟩) (by omega) fb_0 rfl rfl hl.1 rfl (Nat.le_of_ble_eq_true rfl) dX5_markGroup_53 ⟨Nat.le_of_ble_eq_true rfl, Nat.le_of_ble_eq_true rfl⟩ (fun z u h => h) (fun H locs hH => ?_)
                refine lv_istore (lv' := [(7, .int (iZ (cnZ op (q2 h) dd))), (6, .int (iZ dd)), (5, .int (iZ h)), (4, .int (iZ fo2)), (0, .ref (xad E 75)), (1, .ref (xad E b)), (2, .int (iZ st)), (3, .int (iZ gn))]) hx hb dX5_markGroup_56 hl (by decide) rfl (fun ls hl => ?_)
                refine lv_iload hx hb dX5_markGroup_58 (lv_at hl 0 rfl) ?_
                refine x_iconst hx hb dX5_markGroup_60 ?_
                refine x_icmp_eq (tgt := 95) hx hb dX5_markGroup_61 (by decide) (by omega) (by decide) (fun c61 => ?_) (fun c61 => ?_)
                · refine x_iinc (lv' := [(6, .int (iZ (dd + 1))), (7, .int (iZ (cnZ op (q2 h) dd))), (5, .int (iZ h)), (4, .int (iZ fo2)), (0, .ref (xad E 75)), (1, .ref (xad E b)), (2, .int (iZ st)), (3, .int (iZ gn))]) hx hb dX5_markGroup_95 hl (k := 1) rfl (by decide) rfl (fun ls hl => ?_)
                  refine lv_goto (tgt := 37) hx hb dX5_markGroup_98 (by decide) ?_
                  exact ih37 fo2 (dd + 1) g2 q2 σ7 _ _ _ (by omega) (by omega) (by first | exact hadd2 | exact mgI_same hI2 (by omega) (fun hz => absurd (by assumption) hz) | exact mgI_same hI2 (by omega) (fun _ => by assumption)) (by first | exact hgr2 | (intro c; simp only [ui]; have := hgr2 c; split <;> omega)) fb_0 fb_1 fb_2 fb_3 fb_4 fb_5 f75 f76 f77 f78 f79 f80 (fun j hj0 hj1 => (fr8 j (by omega) (by omega))) hH (lv_sub hl [0, 2, 3, 4, 5, 6, 7] rfl)
                · refine lv_aload_n hx hb dX5_markGroup_64 rfl (lv_at hl 4 rfl) ?_
                  refine x_get hx hb hts hown hK hH 75 (ltw (by decide)) f75 hinX5 rfl 4 (by decide) (List.mem_of_getElem? (i := 1) rfl) rfl dX5_markGroup_65 ?_
                  refine lv_iload hx hb dX5_markGroup_68 (lv_at hl 0 rfl) ?_
                  refine x_iald hx hb hK hH 80 (ltw (by decide)) f80 (by omega) (by omega) (by omega) dX5_markGroup_70 ?_
                  have hv12 := hgr2 (cnZ op (q2 h) dd)
                  refine x_iconst hx hb dX5_markGroup_71 ?_
                  refine x_icmp_ne (tgt := 95) hx hb dX5_markGroup_72 (by decide) (by omega) (by decide) (fun c72 => ?_) (fun c72 => ?_)
                  · refine x_iinc (lv' := [(6, .int (iZ (dd + 1))), (7, .int (iZ (cnZ op (q2 h) dd))), (5, .int (iZ h)), (4, .int (iZ fo2)), (0, .ref (xad E 75)), (1, .ref (xad E b)), (2, .int (iZ st)), (3, .int (iZ gn))]) hx hb dX5_markGroup_95 hl (k := 1) rfl (by decide) rfl (fun ls hl => ?_)
                    refine lv_goto (tgt := 37) hx hb dX5_markGroup_98 (by decide) ?_
                    exact ih37 fo2 (dd + 1) g2 q2 σ7 _ _ _ (by omega) (by omega) (by first | exact hadd2 | exact mgI_same hI2 (by omega) (fun hz => absurd (by assumption) hz) | exact mgI_same hI2 (by omega) (fun _ => by assumption)) (by first | exact hgr2 | (intro c; simp only [ui]; have := hgr2 c; split <;> omega)) fb_0 fb_1 fb_2 fb_3 fb_4 fb_5 f75 f76 f77 f78 f79 f80 (fun j hj0 hj1 => (fr8 j (by omega) (by omega))) hH (lv_sub hl [0, 2, 3, 4, 5, 6, 7] rfl)
                  · obtain ⟨hf24, hadd2⟩ := mgI_add hI2 (by omega) (by omega) rfl c61 c72 hgn.1
                    refine lv_aload_n hx hb dX5_markGroup_75 rfl (lv_at hl 4 rfl) ?_
                    refine x_get hx hb hts hown hK hH 75 (ltw (by decide)) f75 hinX5 rfl 4 (by decide) (List.mem_of_getElem? (i := 1) rfl) rfl dX5_markGroup_76 ?_
                    refine lv_iload hx hb dX5_markGroup_79 (lv_at hl 0 rfl) ?_
                    refine lv_iload_n hx hb dX5_markGroup_81 rfl (lv_at hl 7 rfl) ?_
                    refine x_iast hx hb hK hH 80 (ltw (by decide)) f80 (by omega) (by omega) (by omega) dX5_markGroup_82 (fun σ13 H locs f80 fr14 hH => ?_)
                    have fb_0 : σ13 b = oB 0 [.ref (xad E (b + 1)), .ref (xad E (b + 2)), .ref (xad E (b + 3)), .ref (xad E (b + 4)), .ref (xad E (b + 5)), .int (iZ pn), .int (iZ nw), .int (iZ sh), .long (lZ wk)] := (fr14 b (by omega)).trans fb_0
                    have fb_1 : σ13 (b + 1) = aI E 25 op := (fr14 (b + 1) (by omega)).trans fb_1
                    have fb_2 : σ13 (b + 2) = aI E 25 lk := (fr14 (b + 2) (by omega)).trans fb_2
                    have fb_3 : σ13 (b + 3) = aI E 6 kp := (fr14 (b + 3) (by omega)).trans fb_3
                    have fb_4 : σ13 (b + 4) = aI E 3 wc := (fr14 (b + 4) (by omega)).trans fb_4
                    have fb_5 : σ13 (b + 5) = aI E 5 ro0 := (fr14 (b + 5) (by omega)).trans fb_5
                    have f75 : σ13 75 = oB 3 [.ref (xad E 76), .ref (xad E 77), .ref (xad E 78), .ref (xad E 79), .ref (xad E 80)] := (fr14 75 (by omega)).trans f75
                    have f76 : σ13 76 = aI E 25 le := (fr14 76 (by omega)).trans f76
                    have f77 : σ13 77 = aI E 25 rl := (fr14 77 (by omega)).trans f77
                    have f78 : σ13 78 = aI E 25 fs := (fr14 78 (by omega)).trans f78
                    have f79 : σ13 79 = aI E 25 q2 := (fr14 79 (by omega)).trans f79
                    refine lv_aload_n hx hb dX5_markGroup_83 rfl (lv_at hl 4 rfl) ?_
                    refine x_get hx hb hts hown hK hH 75 (ltw (by decide)) f75 hinX5 rfl 3 (by decide) (List.mem_of_getElem? (i := 2) rfl) rfl dX5_markGroup_84 ?_
                    refine lv_iload hx hb dX5_markGroup_87 (lv_at hl 3 rfl) ?_
                    refine lv_iload hx hb dX5_markGroup_89 (lv_at hl 0 rfl) ?_
                    refine x_iast hx hb hK hH 79 (ltw (by decide)) f79 (by omega) (by omega) (by omega) dX5_markGroup_91 (fun σ15 H locs f79 fr16 hH => ?_)
                    have fb_0 : σ15 b = oB 0 [.ref (xad E (b + 1)), .ref (xad E (b + 2)), .ref (xad E (b + 3)), .ref (xad E (b + 4)), .ref (xad E (b + 5)), .int (iZ pn), .int (iZ nw), .int (iZ sh), .long (lZ wk)] := (fr16 b (by omega)).trans fb_0
                    have fb_1 : σ15 (b + 1) = aI E 25 op := (fr16 (b + 1) (by omega)).trans fb_1
                    have fb_2 : σ15 (b + 2) = aI E 25 lk := (fr16 (b + 2) (by omega)).trans fb_2
                    have fb_3 : σ15 (b + 3) = aI E 6 kp := (fr16 (b + 3) (by omega)).trans fb_3
                    have fb_4 : σ15 (b + 4) = aI E 3 wc := (fr16 (b + 4) (by omega)).trans fb_4
                    have fb_5 : σ15 (b + 5) = aI E 5 ro0 := (fr16 (b + 5) (by omega)).trans fb_5
                    have f75 : σ15 75 = oB 3 [.ref (xad E 76), .ref (xad E 77), .ref (xad E 78), .ref (xad E 79), .ref (xad E 80)] := (fr16 75 (by omega)).trans f75
                    have f76 : σ15 76 = aI E 25 le := (fr16 76 (by omega)).trans f76
                    have f77 : σ15 77 = aI E 25 rl := (fr16 77 (by omega)).trans f77
                    have f78 : σ15 78 = aI E 25 fs := (fr16 78 (by omega)).trans f78
                    have f80 : σ15 80 = aI E 25 (ui g2 (cnZ op (q2 h) dd) gn) := (fr16 80 (by omega)).trans f80
                    refine x_iinc (lv' := [(4, .int (iZ (fo2 + 1))), (7, .int (iZ (cnZ op (q2 h) dd))), (6, .int (iZ dd)), (5, .int (iZ h)), (0, .ref (xad E 75)), (1, .ref (xad E b)), (2, .int (iZ st)), (3, .int (iZ gn))]) hx hb dX5_markGroup_92 hl (k := 3) rfl (by decide) rfl (fun ls hl => ?_)
                    refine x_iinc (lv' := [(6, .int (iZ (dd + 1))), (4, .int (iZ (fo2 + 1))), (7, .int (iZ (cnZ op (q2 h) dd))), (5, .int (iZ h)), (0, .ref (xad E 75)), (1, .ref (xad E b)), (2, .int (iZ st)), (3, .int (iZ gn))]) hx hb dX5_markGroup_95 hl (k := 2) rfl (by decide) rfl (fun ls hl => ?_)
                    refine lv_goto (tgt := 37) hx hb dX5_markGroup_98 (by decide) ?_
                    exact ih37 (fo2 + 1) (dd + 1) (ui g2 (cnZ op (q2 h) dd) gn) (ui q2 fo2 (cnZ op (q2 h) dd)) σ15 _ _ _ (by omega) (by omega) (by first | exact hadd2 | exact mgI_same hI2 (by omega) (fun hz => absurd (by assumption) hz) | exact mgI_same hI2 (by omega) (fun _ => by assumption)) (by first | exact hgr2 | (intro c; simp only [ui]; have := hgr2 c; split <;> omega)) fb_0 fb_1 fb_2 fb_3 fb_4 fb_5 f75 f76 f77 f78 f79 f80 (fun j hj0 hj1 => ((fr16 j (by omega)).trans ((fr14 j (by omega)).trans (fr8 j (by omega) (by omega))))) hH (lv_sub hl [0, 3, 1, 4, 5, 6, 7] rfl)
          exact K37 5 fo 0 g q σ5 _ _ _ (by first | omega | decide) (by first | omega | rfl | assumption | simp_all) (by exact hI) (by exact hgr1) fb_0 fb_1 fb_2 fb_3 fb_4 fb_5 f75 f76 f77 f78 f79 f80 (fun j _ _ => rfl) hH (lv_sub hl [0, 1, 2, 3, 4, 5, 6] rfl)
  exact K20 26 1 0 (ui gr st gn) (ui qu 0 st) σ3 _ _ _ (by first | omega | decide) (by first | omega | rfl | assumption | simp_all) (by exact mgI_0 hst hgn.1 (hun st (cnP_rf st)) ui_s) (by intro c; simp only [ui]; have := hgr c; split <;> omega) fb_0 fb_1 fb_2 fb_3 fb_4 fb_5 f75 f76 f77 f78 f79 f80 (fun j _ _ => rfl) hH (lv_sub hl [0, 1, 2, 3, 4, 5] rfl)

def rm_X5_countGroups : Room := { frames := 3, cells := 0, slots := 0, locals := 73 }
set_option maxRecDepth 100000 in
set_option maxHeartbeats 4000000 in
theorem c_X5_countGroups (l : Launch) (E : xE) (ST : xST) (hSF : SF ST) (σ : xW) (b : Nat) (op : Int → Int) (lk : Int → Int) (kp : Int → Int) (wc : Int → Int) (pn : Int) (nw : Int) (sh : Int) (wk : Int) (le : Int → Int) (rl : Int → Int) (fs : Int → Int) (qu : Int → Int) (gr : Int → Int) (hr0 : bd E σ b op lk kp wc pn nw sh wk) (hr1 : sr E σ le rl fs qu gr) (hB : BI op lk kp wc pn nw) (hbs : b + 6 ≤ 75) : CI l E ST yX5_countGroups wsX5_countGroups rm_X5_countGroups [.ref (xad E 75), .ref (xad E b)] σ (fun (z : Int) (u : xW) => z = ngZ op ∧ (∃ (gr1 qu1 : Int → Int), sr E u le rl fs qu1 gr1) ∧ ∀ j : Nat, j ≠ 79 → j ≠ 80 → u j = σ j) := by
  obtain ⟨fb_0, fb_1, fb_2, fb_3, fb_4, ro0, fb_5⟩ := hr0
  obtain ⟨f75, f76, f77, f78, f79, f80⟩ := hr1
  refine CI_of (by decide) rfl (Nat.le_of_ble_eq_true rfl) ?_
  intro p e s m args below meth c Q ls G hH hl hQ
  obtain ⟨hx, hb, hml, hown, hts, hK, hST, hlocks, hr, hno⟩ := G
  have hOK := hSF.1
  have hown : s.vm.findClass RX5 = some m.cls := hown
  have hl : lv_has ls 4 [(0, .ref (xad E 75)), (1, .ref (xad E b))] := hl
  have hinX5 : ∀ w ∈ u_ws RX5 TX5 5, w ∈ wsX5_countGroups := fun w h => (List.mem_cons_of_mem _ (List.mem_append_left _ (List.mem_append_right _ h)))
  obtain ⟨hop, hlk, hkp, hwc, hpn, hnw⟩ := id hB
  refine lv_aload_n hx hb dX5_countGroups_0 rfl (lv_at hl 0 rfl) ?_
  refine x_get hx hb hts hown hK hH 75 (ltw (by decide)) f75 hinX5 rfl 4 (by decide) (List.mem_of_getElem? (i := 1) rfl) rfl dX5_countGroups_1 ?_
  refine x_iconst hx hb dX5_countGroups_4 ?_
  refine x_cSV (As := [.ref (xad E 80), .int (iZ (-1))]) (rest := []) hx hb hml hts hown hK hST hOK hH (c_J7_fill_53178 l E ST hSF σ 80 (-1) 25 gr f80 (by omega) (by omega)) (va_cwS 2 hts gX5_countGroups_J7_fill_53178 rfl rfl rfl (by decide +kernel) ⟨Nat.le_of_ble_eq_true rfl, Nat.le_of_ble_eq_true rfl⟩) rfl hl.1 rfl (Nat.le_of_ble_eq_true rfl) dX5_countGroups_5 ⟨Nat.le_of_ble_eq_true rfl, Nat.le_of_ble_eq_true rfl⟩ (fun σ2 H locs hp3 hH => ?_)
  obtain ⟨f80, fr4⟩ := hp3
  have fb_0 : σ2 b = oB 0 [.ref (xad E (b + 1)), .ref (xad E (b + 2)), .ref (xad E (b + 3)), .ref (xad E (b + 4)), .ref (xad E (b + 5)), .int (iZ pn), .int (iZ nw), .int (iZ sh), .long (lZ wk)] := (fr4 b (by omega)).trans fb_0
  have fb_1 : σ2 (b + 1) = aI E 25 op := (fr4 (b + 1) (by omega)).trans fb_1
  have fb_2 : σ2 (b + 2) = aI E 25 lk := (fr4 (b + 2) (by omega)).trans fb_2
  have fb_3 : σ2 (b + 3) = aI E 6 kp := (fr4 (b + 3) (by omega)).trans fb_3
  have fb_4 : σ2 (b + 4) = aI E 3 wc := (fr4 (b + 4) (by omega)).trans fb_4
  have fb_5 : σ2 (b + 5) = aI E 5 ro0 := (fr4 (b + 5) (by omega)).trans fb_5
  have f75 : σ2 75 = oB 3 [.ref (xad E 76), .ref (xad E 77), .ref (xad E 78), .ref (xad E 79), .ref (xad E 80)] := (fr4 75 (by omega)).trans f75
  have f76 : σ2 76 = aI E 25 le := (fr4 76 (by omega)).trans f76
  have f77 : σ2 77 = aI E 25 rl := (fr4 77 (by omega)).trans f77
  have f78 : σ2 78 = aI E 25 fs := (fr4 78 (by omega)).trans f78
  have f79 : σ2 79 = aI E 25 qu := (fr4 79 (by omega)).trans f79
  refine x_iconst hx hb dX5_countGroups_8 ?_
  refine lv_istore_n (lv' := [(2, .int (iZ 0)), (0, .ref (xad E 75)), (1, .ref (xad E b))]) hx hb dX5_countGroups_9 rfl hl (by decide) rfl (fun ls hl => ?_)
  refine x_iconst hx hb dX5_countGroups_10 ?_
  refine lv_istore_n (lv' := [(3, .int (iZ 0)), (2, .int (iZ 0)), (0, .ref (xad E 75)), (1, .ref (xad E b))]) hx hb dX5_countGroups_11 rfl hl (by decide) rfl (fun ls hl => ?_)
  have K12 : ∀ (nK : Nat) (cnt k : Int) (g q : Int → Int) (σ6 : xW) (H : Heap) (locs : List Loc) (ls : Array Slot), (25 - k).toNat < nK → ((0 ≤ k ∧ k ≤ 25) ∧ 0 ≤ cnt ∧ cnt ≤ k) → (cgI op k cnt g) → (∀ c, -1 ≤ g c ∧ g c ≤ 25) → σ6 b = oB 0 [.ref (xad E (b + 1)), .ref (xad E (b + 2)), .ref (xad E (b + 3)), .ref (xad E (b + 4)), .ref (xad E (b + 5)), .int (iZ pn), .int (iZ nw), .int (iZ sh), .long (lZ wk)] → σ6 (b + 1) = aI E 25 op → σ6 (b + 2) = aI E 25 lk → σ6 (b + 3) = aI E 6 kp → σ6 (b + 4) = aI E 3 wc → σ6 (b + 5) = aI E 5 ro0 → σ6 75 = oB 3 [.ref (xad E 76), .ref (xad E 77), .ref (xad E 78), .ref (xad E 79), .ref (xad E 80)] → σ6 76 = aI E 25 le → σ6 77 = aI E 25 rl → σ6 78 = aI E 25 fs → σ6 79 = aI E 25 q → σ6 80 = aI E 25 g → (∀ j : Nat, j ≠ 79 → j ≠ 80 → σ6 j = σ2 j) → Hx E (xA E s.heap.size) s.heap σ6 H locs → lv_has ls 4 [(3, .int (iZ k)), (2, .int (iZ cnt)), (0, .ref (xad E 75)), (1, .ref (xad E b))] → W p l e rm_X5_countGroups s m args below meth c H locs 0 0 Q (F0 m 12 ls []) := by
    intro n12
    induction n12 with
    | zero =>
      intro cnt k g q σ6 H locs ls hm
      exact absurd hm (by first | exact Nat.not_lt_zero _ | omega)
    | succ n12 ih12 =>
      intro cnt k g q σ6 H locs ls hm12 hk hI hgr1 fb_0 fb_1 fb_2 fb_3 fb_4 fb_5 f75 f76 f77 f78 f79 f80 fr7 hH hl
      refine lv_iload_n hx hb dX5_countGroups_12 rfl (lv_at hl 0 rfl) ?_
      refine x_bipush hx hb dX5_countGroups_13 (by decide) ?_
      refine x_icmp_ge (tgt := 44) hx hb dX5_countGroups_15 (by decide) (by omega) (by decide) (fun c15 => ?_) (fun c15 => ?_)
      · refine lv_iload_n hx hb dX5_countGroups_44 rfl (lv_at hl 1 rfl) ?_
        subst hQ
        exact x_iret hx hb hr hlocks hH (Nat.le_of_ble_eq_true rfl) (Nat.le_of_ble_eq_true rfl) ⟨(show cnt = (ngZ op) from (by have e : k = 25 := (by omega); subst e; exact hI.2)), ⟨g, q, ⟨f75, f76, f77, f78, f79, f80⟩⟩, fun j hj0 hj1 => ((fr7 j (by omega) (by omega)).trans (fr4 j (by omega)))⟩ dX5_countGroups_45
      · refine lv_aload_n hx hb dX5_countGroups_18 rfl (lv_at hl 2 rfl) ?_
        refine x_get hx hb hts hown hK hH 75 (ltw (by decide)) f75 hinX5 rfl 4 (by decide) (List.mem_of_getElem? (i := 1) rfl) rfl dX5_countGroups_19 ?_
        refine lv_iload_n hx hb dX5_countGroups_22 rfl (lv_at hl 0 rfl) ?_
        refine x_iald hx hb hK hH 80 (ltw (by decide)) f80 (by omega) (by omega) (by omega) dX5_countGroups_23 ?_
        have hv8 := hgr1 k
        refine x_iconst hx hb dX5_countGroups_24 ?_
        refine x_icmp_ne (tgt := 38) hx hb dX5_countGroups_25 (by decide) (by omega) (by decide) (fun c25 => ?_) (fun c25 => ?_)
        · refine x_iinc (lv' := [(3, .int (iZ (k + 1))), (2, .int (iZ cnt)), (0, .ref (xad E 75)), (1, .ref (xad E b))]) hx hb dX5_countGroups_38 hl (k := 0) rfl (by decide) rfl (fun ls hl => ?_)
          refine lv_goto (tgt := 12) hx hb dX5_countGroups_41 (by decide) ?_
          exact ih12 cnt (k + 1) g q σ6 _ _ _ (by omega) (by first | omega | rfl | assumption | simp_all) (by first | exact cgI_old hI (by omega) c25 | exact cgI_new hI (by omega) (by omega) c25 (by assumption)) (by first | exact hgr1 | (intro c; have h9 := hgr1 c; by_cases w : cnP op k c; (rw [(hq9 c).1 w]; omega); (rw [(hq9 c).2 w]; exact h9))) fb_0 fb_1 fb_2 fb_3 fb_4 fb_5 f75 f76 f77 f78 f79 f80 (fun j hj0 hj1 => (fr7 j (by omega) (by omega))) hH (lv_sub hl [0, 1, 2, 3] rfl)
        · refine lv_aload_n hx hb dX5_countGroups_28 rfl (lv_at hl 2 rfl) ?_
          refine lv_aload_n hx hb dX5_countGroups_29 rfl (lv_at hl 3 rfl) ?_
          refine lv_iload_n hx hb dX5_countGroups_30 rfl (lv_at hl 0 rfl) ?_
          refine lv_iload_n hx hb dX5_countGroups_31 rfl (lv_at hl 1 rfl) ?_
          refine x_cVV (As := [.ref (xad E b), .int (iZ k), .int (iZ cnt)]) (rest := []) hx hb hml hts hown hK hST hOK hH 75 (c_X5_markGroup l E ST hSF σ6 b k cnt op lk kp wc pn nw sh wk le rl fs q g ⟨fb_0, fb_1, fb_2, fb_3, fb_4, _, fb_5⟩ ⟨f75, f76, f77, f78, f79, f80⟩ (by omega) (by omega) (by omega) (by omega) hgr1 (cgI_un hI (by omega) c25)) (cwV 3 hts gX5_countGroups_X5_markGroup rfl rfl rfl (by decide +kernel) ⟨Nat.le_of_ble_eq_true rfl, Nat.le_of_ble_eq_true rfl⟩) (ltw (by decide)) f75 rfl rfl hl.1 rfl (Nat.le_of_ble_eq_true rfl) dX5_countGroups_32 ⟨Nat.le_of_ble_eq_true rfl, Nat.le_of_ble_eq_true rfl⟩ (fun σ10 H locs hp11 hH => ?_)
          obtain ⟨⟨gr1_13, qu1_14, ⟨f75, f76, f77, f78, f79, f80⟩, hq9⟩, fr12⟩ := hp11
          have fb_0 : σ10 b = oB 0 [.ref (xad E (b + 1)), .ref (xad E (b + 2)), .ref (xad E (b + 3)), .ref (xad E (b + 4)), .ref (xad E (b + 5)), .int (iZ pn), .int (iZ nw), .int (iZ sh), .long (lZ wk)] := (fr12 b (by omega) (by omega)).trans fb_0
          have fb_1 : σ10 (b + 1) = aI E 25 op := (fr12 (b + 1) (by omega) (by omega)).trans fb_1
          have fb_2 : σ10 (b + 2) = aI E 25 lk := (fr12 (b + 2) (by omega) (by omega)).trans fb_2
          have fb_3 : σ10 (b + 3) = aI E 6 kp := (fr12 (b + 3) (by omega) (by omega)).trans fb_3
          have fb_4 : σ10 (b + 4) = aI E 3 wc := (fr12 (b + 4) (by omega) (by omega)).trans fb_4
          have fb_5 : σ10 (b + 5) = aI E 5 ro0 := (fr12 (b + 5) (by omega) (by omega)).trans fb_5
          refine x_iinc (lv' := [(2, .int (iZ (cnt + 1))), (3, .int (iZ k)), (0, .ref (xad E 75)), (1, .ref (xad E b))]) hx hb dX5_countGroups_35 hl (k := 1) rfl (by decide) rfl (fun ls hl => ?_)
          refine x_iinc (lv' := [(3, .int (iZ (k + 1))), (2, .int (iZ (cnt + 1))), (0, .ref (xad E 75)), (1, .ref (xad E b))]) hx hb dX5_countGroups_38 hl (k := 1) rfl (by decide) rfl (fun ls hl => ?_)
          refine lv_goto (tgt := 12) hx hb dX5_countGroups_41 (by decide) ?_
          exact ih12 (cnt + 1) (k + 1) gr1_13 qu1_14 σ10 _ _ _ (by omega) (by first | omega | rfl | assumption | simp_all) (by first | exact cgI_old hI (by omega) c25 | exact cgI_new hI (by omega) (by omega) c25 (by assumption)) (by first | exact hgr1 | (intro c; have h9 := hgr1 c; by_cases w : cnP op k c; (rw [(hq9 c).1 w]; omega); (rw [(hq9 c).2 w]; exact h9))) fb_0 fb_1 fb_2 fb_3 fb_4 fb_5 f75 f76 f77 f78 f79 f80 (fun j hj0 hj1 => ((fr12 j (by omega) (by omega)).trans (fr7 j (by omega) (by omega)))) hH (lv_sub hl [0, 1, 2, 3] rfl)
  exact K12 26 0 0 (fun _ => (-1)) qu σ2 _ _ _ (by first | omega | decide) (by first | omega | rfl | assumption | simp_all) (by exact cgI_0 (fun c => rfl)) (by intro c; omega) fb_0 fb_1 fb_2 fb_3 fb_4 fb_5 f75 f76 f77 f78 f79 f80 (fun j _ _ => rfl) hH (lv_sub hl [0, 1, 2, 3] rfl)

def rm_X5_mergeGroups : Room := { frames := 0, cells := 0, slots := 0, locals := 0 }
set_option maxRecDepth 100000 in
set_option maxHeartbeats 4000000 in
theorem c_X5_mergeGroups (l : Launch) (E : xE) (ST : xST) (hSF : SF ST) (σ : xW) (fr : Int) (into : Int) (le : Int → Int) (rl : Int → Int) (fs : Int → Int) (qu : Int → Int) (gr : Int → Int) (hr0 : sr E σ le rl fs qu gr) (hfr9 : rg fr) (hin9 : rg into) (hgr : ∀ c, -1 ≤ gr c ∧ gr c ≤ 25) : CV l E ST yX5_mergeGroups wsX5_mergeGroups rm_X5_mergeGroups [.ref (xad E 75), .int (iZ fr), .int (iZ into)] σ (fun (u : xW) => (sr E u le rl fs qu (meF gr fr into)) ∧ ∀ j : Nat, j ≠ 80 → u j = σ j) := by
  obtain ⟨f75, f76, f77, f78, f79, f80⟩ := hr0
  refine CV_of (by decide) rfl (Nat.le_of_ble_eq_true rfl) ?_
  intro p e s m args below meth c Q ls G hH hl hQ
  obtain ⟨hx, hb, hml, hown, hts, hK, hST, hlocks, hr, hno⟩ := G
  have hOK := hSF.1
  have hown : s.vm.findClass RX5 = some m.cls := hown
  have hl : lv_has ls 4 [(0, .ref (xad E 75)), (1, .int (iZ fr)), (2, .int (iZ into))] := hl
  have hinX5 : ∀ w ∈ u_ws RX5 TX5 5, w ∈ wsX5_mergeGroups := fun w h => (List.mem_cons_of_mem _ (List.mem_append_right _ h))
  refine x_iconst hx hb dX5_mergeGroups_0 ?_
  refine lv_istore_n (lv' := [(3, .int (iZ 0)), (0, .ref (xad E 75)), (1, .int (iZ fr)), (2, .int (iZ into))]) hx hb dX5_mergeGroups_1 rfl hl (by decide) rfl (fun ls hl => ?_)
  have K2 : ∀ (nK : Nat) (k : Int) (g : Int → Int) (σ1 : xW) (H : Heap) (locs : List Loc) (ls : Array Slot), (25 - k).toNat < nK → (0 ≤ k ∧ k ≤ 25) → (∀ c, g c = if 0 ≤ c ∧ c < k then meF gr fr into c else gr c) → σ1 75 = oB 3 [.ref (xad E 76), .ref (xad E 77), .ref (xad E 78), .ref (xad E 79), .ref (xad E 80)] → σ1 76 = aI E 25 le → σ1 77 = aI E 25 rl → σ1 78 = aI E 25 fs → σ1 79 = aI E 25 qu → σ1 80 = aI E 25 g → (∀ j : Nat, j ≠ 80 → σ1 j = σ j) → Hx E (xA E s.heap.size) s.heap σ1 H locs → lv_has ls 4 [(3, .int (iZ k)), (0, .ref (xad E 75)), (1, .int (iZ fr)), (2, .int (iZ into))] → W p l e rm_X5_mergeGroups s m args below meth c H locs 0 0 Q (F0 m 2 ls []) := by
    intro n2
    induction n2 with
    | zero =>
      intro k g σ1 H locs ls hm
      exact absurd hm (by first | exact Nat.not_lt_zero _ | omega)
    | succ n2 ih2 =>
      intro k g σ1 H locs ls hm2 hk hI f75 f76 f77 f78 f79 f80 fr2 hH hl
      refine lv_iload_n hx hb dX5_mergeGroups_2 rfl (lv_at hl 0 rfl) ?_
      refine x_bipush hx hb dX5_mergeGroups_3 (by decide) ?_
      refine x_icmp_ge (tgt := 31) hx hb dX5_mergeGroups_5 (by decide) (by omega) (by decide) (fun c5 => ?_) (fun c5 => ?_)
      · obtain ⟨σ3, f80, fr4, hH⟩ := x_normE (g := (meF gr fr into)) 80 (ltw (by decide)) f80 (by intro c h0 h1; rw [hI c, if_pos (by omega)]) hH
        have f75 : σ3 75 = oB 3 [.ref (xad E 76), .ref (xad E 77), .ref (xad E 78), .ref (xad E 79), .ref (xad E 80)] := (fr4 75 (by omega)).trans f75
        have f76 : σ3 76 = aI E 25 le := (fr4 76 (by omega)).trans f76
        have f77 : σ3 77 = aI E 25 rl := (fr4 77 (by omega)).trans f77
        have f78 : σ3 78 = aI E 25 fs := (fr4 78 (by omega)).trans f78
        have f79 : σ3 79 = aI E 25 qu := (fr4 79 (by omega)).trans f79
        subst hQ
        exact x_vret hx hb hr hlocks hH (Nat.le_of_ble_eq_true rfl) (Nat.le_of_ble_eq_true rfl) ⟨⟨f75, f76, f77, f78, f79, f80⟩, fun j hj0 => ((fr4 j (by omega)).trans (fr2 j (by omega)))⟩ dX5_mergeGroups_31
      · have hgk : g k = gr k := by rw [hI k, if_neg (by omega)]
        have hgr9 := hgr k
        refine lv_aload_n hx hb dX5_mergeGroups_8 rfl (lv_at hl 1 rfl) ?_
        refine x_get hx hb hts hown hK hH 75 (ltw (by decide)) f75 hinX5 rfl 4 (by decide) (List.mem_of_getElem? (i := 1) rfl) rfl dX5_mergeGroups_9 ?_
        refine lv_iload_n hx hb dX5_mergeGroups_12 rfl (lv_at hl 0 rfl) ?_
        refine x_iald hx hb hK hH 80 (ltw (by decide)) f80 (by omega) (by omega) (by omega) dX5_mergeGroups_13 ?_
        refine lv_iload_n hx hb dX5_mergeGroups_14 rfl (lv_at hl 2 rfl) ?_
        refine x_icmp_ne (tgt := 25) hx hb dX5_mergeGroups_15 (by decide) (by omega) (by omega) (fun c15 => ?_) (fun c15 => ?_)
        · refine x_iinc (lv' := [(3, .int (iZ (k + 1))), (0, .ref (xad E 75)), (1, .int (iZ fr)), (2, .int (iZ into))]) hx hb dX5_mergeGroups_25 hl (k := 0) rfl (by decide) rfl (fun ls hl => ?_)
          refine lv_goto (tgt := 2) hx hb dX5_mergeGroups_28 (by decide) ?_
          exact ih2 (k + 1) g σ1 _ _ _ (by omega) (by first | omega | rfl | assumption | simp_all) (by first | (intro c; unfold ui; by_cases e : c = k; (rw [if_pos e, if_pos (by omega), e]; unfold meF; rw [if_pos (by rw [hgk] at c15; exact c15)]); (rw [if_neg e, hI c]; by_cases e2 : 0 ≤ c ∧ c < k; (rw [if_pos e2, if_pos (by omega)]); (rw [if_neg e2, if_neg (by omega)]))) | (intro c; rw [hI c]; by_cases e : c = k; (rw [if_neg (by omega), if_pos (by omega), e]; unfold meF; rw [if_neg (by rw [hgk] at c15; exact c15)]); (by_cases e2 : 0 ≤ c ∧ c < k; (rw [if_pos e2, if_pos (by omega)]); (rw [if_neg e2, if_neg (by omega)])))) f75 f76 f77 f78 f79 f80 (fun j hj0 => (fr2 j (by omega))) hH (lv_sub hl [0, 1, 2, 3] rfl)
        · refine lv_aload_n hx hb dX5_mergeGroups_18 rfl (lv_at hl 1 rfl) ?_
          refine x_get hx hb hts hown hK hH 75 (ltw (by decide)) f75 hinX5 rfl 4 (by decide) (List.mem_of_getElem? (i := 1) rfl) rfl dX5_mergeGroups_19 ?_
          refine lv_iload_n hx hb dX5_mergeGroups_22 rfl (lv_at hl 0 rfl) ?_
          refine lv_iload_n hx hb dX5_mergeGroups_23 rfl (lv_at hl 3 rfl) ?_
          refine x_iast hx hb hK hH 80 (ltw (by decide)) f80 (by omega) (by omega) (by omega) dX5_mergeGroups_24 (fun σ5 H locs f80 fr6 hH => ?_)
          have f75 : σ5 75 = oB 3 [.ref (xad E 76), .ref (xad E 77), .ref (xad E 78), .ref (xad E 79), .ref (xad E 80)] := (fr6 75 (by omega)).trans f75
          have f76 : σ5 76 = aI E 25 le := (fr6 76 (by omega)).trans f76
          have f77 : σ5 77 = aI E 25 rl := (fr6 77 (by omega)).trans f77
          have f78 : σ5 78 = aI E 25 fs := (fr6 78 (by omega)).trans f78
          have f79 : σ5 79 = aI E 25 qu := (fr6 79 (by omega)).trans f79
          refine x_iinc (lv' := [(3, .int (iZ (k + 1))), (0, .ref (xad E 75)), (1, .int (iZ fr)), (2, .int (iZ into))]) hx hb dX5_mergeGroups_25 hl (k := 0) rfl (by decide) rfl (fun ls hl => ?_)
          refine lv_goto (tgt := 2) hx hb dX5_mergeGroups_28 (by decide) ?_
          exact ih2 (k + 1) (ui g k into) σ5 _ _ _ (by omega) (by first | omega | rfl | assumption | simp_all) (by first | (intro c; unfold ui; by_cases e : c = k; (rw [if_pos e, if_pos (by omega), e]; unfold meF; rw [if_pos (by rw [hgk] at c15; exact c15)]); (rw [if_neg e, hI c]; by_cases e2 : 0 ≤ c ∧ c < k; (rw [if_pos e2, if_pos (by omega)]); (rw [if_neg e2, if_neg (by omega)]))) | (intro c; rw [hI c]; by_cases e : c = k; (rw [if_neg (by omega), if_pos (by omega), e]; unfold meF; rw [if_neg (by rw [hgk] at c15; exact c15)]); (by_cases e2 : 0 ≤ c ∧ c < k; (rw [if_pos e2, if_pos (by omega)]); (rw [if_neg e2, if_neg (by omega)])))) f75 f76 f77 f78 f79 f80 (fun j hj0 => ((fr6 j (by omega)).trans (fr2 j (by omega)))) hH (lv_sub hl [0, 1, 2, 3] rfl)
  exact K2 26 0 gr σ _ _ _ (by first | omega | decide) (by first | omega | rfl | assumption | simp_all) (by intro c; rw [if_neg (by omega)]) f75 f76 f77 f78 f79 f80 (fun j _ => rfl) hH (lv_sub hl [0, 1, 2, 3] rfl)

def rm_X5_countGroupsByMerging : Room := { frames := 2, cells := 0, slots := 0, locals := 46 }
set_option maxRecDepth 100000 in
set_option maxHeartbeats 4000000 in
theorem c_X5_countGroupsByMerging (l : Launch) (E : xE) (ST : xST) (hSF : SF ST) (σ : xW) (b : Nat) (op : Int → Int) (lk : Int → Int) (kp : Int → Int) (wc : Int → Int) (pn : Int) (nw : Int) (sh : Int) (wk : Int) (le : Int → Int) (rl : Int → Int) (fs : Int → Int) (qu : Int → Int) (gr : Int → Int) (hr0 : bd E σ b op lk kp wc pn nw sh wk) (hr1 : sr E σ le rl fs qu gr) (hB : BI op lk kp wc pn nw) (hbs : b + 6 ≤ 75) : CI l E ST yX5_countGroupsByMerging wsX5_countGroupsByMerging rm_X5_countGroupsByMerging [.ref (xad E 75), .ref (xad E b)] σ (fun (z : Int) (u : xW) => z = ngZ op ∧ (∃ (gr1 : Int → Int), sr E u le rl fs qu gr1) ∧ ∀ j : Nat, j ≠ 80 → u j = σ j) := by
  obtain ⟨fb_0, fb_1, fb_2, fb_3, fb_4, ro0, fb_5⟩ := hr0
  obtain ⟨f75, f76, f77, f78, f79, f80⟩ := hr1
  refine CI_of (by decide) rfl (Nat.le_of_ble_eq_true rfl) ?_
  intro p e s m args below meth c Q ls G hH hl hQ
  obtain ⟨hx, hb, hml, hown, hts, hK, hST, hlocks, hr, hno⟩ := G
  have hOK := hSF.1
  have hown : s.vm.findClass RX5 = some m.cls := hown
  have hl : lv_has ls 6 [(0, .ref (xad E 75)), (1, .ref (xad E b))] := hl
  have hinX5 : ∀ w ∈ u_ws RX5 TX5 5, w ∈ wsX5_countGroupsByMerging := fun w h => (List.mem_cons_of_mem _ (List.mem_append_left _ (List.mem_append_right _ h)))
  obtain ⟨hop, hlk, hkp, hwc, hpn, hnw⟩ := id hB
  refine x_iconst hx hb dX5_countGroupsByMerging_0 ?_
  refine lv_istore_n (lv' := [(2, .int (iZ 0)), (0, .ref (xad E 75)), (1, .ref (xad E b))]) hx hb dX5_countGroupsByMerging_1 rfl hl (by decide) rfl (fun ls hl => ?_)
  have K2 : ∀ (nK : Nat) (k0 : Int) (g : Int → Int) (σ1 : xW) (H : Heap) (locs : List Loc) (ls : Array Slot), (25 - k0).toNat < nK → (0 ≤ k0 ∧ k0 ≤ 25) → (∀ c, 0 ≤ c → c < k0 → g c = c) → σ1 b = oB 0 [.ref (xad E (b + 1)), .ref (xad E (b + 2)), .ref (xad E (b + 3)), .ref (xad E (b + 4)), .ref (xad E (b + 5)), .int (iZ pn), .int (iZ nw), .int (iZ sh), .long (lZ wk)] → σ1 (b + 1) = aI E 25 op → σ1 (b + 2) = aI E 25 lk → σ1 (b + 3) = aI E 6 kp → σ1 (b + 4) = aI E 3 wc → σ1 (b + 5) = aI E 5 ro0 → σ1 75 = oB 3 [.ref (xad E 76), .ref (xad E 77), .ref (xad E 78), .ref (xad E 79), .ref (xad E 80)] → σ1 76 = aI E 25 le → σ1 77 = aI E 25 rl → σ1 78 = aI E 25 fs → σ1 79 = aI E 25 qu → σ1 80 = aI E 25 g → (∀ j : Nat, j ≠ 80 → σ1 j = σ j) → Hx E (xA E s.heap.size) s.heap σ1 H locs → lv_has ls 6 [(2, .int (iZ k0)), (0, .ref (xad E 75)), (1, .ref (xad E b))] → W p l e rm_X5_countGroupsByMerging s m args below meth c H locs 0 0 Q (F0 m 2 ls []) := by
    intro n2
    induction n2 with
    | zero =>
      intro k0 g σ1 H locs ls hm
      exact absurd hm (by first | exact Nat.not_lt_zero _ | omega)
    | succ n2 ih2 =>
      intro k0 g σ1 H locs ls hm2 hk0 hI0 fb_0 fb_1 fb_2 fb_3 fb_4 fb_5 f75 f76 f77 f78 f79 f80 fr2 hH hl
      refine lv_iload_n hx hb dX5_countGroupsByMerging_2 rfl (lv_at hl 0 rfl) ?_
      refine x_bipush hx hb dX5_countGroupsByMerging_3 (by decide) ?_
      refine x_icmp_ge (tgt := 21) hx hb dX5_countGroupsByMerging_5 (by decide) (by omega) (by decide) (fun c5 => ?_) (fun c5 => ?_)
      · obtain ⟨σ3, f80, fr4, hH⟩ := x_normE (g := idF) 80 (ltw (by decide)) f80 (by intro c h0 h1; unfold idF; rw [if_pos ⟨h0, by omega⟩]; exact hI0 c h0 (by omega)) hH
        have fb_0 : σ3 b = oB 0 [.ref (xad E (b + 1)), .ref (xad E (b + 2)), .ref (xad E (b + 3)), .ref (xad E (b + 4)), .ref (xad E (b + 5)), .int (iZ pn), .int (iZ nw), .int (iZ sh), .long (lZ wk)] := (fr4 b (by omega)).trans fb_0
        have fb_1 : σ3 (b + 1) = aI E 25 op := (fr4 (b + 1) (by omega)).trans fb_1
        have fb_2 : σ3 (b + 2) = aI E 25 lk := (fr4 (b + 2) (by omega)).trans fb_2
        have fb_3 : σ3 (b + 3) = aI E 6 kp := (fr4 (b + 3) (by omega)).trans fb_3
        have fb_4 : σ3 (b + 4) = aI E 3 wc := (fr4 (b + 4) (by omega)).trans fb_4
        have fb_5 : σ3 (b + 5) = aI E 5 ro0 := (fr4 (b + 5) (by omega)).trans fb_5
        have f75 : σ3 75 = oB 3 [.ref (xad E 76), .ref (xad E 77), .ref (xad E 78), .ref (xad E 79), .ref (xad E 80)] := (fr4 75 (by omega)).trans f75
        have f76 : σ3 76 = aI E 25 le := (fr4 76 (by omega)).trans f76
        have f77 : σ3 77 = aI E 25 rl := (fr4 77 (by omega)).trans f77
        have f78 : σ3 78 = aI E 25 fs := (fr4 78 (by omega)).trans f78
        have f79 : σ3 79 = aI E 25 qu := (fr4 79 (by omega)).trans f79
        refine x_bipush hx hb dX5_countGroupsByMerging_21 (by decide) ?_
        refine lv_istore_n (lv' := [(2, .int (iZ 25)), (0, .ref (xad E 75)), (1, .ref (xad E b))]) hx hb dX5_countGroupsByMerging_23 rfl hl (by decide) rfl (fun ls hl => ?_)
        refine x_iconst hx hb dX5_countGroupsByMerging_24 ?_
        refine lv_istore_n (lv' := [(3, .int (iZ 0)), (2, .int (iZ 25)), (0, .ref (xad E 75)), (1, .ref (xad E b))]) hx hb dX5_countGroupsByMerging_25 rfl hl (by decide) rfl (fun ls hl => ?_)
        have K26 : ∀ (nK : Nat) (cnt k : Int) (g2 : Int → Int) (σ5 : xW) (H : Heap) (locs : List Loc) (ls : Array Slot), (25 - k).toNat < nK → ((0 ≤ k ∧ k ≤ 25) ∧ -100 ≤ cnt - 2 * (25 - k) ∧ cnt ≤ 25) → (meI op k 1 cnt g2) → (∀ c, -1 ≤ g2 c ∧ g2 c ≤ 25) → σ5 b = oB 0 [.ref (xad E (b + 1)), .ref (xad E (b + 2)), .ref (xad E (b + 3)), .ref (xad E (b + 4)), .ref (xad E (b + 5)), .int (iZ pn), .int (iZ nw), .int (iZ sh), .long (lZ wk)] → σ5 (b + 1) = aI E 25 op → σ5 (b + 2) = aI E 25 lk → σ5 (b + 3) = aI E 6 kp → σ5 (b + 4) = aI E 3 wc → σ5 (b + 5) = aI E 5 ro0 → σ5 75 = oB 3 [.ref (xad E 76), .ref (xad E 77), .ref (xad E 78), .ref (xad E 79), .ref (xad E 80)] → σ5 76 = aI E 25 le → σ5 77 = aI E 25 rl → σ5 78 = aI E 25 fs → σ5 79 = aI E 25 qu → σ5 80 = aI E 25 g2 → (∀ j : Nat, j ≠ 80 → σ5 j = σ3 j) → Hx E (xA E s.heap.size) s.heap σ5 H locs → lv_has ls 6 [(3, .int (iZ k)), (2, .int (iZ cnt)), (0, .ref (xad E 75)), (1, .ref (xad E b))] → W p l e rm_X5_countGroupsByMerging s m args below meth c H locs 0 0 Q (F0 m 26 ls []) := by
          intro n26
          induction n26 with
          | zero =>
            intro cnt k g2 σ5 H locs ls hm
            exact absurd hm (by first | exact Nat.not_lt_zero _ | omega)
          | succ n26 ih26 =>
            intro cnt k g2 σ5 H locs ls hm26 hk hI hgr2 fb_0 fb_1 fb_2 fb_3 fb_4 fb_5 f75 f76 f77 f78 f79 f80 fr6 hH hl
            refine lv_iload_n hx hb dX5_countGroupsByMerging_26 rfl (lv_at hl 0 rfl) ?_
            refine x_bipush hx hb dX5_countGroupsByMerging_27 (by decide) ?_
            refine x_icmp_ge (tgt := 104) hx hb dX5_countGroupsByMerging_29 (by decide) (by omega) (by decide) (fun c29 => ?_) (fun c29 => ?_)
            · refine lv_iload_n hx hb dX5_countGroupsByMerging_104 rfl (lv_at hl 1 rfl) ?_
              subst hQ
              exact x_iret hx hb hr hlocks hH (Nat.le_of_ble_eq_true rfl) (Nat.le_of_ble_eq_true rfl) ⟨(show cnt = (ngZ op) from (by have e : k = 25 := (by omega); subst e; exact meI_end hI)), ⟨g2, ⟨f75, f76, f77, f78, f79, f80⟩⟩, fun j hj0 => ((fr6 j (by omega)).trans ((fr4 j (by omega)).trans (fr2 j (by omega))))⟩ dX5_countGroupsByMerging_105
            · refine x_iconst hx hb dX5_countGroupsByMerging_32 ?_
              refine lv_istore (lv' := [(4, .int (iZ 1)), (3, .int (iZ k)), (2, .int (iZ cnt)), (0, .ref (xad E 75)), (1, .ref (xad E b))]) hx hb dX5_countGroupsByMerging_33 hl (by decide) rfl (fun ls hl => ?_)
              have K35 : ∀ (nK : Nat) (cnt2 dd : Int) (g3 : Int → Int) (σ7 : xW) (H : Heap) (locs : List Loc) (ls : Array Slot), (3 - dd).toNat < nK → ((1 ≤ dd ∧ dd ≤ 3) ∧ -100 ≤ cnt2 - 2 * (25 - k) + (dd - 1) ∧ cnt2 ≤ 25) → (meI op k dd cnt2 g3) → (∀ c, -1 ≤ g3 c ∧ g3 c ≤ 25) → σ7 b = oB 0 [.ref (xad E (b + 1)), .ref (xad E (b + 2)), .ref (xad E (b + 3)), .ref (xad E (b + 4)), .ref (xad E (b + 5)), .int (iZ pn), .int (iZ nw), .int (iZ sh), .long (lZ wk)] → σ7 (b + 1) = aI E 25 op → σ7 (b + 2) = aI E 25 lk → σ7 (b + 3) = aI E 6 kp → σ7 (b + 4) = aI E 3 wc → σ7 (b + 5) = aI E 5 ro0 → σ7 75 = oB 3 [.ref (xad E 76), .ref (xad E 77), .ref (xad E 78), .ref (xad E 79), .ref (xad E 80)] → σ7 76 = aI E 25 le → σ7 77 = aI E 25 rl → σ7 78 = aI E 25 fs → σ7 79 = aI E 25 qu → σ7 80 = aI E 25 g3 → (∀ j : Nat, j ≠ 80 → σ7 j = σ5 j) → Hx E (xA E s.heap.size) s.heap σ7 H locs → lv_has ls 6 [(4, .int (iZ dd)), (3, .int (iZ k)), (2, .int (iZ cnt2)), (0, .ref (xad E 75)), (1, .ref (xad E b))] → W p l e rm_X5_countGroupsByMerging s m args below meth c H locs 0 0 Q (F0 m 35 ls []) := by
                intro n35
                induction n35 with
                | zero =>
                  intro cnt2 dd g3 σ7 H locs ls hm
                  exact absurd hm (by first | exact Nat.not_lt_zero _ | omega)
                | succ n35 ih35 =>
                  intro cnt2 dd g3 σ7 H locs ls hm35 hdd hJ hgr3 fb_0 fb_1 fb_2 fb_3 fb_4 fb_5 f75 f76 f77 f78 f79 f80 fr8 hH hl
                  refine lv_iload hx hb dX5_countGroupsByMerging_35 (lv_at hl 0 rfl) ?_
                  refine x_iconst hx hb dX5_countGroupsByMerging_37 ?_
                  refine x_icmp_gt (tgt := 98) hx hb dX5_countGroupsByMerging_38 (by decide) (by omega) (by decide) (fun c38 => ?_) (fun c38 => ?_)
                  · refine x_iinc (lv' := [(3, .int (iZ (k + 1))), (4, .int (iZ dd)), (2, .int (iZ cnt2)), (0, .ref (xad E 75)), (1, .ref (xad E b))]) hx hb dX5_countGroupsByMerging_98 hl (k := 1) rfl (by decide) rfl (fun ls hl => ?_)
                    refine lv_goto (tgt := 26) hx hb dX5_countGroupsByMerging_101 (by decide) ?_
                    exact ih26 cnt2 (k + 1) g3 σ7 _ _ _ (by omega) (by omega) (by have e : dd = 3 := (by omega); subst e; exact meI_next hJ) (by exact hgr3) fb_0 fb_1 fb_2 fb_3 fb_4 fb_5 f75 f76 f77 f78 f79 f80 (fun j hj0 => ((fr8 j (by omega)).trans (fr6 j (by omega)))) hH (lv_sub hl [0, 2, 3, 4] rfl)
                  · have hcr := cnZ_rg (op := op) (c := k) (d := dd) (by omega) (by omega)
                    refine lv_aload_n hx hb dX5_countGroupsByMerging_41 rfl (lv_at hl 4 rfl) ?_
                    refine lv_iload_n hx hb dX5_countGroupsByMerging_42 rfl (lv_at hl 1 rfl) ?_
                    refine lv_iload hx hb dX5_countGroupsByMerging_43 (lv_at hl 0 rfl) ?_
                    refine x_cVID (As := [.int (iZ k), .int (iZ dd)]) (rest := []) hx hb hml hts hown hK hST hOK hH b (c_X1_connectedNeighbour l E ST hSF σ7 b k dd op lk kp wc pn nw sh wk ⟨fb_0, fb_1, fb_2, fb_3, fb_4, _, fb_5⟩ (by omega) (by omega) (by omega) (by omega)) (cwV 2 hts gX5_countGroupsByMerging_X1_connectedNeighbour rfl rfl rfl (by decide +kernel) ⟨Nat.le_of_ble_eq_true rfl, Nat.le_of_ble_eq_true rfl⟩) (by omega) fb_0 rfl rfl hl.1 rfl (Nat.le_of_ble_eq_true rfl) dX5_countGroupsByMerging_45 ⟨Nat.le_of_ble_eq_true rfl, Nat.le_of_ble_eq_true rfl⟩ (fun z u h => h) (fun H locs hH => ?_)
                    refine lv_istore (lv' := [(5, .int (iZ (cnZ op k dd))), (4, .int (iZ dd)), (3, .int (iZ k)), (2, .int (iZ cnt2)), (0, .ref (xad E 75)), (1, .ref (xad E b))]) hx hb dX5_countGroupsByMerging_48 hl (by decide) rfl (fun ls hl => ?_)
                    refine lv_iload hx hb dX5_countGroupsByMerging_50 (lv_at hl 0 rfl) ?_
                    refine x_iconst hx hb dX5_countGroupsByMerging_52 ?_
                    refine x_icmp_eq (tgt := 92) hx hb dX5_countGroupsByMerging_53 (by decide) (by omega) (by decide) (fun c53 => ?_) (fun c53 => ?_)
                    · refine x_iinc (lv' := [(4, .int (iZ (dd + 1))), (5, .int (iZ (cnZ op k dd))), (3, .int (iZ k)), (2, .int (iZ cnt2)), (0, .ref (xad E 75)), (1, .ref (xad E b))]) hx hb dX5_countGroupsByMerging_92 hl (k := 1) rfl (by decide) rfl (fun ls hl => ?_)
                      refine lv_goto (tgt := 35) hx hb dX5_countGroupsByMerging_95 (by decide) ?_
                      exact ih35 cnt2 (dd + 1) g3 σ7 _ _ _ (by omega) (by omega) (by first | exact meI_same hJ (fun hz => absurd (by assumption) hz) | exact meI_same hJ (fun _ => (by omega)) | exact meI_add hJ (by omega) (by omega) rfl c53 c69) (by first | exact hgr3 | (intro c; unfold meF; have h8 := hgr3 k; have h9 := hgr3 c; split <;> omega)) fb_0 fb_1 fb_2 fb_3 fb_4 fb_5 f75 f76 f77 f78 f79 f80 (fun j hj0 => (fr8 j (by omega))) hH (lv_sub hl [0, 2, 3, 4, 5] rfl)
                    · refine lv_aload_n hx hb dX5_countGroupsByMerging_56 rfl (lv_at hl 4 rfl) ?_
                      refine x_get hx hb hts hown hK hH 75 (ltw (by decide)) f75 hinX5 rfl 4 (by decide) (List.mem_of_getElem? (i := 1) rfl) rfl dX5_countGroupsByMerging_57 ?_
                      refine lv_iload hx hb dX5_countGroupsByMerging_60 (lv_at hl 0 rfl) ?_
                      refine x_iald hx hb hK hH 80 (ltw (by decide)) f80 (by omega) (by omega) (by omega) dX5_countGroupsByMerging_62 ?_
                      have hv12 := hgr3 (cnZ op k dd)
                      refine lv_aload_n hx hb dX5_countGroupsByMerging_63 rfl (lv_at hl 4 rfl) ?_
                      refine x_get hx hb hts hown hK hH 75 (ltw (by decide)) f75 hinX5 rfl 4 (by decide) (List.mem_of_getElem? (i := 1) rfl) rfl dX5_countGroupsByMerging_64 ?_
                      refine lv_iload_n hx hb dX5_countGroupsByMerging_67 rfl (lv_at hl 2 rfl) ?_
                      refine x_iald hx hb hK hH 80 (ltw (by decide)) f80 (by omega) (by omega) (by omega) dX5_countGroupsByMerging_68 ?_
                      have hv13 := hgr3 k
                      refine x_icmp_eq (tgt := 92) hx hb dX5_countGroupsByMerging_69 (by decide) (by omega) (by omega) (fun c69 => ?_) (fun c69 => ?_)
                      · refine x_iinc (lv' := [(4, .int (iZ (dd + 1))), (5, .int (iZ (cnZ op k dd))), (3, .int (iZ k)), (2, .int (iZ cnt2)), (0, .ref (xad E 75)), (1, .ref (xad E b))]) hx hb dX5_countGroupsByMerging_92 hl (k := 1) rfl (by decide) rfl (fun ls hl => ?_)
                        refine lv_goto (tgt := 35) hx hb dX5_countGroupsByMerging_95 (by decide) ?_
                        exact ih35 cnt2 (dd + 1) g3 σ7 _ _ _ (by omega) (by omega) (by first | exact meI_same hJ (fun hz => absurd (by assumption) hz) | exact meI_same hJ (fun _ => (by omega)) | exact meI_add hJ (by omega) (by omega) rfl c53 c69) (by first | exact hgr3 | (intro c; unfold meF; have h8 := hgr3 k; have h9 := hgr3 c; split <;> omega)) fb_0 fb_1 fb_2 fb_3 fb_4 fb_5 f75 f76 f77 f78 f79 f80 (fun j hj0 => (fr8 j (by omega))) hH (lv_sub hl [0, 2, 3, 4, 5] rfl)
                      · refine lv_aload_n hx hb dX5_countGroupsByMerging_72 rfl (lv_at hl 4 rfl) ?_
                        refine lv_aload_n hx hb dX5_countGroupsByMerging_73 rfl (lv_at hl 4 rfl) ?_
                        refine x_get hx hb hts hown hK hH 75 (ltw (by decide)) f75 hinX5 rfl 4 (by decide) (List.mem_of_getElem? (i := 1) rfl) rfl dX5_countGroupsByMerging_74 ?_
                        refine lv_iload hx hb dX5_countGroupsByMerging_77 (lv_at hl 0 rfl) ?_
                        refine x_iald hx hb hK hH 80 (ltw (by decide)) f80 (by omega) (by omega) (by omega) dX5_countGroupsByMerging_79 ?_
                        have hv14 := hgr3 (cnZ op k dd)
                        refine lv_aload_n hx hb dX5_countGroupsByMerging_80 rfl (lv_at hl 4 rfl) ?_
                        refine x_get hx hb hts hown hK hH 75 (ltw (by decide)) f75 hinX5 rfl 4 (by decide) (List.mem_of_getElem? (i := 1) rfl) rfl dX5_countGroupsByMerging_81 ?_
                        refine lv_iload_n hx hb dX5_countGroupsByMerging_84 rfl (lv_at hl 2 rfl) ?_
                        refine x_iald hx hb hK hH 80 (ltw (by decide)) f80 (by omega) (by omega) (by omega) dX5_countGroupsByMerging_85 ?_
                        have hv15 := hgr3 k
                        refine x_cVV (As := [.int (iZ (g3 (cnZ op k dd))), .int (iZ (g3 k))]) (rest := []) hx hb hml hts hown hK hST hOK hH 75 (c_X5_mergeGroups l E ST hSF σ7 (g3 (cnZ op k dd)) (g3 k) le rl fs qu g3 ⟨f75, f76, f77, f78, f79, f80⟩ (by omega) (by omega) hgr3) (cwV 2 hts gX5_countGroupsByMerging_X5_mergeGroups rfl rfl rfl (by decide +kernel) ⟨Nat.le_of_ble_eq_true rfl, Nat.le_of_ble_eq_true rfl⟩) (ltw (by decide)) f75 rfl rfl hl.1 rfl (Nat.le_of_ble_eq_true rfl) dX5_countGroupsByMerging_86 ⟨Nat.le_of_ble_eq_true rfl, Nat.le_of_ble_eq_true rfl⟩ (fun σ17 H locs hp18 hH => ?_)
                        obtain ⟨⟨f75, f76, f77, f78, f79, f80⟩, fr19⟩ := hp18
                        have fb_0 : σ17 b = oB 0 [.ref (xad E (b + 1)), .ref (xad E (b + 2)), .ref (xad E (b + 3)), .ref (xad E (b + 4)), .ref (xad E (b + 5)), .int (iZ pn), .int (iZ nw), .int (iZ sh), .long (lZ wk)] := (fr19 b (by omega)).trans fb_0
                        have fb_1 : σ17 (b + 1) = aI E 25 op := (fr19 (b + 1) (by omega)).trans fb_1
                        have fb_2 : σ17 (b + 2) = aI E 25 lk := (fr19 (b + 2) (by omega)).trans fb_2
                        have fb_3 : σ17 (b + 3) = aI E 6 kp := (fr19 (b + 3) (by omega)).trans fb_3
                        have fb_4 : σ17 (b + 4) = aI E 3 wc := (fr19 (b + 4) (by omega)).trans fb_4
                        have fb_5 : σ17 (b + 5) = aI E 5 ro0 := (fr19 (b + 5) (by omega)).trans fb_5
                        refine x_iinc (lv' := [(2, .int (iZ (cnt2 + (-1)))), (5, .int (iZ (cnZ op k dd))), (4, .int (iZ dd)), (3, .int (iZ k)), (0, .ref (xad E 75)), (1, .ref (xad E b))]) hx hb dX5_countGroupsByMerging_89 hl (k := 3) rfl (by decide) rfl (fun ls hl => ?_)
                        refine x_iinc (lv' := [(4, .int (iZ (dd + 1))), (2, .int (iZ (cnt2 + (-1)))), (5, .int (iZ (cnZ op k dd))), (3, .int (iZ k)), (0, .ref (xad E 75)), (1, .ref (xad E b))]) hx hb dX5_countGroupsByMerging_92 hl (k := 2) rfl (by decide) rfl (fun ls hl => ?_)
                        refine lv_goto (tgt := 35) hx hb dX5_countGroupsByMerging_95 (by decide) ?_
                        exact ih35 (cnt2 + (-1)) (dd + 1) (meF g3 (g3 (cnZ op k dd)) (g3 k)) σ17 _ _ _ (by omega) (by omega) (by first | exact meI_same hJ (fun hz => absurd (by assumption) hz) | exact meI_same hJ (fun _ => (by omega)) | exact meI_add hJ (by omega) (by omega) rfl c53 c69) (by first | exact hgr3 | (intro c; unfold meF; have h8 := hgr3 k; have h9 := hgr3 c; split <;> omega)) fb_0 fb_1 fb_2 fb_3 fb_4 fb_5 f75 f76 f77 f78 f79 f80 (fun j hj0 => ((fr19 j (by omega)).trans (fr8 j (by omega)))) hH (lv_sub hl [0, 3, 1, 4, 5] rfl)
              exact K35 4 cnt 1 g2 σ5 _ _ _ (by first | omega | decide) (by omega) (by exact hI) (by exact hgr2) fb_0 fb_1 fb_2 fb_3 fb_4 fb_5 f75 f76 f77 f78 f79 f80 (fun j _ => rfl) hH (lv_sub hl [0, 1, 2, 3, 4] rfl)
        exact K26 26 25 0 idF σ3 _ _ _ (by first | omega | decide) (by omega) (by exact meI_0 (fun c h0 h1 => by unfold idF; rw [if_pos ⟨h0, h1⟩])) (by intro c; unfold idF; split <;> omega) fb_0 fb_1 fb_2 fb_3 fb_4 fb_5 f75 f76 f77 f78 f79 f80 (fun j _ => rfl) hH (lv_sub hl [0, 1, 2, 3] rfl)
      · refine lv_aload_n hx hb dX5_countGroupsByMerging_8 rfl (lv_at hl 1 rfl) ?_
        refine x_get hx hb hts hown hK hH 75 (ltw (by decide)) f75 hinX5 rfl 4 (by decide) (List.mem_of_getElem? (i := 1) rfl) rfl dX5_countGroupsByMerging_9 ?_
        refine lv_iload_n hx hb dX5_countGroupsByMerging_12 rfl (lv_at hl 0 rfl) ?_
        refine lv_iload_n hx hb dX5_countGroupsByMerging_13 rfl (lv_at hl 0 rfl) ?_
        refine x_iast hx hb hK hH 80 (ltw (by decide)) f80 (by omega) (by omega) (by omega) dX5_countGroupsByMerging_14 (fun σ21 H locs f80 fr22 hH => ?_)
        have fb_0 : σ21 b = oB 0 [.ref (xad E (b + 1)), .ref (xad E (b + 2)), .ref (xad E (b + 3)), .ref (xad E (b + 4)), .ref (xad E (b + 5)), .int (iZ pn), .int (iZ nw), .int (iZ sh), .long (lZ wk)] := (fr22 b (by omega)).trans fb_0
        have fb_1 : σ21 (b + 1) = aI E 25 op := (fr22 (b + 1) (by omega)).trans fb_1
        have fb_2 : σ21 (b + 2) = aI E 25 lk := (fr22 (b + 2) (by omega)).trans fb_2
        have fb_3 : σ21 (b + 3) = aI E 6 kp := (fr22 (b + 3) (by omega)).trans fb_3
        have fb_4 : σ21 (b + 4) = aI E 3 wc := (fr22 (b + 4) (by omega)).trans fb_4
        have fb_5 : σ21 (b + 5) = aI E 5 ro0 := (fr22 (b + 5) (by omega)).trans fb_5
        have f75 : σ21 75 = oB 3 [.ref (xad E 76), .ref (xad E 77), .ref (xad E 78), .ref (xad E 79), .ref (xad E 80)] := (fr22 75 (by omega)).trans f75
        have f76 : σ21 76 = aI E 25 le := (fr22 76 (by omega)).trans f76
        have f77 : σ21 77 = aI E 25 rl := (fr22 77 (by omega)).trans f77
        have f78 : σ21 78 = aI E 25 fs := (fr22 78 (by omega)).trans f78
        have f79 : σ21 79 = aI E 25 qu := (fr22 79 (by omega)).trans f79
        refine x_iinc (lv' := [(2, .int (iZ (k0 + 1))), (0, .ref (xad E 75)), (1, .ref (xad E b))]) hx hb dX5_countGroupsByMerging_15 hl (k := 0) rfl (by decide) rfl (fun ls hl => ?_)
        refine lv_goto (tgt := 2) hx hb dX5_countGroupsByMerging_18 (by decide) ?_
        exact ih2 (k0 + 1) (ui g k0 k0) σ21 _ _ _ (by omega) (by first | omega | rfl | assumption | simp_all) (by intro c h0 h1; unfold ui; by_cases e : c = k0; (rw [if_pos e, e]); (rw [if_neg e]; exact hI0 c h0 (by omega))) fb_0 fb_1 fb_2 fb_3 fb_4 fb_5 f75 f76 f77 f78 f79 f80 (fun j hj0 => ((fr22 j (by omega)).trans (fr2 j (by omega)))) hH (lv_sub hl [0, 1, 2] rfl)
  exact K2 26 0 gr σ _ _ _ (by first | omega | decide) (by first | omega | rfl | assumption | simp_all) (by intro c h0 h1; omega) fb_0 fb_1 fb_2 fb_3 fb_4 fb_5 f75 f76 f77 f78 f79 f80 (fun j _ => rfl) hH (lv_sub hl [0, 1, 2] rfl)
