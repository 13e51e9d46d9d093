def rm_X7_readsAll : Room := { frames := 6, cells := 0, slots := 0, locals := 132 }
set_option maxRecDepth 100000 in
set_option maxHeartbeats 4000000 in
theorem c_X7_readsAll (l : Launch) (E : xE) (ST : xST) (hSF : SF ST) (Z : zE) (hSQ : SQ Z ST) (σ : xW) (sv : Bool) (re : Int) (ea : Int) (fa : Int) (ty : Int) (li : Int) (th : Int) (sz : Int) (sp : Int) (wr : Int) (to : Int) (tx : Int → Int) (nu : Int → Int) (hr0 : mo E σ sv re ea fa ty li th sz sp wr to) (hr1 : txt E σ tx) (hr2 : num E σ nu) (hty : 0 ≤ ty ∧ ty ≤ 60) (htx : ∀ j, 0 ≤ tx j ∧ tx j ≤ 65535) (hnu : nuR nu) : CV l E ST yX7_readsAll wsX7_readsAll rm_X7_readsAll [.ref (xad E 85)] σ (fun (u : xW) => (∃ (sp1 wr1 to1 : Int) (nu1 : Int → Int), mo E u sv re ea fa 0 li th ty sp1 wr1 to1 ∧ num E u nu1 ∧ (feP tx ty wr1 to1) ∧ (wr1 = -1 → ∀ i : Int, 0 ≤ i → i < to1 → nmC tx ty nu1 i) ∧ (1 ≤ to1 ∧ to1 ≤ 9) ∧ (nuR nu1) ∧ (-1 ≤ wr1 ∧ wr1 ≤ 60)) ∧ ∀ j : Nat, j ≠ 85 → j ≠ 95 → u j = σ j) := by
  have f85 : σ 85 = oB 5 [.ref (xad E 86), .ref (xad E 87), .ref (xad E 88), .ref (xad E 89), .ref (xad E 90), .int (iZ (b2 sv)), .int (iZ re), .int (iZ ea), .int (iZ fa), .ref (xad E 91), .ref (xad E 92), .ref (xad E 93), .int (iZ ty), .ref (xad E 94), .int (iZ li), .int (iZ th), .int (iZ sz), .int (iZ sp), .int (iZ wr), .int (iZ to), .ref (xad E 95)] := hr0
  have f93 : σ 93 = aI E 60 tx := hr1
  have f95 : σ 95 = aI E 120 nu := hr2
  refine CV_of (by decide) rfl (Nat.le_of_ble_eq_true rfl) ?_
  intro p e s m args below meth c Q ls G hH hl hQ
  obtain ⟨hx, hb, hml, hown, hts, hK, hST, hlocks, hr, hno⟩ := G
  have hOK := hSF.1
  have hown : s.vm.findClass RX7 = some m.cls := hown
  have hl : lv_has ls 2 [(0, .ref (xad E 85))] := hl
  have hinX7 : ∀ w ∈ u_ws RX7 TX7 21, w ∈ wsX7_readsAll := fun w h => (List.mem_cons_of_mem _ (List.mem_append_right _ h))
  refine lv_aload_n hx hb dX7_readsAll_0 rfl (lv_at hl 0 rfl) ?_
  refine lv_aload_n hx hb dX7_readsAll_1 rfl (lv_at hl 0 rfl) ?_
  refine x_get hx hb hts hown hK hH 85 (by decide) f85 hinX7 rfl 12 (by decide) (List.mem_of_getElem? (i := 1) rfl) rfl dX7_readsAll_2 ?_
  refine x_put (fs' := [.ref (xad E 86), .ref (xad E 87), .ref (xad E 88), .ref (xad E 89), .ref (xad E 90), .int (iZ (b2 sv)), .int (iZ re), .int (iZ ea), .int (iZ fa), .ref (xad E 91), .ref (xad E 92), .ref (xad E 93), .int (iZ ty), .ref (xad E 94), .int (iZ li), .int (iZ th), .int (iZ ty), .int (iZ sp), .int (iZ wr), .int (iZ to), .ref (xad E 95)]) hx hb hts hown hK hH 85 (by decide) f85 hinX7 rfl tyX7 tyX7_ok nmX7 16 (by decide) (List.mem_of_getElem? (i := 2) rfl) rfl (ty := .int) (by decide +kernel) rfl rfl (Nat.le_of_ble_eq_true rfl) rfl dX7_readsAll_5 (fun σ1 H locs f85 fr2 hH => ?_)
  have f93 : σ1 93 = aI E 60 tx := (fr2 93 (by omega)).trans f93
  have f95 : σ1 95 = aI E 120 nu := (fr2 95 (by omega)).trans f95
  refine lv_aload_n hx hb dX7_readsAll_8 rfl (lv_at hl 0 rfl) ?_
  refine x_iconst hx hb dX7_readsAll_9 ?_
  refine x_put (fs' := [.ref (xad E 86), .ref (xad E 87), .ref (xad E 88), .ref (xad E 89), .ref (xad E 90), .int (iZ (b2 sv)), .int (iZ re), .int (iZ ea), .int (iZ fa), .ref (xad E 91), .ref (xad E 92), .ref (xad E 93), .int (iZ 0), .ref (xad E 94), .int (iZ li), .int (iZ th), .int (iZ ty), .int (iZ sp), .int (iZ wr), .int (iZ to), .ref (xad E 95)]) hx hb hts hown hK hH 85 (by decide) f85 hinX7 rfl tyX7 tyX7_ok nmX7 12 (by decide) (List.mem_of_getElem? (i := 1) rfl) rfl (ty := .int) (by decide +kernel) rfl rfl (Nat.le_of_ble_eq_true rfl) rfl dX7_readsAll_10 (fun σ3 H locs f85 fr4 hH => ?_)
  have f93 : σ3 93 = aI E 60 tx := (fr4 93 (by omega)).trans f93
  have f95 : σ3 95 = aI E 120 nu := (fr4 95 (by omega)).trans f95
  refine lv_aload_n hx hb dX7_readsAll_13 rfl (lv_at hl 0 rfl) ?_
  refine x_iconst hx hb dX7_readsAll_14 ?_
  refine x_put (fs' := [.ref (xad E 86), .ref (xad E 87), .ref (xad E 88), .ref (xad E 89), .ref (xad E 90), .int (iZ (b2 sv)), .int (iZ re), .int (iZ ea), .int (iZ fa), .ref (xad E 91), .ref (xad E 92), .ref (xad E 93), .int (iZ 0), .ref (xad E 94), .int (iZ li), .int (iZ th), .int (iZ ty), .int (iZ 0), .int (iZ wr), .int (iZ to), .ref (xad E 95)]) hx hb hts hown hK hH 85 (by decide) f85 hinX7 rfl tyX7 tyX7_ok nmX7 17 (by decide) (List.mem_of_getElem? (i := 3) rfl) rfl (ty := .int) (by decide +kernel) rfl rfl (Nat.le_of_ble_eq_true rfl) rfl dX7_readsAll_15 (fun σ5 H locs f85 fr6 hH => ?_)
  have f93 : σ5 93 = aI E 60 tx := (fr6 93 (by omega)).trans f93
  have f95 : σ5 95 = aI E 120 nu := (fr6 95 (by omega)).trans f95
  refine lv_aload_n hx hb dX7_readsAll_18 rfl (lv_at hl 0 rfl) ?_
  refine x_iconst hx hb dX7_readsAll_19 ?_
  refine x_put (fs' := [.ref (xad E 86), .ref (xad E 87), .ref (xad E 88), .ref (xad E 89), .ref (xad E 90), .int (iZ (b2 sv)), .int (iZ re), .int (iZ ea), .int (iZ fa), .ref (xad E 91), .ref (xad E 92), .ref (xad E 93), .int (iZ 0), .ref (xad E 94), .int (iZ li), .int (iZ th), .int (iZ ty), .int (iZ 0), .int (iZ (-1)), .int (iZ to), .ref (xad E 95)]) hx hb hts hown hK hH 85 (by decide) f85 hinX7 rfl tyX7 tyX7_ok nmX7 18 (by decide) (List.mem_of_getElem? (i := 4) rfl) rfl (ty := .int) (by decide +kernel) rfl rfl (Nat.le_of_ble_eq_true rfl) rfl dX7_readsAll_20 (fun σ7 H locs f85 fr8 hH => ?_)
  have f93 : σ7 93 = aI E 60 tx := (fr8 93 (by omega)).trans f93
  have f95 : σ7 95 = aI E 120 nu := (fr8 95 (by omega)).trans f95
  refine lv_aload_n hx hb dX7_readsAll_23 rfl (lv_at hl 0 rfl) ?_
  refine x_iconst hx hb dX7_readsAll_24 ?_
  refine x_put (fs' := [.ref (xad E 86), .ref (xad E 87), .ref (xad E 88), .ref (xad E 89), .ref (xad E 90), .int (iZ (b2 sv)), .int (iZ re), .int (iZ ea), .int (iZ fa), .ref (xad E 91), .ref (xad E 92), .ref (xad E 93), .int (iZ 0), .ref (xad E 94), .int (iZ li), .int (iZ th), .int (iZ ty), .int (iZ 0), .int (iZ (-1)), .int (iZ 0), .ref (xad E 95)]) hx hb hts hown hK hH 85 (by decide) f85 hinX7 rfl tyX7 tyX7_ok nmX7 19 (by decide) (List.mem_of_getElem? (i := 5) rfl) rfl (ty := .int) (by decide +kernel) rfl rfl (Nat.le_of_ble_eq_true rfl) rfl dX7_readsAll_25 (fun σ9 H locs f85 fr10 hH => ?_)
  have f93 : σ9 93 = aI E 60 tx := (fr10 93 (by omega)).trans f93
  have f95 : σ9 95 = aI E 120 nu := (fr10 95 (by omega)).trans f95
  refine lv_aload_n hx hb dX7_readsAll_28 rfl (lv_at hl 0 rfl) ?_
  refine x_cVV (As := []) (rest := []) hx hb hml hts hown hK hST hOK hH 85 (c_X7_readsCommand l E ST hSF Z hSQ σ9 sv re ea fa 0 li th ty 0 (-1) 0 tx nu f85 f93 f95 (by omega) (by omega) (by assumption) (by omega) (by omega) (by omega)) (cwV 0 hts gX7_readsAll_X7_readsCommand rfl rfl rfl (by decide +kernel) ⟨Nat.le_of_ble_eq_true rfl, Nat.le_of_ble_eq_true rfl⟩) (by decide) f85 rfl rfl hl.1 rfl (Nat.le_of_ble_eq_true rfl) dX7_readsAll_29 ⟨Nat.le_of_ble_eq_true rfl, Nat.le_of_ble_eq_true rfl⟩ (fun σ12 H locs hp13 hH => ?_)
  obtain ⟨⟨spA, wrA, nuA, f85, f95, hrc, hbd, hkp, hnr⟩, fr14⟩ := hp13
  have f93 : σ12 93 = aI E 60 tx := (fr14 93 (by omega) (by omega)).trans f93
  have K32 : ∀ (nK : Nat) (sp2 wr2 to2 : Int) (nu2 : Int → Int) (σ16 : xW) (H : Heap) (locs : List Loc) (ls : Array Slot), (25 - 2 * to2 - wr2 / 100).toNat < nK → ((0 ≤ sp2 ∧ sp2 ≤ ty) ∧ (-1 ≤ wr2 ∧ wr2 ≤ ty) ∧ 1 ≤ to2) → (raI tx ty sp2 wr2 to2 nu2) → (nuR nu2) → σ16 85 = oB 5 [.ref (xad E 86), .ref (xad E 87), .ref (xad E 88), .ref (xad E 89), .ref (xad E 90), .int (iZ (b2 sv)), .int (iZ re), .int (iZ ea), .int (iZ fa), .ref (xad E 91), .ref (xad E 92), .ref (xad E 93), .int (iZ 0), .ref (xad E 94), .int (iZ li), .int (iZ th), .int (iZ ty), .int (iZ sp2), .int (iZ wr2), .int (iZ to2), .ref (xad E 95)] → σ16 93 = aI E 60 tx → σ16 95 = aI E 120 nu2 → (∀ j : Nat, j ≠ 85 → j ≠ 95 → σ16 j = σ12 j) → Hx E (xA E s.heap.size) s.heap σ16 H locs → lv_has ls 2 [(0, .ref (xad E 85))] → W p l e rm_X7_readsAll s m args below meth c H locs 0 0 Q (F0 m 32 ls []) := by
    intro n32
    induction n32 with
    | zero =>
      intro sp2 wr2 to2 nu2 σ16 H locs ls hm
      exact absurd hm (by first | exact Nat.not_lt_zero _ | omega)
    | succ n32 ih32 =>
      intro sp2 wr2 to2 nu2 σ16 H locs ls hm32 hi hI hnr2 f85 f93 f95 fr17 hH hl
      have hto9 := ra_to hty hi.2.2 hI
      refine lv_aload_n hx hb dX7_readsAll_32 rfl (lv_at hl 0 rfl) ?_
      refine x_get hx hb hts hown hK hH 85 (by decide) f85 hinX7 rfl 18 (by decide) (List.mem_of_getElem? (i := 4) rfl) rfl dX7_readsAll_33 ?_
      refine x_iconst hx hb dX7_readsAll_36 ?_
      refine x_icmp_ne (tgt := 75) hx hb dX7_readsAll_37 (by decide) (by omega) (by decide) (fun c37 => ?_) (fun c37 => ?_)
      · subst hQ
        exact x_vret hx hb hr hlocks hH (Nat.le_of_ble_eq_true rfl) (Nat.le_of_ble_eq_true rfl) ⟨⟨sp2, wr2, to2, nu2, f85, f95, (by exact (ra_fe hI hi.2.2 (show ¬ wr2 = -1 ∨ ty ≤ sp2 from by first | exact Or.inl c37 | exact Or.inr (by omega))).1), (by exact (ra_fe hI hi.2.2 (show ¬ wr2 = -1 ∨ ty ≤ sp2 from by first | exact Or.inl c37 | exact Or.inr (by omega))).2), (by omega), (by exact hnr2), (by omega)⟩, fun j hj0 hj1 => ((fr17 j (by omega) (by omega)).trans ((fr14 j (by omega) (by omega)).trans ((fr10 j (by omega)).trans ((fr8 j (by omega)).trans ((fr6 j (by omega)).trans ((fr4 j (by omega)).trans (fr2 j (by omega))))))))⟩ dX7_readsAll_75
      · refine lv_aload_n hx hb dX7_readsAll_40 rfl (lv_at hl 0 rfl) ?_
        refine x_get hx hb hts hown hK hH 85 (by decide) f85 hinX7 rfl 17 (by decide) (List.mem_of_getElem? (i := 3) rfl) rfl dX7_readsAll_41 ?_
        refine lv_aload_n hx hb dX7_readsAll_44 rfl (lv_at hl 0 rfl) ?_
        refine x_get hx hb hts hown hK hH 85 (by decide) f85 hinX7 rfl 16 (by decide) (List.mem_of_getElem? (i := 2) rfl) rfl dX7_readsAll_45 ?_
        refine x_icmp_ge (tgt := 75) hx hb dX7_readsAll_48 (by decide) (by omega) (by omega) (fun c48 => ?_) (fun c48 => ?_)
        · subst hQ
          exact x_vret hx hb hr hlocks hH (Nat.le_of_ble_eq_true rfl) (Nat.le_of_ble_eq_true rfl) ⟨⟨sp2, wr2, to2, nu2, f85, f95, (by exact (ra_fe hI hi.2.2 (show ¬ wr2 = -1 ∨ ty ≤ sp2 from by first | exact Or.inl c37 | exact Or.inr (by omega))).1), (by exact (ra_fe hI hi.2.2 (show ¬ wr2 = -1 ∨ ty ≤ sp2 from by first | exact Or.inl c37 | exact Or.inr (by omega))).2), (by omega), (by exact hnr2), (by omega)⟩, fun j hj0 hj1 => ((fr17 j (by omega) (by omega)).trans ((fr14 j (by omega) (by omega)).trans ((fr10 j (by omega)).trans ((fr8 j (by omega)).trans ((fr6 j (by omega)).trans ((fr4 j (by omega)).trans (fr2 j (by omega))))))))⟩ dX7_readsAll_75
        · refine lv_aload_n hx hb dX7_readsAll_51 rfl (lv_at hl 0 rfl) ?_
          refine x_bipush hx hb dX7_readsAll_52 (by decide) ?_
          refine x_bipush hx hb dX7_readsAll_54 (by decide) ?_
          refine x_cVIE (As := [.int (iZ 59), .int (iZ 59)]) (rest := []) hx hb hml hts hown hK hST hOK hH 85 (c_X7_reads l E ST hSF σ16 59 59 sv re ea fa 0 li th ty sp2 wr2 to2 tx f85 f93 (by omega) (by omega) (by assumption) (by omega) (by omega)) (cwV 2 hts gX7_readsAll_X7_reads rfl rfl rfl (by decide +kernel) ⟨Nat.le_of_ble_eq_true rfl, Nat.le_of_ble_eq_true rfl⟩) (by decide) f85 rfl rfl hl.1 rfl (Nat.le_of_ble_eq_true rfl) dX7_readsAll_56 ⟨Nat.le_of_ble_eq_true rfl, Nat.le_of_ble_eq_true rfl⟩ (fun z u h => h) (fun σ19 H locs hp20 hH => ?_)
          obtain ⟨f85, fr21⟩ := hp20
          have f93 : σ19 93 = aI E 60 tx := (fr21 93 (by omega)).trans f93
          have f95 : σ19 95 = aI E 120 nu2 := (fr21 95 (by omega)).trans f95
          have hsA := rSp_b (t := tx) (n := ty) (a := 59) (b := 59) (sp := sp2) (wr := wr2) (by omega); have hwA := rWr_b (t := tx) (n := ty) (a := 59) (b := 59) (sp := sp2) (wr := wr2) (by omega) (by omega)
          refine lv_istore_n (lv' := [(1, .int (iZ (rVl tx ty 59 59 sp2 wr2))), (0, .ref (xad E 85))]) hx hb dX7_readsAll_59 rfl hl (by decide) rfl (fun ls hl => ?_)
          refine lv_aload_n hx hb dX7_readsAll_60 rfl (lv_at hl 1 rfl) ?_
          refine x_get hx hb hts hown hK hH 85 (by decide) f85 hinX7 rfl 18 (by decide) (List.mem_of_getElem? (i := 4) rfl) rfl dX7_readsAll_61 ?_
          refine x_iconst hx hb dX7_readsAll_64 ?_
          refine x_icmp_ne (tgt := 72) hx hb dX7_readsAll_65 (by decide) (by omega) (by decide) (fun c65 => ?_) (fun c65 => ?_)
          · have hok : ¬ rOk tx ty 59 59 sp2 := fun q => c65 (rd_y (t := tx) (n := ty) (a := 59) (b := 59) (sp := sp2) (wr := wr2) (by omega) q).2.1
            have hrn := rd_n (t := tx) (n := ty) (a := 59) (b := 59) (sp := sp2) (wr := wr2) (by omega) hok
            refine lv_goto (tgt := 32) hx hb dX7_readsAll_72 (by decide) ?_
            exact ih32 (rSp tx ty 59 59 sp2 wr2) (rWr tx ty 59 59 sp2 wr2) to2 nu2 σ19 _ _ _ (by omega) (by omega) (by first | (rw [hrn.2.1]; exact ra_no (by omega) hI (by omega) ⟨by omega, by omega⟩ hok) | exact ra_rc (by omega) (by omega) hat.1 hat.2.1 hat.2.2 hrc hkp) (by first | exact hnr2 | exact hnr) f85 f93 f95 (fun j hj0 hj1 => ((fr21 j (by omega)).trans (fr17 j (by omega) (by omega)))) hH (lv_sub hl [1] rfl)
          · have hok : rOk tx ty 59 59 sp2 := by refine Classical.byContradiction fun q => ?_; have q2 := (rd_n (t := tx) (n := ty) (a := 59) (b := 59) (sp := sp2) (wr := wr2) (by omega) q).2.1; omega
            have hry := rd_y (t := tx) (n := ty) (a := 59) (b := 59) (sp := sp2) (wr := wr2) (by omega) hok
            have hat := ra_at hI hi.2.2 (by omega) hok
            rw [← hry.1] at hat
            refine lv_aload_n hx hb dX7_readsAll_68 rfl (lv_at hl 1 rfl) ?_
            refine x_cVV (As := []) (rest := []) hx hb hml hts hown hK hST hOK hH 85 (c_X7_readsCommand l E ST hSF Z hSQ σ19 sv re ea fa 0 li th ty (rSp tx ty 59 59 sp2 wr2) (rWr tx ty 59 59 sp2 wr2) to2 tx nu2 f85 f93 f95 (by omega) (by omega) (by assumption) (by omega) (by omega) (by omega)) (cwV 0 hts gX7_readsAll_X7_readsCommand rfl rfl rfl (by decide +kernel) ⟨Nat.le_of_ble_eq_true rfl, Nat.le_of_ble_eq_true rfl⟩) (by decide) f85 rfl rfl hl.1 rfl (Nat.le_of_ble_eq_true rfl) dX7_readsAll_69 ⟨Nat.le_of_ble_eq_true rfl, Nat.le_of_ble_eq_true rfl⟩ (fun σ24 H locs hp25 hH => ?_)
            obtain ⟨⟨spA, wrA, nuA, f85, f95, hrc, hbd, hkp, hnr⟩, fr26⟩ := hp25
            have f93 : σ24 93 = aI E 60 tx := (fr26 93 (by omega) (by omega)).trans f93
            refine lv_goto (tgt := 32) hx hb dX7_readsAll_72 (by decide) ?_
            exact ih32 spA wrA (to2 + 1) nuA σ24 _ _ _ (by omega) (by omega) (by first | (rw [hrn.2.1]; exact ra_no (by omega) hI (by omega) ⟨by omega, by omega⟩ hok) | exact ra_rc (by omega) (by omega) hat.1 hat.2.1 hat.2.2 hrc hkp) (by first | exact hnr2 | exact hnr) f85 f93 f95 (fun j hj0 hj1 => ((fr26 j (by omega) (by omega)).trans ((fr21 j (by omega)).trans (fr17 j (by omega) (by omega))))) hH (lv_sub hl [1] rfl)
  exact K32 60 spA wrA (0 + 1) nuA σ12 _ _ _ (by first | omega | decide) (by omega) (by exact ra_rc (nu := nu) (by omega) (by decide) preP_0 (fun i i0 i1 => by omega) rfl hrc (fun j hj => hkp j (by omega))) (by exact hnr) f85 f93 f95 (fun j _ _ => rfl) hH (lv_sub hl [0] rfl)

def rm_X7_does : Room := { frames := 9, cells := 0, slots := 0, locals := 207 }
set_option maxRecDepth 100000 in
set_option maxHeartbeats 4000000 in
theorem c_X7_does (l : Launch) (E : xE) (ST : xST) (hSF : SF ST) (σ : xW) (b9 : Int) (op : Int → Int) (lk : Int → Int) (kp : Int → Int) (wc : Int → Int) (pn : Int) (nw : Int) (sh : Int) (wk : Int) (sv : Bool) (re : Int) (ea : Int) (fa : Int) (ty : Int) (li : Int) (th : Int) (sz : Int) (sp : Int) (wr : Int) (to : Int) (v : Int → Int) (F : Int → Int) (mv : Int → Int) (nu : Int → Int) (hr0 : mo E σ sv re ea fa ty li th sz sp wr to) (hr1 : now E σ v) (hr2 : far E σ F) (hr3 : mov E σ mv) (hr4 : num E σ nu) (hC : Cp v op lk kp wc pn nw sh wk) (hB : BI op lk kp wc pn nw) (hb9 : 0 ≤ b9 ∧ b9 ≤ 100) (hnu : nuR nu) (hkd : 0 ≤ nu b9 ∧ nu b9 < 11) (hsh : 0 ≤ sh ∧ sh ≤ 1000000000) (hwk : 0 ≤ wk ∧ wk ≤ 1000000000) (hFr : ∀ j : Int, rg (F j)) : CI l E ST yX7_does wsX7_does rm_X7_does [.ref (xad E 85), .int (iZ b9)] σ (fun (z : Int) (u : xW) => (rg z) ∧ (∃ (v1 F1 m1 : Int → Int) (th1 : Int), mo E u sv re ea fa ty li th1 sz sp wr to ∧ now E u v1 ∧ far E u F1 ∧ mov E u m1 ∧ (CpT v1 (dxT (op, lk, kp, wc, pn, nw, sh, wk) (nu b9) (nu (b9 + 1)) (nu (b9 + 2)) (nu (b9 + 3))).2) ∧ (0 ≤ th1 ∧ th1 ≤ 3 ∧ (th1 = 0 ↔ 0 ≤ (dxT (op, lk, kp, wc, pn, nw, sh, wk) (nu b9) (nu (b9 + 1)) (nu (b9 + 2)) (nu (b9 + 3))).1)) ∧ (∀ j : Int, rg (F1 j))) ∧ ∀ j : Nat, (j < 85 ∨ 85 + 2 ≤ j) → (j < 91 ∨ 91 + 2 ≤ j) → u j = σ j) := by
  have f85 : σ 85 = oB 5 [.ref (xad E 86), .ref (xad E 87), .ref (xad E 88), .ref (xad E 89), .ref (xad E 90), .int (iZ (b2 sv)), .int (iZ re), .int (iZ ea), .int (iZ fa), .ref (xad E 91), .ref (xad E 92), .ref (xad E 93), .int (iZ ty), .ref (xad E 94), .int (iZ li), .int (iZ th), .int (iZ sz), .int (iZ sp), .int (iZ wr), .int (iZ to), .ref (xad E 95)] := hr0
  have f86 : σ 86 = aI E 87 v := hr1
  have f92 : σ 92 = aI E 25 F := hr2
  have f91 : σ 91 = aI E 15 mv := hr3
  have f95 : σ 95 = aI E 120 nu := hr4
  refine CI_of (by decide) rfl (Nat.le_of_ble_eq_true rfl) ?_
  intro p e s m args below meth c Q ls G hH hl hQ
  obtain ⟨hx, hb, hml, hown, hts, hK, hST, hlocks, hr, hno⟩ := G
  have hOK := hSF.1
  have hown : s.vm.findClass RX7 = some m.cls := hown
  have hl : lv_has ls 5 [(0, .ref (xad E 85)), (1, .int (iZ b9))] := hl
  have hinX7 : ∀ w ∈ u_ws RX7 TX7 21, w ∈ wsX7_does := fun w h => (List.mem_cons_of_mem _ (List.mem_append_right _ h))
  obtain ⟨hop, hlk, hkp, hwc, hpn, hnw⟩ := id hB
  have hvR := hC.R
  have hv0 := hC.1.1
  have hnu9 : ∀ j : Int, rg (nu j) := fun j => ⟨by have := hnu j; omega, by have := hnu j; omega⟩
  refine lv_aload_n hx hb dX7_does_0 rfl (lv_at hl 0 rfl) ?_
  refine x_get hx hb hts hown hK hH 85 (by decide) f85 hinX7 rfl 20 (by decide) (List.mem_of_getElem? (i := 1) rfl) rfl dX7_does_1 ?_
  refine lv_iload_n hx hb dX7_does_4 rfl (lv_at hl 1 rfl) ?_
  refine x_iconst hx hb dX7_does_5 ?_
  refine x_iadd hx hb dX7_does_6 ?_
  refine x_iald hx hb hK hH 95 (by decide) f95 (by omega) (by omega) (by omega) dX7_does_7 ?_
  have hv1 := hnu9 (b9 + 1)
  refine lv_istore_n (lv' := [(2, .int (iZ (nu (b9 + 1)))), (0, .ref (xad E 85)), (1, .int (iZ b9))]) hx hb dX7_does_8 rfl hl (by decide) rfl (fun ls hl => ?_)
  refine lv_aload_n hx hb dX7_does_9 rfl (lv_at hl 1 rfl) ?_
  refine x_get hx hb hts hown hK hH 85 (by decide) f85 hinX7 rfl 20 (by decide) (List.mem_of_getElem? (i := 1) rfl) rfl dX7_does_10 ?_
  refine lv_iload_n hx hb dX7_does_13 rfl (lv_at hl 2 rfl) ?_
  refine x_iconst hx hb dX7_does_14 ?_
  refine x_iadd hx hb dX7_does_15 ?_
  refine x_iald hx hb hK hH 95 (by decide) f95 (by omega) (by omega) (by omega) dX7_does_16 ?_
  have hv2 := hnu9 (b9 + 2)
  refine lv_istore_n (lv' := [(3, .int (iZ (nu (b9 + 2)))), (2, .int (iZ (nu (b9 + 1)))), (0, .ref (xad E 85)), (1, .int (iZ b9))]) hx hb dX7_does_17 rfl hl (by decide) rfl (fun ls hl => ?_)
  refine lv_aload_n hx hb dX7_does_18 rfl (lv_at hl 2 rfl) ?_
  refine x_get hx hb hts hown hK hH 85 (by decide) f85 hinX7 rfl 20 (by decide) (List.mem_of_getElem? (i := 1) rfl) rfl dX7_does_19 ?_
  refine lv_iload_n hx hb dX7_does_22 rfl (lv_at hl 3 rfl) ?_
  refine x_iconst hx hb dX7_does_23 ?_
  refine x_iadd hx hb dX7_does_24 ?_
  refine x_iald hx hb hK hH 95 (by decide) f95 (by omega) (by omega) (by omega) dX7_does_25 ?_
  have hv3 := hnu9 (b9 + 3)
  refine lv_istore (lv' := [(4, .int (iZ (nu (b9 + 3)))), (3, .int (iZ (nu (b9 + 2)))), (2, .int (iZ (nu (b9 + 1)))), (0, .ref (xad E 85)), (1, .int (iZ b9))]) hx hb dX7_does_26 hl (by decide) rfl (fun ls hl => ?_)
  refine lv_aload_n hx hb dX7_does_28 rfl (lv_at hl 3 rfl) ?_
  refine x_get hx hb hts hown hK hH 85 (by decide) f85 hinX7 rfl 20 (by decide) (List.mem_of_getElem? (i := 1) rfl) rfl dX7_does_29 ?_
  refine lv_iload_n hx hb dX7_does_32 rfl (lv_at hl 4 rfl) ?_
  refine x_iald hx hb hK hH 95 (by decide) f95 (by omega) (by omega) (by omega) dX7_does_33 ?_
  have hv4 := hnu9 b9
  rcases (show ((nu b9) = 0) ∨ ((nu b9) = 1) ∨ ((nu b9) = 2) ∨ ((nu b9) = 3) ∨ ((nu b9) = 4) ∨ ((nu b9) = 5) ∨ ((nu b9) = 6) ∨ ((nu b9) = 7) ∨ ((nu b9) = 8) ∨ ((nu b9) = 9) ∨ ((nu b9) < 0 ∨ 9 < (nu b9)) by omega) with c34 | c34 | c34 | c34 | c34 | c34 | c34 | c34 | c34 | c34 | c34
  · refine x_tableIn (tgt := 88) hx hb 0 c34 (by omega) dX7_does_34 (by decide) (by decide) rfl (by decide) ?_
    refine lv_aload_n hx hb dX7_does_88 rfl (lv_at hl 3 rfl) ?_
    refine lv_iload_n hx hb dX7_does_89 rfl (lv_at hl 2 rfl) ?_
    refine lv_iload_n hx hb dX7_does_90 rfl (lv_at hl 1 rfl) ?_
    refine lv_iload hx hb dX7_does_91 (lv_at hl 0 rfl) ?_
    refine x_cVI (As := [.int (iZ (nu (b9 + 1))), .int (iZ (nu (b9 + 2))), .int (iZ (nu (b9 + 3)))]) (rest := []) hx hb hml hts hown hK hST hOK hH 85 (c_X7_sets l E ST hSF σ (nu (b9 + 1)) (nu (b9 + 2)) (nu (b9 + 3)) op lk kp wc pn nw sh wk sv re ea fa ty li th sz sp wr to v f85 f86 (by assumption) (by omega) (by omega) (by omega) (by omega)) (cwV 3 hts gX7_does_X7_sets rfl rfl rfl (by decide +kernel) ⟨Nat.le_of_ble_eq_true rfl, Nat.le_of_ble_eq_true rfl⟩) (by decide) f85 rfl rfl hl.1 rfl (Nat.le_of_ble_eq_true rfl) dX7_does_93 ⟨Nat.le_of_ble_eq_true rfl, Nat.le_of_ble_eq_true rfl⟩ (fun z5 σ6 H locs hp7 hH => ?_)
    obtain ⟨hz11, ⟨v1_9, f85, f86, hf10⟩, fr8⟩ := hp7
    have f92 : σ6 92 = aI E 25 F := (fr8 92 (by omega)).trans f92
    have f91 : σ6 91 = aI E 15 mv := (fr8 91 (by omega)).trans f91
    have f95 : σ6 95 = aI E 120 nu := (fr8 95 (by omega)).trans f95
    subst hQ
    exact x_iret hx hb hr hlocks hH (Nat.le_of_ble_eq_true rfl) (Nat.le_of_ble_eq_true rfl) ⟨(by omega), ⟨v1_9, F, mv, (tA (setF op lk kp wc pn nw sh wk (nu (b9 + 1)) (nu (b9 + 2)) (nu (b9 + 3))).1), f85, f86, f92, f91, (by first | (rw [dx_0 (show nu b9 = 0 by omega)]; assumption) | (rw [dx_1 (show nu b9 = 1 by omega)]; assumption) | (rw [dx_2 (show nu b9 = 2 by omega)]; assumption) | (rw [dx_3 (show nu b9 = 3 by omega)]; assumption) | (rw [dx_4 (show nu b9 = 4 by omega)]; assumption) | (rw [dx_5 (show nu b9 = 5 by omega)]; assumption) | (rw [dx_6 (show nu b9 = 6 by omega)]; assumption) | (rw [dx_7 (show nu b9 = 7 by omega)]; assumption) | (rw [dx_8 (show nu b9 = 8 by omega)]; assumption) | (rw [dx_9 (show nu b9 = 9 by omega)]; assumption) | (rw [dx_10 (show nu b9 = 10 by omega)]; assumption)), (by first | (rw [dx_0 (show nu b9 = 0 by omega)]; exact ⟨(tX_b _).1.1, (tX_b _).1.2, tz_set hB⟩) | (rw [dx_1 (show nu b9 = 1 by omega)]; exact ⟨(tX_b _).1.1, (tX_b _).1.2, tz_turn hB⟩) | (rw [dx_2 (show nu b9 = 2 by omega)]; exact ⟨(tX_b _).2.1.1, (tX_b _).2.1.2, tz_pin hB⟩) | (rw [dx_3 (show nu b9 = 3 by omega)]; exact ⟨(tX_b _).2.1.1, (tX_b _).2.1.2, tz_pin hB⟩) | (rw [dx_4 (show nu b9 = 4 by omega)]; exact ⟨(tX_b _).1.1, (tX_b _).1.2, tz_ln hB⟩) | (rw [dx_5 (show nu b9 = 5 by omega)]; exact ⟨(tX_b _).1.1, (tX_b _).1.2, tz_ln hB⟩) | (rw [dx_6 (show nu b9 = 6 by omega)]; exact ⟨(tX_b _).2.2.1.1, (tX_b _).2.2.1.2, tz_lay⟩) | (rw [dx_7 (show nu b9 = 7 by omega)]; exact ⟨(tX_b _).1.1, (tX_b _).1.2, tz_hang⟩) | (rw [dx_8 (show nu b9 = 8 by omega)]; exact ⟨(tX_b _).2.2.2.1.1, (tX_b _).2.2.2.1.2, tz_take hB⟩) | (rw [dx_9 (show nu b9 = 9 by omega)]; exact ⟨(tX_b _).2.2.2.2.1, (tX_b _).2.2.2.2.2, tz_enter hB⟩) | (rw [dx_10 (show nu b9 = 10 by omega)]; exact ⟨(tX_b _).1.1, (tX_b _).1.2, tz_walk hB⟩)), (by first | exact hFr | assumption)⟩, fun j hj0 hj1 => (fr8 j (by omega))⟩ dX7_does_96
  · refine x_tableIn (tgt := 97) hx hb 1 c34 (by omega) dX7_does_34 (by decide) (by decide) rfl (by decide) ?_
    refine lv_aload_n hx hb dX7_does_97 rfl (lv_at hl 3 rfl) ?_
    refine lv_iload_n hx hb dX7_does_98 rfl (lv_at hl 2 rfl) ?_
    refine lv_iload_n hx hb dX7_does_99 rfl (lv_at hl 1 rfl) ?_
    refine lv_iload hx hb dX7_does_100 (lv_at hl 0 rfl) ?_
    refine x_cVI (As := [.int (iZ (nu (b9 + 1))), .int (iZ (nu (b9 + 2))), .int (iZ (nu (b9 + 3)))]) (rest := []) hx hb hml hts hown hK hST hOK hH 85 (c_X7_turns l E ST hSF σ (nu (b9 + 1)) (nu (b9 + 2)) (nu (b9 + 3)) op lk kp wc pn nw sh wk sv re ea fa ty li th sz sp wr to v f85 f86 (by assumption) (by omega) (by omega) (by omega) (by omega)) (cwV 3 hts gX7_does_X7_turns rfl rfl rfl (by decide +kernel) ⟨Nat.le_of_ble_eq_true rfl, Nat.le_of_ble_eq_true rfl⟩) (by decide) f85 rfl rfl hl.1 rfl (Nat.le_of_ble_eq_true rfl) dX7_does_102 ⟨Nat.le_of_ble_eq_true rfl, Nat.le_of_ble_eq_true rfl⟩ (fun z12 σ13 H locs hp14 hH => ?_)
    obtain ⟨hz18, ⟨v1_16, f85, f86, hf17⟩, fr15⟩ := hp14
    have f92 : σ13 92 = aI E 25 F := (fr15 92 (by omega)).trans f92
    have f91 : σ13 91 = aI E 15 mv := (fr15 91 (by omega)).trans f91
    have f95 : σ13 95 = aI E 120 nu := (fr15 95 (by omega)).trans f95
    subst hQ
    exact x_iret hx hb hr hlocks hH (Nat.le_of_ble_eq_true rfl) (Nat.le_of_ble_eq_true rfl) ⟨(by omega), ⟨v1_16, F, mv, (tA (turnF op lk kp wc pn nw sh wk (nu (b9 + 1)) (nu (b9 + 2)) (nu (b9 + 3))).1), f85, f86, f92, f91, (by first | (rw [dx_0 (show nu b9 = 0 by omega)]; assumption) | (rw [dx_1 (show nu b9 = 1 by omega)]; assumption) | (rw [dx_2 (show nu b9 = 2 by omega)]; assumption) | (rw [dx_3 (show nu b9 = 3 by omega)]; assumption) | (rw [dx_4 (show nu b9 = 4 by omega)]; assumption) | (rw [dx_5 (show nu b9 = 5 by omega)]; assumption) | (rw [dx_6 (show nu b9 = 6 by omega)]; assumption) | (rw [dx_7 (show nu b9 = 7 by omega)]; assumption) | (rw [dx_8 (show nu b9 = 8 by omega)]; assumption) | (rw [dx_9 (show nu b9 = 9 by omega)]; assumption) | (rw [dx_10 (show nu b9 = 10 by omega)]; assumption)), (by first | (rw [dx_0 (show nu b9 = 0 by omega)]; exact ⟨(tX_b _).1.1, (tX_b _).1.2, tz_set hB⟩) | (rw [dx_1 (show nu b9 = 1 by omega)]; exact ⟨(tX_b _).1.1, (tX_b _).1.2, tz_turn hB⟩) | (rw [dx_2 (show nu b9 = 2 by omega)]; exact ⟨(tX_b _).2.1.1, (tX_b _).2.1.2, tz_pin hB⟩) | (rw [dx_3 (show nu b9 = 3 by omega)]; exact ⟨(tX_b _).2.1.1, (tX_b _).2.1.2, tz_pin hB⟩) | (rw [dx_4 (show nu b9 = 4 by omega)]; exact ⟨(tX_b _).1.1, (tX_b _).1.2, tz_ln hB⟩) | (rw [dx_5 (show nu b9 = 5 by omega)]; exact ⟨(tX_b _).1.1, (tX_b _).1.2, tz_ln hB⟩) | (rw [dx_6 (show nu b9 = 6 by omega)]; exact ⟨(tX_b _).2.2.1.1, (tX_b _).2.2.1.2, tz_lay⟩) | (rw [dx_7 (show nu b9 = 7 by omega)]; exact ⟨(tX_b _).1.1, (tX_b _).1.2, tz_hang⟩) | (rw [dx_8 (show nu b9 = 8 by omega)]; exact ⟨(tX_b _).2.2.2.1.1, (tX_b _).2.2.2.1.2, tz_take hB⟩) | (rw [dx_9 (show nu b9 = 9 by omega)]; exact ⟨(tX_b _).2.2.2.2.1, (tX_b _).2.2.2.2.2, tz_enter hB⟩) | (rw [dx_10 (show nu b9 = 10 by omega)]; exact ⟨(tX_b _).1.1, (tX_b _).1.2, tz_walk hB⟩)), (by first | exact hFr | assumption)⟩, fun j hj0 hj1 => (fr15 j (by omega))⟩ dX7_does_105
  · refine x_tableIn (tgt := 106) hx hb 2 c34 (by omega) dX7_does_34 (by decide) (by decide) rfl (by decide) ?_
    refine lv_aload_n hx hb dX7_does_106 rfl (lv_at hl 3 rfl) ?_
    refine lv_iload_n hx hb dX7_does_107 rfl (lv_at hl 2 rfl) ?_
    refine lv_iload_n hx hb dX7_does_108 rfl (lv_at hl 1 rfl) ?_
    refine x_iconst hx hb dX7_does_109 ?_
    refine lv_aload_n hx hb dX7_does_110 rfl (lv_at hl 3 rfl) ?_
    refine x_get hx hb hts hown hK hH 85 (by decide) f85 hinX7 rfl 20 (by decide) (List.mem_of_getElem? (i := 1) rfl) rfl dX7_does_111 ?_
    refine lv_iload_n hx hb dX7_does_114 rfl (lv_at hl 4 rfl) ?_
    refine x_iald hx hb hK hH 95 (by decide) f95 (by omega) (by omega) (by omega) dX7_does_115 ?_
    have hv19 := hnu9 b9
    refine x_isub hx hb dX7_does_116 ?_
    refine x_cVI (As := [.int (iZ (nu (b9 + 1))), .int (iZ (nu (b9 + 2))), .int (iZ (3 - (nu b9)))]) (rest := []) hx hb hml hts hown hK hST hOK hH 85 (c_X7_pins l E ST hSF σ (nu (b9 + 1)) (nu (b9 + 2)) (3 - (nu b9)) op lk kp wc pn nw sh wk sv re ea fa ty li th sz sp wr to v f85 f86 (by assumption) (by omega) (by omega) (by omega) (by omega)) (cwV 3 hts gX7_does_X7_pins rfl rfl rfl (by decide +kernel) ⟨Nat.le_of_ble_eq_true rfl, Nat.le_of_ble_eq_true rfl⟩) (by decide) f85 rfl rfl hl.1 rfl (Nat.le_of_ble_eq_true rfl) dX7_does_117 ⟨Nat.le_of_ble_eq_true rfl, Nat.le_of_ble_eq_true rfl⟩ (fun z20 σ21 H locs hp22 hH => ?_)
    obtain ⟨hz26, ⟨v1_24, f85, f86, hf25⟩, fr23⟩ := hp22
    have f92 : σ21 92 = aI E 25 F := (fr23 92 (by omega)).trans f92
    have f91 : σ21 91 = aI E 15 mv := (fr23 91 (by omega)).trans f91
    have f95 : σ21 95 = aI E 120 nu := (fr23 95 (by omega)).trans f95
    subst hQ
    exact x_iret hx hb hr hlocks hH (Nat.le_of_ble_eq_true rfl) (Nat.le_of_ble_eq_true rfl) ⟨(by omega), ⟨v1_24, F, mv, (tP (pinF op lk kp wc pn nw sh wk (3 - (nu b9)) (nu (b9 + 1)) (nu (b9 + 2))).1), f85, f86, f92, f91, (by first | (rw [dx_0 (show nu b9 = 0 by omega)]; assumption) | (rw [dx_1 (show nu b9 = 1 by omega)]; assumption) | (rw [dx_2 (show nu b9 = 2 by omega)]; assumption) | (rw [dx_3 (show nu b9 = 3 by omega)]; assumption) | (rw [dx_4 (show nu b9 = 4 by omega)]; assumption) | (rw [dx_5 (show nu b9 = 5 by omega)]; assumption) | (rw [dx_6 (show nu b9 = 6 by omega)]; assumption) | (rw [dx_7 (show nu b9 = 7 by omega)]; assumption) | (rw [dx_8 (show nu b9 = 8 by omega)]; assumption) | (rw [dx_9 (show nu b9 = 9 by omega)]; assumption) | (rw [dx_10 (show nu b9 = 10 by omega)]; assumption)), (by first | (rw [dx_0 (show nu b9 = 0 by omega)]; exact ⟨(tX_b _).1.1, (tX_b _).1.2, tz_set hB⟩) | (rw [dx_1 (show nu b9 = 1 by omega)]; exact ⟨(tX_b _).1.1, (tX_b _).1.2, tz_turn hB⟩) | (rw [dx_2 (show nu b9 = 2 by omega)]; exact ⟨(tX_b _).2.1.1, (tX_b _).2.1.2, tz_pin hB⟩) | (rw [dx_3 (show nu b9 = 3 by omega)]; exact ⟨(tX_b _).2.1.1, (tX_b _).2.1.2, tz_pin hB⟩) | (rw [dx_4 (show nu b9 = 4 by omega)]; exact ⟨(tX_b _).1.1, (tX_b _).1.2, tz_ln hB⟩) | (rw [dx_5 (show nu b9 = 5 by omega)]; exact ⟨(tX_b _).1.1, (tX_b _).1.2, tz_ln hB⟩) | (rw [dx_6 (show nu b9 = 6 by omega)]; exact ⟨(tX_b _).2.2.1.1, (tX_b _).2.2.1.2, tz_lay⟩) | (rw [dx_7 (show nu b9 = 7 by omega)]; exact ⟨(tX_b _).1.1, (tX_b _).1.2, tz_hang⟩) | (rw [dx_8 (show nu b9 = 8 by omega)]; exact ⟨(tX_b _).2.2.2.1.1, (tX_b _).2.2.2.1.2, tz_take hB⟩) | (rw [dx_9 (show nu b9 = 9 by omega)]; exact ⟨(tX_b _).2.2.2.2.1, (tX_b _).2.2.2.2.2, tz_enter hB⟩) | (rw [dx_10 (show nu b9 = 10 by omega)]; exact ⟨(tX_b _).1.1, (tX_b _).1.2, tz_walk hB⟩)), (by first | exact hFr | assumption)⟩, fun j hj0 hj1 => (fr23 j (by omega))⟩ dX7_does_120
  · refine x_tableIn (tgt := 106) hx hb 3 c34 (by omega) dX7_does_34 (by decide) (by decide) rfl (by decide) ?_
    refine lv_aload_n hx hb dX7_does_106 rfl (lv_at hl 3 rfl) ?_
    refine lv_iload_n hx hb dX7_does_107 rfl (lv_at hl 2 rfl) ?_
    refine lv_iload_n hx hb dX7_does_108 rfl (lv_at hl 1 rfl) ?_
    refine x_iconst hx hb dX7_does_109 ?_
    refine lv_aload_n hx hb dX7_does_110 rfl (lv_at hl 3 rfl) ?_
    refine x_get hx hb hts hown hK hH 85 (by decide) f85 hinX7 rfl 20 (by decide) (List.mem_of_getElem? (i := 1) rfl) rfl dX7_does_111 ?_
    refine lv_iload_n hx hb dX7_does_114 rfl (lv_at hl 4 rfl) ?_
    refine x_iald hx hb hK hH 95 (by decide) f95 (by omega) (by omega) (by omega) dX7_does_115 ?_
    have hv27 := hnu9 b9
    refine x_isub hx hb dX7_does_116 ?_
    refine x_cVI (As := [.int (iZ (nu (b9 + 1))), .int (iZ (nu (b9 + 2))), .int (iZ (3 - (nu b9)))]) (rest := []) hx hb hml hts hown hK hST hOK hH 85 (c_X7_pins l E ST hSF σ (nu (b9 + 1)) (nu (b9 + 2)) (3 - (nu b9)) op lk kp wc pn nw sh wk sv re ea fa ty li th sz sp wr to v f85 f86 (by assumption) (by omega) (by omega) (by omega) (by omega)) (cwV 3 hts gX7_does_X7_pins rfl rfl rfl (by decide +kernel) ⟨Nat.le_of_ble_eq_true rfl, Nat.le_of_ble_eq_true rfl⟩) (by decide) f85 rfl rfl hl.1 rfl (Nat.le_of_ble_eq_true rfl) dX7_does_117 ⟨Nat.le_of_ble_eq_true rfl, Nat.le_of_ble_eq_true rfl⟩ (fun z28 σ29 H locs hp30 hH => ?_)
    obtain ⟨hz34, ⟨v1_32, f85, f86, hf33⟩, fr31⟩ := hp30
    have f92 : σ29 92 = aI E 25 F := (fr31 92 (by omega)).trans f92
    have f91 : σ29 91 = aI E 15 mv := (fr31 91 (by omega)).trans f91
    have f95 : σ29 95 = aI E 120 nu := (fr31 95 (by omega)).trans f95
    subst hQ
    exact x_iret hx hb hr hlocks hH (Nat.le_of_ble_eq_true rfl) (Nat.le_of_ble_eq_true rfl) ⟨(by omega), ⟨v1_32, F, mv, (tP (pinF op lk kp wc pn nw sh wk (3 - (nu b9)) (nu (b9 + 1)) (nu (b9 + 2))).1), f85, f86, f92, f91, (by first | (rw [dx_0 (show nu b9 = 0 by omega)]; assumption) | (rw [dx_1 (show nu b9 = 1 by omega)]; assumption) | (rw [dx_2 (show nu b9 = 2 by omega)]; assumption) | (rw [dx_3 (show nu b9 = 3 by omega)]; assumption) | (rw [dx_4 (show nu b9 = 4 by omega)]; assumption) | (rw [dx_5 (show nu b9 = 5 by omega)]; assumption) | (rw [dx_6 (show nu b9 = 6 by omega)]; assumption) | (rw [dx_7 (show nu b9 = 7 by omega)]; assumption) | (rw [dx_8 (show nu b9 = 8 by omega)]; assumption) | (rw [dx_9 (show nu b9 = 9 by omega)]; assumption) | (rw [dx_10 (show nu b9 = 10 by omega)]; assumption)), (by first | (rw [dx_0 (show nu b9 = 0 by omega)]; exact ⟨(tX_b _).1.1, (tX_b _).1.2, tz_set hB⟩) | (rw [dx_1 (show nu b9 = 1 by omega)]; exact ⟨(tX_b _).1.1, (tX_b _).1.2, tz_turn hB⟩) | (rw [dx_2 (show nu b9 = 2 by omega)]; exact ⟨(tX_b _).2.1.1, (tX_b _).2.1.2, tz_pin hB⟩) | (rw [dx_3 (show nu b9 = 3 by omega)]; exact ⟨(tX_b _).2.1.1, (tX_b _).2.1.2, tz_pin hB⟩) | (rw [dx_4 (show nu b9 = 4 by omega)]; exact ⟨(tX_b _).1.1, (tX_b _).1.2, tz_ln hB⟩) | (rw [dx_5 (show nu b9 = 5 by omega)]; exact ⟨(tX_b _).1.1, (tX_b _).1.2, tz_ln hB⟩) | (rw [dx_6 (show nu b9 = 6 by omega)]; exact ⟨(tX_b _).2.2.1.1, (tX_b _).2.2.1.2, tz_lay⟩) | (rw [dx_7 (show nu b9 = 7 by omega)]; exact ⟨(tX_b _).1.1, (tX_b _).1.2, tz_hang⟩) | (rw [dx_8 (show nu b9 = 8 by omega)]; exact ⟨(tX_b _).2.2.2.1.1, (tX_b _).2.2.2.1.2, tz_take hB⟩) | (rw [dx_9 (show nu b9 = 9 by omega)]; exact ⟨(tX_b _).2.2.2.2.1, (tX_b _).2.2.2.2.2, tz_enter hB⟩) | (rw [dx_10 (show nu b9 = 10 by omega)]; exact ⟨(tX_b _).1.1, (tX_b _).1.2, tz_walk hB⟩)), (by first | exact hFr | assumption)⟩, fun j hj0 hj1 => (fr31 j (by omega))⟩ dX7_does_120
  · refine x_tableIn (tgt := 121) hx hb 4 c34 (by omega) dX7_does_34 (by decide) (by decide) rfl (by decide) ?_
    refine lv_aload_n hx hb dX7_does_121 rfl (lv_at hl 3 rfl) ?_
    refine lv_aload_n hx hb dX7_does_122 rfl (lv_at hl 3 rfl) ?_
    refine x_get hx hb hts hown hK hH 85 (by decide) f85 hinX7 rfl 20 (by decide) (List.mem_of_getElem? (i := 1) rfl) rfl dX7_does_123 ?_
    refine lv_iload_n hx hb dX7_does_126 rfl (lv_at hl 4 rfl) ?_
    refine x_iald hx hb hK hH 95 (by decide) f95 (by omega) (by omega) (by omega) dX7_does_127 ?_
    have hv35 := hnu9 b9
    refine x_iconst hx hb dX7_does_128 ?_
    refine x_icmp_ne (tgt := 136) hx hb dX7_does_129 (by decide) (by omega) (by decide) (fun c129 => ?_) (fun c129 => ?_)
    · refine x_iconst hx hb dX7_does_136 ?_
      refine lv_iload_n hx hb dX7_does_137 rfl (lv_at hl 2 rfl) ?_
      refine lv_iload_n hx hb dX7_does_138 rfl (lv_at hl 1 rfl) ?_
      refine x_cVI (As := [.int (iZ 0), .int (iZ (nu (b9 + 1))), .int (iZ (nu (b9 + 2)))]) (rest := []) hx hb hml hts hown hK hST hOK hH 85 (c_X7_shifts l E ST hSF σ false (nu (b9 + 1)) (nu (b9 + 2)) op lk kp wc pn nw sh wk sv re ea fa ty li th sz sp wr to v mv f85 f86 f91 (by assumption) (by omega) (by omega) (by omega) (by omega)) (cwV 3 hts gX7_does_X7_shifts rfl rfl rfl (by decide +kernel) ⟨Nat.le_of_ble_eq_true rfl, Nat.le_of_ble_eq_true rfl⟩) (by decide) f85 rfl rfl hl.1 rfl (Nat.le_of_ble_eq_true rfl) dX7_does_139 ⟨Nat.le_of_ble_eq_true rfl, Nat.le_of_ble_eq_true rfl⟩ (fun z36 σ37 H locs hp38 hH => ?_)
      obtain ⟨hz43, ⟨v1_40, m1_41, f85, f86, f91, hf42⟩, fr39⟩ := hp38
      have f92 : σ37 92 = aI E 25 F := (fr39 92 (by omega) (by omega)).trans f92
      have f95 : σ37 95 = aI E 120 nu := (fr39 95 (by omega) (by omega)).trans f95
      subst hQ
      exact x_iret hx hb hr hlocks hH (Nat.le_of_ble_eq_true rfl) (Nat.le_of_ble_eq_true rfl) ⟨(by omega), ⟨v1_40, F, m1_41, (tA (lnF op lk kp wc pn nw sh wk false (nu (b9 + 1)) (nu (b9 + 2))).1), f85, f86, f92, f91, (by first | (rw [dx_0 (show nu b9 = 0 by omega)]; assumption) | (rw [dx_1 (show nu b9 = 1 by omega)]; assumption) | (rw [dx_2 (show nu b9 = 2 by omega)]; assumption) | (rw [dx_3 (show nu b9 = 3 by omega)]; assumption) | (rw [dx_4 (show nu b9 = 4 by omega)]; assumption) | (rw [dx_5 (show nu b9 = 5 by omega)]; assumption) | (rw [dx_6 (show nu b9 = 6 by omega)]; assumption) | (rw [dx_7 (show nu b9 = 7 by omega)]; assumption) | (rw [dx_8 (show nu b9 = 8 by omega)]; assumption) | (rw [dx_9 (show nu b9 = 9 by omega)]; assumption) | (rw [dx_10 (show nu b9 = 10 by omega)]; assumption)), (by first | (rw [dx_0 (show nu b9 = 0 by omega)]; exact ⟨(tX_b _).1.1, (tX_b _).1.2, tz_set hB⟩) | (rw [dx_1 (show nu b9 = 1 by omega)]; exact ⟨(tX_b _).1.1, (tX_b _).1.2, tz_turn hB⟩) | (rw [dx_2 (show nu b9 = 2 by omega)]; exact ⟨(tX_b _).2.1.1, (tX_b _).2.1.2, tz_pin hB⟩) | (rw [dx_3 (show nu b9 = 3 by omega)]; exact ⟨(tX_b _).2.1.1, (tX_b _).2.1.2, tz_pin hB⟩) | (rw [dx_4 (show nu b9 = 4 by omega)]; exact ⟨(tX_b _).1.1, (tX_b _).1.2, tz_ln hB⟩) | (rw [dx_5 (show nu b9 = 5 by omega)]; exact ⟨(tX_b _).1.1, (tX_b _).1.2, tz_ln hB⟩) | (rw [dx_6 (show nu b9 = 6 by omega)]; exact ⟨(tX_b _).2.2.1.1, (tX_b _).2.2.1.2, tz_lay⟩) | (rw [dx_7 (show nu b9 = 7 by omega)]; exact ⟨(tX_b _).1.1, (tX_b _).1.2, tz_hang⟩) | (rw [dx_8 (show nu b9 = 8 by omega)]; exact ⟨(tX_b _).2.2.2.1.1, (tX_b _).2.2.2.1.2, tz_take hB⟩) | (rw [dx_9 (show nu b9 = 9 by omega)]; exact ⟨(tX_b _).2.2.2.2.1, (tX_b _).2.2.2.2.2, tz_enter hB⟩) | (rw [dx_10 (show nu b9 = 10 by omega)]; exact ⟨(tX_b _).1.1, (tX_b _).1.2, tz_walk hB⟩)), (by first | exact hFr | assumption)⟩, fun j hj0 hj1 => (fr39 j (by omega) (by omega))⟩ dX7_does_142
    · refine x_iconst hx hb dX7_does_132 ?_
      refine lv_goto (tgt := 137) hx hb dX7_does_133 (by decide) ?_
      refine lv_iload_n hx hb dX7_does_137 rfl (lv_at hl 2 rfl) ?_
      refine lv_iload_n hx hb dX7_does_138 rfl (lv_at hl 1 rfl) ?_
      refine x_cVI (As := [.int (iZ 1), .int (iZ (nu (b9 + 1))), .int (iZ (nu (b9 + 2)))]) (rest := []) hx hb hml hts hown hK hST hOK hH 85 (c_X7_shifts l E ST hSF σ true (nu (b9 + 1)) (nu (b9 + 2)) op lk kp wc pn nw sh wk sv re ea fa ty li th sz sp wr to v mv f85 f86 f91 (by assumption) (by omega) (by omega) (by omega) (by omega)) (cwV 3 hts gX7_does_X7_shifts rfl rfl rfl (by decide +kernel) ⟨Nat.le_of_ble_eq_true rfl, Nat.le_of_ble_eq_true rfl⟩) (by decide) f85 rfl rfl hl.1 rfl (Nat.le_of_ble_eq_true rfl) dX7_does_139 ⟨Nat.le_of_ble_eq_true rfl, Nat.le_of_ble_eq_true rfl⟩ (fun z44 σ45 H locs hp46 hH => ?_)
      obtain ⟨hz51, ⟨v1_48, m1_49, f85, f86, f91, hf50⟩, fr47⟩ := hp46
      have f92 : σ45 92 = aI E 25 F := (fr47 92 (by omega) (by omega)).trans f92
      have f95 : σ45 95 = aI E 120 nu := (fr47 95 (by omega) (by omega)).trans f95
      subst hQ
      exact x_iret hx hb hr hlocks hH (Nat.le_of_ble_eq_true rfl) (Nat.le_of_ble_eq_true rfl) ⟨(by omega), ⟨v1_48, F, m1_49, (tA (lnF op lk kp wc pn nw sh wk true (nu (b9 + 1)) (nu (b9 + 2))).1), f85, f86, f92, f91, (by first | (rw [dx_0 (show nu b9 = 0 by omega)]; assumption) | (rw [dx_1 (show nu b9 = 1 by omega)]; assumption) | (rw [dx_2 (show nu b9 = 2 by omega)]; assumption) | (rw [dx_3 (show nu b9 = 3 by omega)]; assumption) | (rw [dx_4 (show nu b9 = 4 by omega)]; assumption) | (rw [dx_5 (show nu b9 = 5 by omega)]; assumption) | (rw [dx_6 (show nu b9 = 6 by omega)]; assumption) | (rw [dx_7 (show nu b9 = 7 by omega)]; assumption) | (rw [dx_8 (show nu b9 = 8 by omega)]; assumption) | (rw [dx_9 (show nu b9 = 9 by omega)]; assumption) | (rw [dx_10 (show nu b9 = 10 by omega)]; assumption)), (by first | (rw [dx_0 (show nu b9 = 0 by omega)]; exact ⟨(tX_b _).1.1, (tX_b _).1.2, tz_set hB⟩) | (rw [dx_1 (show nu b9 = 1 by omega)]; exact ⟨(tX_b _).1.1, (tX_b _).1.2, tz_turn hB⟩) | (rw [dx_2 (show nu b9 = 2 by omega)]; exact ⟨(tX_b _).2.1.1, (tX_b _).2.1.2, tz_pin hB⟩) | (rw [dx_3 (show nu b9 = 3 by omega)]; exact ⟨(tX_b _).2.1.1, (tX_b _).2.1.2, tz_pin hB⟩) | (rw [dx_4 (show nu b9 = 4 by omega)]; exact ⟨(tX_b _).1.1, (tX_b _).1.2, tz_ln hB⟩) | (rw [dx_5 (show nu b9 = 5 by omega)]; exact ⟨(tX_b _).1.1, (tX_b _).1.2, tz_ln hB⟩) | (rw [dx_6 (show nu b9 = 6 by omega)]; exact ⟨(tX_b _).2.2.1.1, (tX_b _).2.2.1.2, tz_lay⟩) | (rw [dx_7 (show nu b9 = 7 by omega)]; exact ⟨(tX_b _).1.1, (tX_b _).1.2, tz_hang⟩) | (rw [dx_8 (show nu b9 = 8 by omega)]; exact ⟨(tX_b _).2.2.2.1.1, (tX_b _).2.2.2.1.2, tz_take hB⟩) | (rw [dx_9 (show nu b9 = 9 by omega)]; exact ⟨(tX_b _).2.2.2.2.1, (tX_b _).2.2.2.2.2, tz_enter hB⟩) | (rw [dx_10 (show nu b9 = 10 by omega)]; exact ⟨(tX_b _).1.1, (tX_b _).1.2, tz_walk hB⟩)), (by first | exact hFr | assumption)⟩, fun j hj0 hj1 => (fr47 j (by omega) (by omega))⟩ dX7_does_142
  · refine x_tableIn (tgt := 121) hx hb 5 c34 (by omega) dX7_does_34 (by decide) (by decide) rfl (by decide) ?_
    refine lv_aload_n hx hb dX7_does_121 rfl (lv_at hl 3 rfl) ?_
    refine lv_aload_n hx hb dX7_does_122 rfl (lv_at hl 3 rfl) ?_
    refine x_get hx hb hts hown hK hH 85 (by decide) f85 hinX7 rfl 20 (by decide) (List.mem_of_getElem? (i := 1) rfl) rfl dX7_does_123 ?_
    refine lv_iload_n hx hb dX7_does_126 rfl (lv_at hl 4 rfl) ?_
    refine x_iald hx hb hK hH 95 (by decide) f95 (by omega) (by omega) (by omega) dX7_does_127 ?_
    have hv52 := hnu9 b9
    refine x_iconst hx hb dX7_does_128 ?_
    refine x_icmp_ne (tgt := 136) hx hb dX7_does_129 (by decide) (by omega) (by decide) (fun c129 => ?_) (fun c129 => ?_)
    · refine x_iconst hx hb dX7_does_136 ?_
      refine lv_iload_n hx hb dX7_does_137 rfl (lv_at hl 2 rfl) ?_
      refine lv_iload_n hx hb dX7_does_138 rfl (lv_at hl 1 rfl) ?_
      refine x_cVI (As := [.int (iZ 0), .int (iZ (nu (b9 + 1))), .int (iZ (nu (b9 + 2)))]) (rest := []) hx hb hml hts hown hK hST hOK hH 85 (c_X7_shifts l E ST hSF σ false (nu (b9 + 1)) (nu (b9 + 2)) op lk kp wc pn nw sh wk sv re ea fa ty li th sz sp wr to v mv f85 f86 f91 (by assumption) (by omega) (by omega) (by omega) (by omega)) (cwV 3 hts gX7_does_X7_shifts rfl rfl rfl (by decide +kernel) ⟨Nat.le_of_ble_eq_true rfl, Nat.le_of_ble_eq_true rfl⟩) (by decide) f85 rfl rfl hl.1 rfl (Nat.le_of_ble_eq_true rfl) dX7_does_139 ⟨Nat.le_of_ble_eq_true rfl, Nat.le_of_ble_eq_true rfl⟩ (fun z53 σ54 H locs hp55 hH => ?_)
      obtain ⟨hz60, ⟨v1_57, m1_58, f85, f86, f91, hf59⟩, fr56⟩ := hp55
      have f92 : σ54 92 = aI E 25 F := (fr56 92 (by omega) (by omega)).trans f92
      have f95 : σ54 95 = aI E 120 nu := (fr56 95 (by omega) (by omega)).trans f95
      subst hQ
      exact x_iret hx hb hr hlocks hH (Nat.le_of_ble_eq_true rfl) (Nat.le_of_ble_eq_true rfl) ⟨(by omega), ⟨v1_57, F, m1_58, (tA (lnF op lk kp wc pn nw sh wk false (nu (b9 + 1)) (nu (b9 + 2))).1), f85, f86, f92, f91, (by first | (rw [dx_0 (show nu b9 = 0 by omega)]; assumption) | (rw [dx_1 (show nu b9 = 1 by omega)]; assumption) | (rw [dx_2 (show nu b9 = 2 by omega)]; assumption) | (rw [dx_3 (show nu b9 = 3 by omega)]; assumption) | (rw [dx_4 (show nu b9 = 4 by omega)]; assumption) | (rw [dx_5 (show nu b9 = 5 by omega)]; assumption) | (rw [dx_6 (show nu b9 = 6 by omega)]; assumption) | (rw [dx_7 (show nu b9 = 7 by omega)]; assumption) | (rw [dx_8 (show nu b9 = 8 by omega)]; assumption) | (rw [dx_9 (show nu b9 = 9 by omega)]; assumption) | (rw [dx_10 (show nu b9 = 10 by omega)]; assumption)), (by first | (rw [dx_0 (show nu b9 = 0 by omega)]; exact ⟨(tX_b _).1.1, (tX_b _).1.2, tz_set hB⟩) | (rw [dx_1 (show nu b9 = 1 by omega)]; exact ⟨(tX_b _).1.1, (tX_b _).1.2, tz_turn hB⟩) | (rw [dx_2 (show nu b9 = 2 by omega)]; exact ⟨(tX_b _).2.1.1, (tX_b _).2.1.2, tz_pin hB⟩) | (rw [dx_3 (show nu b9 = 3 by omega)]; exact ⟨(tX_b _).2.1.1, (tX_b _).2.1.2, tz_pin hB⟩) | (rw [dx_4 (show nu b9 = 4 by omega)]; exact ⟨(tX_b _).1.1, (tX_b _).1.2, tz_ln hB⟩) | (rw [dx_5 (show nu b9 = 5 by omega)]; exact ⟨(tX_b _).1.1, (tX_b _).1.2, tz_ln hB⟩) | (rw [dx_6 (show nu b9 = 6 by omega)]; exact ⟨(tX_b _).2.2.1.1, (tX_b _).2.2.1.2, tz_lay⟩) | (rw [dx_7 (show nu b9 = 7 by omega)]; exact ⟨(tX_b _).1.1, (tX_b _).1.2, tz_hang⟩) | (rw [dx_8 (show nu b9 = 8 by omega)]; exact ⟨(tX_b _).2.2.2.1.1, (tX_b _).2.2.2.1.2, tz_take hB⟩) | (rw [dx_9 (show nu b9 = 9 by omega)]; exact ⟨(tX_b _).2.2.2.2.1, (tX_b _).2.2.2.2.2, tz_enter hB⟩) | (rw [dx_10 (show nu b9 = 10 by omega)]; exact ⟨(tX_b _).1.1, (tX_b _).1.2, tz_walk hB⟩)), (by first | exact hFr | assumption)⟩, fun j hj0 hj1 => (fr56 j (by omega) (by omega))⟩ dX7_does_142
    · refine x_iconst hx hb dX7_does_132 ?_
      refine lv_goto (tgt := 137) hx hb dX7_does_133 (by decide) ?_
      refine lv_iload_n hx hb dX7_does_137 rfl (lv_at hl 2 rfl) ?_
      refine lv_iload_n hx hb dX7_does_138 rfl (lv_at hl 1 rfl) ?_
      refine x_cVI (As := [.int (iZ 1), .int (iZ (nu (b9 + 1))), .int (iZ (nu (b9 + 2)))]) (rest := []) hx hb hml hts hown hK hST hOK hH 85 (c_X7_shifts l E ST hSF σ true (nu (b9 + 1)) (nu (b9 + 2)) op lk kp wc pn nw sh wk sv re ea fa ty li th sz sp wr to v mv f85 f86 f91 (by assumption) (by omega) (by omega) (by omega) (by omega)) (cwV 3 hts gX7_does_X7_shifts rfl rfl rfl (by decide +kernel) ⟨Nat.le_of_ble_eq_true rfl, Nat.le_of_ble_eq_true rfl⟩) (by decide) f85 rfl rfl hl.1 rfl (Nat.le_of_ble_eq_true rfl) dX7_does_139 ⟨Nat.le_of_ble_eq_true rfl, Nat.le_of_ble_eq_true rfl⟩ (fun z61 σ62 H locs hp63 hH => ?_)
      obtain ⟨hz68, ⟨v1_65, m1_66, f85, f86, f91, hf67⟩, fr64⟩ := hp63
      have f92 : σ62 92 = aI E 25 F := (fr64 92 (by omega) (by omega)).trans f92
      have f95 : σ62 95 = aI E 120 nu := (fr64 95 (by omega) (by omega)).trans f95
      subst hQ
      exact x_iret hx hb hr hlocks hH (Nat.le_of_ble_eq_true rfl) (Nat.le_of_ble_eq_true rfl) ⟨(by omega), ⟨v1_65, F, m1_66, (tA (lnF op lk kp wc pn nw sh wk true (nu (b9 + 1)) (nu (b9 + 2))).1), f85, f86, f92, f91, (by first | (rw [dx_0 (show nu b9 = 0 by omega)]; assumption) | (rw [dx_1 (show nu b9 = 1 by omega)]; assumption) | (rw [dx_2 (show nu b9 = 2 by omega)]; assumption) | (rw [dx_3 (show nu b9 = 3 by omega)]; assumption) | (rw [dx_4 (show nu b9 = 4 by omega)]; assumption) | (rw [dx_5 (show nu b9 = 5 by omega)]; assumption) | (rw [dx_6 (show nu b9 = 6 by omega)]; assumption) | (rw [dx_7 (show nu b9 = 7 by omega)]; assumption) | (rw [dx_8 (show nu b9 = 8 by omega)]; assumption) | (rw [dx_9 (show nu b9 = 9 by omega)]; assumption) | (rw [dx_10 (show nu b9 = 10 by omega)]; assumption)), (by first | (rw [dx_0 (show nu b9 = 0 by omega)]; exact ⟨(tX_b _).1.1, (tX_b _).1.2, tz_set hB⟩) | (rw [dx_1 (show nu b9 = 1 by omega)]; exact ⟨(tX_b _).1.1, (tX_b _).1.2, tz_turn hB⟩) | (rw [dx_2 (show nu b9 = 2 by omega)]; exact ⟨(tX_b _).2.1.1, (tX_b _).2.1.2, tz_pin hB⟩) | (rw [dx_3 (show nu b9 = 3 by omega)]; exact ⟨(tX_b _).2.1.1, (tX_b _).2.1.2, tz_pin hB⟩) | (rw [dx_4 (show nu b9 = 4 by omega)]; exact ⟨(tX_b _).1.1, (tX_b _).1.2, tz_ln hB⟩) | (rw [dx_5 (show nu b9 = 5 by omega)]; exact ⟨(tX_b _).1.1, (tX_b _).1.2, tz_ln hB⟩) | (rw [dx_6 (show nu b9 = 6 by omega)]; exact ⟨(tX_b _).2.2.1.1, (tX_b _).2.2.1.2, tz_lay⟩) | (rw [dx_7 (show nu b9 = 7 by omega)]; exact ⟨(tX_b _).1.1, (tX_b _).1.2, tz_hang⟩) | (rw [dx_8 (show nu b9 = 8 by omega)]; exact ⟨(tX_b _).2.2.2.1.1, (tX_b _).2.2.2.1.2, tz_take hB⟩) | (rw [dx_9 (show nu b9 = 9 by omega)]; exact ⟨(tX_b _).2.2.2.2.1, (tX_b _).2.2.2.2.2, tz_enter hB⟩) | (rw [dx_10 (show nu b9 = 10 by omega)]; exact ⟨(tX_b _).1.1, (tX_b _).1.2, tz_walk hB⟩)), (by first | exact hFr | assumption)⟩, fun j hj0 hj1 => (fr64 j (by omega) (by omega))⟩ dX7_does_142
  · refine x_tableIn (tgt := 143) hx hb 6 c34 (by omega) dX7_does_34 (by decide) (by decide) rfl (by decide) ?_
    refine lv_aload_n hx hb dX7_does_143 rfl (lv_at hl 3 rfl) ?_
    refine lv_iload hx hb dX7_does_144 (lv_at hl 0 rfl) ?_
    refine lv_iload_n hx hb dX7_does_146 rfl (lv_at hl 2 rfl) ?_
    refine lv_iload_n hx hb dX7_does_147 rfl (lv_at hl 1 rfl) ?_
    refine x_cVI (As := [.int (iZ (nu (b9 + 3))), .int (iZ (nu (b9 + 1))), .int (iZ (nu (b9 + 2)))]) (rest := []) hx hb hml hts hown hK hST hOK hH 85 (c_X7_lays l E ST hSF σ (nu (b9 + 3)) (nu (b9 + 1)) (nu (b9 + 2)) op lk kp wc pn nw sh wk sv re ea fa ty li th sz sp wr to v f85 f86 (by assumption) (by omega) (by omega) (by omega) (by omega)) (cwV 3 hts gX7_does_X7_lays rfl rfl rfl (by decide +kernel) ⟨Nat.le_of_ble_eq_true rfl, Nat.le_of_ble_eq_true rfl⟩) (by decide) f85 rfl rfl hl.1 rfl (Nat.le_of_ble_eq_true rfl) dX7_does_148 ⟨Nat.le_of_ble_eq_true rfl, Nat.le_of_ble_eq_true rfl⟩ (fun z69 σ70 H locs hp71 hH => ?_)
    obtain ⟨hz75, ⟨v1_73, f85, f86, hf74⟩, fr72⟩ := hp71
    have f92 : σ70 92 = aI E 25 F := (fr72 92 (by omega)).trans f92
    have f91 : σ70 91 = aI E 15 mv := (fr72 91 (by omega)).trans f91
    have f95 : σ70 95 = aI E 120 nu := (fr72 95 (by omega)).trans f95
    subst hQ
    exact x_iret hx hb hr hlocks hH (Nat.le_of_ble_eq_true rfl) (Nat.le_of_ble_eq_true rfl) ⟨(by omega), ⟨v1_73, F, mv, (tL (layF op lk kp wc pn nw sh wk (nu (b9 + 3)) (nu (b9 + 1)) (nu (b9 + 2))).1), f85, f86, f92, f91, (by first | (rw [dx_0 (show nu b9 = 0 by omega)]; assumption) | (rw [dx_1 (show nu b9 = 1 by omega)]; assumption) | (rw [dx_2 (show nu b9 = 2 by omega)]; assumption) | (rw [dx_3 (show nu b9 = 3 by omega)]; assumption) | (rw [dx_4 (show nu b9 = 4 by omega)]; assumption) | (rw [dx_5 (show nu b9 = 5 by omega)]; assumption) | (rw [dx_6 (show nu b9 = 6 by omega)]; assumption) | (rw [dx_7 (show nu b9 = 7 by omega)]; assumption) | (rw [dx_8 (show nu b9 = 8 by omega)]; assumption) | (rw [dx_9 (show nu b9 = 9 by omega)]; assumption) | (rw [dx_10 (show nu b9 = 10 by omega)]; assumption)), (by first | (rw [dx_0 (show nu b9 = 0 by omega)]; exact ⟨(tX_b _).1.1, (tX_b _).1.2, tz_set hB⟩) | (rw [dx_1 (show nu b9 = 1 by omega)]; exact ⟨(tX_b _).1.1, (tX_b _).1.2, tz_turn hB⟩) | (rw [dx_2 (show nu b9 = 2 by omega)]; exact ⟨(tX_b _).2.1.1, (tX_b _).2.1.2, tz_pin hB⟩) | (rw [dx_3 (show nu b9 = 3 by omega)]; exact ⟨(tX_b _).2.1.1, (tX_b _).2.1.2, tz_pin hB⟩) | (rw [dx_4 (show nu b9 = 4 by omega)]; exact ⟨(tX_b _).1.1, (tX_b _).1.2, tz_ln hB⟩) | (rw [dx_5 (show nu b9 = 5 by omega)]; exact ⟨(tX_b _).1.1, (tX_b _).1.2, tz_ln hB⟩) | (rw [dx_6 (show nu b9 = 6 by omega)]; exact ⟨(tX_b _).2.2.1.1, (tX_b _).2.2.1.2, tz_lay⟩) | (rw [dx_7 (show nu b9 = 7 by omega)]; exact ⟨(tX_b _).1.1, (tX_b _).1.2, tz_hang⟩) | (rw [dx_8 (show nu b9 = 8 by omega)]; exact ⟨(tX_b _).2.2.2.1.1, (tX_b _).2.2.2.1.2, tz_take hB⟩) | (rw [dx_9 (show nu b9 = 9 by omega)]; exact ⟨(tX_b _).2.2.2.2.1, (tX_b _).2.2.2.2.2, tz_enter hB⟩) | (rw [dx_10 (show nu b9 = 10 by omega)]; exact ⟨(tX_b _).1.1, (tX_b _).1.2, tz_walk hB⟩)), (by first | exact hFr | assumption)⟩, fun j hj0 hj1 => (fr72 j (by omega))⟩ dX7_does_151
  · refine x_tableIn (tgt := 152) hx hb 7 c34 (by omega) dX7_does_34 (by decide) (by decide) rfl (by decide) ?_
    refine lv_aload_n hx hb dX7_does_152 rfl (lv_at hl 3 rfl) ?_
    refine lv_iload_n hx hb dX7_does_153 rfl (lv_at hl 2 rfl) ?_
    refine lv_iload_n hx hb dX7_does_154 rfl (lv_at hl 1 rfl) ?_
    refine lv_iload hx hb dX7_does_155 (lv_at hl 0 rfl) ?_
    refine x_cVI (As := [.int (iZ (nu (b9 + 1))), .int (iZ (nu (b9 + 2))), .int (iZ (nu (b9 + 3)))]) (rest := []) hx hb hml hts hown hK hST hOK hH 85 (c_X7_locks l E ST hSF σ (nu (b9 + 1)) (nu (b9 + 2)) (nu (b9 + 3)) op lk kp wc pn nw sh wk sv re ea fa ty li th sz sp wr to v f85 f86 (by assumption) (by omega) (by omega) (by omega) (by omega)) (cwV 3 hts gX7_does_X7_locks rfl rfl rfl (by decide +kernel) ⟨Nat.le_of_ble_eq_true rfl, Nat.le_of_ble_eq_true rfl⟩) (by decide) f85 rfl rfl hl.1 rfl (Nat.le_of_ble_eq_true rfl) dX7_does_157 ⟨Nat.le_of_ble_eq_true rfl, Nat.le_of_ble_eq_true rfl⟩ (fun z76 σ77 H locs hp78 hH => ?_)
    obtain ⟨hz82, ⟨v1_80, f85, f86, hf81⟩, fr79⟩ := hp78
    have f92 : σ77 92 = aI E 25 F := (fr79 92 (by omega)).trans f92
    have f91 : σ77 91 = aI E 15 mv := (fr79 91 (by omega)).trans f91
    have f95 : σ77 95 = aI E 120 nu := (fr79 95 (by omega)).trans f95
    subst hQ
    exact x_iret hx hb hr hlocks hH (Nat.le_of_ble_eq_true rfl) (Nat.le_of_ble_eq_true rfl) ⟨(by omega), ⟨v1_80, F, mv, (tA (hangF op lk kp wc pn nw sh wk (nu (b9 + 1)) (nu (b9 + 2)) (nu (b9 + 3))).1), f85, f86, f92, f91, (by first | (rw [dx_0 (show nu b9 = 0 by omega)]; assumption) | (rw [dx_1 (show nu b9 = 1 by omega)]; assumption) | (rw [dx_2 (show nu b9 = 2 by omega)]; assumption) | (rw [dx_3 (show nu b9 = 3 by omega)]; assumption) | (rw [dx_4 (show nu b9 = 4 by omega)]; assumption) | (rw [dx_5 (show nu b9 = 5 by omega)]; assumption) | (rw [dx_6 (show nu b9 = 6 by omega)]; assumption) | (rw [dx_7 (show nu b9 = 7 by omega)]; assumption) | (rw [dx_8 (show nu b9 = 8 by omega)]; assumption) | (rw [dx_9 (show nu b9 = 9 by omega)]; assumption) | (rw [dx_10 (show nu b9 = 10 by omega)]; assumption)), (by first | (rw [dx_0 (show nu b9 = 0 by omega)]; exact ⟨(tX_b _).1.1, (tX_b _).1.2, tz_set hB⟩) | (rw [dx_1 (show nu b9 = 1 by omega)]; exact ⟨(tX_b _).1.1, (tX_b _).1.2, tz_turn hB⟩) | (rw [dx_2 (show nu b9 = 2 by omega)]; exact ⟨(tX_b _).2.1.1, (tX_b _).2.1.2, tz_pin hB⟩) | (rw [dx_3 (show nu b9 = 3 by omega)]; exact ⟨(tX_b _).2.1.1, (tX_b _).2.1.2, tz_pin hB⟩) | (rw [dx_4 (show nu b9 = 4 by omega)]; exact ⟨(tX_b _).1.1, (tX_b _).1.2, tz_ln hB⟩) | (rw [dx_5 (show nu b9 = 5 by omega)]; exact ⟨(tX_b _).1.1, (tX_b _).1.2, tz_ln hB⟩) | (rw [dx_6 (show nu b9 = 6 by omega)]; exact ⟨(tX_b _).2.2.1.1, (tX_b _).2.2.1.2, tz_lay⟩) | (rw [dx_7 (show nu b9 = 7 by omega)]; exact ⟨(tX_b _).1.1, (tX_b _).1.2, tz_hang⟩) | (rw [dx_8 (show nu b9 = 8 by omega)]; exact ⟨(tX_b _).2.2.2.1.1, (tX_b _).2.2.2.1.2, tz_take hB⟩) | (rw [dx_9 (show nu b9 = 9 by omega)]; exact ⟨(tX_b _).2.2.2.2.1, (tX_b _).2.2.2.2.2, tz_enter hB⟩) | (rw [dx_10 (show nu b9 = 10 by omega)]; exact ⟨(tX_b _).1.1, (tX_b _).1.2, tz_walk hB⟩)), (by first | exact hFr | assumption)⟩, fun j hj0 hj1 => (fr79 j (by omega))⟩ dX7_does_160
  · refine x_tableIn (tgt := 161) hx hb 8 c34 (by omega) dX7_does_34 (by decide) (by decide) rfl (by decide) ?_
    refine lv_aload_n hx hb dX7_does_161 rfl (lv_at hl 3 rfl) ?_
    refine lv_iload_n hx hb dX7_does_162 rfl (lv_at hl 2 rfl) ?_
    refine lv_iload_n hx hb dX7_does_163 rfl (lv_at hl 1 rfl) ?_
    refine x_cVI (As := [.int (iZ (nu (b9 + 1))), .int (iZ (nu (b9 + 2)))]) (rest := []) hx hb hml hts hown hK hST hOK hH 85 (c_X7_unlocks l E ST hSF σ (nu (b9 + 1)) (nu (b9 + 2)) op lk kp wc pn nw sh wk sv re ea fa ty li th sz sp wr to v f85 f86 (by assumption) (by omega) (by omega) (by omega)) (cwV 2 hts gX7_does_X7_unlocks rfl rfl rfl (by decide +kernel) ⟨Nat.le_of_ble_eq_true rfl, Nat.le_of_ble_eq_true rfl⟩) (by decide) f85 rfl rfl hl.1 rfl (Nat.le_of_ble_eq_true rfl) dX7_does_164 ⟨Nat.le_of_ble_eq_true rfl, Nat.le_of_ble_eq_true rfl⟩ (fun z83 σ84 H locs hp85 hH => ?_)
    obtain ⟨hz89, ⟨v1_87, f85, f86, hf88⟩, fr86⟩ := hp85
    have f92 : σ84 92 = aI E 25 F := (fr86 92 (by omega)).trans f92
    have f91 : σ84 91 = aI E 15 mv := (fr86 91 (by omega)).trans f91
    have f95 : σ84 95 = aI E 120 nu := (fr86 95 (by omega)).trans f95
    subst hQ
    exact x_iret hx hb hr hlocks hH (Nat.le_of_ble_eq_true rfl) (Nat.le_of_ble_eq_true rfl) ⟨(by omega), ⟨v1_87, F, mv, (tT (takeF op lk kp wc pn nw sh wk (nu (b9 + 1)) (nu (b9 + 2))).1), f85, f86, f92, f91, (by first | (rw [dx_0 (show nu b9 = 0 by omega)]; assumption) | (rw [dx_1 (show nu b9 = 1 by omega)]; assumption) | (rw [dx_2 (show nu b9 = 2 by omega)]; assumption) | (rw [dx_3 (show nu b9 = 3 by omega)]; assumption) | (rw [dx_4 (show nu b9 = 4 by omega)]; assumption) | (rw [dx_5 (show nu b9 = 5 by omega)]; assumption) | (rw [dx_6 (show nu b9 = 6 by omega)]; assumption) | (rw [dx_7 (show nu b9 = 7 by omega)]; assumption) | (rw [dx_8 (show nu b9 = 8 by omega)]; assumption) | (rw [dx_9 (show nu b9 = 9 by omega)]; assumption) | (rw [dx_10 (show nu b9 = 10 by omega)]; assumption)), (by first | (rw [dx_0 (show nu b9 = 0 by omega)]; exact ⟨(tX_b _).1.1, (tX_b _).1.2, tz_set hB⟩) | (rw [dx_1 (show nu b9 = 1 by omega)]; exact ⟨(tX_b _).1.1, (tX_b _).1.2, tz_turn hB⟩) | (rw [dx_2 (show nu b9 = 2 by omega)]; exact ⟨(tX_b _).2.1.1, (tX_b _).2.1.2, tz_pin hB⟩) | (rw [dx_3 (show nu b9 = 3 by omega)]; exact ⟨(tX_b _).2.1.1, (tX_b _).2.1.2, tz_pin hB⟩) | (rw [dx_4 (show nu b9 = 4 by omega)]; exact ⟨(tX_b _).1.1, (tX_b _).1.2, tz_ln hB⟩) | (rw [dx_5 (show nu b9 = 5 by omega)]; exact ⟨(tX_b _).1.1, (tX_b _).1.2, tz_ln hB⟩) | (rw [dx_6 (show nu b9 = 6 by omega)]; exact ⟨(tX_b _).2.2.1.1, (tX_b _).2.2.1.2, tz_lay⟩) | (rw [dx_7 (show nu b9 = 7 by omega)]; exact ⟨(tX_b _).1.1, (tX_b _).1.2, tz_hang⟩) | (rw [dx_8 (show nu b9 = 8 by omega)]; exact ⟨(tX_b _).2.2.2.1.1, (tX_b _).2.2.2.1.2, tz_take hB⟩) | (rw [dx_9 (show nu b9 = 9 by omega)]; exact ⟨(tX_b _).2.2.2.2.1, (tX_b _).2.2.2.2.2, tz_enter hB⟩) | (rw [dx_10 (show nu b9 = 10 by omega)]; exact ⟨(tX_b _).1.1, (tX_b _).1.2, tz_walk hB⟩)), (by first | exact hFr | assumption)⟩, fun j hj0 hj1 => (fr86 j (by omega))⟩ dX7_does_167
  · refine x_tableIn (tgt := 168) hx hb 9 c34 (by omega) dX7_does_34 (by decide) (by decide) rfl (by decide) ?_
    refine lv_aload_n hx hb dX7_does_168 rfl (lv_at hl 3 rfl) ?_
    refine lv_iload_n hx hb dX7_does_169 rfl (lv_at hl 2 rfl) ?_
    refine lv_iload_n hx hb dX7_does_170 rfl (lv_at hl 1 rfl) ?_
    refine x_cVI (As := [.int (iZ (nu (b9 + 1))), .int (iZ (nu (b9 + 2)))]) (rest := []) hx hb hml hts hown hK hST hOK hH 85 (c_X7_enters l E ST hSF σ (nu (b9 + 1)) (nu (b9 + 2)) op lk kp wc pn nw sh wk sv re ea fa ty li th sz sp wr to v f85 f86 (by assumption) (by omega) (by omega) (by omega)) (cwV 2 hts gX7_does_X7_enters rfl rfl rfl (by decide +kernel) ⟨Nat.le_of_ble_eq_true rfl, Nat.le_of_ble_eq_true rfl⟩) (by decide) f85 rfl rfl hl.1 rfl (Nat.le_of_ble_eq_true rfl) dX7_does_171 ⟨Nat.le_of_ble_eq_true rfl, Nat.le_of_ble_eq_true rfl⟩ (fun z90 σ91 H locs hp92 hH => ?_)
    obtain ⟨hz96, ⟨v1_94, f85, f86, hf95⟩, fr93⟩ := hp92
    have f92 : σ91 92 = aI E 25 F := (fr93 92 (by omega)).trans f92
    have f91 : σ91 91 = aI E 15 mv := (fr93 91 (by omega)).trans f91
    have f95 : σ91 95 = aI E 120 nu := (fr93 95 (by omega)).trans f95
    subst hQ
    exact x_iret hx hb hr hlocks hH (Nat.le_of_ble_eq_true rfl) (Nat.le_of_ble_eq_true rfl) ⟨(by omega), ⟨v1_94, F, mv, (tE (enterF op lk kp wc pn nw sh wk (nu (b9 + 1)) (nu (b9 + 2))).1), f85, f86, f92, f91, (by first | (rw [dx_0 (show nu b9 = 0 by omega)]; assumption) | (rw [dx_1 (show nu b9 = 1 by omega)]; assumption) | (rw [dx_2 (show nu b9 = 2 by omega)]; assumption) | (rw [dx_3 (show nu b9 = 3 by omega)]; assumption) | (rw [dx_4 (show nu b9 = 4 by omega)]; assumption) | (rw [dx_5 (show nu b9 = 5 by omega)]; assumption) | (rw [dx_6 (show nu b9 = 6 by omega)]; assumption) | (rw [dx_7 (show nu b9 = 7 by omega)]; assumption) | (rw [dx_8 (show nu b9 = 8 by omega)]; assumption) | (rw [dx_9 (show nu b9 = 9 by omega)]; assumption) | (rw [dx_10 (show nu b9 = 10 by omega)]; assumption)), (by first | (rw [dx_0 (show nu b9 = 0 by omega)]; exact ⟨(tX_b _).1.1, (tX_b _).1.2, tz_set hB⟩) | (rw [dx_1 (show nu b9 = 1 by omega)]; exact ⟨(tX_b _).1.1, (tX_b _).1.2, tz_turn hB⟩) | (rw [dx_2 (show nu b9 = 2 by omega)]; exact ⟨(tX_b _).2.1.1, (tX_b _).2.1.2, tz_pin hB⟩) | (rw [dx_3 (show nu b9 = 3 by omega)]; exact ⟨(tX_b _).2.1.1, (tX_b _).2.1.2, tz_pin hB⟩) | (rw [dx_4 (show nu b9 = 4 by omega)]; exact ⟨(tX_b _).1.1, (tX_b _).1.2, tz_ln hB⟩) | (rw [dx_5 (show nu b9 = 5 by omega)]; exact ⟨(tX_b _).1.1, (tX_b _).1.2, tz_ln hB⟩) | (rw [dx_6 (show nu b9 = 6 by omega)]; exact ⟨(tX_b _).2.2.1.1, (tX_b _).2.2.1.2, tz_lay⟩) | (rw [dx_7 (show nu b9 = 7 by omega)]; exact ⟨(tX_b _).1.1, (tX_b _).1.2, tz_hang⟩) | (rw [dx_8 (show nu b9 = 8 by omega)]; exact ⟨(tX_b _).2.2.2.1.1, (tX_b _).2.2.2.1.2, tz_take hB⟩) | (rw [dx_9 (show nu b9 = 9 by omega)]; exact ⟨(tX_b _).2.2.2.2.1, (tX_b _).2.2.2.2.2, tz_enter hB⟩) | (rw [dx_10 (show nu b9 = 10 by omega)]; exact ⟨(tX_b _).1.1, (tX_b _).1.2, tz_walk hB⟩)), (by first | exact hFr | assumption)⟩, fun j hj0 hj1 => (fr93 j (by omega))⟩ dX7_does_174
  · refine x_tableOut (tgt := 175) hx hb (by omega) dX7_does_34 c34 (by decide) ?_
    refine lv_aload_n hx hb dX7_does_175 rfl (lv_at hl 3 rfl) ?_
    refine lv_iload hx hb dX7_does_176 (lv_at hl 0 rfl) ?_
    refine lv_iload_n hx hb dX7_does_178 rfl (lv_at hl 2 rfl) ?_
    refine lv_iload_n hx hb dX7_does_179 rfl (lv_at hl 1 rfl) ?_
    refine x_cVI (As := [.int (iZ (nu (b9 + 3))), .int (iZ (nu (b9 + 1))), .int (iZ (nu (b9 + 2)))]) (rest := []) hx hb hml hts hown hK hST hOK hH 85 (c_X7_walks l E ST hSF σ (nu (b9 + 3)) (nu (b9 + 1)) (nu (b9 + 2)) op lk kp wc pn nw sh wk sv re ea fa ty li th sz sp wr to v F f85 f86 f92 (by assumption) (by omega) (by omega) (by omega) (by omega) (by assumption) (by omega)) (cwV 3 hts gX7_does_X7_walks rfl rfl rfl (by decide +kernel) ⟨Nat.le_of_ble_eq_true rfl, Nat.le_of_ble_eq_true rfl⟩) (by decide) f85 rfl rfl hl.1 rfl (Nat.le_of_ble_eq_true rfl) dX7_does_180 ⟨Nat.le_of_ble_eq_true rfl, Nat.le_of_ble_eq_true rfl⟩ (fun z97 σ98 H locs hp99 hH => ?_)
    obtain ⟨hz105, ⟨v1_101, F1_102, f85, f86, f92, hf103, hf104⟩, fr100⟩ := hp99
    have f91 : σ98 91 = aI E 15 mv := (fr100 91 (by omega) (by omega)).trans f91
    have f95 : σ98 95 = aI E 120 nu := (fr100 95 (by omega) (by omega)).trans f95
    subst hQ
    exact x_iret hx hb hr hlocks hH (Nat.le_of_ble_eq_true rfl) (Nat.le_of_ble_eq_true rfl) ⟨(by omega), ⟨v1_101, F1_102, mv, (tA (walkF op lk kp wc pn nw sh wk (nu (b9 + 3)) (nu (b9 + 1)) (nu (b9 + 2))).1), f85, f86, f92, f91, (by first | (rw [dx_0 (show nu b9 = 0 by omega)]; assumption) | (rw [dx_1 (show nu b9 = 1 by omega)]; assumption) | (rw [dx_2 (show nu b9 = 2 by omega)]; assumption) | (rw [dx_3 (show nu b9 = 3 by omega)]; assumption) | (rw [dx_4 (show nu b9 = 4 by omega)]; assumption) | (rw [dx_5 (show nu b9 = 5 by omega)]; assumption) | (rw [dx_6 (show nu b9 = 6 by omega)]; assumption) | (rw [dx_7 (show nu b9 = 7 by omega)]; assumption) | (rw [dx_8 (show nu b9 = 8 by omega)]; assumption) | (rw [dx_9 (show nu b9 = 9 by omega)]; assumption) | (rw [dx_10 (show nu b9 = 10 by omega)]; assumption)), (by first | (rw [dx_0 (show nu b9 = 0 by omega)]; exact ⟨(tX_b _).1.1, (tX_b _).1.2, tz_set hB⟩) | (rw [dx_1 (show nu b9 = 1 by omega)]; exact ⟨(tX_b _).1.1, (tX_b _).1.2, tz_turn hB⟩) | (rw [dx_2 (show nu b9 = 2 by omega)]; exact ⟨(tX_b _).2.1.1, (tX_b _).2.1.2, tz_pin hB⟩) | (rw [dx_3 (show nu b9 = 3 by omega)]; exact ⟨(tX_b _).2.1.1, (tX_b _).2.1.2, tz_pin hB⟩) | (rw [dx_4 (show nu b9 = 4 by omega)]; exact ⟨(tX_b _).1.1, (tX_b _).1.2, tz_ln hB⟩) | (rw [dx_5 (show nu b9 = 5 by omega)]; exact ⟨(tX_b _).1.1, (tX_b _).1.2, tz_ln hB⟩) | (rw [dx_6 (show nu b9 = 6 by omega)]; exact ⟨(tX_b _).2.2.1.1, (tX_b _).2.2.1.2, tz_lay⟩) | (rw [dx_7 (show nu b9 = 7 by omega)]; exact ⟨(tX_b _).1.1, (tX_b _).1.2, tz_hang⟩) | (rw [dx_8 (show nu b9 = 8 by omega)]; exact ⟨(tX_b _).2.2.2.1.1, (tX_b _).2.2.2.1.2, tz_take hB⟩) | (rw [dx_9 (show nu b9 = 9 by omega)]; exact ⟨(tX_b _).2.2.2.2.1, (tX_b _).2.2.2.2.2, tz_enter hB⟩) | (rw [dx_10 (show nu b9 = 10 by omega)]; exact ⟨(tX_b _).1.1, (tX_b _).1.2, tz_walk hB⟩)), (by first | exact hFr | assumption)⟩, fun j hj0 hj1 => (fr100 j (by omega) (by omega))⟩ dX7_does_183

def rm_X7_run : Room := { frames := 10, cells := 0, slots := 0, locals := 231 }
set_option maxRecDepth 100000 in
set_option maxHeartbeats 4000000 in
theorem c_X7_run (l : Launch) (E : xE) (ST : xST) (hSF : SF ST) (Z : zE) (hSQ : SQ Z ST) (σ : xW) (op : Int → Int) (lk : Int → Int) (kp : Int → Int) (wc : Int → Int) (pn : Int) (nw : Int) (sh : Int) (wk : Int) (sv : Bool) (re : Int) (ea : Int) (fa : Int) (ty : Int) (li : Int) (th : Int) (sz : Int) (sp : Int) (wr : Int) (to : Int) (v : Int → Int) (w : Int → Int) (hF : Int → Int) (mv : Int → Int) (F : Int → Int) (tx : Int → Int) (nu : Int → Int) (hr0 : mo E σ sv re ea fa ty li th sz sp wr to) (hr1 : now E σ v) (hr2 : bef E σ w) (hr3 : his E σ hF) (hr4 : mov E σ mv) (hr5 : far E σ F) (hr6 : txt E σ tx) (hr7 : num E σ nu) (hC : Cp v op lk kp wc pn nw sh wk) (hB : BI op lk kp wc pn nw) (hre : 0 ≤ re ∧ re ≤ 8) (hty : 0 ≤ ty ∧ ty ≤ 60) (htx : ∀ j, 0 ≤ tx j ∧ tx j ≤ 65535) (hnu : nuR nu) (hsh : 0 ≤ sh ∧ sh ≤ 900000000) (hwk : 0 ≤ wk ∧ wk ≤ 900000000) (hFr : ∀ j : Int, rg (F j)) : CI l E ST yX7_run wsX7_run rm_X7_run [.ref (xad E 85)] σ (fun (z : Int) (u : xW) => (0 ≤ z ∧ z ≤ 9) ∧ (∃ (v1 w1 h1 m1 F1 nu1 : Int → Int) (re1 ea1 fa1 th1 sp1 wr1 to1 c9 : Int), mo E u sv re1 ea1 fa1 0 li th1 ty sp1 wr1 to1 ∧ now E u v1 ∧ bef E u w1 ∧ his E u h1 ∧ mov E u m1 ∧ far E u F1 ∧ num E u nu1 ∧ (roP tx ty (op, lk, kp, wc, pn, nw, sh, wk) v hF re ea fa z v1 h1 re1 ea1 fa1 th1 c9) ∧ (nuR nu1) ∧ (∀ j : Int, rg (F1 j))) ∧ ∀ j : Nat, (j < 85 ∨ 85 + 3 ≤ j) → (j < 90 ∨ 90 + 3 ≤ j) → j ≠ 95 → u j = σ j) := by
  have f85 : σ 85 = oB 5 [.ref (xad E 86), .ref (xad E 87), .ref (xad E 88), .ref (xad E 89), .ref (xad E 90), .int (iZ (b2 sv)), .int (iZ re), .int (iZ ea), .int (iZ fa), .ref (xad E 91), .ref (xad E 92), .ref (xad E 93), .int (iZ ty), .ref (xad E 94), .int (iZ li), .int (iZ th), .int (iZ sz), .int (iZ sp), .int (iZ wr), .int (iZ to), .ref (xad E 95)] := hr0
  have f86 : σ 86 = aI E 87 v := hr1
  have f87 : σ 87 = aI E 87 w := hr2
  have f90 : σ 90 = aI E 696 hF := hr3
  have f91 : σ 91 = aI E 15 mv := hr4
  have f92 : σ 92 = aI E 25 F := hr5
  have f93 : σ 93 = aI E 60 tx := hr6
  have f95 : σ 95 = aI E 120 nu := hr7
  refine CI_of (by decide) rfl (Nat.le_of_ble_eq_true rfl) ?_
  intro p e s m args below meth c Q ls G hH hl hQ
  obtain ⟨hx, hb, hml, hown, hts, hK, hST, hlocks, hr, hno⟩ := G
  have hOK := hSF.1
  have hown : s.vm.findClass RX7 = some m.cls := hown
  have hl : lv_has ls 3 [(0, .ref (xad E 85))] := hl
  have hinX7 : ∀ w ∈ u_ws RX7 TX7 21, w ∈ wsX7_run := fun w h => (List.mem_cons_of_mem _ (List.mem_append_right _ h))
  obtain ⟨hop, hlk, hkp, hwc, hpn, hnw⟩ := id hB
  have hvR := hC.R
  have hv0 := hC.1.1
  have hBT : BIT (op, lk, kp, wc, pn, nw, sh, wk) := hB
  refine lv_aload_n hx hb dX7_run_0 rfl (lv_at hl 0 rfl) ?_
  refine x_cVV (As := []) (rest := []) hx hb hml hts hown hK hST hOK hH 85 (c_X7_readsAll l E ST hSF Z hSQ σ sv re ea fa ty li th sz sp wr to tx nu f85 f93 f95 (by omega) (by assumption) (by omega)) (cwV 0 hts gX7_run_X7_readsAll rfl rfl rfl (by decide +kernel) ⟨Nat.le_of_ble_eq_true rfl, Nat.le_of_ble_eq_true rfl⟩) (by decide) f85 rfl rfl hl.1 rfl (Nat.le_of_ble_eq_true rfl) dX7_run_1 ⟨Nat.le_of_ble_eq_true rfl, Nat.le_of_ble_eq_true rfl⟩ (fun σ2 H locs hp3 hH => ?_)
  obtain ⟨⟨sp9_, wr9_, to9_, nu9_, f85, f95, hfe, hall, hto9, hnr, hwrb⟩, fr4⟩ := hp3
  have f86 : σ2 86 = aI E 87 v := (fr4 86 (by omega) (by omega)).trans f86
  have f87 : σ2 87 = aI E 87 w := (fr4 87 (by omega) (by omega)).trans f87
  have f90 : σ2 90 = aI E 696 hF := (fr4 90 (by omega) (by omega)).trans f90
  have f91 : σ2 91 = aI E 15 mv := (fr4 91 (by omega) (by omega)).trans f91
  have f92 : σ2 92 = aI E 25 F := (fr4 92 (by omega) (by omega)).trans f92
  have f93 : σ2 93 = aI E 60 tx := (fr4 93 (by omega) (by omega)).trans f93
  refine lv_aload_n hx hb dX7_run_4 rfl (lv_at hl 0 rfl) ?_
  refine x_get hx hb hts hown hK hH 85 (by decide) f85 hinX7 rfl 18 (by decide) (List.mem_of_getElem? (i := 1) rfl) rfl dX7_run_5 ?_
  refine x_iconst hx hb dX7_run_8 ?_
  refine x_icmp_eq (tgt := 27) hx hb dX7_run_9 (by decide) (by omega) (by decide) (fun c9 => ?_) (fun c9 => ?_)
  · have hwr9 : wr9_ = -1 := c9
    have hfe9 : feP tx ty (-1) to9_ := by rw [← hwr9]; exact hfe
    refine lv_aload_n hx hb dX7_run_27 rfl (lv_at hl 0 rfl) ?_
    refine x_cVV (As := []) (rest := []) hx hb hml hts hown hK hST hOK hH 85 (c_X7_begins l E ST hSF σ2 sv re ea fa 0 li th ty sp9_ wr9_ to9_ v w f85 f86 f87 ) (cwV 0 hts gX7_run_X7_begins rfl rfl rfl (by decide +kernel) ⟨Nat.le_of_ble_eq_true rfl, Nat.le_of_ble_eq_true rfl⟩) (by decide) f85 rfl rfl hl.1 rfl (Nat.le_of_ble_eq_true rfl) dX7_run_28 ⟨Nat.le_of_ble_eq_true rfl, Nat.le_of_ble_eq_true rfl⟩ (fun σ7 H locs hp8 hH => ?_)
    obtain ⟨⟨f85, f86, f87⟩, fr9⟩ := hp8
    have f90 : σ7 90 = aI E 696 hF := (fr9 90 (by omega)).trans f90
    have f91 : σ7 91 = aI E 15 mv := (fr9 91 (by omega)).trans f91
    have f92 : σ7 92 = aI E 25 F := (fr9 92 (by omega)).trans f92
    have f93 : σ7 93 = aI E 60 tx := (fr9 93 (by omega)).trans f93
    have f95 : σ7 95 = aI E 120 nu9_ := (fr9 95 (by omega)).trans f95
    refine lv_aload_n hx hb dX7_run_31 rfl (lv_at hl 0 rfl) ?_
    refine x_iconst hx hb dX7_run_32 ?_
    refine x_put (fs' := [.ref (xad E 86), .ref (xad E 87), .ref (xad E 88), .ref (xad E 89), .ref (xad E 90), .int (iZ (b2 sv)), .int (iZ re), .int (iZ ea), .int (iZ fa), .ref (xad E 91), .ref (xad E 92), .ref (xad E 93), .int (iZ 0), .ref (xad E 94), .int (iZ li), .int (iZ 0), .int (iZ ty), .int (iZ sp9_), .int (iZ wr9_), .int (iZ to9_), .ref (xad E 95)]) hx hb hts hown hK hH 85 (by decide) f85 hinX7 rfl tyX7 tyX7_ok nmX7 15 (by decide) (List.mem_of_getElem? (i := 3) rfl) rfl (ty := .int) (by decide +kernel) rfl rfl (Nat.le_of_ble_eq_true rfl) rfl dX7_run_33 (fun σ11 H locs f85 fr12 hH => ?_)
    have f86 : σ11 86 = aI E 87 v := (fr12 86 (by omega)).trans f86
    have f87 : σ11 87 = aI E 87 v := (fr12 87 (by omega)).trans f87
    have f90 : σ11 90 = aI E 696 hF := (fr12 90 (by omega)).trans f90
    have f91 : σ11 91 = aI E 15 mv := (fr12 91 (by omega)).trans f91
    have f92 : σ11 92 = aI E 25 F := (fr12 92 (by omega)).trans f92
    have f93 : σ11 93 = aI E 60 tx := (fr12 93 (by omega)).trans f93
    have f95 : σ11 95 = aI E 120 nu9_ := (fr12 95 (by omega)).trans f95
    refine x_iconst hx hb dX7_run_36 ?_
    refine lv_istore_n (lv' := [(1, .int (iZ 0)), (0, .ref (xad E 85))]) hx hb dX7_run_37 rfl hl (by decide) rfl (fun ls hl => ?_)
    have K38 : ∀ (nK : Nat) (k th2 : Int) (v2 F2 m2 : Int → Int) (σ13 : xW) (H : Heap) (locs : List Loc) (ls : Array Slot), (to9_ - k).toNat < nK → (0 ≤ k ∧ k ≤ to9_) → (th2 = 0) → (CpT v2 (exB tx ty (op, lk, kp, wc, pn, nw, sh, wk) k)) → (∀ j : Int, 0 ≤ j → j < k → okP tx ty (op, lk, kp, wc, pn, nw, sh, wk) j) → (∀ j : Int, rg (F2 j)) → σ13 85 = oB 5 [.ref (xad E 86), .ref (xad E 87), .ref (xad E 88), .ref (xad E 89), .ref (xad E 90), .int (iZ (b2 sv)), .int (iZ re), .int (iZ ea), .int (iZ fa), .ref (xad E 91), .ref (xad E 92), .ref (xad E 93), .int (iZ 0), .ref (xad E 94), .int (iZ li), .int (iZ th2), .int (iZ ty), .int (iZ sp9_), .int (iZ wr9_), .int (iZ to9_), .ref (xad E 95)] → σ13 86 = aI E 87 v2 → σ13 87 = aI E 87 v → σ13 90 = aI E 696 hF → σ13 91 = aI E 15 m2 → σ13 92 = aI E 25 F2 → σ13 93 = aI E 60 tx → σ13 95 = aI E 120 nu9_ → (∀ j : Nat, (j < 85 ∨ 85 + 2 ≤ j) → (j < 91 ∨ 91 + 2 ≤ j) → σ13 j = σ11 j) → Hx E (xA E s.heap.size) s.heap σ13 H locs → lv_has ls 3 [(1, .int (iZ k)), (0, .ref (xad E 85))] → W p l e rm_X7_run s m args below meth c H locs 0 0 Q (F0 m 38 ls []) := by
      intro n38
      induction n38 with
      | zero =>
        intro k th2 v2 F2 m2 σ13 H locs ls hm
        exact absurd hm (by first | exact Nat.not_lt_zero _ | omega)
      | succ n38 ih38 =>
        intro k th2 v2 F2 m2 σ13 H locs ls hm38 hi hth hcu hok hF2 f85 f86 f87 f90 f91 f92 f93 f95 fr14 hH hl
        refine lv_iload_n hx hb dX7_run_38 rfl (lv_at hl 0 rfl) ?_
        refine lv_aload_n hx hb dX7_run_39 rfl (lv_at hl 1 rfl) ?_
        refine x_get hx hb hts hown hK hH 85 (by decide) f85 hinX7 rfl 19 (by decide) (List.mem_of_getElem? (i := 4) rfl) rfl dX7_run_40 ?_
        refine x_icmp_ge (tgt := 92) hx hb dX7_run_43 (by decide) (by omega) (by omega) (fun c43 => ?_) (fun c43 => ?_)
        · have hke : k = to9_ := by omega
          refine lv_aload_n hx hb dX7_run_92 rfl (lv_at hl 1 rfl) ?_
          refine lv_aload_n hx hb dX7_run_93 rfl (lv_at hl 1 rfl) ?_
          refine x_get hx hb hts hown hK hH 85 (by decide) f85 hinX7 rfl 19 (by decide) (List.mem_of_getElem? (i := 4) rfl) rfl dX7_run_94 ?_
          refine x_cVIE (As := [.int (iZ to9_)]) (rest := []) hx hb hml hts hown hK hST hOK hH 85 (c_X7_ends l E ST hSF σ13 to9_ sv re ea fa 0 li th2 ty sp9_ wr9_ to9_ v2 v hF f85 f86 f87 f90 (by omega) (by omega) (by omega)) (cwV 1 hts gX7_run_X7_ends rfl rfl rfl (by decide +kernel) ⟨Nat.le_of_ble_eq_true rfl, Nat.le_of_ble_eq_true rfl⟩) (by decide) f85 rfl rfl hl.1 rfl (Nat.le_of_ble_eq_true rfl) dX7_run_97 ⟨Nat.le_of_ble_eq_true rfl, Nat.le_of_ble_eq_true rfl⟩ (fun z u h => h) (fun σ16 H locs hp17 hH => ?_)
          obtain ⟨⟨f85, f86, f87, f90⟩, fr18⟩ := hp17
          have f91 : σ16 91 = aI E 15 m2 := (fr18 91 (by omega) (by omega)).trans f91
          have f92 : σ16 92 = aI E 25 F2 := (fr18 92 (by omega) (by omega)).trans f92
          have f93 : σ16 93 = aI E 60 tx := (fr18 93 (by omega) (by omega)).trans f93
          have f95 : σ16 95 = aI E 120 nu9_ := (fr18 95 (by omega) (by omega)).trans f95
          subst hQ
          exact x_iret hx hb hr hlocks hH (Nat.le_of_ble_eq_true rfl) (Nat.le_of_ble_eq_true rfl) ⟨(by (first | rw [if_pos hth]); omega), ⟨(if th2 = 0 then v2 else v), v, (if th2 = 0 then rmF hF v re else hF), m2, F2, nu9_, (if th2 = 0 then re8 re else re), ea, fa, th2, sp9_, wr9_, to9_, to9_, f85, f86, f87, f90, f91, f92, f95, (by rw [if_pos hth, if_pos hth, if_pos hth, if_pos hth]; exact Or.inr (Or.inr ⟨hfe9, Or.inl ⟨rfl, fun j h0 h1 => hok j h0 (by omega)⟩, hth, rfl, rfl, rfl, rfl, rfl, by rw [← hke]; exact hcu⟩)), (by exact hnr), (by exact hF2)⟩, fun j hj0 hj1 hj2 => ((fr18 j (by omega) (by omega)).trans ((fr14 j (by omega) (by omega)).trans ((fr12 j (by omega)).trans ((fr9 j (by omega)).trans (fr4 j (by omega) (by omega))))))⟩ dX7_run_100
        · obtain ⟨⟨op2, lk2, kp2, wc2, pn2, nw2, sh2, wk2⟩, hX⟩ : ∃ X : BT, X = exB tx ty (op, lk, kp, wc, pn, nw, sh, wk) k := ⟨_, rfl⟩
          have hXB := exB_ok (t := tx) (n := ty) (k := k) (B := (op, lk, kp, wc, pn, nw, sh, wk)) hBT hi.1
          rw [← hX] at hXB
          rw [← hX] at hcu
          have hs2 : sh ≤ sh2 ∧ sh2 ≤ sh + k := hXB.2.1
          have hw2 : wk ≤ wk2 ∧ wk2 ≤ wk + 24 * k := hXB.2.2
          have hkl : k < to9_ := by omega
          have hnm := hall hwr9 k hi.1 hkl
          have hcd := cd_b hty hfe9 hi.1 hkl
          rw [← hnm.1] at hcd
          have hdx := nmC_ex (B := (op2, lk2, kp2, wc2, pn2, nw2, sh2, wk2)) hty hfe9 hi.1 hkl hnm
          refine lv_aload_n hx hb dX7_run_46 rfl (lv_at hl 1 rfl) ?_
          refine x_iconst hx hb dX7_run_47 ?_
          refine lv_iload_n hx hb dX7_run_48 rfl (lv_at hl 0 rfl) ?_
          refine x_imul hx hb dX7_run_49 ?_
          refine x_cVI (As := [.int (iZ (4 * k))]) (rest := []) hx hb hml hts hown hK hST hOK hH 85 (c_X7_does l E ST hSF σ13 (4 * k) op2 lk2 kp2 wc2 pn2 nw2 sh2 wk2 sv re ea fa 0 li th2 ty sp9_ wr9_ to9_ v2 F2 m2 nu9_ f85 f86 f92 f91 f95 hcu hXB.1 (by omega) (by omega) (by omega) (by omega) (by omega) (by assumption)) (cwV 1 hts gX7_run_X7_does rfl rfl rfl (by decide +kernel) ⟨Nat.le_of_ble_eq_true rfl, Nat.le_of_ble_eq_true rfl⟩) (by decide) f85 rfl rfl hl.1 rfl (Nat.le_of_ble_eq_true rfl) dX7_run_50 ⟨Nat.le_of_ble_eq_true rfl, Nat.le_of_ble_eq_true rfl⟩ (fun z20 σ21 H locs hp22 hH => ?_)
          obtain ⟨hz24, ⟨v3, F3, m3, th3, f85, f86, f92, f91, hdc, hdt, hdF⟩, fr23⟩ := hp22
          have f87 : σ21 87 = aI E 87 v := (fr23 87 (by omega) (by omega)).trans f87
          have f90 : σ21 90 = aI E 696 hF := (fr23 90 (by omega) (by omega)).trans f90
          have f93 : σ21 93 = aI E 60 tx := (fr23 93 (by omega) (by omega)).trans f93
          have f95 : σ21 95 = aI E 120 nu9_ := (fr23 95 (by omega) (by omega)).trans f95
          rw [hdx] at hdc hdt
          refine lv_istore_n (lv' := [(2, .int (iZ z20)), (1, .int (iZ k)), (0, .ref (xad E 85))]) hx hb dX7_run_53 rfl hl (by decide) rfl (fun ls hl => ?_)
          refine lv_aload_n hx hb dX7_run_54 rfl (lv_at hl 2 rfl) ?_
          refine x_get hx hb hts hown hK hH 85 (by decide) f85 hinX7 rfl 15 (by decide) (List.mem_of_getElem? (i := 3) rfl) rfl dX7_run_55 ?_
          refine x_if_eq (tgt := 86) hx hb dX7_run_58 (by decide) (by omega) (fun c58 => ?_) (fun c58 => ?_)
          · have hyes9 : okP tx ty (op, lk, kp, wc, pn, nw, sh, wk) k := by unfold okP; rw [← hX]; omega
            refine x_iinc (lv' := [(1, .int (iZ (k + 1))), (2, .int (iZ z20)), (0, .ref (xad E 85))]) hx hb dX7_run_86 hl (k := 1) rfl (by decide) rfl (fun ls hl => ?_)
            refine lv_goto (tgt := 38) hx hb dX7_run_89 (by decide) ?_
            exact ih38 (k + 1) th3 v3 F3 m3 σ21 _ _ _ (by omega) (by omega) (by omega) (by rw [exB_s hi.1, ← hX]; exact hdc) (by intro j h0 h1; by_cases e : j = k; (rw [e]; exact hyes9); (exact hok j h0 (by omega))) (by exact hdF) f85 f86 f87 f90 f91 f92 f93 f95 (fun j hj0 hj1 => ((fr23 j (by omega) (by omega)).trans (fr14 j (by omega) (by omega)))) hH (lv_sub hl [0, 2] rfl)
          · have hno9 : ¬ okP tx ty (op, lk, kp, wc, pn, nw, sh, wk) k := by unfold okP; rw [← hX]; omega
            refine lv_aload_n hx hb dX7_run_61 rfl (lv_at hl 2 rfl) ?_
            refine lv_iload_n hx hb dX7_run_62 rfl (lv_at hl 1 rfl) ?_
            refine x_put (fs' := [.ref (xad E 86), .ref (xad E 87), .ref (xad E 88), .ref (xad E 89), .ref (xad E 90), .int (iZ (b2 sv)), .int (iZ re), .int (iZ ea), .int (iZ k), .ref (xad E 91), .ref (xad E 92), .ref (xad E 93), .int (iZ 0), .ref (xad E 94), .int (iZ li), .int (iZ th3), .int (iZ ty), .int (iZ sp9_), .int (iZ wr9_), .int (iZ to9_), .ref (xad E 95)]) hx hb hts hown hK hH 85 (by decide) f85 hinX7 rfl tyX7 tyX7_ok nmX7 8 (by decide) (List.mem_of_getElem? (i := 5) rfl) rfl (ty := .int) (by decide +kernel) rfl rfl (Nat.le_of_ble_eq_true rfl) rfl dX7_run_63 (fun σ25 H locs f85 fr26 hH => ?_)
            have f86 : σ25 86 = aI E 87 v3 := (fr26 86 (by omega)).trans f86
            have f87 : σ25 87 = aI E 87 v := (fr26 87 (by omega)).trans f87
            have f90 : σ25 90 = aI E 696 hF := (fr26 90 (by omega)).trans f90
            have f91 : σ25 91 = aI E 15 m3 := (fr26 91 (by omega)).trans f91
            have f92 : σ25 92 = aI E 25 F3 := (fr26 92 (by omega)).trans f92
            have f93 : σ25 93 = aI E 60 tx := (fr26 93 (by omega)).trans f93
            have f95 : σ25 95 = aI E 120 nu9_ := (fr26 95 (by omega)).trans f95
            refine lv_aload_n hx hb dX7_run_66 rfl (lv_at hl 2 rfl) ?_
            refine x_iconst hx hb dX7_run_67 ?_
            refine x_put (fs' := [.ref (xad E 86), .ref (xad E 87), .ref (xad E 88), .ref (xad E 89), .ref (xad E 90), .int (iZ (b2 sv)), .int (iZ re), .int (iZ ea), .int (iZ k), .ref (xad E 91), .ref (xad E 92), .ref (xad E 93), .int (iZ 0), .ref (xad E 94), .int (iZ li), .int (iZ 2), .int (iZ ty), .int (iZ sp9_), .int (iZ wr9_), .int (iZ to9_), .ref (xad E 95)]) hx hb hts hown hK hH 85 (by decide) f85 hinX7 rfl tyX7 tyX7_ok nmX7 15 (by decide) (List.mem_of_getElem? (i := 3) rfl) rfl (ty := .int) (by decide +kernel) rfl rfl (Nat.le_of_ble_eq_true rfl) rfl dX7_run_68 (fun σ27 H locs f85 fr28 hH => ?_)
            have f86 : σ27 86 = aI E 87 v3 := (fr28 86 (by omega)).trans f86
            have f87 : σ27 87 = aI E 87 v := (fr28 87 (by omega)).trans f87
            have f90 : σ27 90 = aI E 696 hF := (fr28 90 (by omega)).trans f90
            have f91 : σ27 91 = aI E 15 m3 := (fr28 91 (by omega)).trans f91
            have f92 : σ27 92 = aI E 25 F3 := (fr28 92 (by omega)).trans f92
            have f93 : σ27 93 = aI E 60 tx := (fr28 93 (by omega)).trans f93
            have f95 : σ27 95 = aI E 120 nu9_ := (fr28 95 (by omega)).trans f95
            refine lv_aload_n hx hb dX7_run_71 rfl (lv_at hl 2 rfl) ?_
            refine x_get hx hb hts hown hK hH 85 (by decide) f85 hinX7 rfl 1 (by decide) (List.mem_of_getElem? (i := 6) rfl) rfl dX7_run_72 ?_
            refine x_iconst hx hb dX7_run_75 ?_
            refine lv_aload_n hx hb dX7_run_76 rfl (lv_at hl 2 rfl) ?_
            refine x_get hx hb hts hown hK hH 85 (by decide) f85 hinX7 rfl 0 (by decide) (List.mem_of_getElem? (i := 7) rfl) rfl dX7_run_77 ?_
            refine x_iconst hx hb dX7_run_80 ?_
            refine x_cSV (As := [.ref (xad E 87), .int (iZ 0), .ref (xad E 86), .int (iZ 0)]) (rest := []) hx hb hml hts hown hK hST hOK hH (c_X7_copies l E ST hSF σ27 87 86 0 0 87 v 87 v3 f87 f86 (by omega) (by omega) (by omega) (by omega) (by omega) (by omega) (by omega)) (va_cwS 4 hts gX7_run_X7_copies rfl rfl rfl (by decide +kernel) ⟨Nat.le_of_ble_eq_true rfl, Nat.le_of_ble_eq_true rfl⟩) rfl hl.1 rfl (Nat.le_of_ble_eq_true rfl) dX7_run_81 ⟨Nat.le_of_ble_eq_true rfl, Nat.le_of_ble_eq_true rfl⟩ (fun σ30 H locs hp31 hH => ?_)
            obtain ⟨⟨f87, f86⟩, fr32⟩ := hp31
            have f85 : σ30 85 = oB 5 [.ref (xad E 86), .ref (xad E 87), .ref (xad E 88), .ref (xad E 89), .ref (xad E 90), .int (iZ (b2 sv)), .int (iZ re), .int (iZ ea), .int (iZ k), .ref (xad E 91), .ref (xad E 92), .ref (xad E 93), .int (iZ 0), .ref (xad E 94), .int (iZ li), .int (iZ 2), .int (iZ ty), .int (iZ sp9_), .int (iZ wr9_), .int (iZ to9_), .ref (xad E 95)] := (fr32 85 (by omega)).trans f85
            have f90 : σ30 90 = aI E 696 hF := (fr32 90 (by omega)).trans f90
            have f91 : σ30 91 = aI E 15 m3 := (fr32 91 (by omega)).trans f91
            have f92 : σ30 92 = aI E 25 F3 := (fr32 92 (by omega)).trans f92
            have f93 : σ30 93 = aI E 60 tx := (fr32 93 (by omega)).trans f93
            have f95 : σ30 95 = aI E 120 nu9_ := (fr32 95 (by omega)).trans f95
            obtain ⟨σ34, f86, fr35, hH⟩ := x_normE (g := v) 86 (by decide) f86 (by intro j h0 h1; unfold cpK; rw [if_pos (by omega), show (0 : Int) + (j - 0) = j by omega]) hH
            have f85 : σ34 85 = oB 5 [.ref (xad E 86), .ref (xad E 87), .ref (xad E 88), .ref (xad E 89), .ref (xad E 90), .int (iZ (b2 sv)), .int (iZ re), .int (iZ ea), .int (iZ k), .ref (xad E 91), .ref (xad E 92), .ref (xad E 93), .int (iZ 0), .ref (xad E 94), .int (iZ li), .int (iZ 2), .int (iZ ty), .int (iZ sp9_), .int (iZ wr9_), .int (iZ to9_), .ref (xad E 95)] := (fr35 85 (by omega)).trans f85
            have f87 : σ34 87 = aI E 87 v := (fr35 87 (by omega)).trans f87
            have f90 : σ34 90 = aI E 696 hF := (fr35 90 (by omega)).trans f90
            have f91 : σ34 91 = aI E 15 m3 := (fr35 91 (by omega)).trans f91
            have f92 : σ34 92 = aI E 25 F3 := (fr35 92 (by omega)).trans f92
            have f93 : σ34 93 = aI E 60 tx := (fr35 93 (by omega)).trans f93
            have f95 : σ34 95 = aI E 120 nu9_ := (fr35 95 (by omega)).trans f95
            refine x_iconst hx hb dX7_run_84 ?_
            subst hQ
            exact x_iret hx hb hr hlocks hH (Nat.le_of_ble_eq_true rfl) (Nat.le_of_ble_eq_true rfl) ⟨(by omega), ⟨v, v, hF, m3, F3, nu9_, re, ea, k, 2, sp9_, wr9_, to9_, to9_, f85, f86, f87, f90, f91, f92, f95, (by exact Or.inr (Or.inl ⟨hfe9, Or.inr ⟨⟨hi.1, hkl⟩, hok, hno9⟩, ⟨hi.1, hkl⟩, rfl, rfl, rfl, rfl, rfl⟩)), (by exact hnr), (by exact hdF)⟩, fun j hj0 hj1 hj2 => ((fr35 j (by omega)).trans ((fr32 j (by omega)).trans ((fr28 j (by omega)).trans ((fr26 j (by omega)).trans ((fr23 j (by omega) (by omega)).trans ((fr14 j (by omega) (by omega)).trans ((fr12 j (by omega)).trans ((fr9 j (by omega)).trans (fr4 j (by omega) (by omega))))))))))⟩ dX7_run_85
    exact K38 11 0 0 v F mv σ11 _ _ _ (by first | omega | decide) (by omega) (by rfl) (by exact hC) (by intro j h0 h1; omega) (by exact hFr) f85 f86 f87 f90 f91 f92 f93 f95 (fun j _ _ => rfl) hH (lv_sub hl [0, 1] rfl)
  · refine lv_aload_n hx hb dX7_run_12 rfl (lv_at hl 0 rfl) ?_
    refine lv_aload_n hx hb dX7_run_13 rfl (lv_at hl 0 rfl) ?_
    refine x_get hx hb hts hown hK hH 85 (by decide) f85 hinX7 rfl 18 (by decide) (List.mem_of_getElem? (i := 1) rfl) rfl dX7_run_14 ?_
    refine x_put (fs' := [.ref (xad E 86), .ref (xad E 87), .ref (xad E 88), .ref (xad E 89), .ref (xad E 90), .int (iZ (b2 sv)), .int (iZ re), .int (iZ wr9_), .int (iZ fa), .ref (xad E 91), .ref (xad E 92), .ref (xad E 93), .int (iZ 0), .ref (xad E 94), .int (iZ li), .int (iZ th), .int (iZ ty), .int (iZ sp9_), .int (iZ wr9_), .int (iZ to9_), .ref (xad E 95)]) hx hb hts hown hK hH 85 (by decide) f85 hinX7 rfl tyX7 tyX7_ok nmX7 7 (by decide) (List.mem_of_getElem? (i := 2) rfl) rfl (ty := .int) (by decide +kernel) rfl rfl (Nat.le_of_ble_eq_true rfl) rfl dX7_run_17 (fun σ36 H locs f85 fr37 hH => ?_)
    have f86 : σ36 86 = aI E 87 v := (fr37 86 (by omega)).trans f86
    have f87 : σ36 87 = aI E 87 w := (fr37 87 (by omega)).trans f87
    have f90 : σ36 90 = aI E 696 hF := (fr37 90 (by omega)).trans f90
    have f91 : σ36 91 = aI E 15 mv := (fr37 91 (by omega)).trans f91
    have f92 : σ36 92 = aI E 25 F := (fr37 92 (by omega)).trans f92
    have f93 : σ36 93 = aI E 60 tx := (fr37 93 (by omega)).trans f93
    have f95 : σ36 95 = aI E 120 nu9_ := (fr37 95 (by omega)).trans f95
    refine lv_aload_n hx hb dX7_run_20 rfl (lv_at hl 0 rfl) ?_
    refine x_iconst hx hb dX7_run_21 ?_
    refine x_put (fs' := [.ref (xad E 86), .ref (xad E 87), .ref (xad E 88), .ref (xad E 89), .ref (xad E 90), .int (iZ (b2 sv)), .int (iZ re), .int (iZ wr9_), .int (iZ fa), .ref (xad E 91), .ref (xad E 92), .ref (xad E 93), .int (iZ 0), .ref (xad E 94), .int (iZ li), .int (iZ 1), .int (iZ ty), .int (iZ sp9_), .int (iZ wr9_), .int (iZ to9_), .ref (xad E 95)]) hx hb hts hown hK hH 85 (by decide) f85 hinX7 rfl tyX7 tyX7_ok nmX7 15 (by decide) (List.mem_of_getElem? (i := 3) rfl) rfl (ty := .int) (by decide +kernel) rfl rfl (Nat.le_of_ble_eq_true rfl) rfl dX7_run_22 (fun σ38 H locs f85 fr39 hH => ?_)
    have f86 : σ38 86 = aI E 87 v := (fr39 86 (by omega)).trans f86
    have f87 : σ38 87 = aI E 87 w := (fr39 87 (by omega)).trans f87
    have f90 : σ38 90 = aI E 696 hF := (fr39 90 (by omega)).trans f90
    have f91 : σ38 91 = aI E 15 mv := (fr39 91 (by omega)).trans f91
    have f92 : σ38 92 = aI E 25 F := (fr39 92 (by omega)).trans f92
    have f93 : σ38 93 = aI E 60 tx := (fr39 93 (by omega)).trans f93
    have f95 : σ38 95 = aI E 120 nu9_ := (fr39 95 (by omega)).trans f95
    refine x_iconst hx hb dX7_run_25 ?_
    subst hQ
    exact x_iret hx hb hr hlocks hH (Nat.le_of_ble_eq_true rfl) (Nat.le_of_ble_eq_true rfl) ⟨(by omega), ⟨v, w, hF, mv, F, nu9_, re, wr9_, fa, 1, sp9_, wr9_, to9_, to9_, f85, f86, f87, f90, f91, f92, f95, (by exact Or.inl ⟨hfe, c9, rfl, rfl, rfl, rfl, rfl⟩), (by exact hnr), (by exact hFr)⟩, fun j hj0 hj1 hj2 => ((fr39 j (by omega)).trans ((fr37 j (by omega)).trans (fr4 j (by omega) (by omega))))⟩ dX7_run_26
