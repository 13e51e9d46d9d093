def rm_X7_lowers : Room := { frames := 5, cells := 0, slots := 0, locals := 110 }
set_option maxRecDepth 100000 in
set_option maxHeartbeats 4000000 in
theorem c_X7_lowers (l : Launch) (E : xE) (ST : xST) (hSF : SF ST) (σ : xW) (k : Int) (t9 : Int) (op : Int → Int) (lk : Int → Int) (kp : Int → Int) (wc : Int → Int) (pn : Int) (nw : Int) (sh : Int) (wk : Int) (sv : Bool) (re : Int) (ea : Int) (fa : Int) (ty : Int) (li : Int) (th : Int) (sz : Int) (sp : Int) (wr : Int) (to : Int) (v : Int → Int) (F : Int → Int) (hr0 : mo E σ sv re ea fa ty li th sz sp wr to) (hr1 : now E σ v) (hr2 : far E σ F) (hC : Cp v op lk kp wc pn nw sh wk) (hB : BI op lk kp wc pn nw) (hk : 0 ≤ k ∧ k ≤ 24) (hI : rgI op t9 k 0 F) (hFr : ∀ j : Int, rg (F j)) : CV l E ST yX7_lowers wsX7_lowers rm_X7_lowers [.ref (xad E 85), .int (iZ k)] σ (fun (u : xW) => (∃ (F1 : Int → Int), far E u F1 ∧ (rgI op t9 k 4 F1) ∧ (∀ j : Int, rg (F1 j))) ∧ ∀ j : Nat, j ≠ 92 → u j = σ j) := by
  have f85 : σ 85 = oB 5 [.ref (xad E 86), .ref (xad E 87), .ref (xad E 88), .ref (xad E 89), .ref (xad E 90), .int (iZ (b2 sv)), .int (iZ re), .int (iZ ea), .int (iZ fa), .ref (xad E 91), .ref (xad E 92), .ref (xad E 93), .int (iZ ty), .ref (xad E 94), .int (iZ li), .int (iZ th), .int (iZ sz), .int (iZ sp), .int (iZ wr), .int (iZ to), .ref (xad E 95)] := hr0
  have f86 : σ 86 = aI E 87 v := hr1
  have f92 : σ 92 = aI E 25 F := hr2
  refine CV_of (by decide) rfl (Nat.le_of_ble_eq_true rfl) ?_
  intro p e s m args below meth c Q ls G hH hl hQ
  obtain ⟨hx, hb, hml, hown, hts, hK, hST, hlocks, hr, hno⟩ := G
  have hOK := hSF.1
  have hown : s.vm.findClass RX7 = some m.cls := hown
  have hl : lv_has ls 3 [(0, .ref (xad E 85)), (1, .int (iZ k))] := hl
  have hinX7 : ∀ w ∈ u_ws RX7 TX7 21, w ∈ wsX7_lowers := fun w h => (List.mem_cons_of_mem _ (List.mem_append_right _ h))
  obtain ⟨hop, hlk, hkp, hwc, hpn, hnw⟩ := id hB
  have hvR := hC.R
  have hv0 := hC.1.1
  refine x_iconst hx hb dX7_lowers_0 ?_
  refine lv_istore_n (lv' := [(2, .int (iZ 0)), (0, .ref (xad E 85)), (1, .int (iZ k))]) hx hb dX7_lowers_1 rfl hl (by decide) rfl (fun ls hl => ?_)
  have K2 : ∀ (nK : Nat) (dd : Int) (Fx : Int → Int) (σ1 : xW) (H : Heap) (locs : List Loc) (ls : Array Slot), (4 - dd).toNat < nK → (0 ≤ dd ∧ dd ≤ 4) → (rgI op t9 k dd Fx) → (∀ j : Int, rg (Fx j)) → σ1 85 = oB 5 [.ref (xad E 86), .ref (xad E 87), .ref (xad E 88), .ref (xad E 89), .ref (xad E 90), .int (iZ (b2 sv)), .int (iZ re), .int (iZ ea), .int (iZ fa), .ref (xad E 91), .ref (xad E 92), .ref (xad E 93), .int (iZ ty), .ref (xad E 94), .int (iZ li), .int (iZ th), .int (iZ sz), .int (iZ sp), .int (iZ wr), .int (iZ to), .ref (xad E 95)] → σ1 86 = aI E 87 v → σ1 92 = aI E 25 Fx → (∀ j : Nat, j ≠ 92 → σ1 j = σ j) → Hx E (xA E s.heap.size) s.heap σ1 H locs → lv_has ls 3 [(2, .int (iZ dd)), (0, .ref (xad E 85)), (1, .int (iZ k))] → W p l e rm_X7_lowers s m args below meth c H locs 0 0 Q (F0 m 2 ls []) := by
    intro n2
    induction n2 with
    | zero =>
      intro dd Fx σ1 H locs ls hm
      exact absurd hm (by first | exact Nat.not_lt_zero _ | omega)
    | succ n2 ih2 =>
      intro dd Fx σ1 H locs ls hm2 hdd hx9 hxr f85 f86 f92 fr2 hH hl
      refine lv_iload_n hx hb dX7_lowers_2 rfl (lv_at hl 0 rfl) ?_
      refine x_iconst hx hb dX7_lowers_3 ?_
      refine x_icmp_ge (tgt := 56) hx hb dX7_lowers_4 (by decide) (by omega) (by decide) (fun c4 => ?_) (fun c4 => ?_)
      · subst hQ
        exact x_vret hx hb hr hlocks hH (Nat.le_of_ble_eq_true rfl) (Nat.le_of_ble_eq_true rfl) ⟨⟨Fx, f92, (by have e9 : dd = 4 := (by omega); subst e9; exact hx9), (by exact hxr)⟩, fun j hj0 => (fr2 j (by omega))⟩ dX7_lowers_56
      · have hnr := nbZ_rg (c := k) (d := dd) hk.1 hk.2
        refine lv_aload_n hx hb dX7_lowers_7 rfl (lv_at hl 1 rfl) ?_
        refine x_get hx hb hts hown hK hH 85 (by decide) f85 hinX7 rfl 10 (by decide) (List.mem_of_getElem? (i := 1) rfl) rfl dX7_lowers_8 ?_
        refine lv_iload_n hx hb dX7_lowers_11 rfl (lv_at hl 2 rfl) ?_
        refine lv_aload_n hx hb dX7_lowers_12 rfl (lv_at hl 1 rfl) ?_
        refine lv_iload_n hx hb dX7_lowers_13 rfl (lv_at hl 2 rfl) ?_
        refine lv_iload_n hx hb dX7_lowers_14 rfl (lv_at hl 0 rfl) ?_
        refine x_cVID (As := [.int (iZ k), .int (iZ dd)]) (rest := [.int (iZ k), .ref (xad E 92)]) hx hb hml hts hown hK hST hOK hH 85 (c_X7_isJoined l E ST hSF σ1 k dd op lk kp wc pn nw sh wk sv re ea fa ty li th sz sp wr to v f85 f86 (by assumption) (by omega) (by omega) (by omega)) (cwV 2 hts gX7_lowers_X7_isJoined rfl rfl rfl (by decide +kernel) ⟨Nat.le_of_ble_eq_true rfl, Nat.le_of_ble_eq_true rfl⟩) (by decide) f85 rfl rfl hl.1 rfl (Nat.le_of_ble_eq_true rfl) dX7_lowers_15 ⟨Nat.le_of_ble_eq_true rfl, Nat.le_of_ble_eq_true rfl⟩ (fun z u h => h) (fun H locs hH => ?_)
        refine x_ifb_eq (tgt := 43) hx hb dX7_lowers_18 (by decide) (fun c18 => ?_) (fun c18 => ?_)
        · have c18 := of_decide_eq_false c18
          refine lv_aload_n hx hb dX7_lowers_43 rfl (lv_at hl 1 rfl) ?_
          refine x_get hx hb hts hown hK hH 85 (by decide) f85 hinX7 rfl 10 (by decide) (List.mem_of_getElem? (i := 1) rfl) rfl dX7_lowers_44 ?_
          refine lv_iload_n hx hb dX7_lowers_47 rfl (lv_at hl 2 rfl) ?_
          refine x_iald hx hb hK hH 92 (by decide) f92 (by omega) (by omega) (by omega) dX7_lowers_48 ?_
          have hv6 := hxr k
          refine x_iast hx hb hK hH 92 (by decide) f92 (by omega) (by omega) (by omega) dX7_lowers_49 (fun σ7 H locs f92 fr8 hH => ?_)
          have f85 : σ7 85 = oB 5 [.ref (xad E 86), .ref (xad E 87), .ref (xad E 88), .ref (xad E 89), .ref (xad E 90), .int (iZ (b2 sv)), .int (iZ re), .int (iZ ea), .int (iZ fa), .ref (xad E 91), .ref (xad E 92), .ref (xad E 93), .int (iZ ty), .ref (xad E 94), .int (iZ li), .int (iZ th), .int (iZ sz), .int (iZ sp), .int (iZ wr), .int (iZ to), .ref (xad E 95)] := (fr8 85 (by omega)).trans f85
          have f86 : σ7 86 = aI E 87 v := (fr8 86 (by omega)).trans f86
          refine x_iinc (lv' := [(2, .int (iZ (dd + 1))), (0, .ref (xad E 85)), (1, .int (iZ k))]) hx hb dX7_lowers_50 hl (k := 0) rfl (by decide) rfl (fun ls hl => ?_)
          refine lv_goto (tgt := 2) hx hb dX7_lowers_53 (by decide) ?_
          exact ih2 (dd + 1) (ui Fx k (Fx k)) σ7 _ _ _ (by omega) (by omega) (by first | exact rgI_low hx9 hk (by omega) (jo_nb c18) (by omega) rfl | (rw [ui_id]; exact rgI_same hx9 (Classical.not_not.mp c18))) (by refine ui_rg hxr ?_; first | exact hxr _ | (split <;> exact hxr _)) f85 f86 f92 (fun j hj0 => ((fr8 j (by omega)).trans (fr2 j (by omega)))) hH (lv_sub hl [0, 1, 2] rfl)
        · have c18 := of_decide_eq_true c18
          have hjn := (jo_iff.mp c18).1
          refine lv_aload_n hx hb dX7_lowers_21 rfl (lv_at hl 1 rfl) ?_
          refine x_get hx hb hts hown hK hH 85 (by decide) f85 hinX7 rfl 10 (by decide) (List.mem_of_getElem? (i := 1) rfl) rfl dX7_lowers_22 ?_
          refine lv_iload_n hx hb dX7_lowers_25 rfl (lv_at hl 2 rfl) ?_
          refine x_iald hx hb hK hH 92 (by decide) f92 (by omega) (by omega) (by omega) dX7_lowers_26 ?_
          have hv9 := hxr k
          refine lv_aload_n hx hb dX7_lowers_27 rfl (lv_at hl 1 rfl) ?_
          refine x_get hx hb hts hown hK hH 85 (by decide) f85 hinX7 rfl 10 (by decide) (List.mem_of_getElem? (i := 1) rfl) rfl dX7_lowers_28 ?_
          refine lv_iload_n hx hb dX7_lowers_31 rfl (lv_at hl 2 rfl) ?_
          refine lv_iload_n hx hb dX7_lowers_32 rfl (lv_at hl 0 rfl) ?_
          refine x_cSID (As := [.int (iZ k), .int (iZ dd)]) (rest := [.ref (xad E 92), .int (iZ (Fx k)), .int (iZ k), .ref (xad E 92)]) hx hb hml hts hown hK hST hOK hH (c_X7_beside l E ST hSF σ1 k dd  (by omega) (by omega)) (va_cwS 2 hts gX7_lowers_X7_beside rfl rfl rfl (by decide +kernel) ⟨Nat.le_of_ble_eq_true rfl, Nat.le_of_ble_eq_true rfl⟩) rfl hl.1 rfl (Nat.le_of_ble_eq_true rfl) dX7_lowers_33 ⟨Nat.le_of_ble_eq_true rfl, Nat.le_of_ble_eq_true rfl⟩ (fun z u h => h) (fun H locs hH => ?_)
          refine x_iald hx hb hK hH 92 (by decide) f92 (by omega) (by omega) (by omega) dX7_lowers_36 ?_
          have hv13 := hxr (nbZ k dd)
          refine x_min hx hb hml hown hts (List.mem_of_getElem? (i := 2) rfl) (List.mem_of_getElem? (i := 3) rfl) (List.mem_of_getElem? (i := 4) rfl) (List.mem_of_getElem? (i := 5) rfl) hl.1 (Nat.le_of_ble_eq_true rfl) (Nat.le_of_ble_eq_true rfl) (Nat.le_of_ble_eq_true rfl) (Nat.le_of_ble_eq_true rfl) (by omega) (by omega) dX7_lowers_37 ?_
          refine lv_goto (tgt := 49) hx hb dX7_lowers_40 (by decide) ?_
          refine x_iast hx hb hK hH 92 (by decide) f92 (by omega) (by omega) (by omega) dX7_lowers_49 (fun σ14 H locs f92 fr15 hH => ?_)
          have f85 : σ14 85 = oB 5 [.ref (xad E 86), .ref (xad E 87), .ref (xad E 88), .ref (xad E 89), .ref (xad E 90), .int (iZ (b2 sv)), .int (iZ re), .int (iZ ea), .int (iZ fa), .ref (xad E 91), .ref (xad E 92), .ref (xad E 93), .int (iZ ty), .ref (xad E 94), .int (iZ li), .int (iZ th), .int (iZ sz), .int (iZ sp), .int (iZ wr), .int (iZ to), .ref (xad E 95)] := (fr15 85 (by omega)).trans f85
          have f86 : σ14 86 = aI E 87 v := (fr15 86 (by omega)).trans f86
          refine x_iinc (lv' := [(2, .int (iZ (dd + 1))), (0, .ref (xad E 85)), (1, .int (iZ k))]) hx hb dX7_lowers_50 hl (k := 0) rfl (by decide) rfl (fun ls hl => ?_)
          refine lv_goto (tgt := 2) hx hb dX7_lowers_53 (by decide) ?_
          exact ih2 (dd + 1) (ui Fx k (if (Fx (nbZ k dd)) < (Fx k) then (Fx (nbZ k dd)) else (Fx k))) σ14 _ _ _ (by omega) (by omega) (by first | exact rgI_low hx9 hk (by omega) (jo_nb c18) (by omega) rfl | (rw [ui_id]; exact rgI_same hx9 (Classical.not_not.mp c18))) (by refine ui_rg hxr ?_; first | exact hxr _ | (split <;> exact hxr _)) f85 f86 f92 (fun j hj0 => ((fr15 j (by omega)).trans (fr2 j (by omega)))) hH (lv_sub hl [0, 1, 2] rfl)
  exact K2 5 0 F σ _ _ _ (by first | omega | decide) (by omega) (by exact hI) (by exact hFr) f85 f86 f92 (fun j _ => rfl) hH (lv_sub hl [0, 1, 2] rfl)

def rm_X7_regions : Room := { frames := 6, cells := 0, slots := 0, locals := 132 }
set_option maxRecDepth 100000 in
set_option maxHeartbeats 4000000 in
theorem c_X7_regions (l : Launch) (E : xE) (ST : xST) (hSF : SF ST) (σ : xW) (op : Int → Int) (lk : Int → Int) (kp : Int → Int) (wc : Int → Int) (pn : Int) (nw : Int) (sh : Int) (wk : Int) (sv : Bool) (re : Int) (ea : Int) (fa : Int) (ty : Int) (li : Int) (th : Int) (sz : Int) (sp : Int) (wr : Int) (to : Int) (v : Int → Int) (F : Int → Int) (hr0 : mo E σ sv re ea fa ty li th sz sp wr to) (hr1 : now E σ v) (hr2 : far E σ F) (hC : Cp v op lk kp wc pn nw sh wk) (hB : BI op lk kp wc pn nw) (hFr : ∀ j : Int, rg (F j)) : CI l E ST yX7_regions wsX7_regions rm_X7_regions [.ref (xad E 85)] σ (fun (z : Int) (u : xW) => z = ngZ op ∧ (∃ (F1 : Int → Int), mo E u sv re ea fa ty li 0 sz sp wr to ∧ now E u v ∧ far E u F1 ∧ (∀ j : Int, rg (F1 j))) ∧ ∀ j : Nat, j ≠ 85 → j ≠ 92 → u j = σ j) := by
  have f85 : σ 85 = oB 5 [.ref (xad E 86), .ref (xad E 87), .ref (xad E 88), .ref (xad E 89), .ref (xad E 90), .int (iZ (b2 sv)), .int (iZ re), .int (iZ ea), .int (iZ fa), .ref (xad E 91), .ref (xad E 92), .ref (xad E 93), .int (iZ ty), .ref (xad E 94), .int (iZ li), .int (iZ th), .int (iZ sz), .int (iZ sp), .int (iZ wr), .int (iZ to), .ref (xad E 95)] := hr0
  have f86 : σ 86 = aI E 87 v := hr1
  have f92 : σ 92 = aI E 25 F := hr2
  refine CI_of (by decide) rfl (Nat.le_of_ble_eq_true rfl) ?_
  intro p e s m args below meth c Q ls G hH hl hQ
  obtain ⟨hx, hb, hml, hown, hts, hK, hST, hlocks, hr, hno⟩ := G
  have hOK := hSF.1
  have hown : s.vm.findClass RX7 = some m.cls := hown
  have hl : lv_has ls 3 [(0, .ref (xad E 85))] := hl
  have hinX7 : ∀ w ∈ u_ws RX7 TX7 21, w ∈ wsX7_regions := fun w h => (List.mem_cons_of_mem _ (List.mem_append_right _ h))
  obtain ⟨hop, hlk, hkp, hwc, hpn, hnw⟩ := id hB
  have hvR := hC.R
  have hv0 := hC.1.1
  refine lv_aload_n hx hb dX7_regions_0 rfl (lv_at hl 0 rfl) ?_
  refine x_iconst hx hb dX7_regions_1 ?_
  refine x_put (fs' := [.ref (xad E 86), .ref (xad E 87), .ref (xad E 88), .ref (xad E 89), .ref (xad E 90), .int (iZ (b2 sv)), .int (iZ re), .int (iZ ea), .int (iZ fa), .ref (xad E 91), .ref (xad E 92), .ref (xad E 93), .int (iZ ty), .ref (xad E 94), .int (iZ li), .int (iZ 0), .int (iZ sz), .int (iZ sp), .int (iZ wr), .int (iZ to), .ref (xad E 95)]) hx hb hts hown hK hH 85 (by decide) f85 hinX7 rfl tyX7 tyX7_ok nmX7 15 (by decide) (List.mem_of_getElem? (i := 1) rfl) rfl (ty := .int) (by decide +kernel) rfl rfl (Nat.le_of_ble_eq_true rfl) rfl dX7_regions_2 (fun σ1 H locs f85 fr2 hH => ?_)
  have f86 : σ1 86 = aI E 87 v := (fr2 86 (by omega)).trans f86
  have f92 : σ1 92 = aI E 25 F := (fr2 92 (by omega)).trans f92
  refine x_iconst hx hb dX7_regions_5 ?_
  refine lv_istore_n (lv' := [(1, .int (iZ 0)), (0, .ref (xad E 85))]) hx hb dX7_regions_6 rfl hl (by decide) rfl (fun ls hl => ?_)
  have K7 : ∀ (nK : Nat) (i : Int) (Fx : Int → Int) (σ3 : xW) (H : Heap) (locs : List Loc) (ls : Array Slot), (25 - i).toNat < nK → (0 ≤ i ∧ i ≤ 25) → (∀ c : Int, 0 ≤ c → c < i → Fx c = c) → (∀ j : Int, rg (Fx j)) → σ3 85 = oB 5 [.ref (xad E 86), .ref (xad E 87), .ref (xad E 88), .ref (xad E 89), .ref (xad E 90), .int (iZ (b2 sv)), .int (iZ re), .int (iZ ea), .int (iZ fa), .ref (xad E 91), .ref (xad E 92), .ref (xad E 93), .int (iZ ty), .ref (xad E 94), .int (iZ li), .int (iZ 0), .int (iZ sz), .int (iZ sp), .int (iZ wr), .int (iZ to), .ref (xad E 95)] → σ3 86 = aI E 87 v → σ3 92 = aI E 25 Fx → (∀ j : Nat, j ≠ 92 → σ3 j = σ1 j) → Hx E (xA E s.heap.size) s.heap σ3 H locs → lv_has ls 3 [(1, .int (iZ i)), (0, .ref (xad E 85))] → W p l e rm_X7_regions s m args below meth c H locs 0 0 Q (F0 m 7 ls []) := by
    intro n7
    induction n7 with
    | zero =>
      intro i Fx σ3 H locs ls hm
      exact absurd hm (by first | exact Nat.not_lt_zero _ | omega)
    | succ n7 ih7 =>
      intro i Fx σ3 H locs ls hm7 hi hxx hxr f85 f86 f92 fr4 hH hl
      refine lv_iload_n hx hb dX7_regions_7 rfl (lv_at hl 0 rfl) ?_
      refine x_bipush hx hb dX7_regions_8 (by decide) ?_
      refine x_icmp_ge (tgt := 26) hx hb dX7_regions_10 (by decide) (by omega) (by decide) (fun c10 => ?_) (fun c10 => ?_)
      · refine x_iconst hx hb dX7_regions_26 ?_
        refine lv_istore_n (lv' := [(1, .int (iZ 0)), (0, .ref (xad E 85))]) hx hb dX7_regions_27 rfl hl (by decide) rfl (fun ls hl => ?_)
        have K28 : ∀ (nK : Nat) (t9 : Int) (Fy : Int → Int) (σ5 : xW) (H : Heap) (locs : List Loc) (ls : Array Slot), (25 - t9).toNat < nK → (0 ≤ t9 ∧ t9 ≤ 25) → (rgI op t9 0 0 Fy) → (∀ j : Int, rg (Fy j)) → σ5 85 = oB 5 [.ref (xad E 86), .ref (xad E 87), .ref (xad E 88), .ref (xad E 89), .ref (xad E 90), .int (iZ (b2 sv)), .int (iZ re), .int (iZ ea), .int (iZ fa), .ref (xad E 91), .ref (xad E 92), .ref (xad E 93), .int (iZ ty), .ref (xad E 94), .int (iZ li), .int (iZ 0), .int (iZ sz), .int (iZ sp), .int (iZ wr), .int (iZ to), .ref (xad E 95)] → σ5 86 = aI E 87 v → σ5 92 = aI E 25 Fy → (∀ j : Nat, j ≠ 92 → σ5 j = σ3 j) → Hx E (xA E s.heap.size) s.heap σ5 H locs → lv_has ls 3 [(1, .int (iZ t9)), (0, .ref (xad E 85))] → W p l e rm_X7_regions s m args below meth c H locs 0 0 Q (F0 m 28 ls []) := by
          intro n28
          induction n28 with
          | zero =>
            intro t9 Fy σ5 H locs ls hm
            exact absurd hm (by first | exact Nat.not_lt_zero _ | omega)
          | succ n28 ih28 =>
            intro t9 Fy σ5 H locs ls hm28 ht9 hyI hyr f85 f86 f92 fr6 hH hl
            refine lv_iload_n hx hb dX7_regions_28 rfl (lv_at hl 0 rfl) ?_
            refine x_bipush hx hb dX7_regions_29 (by decide) ?_
            refine x_icmp_ge (tgt := 59) hx hb dX7_regions_31 (by decide) (by omega) (by decide) (fun c31 => ?_) (fun c31 => ?_)
            · refine x_iconst hx hb dX7_regions_59 ?_
              refine lv_istore_n (lv' := [(1, .int (iZ 0)), (0, .ref (xad E 85))]) hx hb dX7_regions_60 rfl hl (by decide) rfl (fun ls hl => ?_)
              refine x_iconst hx hb dX7_regions_61 ?_
              refine lv_istore_n (lv' := [(2, .int (iZ 0)), (1, .int (iZ 0)), (0, .ref (xad E 85))]) hx hb dX7_regions_62 rfl hl (by decide) rfl (fun ls hl => ?_)
              have K63 : ∀ (nK : Nat) (cnt i2 : Int) (H : Heap) (locs : List Loc) (ls : Array Slot), (25 - i2).toNat < nK → (0 ≤ i2 ∧ i2 ≤ 25) → (cnt = cnbK (fun c => decide (Fy c = c)) i2) → (0 ≤ cnt ∧ cnt ≤ i2) → Hx E (xA E s.heap.size) s.heap σ5 H locs → lv_has ls 3 [(2, .int (iZ i2)), (1, .int (iZ cnt)), (0, .ref (xad E 85))] → W p l e rm_X7_regions s m args below meth c H locs 0 0 Q (F0 m 63 ls []) := by
                intro n63
                induction n63 with
                | zero =>
                  intro cnt i2 H locs ls hm
                  exact absurd hm (by first | exact Nat.not_lt_zero _ | omega)
                | succ n63 ih63 =>
                  intro cnt i2 H locs ls hm63 hi2 hcnt hcb  hH hl
                  refine lv_iload_n hx hb dX7_regions_63 rfl (lv_at hl 0 rfl) ?_
                  refine x_bipush hx hb dX7_regions_64 (by decide) ?_
                  refine x_icmp_ge (tgt := 93) hx hb dX7_regions_66 (by decide) (by omega) (by decide) (fun c66 => ?_) (fun c66 => ?_)
                  · refine lv_iload_n hx hb dX7_regions_93 rfl (lv_at hl 1 rfl) ?_
                    subst hQ
                    exact x_iret hx hb hr hlocks hH (Nat.le_of_ble_eq_true rfl) (Nat.le_of_ble_eq_true rfl) ⟨(show cnt = (ngZ op) from (by have e9 : i2 = 25 := (by omega); subst e9; have e8 : t9 = 25 := (by omega); subst e8; rw [hcnt]; exact rgI_ng hyI)), ⟨Fy, f85, f86, f92, (by exact hyr)⟩, fun j hj0 hj1 => ((fr6 j (by omega)).trans ((fr4 j (by omega)).trans (fr2 j (by omega))))⟩ dX7_regions_94
                  · refine lv_iload_n hx hb dX7_regions_69 rfl (lv_at hl 1 rfl) ?_
                    refine lv_aload_n hx hb dX7_regions_70 rfl (lv_at hl 2 rfl) ?_
                    refine x_get hx hb hts hown hK hH 85 (by decide) f85 hinX7 rfl 10 (by decide) (List.mem_of_getElem? (i := 2) rfl) rfl dX7_regions_71 ?_
                    refine lv_iload_n hx hb dX7_regions_74 rfl (lv_at hl 0 rfl) ?_
                    refine x_iald hx hb hK hH 92 (by decide) f92 (by omega) (by omega) (by omega) dX7_regions_75 ?_
                    have hv8 := hyr i2
                    refine lv_iload_n hx hb dX7_regions_76 rfl (lv_at hl 0 rfl) ?_
                    refine x_icmp_ne (tgt := 84) hx hb dX7_regions_77 (by decide) (by omega) (by omega) (fun c77 => ?_) (fun c77 => ?_)
                    · refine x_iconst hx hb dX7_regions_84 ?_
                      refine x_iadd hx hb dX7_regions_85 ?_
                      refine lv_istore_n (lv' := [(1, .int (iZ (cnt + 0))), (2, .int (iZ i2)), (0, .ref (xad E 85))]) hx hb dX7_regions_86 rfl hl (by decide) rfl (fun ls hl => ?_)
                      refine x_iinc (lv' := [(2, .int (iZ (i2 + 1))), (1, .int (iZ (cnt + 0))), (0, .ref (xad E 85))]) hx hb dX7_regions_87 hl (k := 1) rfl (by decide) rfl (fun ls hl => ?_)
                      refine lv_goto (tgt := 63) hx hb dX7_regions_90 (by decide) ?_
                      exact ih63 (cnt + 0) (i2 + 1) _ _ _ (by omega) (by omega) (by rw [cnbK_s hi2.1, ← hcnt, b2_dec]; first | rw [if_pos c77] | rw [if_neg c77]) (by omega)  hH (lv_sub hl [0, 1, 2] rfl)
                    · refine x_iconst hx hb dX7_regions_80 ?_
                      refine lv_goto (tgt := 85) hx hb dX7_regions_81 (by decide) ?_
                      refine x_iadd hx hb dX7_regions_85 ?_
                      refine lv_istore_n (lv' := [(1, .int (iZ (cnt + 1))), (2, .int (iZ i2)), (0, .ref (xad E 85))]) hx hb dX7_regions_86 rfl hl (by decide) rfl (fun ls hl => ?_)
                      refine x_iinc (lv' := [(2, .int (iZ (i2 + 1))), (1, .int (iZ (cnt + 1))), (0, .ref (xad E 85))]) hx hb dX7_regions_87 hl (k := 1) rfl (by decide) rfl (fun ls hl => ?_)
                      refine lv_goto (tgt := 63) hx hb dX7_regions_90 (by decide) ?_
                      exact ih63 (cnt + 1) (i2 + 1) _ _ _ (by omega) (by omega) (by rw [cnbK_s hi2.1, ← hcnt, b2_dec]; first | rw [if_pos c77] | rw [if_neg c77]) (by omega)  hH (lv_sub hl [0, 1, 2] rfl)
              exact K63 26 0 0 _ _ _ (by first | omega | decide) (by omega) (by rfl) (by omega)  hH (lv_sub hl [0, 1, 2] rfl)
            · refine x_iconst hx hb dX7_regions_34 ?_
              refine lv_istore_n (lv' := [(2, .int (iZ 0)), (1, .int (iZ t9)), (0, .ref (xad E 85))]) hx hb dX7_regions_35 rfl hl (by decide) rfl (fun ls hl => ?_)
              have K36 : ∀ (nK : Nat) (k9 : Int) (Fz : Int → Int) (σ9 : xW) (H : Heap) (locs : List Loc) (ls : Array Slot), (25 - k9).toNat < nK → (0 ≤ k9 ∧ k9 ≤ 25) → (rgI op t9 k9 0 Fz) → (∀ j : Int, rg (Fz j)) → σ9 85 = oB 5 [.ref (xad E 86), .ref (xad E 87), .ref (xad E 88), .ref (xad E 89), .ref (xad E 90), .int (iZ (b2 sv)), .int (iZ re), .int (iZ ea), .int (iZ fa), .ref (xad E 91), .ref (xad E 92), .ref (xad E 93), .int (iZ ty), .ref (xad E 94), .int (iZ li), .int (iZ 0), .int (iZ sz), .int (iZ sp), .int (iZ wr), .int (iZ to), .ref (xad E 95)] → σ9 86 = aI E 87 v → σ9 92 = aI E 25 Fz → (∀ j : Nat, j ≠ 92 → σ9 j = σ5 j) → Hx E (xA E s.heap.size) s.heap σ9 H locs → lv_has ls 3 [(2, .int (iZ k9)), (1, .int (iZ t9)), (0, .ref (xad E 85))] → W p l e rm_X7_regions s m args below meth c H locs 0 0 Q (F0 m 36 ls []) := by
                intro n36
                induction n36 with
                | zero =>
                  intro k9 Fz σ9 H locs ls hm
                  exact absurd hm (by first | exact Nat.not_lt_zero _ | omega)
                | succ n36 ih36 =>
                  intro k9 Fz σ9 H locs ls hm36 hk9 hzI hzr f85 f86 f92 fr10 hH hl
                  refine lv_iload_n hx hb dX7_regions_36 rfl (lv_at hl 0 rfl) ?_
                  refine x_bipush hx hb dX7_regions_37 (by decide) ?_
                  refine x_icmp_ge (tgt := 53) hx hb dX7_regions_39 (by decide) (by omega) (by decide) (fun c39 => ?_) (fun c39 => ?_)
                  · refine x_iinc (lv' := [(1, .int (iZ (t9 + 1))), (2, .int (iZ k9)), (0, .ref (xad E 85))]) hx hb dX7_regions_53 hl (k := 1) rfl (by decide) rfl (fun ls hl => ?_)
                    refine lv_goto (tgt := 28) hx hb dX7_regions_56 (by decide) ?_
                    exact ih28 (t9 + 1) Fz σ9 _ _ _ (by omega) (by omega) (by have e9 : k9 = 25 := (by omega); subst e9; exact rgI_t hzI) (by exact hzr) f85 f86 f92 (fun j hj0 => ((fr10 j (by omega)).trans (fr6 j (by omega)))) hH (lv_sub hl [0, 2] rfl)
                  · refine lv_aload_n hx hb dX7_regions_42 rfl (lv_at hl 2 rfl) ?_
                    refine lv_iload_n hx hb dX7_regions_43 rfl (lv_at hl 0 rfl) ?_
                    refine x_cVV (As := [.int (iZ k9)]) (rest := []) hx hb hml hts hown hK hST hOK hH 85 (c_X7_lowers l E ST hSF σ9 k9 t9 op lk kp wc pn nw sh wk sv re ea fa ty li 0 sz sp wr to v Fz f85 f86 f92 (by assumption) (by omega) (by omega) hzI (by assumption)) (cwV 1 hts gX7_regions_X7_lowers rfl rfl rfl (by decide +kernel) ⟨Nat.le_of_ble_eq_true rfl, Nat.le_of_ble_eq_true rfl⟩) (by decide) f85 rfl rfl hl.1 rfl (Nat.le_of_ble_eq_true rfl) dX7_regions_44 ⟨Nat.le_of_ble_eq_true rfl, Nat.le_of_ble_eq_true rfl⟩ (fun σ12 H locs hp13 hH => ?_)
                    obtain ⟨⟨F1_15, f92, hnI, hnr⟩, fr14⟩ := hp13
                    have f85 : σ12 85 = oB 5 [.ref (xad E 86), .ref (xad E 87), .ref (xad E 88), .ref (xad E 89), .ref (xad E 90), .int (iZ (b2 sv)), .int (iZ re), .int (iZ ea), .int (iZ fa), .ref (xad E 91), .ref (xad E 92), .ref (xad E 93), .int (iZ ty), .ref (xad E 94), .int (iZ li), .int (iZ 0), .int (iZ sz), .int (iZ sp), .int (iZ wr), .int (iZ to), .ref (xad E 95)] := (fr14 85 (by omega)).trans f85
                    have f86 : σ12 86 = aI E 87 v := (fr14 86 (by omega)).trans f86
                    refine x_iinc (lv' := [(2, .int (iZ (k9 + 1))), (1, .int (iZ t9)), (0, .ref (xad E 85))]) hx hb dX7_regions_47 hl (k := 0) rfl (by decide) rfl (fun ls hl => ?_)
                    refine lv_goto (tgt := 36) hx hb dX7_regions_50 (by decide) ?_
                    exact ih36 (k9 + 1) F1_15 σ12 _ _ _ (by omega) (by omega) (by exact rgI_k ht9.1 (by omega) hnI) (by exact hnr) f85 f86 f92 (fun j hj0 => ((fr14 j (by omega)).trans (fr10 j (by omega)))) hH (lv_sub hl [0, 1, 2] rfl)
              exact K36 26 0 Fy σ5 _ _ _ (by first | omega | decide) (by omega) (by exact hyI) (by exact hyr) f85 f86 f92 (fun j _ => rfl) hH (lv_sub hl [0, 1, 2] rfl)
        exact K28 26 0 Fx σ3 _ _ _ (by first | omega | decide) (by omega) (by exact rgI_0 (fun c h0 h1 => hxx c h0 (by omega))) (by exact hxr) f85 f86 f92 (fun j _ => rfl) hH (lv_sub hl [0, 1] rfl)
      · refine lv_aload_n hx hb dX7_regions_13 rfl (lv_at hl 1 rfl) ?_
        refine x_get hx hb hts hown hK hH 85 (by decide) f85 hinX7 rfl 10 (by decide) (List.mem_of_getElem? (i := 2) rfl) rfl dX7_regions_14 ?_
        refine lv_iload_n hx hb dX7_regions_17 rfl (lv_at hl 0 rfl) ?_
        refine lv_iload_n hx hb dX7_regions_18 rfl (lv_at hl 0 rfl) ?_
        refine x_iast hx hb hK hH 92 (by decide) f92 (by omega) (by omega) (by omega) dX7_regions_19 (fun σ17 H locs f92 fr18 hH => ?_)
        have f85 : σ17 85 = oB 5 [.ref (xad E 86), .ref (xad E 87), .ref (xad E 88), .ref (xad E 89), .ref (xad E 90), .int (iZ (b2 sv)), .int (iZ re), .int (iZ ea), .int (iZ fa), .ref (xad E 91), .ref (xad E 92), .ref (xad E 93), .int (iZ ty), .ref (xad E 94), .int (iZ li), .int (iZ 0), .int (iZ sz), .int (iZ sp), .int (iZ wr), .int (iZ to), .ref (xad E 95)] := (fr18 85 (by omega)).trans f85
        have f86 : σ17 86 = aI E 87 v := (fr18 86 (by omega)).trans f86
        refine x_iinc (lv' := [(1, .int (iZ (i + 1))), (0, .ref (xad E 85))]) hx hb dX7_regions_20 hl (k := 0) rfl (by decide) rfl (fun ls hl => ?_)
        refine lv_goto (tgt := 7) hx hb dX7_regions_23 (by decide) ?_
        exact ih7 (i + 1) (ui Fx i i) σ17 _ _ _ (by omega) (by omega) (by intro c h0 h1; by_cases e : c = i; (rw [e, ui_s]); (rw [ui_n e]; exact hxx c h0 (by omega))) (by exact ui_rg hxr (by unfold rg; omega)) f85 f86 f92 (fun j hj0 => ((fr18 j (by omega)).trans (fr4 j (by omega)))) hH (lv_sub hl [0, 1] rfl)
  exact K7 26 0 F σ1 _ _ _ (by first | omega | decide) (by omega) (by intro c h0 h1; omega) (by exact hFr) f85 f86 f92 (fun j _ => rfl) hH (lv_sub hl [0, 1] rfl)

def rm_X7_regionCount : Room := { frames := 7, cells := 0, slots := 0, locals := 154 }
set_option maxRecDepth 100000 in
set_option maxHeartbeats 4000000 in
theorem c_X7_regionCount (l : Launch) (E : xE) (ST : xST) (hSF : SF ST) (σ : xW) (op : Int → Int) (lk : Int → Int) (kp : Int → Int) (wc : Int → Int) (pn : Int) (nw : Int) (sh : Int) (wk : Int) (sv : Bool) (re : Int) (ea : Int) (fa : Int) (ty : Int) (li : Int) (th : Int) (sz : Int) (sp : Int) (wr : Int) (to : Int) (v : Int → Int) (F : Int → Int) (hr0 : mo E σ sv re ea fa ty li th sz sp wr to) (hr1 : now E σ v) (hr2 : far E σ F) (hC : Cp v op lk kp wc pn nw sh wk) (hB : BI op lk kp wc pn nw) (hFr : ∀ j : Int, rg (F j)) : CI l E ST yX7_regionCount wsX7_regionCount rm_X7_regionCount [.ref (xad E 85)] σ (fun (z : Int) (u : xW) => z = ngZ op ∧ (∃ (F1 : Int → Int), mo E u sv re ea fa ty li 0 sz sp wr to ∧ now E u v ∧ far E u F1 ∧ (∀ j : Int, rg (F1 j))) ∧ ∀ j : Nat, j ≠ 85 → j ≠ 92 → u j = σ j) := by
  have f85 : σ 85 = oB 5 [.ref (xad E 86), .ref (xad E 87), .ref (xad E 88), .ref (xad E 89), .ref (xad E 90), .int (iZ (b2 sv)), .int (iZ re), .int (iZ ea), .int (iZ fa), .ref (xad E 91), .ref (xad E 92), .ref (xad E 93), .int (iZ ty), .ref (xad E 94), .int (iZ li), .int (iZ th), .int (iZ sz), .int (iZ sp), .int (iZ wr), .int (iZ to), .ref (xad E 95)] := hr0
  have f86 : σ 86 = aI E 87 v := hr1
  have f92 : σ 92 = aI E 25 F := hr2
  refine CI_of (by decide) rfl (Nat.le_of_ble_eq_true rfl) ?_
  intro p e s m args below meth c Q ls G hH hl hQ
  obtain ⟨hx, hb, hml, hown, hts, hK, hST, hlocks, hr, hno⟩ := G
  have hOK := hSF.1
  have hown : s.vm.findClass RX7 = some m.cls := hown
  have hl : lv_has ls 1 [(0, .ref (xad E 85))] := hl
  obtain ⟨hop, hlk, hkp, hwc, hpn, hnw⟩ := id hB
  have hvR := hC.R
  have hv0 := hC.1.1
  refine lv_aload_n hx hb dX7_regionCount_0 rfl (lv_at hl 0 rfl) ?_
  refine x_cVIE (As := []) (rest := []) hx hb hml hts hown hK hST hOK hH 85 (c_X7_regions l E ST hSF σ op lk kp wc pn nw sh wk sv re ea fa ty li th sz sp wr to v F f85 f86 f92 (by assumption) (by omega) (by assumption)) (cwV 0 hts gX7_regionCount_X7_regions rfl rfl rfl (by decide +kernel) ⟨Nat.le_of_ble_eq_true rfl, Nat.le_of_ble_eq_true rfl⟩) (by decide) f85 rfl rfl hl.1 rfl (Nat.le_of_ble_eq_true rfl) dX7_regionCount_1 ⟨Nat.le_of_ble_eq_true rfl, Nat.le_of_ble_eq_true rfl⟩ (fun z u h => h) (fun σ2 H locs hp3 hH => ?_)
  obtain ⟨⟨F1_5, f85, f86, f92, hf6⟩, fr4⟩ := hp3
  subst hQ
  exact x_iret hx hb hr hlocks hH (Nat.le_of_ble_eq_true rfl) (Nat.le_of_ble_eq_true rfl) ⟨(show (ngZ op) = (ngZ op) from (by first | rfl | omega | simp_all)), ⟨F1_5, f85, f86, f92, (by first | assumption | omega | simp_all)⟩, fun j hj0 hj1 => (fr4 j (by omega) (by omega))⟩ dX7_regionCount_4

def rm_X7_regionCountByMerging : Room := { frames := 7, cells := 0, slots := 0, locals := 154 }
set_option maxRecDepth 100000 in
set_option maxHeartbeats 4000000 in
theorem c_X7_regionCountByMerging (l : Launch) (E : xE) (ST : xST) (hSF : SF ST) (σ : xW) (op : Int → Int) (lk : Int → Int) (kp : Int → Int) (wc : Int → Int) (pn : Int) (nw : Int) (sh : Int) (wk : Int) (sv : Bool) (re : Int) (ea : Int) (fa : Int) (ty : Int) (li : Int) (th : Int) (sz : Int) (sp : Int) (wr : Int) (to : Int) (v : Int → Int) (F : Int → Int) (hr0 : mo E σ sv re ea fa ty li th sz sp wr to) (hr1 : now E σ v) (hr2 : far E σ F) (hC : Cp v op lk kp wc pn nw sh wk) (hB : BI op lk kp wc pn nw) (hFr : ∀ j : Int, rg (F j)) : CI l E ST yX7_regionCountByMerging wsX7_regionCountByMerging rm_X7_regionCountByMerging [.ref (xad E 85)] σ (fun (z : Int) (u : xW) => z = ngZ op ∧ (∃ (F1 : Int → Int), mo E u sv re ea fa ty li 0 sz sp wr to ∧ now E u v ∧ far E u F1 ∧ (∀ j : Int, rg (F1 j))) ∧ ∀ j : Nat, j ≠ 85 → j ≠ 92 → u j = σ j) := by
  have f85 : σ 85 = oB 5 [.ref (xad E 86), .ref (xad E 87), .ref (xad E 88), .ref (xad E 89), .ref (xad E 90), .int (iZ (b2 sv)), .int (iZ re), .int (iZ ea), .int (iZ fa), .ref (xad E 91), .ref (xad E 92), .ref (xad E 93), .int (iZ ty), .ref (xad E 94), .int (iZ li), .int (iZ th), .int (iZ sz), .int (iZ sp), .int (iZ wr), .int (iZ to), .ref (xad E 95)] := hr0
  have f86 : σ 86 = aI E 87 v := hr1
  have f92 : σ 92 = aI E 25 F := hr2
  refine CI_of (by decide) rfl (Nat.le_of_ble_eq_true rfl) ?_
  intro p e s m args below meth c Q ls G hH hl hQ
  obtain ⟨hx, hb, hml, hown, hts, hK, hST, hlocks, hr, hno⟩ := G
  have hOK := hSF.1
  have hown : s.vm.findClass RX7 = some m.cls := hown
  have hl : lv_has ls 1 [(0, .ref (xad E 85))] := hl
  obtain ⟨hop, hlk, hkp, hwc, hpn, hnw⟩ := id hB
  have hvR := hC.R
  have hv0 := hC.1.1
  refine lv_aload_n hx hb dX7_regionCountByMerging_0 rfl (lv_at hl 0 rfl) ?_
  refine x_cVIE (As := []) (rest := []) hx hb hml hts hown hK hST hOK hH 85 (c_X7_regions l E ST hSF σ op lk kp wc pn nw sh wk sv re ea fa ty li th sz sp wr to v F f85 f86 f92 (by assumption) (by omega) (by assumption)) (cwV 0 hts gX7_regionCountByMerging_X7_regions rfl rfl rfl (by decide +kernel) ⟨Nat.le_of_ble_eq_true rfl, Nat.le_of_ble_eq_true rfl⟩) (by decide) f85 rfl rfl hl.1 rfl (Nat.le_of_ble_eq_true rfl) dX7_regionCountByMerging_1 ⟨Nat.le_of_ble_eq_true rfl, Nat.le_of_ble_eq_true rfl⟩ (fun z u h => h) (fun σ2 H locs hp3 hH => ?_)
  obtain ⟨⟨F1_5, f85, f86, f92, hf6⟩, fr4⟩ := hp3
  subst hQ
  exact x_iret hx hb hr hlocks hH (Nat.le_of_ble_eq_true rfl) (Nat.le_of_ble_eq_true rfl) ⟨(show (ngZ op) = (ngZ op) from (by first | rfl | omega | simp_all)), ⟨F1_5, f85, f86, f92, (by first | assumption | omega | simp_all)⟩, fun j hj0 hj1 => (fr4 j (by omega) (by omega))⟩ dX7_regionCountByMerging_4

def rm_X7_firstStep : Room := { frames := 8, cells := 0, slots := 0, locals := 181 }
set_option maxRecDepth 100000 in
set_option maxHeartbeats 4000000 in
theorem c_X7_firstStep (l : Launch) (E : xE) (ST : xST) (hSF : SF ST) (σ : xW) (w : Int) (r : Int) (c0 : Int) (op : Int → Int) (lk : Int → Int) (kp : Int → Int) (wc : Int → Int) (pn : Int) (nw : Int) (sh : Int) (wk : Int) (sv : Bool) (re : Int) (ea : Int) (fa : Int) (ty : Int) (li : Int) (th : Int) (sz : Int) (sp : Int) (wr : Int) (to : Int) (v : Int → Int) (F : Int → Int) (hr0 : mo E σ sv re ea fa ty li th sz sp wr to) (hr1 : now E σ v) (hr2 : far E σ F) (hC : Cp v op lk kp wc pn nw sh wk) (hB : BI op lk kp wc pn nw) (hr9 : rg r) (hc9 : rg c0) (hw9 : rg w) (hFr : ∀ j : Int, rg (F j)) : CI l E ST yX7_firstStep wsX7_firstStep rm_X7_firstStep [.ref (xad E 85), .int (iZ w), .int (iZ r), .int (iZ c0)] σ (fun (z : Int) (u : xW) => (k2 ((0 ≤ w ∧ w < nw) ∧ okC r c0) (dz (Gw op lk kp w) (wc w) (r * 5 + c0) < 25 ∧ ¬ dz (Gw op lk kp w) (wc w) (r * 5 + c0) = 0) = 0 → z = fz (Gw op lk kp w) (wc w) (r * 5 + c0)) ∧ (∃ (F1 : Int → Int), mo E u sv re ea fa ty li (k2 ((0 ≤ w ∧ w < nw) ∧ okC r c0) (dz (Gw op lk kp w) (wc w) (r * 5 + c0) < 25 ∧ ¬ dz (Gw op lk kp w) (wc w) (r * 5 + c0) = 0)) sz sp wr to ∧ now E u v ∧ far E u F1 ∧ (∀ j : Int, rg (F1 j))) ∧ ∀ j : Nat, j ≠ 85 → j ≠ 92 → u j = σ j) := by
  have f85 : σ 85 = oB 5 [.ref (xad E 86), .ref (xad E 87), .ref (xad E 88), .ref (xad E 89), .ref (xad E 90), .int (iZ (b2 sv)), .int (iZ re), .int (iZ ea), .int (iZ fa), .ref (xad E 91), .ref (xad E 92), .ref (xad E 93), .int (iZ ty), .ref (xad E 94), .int (iZ li), .int (iZ th), .int (iZ sz), .int (iZ sp), .int (iZ wr), .int (iZ to), .ref (xad E 95)] := hr0
  have f86 : σ 86 = aI E 87 v := hr1
  have f92 : σ 92 = aI E 25 F := hr2
  refine CI_of (by decide) rfl (Nat.le_of_ble_eq_true rfl) ?_
  intro p e s m args below meth c Q ls G hH hl hQ
  obtain ⟨hx, hb, hml, hown, hts, hK, hST, hlocks, hr, hno⟩ := G
  have hOK := hSF.1
  have hown : s.vm.findClass RX7 = some m.cls := hown
  have hl : lv_has ls 11 [(0, .ref (xad E 85)), (1, .int (iZ w)), (2, .int (iZ r)), (3, .int (iZ c0))] := hl
  have hinX7 : ∀ w ∈ u_ws RX7 TX7 21, w ∈ wsX7_firstStep := fun w h => (List.mem_cons_of_mem _ (List.mem_append_right _ h))
  obtain ⟨hop, hlk, hkp, hwc, hpn, hnw⟩ := id hB
  have hvR := hC.R
  have hv0 := hC.1.1
  have hcz := cellZ_rg (r := r) (c := c0)
  have hdr := dz_rg (G := Gw op lk kp w) (st := wc w) Gw_ok (hwc w)
  have hst := hwc w
  have hdz0 := dz_rg (G := (Gw op lk kp w)) (st := wc w) Gw_ok (hwc w) (r * 5 + c0)
  have hmR := fun (st8 : Int) (h8 : 0 ≤ st8 ∧ st8 ≤ 24) => mdF_rg (G := Gw op lk kp w) (st := st8) Gw_ok h8
  refine lv_iload_n hx hb dX7_firstStep_0 rfl (lv_at hl 2 rfl) ?_
  refine lv_iload_n hx hb dX7_firstStep_1 rfl (lv_at hl 3 rfl) ?_
  refine x_cSID (As := [.int (iZ r), .int (iZ c0)]) (rest := []) hx hb hml hts hown hK hST hOK hH (c_X7_cellAt l E ST hSF σ r c0  (by omega) (by omega)) (va_cwS 2 hts gX7_firstStep_X7_cellAt rfl rfl rfl (by decide +kernel) ⟨Nat.le_of_ble_eq_true rfl, Nat.le_of_ble_eq_true rfl⟩) rfl hl.1 rfl (Nat.le_of_ble_eq_true rfl) dX7_firstStep_2 ⟨Nat.le_of_ble_eq_true rfl, Nat.le_of_ble_eq_true rfl⟩ (fun z u h => h) (fun H locs hH => ?_)
  refine lv_istore (lv' := [(4, .int (iZ (cellZ r c0))), (0, .ref (xad E 85)), (1, .int (iZ w)), (2, .int (iZ r)), (3, .int (iZ c0))]) hx hb dX7_firstStep_5 hl (by decide) rfl (fun ls hl => ?_)
  refine lv_aload_n hx hb dX7_firstStep_7 rfl (lv_at hl 1 rfl) ?_
  refine lv_iload_n hx hb dX7_firstStep_8 rfl (lv_at hl 2 rfl) ?_
  refine x_cVID (As := [.int (iZ w)]) (rest := []) hx hb hml hts hown hK hST hOK hH 85 (c_X7_isWalker l E ST hSF σ w op lk kp wc pn nw sh wk sv re ea fa ty li th sz sp wr to v f85 f86 (by assumption) (by omega) (by omega)) (cwV 1 hts gX7_firstStep_X7_isWalker rfl rfl rfl (by decide +kernel) ⟨Nat.le_of_ble_eq_true rfl, Nat.le_of_ble_eq_true rfl⟩) (by decide) f85 rfl rfl hl.1 rfl (Nat.le_of_ble_eq_true rfl) dX7_firstStep_9 ⟨Nat.le_of_ble_eq_true rfl, Nat.le_of_ble_eq_true rfl⟩ (fun z u h => h) (fun H locs hH => ?_)
  refine x_ifb_eq (tgt := 27) hx hb dX7_firstStep_12 (by decide) (fun c12 => ?_) (fun c12 => ?_)
  · have c12 := of_decide_eq_false c12
    refine x_iconst hx hb dX7_firstStep_27 ?_
    refine lv_istore (lv' := [(5, .int (iZ 0)), (4, .int (iZ (cellZ r c0))), (0, .ref (xad E 85)), (1, .int (iZ w)), (2, .int (iZ r)), (3, .int (iZ c0))]) hx hb dX7_firstStep_28 hl (by decide) rfl (fun ls hl => ?_)
    refine lv_iload hx hb dX7_firstStep_30 (lv_at hl 0 rfl) ?_
    refine x_if_eq (tgt := 45) hx hb dX7_firstStep_32 (by decide) (by decide) (fun c32 => ?_) (fun c32 => ?_)
    · refine x_iconst hx hb dX7_firstStep_45 ?_
      refine lv_istore (lv' := [(6, .int (iZ (-1))), (5, .int (iZ 0)), (4, .int (iZ (cellZ r c0))), (0, .ref (xad E 85)), (1, .int (iZ w)), (2, .int (iZ r)), (3, .int (iZ c0))]) hx hb dX7_firstStep_46 hl (by decide) rfl (fun ls hl => ?_)
      obtain ⟨len9, hlen9⟩ : ∃ x : Int, x = (-1) := ⟨_, rfl⟩
      refine x_iconst hx hb dX7_firstStep_48 ?_
      refine lv_istore (lv' := [(7, .int (iZ (-1))), (6, .int (iZ (-1))), (5, .int (iZ 0)), (4, .int (iZ (cellZ r c0))), (0, .ref (xad E 85)), (1, .int (iZ w)), (2, .int (iZ r)), (3, .int (iZ c0))]) hx hb dX7_firstStep_49 hl (by decide) rfl (fun ls hl => ?_)
      refine x_iconst hx hb dX7_firstStep_51 ?_
      refine lv_istore (lv' := [(8, .int (iZ 3)), (7, .int (iZ (-1))), (6, .int (iZ (-1))), (5, .int (iZ 0)), (4, .int (iZ (cellZ r c0))), (0, .ref (xad E 85)), (1, .int (iZ w)), (2, .int (iZ r)), (3, .int (iZ c0))]) hx hb dX7_firstStep_52 hl (by decide) rfl (fun ls hl => ?_)
      have K54 : ∀ (nK : Nat) (fo i : Int) (F2 : Int → Int) (σ7 : xW) (H : Heap) (locs : List Loc) (ls : Array Slot), (i + 1).toNat < nK → (-1 ≤ i ∧ i ≤ 3) → (0 < len9 → fsI (Gw op lk kp w) (wc w) (cellZ r c0) (i + 1) fo) → (¬ 0 < len9 → fo = -1) → (∀ j : Int, rg (F2 j)) → (-1 ≤ fo ∧ fo ≤ 3) → σ7 85 = oB 5 [.ref (xad E 86), .ref (xad E 87), .ref (xad E 88), .ref (xad E 89), .ref (xad E 90), .int (iZ (b2 sv)), .int (iZ re), .int (iZ ea), .int (iZ fa), .ref (xad E 91), .ref (xad E 92), .ref (xad E 93), .int (iZ ty), .ref (xad E 94), .int (iZ li), .int (iZ th), .int (iZ sz), .int (iZ sp), .int (iZ wr), .int (iZ to), .ref (xad E 95)] → σ7 86 = aI E 87 v → σ7 92 = aI E 25 F2 → (∀ j : Nat, j ≠ 92 → σ7 j = σ j) → Hx E (xA E s.heap.size) s.heap σ7 H locs → lv_has ls 11 [(8, .int (iZ i)), (7, .int (iZ fo)), (6, .int (iZ (-1))), (5, .int (iZ 0)), (4, .int (iZ (cellZ r c0))), (0, .ref (xad E 85)), (1, .int (iZ w)), (2, .int (iZ r)), (3, .int (iZ c0))] → W p l e rm_X7_firstStep s m args below meth c H locs 0 0 Q (F0 m 54 ls []) := by
        intro n54
        induction n54 with
        | zero =>
          intro fo i F2 σ7 H locs ls hm
          exact absurd hm (by first | exact Nat.not_lt_zero _ | omega)
        | succ n54 ih54 =>
          intro fo i F2 σ7 H locs ls hm54 hi hfs hfn hF2 hfo f85 f86 f92 fr8 hH hl
          refine lv_iload hx hb dX7_firstStep_54 (lv_at hl 0 rfl) ?_
          refine x_if_lt (tgt := 148) hx hb dX7_firstStep_56 (by decide) (by omega) (fun c56 => ?_) (fun c56 => ?_)
          · refine lv_aload_n hx hb dX7_firstStep_148 rfl (lv_at hl 5 rfl) ?_
            refine lv_iload hx hb dX7_firstStep_149 (lv_at hl 3 rfl) ?_
            refine lv_iload hx hb dX7_firstStep_151 (lv_at hl 1 rfl) ?_
            refine x_iconst hx hb dX7_firstStep_153 ?_
            refine x_icmp_eq (tgt := 161) hx hb dX7_firstStep_154 (by decide) (by omega) (by decide) (fun c154 => ?_) (fun c154 => ?_)
            · refine x_iconst hx hb dX7_firstStep_161 ?_
              refine x_iconst hx hb dX7_firstStep_162 ?_
              refine x_cVIE (As := [.int (iZ 0), .int (iZ 0), .int (iZ 1)]) (rest := []) hx hb hml hts hown hK hST hOK hH 85 (c_X7_holds l E ST hSF σ7 false false true sv re ea fa ty li th sz sp wr to f85 ) (cwV 3 hts gX7_firstStep_X7_holds rfl rfl rfl (by decide +kernel) ⟨Nat.le_of_ble_eq_true rfl, Nat.le_of_ble_eq_true rfl⟩) (by decide) f85 rfl rfl hl.1 rfl (Nat.le_of_ble_eq_true rfl) dX7_firstStep_163 ⟨Nat.le_of_ble_eq_true rfl, Nat.le_of_ble_eq_true rfl⟩ (fun z u h => h) (fun σ10 H locs hp11 hH => ?_)
              obtain ⟨f85, fr12⟩ := hp11
              have f86 : σ10 86 = aI E 87 v := (fr12 86 (by omega)).trans f86
              have f92 : σ10 92 = aI E 25 F2 := (fr12 92 (by omega)).trans f92
              refine x_ifb_eq (tgt := 174) hx hb dX7_firstStep_166 (by decide) (fun c166 => ?_) (fun c166 => ?_)
              · refine x_iconst hx hb dX7_firstStep_174 ?_
                subst hQ
                exact x_iret hx hb hr hlocks hH (Nat.le_of_ble_eq_true rfl) (Nat.le_of_ble_eq_true rfl) ⟨(by intro h; have h9 := k2_is.mp h; first | exact hfin.2 h9.2 | (exfalso; omega) | exact absurd c166 (by decide)), ⟨F2, (f85.trans (by first | (rw [k2_0 (by omega) (by omega)]; rfl) | (rw [k2_1 (by omega)]; rfl) | (rw [k2_2 (by omega) (by omega)]; rfl))), f86, f92, (by exact hF2)⟩, fun j hj0 hj1 => ((fr12 j (by omega)).trans (fr8 j (by omega)))⟩ dX7_firstStep_175
              · refine lv_iload hx hb dX7_firstStep_169 (lv_at hl 1 rfl) ?_
                refine lv_goto (tgt := 175) hx hb dX7_firstStep_171 (by decide) ?_
                subst hQ
                exact x_iret hx hb hr hlocks hH (Nat.le_of_ble_eq_true rfl) (Nat.le_of_ble_eq_true rfl) ⟨(by intro h; have h9 := k2_is.mp h; first | exact hfin.2 h9.2 | (exfalso; omega) | exact absurd c166 (by decide)), ⟨F2, (f85.trans (by first | (rw [k2_0 (by omega) (by omega)]; rfl) | (rw [k2_1 (by omega)]; rfl) | (rw [k2_2 (by omega) (by omega)]; rfl))), f86, f92, (by exact hF2)⟩, fun j hj0 hj1 => ((fr12 j (by omega)).trans (fr8 j (by omega)))⟩ dX7_firstStep_175
            · refine x_iconst hx hb dX7_firstStep_157 ?_
              refine lv_goto (tgt := 162) hx hb dX7_firstStep_158 (by decide) ?_
              refine x_iconst hx hb dX7_firstStep_162 ?_
              refine x_cVIE (As := [.int (iZ 0), .int (iZ 1), .int (iZ 1)]) (rest := []) hx hb hml hts hown hK hST hOK hH 85 (c_X7_holds l E ST hSF σ7 false true true sv re ea fa ty li th sz sp wr to f85 ) (cwV 3 hts gX7_firstStep_X7_holds rfl rfl rfl (by decide +kernel) ⟨Nat.le_of_ble_eq_true rfl, Nat.le_of_ble_eq_true rfl⟩) (by decide) f85 rfl rfl hl.1 rfl (Nat.le_of_ble_eq_true rfl) dX7_firstStep_163 ⟨Nat.le_of_ble_eq_true rfl, Nat.le_of_ble_eq_true rfl⟩ (fun z u h => h) (fun σ15 H locs hp16 hH => ?_)
              obtain ⟨f85, fr17⟩ := hp16
              have f86 : σ15 86 = aI E 87 v := (fr17 86 (by omega)).trans f86
              have f92 : σ15 92 = aI E 25 F2 := (fr17 92 (by omega)).trans f92
              refine x_ifb_eq (tgt := 174) hx hb dX7_firstStep_166 (by decide) (fun c166 => ?_) (fun c166 => ?_)
              · refine x_iconst hx hb dX7_firstStep_174 ?_
                subst hQ
                exact x_iret hx hb hr hlocks hH (Nat.le_of_ble_eq_true rfl) (Nat.le_of_ble_eq_true rfl) ⟨(by intro h; have h9 := k2_is.mp h; first | exact hfin.2 h9.2 | (exfalso; omega) | exact absurd c166 (by decide)), ⟨F2, (f85.trans (by first | (rw [k2_0 (by omega) (by omega)]; rfl) | (rw [k2_1 (by omega)]; rfl) | (rw [k2_2 (by omega) (by omega)]; rfl))), f86, f92, (by exact hF2)⟩, fun j hj0 hj1 => ((fr17 j (by omega)).trans (fr8 j (by omega)))⟩ dX7_firstStep_175
              · refine lv_iload hx hb dX7_firstStep_169 (lv_at hl 1 rfl) ?_
                refine lv_goto (tgt := 175) hx hb dX7_firstStep_171 (by decide) ?_
                subst hQ
                exact x_iret hx hb hr hlocks hH (Nat.le_of_ble_eq_true rfl) (Nat.le_of_ble_eq_true rfl) ⟨(by intro h; have h9 := k2_is.mp h; first | exact hfin.2 h9.2 | (exfalso; omega) | exact absurd c166 (by decide)), ⟨F2, (f85.trans (by first | (rw [k2_0 (by omega) (by omega)]; rfl) | (rw [k2_1 (by omega)]; rfl) | (rw [k2_2 (by omega) (by omega)]; rfl))), f86, f92, (by exact hF2)⟩, fun j hj0 hj1 => ((fr17 j (by omega)).trans (fr8 j (by omega)))⟩ dX7_firstStep_175
          · refine lv_iload hx hb dX7_firstStep_59 (lv_at hl 2 rfl) ?_
            refine x_if_le (tgt := 148) hx hb dX7_firstStep_61 (by decide) (by decide) (fun c61 => ?_) (fun c61 => ?_)
            · refine lv_aload_n hx hb dX7_firstStep_148 rfl (lv_at hl 5 rfl) ?_
              refine lv_iload hx hb dX7_firstStep_149 (lv_at hl 3 rfl) ?_
              refine lv_iload hx hb dX7_firstStep_151 (lv_at hl 1 rfl) ?_
              refine x_iconst hx hb dX7_firstStep_153 ?_
              refine x_icmp_eq (tgt := 161) hx hb dX7_firstStep_154 (by decide) (by omega) (by decide) (fun c154 => ?_) (fun c154 => ?_)
              · refine x_iconst hx hb dX7_firstStep_161 ?_
                refine x_iconst hx hb dX7_firstStep_162 ?_
                refine x_cVIE (As := [.int (iZ 0), .int (iZ 0), .int (iZ 1)]) (rest := []) hx hb hml hts hown hK hST hOK hH 85 (c_X7_holds l E ST hSF σ7 false false true sv re ea fa ty li th sz sp wr to f85 ) (cwV 3 hts gX7_firstStep_X7_holds rfl rfl rfl (by decide +kernel) ⟨Nat.le_of_ble_eq_true rfl, Nat.le_of_ble_eq_true rfl⟩) (by decide) f85 rfl rfl hl.1 rfl (Nat.le_of_ble_eq_true rfl) dX7_firstStep_163 ⟨Nat.le_of_ble_eq_true rfl, Nat.le_of_ble_eq_true rfl⟩ (fun z u h => h) (fun σ20 H locs hp21 hH => ?_)
                obtain ⟨f85, fr22⟩ := hp21
                have f86 : σ20 86 = aI E 87 v := (fr22 86 (by omega)).trans f86
                have f92 : σ20 92 = aI E 25 F2 := (fr22 92 (by omega)).trans f92
                refine x_ifb_eq (tgt := 174) hx hb dX7_firstStep_166 (by decide) (fun c166 => ?_) (fun c166 => ?_)
                · refine x_iconst hx hb dX7_firstStep_174 ?_
                  subst hQ
                  exact x_iret hx hb hr hlocks hH (Nat.le_of_ble_eq_true rfl) (Nat.le_of_ble_eq_true rfl) ⟨(by intro h; have h9 := k2_is.mp h; first | exact hfin.2 h9.2 | (exfalso; omega) | exact absurd c166 (by decide)), ⟨F2, (f85.trans (by first | (rw [k2_0 (by omega) (by omega)]; rfl) | (rw [k2_1 (by omega)]; rfl) | (rw [k2_2 (by omega) (by omega)]; rfl))), f86, f92, (by exact hF2)⟩, fun j hj0 hj1 => ((fr22 j (by omega)).trans (fr8 j (by omega)))⟩ dX7_firstStep_175
                · refine lv_iload hx hb dX7_firstStep_169 (lv_at hl 1 rfl) ?_
                  refine lv_goto (tgt := 175) hx hb dX7_firstStep_171 (by decide) ?_
                  subst hQ
                  exact x_iret hx hb hr hlocks hH (Nat.le_of_ble_eq_true rfl) (Nat.le_of_ble_eq_true rfl) ⟨(by intro h; have h9 := k2_is.mp h; first | exact hfin.2 h9.2 | (exfalso; omega) | exact absurd c166 (by decide)), ⟨F2, (f85.trans (by first | (rw [k2_0 (by omega) (by omega)]; rfl) | (rw [k2_1 (by omega)]; rfl) | (rw [k2_2 (by omega) (by omega)]; rfl))), f86, f92, (by exact hF2)⟩, fun j hj0 hj1 => ((fr22 j (by omega)).trans (fr8 j (by omega)))⟩ dX7_firstStep_175
              · refine x_iconst hx hb dX7_firstStep_157 ?_
                refine lv_goto (tgt := 162) hx hb dX7_firstStep_158 (by decide) ?_
                refine x_iconst hx hb dX7_firstStep_162 ?_
                refine x_cVIE (As := [.int (iZ 0), .int (iZ 1), .int (iZ 1)]) (rest := []) hx hb hml hts hown hK hST hOK hH 85 (c_X7_holds l E ST hSF σ7 false true true sv re ea fa ty li th sz sp wr to f85 ) (cwV 3 hts gX7_firstStep_X7_holds rfl rfl rfl (by decide +kernel) ⟨Nat.le_of_ble_eq_true rfl, Nat.le_of_ble_eq_true rfl⟩) (by decide) f85 rfl rfl hl.1 rfl (Nat.le_of_ble_eq_true rfl) dX7_firstStep_163 ⟨Nat.le_of_ble_eq_true rfl, Nat.le_of_ble_eq_true rfl⟩ (fun z u h => h) (fun σ25 H locs hp26 hH => ?_)
                obtain ⟨f85, fr27⟩ := hp26
                have f86 : σ25 86 = aI E 87 v := (fr27 86 (by omega)).trans f86
                have f92 : σ25 92 = aI E 25 F2 := (fr27 92 (by omega)).trans f92
                refine x_ifb_eq (tgt := 174) hx hb dX7_firstStep_166 (by decide) (fun c166 => ?_) (fun c166 => ?_)
                · refine x_iconst hx hb dX7_firstStep_174 ?_
                  subst hQ
                  exact x_iret hx hb hr hlocks hH (Nat.le_of_ble_eq_true rfl) (Nat.le_of_ble_eq_true rfl) ⟨(by intro h; have h9 := k2_is.mp h; first | exact hfin.2 h9.2 | (exfalso; omega) | exact absurd c166 (by decide)), ⟨F2, (f85.trans (by first | (rw [k2_0 (by omega) (by omega)]; rfl) | (rw [k2_1 (by omega)]; rfl) | (rw [k2_2 (by omega) (by omega)]; rfl))), f86, f92, (by exact hF2)⟩, fun j hj0 hj1 => ((fr27 j (by omega)).trans (fr8 j (by omega)))⟩ dX7_firstStep_175
                · refine lv_iload hx hb dX7_firstStep_169 (lv_at hl 1 rfl) ?_
                  refine lv_goto (tgt := 175) hx hb dX7_firstStep_171 (by decide) ?_
                  subst hQ
                  exact x_iret hx hb hr hlocks hH (Nat.le_of_ble_eq_true rfl) (Nat.le_of_ble_eq_true rfl) ⟨(by intro h; have h9 := k2_is.mp h; first | exact hfin.2 h9.2 | (exfalso; omega) | exact absurd c166 (by decide)), ⟨F2, (f85.trans (by first | (rw [k2_0 (by omega) (by omega)]; rfl) | (rw [k2_1 (by omega)]; rfl) | (rw [k2_2 (by omega) (by omega)]; rfl))), f86, f92, (by exact hF2)⟩, fun j hj0 hj1 => ((fr27 j (by omega)).trans (fr8 j (by omega)))⟩ dX7_firstStep_175
            · exact absurd c61 (by decide)
      exact K54 5 (-1) 3 F σ _ _ _ (by first | omega | decide) (by omega) (by intro h; exact fsI_0) (by intro h; rfl) (by first | exact hFr | exact fun j => ⟨by have := hmR (wc w) (hwc w) j; omega, by have := hmR (wc w) (hwc w) j; omega⟩) (by omega) f85 f86 f92 (fun j _ => rfl) hH (lv_sub hl [0, 1, 2, 3, 4, 5, 6, 7, 8] rfl)
    · exact absurd c32 (by decide)
  · have c12 := of_decide_eq_true c12
    refine lv_iload_n hx hb dX7_firstStep_15 rfl (lv_at hl 3 rfl) ?_
    refine lv_iload_n hx hb dX7_firstStep_16 rfl (lv_at hl 4 rfl) ?_
    refine x_cSID (As := [.int (iZ r), .int (iZ c0)]) (rest := []) hx hb hml hts hown hK hST hOK hH (c_X7_isCell l E ST hSF σ r c0  (by omega) (by omega)) (va_cwS 2 hts gX7_firstStep_X7_isCell rfl rfl rfl (by decide +kernel) ⟨Nat.le_of_ble_eq_true rfl, Nat.le_of_ble_eq_true rfl⟩) rfl hl.1 rfl (Nat.le_of_ble_eq_true rfl) dX7_firstStep_17 ⟨Nat.le_of_ble_eq_true rfl, Nat.le_of_ble_eq_true rfl⟩ (fun z u h => h) (fun H locs hH => ?_)
    refine x_ifb_eq (tgt := 27) hx hb dX7_firstStep_20 (by decide) (fun c20 => ?_) (fun c20 => ?_)
    · have c20 := of_decide_eq_false c20
      refine x_iconst hx hb dX7_firstStep_27 ?_
      refine lv_istore (lv' := [(5, .int (iZ 0)), (4, .int (iZ (cellZ r c0))), (0, .ref (xad E 85)), (1, .int (iZ w)), (2, .int (iZ r)), (3, .int (iZ c0))]) hx hb dX7_firstStep_28 hl (by decide) rfl (fun ls hl => ?_)
      refine lv_iload hx hb dX7_firstStep_30 (lv_at hl 0 rfl) ?_
      refine x_if_eq (tgt := 45) hx hb dX7_firstStep_32 (by decide) (by decide) (fun c32 => ?_) (fun c32 => ?_)
      · refine x_iconst hx hb dX7_firstStep_45 ?_
        refine lv_istore (lv' := [(6, .int (iZ (-1))), (5, .int (iZ 0)), (4, .int (iZ (cellZ r c0))), (0, .ref (xad E 85)), (1, .int (iZ w)), (2, .int (iZ r)), (3, .int (iZ c0))]) hx hb dX7_firstStep_46 hl (by decide) rfl (fun ls hl => ?_)
        obtain ⟨len9, hlen9⟩ : ∃ x : Int, x = (-1) := ⟨_, rfl⟩
        refine x_iconst hx hb dX7_firstStep_48 ?_
        refine lv_istore (lv' := [(7, .int (iZ (-1))), (6, .int (iZ (-1))), (5, .int (iZ 0)), (4, .int (iZ (cellZ r c0))), (0, .ref (xad E 85)), (1, .int (iZ w)), (2, .int (iZ r)), (3, .int (iZ c0))]) hx hb dX7_firstStep_49 hl (by decide) rfl (fun ls hl => ?_)
        refine x_iconst hx hb dX7_firstStep_51 ?_
        refine lv_istore (lv' := [(8, .int (iZ 3)), (7, .int (iZ (-1))), (6, .int (iZ (-1))), (5, .int (iZ 0)), (4, .int (iZ (cellZ r c0))), (0, .ref (xad E 85)), (1, .int (iZ w)), (2, .int (iZ r)), (3, .int (iZ c0))]) hx hb dX7_firstStep_52 hl (by decide) rfl (fun ls hl => ?_)
        have K54 : ∀ (nK : Nat) (fo i : Int) (F2 : Int → Int) (σ32 : xW) (H : Heap) (locs : List Loc) (ls : Array Slot), (i + 1).toNat < nK → (-1 ≤ i ∧ i ≤ 3) → (0 < len9 → fsI (Gw op lk kp w) (wc w) (cellZ r c0) (i + 1) fo) → (¬ 0 < len9 → fo = -1) → (∀ j : Int, rg (F2 j)) → (-1 ≤ fo ∧ fo ≤ 3) → σ32 85 = oB 5 [.ref (xad E 86), .ref (xad E 87), .ref (xad E 88), .ref (xad E 89), .ref (xad E 90), .int (iZ (b2 sv)), .int (iZ re), .int (iZ ea), .int (iZ fa), .ref (xad E 91), .ref (xad E 92), .ref (xad E 93), .int (iZ ty), .ref (xad E 94), .int (iZ li), .int (iZ th), .int (iZ sz), .int (iZ sp), .int (iZ wr), .int (iZ to), .ref (xad E 95)] → σ32 86 = aI E 87 v → σ32 92 = aI E 25 F2 → (∀ j : Nat, j ≠ 92 → σ32 j = σ j) → Hx E (xA E s.heap.size) s.heap σ32 H locs → lv_has ls 11 [(8, .int (iZ i)), (7, .int (iZ fo)), (6, .int (iZ (-1))), (5, .int (iZ 0)), (4, .int (iZ (cellZ r c0))), (0, .ref (xad E 85)), (1, .int (iZ w)), (2, .int (iZ r)), (3, .int (iZ c0))] → W p l e rm_X7_firstStep s m args below meth c H locs 0 0 Q (F0 m 54 ls []) := by
          intro n54
          induction n54 with
          | zero =>
            intro fo i F2 σ32 H locs ls hm
            exact absurd hm (by first | exact Nat.not_lt_zero _ | omega)
          | succ n54 ih54 =>
            intro fo i F2 σ32 H locs ls hm54 hi hfs hfn hF2 hfo f85 f86 f92 fr33 hH hl
            refine lv_iload hx hb dX7_firstStep_54 (lv_at hl 0 rfl) ?_
            refine x_if_lt (tgt := 148) hx hb dX7_firstStep_56 (by decide) (by omega) (fun c56 => ?_) (fun c56 => ?_)
            · refine lv_aload_n hx hb dX7_firstStep_148 rfl (lv_at hl 5 rfl) ?_
              refine lv_iload hx hb dX7_firstStep_149 (lv_at hl 3 rfl) ?_
              refine lv_iload hx hb dX7_firstStep_151 (lv_at hl 1 rfl) ?_
              refine x_iconst hx hb dX7_firstStep_153 ?_
              refine x_icmp_eq (tgt := 161) hx hb dX7_firstStep_154 (by decide) (by omega) (by decide) (fun c154 => ?_) (fun c154 => ?_)
              · refine x_iconst hx hb dX7_firstStep_161 ?_
                refine x_iconst hx hb dX7_firstStep_162 ?_
                refine x_cVIE (As := [.int (iZ 0), .int (iZ 0), .int (iZ 1)]) (rest := []) hx hb hml hts hown hK hST hOK hH 85 (c_X7_holds l E ST hSF σ32 false false true sv re ea fa ty li th sz sp wr to f85 ) (cwV 3 hts gX7_firstStep_X7_holds rfl rfl rfl (by decide +kernel) ⟨Nat.le_of_ble_eq_true rfl, Nat.le_of_ble_eq_true rfl⟩) (by decide) f85 rfl rfl hl.1 rfl (Nat.le_of_ble_eq_true rfl) dX7_firstStep_163 ⟨Nat.le_of_ble_eq_true rfl, Nat.le_of_ble_eq_true rfl⟩ (fun z u h => h) (fun σ35 H locs hp36 hH => ?_)
                obtain ⟨f85, fr37⟩ := hp36
                have f86 : σ35 86 = aI E 87 v := (fr37 86 (by omega)).trans f86
                have f92 : σ35 92 = aI E 25 F2 := (fr37 92 (by omega)).trans f92
                refine x_ifb_eq (tgt := 174) hx hb dX7_firstStep_166 (by decide) (fun c166 => ?_) (fun c166 => ?_)
                · refine x_iconst hx hb dX7_firstStep_174 ?_
                  subst hQ
                  exact x_iret hx hb hr hlocks hH (Nat.le_of_ble_eq_true rfl) (Nat.le_of_ble_eq_true rfl) ⟨(by intro h; have h9 := k2_is.mp h; first | exact hfin.2 h9.2 | (exfalso; omega) | exact absurd c166 (by decide)), ⟨F2, (f85.trans (by first | (rw [k2_0 (by omega) (by omega)]; rfl) | (rw [k2_1 (by omega)]; rfl) | (rw [k2_2 (by omega) (by omega)]; rfl))), f86, f92, (by exact hF2)⟩, fun j hj0 hj1 => ((fr37 j (by omega)).trans (fr33 j (by omega)))⟩ dX7_firstStep_175
                · refine lv_iload hx hb dX7_firstStep_169 (lv_at hl 1 rfl) ?_
                  refine lv_goto (tgt := 175) hx hb dX7_firstStep_171 (by decide) ?_
                  subst hQ
                  exact x_iret hx hb hr hlocks hH (Nat.le_of_ble_eq_true rfl) (Nat.le_of_ble_eq_true rfl) ⟨(by intro h; have h9 := k2_is.mp h; first | exact hfin.2 h9.2 | (exfalso; omega) | exact absurd c166 (by decide)), ⟨F2, (f85.trans (by first | (rw [k2_0 (by omega) (by omega)]; rfl) | (rw [k2_1 (by omega)]; rfl) | (rw [k2_2 (by omega) (by omega)]; rfl))), f86, f92, (by exact hF2)⟩, fun j hj0 hj1 => ((fr37 j (by omega)).trans (fr33 j (by omega)))⟩ dX7_firstStep_175
              · refine x_iconst hx hb dX7_firstStep_157 ?_
                refine lv_goto (tgt := 162) hx hb dX7_firstStep_158 (by decide) ?_
                refine x_iconst hx hb dX7_firstStep_162 ?_
                refine x_cVIE (As := [.int (iZ 0), .int (iZ 1), .int (iZ 1)]) (rest := []) hx hb hml hts hown hK hST hOK hH 85 (c_X7_holds l E ST hSF σ32 false true true sv re ea fa ty li th sz sp wr to f85 ) (cwV 3 hts gX7_firstStep_X7_holds rfl rfl rfl (by decide +kernel) ⟨Nat.le_of_ble_eq_true rfl, Nat.le_of_ble_eq_true rfl⟩) (by decide) f85 rfl rfl hl.1 rfl (Nat.le_of_ble_eq_true rfl) dX7_firstStep_163 ⟨Nat.le_of_ble_eq_true rfl, Nat.le_of_ble_eq_true rfl⟩ (fun z u h => h) (fun σ40 H locs hp41 hH => ?_)
                obtain ⟨f85, fr42⟩ := hp41
                have f86 : σ40 86 = aI E 87 v := (fr42 86 (by omega)).trans f86
                have f92 : σ40 92 = aI E 25 F2 := (fr42 92 (by omega)).trans f92
                refine x_ifb_eq (tgt := 174) hx hb dX7_firstStep_166 (by decide) (fun c166 => ?_) (fun c166 => ?_)
                · refine x_iconst hx hb dX7_firstStep_174 ?_
                  subst hQ
                  exact x_iret hx hb hr hlocks hH (Nat.le_of_ble_eq_true rfl) (Nat.le_of_ble_eq_true rfl) ⟨(by intro h; have h9 := k2_is.mp h; first | exact hfin.2 h9.2 | (exfalso; omega) | exact absurd c166 (by decide)), ⟨F2, (f85.trans (by first | (rw [k2_0 (by omega) (by omega)]; rfl) | (rw [k2_1 (by omega)]; rfl) | (rw [k2_2 (by omega) (by omega)]; rfl))), f86, f92, (by exact hF2)⟩, fun j hj0 hj1 => ((fr42 j (by omega)).trans (fr33 j (by omega)))⟩ dX7_firstStep_175
                · refine lv_iload hx hb dX7_firstStep_169 (lv_at hl 1 rfl) ?_
                  refine lv_goto (tgt := 175) hx hb dX7_firstStep_171 (by decide) ?_
                  subst hQ
                  exact x_iret hx hb hr hlocks hH (Nat.le_of_ble_eq_true rfl) (Nat.le_of_ble_eq_true rfl) ⟨(by intro h; have h9 := k2_is.mp h; first | exact hfin.2 h9.2 | (exfalso; omega) | exact absurd c166 (by decide)), ⟨F2, (f85.trans (by first | (rw [k2_0 (by omega) (by omega)]; rfl) | (rw [k2_1 (by omega)]; rfl) | (rw [k2_2 (by omega) (by omega)]; rfl))), f86, f92, (by exact hF2)⟩, fun j hj0 hj1 => ((fr42 j (by omega)).trans (fr33 j (by omega)))⟩ dX7_firstStep_175
            · refine lv_iload hx hb dX7_firstStep_59 (lv_at hl 2 rfl) ?_
              refine x_if_le (tgt := 148) hx hb dX7_firstStep_61 (by decide) (by decide) (fun c61 => ?_) (fun c61 => ?_)
              · refine lv_aload_n hx hb dX7_firstStep_148 rfl (lv_at hl 5 rfl) ?_
                refine lv_iload hx hb dX7_firstStep_149 (lv_at hl 3 rfl) ?_
                refine lv_iload hx hb dX7_firstStep_151 (lv_at hl 1 rfl) ?_
                refine x_iconst hx hb dX7_firstStep_153 ?_
                refine x_icmp_eq (tgt := 161) hx hb dX7_firstStep_154 (by decide) (by omega) (by decide) (fun c154 => ?_) (fun c154 => ?_)
                · refine x_iconst hx hb dX7_firstStep_161 ?_
                  refine x_iconst hx hb dX7_firstStep_162 ?_
                  refine x_cVIE (As := [.int (iZ 0), .int (iZ 0), .int (iZ 1)]) (rest := []) hx hb hml hts hown hK hST hOK hH 85 (c_X7_holds l E ST hSF σ32 false false true sv re ea fa ty li th sz sp wr to f85 ) (cwV 3 hts gX7_firstStep_X7_holds rfl rfl rfl (by decide +kernel) ⟨Nat.le_of_ble_eq_true rfl, Nat.le_of_ble_eq_true rfl⟩) (by decide) f85 rfl rfl hl.1 rfl (Nat.le_of_ble_eq_true rfl) dX7_firstStep_163 ⟨Nat.le_of_ble_eq_true rfl, Nat.le_of_ble_eq_true rfl⟩ (fun z u h => h) (fun σ45 H locs hp46 hH => ?_)
                  obtain ⟨f85, fr47⟩ := hp46
                  have f86 : σ45 86 = aI E 87 v := (fr47 86 (by omega)).trans f86
                  have f92 : σ45 92 = aI E 25 F2 := (fr47 92 (by omega)).trans f92
                  refine x_ifb_eq (tgt := 174) hx hb dX7_firstStep_166 (by decide) (fun c166 => ?_) (fun c166 => ?_)
                  · refine x_iconst hx hb dX7_firstStep_174 ?_
                    subst hQ
                    exact x_iret hx hb hr hlocks hH (Nat.le_of_ble_eq_true rfl) (Nat.le_of_ble_eq_true rfl) ⟨(by intro h; have h9 := k2_is.mp h; first | exact hfin.2 h9.2 | (exfalso; omega) | exact absurd c166 (by decide)), ⟨F2, (f85.trans (by first | (rw [k2_0 (by omega) (by omega)]; rfl) | (rw [k2_1 (by omega)]; rfl) | (rw [k2_2 (by omega) (by omega)]; rfl))), f86, f92, (by exact hF2)⟩, fun j hj0 hj1 => ((fr47 j (by omega)).trans (fr33 j (by omega)))⟩ dX7_firstStep_175
                  · refine lv_iload hx hb dX7_firstStep_169 (lv_at hl 1 rfl) ?_
                    refine lv_goto (tgt := 175) hx hb dX7_firstStep_171 (by decide) ?_
                    subst hQ
                    exact x_iret hx hb hr hlocks hH (Nat.le_of_ble_eq_true rfl) (Nat.le_of_ble_eq_true rfl) ⟨(by intro h; have h9 := k2_is.mp h; first | exact hfin.2 h9.2 | (exfalso; omega) | exact absurd c166 (by decide)), ⟨F2, (f85.trans (by first | (rw [k2_0 (by omega) (by omega)]; rfl) | (rw [k2_1 (by omega)]; rfl) | (rw [k2_2 (by omega) (by omega)]; rfl))), f86, f92, (by exact hF2)⟩, fun j hj0 hj1 => ((fr47 j (by omega)).trans (fr33 j (by omega)))⟩ dX7_firstStep_175
                · refine x_iconst hx hb dX7_firstStep_157 ?_
                  refine lv_goto (tgt := 162) hx hb dX7_firstStep_158 (by decide) ?_
                  refine x_iconst hx hb dX7_firstStep_162 ?_
                  refine x_cVIE (As := [.int (iZ 0), .int (iZ 1), .int (iZ 1)]) (rest := []) hx hb hml hts hown hK hST hOK hH 85 (c_X7_holds l E ST hSF σ32 false true true sv re ea fa ty li th sz sp wr to f85 ) (cwV 3 hts gX7_firstStep_X7_holds rfl rfl rfl (by decide +kernel) ⟨Nat.le_of_ble_eq_true rfl, Nat.le_of_ble_eq_true rfl⟩) (by decide) f85 rfl rfl hl.1 rfl (Nat.le_of_ble_eq_true rfl) dX7_firstStep_163 ⟨Nat.le_of_ble_eq_true rfl, Nat.le_of_ble_eq_true rfl⟩ (fun z u h => h) (fun σ50 H locs hp51 hH => ?_)
                  obtain ⟨f85, fr52⟩ := hp51
                  have f86 : σ50 86 = aI E 87 v := (fr52 86 (by omega)).trans f86
                  have f92 : σ50 92 = aI E 25 F2 := (fr52 92 (by omega)).trans f92
                  refine x_ifb_eq (tgt := 174) hx hb dX7_firstStep_166 (by decide) (fun c166 => ?_) (fun c166 => ?_)
                  · refine x_iconst hx hb dX7_firstStep_174 ?_
                    subst hQ
                    exact x_iret hx hb hr hlocks hH (Nat.le_of_ble_eq_true rfl) (Nat.le_of_ble_eq_true rfl) ⟨(by intro h; have h9 := k2_is.mp h; first | exact hfin.2 h9.2 | (exfalso; omega) | exact absurd c166 (by decide)), ⟨F2, (f85.trans (by first | (rw [k2_0 (by omega) (by omega)]; rfl) | (rw [k2_1 (by omega)]; rfl) | (rw [k2_2 (by omega) (by omega)]; rfl))), f86, f92, (by exact hF2)⟩, fun j hj0 hj1 => ((fr52 j (by omega)).trans (fr33 j (by omega)))⟩ dX7_firstStep_175
                  · refine lv_iload hx hb dX7_firstStep_169 (lv_at hl 1 rfl) ?_
                    refine lv_goto (tgt := 175) hx hb dX7_firstStep_171 (by decide) ?_
                    subst hQ
                    exact x_iret hx hb hr hlocks hH (Nat.le_of_ble_eq_true rfl) (Nat.le_of_ble_eq_true rfl) ⟨(by intro h; have h9 := k2_is.mp h; first | exact hfin.2 h9.2 | (exfalso; omega) | exact absurd c166 (by decide)), ⟨F2, (f85.trans (by first | (rw [k2_0 (by omega) (by omega)]; rfl) | (rw [k2_1 (by omega)]; rfl) | (rw [k2_2 (by omega) (by omega)]; rfl))), f86, f92, (by exact hF2)⟩, fun j hj0 hj1 => ((fr52 j (by omega)).trans (fr33 j (by omega)))⟩ dX7_firstStep_175
              · exact absurd c61 (by decide)
        exact K54 5 (-1) 3 F σ _ _ _ (by first | omega | decide) (by omega) (by intro h; exact fsI_0) (by intro h; rfl) (by first | exact hFr | exact fun j => ⟨by have := hmR (wc w) (hwc w) j; omega, by have := hmR (wc w) (hwc w) j; omega⟩) (by omega) f85 f86 f92 (fun j _ => rfl) hH (lv_sub hl [0, 1, 2, 3, 4, 5, 6, 7, 8] rfl)
      · exact absurd c32 (by decide)
    · have c20 := of_decide_eq_true c20
      refine x_iconst hx hb dX7_firstStep_23 ?_
      refine lv_goto (tgt := 28) hx hb dX7_firstStep_24 (by decide) ?_
      refine lv_istore (lv' := [(5, .int (iZ 1)), (4, .int (iZ (cellZ r c0))), (0, .ref (xad E 85)), (1, .int (iZ w)), (2, .int (iZ r)), (3, .int (iZ c0))]) hx hb dX7_firstStep_28 hl (by decide) rfl (fun ls hl => ?_)
      refine lv_iload hx hb dX7_firstStep_30 (lv_at hl 0 rfl) ?_
      refine x_if_eq (tgt := 45) hx hb dX7_firstStep_32 (by decide) (by decide) (fun c32 => ?_) (fun c32 => ?_)
      · exact absurd c32 (by decide)
      · refine lv_aload_n hx hb dX7_firstStep_35 rfl (lv_at hl 2 rfl) ?_
        refine lv_iload_n hx hb dX7_firstStep_36 rfl (lv_at hl 3 rfl) ?_
        refine lv_iload hx hb dX7_firstStep_37 (lv_at hl 1 rfl) ?_
        refine x_cVIE (As := [.int (iZ w), .int (iZ (cellZ r c0))]) (rest := []) hx hb hml hts hown hK hST hOK hH 85 (c_X7_farOf l E ST hSF σ w (cellZ r c0) op lk kp wc pn nw sh wk sv re ea fa ty li th sz sp wr to v F f85 f86 f92 (by assumption) (by omega) (by omega) (by omega) (by assumption)) (cwV 2 hts gX7_firstStep_X7_farOf rfl rfl rfl (by decide +kernel) ⟨Nat.le_of_ble_eq_true rfl, Nat.le_of_ble_eq_true rfl⟩) (by decide) f85 rfl rfl hl.1 rfl (Nat.le_of_ble_eq_true rfl) dX7_firstStep_39 ⟨Nat.le_of_ble_eq_true rfl, Nat.le_of_ble_eq_true rfl⟩ (fun z u h => h) (fun σ55 H locs hp56 hH => ?_)
        obtain ⟨f92, fr57⟩ := hp56
        have f85 : σ55 85 = oB 5 [.ref (xad E 86), .ref (xad E 87), .ref (xad E 88), .ref (xad E 89), .ref (xad E 90), .int (iZ (b2 sv)), .int (iZ re), .int (iZ ea), .int (iZ fa), .ref (xad E 91), .ref (xad E 92), .ref (xad E 93), .int (iZ ty), .ref (xad E 94), .int (iZ li), .int (iZ th), .int (iZ sz), .int (iZ sp), .int (iZ wr), .int (iZ to), .ref (xad E 95)] := (fr57 85 (by omega)).trans f85
        have f86 : σ55 86 = aI E 87 v := (fr57 86 (by omega)).trans f86
        have e9 := cellZ_ok (r := r) (c := c0) (by omega); have hm9 : mD (dz (Gw op lk kp w) (wc w) (cellZ r c0)) = -1 ↔ ¬ dz (Gw op lk kp w) (wc w) (r * 5 + c0) < 25 := (by rw [e9]; exact mD_m1 (hdr _)); have hn9 : dz (Gw op lk kp w) (wc w) (r * 5 + c0) < 25 → mD (dz (Gw op lk kp w) (wc w) (cellZ r c0)) = dz (Gw op lk kp w) (wc w) (r * 5 + c0) := (fun h => by rw [e9]; exact mD_lt h); have hl9 : -1 ≤ mD (dz (Gw op lk kp w) (wc w) (cellZ r c0)) ∧ mD (dz (Gw op lk kp w) (wc w) (cellZ r c0)) ≤ 25 := (by have h7 := hdr (cellZ r c0); unfold mD; split <;> omega)
        refine lv_goto (tgt := 46) hx hb dX7_firstStep_42 (by decide) ?_
        refine lv_istore (lv' := [(6, .int (iZ (mD (dz (Gw op lk kp w) (wc w) (cellZ r c0))))), (5, .int (iZ 1)), (4, .int (iZ (cellZ r c0))), (0, .ref (xad E 85)), (1, .int (iZ w)), (2, .int (iZ r)), (3, .int (iZ c0))]) hx hb dX7_firstStep_46 hl (by decide) rfl (fun ls hl => ?_)
        obtain ⟨len9, hlen9⟩ : ∃ x : Int, x = mD (dz (Gw op lk kp w) (wc w) (cellZ r c0)) := ⟨_, rfl⟩
        have hl : lv_has ls 11 [(6, .int (iZ len9)), (5, .int (iZ 1)), (4, .int (iZ (cellZ r c0))), (0, .ref (xad E 85)), (1, .int (iZ w)), (2, .int (iZ r)), (3, .int (iZ c0))] := by rw [hlen9]; exact hl
        refine x_iconst hx hb dX7_firstStep_48 ?_
        refine lv_istore (lv' := [(7, .int (iZ (-1))), (6, .int (iZ len9)), (5, .int (iZ 1)), (4, .int (iZ (cellZ r c0))), (0, .ref (xad E 85)), (1, .int (iZ w)), (2, .int (iZ r)), (3, .int (iZ c0))]) hx hb dX7_firstStep_49 hl (by decide) rfl (fun ls hl => ?_)
        refine x_iconst hx hb dX7_firstStep_51 ?_
        refine lv_istore (lv' := [(8, .int (iZ 3)), (7, .int (iZ (-1))), (6, .int (iZ len9)), (5, .int (iZ 1)), (4, .int (iZ (cellZ r c0))), (0, .ref (xad E 85)), (1, .int (iZ w)), (2, .int (iZ r)), (3, .int (iZ c0))]) hx hb dX7_firstStep_52 hl (by decide) rfl (fun ls hl => ?_)
        have K54 : ∀ (nK : Nat) (fo i : Int) (F2 : Int → Int) (σ59 : xW) (H : Heap) (locs : List Loc) (ls : Array Slot), (i + 1).toNat < nK → (-1 ≤ i ∧ i ≤ 3) → (0 < len9 → fsI (Gw op lk kp w) (wc w) (cellZ r c0) (i + 1) fo) → (¬ 0 < len9 → fo = -1) → (∀ j : Int, rg (F2 j)) → (-1 ≤ fo ∧ fo ≤ 3) → σ59 85 = oB 5 [.ref (xad E 86), .ref (xad E 87), .ref (xad E 88), .ref (xad E 89), .ref (xad E 90), .int (iZ (b2 sv)), .int (iZ re), .int (iZ ea), .int (iZ fa), .ref (xad E 91), .ref (xad E 92), .ref (xad E 93), .int (iZ ty), .ref (xad E 94), .int (iZ li), .int (iZ th), .int (iZ sz), .int (iZ sp), .int (iZ wr), .int (iZ to), .ref (xad E 95)] → σ59 86 = aI E 87 v → σ59 92 = aI E 25 F2 → (∀ j : Nat, j ≠ 92 → σ59 j = σ55 j) → Hx E (xA E s.heap.size) s.heap σ59 H locs → lv_has ls 11 [(8, .int (iZ i)), (7, .int (iZ fo)), (6, .int (iZ len9)), (5, .int (iZ 1)), (4, .int (iZ (cellZ r c0))), (0, .ref (xad E 85)), (1, .int (iZ w)), (2, .int (iZ r)), (3, .int (iZ c0))] → W p l e rm_X7_firstStep s m args below meth c H locs 0 0 Q (F0 m 54 ls []) := by
          intro n54
          induction n54 with
          | zero =>
            intro fo i F2 σ59 H locs ls hm
            exact absurd hm (by first | exact Nat.not_lt_zero _ | omega)
          | succ n54 ih54 =>
            intro fo i F2 σ59 H locs ls hm54 hi hfs hfn hF2 hfo f85 f86 f92 fr60 hH hl
            refine lv_iload hx hb dX7_firstStep_54 (lv_at hl 0 rfl) ?_
            refine x_if_lt (tgt := 148) hx hb dX7_firstStep_56 (by decide) (by omega) (fun c56 => ?_) (fun c56 => ?_)
            · have hfin := fs_fin Gw_ok hst hcz hlen9 (by first | exact fun h => absurd h (by omega) | (intro h; have h7 := hfs h; rw [show i + 1 = 0 by omega] at h7; exact h7)) hfn
              rw [e9] at hfin
              refine lv_aload_n hx hb dX7_firstStep_148 rfl (lv_at hl 5 rfl) ?_
              refine lv_iload hx hb dX7_firstStep_149 (lv_at hl 3 rfl) ?_
              refine lv_iload hx hb dX7_firstStep_151 (lv_at hl 1 rfl) ?_
              refine x_iconst hx hb dX7_firstStep_153 ?_
              refine x_icmp_eq (tgt := 161) hx hb dX7_firstStep_154 (by decide) (by omega) (by decide) (fun c154 => ?_) (fun c154 => ?_)
              · refine x_iconst hx hb dX7_firstStep_161 ?_
                refine x_iconst hx hb dX7_firstStep_162 ?_
                refine x_cVIE (As := [.int (iZ 1), .int (iZ 0), .int (iZ 1)]) (rest := []) hx hb hml hts hown hK hST hOK hH 85 (c_X7_holds l E ST hSF σ59 true false true sv re ea fa ty li th sz sp wr to f85 ) (cwV 3 hts gX7_firstStep_X7_holds rfl rfl rfl (by decide +kernel) ⟨Nat.le_of_ble_eq_true rfl, Nat.le_of_ble_eq_true rfl⟩) (by decide) f85 rfl rfl hl.1 rfl (Nat.le_of_ble_eq_true rfl) dX7_firstStep_163 ⟨Nat.le_of_ble_eq_true rfl, Nat.le_of_ble_eq_true rfl⟩ (fun z u h => h) (fun σ62 H locs hp63 hH => ?_)
                obtain ⟨f85, fr64⟩ := hp63
                have f86 : σ62 86 = aI E 87 v := (fr64 86 (by omega)).trans f86
                have f92 : σ62 92 = aI E 25 F2 := (fr64 92 (by omega)).trans f92
                refine x_ifb_eq (tgt := 174) hx hb dX7_firstStep_166 (by decide) (fun c166 => ?_) (fun c166 => ?_)
                · refine x_iconst hx hb dX7_firstStep_174 ?_
                  subst hQ
                  exact x_iret hx hb hr hlocks hH (Nat.le_of_ble_eq_true rfl) (Nat.le_of_ble_eq_true rfl) ⟨(by intro h; have h9 := k2_is.mp h; first | exact hfin.2 h9.2 | (exfalso; omega) | exact absurd c166 (by decide)), ⟨F2, (f85.trans (by first | (rw [k2_0 (by omega) (by omega)]; rfl) | (rw [k2_1 (by omega)]; rfl) | (rw [k2_2 (by omega) (by omega)]; rfl))), f86, f92, (by exact hF2)⟩, fun j hj0 hj1 => ((fr64 j (by omega)).trans ((fr60 j (by omega)).trans (fr57 j (by omega))))⟩ dX7_firstStep_175
                · refine lv_iload hx hb dX7_firstStep_169 (lv_at hl 1 rfl) ?_
                  refine lv_goto (tgt := 175) hx hb dX7_firstStep_171 (by decide) ?_
                  subst hQ
                  exact x_iret hx hb hr hlocks hH (Nat.le_of_ble_eq_true rfl) (Nat.le_of_ble_eq_true rfl) ⟨(by intro h; have h9 := k2_is.mp h; first | exact hfin.2 h9.2 | (exfalso; omega) | exact absurd c166 (by decide)), ⟨F2, (f85.trans (by first | (rw [k2_0 (by omega) (by omega)]; rfl) | (rw [k2_1 (by omega)]; rfl) | (rw [k2_2 (by omega) (by omega)]; rfl))), f86, f92, (by exact hF2)⟩, fun j hj0 hj1 => ((fr64 j (by omega)).trans ((fr60 j (by omega)).trans (fr57 j (by omega))))⟩ dX7_firstStep_175
              · refine x_iconst hx hb dX7_firstStep_157 ?_
                refine lv_goto (tgt := 162) hx hb dX7_firstStep_158 (by decide) ?_
                refine x_iconst hx hb dX7_firstStep_162 ?_
                refine x_cVIE (As := [.int (iZ 1), .int (iZ 1), .int (iZ 1)]) (rest := []) hx hb hml hts hown hK hST hOK hH 85 (c_X7_holds l E ST hSF σ59 true true true sv re ea fa ty li th sz sp wr to f85 ) (cwV 3 hts gX7_firstStep_X7_holds rfl rfl rfl (by decide +kernel) ⟨Nat.le_of_ble_eq_true rfl, Nat.le_of_ble_eq_true rfl⟩) (by decide) f85 rfl rfl hl.1 rfl (Nat.le_of_ble_eq_true rfl) dX7_firstStep_163 ⟨Nat.le_of_ble_eq_true rfl, Nat.le_of_ble_eq_true rfl⟩ (fun z u h => h) (fun σ67 H locs hp68 hH => ?_)
                obtain ⟨f85, fr69⟩ := hp68
                have f86 : σ67 86 = aI E 87 v := (fr69 86 (by omega)).trans f86
                have f92 : σ67 92 = aI E 25 F2 := (fr69 92 (by omega)).trans f92
                refine x_ifb_eq (tgt := 174) hx hb dX7_firstStep_166 (by decide) (fun c166 => ?_) (fun c166 => ?_)
                · refine x_iconst hx hb dX7_firstStep_174 ?_
                  subst hQ
                  exact x_iret hx hb hr hlocks hH (Nat.le_of_ble_eq_true rfl) (Nat.le_of_ble_eq_true rfl) ⟨(by intro h; have h9 := k2_is.mp h; first | exact hfin.2 h9.2 | (exfalso; omega) | exact absurd c166 (by decide)), ⟨F2, (f85.trans (by first | (rw [k2_0 (by omega) (by omega)]; rfl) | (rw [k2_1 (by omega)]; rfl) | (rw [k2_2 (by omega) (by omega)]; rfl))), f86, f92, (by exact hF2)⟩, fun j hj0 hj1 => ((fr69 j (by omega)).trans ((fr60 j (by omega)).trans (fr57 j (by omega))))⟩ dX7_firstStep_175
                · refine lv_iload hx hb dX7_firstStep_169 (lv_at hl 1 rfl) ?_
                  refine lv_goto (tgt := 175) hx hb dX7_firstStep_171 (by decide) ?_
                  subst hQ
                  exact x_iret hx hb hr hlocks hH (Nat.le_of_ble_eq_true rfl) (Nat.le_of_ble_eq_true rfl) ⟨(by intro h; have h9 := k2_is.mp h; first | exact hfin.2 h9.2 | (exfalso; omega) | exact absurd c166 (by decide)), ⟨F2, (f85.trans (by first | (rw [k2_0 (by omega) (by omega)]; rfl) | (rw [k2_1 (by omega)]; rfl) | (rw [k2_2 (by omega) (by omega)]; rfl))), f86, f92, (by exact hF2)⟩, fun j hj0 hj1 => ((fr69 j (by omega)).trans ((fr60 j (by omega)).trans (fr57 j (by omega))))⟩ dX7_firstStep_175
            · refine lv_iload hx hb dX7_firstStep_59 (lv_at hl 2 rfl) ?_
              refine x_if_le (tgt := 148) hx hb dX7_firstStep_61 (by decide) (by omega) (fun c61 => ?_) (fun c61 => ?_)
              · have hfin := fs_fin Gw_ok hst hcz hlen9 (by first | exact fun h => absurd h (by omega) | (intro h; have h7 := hfs h; rw [show i + 1 = 0 by omega] at h7; exact h7)) hfn
                rw [e9] at hfin
                refine lv_aload_n hx hb dX7_firstStep_148 rfl (lv_at hl 5 rfl) ?_
                refine lv_iload hx hb dX7_firstStep_149 (lv_at hl 3 rfl) ?_
                refine lv_iload hx hb dX7_firstStep_151 (lv_at hl 1 rfl) ?_
                refine x_iconst hx hb dX7_firstStep_153 ?_
                refine x_icmp_eq (tgt := 161) hx hb dX7_firstStep_154 (by decide) (by omega) (by decide) (fun c154 => ?_) (fun c154 => ?_)
                · refine x_iconst hx hb dX7_firstStep_161 ?_
                  refine x_iconst hx hb dX7_firstStep_162 ?_
                  refine x_cVIE (As := [.int (iZ 1), .int (iZ 0), .int (iZ 1)]) (rest := []) hx hb hml hts hown hK hST hOK hH 85 (c_X7_holds l E ST hSF σ59 true false true sv re ea fa ty li th sz sp wr to f85 ) (cwV 3 hts gX7_firstStep_X7_holds rfl rfl rfl (by decide +kernel) ⟨Nat.le_of_ble_eq_true rfl, Nat.le_of_ble_eq_true rfl⟩) (by decide) f85 rfl rfl hl.1 rfl (Nat.le_of_ble_eq_true rfl) dX7_firstStep_163 ⟨Nat.le_of_ble_eq_true rfl, Nat.le_of_ble_eq_true rfl⟩ (fun z u h => h) (fun σ72 H locs hp73 hH => ?_)
                  obtain ⟨f85, fr74⟩ := hp73
                  have f86 : σ72 86 = aI E 87 v := (fr74 86 (by omega)).trans f86
                  have f92 : σ72 92 = aI E 25 F2 := (fr74 92 (by omega)).trans f92
                  refine x_ifb_eq (tgt := 174) hx hb dX7_firstStep_166 (by decide) (fun c166 => ?_) (fun c166 => ?_)
                  · refine x_iconst hx hb dX7_firstStep_174 ?_
                    subst hQ
                    exact x_iret hx hb hr hlocks hH (Nat.le_of_ble_eq_true rfl) (Nat.le_of_ble_eq_true rfl) ⟨(by intro h; have h9 := k2_is.mp h; first | exact hfin.2 h9.2 | (exfalso; omega) | exact absurd c166 (by decide)), ⟨F2, (f85.trans (by first | (rw [k2_0 (by omega) (by omega)]; rfl) | (rw [k2_1 (by omega)]; rfl) | (rw [k2_2 (by omega) (by omega)]; rfl))), f86, f92, (by exact hF2)⟩, fun j hj0 hj1 => ((fr74 j (by omega)).trans ((fr60 j (by omega)).trans (fr57 j (by omega))))⟩ dX7_firstStep_175
                  · refine lv_iload hx hb dX7_firstStep_169 (lv_at hl 1 rfl) ?_
                    refine lv_goto (tgt := 175) hx hb dX7_firstStep_171 (by decide) ?_
                    subst hQ
                    exact x_iret hx hb hr hlocks hH (Nat.le_of_ble_eq_true rfl) (Nat.le_of_ble_eq_true rfl) ⟨(by intro h; have h9 := k2_is.mp h; first | exact hfin.2 h9.2 | (exfalso; omega) | exact absurd c166 (by decide)), ⟨F2, (f85.trans (by first | (rw [k2_0 (by omega) (by omega)]; rfl) | (rw [k2_1 (by omega)]; rfl) | (rw [k2_2 (by omega) (by omega)]; rfl))), f86, f92, (by exact hF2)⟩, fun j hj0 hj1 => ((fr74 j (by omega)).trans ((fr60 j (by omega)).trans (fr57 j (by omega))))⟩ dX7_firstStep_175
                · refine x_iconst hx hb dX7_firstStep_157 ?_
                  refine lv_goto (tgt := 162) hx hb dX7_firstStep_158 (by decide) ?_
                  refine x_iconst hx hb dX7_firstStep_162 ?_
                  refine x_cVIE (As := [.int (iZ 1), .int (iZ 1), .int (iZ 1)]) (rest := []) hx hb hml hts hown hK hST hOK hH 85 (c_X7_holds l E ST hSF σ59 true true true sv re ea fa ty li th sz sp wr to f85 ) (cwV 3 hts gX7_firstStep_X7_holds rfl rfl rfl (by decide +kernel) ⟨Nat.le_of_ble_eq_true rfl, Nat.le_of_ble_eq_true rfl⟩) (by decide) f85 rfl rfl hl.1 rfl (Nat.le_of_ble_eq_true rfl) dX7_firstStep_163 ⟨Nat.le_of_ble_eq_true rfl, Nat.le_of_ble_eq_true rfl⟩ (fun z u h => h) (fun σ77 H locs hp78 hH => ?_)
                  obtain ⟨f85, fr79⟩ := hp78
                  have f86 : σ77 86 = aI E 87 v := (fr79 86 (by omega)).trans f86
                  have f92 : σ77 92 = aI E 25 F2 := (fr79 92 (by omega)).trans f92
                  refine x_ifb_eq (tgt := 174) hx hb dX7_firstStep_166 (by decide) (fun c166 => ?_) (fun c166 => ?_)
                  · refine x_iconst hx hb dX7_firstStep_174 ?_
                    subst hQ
                    exact x_iret hx hb hr hlocks hH (Nat.le_of_ble_eq_true rfl) (Nat.le_of_ble_eq_true rfl) ⟨(by intro h; have h9 := k2_is.mp h; first | exact hfin.2 h9.2 | (exfalso; omega) | exact absurd c166 (by decide)), ⟨F2, (f85.trans (by first | (rw [k2_0 (by omega) (by omega)]; rfl) | (rw [k2_1 (by omega)]; rfl) | (rw [k2_2 (by omega) (by omega)]; rfl))), f86, f92, (by exact hF2)⟩, fun j hj0 hj1 => ((fr79 j (by omega)).trans ((fr60 j (by omega)).trans (fr57 j (by omega))))⟩ dX7_firstStep_175
                  · refine lv_iload hx hb dX7_firstStep_169 (lv_at hl 1 rfl) ?_
                    refine lv_goto (tgt := 175) hx hb dX7_firstStep_171 (by decide) ?_
                    subst hQ
                    exact x_iret hx hb hr hlocks hH (Nat.le_of_ble_eq_true rfl) (Nat.le_of_ble_eq_true rfl) ⟨(by intro h; have h9 := k2_is.mp h; first | exact hfin.2 h9.2 | (exfalso; omega) | exact absurd c166 (by decide)), ⟨F2, (f85.trans (by first | (rw [k2_0 (by omega) (by omega)]; rfl) | (rw [k2_1 (by omega)]; rfl) | (rw [k2_2 (by omega) (by omega)]; rfl))), f86, f92, (by exact hF2)⟩, fun j hj0 hj1 => ((fr79 j (by omega)).trans ((fr60 j (by omega)).trans (fr57 j (by omega))))⟩ dX7_firstStep_175
              · have hnr := nbZ_rg (c := wc w) (d := i) hst.1 hst.2
                refine lv_aload_n hx hb dX7_firstStep_64 rfl (lv_at hl 5 rfl) ?_
                refine lv_iload_n hx hb dX7_firstStep_65 rfl (lv_at hl 6 rfl) ?_
                refine x_cVID (As := [.int (iZ w)]) (rest := []) hx hb hml hts hown hK hST hOK hH 85 (c_X7_standing l E ST hSF σ59 w op lk kp wc pn nw sh wk sv re ea fa ty li th sz sp wr to v f85 f86 (by assumption) (by omega) (by omega)) (cwV 1 hts gX7_firstStep_X7_standing rfl rfl rfl (by decide +kernel) ⟨Nat.le_of_ble_eq_true rfl, Nat.le_of_ble_eq_true rfl⟩) (by decide) f85 rfl rfl hl.1 rfl (Nat.le_of_ble_eq_true rfl) dX7_firstStep_66 ⟨Nat.le_of_ble_eq_true rfl, Nat.le_of_ble_eq_true rfl⟩ (fun z u h => h) (fun H locs hH => ?_)
                rw [if_pos (by omega)]
                refine lv_iload hx hb dX7_firstStep_69 (lv_at hl 0 rfl) ?_
                refine x_cSID (As := [.int (iZ (wc w)), .int (iZ i)]) (rest := []) hx hb hml hts hown hK hST hOK hH (c_X7_beside l E ST hSF σ59 (wc w) i  (by omega) (by omega)) (va_cwS 2 hts gX7_firstStep_X7_beside rfl rfl rfl (by decide +kernel) ⟨Nat.le_of_ble_eq_true rfl, Nat.le_of_ble_eq_true rfl⟩) rfl hl.1 rfl (Nat.le_of_ble_eq_true rfl) dX7_firstStep_71 ⟨Nat.le_of_ble_eq_true rfl, Nat.le_of_ble_eq_true rfl⟩ (fun z u h => h) (fun H locs hH => ?_)
                refine lv_istore (lv' := [(9, .int (iZ (nbZ (wc w) i))), (8, .int (iZ i)), (7, .int (iZ fo)), (6, .int (iZ len9)), (5, .int (iZ 1)), (4, .int (iZ (cellZ r c0))), (0, .ref (xad E 85)), (1, .int (iZ w)), (2, .int (iZ r)), (3, .int (iZ c0))]) hx hb dX7_firstStep_74 hl (by decide) rfl (fun ls hl => ?_)
                refine lv_aload_n hx hb dX7_firstStep_76 rfl (lv_at hl 6 rfl) ?_
                refine lv_aload_n hx hb dX7_firstStep_77 rfl (lv_at hl 6 rfl) ?_
                refine lv_iload_n hx hb dX7_firstStep_78 rfl (lv_at hl 7 rfl) ?_
                refine x_cVID (As := [.int (iZ w)]) (rest := [.ref (xad E 85)]) hx hb hml hts hown hK hST hOK hH 85 (c_X7_standing l E ST hSF σ59 w op lk kp wc pn nw sh wk sv re ea fa ty li th sz sp wr to v f85 f86 (by assumption) (by omega) (by omega)) (cwV 1 hts gX7_firstStep_X7_standing rfl rfl rfl (by decide +kernel) ⟨Nat.le_of_ble_eq_true rfl, Nat.le_of_ble_eq_true rfl⟩) (by decide) f85 rfl rfl hl.1 rfl (Nat.le_of_ble_eq_true rfl) dX7_firstStep_79 ⟨Nat.le_of_ble_eq_true rfl, Nat.le_of_ble_eq_true rfl⟩ (fun z u h => h) (fun H locs hH => ?_)
                rw [if_pos (by omega)]
                refine lv_iload hx hb dX7_firstStep_82 (lv_at hl 1 rfl) ?_
                refine x_cVID (As := [.int (iZ (wc w)), .int (iZ i)]) (rest := []) hx hb hml hts hown hK hST hOK hH 85 (c_X7_isJoined l E ST hSF σ59 (wc w) i op lk kp wc pn nw sh wk sv re ea fa ty li th sz sp wr to v f85 f86 (by assumption) (by omega) (by omega) (by omega)) (cwV 2 hts gX7_firstStep_X7_isJoined rfl rfl rfl (by decide +kernel) ⟨Nat.le_of_ble_eq_true rfl, Nat.le_of_ble_eq_true rfl⟩) (by decide) f85 rfl rfl hl.1 rfl (Nat.le_of_ble_eq_true rfl) dX7_firstStep_84 ⟨Nat.le_of_ble_eq_true rfl, Nat.le_of_ble_eq_true rfl⟩ (fun z u h => h) (fun H locs hH => ?_)
                refine x_ifb_eq (tgt := 104) hx hb dX7_firstStep_87 (by decide) (fun c87 => ?_) (fun c87 => ?_)
                · have c87 := of_decide_eq_false c87
                  refine x_iconst hx hb dX7_firstStep_104 ?_
                  refine lv_istore (lv' := [(10, .int (iZ 0)), (9, .int (iZ (nbZ (wc w) i))), (8, .int (iZ i)), (7, .int (iZ fo)), (6, .int (iZ len9)), (5, .int (iZ 1)), (4, .int (iZ (cellZ r c0))), (0, .ref (xad E 85)), (1, .int (iZ w)), (2, .int (iZ r)), (3, .int (iZ c0))]) hx hb dX7_firstStep_105 hl (by decide) rfl (fun ls hl => ?_)
                  have hfy : ¬ fzP (Gw op lk kp w) (wc w) (cellZ r c0) i := fs_pf (by simp_all)
                  refine lv_iload hx hb dX7_firstStep_107 (lv_at hl 0 rfl) ?_
                  refine x_if_eq (tgt := 142) hx hb dX7_firstStep_109 (by decide) (by decide) (fun c109 => ?_) (fun c109 => ?_)
                  · refine x_iinc (lv' := [(8, .int (iZ (i + (-1)))), (10, .int (iZ 0)), (9, .int (iZ (nbZ (wc w) i))), (7, .int (iZ fo)), (6, .int (iZ len9)), (5, .int (iZ 1)), (4, .int (iZ (cellZ r c0))), (0, .ref (xad E 85)), (1, .int (iZ w)), (2, .int (iZ r)), (3, .int (iZ c0))]) hx hb dX7_firstStep_142 hl (k := 2) rfl (by decide) rfl (fun ls hl => ?_)
                    refine lv_goto (tgt := 54) hx hb dX7_firstStep_145 (by decide) ?_
                    exact ih54 fo (i + (-1)) F2 σ59 _ _ _ (by omega) (by omega) (by intro h; rw [show i + (-1) + 1 = i by omega]; first | exact fsI_t (by omega) (hfs h) hfy | exact fsI_f (hfs h) hfy) (by intro h; exact absurd c61 (by omega)) (by first | exact hF2 | exact fun j => ⟨by have := hmR (nbZ (wc w) i) (by omega) j; omega, by have := hmR (nbZ (wc w) i) (by omega) j; omega⟩) (by omega) f85 f86 f92 (fun j hj0 => (fr60 j (by omega))) hH (lv_sub hl [0, 3, 4, 5, 6, 7, 8, 9, 10] rfl)
                  · exact absurd c109 (by decide)
                · have c87 := of_decide_eq_true c87
                  have hj8 := (jo_iff.mp c87).1
                  refine lv_aload_n hx hb dX7_firstStep_90 rfl (lv_at hl 6 rfl) ?_
                  refine lv_iload_n hx hb dX7_firstStep_91 rfl (lv_at hl 7 rfl) ?_
                  refine lv_iload hx hb dX7_firstStep_92 (lv_at hl 0 rfl) ?_
                  refine x_cVID (As := [.int (iZ w), .int (iZ (nbZ (wc w) i))]) (rest := []) hx hb hml hts hown hK hST hOK hH 85 (c_X7_mayEnter l E ST hSF σ59 w (nbZ (wc w) i) op lk kp wc pn nw sh wk sv re ea fa ty li th sz sp wr to v f85 f86 (by assumption) (by omega) (by omega) (by omega)) (cwV 2 hts gX7_firstStep_X7_mayEnter rfl rfl rfl (by decide +kernel) ⟨Nat.le_of_ble_eq_true rfl, Nat.le_of_ble_eq_true rfl⟩) (by decide) f85 rfl rfl hl.1 rfl (Nat.le_of_ble_eq_true rfl) dX7_firstStep_94 ⟨Nat.le_of_ble_eq_true rfl, Nat.le_of_ble_eq_true rfl⟩ (fun z u h => h) (fun H locs hH => ?_)
                  refine x_ifb_eq (tgt := 104) hx hb dX7_firstStep_97 (by decide) (fun c97 => ?_) (fun c97 => ?_)
                  · have c97 := of_decide_eq_false c97
                    refine x_iconst hx hb dX7_firstStep_104 ?_
                    refine lv_istore (lv' := [(10, .int (iZ 0)), (9, .int (iZ (nbZ (wc w) i))), (8, .int (iZ i)), (7, .int (iZ fo)), (6, .int (iZ len9)), (5, .int (iZ 1)), (4, .int (iZ (cellZ r c0))), (0, .ref (xad E 85)), (1, .int (iZ w)), (2, .int (iZ r)), (3, .int (iZ c0))]) hx hb dX7_firstStep_105 hl (by decide) rfl (fun ls hl => ?_)
                    have hfy : ¬ fzP (Gw op lk kp w) (wc w) (cellZ r c0) i := fs_pf (by simp_all)
                    refine lv_iload hx hb dX7_firstStep_107 (lv_at hl 0 rfl) ?_
                    refine x_if_eq (tgt := 142) hx hb dX7_firstStep_109 (by decide) (by decide) (fun c109 => ?_) (fun c109 => ?_)
                    · refine x_iinc (lv' := [(8, .int (iZ (i + (-1)))), (10, .int (iZ 0)), (9, .int (iZ (nbZ (wc w) i))), (7, .int (iZ fo)), (6, .int (iZ len9)), (5, .int (iZ 1)), (4, .int (iZ (cellZ r c0))), (0, .ref (xad E 85)), (1, .int (iZ w)), (2, .int (iZ r)), (3, .int (iZ c0))]) hx hb dX7_firstStep_142 hl (k := 2) rfl (by decide) rfl (fun ls hl => ?_)
                      refine lv_goto (tgt := 54) hx hb dX7_firstStep_145 (by decide) ?_
                      exact ih54 fo (i + (-1)) F2 σ59 _ _ _ (by omega) (by omega) (by intro h; rw [show i + (-1) + 1 = i by omega]; first | exact fsI_t (by omega) (hfs h) hfy | exact fsI_f (hfs h) hfy) (by intro h; exact absurd c61 (by omega)) (by first | exact hF2 | exact fun j => ⟨by have := hmR (nbZ (wc w) i) (by omega) j; omega, by have := hmR (nbZ (wc w) i) (by omega) j; omega⟩) (by omega) f85 f86 f92 (fun j hj0 => (fr60 j (by omega))) hH (lv_sub hl [0, 3, 4, 5, 6, 7, 8, 9, 10] rfl)
                    · exact absurd c109 (by decide)
                  · have c97 := of_decide_eq_true c97
                    refine x_iconst hx hb dX7_firstStep_100 ?_
                    refine lv_goto (tgt := 105) hx hb dX7_firstStep_101 (by decide) ?_
                    refine lv_istore (lv' := [(10, .int (iZ 1)), (9, .int (iZ (nbZ (wc w) i))), (8, .int (iZ i)), (7, .int (iZ fo)), (6, .int (iZ len9)), (5, .int (iZ 1)), (4, .int (iZ (cellZ r c0))), (0, .ref (xad E 85)), (1, .int (iZ w)), (2, .int (iZ r)), (3, .int (iZ c0))]) hx hb dX7_firstStep_105 hl (by decide) rfl (fun ls hl => ?_)
                    have hfx := fs_pt (op := op) (lk := lk) (kp := kp) (w := w) hst hcz (d := i) (by omega) hlen9 (by omega) c87 c97
                    have hj9 := (jo_iff.mp c87).1
                    refine lv_iload hx hb dX7_firstStep_107 (lv_at hl 0 rfl) ?_
                    refine x_if_eq (tgt := 142) hx hb dX7_firstStep_109 (by decide) (by decide) (fun c109 => ?_) (fun c109 => ?_)
                    · exact absurd c109 (by decide)
                    · refine lv_aload_n hx hb dX7_firstStep_112 rfl (lv_at hl 7 rfl) ?_
                      refine lv_iload_n hx hb dX7_firstStep_113 rfl (lv_at hl 8 rfl) ?_
                      refine lv_iload hx hb dX7_firstStep_114 (lv_at hl 1 rfl) ?_
                      refine x_cVV (As := [.int (iZ w), .int (iZ (nbZ (wc w) i))]) (rest := []) hx hb hml hts hown hK hST hOK hH 85 (c_X7_measures l E ST hSF σ59 w (nbZ (wc w) i) op lk kp wc pn nw sh wk sv re ea fa ty li th sz sp wr to v F2 f85 f86 f92 (by assumption) (by omega) (by omega) (by omega) (by assumption)) (cwV 2 hts gX7_firstStep_X7_measures rfl rfl rfl (by decide +kernel) ⟨Nat.le_of_ble_eq_true rfl, Nat.le_of_ble_eq_true rfl⟩) (by decide) f85 rfl rfl hl.1 rfl (Nat.le_of_ble_eq_true rfl) dX7_firstStep_116 ⟨Nat.le_of_ble_eq_true rfl, Nat.le_of_ble_eq_true rfl⟩ (fun σ97 H locs hp98 hH => ?_)
                      obtain ⟨f92, fr99⟩ := hp98
                      have f85 : σ97 85 = oB 5 [.ref (xad E 86), .ref (xad E 87), .ref (xad E 88), .ref (xad E 89), .ref (xad E 90), .int (iZ (b2 sv)), .int (iZ re), .int (iZ ea), .int (iZ fa), .ref (xad E 91), .ref (xad E 92), .ref (xad E 93), .int (iZ ty), .ref (xad E 94), .int (iZ li), .int (iZ th), .int (iZ sz), .int (iZ sp), .int (iZ wr), .int (iZ to), .ref (xad E 95)] := (fr99 85 (by omega)).trans f85
                      have f86 : σ97 86 = aI E 87 v := (fr99 86 (by omega)).trans f86
                      refine lv_aload_n hx hb dX7_firstStep_119 rfl (lv_at hl 7 rfl) ?_
                      refine x_get hx hb hts hown hK hH 85 (by decide) f85 hinX7 rfl 10 (by decide) (List.mem_of_getElem? (i := 1) rfl) rfl dX7_firstStep_120 ?_
                      refine lv_iload hx hb dX7_firstStep_123 (lv_at hl 6 rfl) ?_
                      refine x_iald hx hb hK hH 92 (by decide) f92 (by omega) (by omega) (by omega) dX7_firstStep_125 ?_
                      have hv101 := hmR (nbZ (wc w) i) (by omega) (cellZ r c0)
                      refine lv_iload hx hb dX7_firstStep_126 (lv_at hl 4 rfl) ?_
                      refine x_iconst hx hb dX7_firstStep_128 ?_
                      refine x_isub hx hb dX7_firstStep_129 ?_
                      refine x_icmp_ne (tgt := 138) hx hb dX7_firstStep_130 (by decide) (by omega) (by omega) (fun c130 => ?_) (fun c130 => ?_)
                      · have hfy := fun q => c130 (hfx.mpr q)
                        refine lv_iload hx hb dX7_firstStep_138 (lv_at hl 3 rfl) ?_
                        refine lv_istore (lv' := [(7, .int (iZ fo)), (10, .int (iZ 1)), (9, .int (iZ (nbZ (wc w) i))), (8, .int (iZ i)), (6, .int (iZ len9)), (5, .int (iZ 1)), (4, .int (iZ (cellZ r c0))), (0, .ref (xad E 85)), (1, .int (iZ w)), (2, .int (iZ r)), (3, .int (iZ c0))]) hx hb dX7_firstStep_140 hl (by decide) rfl (fun ls hl => ?_)
                        refine x_iinc (lv' := [(8, .int (iZ (i + (-1)))), (7, .int (iZ fo)), (10, .int (iZ 1)), (9, .int (iZ (nbZ (wc w) i))), (6, .int (iZ len9)), (5, .int (iZ 1)), (4, .int (iZ (cellZ r c0))), (0, .ref (xad E 85)), (1, .int (iZ w)), (2, .int (iZ r)), (3, .int (iZ c0))]) hx hb dX7_firstStep_142 hl (k := 3) rfl (by decide) rfl (fun ls hl => ?_)
                        refine lv_goto (tgt := 54) hx hb dX7_firstStep_145 (by decide) ?_
                        exact ih54 fo (i + (-1)) (mdF (Gw op lk kp w) (nbZ (wc w) i)) σ97 _ _ _ (by omega) (by omega) (by intro h; rw [show i + (-1) + 1 = i by omega]; first | exact fsI_t (by omega) (hfs h) hfy | exact fsI_f (hfs h) hfy) (by intro h; exact absurd c61 (by omega)) (by first | exact hF2 | exact fun j => ⟨by have := hmR (nbZ (wc w) i) (by omega) j; omega, by have := hmR (nbZ (wc w) i) (by omega) j; omega⟩) (by omega) f85 f86 f92 (fun j hj0 => ((fr99 j (by omega)).trans (fr60 j (by omega)))) hH (lv_sub hl [0, 1, 4, 5, 6, 7, 8, 9, 10] rfl)
                      · have hfy := hfx.mp c130
                        refine lv_iload hx hb dX7_firstStep_133 (lv_at hl 2 rfl) ?_
                        refine lv_goto (tgt := 140) hx hb dX7_firstStep_135 (by decide) ?_
                        refine lv_istore (lv' := [(7, .int (iZ i)), (10, .int (iZ 1)), (9, .int (iZ (nbZ (wc w) i))), (8, .int (iZ i)), (6, .int (iZ len9)), (5, .int (iZ 1)), (4, .int (iZ (cellZ r c0))), (0, .ref (xad E 85)), (1, .int (iZ w)), (2, .int (iZ r)), (3, .int (iZ c0))]) hx hb dX7_firstStep_140 hl (by decide) rfl (fun ls hl => ?_)
                        refine x_iinc (lv' := [(8, .int (iZ (i + (-1)))), (7, .int (iZ i)), (10, .int (iZ 1)), (9, .int (iZ (nbZ (wc w) i))), (6, .int (iZ len9)), (5, .int (iZ 1)), (4, .int (iZ (cellZ r c0))), (0, .ref (xad E 85)), (1, .int (iZ w)), (2, .int (iZ r)), (3, .int (iZ c0))]) hx hb dX7_firstStep_142 hl (k := 3) rfl (by decide) rfl (fun ls hl => ?_)
                        refine lv_goto (tgt := 54) hx hb dX7_firstStep_145 (by decide) ?_
                        exact ih54 i (i + (-1)) (mdF (Gw op lk kp w) (nbZ (wc w) i)) σ97 _ _ _ (by omega) (by omega) (by intro h; rw [show i + (-1) + 1 = i by omega]; first | exact fsI_t (by omega) (hfs h) hfy | exact fsI_f (hfs h) hfy) (by intro h; exact absurd c61 (by omega)) (by first | exact hF2 | exact fun j => ⟨by have := hmR (nbZ (wc w) i) (by omega) j; omega, by have := hmR (nbZ (wc w) i) (by omega) j; omega⟩) (by omega) f85 f86 f92 (fun j hj0 => ((fr99 j (by omega)).trans (fr60 j (by omega)))) hH (lv_sub hl [0, 1, 4, 5, 6, 7, 8, 9, 10] rfl)
        exact K54 5 (-1) 3 (mdF (Gw op lk kp w) (wc w)) σ55 _ _ _ (by first | omega | decide) (by omega) (by intro h; exact fsI_0) (by intro h; rfl) (by first | exact hFr | exact fun j => ⟨by have := hmR (wc w) (hwc w) j; omega, by have := hmR (wc w) (hwc w) j; omega⟩) (by omega) f85 f86 f92 (fun j _ => rfl) hH (lv_sub hl [0, 1, 2, 3, 4, 5, 6, 7, 8] rfl)

def rm_X7_nearestKey : Room := { frames := 7, cells := 0, slots := 0, locals := 159 }
set_option maxRecDepth 100000 in
set_option maxHeartbeats 4000000 in
theorem c_X7_nearestKey (l : Launch) (E : xE) (ST : xST) (hSF : SF ST) (σ : xW) (w : Int) (op : Int → Int) (lk : Int → Int) (kp : Int → Int) (wc : Int → Int) (pn : Int) (nw : Int) (sh : Int) (wk : Int) (sv : Bool) (re : Int) (ea : Int) (fa : Int) (ty : Int) (li : Int) (th : Int) (sz : Int) (sp : Int) (wr : Int) (to : Int) (v : Int → Int) (F : Int → Int) (hr0 : mo E σ sv re ea fa ty li th sz sp wr to) (hr1 : now E σ v) (hr2 : far E σ F) (hC : Cp v op lk kp wc pn nw sh wk) (hB : BI op lk kp wc pn nw) (hw9 : rg w) (hFr : ∀ j : Int, rg (F j)) : CI l E ST yX7_nearestKey wsX7_nearestKey rm_X7_nearestKey [.ref (xad E 85), .int (iZ w)] σ (fun (z : Int) (u : xW) => (k2 (0 ≤ w ∧ w < nw) (¬ (nkK kp (dz (Gw op lk kp w) (wc w)) 6).1 = -1) = 0 → z = 97 + (nkK kp (dz (Gw op lk kp w) (wc w)) 6).1) ∧ (∃ (F1 : Int → Int), mo E u sv re ea fa ty li (k2 (0 ≤ w ∧ w < nw) (¬ (nkK kp (dz (Gw op lk kp w) (wc w)) 6).1 = -1)) sz sp wr to ∧ now E u v ∧ far E u F1 ∧ (∀ j : Int, rg (F1 j))) ∧ ∀ j : Nat, j ≠ 85 → j ≠ 92 → u j = σ j) := by
  have f85 : σ 85 = oB 5 [.ref (xad E 86), .ref (xad E 87), .ref (xad E 88), .ref (xad E 89), .ref (xad E 90), .int (iZ (b2 sv)), .int (iZ re), .int (iZ ea), .int (iZ fa), .ref (xad E 91), .ref (xad E 92), .ref (xad E 93), .int (iZ ty), .ref (xad E 94), .int (iZ li), .int (iZ th), .int (iZ sz), .int (iZ sp), .int (iZ wr), .int (iZ to), .ref (xad E 95)] := hr0
  have f86 : σ 86 = aI E 87 v := hr1
  have f92 : σ 92 = aI E 25 F := hr2
  refine CI_of (by decide) rfl (Nat.le_of_ble_eq_true rfl) ?_
  intro p e s m args below meth c Q ls G hH hl hQ
  obtain ⟨hx, hb, hml, hown, hts, hK, hST, hlocks, hr, hno⟩ := G
  have hOK := hSF.1
  have hown : s.vm.findClass RX7 = some m.cls := hown
  have hl : lv_has ls 6 [(0, .ref (xad E 85)), (1, .int (iZ w))] := hl
  have hinX7 : ∀ w ∈ u_ws RX7 TX7 21, w ∈ wsX7_nearestKey := fun w h => (List.mem_cons_of_mem _ (List.mem_append_right _ h))
  obtain ⟨hop, hlk, hkp, hwc, hpn, hnw⟩ := id hB
  have hvR := hC.R
  have hv0 := hC.1.1
  have hst := hwc w
  have hdr := dz_rg (G := Gw op lk kp w) (st := wc w) Gw_ok (hwc w)
  have hmr := mdF_rg (G := Gw op lk kp w) (st := wc w) Gw_ok (hwc w)
  refine x_iconst hx hb dX7_nearestKey_0 ?_
  refine lv_istore_n (lv' := [(2, .int (iZ (-1))), (0, .ref (xad E 85)), (1, .int (iZ w))]) hx hb dX7_nearestKey_1 rfl hl (by decide) rfl (fun ls hl => ?_)
  refine lv_aload_n hx hb dX7_nearestKey_2 rfl (lv_at hl 1 rfl) ?_
  refine lv_iload_n hx hb dX7_nearestKey_3 rfl (lv_at hl 2 rfl) ?_
  refine x_cVID (As := [.int (iZ w)]) (rest := []) hx hb hml hts hown hK hST hOK hH 85 (c_X7_isWalker l E ST hSF σ w op lk kp wc pn nw sh wk sv re ea fa ty li th sz sp wr to v f85 f86 (by assumption) (by omega) (by omega)) (cwV 1 hts gX7_nearestKey_X7_isWalker rfl rfl rfl (by decide +kernel) ⟨Nat.le_of_ble_eq_true rfl, Nat.le_of_ble_eq_true rfl⟩) (by decide) f85 rfl rfl hl.1 rfl (Nat.le_of_ble_eq_true rfl) dX7_nearestKey_4 ⟨Nat.le_of_ble_eq_true rfl, Nat.le_of_ble_eq_true rfl⟩ (fun z u h => h) (fun H locs hH => ?_)
  refine x_ifb_eq (tgt := 110) hx hb dX7_nearestKey_7 (by decide) (fun c7 => ?_) (fun c7 => ?_)
  · have c7 := of_decide_eq_false c7
    refine lv_aload_n hx hb dX7_nearestKey_110 rfl (lv_at hl 1 rfl) ?_
    refine lv_aload_n hx hb dX7_nearestKey_111 rfl (lv_at hl 1 rfl) ?_
    refine lv_iload_n hx hb dX7_nearestKey_112 rfl (lv_at hl 2 rfl) ?_
    refine x_cVID (As := [.int (iZ w)]) (rest := [.ref (xad E 85)]) hx hb hml hts hown hK hST hOK hH 85 (c_X7_isWalker l E ST hSF σ w op lk kp wc pn nw sh wk sv re ea fa ty li th sz sp wr to v f85 f86 (by assumption) (by omega) (by omega)) (cwV 1 hts gX7_nearestKey_X7_isWalker rfl rfl rfl (by decide +kernel) ⟨Nat.le_of_ble_eq_true rfl, Nat.le_of_ble_eq_true rfl⟩) (by decide) f85 rfl rfl hl.1 rfl (Nat.le_of_ble_eq_true rfl) dX7_nearestKey_113 ⟨Nat.le_of_ble_eq_true rfl, Nat.le_of_ble_eq_true rfl⟩ (fun z u h => h) (fun H locs hH => ?_)
    refine lv_iload_n hx hb dX7_nearestKey_116 rfl (lv_at hl 0 rfl) ?_
    refine x_iconst hx hb dX7_nearestKey_117 ?_
    refine x_icmp_eq (tgt := 125) hx hb dX7_nearestKey_118 (by decide) (by decide) (by decide) (fun c118 => ?_) (fun c118 => ?_)
    · refine x_iconst hx hb dX7_nearestKey_125 ?_
      refine x_iconst hx hb dX7_nearestKey_126 ?_
      refine x_cVIE (As := [.int (iZ (b2 (decide (0 ≤ w ∧ w < nw)))), .int (iZ 0), .int (iZ 1)]) (rest := []) hx hb hml hts hown hK hST hOK hH 85 (c_X7_holds l E ST hSF σ (decide (0 ≤ w ∧ w < nw)) false true sv re ea fa ty li th sz sp wr to f85 ) (cwV 3 hts gX7_nearestKey_X7_holds rfl rfl rfl (by decide +kernel) ⟨Nat.le_of_ble_eq_true rfl, Nat.le_of_ble_eq_true rfl⟩) (by decide) f85 rfl rfl hl.1 rfl (Nat.le_of_ble_eq_true rfl) dX7_nearestKey_127 ⟨Nat.le_of_ble_eq_true rfl, Nat.le_of_ble_eq_true rfl⟩ (fun z u h => h) (fun σ8 H locs hp9 hH => ?_)
      obtain ⟨f85, fr10⟩ := hp9
      have f86 : σ8 86 = aI E 87 v := (fr10 86 (by omega)).trans f86
      have f92 : σ8 92 = aI E 25 F := (fr10 92 (by omega)).trans f92
      refine x_ifb_eq (tgt := 141) hx hb dX7_nearestKey_130 (by decide) (fun c130 => ?_) (fun c130 => ?_)
      · refine x_iconst hx hb dX7_nearestKey_141 ?_
        subst hQ
        exact x_cret hx hb hr hlocks hH (Nat.le_of_ble_eq_true rfl) (Nat.le_of_ble_eq_true rfl) (by omega) (by omega) ⟨(by intro h; have h9 := k2_is.mp h; first | (rw [hnk]; done) | exact absurd h9.1 c7 | (exfalso; rw [hnk] at h9; have h8 := okZ_f.mp c130; simp_all) | (exfalso; simp_all)), ⟨F, (f85.trans (by first | rw [g2_of (P := 0 ≤ w ∧ w < nw) (Q := ¬ (nkK kp (dz (Gw op lk kp w) (wc w)) 6).1 = -1) Iff.rfl (fun h => by rw [hnk]; simp [c118])] | (rw [decide_eq_false c7, k2_1 c7]; rfl))), f86, f92, (by first | assumption | exact fun j => ⟨by have := mdF_rg (G := Gw op lk kp w) (st := wc w) Gw_ok (hwc w) j; omega, by have := mdF_rg (G := Gw op lk kp w) (st := wc w) Gw_ok (hwc w) j; omega⟩)⟩, fun j hj0 hj1 => (fr10 j (by omega))⟩ dX7_nearestKey_142
      · refine x_bipush hx hb dX7_nearestKey_133 (by decide) ?_
        refine lv_iload_n hx hb dX7_nearestKey_135 rfl (lv_at hl 0 rfl) ?_
        refine x_iadd hx hb dX7_nearestKey_136 ?_
        refine x_i2c hx hb dX7_nearestKey_137 ?_
        rw [i2cZ_in (by omega) (by omega)]
        refine lv_goto (tgt := 142) hx hb dX7_nearestKey_138 (by decide) ?_
        subst hQ
        exact x_cret hx hb hr hlocks hH (Nat.le_of_ble_eq_true rfl) (Nat.le_of_ble_eq_true rfl) (by omega) (by omega) ⟨(by intro h; have h9 := k2_is.mp h; first | (rw [hnk]; done) | exact absurd h9.1 c7 | (exfalso; rw [hnk] at h9; have h8 := okZ_f.mp c130; simp_all) | (exfalso; simp_all)), ⟨F, (f85.trans (by first | rw [g2_of (P := 0 ≤ w ∧ w < nw) (Q := ¬ (nkK kp (dz (Gw op lk kp w) (wc w)) 6).1 = -1) Iff.rfl (fun h => by rw [hnk]; simp [c118])] | (rw [decide_eq_false c7, k2_1 c7]; rfl))), f86, f92, (by first | assumption | exact fun j => ⟨by have := mdF_rg (G := Gw op lk kp w) (st := wc w) Gw_ok (hwc w) j; omega, by have := mdF_rg (G := Gw op lk kp w) (st := wc w) Gw_ok (hwc w) j; omega⟩)⟩, fun j hj0 hj1 => (fr10 j (by omega))⟩ dX7_nearestKey_142
    · exact absurd c118 (by decide)
  · have c7 := of_decide_eq_true c7
    refine lv_aload_n hx hb dX7_nearestKey_10 rfl (lv_at hl 1 rfl) ?_
    refine lv_iload_n hx hb dX7_nearestKey_11 rfl (lv_at hl 2 rfl) ?_
    refine lv_aload_n hx hb dX7_nearestKey_12 rfl (lv_at hl 1 rfl) ?_
    refine lv_iload_n hx hb dX7_nearestKey_13 rfl (lv_at hl 2 rfl) ?_
    refine x_cVID (As := [.int (iZ w)]) (rest := [.int (iZ w), .ref (xad E 85)]) hx hb hml hts hown hK hST hOK hH 85 (c_X7_standing l E ST hSF σ w op lk kp wc pn nw sh wk sv re ea fa ty li th sz sp wr to v f85 f86 (by assumption) (by omega) (by omega)) (cwV 1 hts gX7_nearestKey_X7_standing rfl rfl rfl (by decide +kernel) ⟨Nat.le_of_ble_eq_true rfl, Nat.le_of_ble_eq_true rfl⟩) (by decide) f85 rfl rfl hl.1 rfl (Nat.le_of_ble_eq_true rfl) dX7_nearestKey_14 ⟨Nat.le_of_ble_eq_true rfl, Nat.le_of_ble_eq_true rfl⟩ (fun z u h => h) (fun H locs hH => ?_)
    rw [if_pos (by omega)]
    refine x_cVV (As := [.int (iZ w), .int (iZ (wc w))]) (rest := []) hx hb hml hts hown hK hST hOK hH 85 (c_X7_measures l E ST hSF σ w (wc w) op lk kp wc pn nw sh wk sv re ea fa ty li th sz sp wr to v F f85 f86 f92 (by assumption) (by omega) (by omega) (by omega) (by assumption)) (cwV 2 hts gX7_nearestKey_X7_measures rfl rfl rfl (by decide +kernel) ⟨Nat.le_of_ble_eq_true rfl, Nat.le_of_ble_eq_true rfl⟩) (by decide) f85 rfl rfl hl.1 rfl (Nat.le_of_ble_eq_true rfl) dX7_nearestKey_17 ⟨Nat.le_of_ble_eq_true rfl, Nat.le_of_ble_eq_true rfl⟩ (fun σ16 H locs hp17 hH => ?_)
    obtain ⟨f92, fr18⟩ := hp17
    have f85 : σ16 85 = oB 5 [.ref (xad E 86), .ref (xad E 87), .ref (xad E 88), .ref (xad E 89), .ref (xad E 90), .int (iZ (b2 sv)), .int (iZ re), .int (iZ ea), .int (iZ fa), .ref (xad E 91), .ref (xad E 92), .ref (xad E 93), .int (iZ ty), .ref (xad E 94), .int (iZ li), .int (iZ th), .int (iZ sz), .int (iZ sp), .int (iZ wr), .int (iZ to), .ref (xad E 95)] := (fr18 85 (by omega)).trans f85
    have f86 : σ16 86 = aI E 87 v := (fr18 86 (by omega)).trans f86
    refine x_iconst hx hb dX7_nearestKey_20 ?_
    refine lv_istore_n (lv' := [(3, .int (iZ 5)), (2, .int (iZ (-1))), (0, .ref (xad E 85)), (1, .int (iZ w))]) hx hb dX7_nearestKey_21 rfl hl (by decide) rfl (fun ls hl => ?_)
    have K22 : ∀ (nK : Nat) (ne i : Int) (H : Heap) (locs : List Loc) (ls : Array Slot), (i + 1).toNat < nK → (-1 ≤ i ∧ i ≤ 5) → (nkQ kp (dz (Gw op lk kp w) (wc w)) (i + 1) ne) → (-1 ≤ ne ∧ ne ≤ 5) → Hx E (xA E s.heap.size) s.heap σ16 H locs → lv_has ls 6 [(3, .int (iZ i)), (2, .int (iZ ne)), (0, .ref (xad E 85)), (1, .int (iZ w))] → W p l e rm_X7_nearestKey s m args below meth c H locs 0 0 Q (F0 m 22 ls []) := by
      intro n22
      induction n22 with
      | zero =>
        intro ne i H locs ls hm
        exact absurd hm (by first | exact Nat.not_lt_zero _ | omega)
      | succ n22 ih22 =>
        intro ne i H locs ls hm22 hi hnq hne  hH hl
        refine lv_iload_n hx hb dX7_nearestKey_22 rfl (lv_at hl 0 rfl) ?_
        refine x_if_lt (tgt := 110) hx hb dX7_nearestKey_23 (by decide) (by omega) (fun c23 => ?_) (fun c23 => ?_)
        · have hnk : (nkK kp (dz (Gw op lk kp w) (wc w)) 6).1 = ne := nkQ_eq (by have h7 := hnq; rw [show i + 1 = 0 by omega] at h7; exact h7)
          refine lv_aload_n hx hb dX7_nearestKey_110 rfl (lv_at hl 2 rfl) ?_
          refine lv_aload_n hx hb dX7_nearestKey_111 rfl (lv_at hl 2 rfl) ?_
          refine lv_iload_n hx hb dX7_nearestKey_112 rfl (lv_at hl 3 rfl) ?_
          refine x_cVID (As := [.int (iZ w)]) (rest := [.ref (xad E 85)]) hx hb hml hts hown hK hST hOK hH 85 (c_X7_isWalker l E ST hSF σ16 w op lk kp wc pn nw sh wk sv re ea fa ty li th sz sp wr to v f85 f86 (by assumption) (by omega) (by omega)) (cwV 1 hts gX7_nearestKey_X7_isWalker rfl rfl rfl (by decide +kernel) ⟨Nat.le_of_ble_eq_true rfl, Nat.le_of_ble_eq_true rfl⟩) (by decide) f85 rfl rfl hl.1 rfl (Nat.le_of_ble_eq_true rfl) dX7_nearestKey_113 ⟨Nat.le_of_ble_eq_true rfl, Nat.le_of_ble_eq_true rfl⟩ (fun z u h => h) (fun H locs hH => ?_)
          refine lv_iload_n hx hb dX7_nearestKey_116 rfl (lv_at hl 1 rfl) ?_
          refine x_iconst hx hb dX7_nearestKey_117 ?_
          refine x_icmp_eq (tgt := 125) hx hb dX7_nearestKey_118 (by decide) (by omega) (by decide) (fun c118 => ?_) (fun c118 => ?_)
          · refine x_iconst hx hb dX7_nearestKey_125 ?_
            refine x_iconst hx hb dX7_nearestKey_126 ?_
            refine x_cVIE (As := [.int (iZ (b2 (decide (0 ≤ w ∧ w < nw)))), .int (iZ 0), .int (iZ 1)]) (rest := []) hx hb hml hts hown hK hST hOK hH 85 (c_X7_holds l E ST hSF σ16 (decide (0 ≤ w ∧ w < nw)) false true sv re ea fa ty li th sz sp wr to f85 ) (cwV 3 hts gX7_nearestKey_X7_holds rfl rfl rfl (by decide +kernel) ⟨Nat.le_of_ble_eq_true rfl, Nat.le_of_ble_eq_true rfl⟩) (by decide) f85 rfl rfl hl.1 rfl (Nat.le_of_ble_eq_true rfl) dX7_nearestKey_127 ⟨Nat.le_of_ble_eq_true rfl, Nat.le_of_ble_eq_true rfl⟩ (fun z u h => h) (fun σ25 H locs hp26 hH => ?_)
            obtain ⟨f85, fr27⟩ := hp26
            have f86 : σ25 86 = aI E 87 v := (fr27 86 (by omega)).trans f86
            have f92 : σ25 92 = aI E 25 (mdF (Gw op lk kp w) (wc w)) := (fr27 92 (by omega)).trans f92
            refine x_ifb_eq (tgt := 141) hx hb dX7_nearestKey_130 (by decide) (fun c130 => ?_) (fun c130 => ?_)
            · refine x_iconst hx hb dX7_nearestKey_141 ?_
              subst hQ
              exact x_cret hx hb hr hlocks hH (Nat.le_of_ble_eq_true rfl) (Nat.le_of_ble_eq_true rfl) (by omega) (by omega) ⟨(by intro h; have h9 := k2_is.mp h; first | (rw [hnk]; done) | exact absurd h9.1 c7 | (exfalso; rw [hnk] at h9; have h8 := okZ_f.mp c130; simp_all) | (exfalso; simp_all)), ⟨(mdF (Gw op lk kp w) (wc w)), (f85.trans (by first | rw [g2_of (P := 0 ≤ w ∧ w < nw) (Q := ¬ (nkK kp (dz (Gw op lk kp w) (wc w)) 6).1 = -1) Iff.rfl (fun h => by rw [hnk]; simp [c118])] | (rw [decide_eq_false c7, k2_1 c7]; rfl))), f86, f92, (by first | assumption | exact fun j => ⟨by have := mdF_rg (G := Gw op lk kp w) (st := wc w) Gw_ok (hwc w) j; omega, by have := mdF_rg (G := Gw op lk kp w) (st := wc w) Gw_ok (hwc w) j; omega⟩)⟩, fun j hj0 hj1 => ((fr27 j (by omega)).trans (fr18 j (by omega)))⟩ dX7_nearestKey_142
            · refine x_bipush hx hb dX7_nearestKey_133 (by decide) ?_
              refine lv_iload_n hx hb dX7_nearestKey_135 rfl (lv_at hl 1 rfl) ?_
              refine x_iadd hx hb dX7_nearestKey_136 ?_
              refine x_i2c hx hb dX7_nearestKey_137 ?_
              rw [i2cZ_in (by omega) (by omega)]
              refine lv_goto (tgt := 142) hx hb dX7_nearestKey_138 (by decide) ?_
              subst hQ
              exact x_cret hx hb hr hlocks hH (Nat.le_of_ble_eq_true rfl) (Nat.le_of_ble_eq_true rfl) (by omega) (by omega) ⟨(by intro h; have h9 := k2_is.mp h; first | (rw [hnk]; done) | exact absurd h9.1 c7 | (exfalso; rw [hnk] at h9; have h8 := okZ_f.mp c130; simp_all) | (exfalso; simp_all)), ⟨(mdF (Gw op lk kp w) (wc w)), (f85.trans (by first | rw [g2_of (P := 0 ≤ w ∧ w < nw) (Q := ¬ (nkK kp (dz (Gw op lk kp w) (wc w)) 6).1 = -1) Iff.rfl (fun h => by rw [hnk]; simp [c118])] | (rw [decide_eq_false c7, k2_1 c7]; rfl))), f86, f92, (by first | assumption | exact fun j => ⟨by have := mdF_rg (G := Gw op lk kp w) (st := wc w) Gw_ok (hwc w) j; omega, by have := mdF_rg (G := Gw op lk kp w) (st := wc w) Gw_ok (hwc w) j; omega⟩)⟩, fun j hj0 hj1 => ((fr27 j (by omega)).trans (fr18 j (by omega)))⟩ dX7_nearestKey_142
          · refine x_iconst hx hb dX7_nearestKey_121 ?_
            refine lv_goto (tgt := 126) hx hb dX7_nearestKey_122 (by decide) ?_
            refine x_iconst hx hb dX7_nearestKey_126 ?_
            refine x_cVIE (As := [.int (iZ (b2 (decide (0 ≤ w ∧ w < nw)))), .int (iZ 1), .int (iZ 1)]) (rest := []) hx hb hml hts hown hK hST hOK hH 85 (c_X7_holds l E ST hSF σ16 (decide (0 ≤ w ∧ w < nw)) true true sv re ea fa ty li th sz sp wr to f85 ) (cwV 3 hts gX7_nearestKey_X7_holds rfl rfl rfl (by decide +kernel) ⟨Nat.le_of_ble_eq_true rfl, Nat.le_of_ble_eq_true rfl⟩) (by decide) f85 rfl rfl hl.1 rfl (Nat.le_of_ble_eq_true rfl) dX7_nearestKey_127 ⟨Nat.le_of_ble_eq_true rfl, Nat.le_of_ble_eq_true rfl⟩ (fun z u h => h) (fun σ30 H locs hp31 hH => ?_)
            obtain ⟨f85, fr32⟩ := hp31
            have f86 : σ30 86 = aI E 87 v := (fr32 86 (by omega)).trans f86
            have f92 : σ30 92 = aI E 25 (mdF (Gw op lk kp w) (wc w)) := (fr32 92 (by omega)).trans f92
            refine x_ifb_eq (tgt := 141) hx hb dX7_nearestKey_130 (by decide) (fun c130 => ?_) (fun c130 => ?_)
            · refine x_iconst hx hb dX7_nearestKey_141 ?_
              subst hQ
              exact x_cret hx hb hr hlocks hH (Nat.le_of_ble_eq_true rfl) (Nat.le_of_ble_eq_true rfl) (by omega) (by omega) ⟨(by intro h; have h9 := k2_is.mp h; first | (rw [hnk]; done) | exact absurd h9.1 c7 | (exfalso; rw [hnk] at h9; have h8 := okZ_f.mp c130; simp_all) | (exfalso; simp_all)), ⟨(mdF (Gw op lk kp w) (wc w)), (f85.trans (by first | rw [g2_of (P := 0 ≤ w ∧ w < nw) (Q := ¬ (nkK kp (dz (Gw op lk kp w) (wc w)) 6).1 = -1) Iff.rfl (fun h => by rw [hnk]; simp [c118])] | (rw [decide_eq_false c7, k2_1 c7]; rfl))), f86, f92, (by first | assumption | exact fun j => ⟨by have := mdF_rg (G := Gw op lk kp w) (st := wc w) Gw_ok (hwc w) j; omega, by have := mdF_rg (G := Gw op lk kp w) (st := wc w) Gw_ok (hwc w) j; omega⟩)⟩, fun j hj0 hj1 => ((fr32 j (by omega)).trans (fr18 j (by omega)))⟩ dX7_nearestKey_142
            · refine x_bipush hx hb dX7_nearestKey_133 (by decide) ?_
              refine lv_iload_n hx hb dX7_nearestKey_135 rfl (lv_at hl 1 rfl) ?_
              refine x_iadd hx hb dX7_nearestKey_136 ?_
              refine x_i2c hx hb dX7_nearestKey_137 ?_
              rw [i2cZ_in (by omega) (by omega)]
              refine lv_goto (tgt := 142) hx hb dX7_nearestKey_138 (by decide) ?_
              subst hQ
              exact x_cret hx hb hr hlocks hH (Nat.le_of_ble_eq_true rfl) (Nat.le_of_ble_eq_true rfl) (by omega) (by omega) ⟨(by intro h; have h9 := k2_is.mp h; first | (rw [hnk]; done) | exact absurd h9.1 c7 | (exfalso; rw [hnk] at h9; have h8 := okZ_f.mp c130; simp_all) | (exfalso; simp_all)), ⟨(mdF (Gw op lk kp w) (wc w)), (f85.trans (by first | rw [g2_of (P := 0 ≤ w ∧ w < nw) (Q := ¬ (nkK kp (dz (Gw op lk kp w) (wc w)) 6).1 = -1) Iff.rfl (fun h => by rw [hnk]; simp [c118])] | (rw [decide_eq_false c7, k2_1 c7]; rfl))), f86, f92, (by first | assumption | exact fun j => ⟨by have := mdF_rg (G := Gw op lk kp w) (st := wc w) Gw_ok (hwc w) j; omega, by have := mdF_rg (G := Gw op lk kp w) (st := wc w) Gw_ok (hwc w) j; omega⟩)⟩, fun j hj0 hj1 => ((fr32 j (by omega)).trans (fr18 j (by omega)))⟩ dX7_nearestKey_142
        · refine lv_aload_n hx hb dX7_nearestKey_26 rfl (lv_at hl 2 rfl) ?_
          refine x_get hx hb hts hown hK hH 85 (by decide) f85 hinX7 rfl 0 (by decide) (List.mem_of_getElem? (i := 1) rfl) rfl dX7_nearestKey_27 ?_
          refine x_iconst hx hb dX7_nearestKey_30 ?_
          refine lv_iload_n hx hb dX7_nearestKey_31 rfl (lv_at hl 0 rfl) ?_
          refine x_iadd hx hb dX7_nearestKey_32 ?_
          refine x_iald hx hb hK hH 86 (by decide) f86 (by omega) (by omega) (by omega) dX7_nearestKey_33 ?_
          have hv34 := hvR (3 + i)
          rw [hC.key (k := i) (by omega) (by omega)]
          refine lv_istore (lv' := [(4, .int (iZ (kM (kp i)))), (3, .int (iZ i)), (2, .int (iZ ne)), (0, .ref (xad E 85)), (1, .int (iZ w))]) hx hb dX7_nearestKey_34 hl (by decide) rfl (fun ls hl => ?_)
          have hkq := hkp i
          have hkr := kM_rg (x := kp i) (by omega) (by omega)
          have hnp := nkP_iff (G := Gw op lk kp w) Gw_ok hst (kp := kp) (k := i) (by omega)
          refine lv_iload hx hb dX7_nearestKey_36 (lv_at hl 0 rfl) ?_
          refine x_iconst hx hb dX7_nearestKey_38 ?_
          refine x_bipush hx hb dX7_nearestKey_39 (by decide) ?_
          refine x_cSID (As := [.int (iZ (kM (kp i))), .int (iZ 0), .int (iZ 24)]) (rest := []) hx hb hml hts hown hK hST hOK hH (c_X7_isIn l E ST hSF σ16 (kM (kp i)) 0 24  (by omega) (by omega) (by omega)) (va_cwS 3 hts gX7_nearestKey_X7_isIn rfl rfl rfl (by decide +kernel) ⟨Nat.le_of_ble_eq_true rfl, Nat.le_of_ble_eq_true rfl⟩) rfl hl.1 rfl (Nat.le_of_ble_eq_true rfl) dX7_nearestKey_41 ⟨Nat.le_of_ble_eq_true rfl, Nat.le_of_ble_eq_true rfl⟩ (fun z u h => h) (fun H locs hH => ?_)
          refine x_ifb_eq (tgt := 62) hx hb dX7_nearestKey_44 (by decide) (fun c44 => ?_) (fun c44 => ?_)
          · have c44 := of_decide_eq_false c44
            refine x_iconst hx hb dX7_nearestKey_62 ?_
            refine lv_istore (lv' := [(5, .int (iZ 0)), (4, .int (iZ (kM (kp i)))), (3, .int (iZ i)), (2, .int (iZ ne)), (0, .ref (xad E 85)), (1, .int (iZ w))]) hx hb dX7_nearestKey_63 hl (by decide) rfl (fun ls hl => ?_)
            have hp : ¬ nkP kp (dz (Gw op lk kp w) (wc w)) i := fun q => by have h7 := hnp.mp q; simp_all
            refine lv_iload hx hb dX7_nearestKey_65 (lv_at hl 0 rfl) ?_
            refine x_if_eq (tgt := 102) hx hb dX7_nearestKey_67 (by decide) (by decide) (fun c67 => ?_) (fun c67 => ?_)
            · refine lv_iload_n hx hb dX7_nearestKey_102 rfl (lv_at hl 3 rfl) ?_
              refine lv_istore_n (lv' := [(2, .int (iZ ne)), (5, .int (iZ 0)), (4, .int (iZ (kM (kp i)))), (3, .int (iZ i)), (0, .ref (xad E 85)), (1, .int (iZ w))]) hx hb dX7_nearestKey_103 rfl hl (by decide) rfl (fun ls hl => ?_)
              refine x_iinc (lv' := [(3, .int (iZ (i + (-1)))), (2, .int (iZ ne)), (5, .int (iZ 0)), (4, .int (iZ (kM (kp i)))), (0, .ref (xad E 85)), (1, .int (iZ w))]) hx hb dX7_nearestKey_104 hl (k := 3) rfl (by decide) rfl (fun ls hl => ?_)
              refine lv_goto (tgt := 22) hx hb dX7_nearestKey_107 (by decide) ?_
              exact ih22 ne (i + (-1)) _ _ _ (by omega) (by omega) (by rw [show i + (-1) + 1 = i by omega]; first | exact nkQ_t hnq (by omega) hp (Or.inl c72) | exact nkQ_t hnq (by omega) hp (Or.inr (by omega)) | exact nkQ_f hnq (by omega) (fun h => absurd h hp) | exact nkQ_f hnq (by omega) (fun _ => ⟨c72, by omega⟩)) (by omega)  hH (lv_sub hl [0, 1, 4, 5] rfl)
            · exact absurd c67 (by decide)
          · have c44 := of_decide_eq_true c44
            refine lv_aload_n hx hb dX7_nearestKey_47 rfl (lv_at hl 3 rfl) ?_
            refine x_get hx hb hts hown hK hH 85 (by decide) f85 hinX7 rfl 10 (by decide) (List.mem_of_getElem? (i := 2) rfl) rfl dX7_nearestKey_48 ?_
            refine lv_iload hx hb dX7_nearestKey_51 (lv_at hl 0 rfl) ?_
            refine x_iald hx hb hK hH 92 (by decide) f92 (by omega) (by omega) (by omega) dX7_nearestKey_53 ?_
            have hv38 := hmr (kM (kp i))
            refine x_iconst hx hb dX7_nearestKey_54 ?_
            refine x_icmp_eq (tgt := 62) hx hb dX7_nearestKey_55 (by decide) (by omega) (by decide) (fun c55 => ?_) (fun c55 => ?_)
            · refine x_iconst hx hb dX7_nearestKey_62 ?_
              refine lv_istore (lv' := [(5, .int (iZ 0)), (4, .int (iZ (kM (kp i)))), (3, .int (iZ i)), (2, .int (iZ ne)), (0, .ref (xad E 85)), (1, .int (iZ w))]) hx hb dX7_nearestKey_63 hl (by decide) rfl (fun ls hl => ?_)
              have hp : ¬ nkP kp (dz (Gw op lk kp w) (wc w)) i := fun q => by have h7 := hnp.mp q; simp_all
              refine lv_iload hx hb dX7_nearestKey_65 (lv_at hl 0 rfl) ?_
              refine x_if_eq (tgt := 102) hx hb dX7_nearestKey_67 (by decide) (by decide) (fun c67 => ?_) (fun c67 => ?_)
              · refine lv_iload_n hx hb dX7_nearestKey_102 rfl (lv_at hl 3 rfl) ?_
                refine lv_istore_n (lv' := [(2, .int (iZ ne)), (5, .int (iZ 0)), (4, .int (iZ (kM (kp i)))), (3, .int (iZ i)), (0, .ref (xad E 85)), (1, .int (iZ w))]) hx hb dX7_nearestKey_103 rfl hl (by decide) rfl (fun ls hl => ?_)
                refine x_iinc (lv' := [(3, .int (iZ (i + (-1)))), (2, .int (iZ ne)), (5, .int (iZ 0)), (4, .int (iZ (kM (kp i)))), (0, .ref (xad E 85)), (1, .int (iZ w))]) hx hb dX7_nearestKey_104 hl (k := 3) rfl (by decide) rfl (fun ls hl => ?_)
                refine lv_goto (tgt := 22) hx hb dX7_nearestKey_107 (by decide) ?_
                exact ih22 ne (i + (-1)) _ _ _ (by omega) (by omega) (by rw [show i + (-1) + 1 = i by omega]; first | exact nkQ_t hnq (by omega) hp (Or.inl c72) | exact nkQ_t hnq (by omega) hp (Or.inr (by omega)) | exact nkQ_f hnq (by omega) (fun h => absurd h hp) | exact nkQ_f hnq (by omega) (fun _ => ⟨c72, by omega⟩)) (by omega)  hH (lv_sub hl [0, 1, 4, 5] rfl)
              · exact absurd c67 (by decide)
            · refine x_iconst hx hb dX7_nearestKey_58 ?_
              refine lv_goto (tgt := 63) hx hb dX7_nearestKey_59 (by decide) ?_
              refine lv_istore (lv' := [(5, .int (iZ 1)), (4, .int (iZ (kM (kp i)))), (3, .int (iZ i)), (2, .int (iZ ne)), (0, .ref (xad E 85)), (1, .int (iZ w))]) hx hb dX7_nearestKey_63 hl (by decide) rfl (fun ls hl => ?_)
              have hp : nkP kp (dz (Gw op lk kp w) (wc w)) i := hnp.mpr ⟨c44, c55⟩
              have hpf := nkP_far hp
              refine lv_iload hx hb dX7_nearestKey_65 (lv_at hl 0 rfl) ?_
              refine x_if_eq (tgt := 102) hx hb dX7_nearestKey_67 (by decide) (by decide) (fun c67 => ?_) (fun c67 => ?_)
              · exact absurd c67 (by decide)
              · refine lv_iload_n hx hb dX7_nearestKey_70 rfl (lv_at hl 3 rfl) ?_
                refine x_iconst hx hb dX7_nearestKey_71 ?_
                refine x_icmp_eq (tgt := 98) hx hb dX7_nearestKey_72 (by decide) (by omega) (by decide) (fun c72 => ?_) (fun c72 => ?_)
                · refine lv_iload_n hx hb dX7_nearestKey_98 rfl (lv_at hl 2 rfl) ?_
                  refine lv_goto (tgt := 103) hx hb dX7_nearestKey_99 (by decide) ?_
                  refine lv_istore_n (lv' := [(2, .int (iZ i)), (5, .int (iZ 1)), (4, .int (iZ (kM (kp i)))), (3, .int (iZ i)), (0, .ref (xad E 85)), (1, .int (iZ w))]) hx hb dX7_nearestKey_103 rfl hl (by decide) rfl (fun ls hl => ?_)
                  refine x_iinc (lv' := [(3, .int (iZ (i + (-1)))), (2, .int (iZ i)), (5, .int (iZ 1)), (4, .int (iZ (kM (kp i)))), (0, .ref (xad E 85)), (1, .int (iZ w))]) hx hb dX7_nearestKey_104 hl (k := 3) rfl (by decide) rfl (fun ls hl => ?_)
                  refine lv_goto (tgt := 22) hx hb dX7_nearestKey_107 (by decide) ?_
                  exact ih22 i (i + (-1)) _ _ _ (by omega) (by omega) (by rw [show i + (-1) + 1 = i by omega]; first | exact nkQ_t hnq (by omega) hp (Or.inl c72) | exact nkQ_t hnq (by omega) hp (Or.inr (by omega)) | exact nkQ_f hnq (by omega) (fun h => absurd h hp) | exact nkQ_f hnq (by omega) (fun _ => ⟨c72, by omega⟩)) (by omega)  hH (lv_sub hl [0, 1, 4, 5] rfl)
                · have hpn := nkP_far (nkQ_p hnq c72)
                  refine lv_aload_n hx hb dX7_nearestKey_75 rfl (lv_at hl 4 rfl) ?_
                  refine x_get hx hb hts hown hK hH 85 (by decide) f85 hinX7 rfl 10 (by decide) (List.mem_of_getElem? (i := 2) rfl) rfl dX7_nearestKey_76 ?_
                  refine lv_iload hx hb dX7_nearestKey_79 (lv_at hl 1 rfl) ?_
                  refine x_iald hx hb hK hH 92 (by decide) f92 (by omega) (by omega) (by omega) dX7_nearestKey_81 ?_
                  have hv39 := hmr (kM (kp i))
                  refine lv_aload_n hx hb dX7_nearestKey_82 rfl (lv_at hl 4 rfl) ?_
                  refine x_get hx hb hts hown hK hH 85 (by decide) f85 hinX7 rfl 10 (by decide) (List.mem_of_getElem? (i := 2) rfl) rfl dX7_nearestKey_83 ?_
                  refine lv_aload_n hx hb dX7_nearestKey_86 rfl (lv_at hl 4 rfl) ?_
                  refine x_get hx hb hts hown hK hH 85 (by decide) f85 hinX7 rfl 0 (by decide) (List.mem_of_getElem? (i := 1) rfl) rfl dX7_nearestKey_87 ?_
                  refine x_iconst hx hb dX7_nearestKey_90 ?_
                  refine lv_iload_n hx hb dX7_nearestKey_91 rfl (lv_at hl 3 rfl) ?_
                  refine x_iadd hx hb dX7_nearestKey_92 ?_
                  refine x_iald hx hb hK hH 86 (by decide) f86 (by omega) (by omega) (by omega) dX7_nearestKey_93 ?_
                  have hv40 := hvR (3 + ne)
                  rw [hC.key (k := ne) (by omega) (by omega)]
                  refine x_iald hx hb hK hH 92 (by decide) f92 (by omega) (by omega) (by omega) dX7_nearestKey_94 ?_
                  have hv41 := hmr (kM (kp ne))
                  refine x_icmp_gt (tgt := 102) hx hb dX7_nearestKey_95 (by decide) (by omega) (by omega) (fun c95 => ?_) (fun c95 => ?_)
                  · refine lv_iload_n hx hb dX7_nearestKey_102 rfl (lv_at hl 3 rfl) ?_
                    refine lv_istore_n (lv' := [(2, .int (iZ ne)), (5, .int (iZ 1)), (4, .int (iZ (kM (kp i)))), (3, .int (iZ i)), (0, .ref (xad E 85)), (1, .int (iZ w))]) hx hb dX7_nearestKey_103 rfl hl (by decide) rfl (fun ls hl => ?_)
                    refine x_iinc (lv' := [(3, .int (iZ (i + (-1)))), (2, .int (iZ ne)), (5, .int (iZ 1)), (4, .int (iZ (kM (kp i)))), (0, .ref (xad E 85)), (1, .int (iZ w))]) hx hb dX7_nearestKey_104 hl (k := 3) rfl (by decide) rfl (fun ls hl => ?_)
                    refine lv_goto (tgt := 22) hx hb dX7_nearestKey_107 (by decide) ?_
                    exact ih22 ne (i + (-1)) _ _ _ (by omega) (by omega) (by rw [show i + (-1) + 1 = i by omega]; first | exact nkQ_t hnq (by omega) hp (Or.inl c72) | exact nkQ_t hnq (by omega) hp (Or.inr (by omega)) | exact nkQ_f hnq (by omega) (fun h => absurd h hp) | exact nkQ_f hnq (by omega) (fun _ => ⟨c72, by omega⟩)) (by omega)  hH (lv_sub hl [0, 1, 4, 5] rfl)
                  · refine lv_iload_n hx hb dX7_nearestKey_98 rfl (lv_at hl 2 rfl) ?_
                    refine lv_goto (tgt := 103) hx hb dX7_nearestKey_99 (by decide) ?_
                    refine lv_istore_n (lv' := [(2, .int (iZ i)), (5, .int (iZ 1)), (4, .int (iZ (kM (kp i)))), (3, .int (iZ i)), (0, .ref (xad E 85)), (1, .int (iZ w))]) hx hb dX7_nearestKey_103 rfl hl (by decide) rfl (fun ls hl => ?_)
                    refine x_iinc (lv' := [(3, .int (iZ (i + (-1)))), (2, .int (iZ i)), (5, .int (iZ 1)), (4, .int (iZ (kM (kp i)))), (0, .ref (xad E 85)), (1, .int (iZ w))]) hx hb dX7_nearestKey_104 hl (k := 3) rfl (by decide) rfl (fun ls hl => ?_)
                    refine lv_goto (tgt := 22) hx hb dX7_nearestKey_107 (by decide) ?_
                    exact ih22 i (i + (-1)) _ _ _ (by omega) (by omega) (by rw [show i + (-1) + 1 = i by omega]; first | exact nkQ_t hnq (by omega) hp (Or.inl c72) | exact nkQ_t hnq (by omega) hp (Or.inr (by omega)) | exact nkQ_f hnq (by omega) (fun h => absurd h hp) | exact nkQ_f hnq (by omega) (fun _ => ⟨c72, by omega⟩)) (by omega)  hH (lv_sub hl [0, 1, 4, 5] rfl)
    exact K22 7 (-1) 5 _ _ _ (by first | omega | decide) (by omega) (by exact nkQ_0) (by omega)  hH (lv_sub hl [0, 1, 2, 3] rfl)

def rm_X7_doesHelp : Room := { frames := 8, cells := 0, slots := 0, locals := 181 }
set_option maxRecDepth 100000 in
set_option maxHeartbeats 4000000 in
theorem c_X7_doesHelp (l : Launch) (E : xE) (ST : xST) (hSF : SF ST) (σ : xW) (w : Int) (ce : Int) (ro : Bool) (ln9 : Int) (st9 : Int) (op : Int → Int) (lk : Int → Int) (kp : Int → Int) (wc : Int → Int) (pn : Int) (nw : Int) (sh : Int) (wk : Int) (sv : Bool) (re : Int) (ea : Int) (fa : Int) (ty : Int) (li : Int) (th : Int) (sz : Int) (sp : Int) (wr : Int) (to : Int) (v : Int → Int) (tq : Int → Int) (mv : Int → Int) (F : Int → Int) (hr0 : mo E σ sv re ea fa ty li th sz sp wr to) (hr1 : now E σ v) (hr2 : tri E σ tq) (hr3 : mov E σ mv) (hr4 : far E σ F) (hC : Cp v op lk kp wc pn nw sh wk) (hB : BI op lk kp wc pn nw) (hw : 0 ≤ w ∧ w < nw) (hc : 0 ≤ ce ∧ ce ≤ 24) (hl9 : 0 ≤ ln9 ∧ ln9 ≤ 4) (hs9 : -4 ≤ st9 ∧ st9 ≤ 4) (hFr : ∀ j : Int, rg (F j)) : CI l E ST yX7_doesHelp wsX7_doesHelp rm_X7_doesHelp [.ref (xad E 85), .int (iZ w), .int (iZ ce), .int (iZ (b2 ro)), .int (iZ ln9), .int (iZ st9)] σ (fun (z : Int) (u : xW) => z = b2 (decide (hhZ op lk kp wc pn nw w ce ro ln9 st9 = 1)) ∧ (∃ (t1 m1 F1 : Int → Int), mo E u sv re ea fa ty li th sz sp wr to ∧ now E u v ∧ tri E u t1 ∧ mov E u m1 ∧ far E u F1 ∧ (∀ j : Int, rg (F1 j))) ∧ ∀ j : Nat, j ≠ 86 → j ≠ 88 → j ≠ 91 → j ≠ 92 → u j = σ j) := by
  have f85 : σ 85 = oB 5 [.ref (xad E 86), .ref (xad E 87), .ref (xad E 88), .ref (xad E 89), .ref (xad E 90), .int (iZ (b2 sv)), .int (iZ re), .int (iZ ea), .int (iZ fa), .ref (xad E 91), .ref (xad E 92), .ref (xad E 93), .int (iZ ty), .ref (xad E 94), .int (iZ li), .int (iZ th), .int (iZ sz), .int (iZ sp), .int (iZ wr), .int (iZ to), .ref (xad E 95)] := hr0
  have f86 : σ 86 = aI E 87 v := hr1
  have f88 : σ 88 = aI E 87 tq := hr2
  have f91 : σ 91 = aI E 15 mv := hr3
  have f92 : σ 92 = aI E 25 F := hr4
  refine CI_of (by decide) rfl (Nat.le_of_ble_eq_true rfl) ?_
  intro p e s m args below meth c Q ls G hH hl hQ
  obtain ⟨hx, hb, hml, hown, hts, hK, hST, hlocks, hr, hno⟩ := G
  have hOK := hSF.1
  have hown : s.vm.findClass RX7 = some m.cls := hown
  have hl : lv_has ls 7 [(0, .ref (xad E 85)), (1, .int (iZ w)), (2, .int (iZ ce)), (3, .int (iZ (b2 ro))), (4, .int (iZ ln9)), (5, .int (iZ st9))] := hl
  have hinX7 : ∀ w ∈ u_ws RX7 TX7 21, w ∈ wsX7_doesHelp := fun w h => (List.mem_cons_of_mem _ (List.mem_append_right _ h))
  obtain ⟨hop, hlk, hkp, hwc, hpn, hnw⟩ := id hB
  have hvR := hC.R
  have hv0 := hC.1.1
  have hL := fs_lin (b := ro) hl9.1 hl9.2
  have hB2 := BI_ml (steps := st9) hL hB
  have hdr := dz_rg (G := Gw (rotF op (fsZ ro ln9) (sdZ ro) st9) (rotF lk (fsZ ro ln9) (sdZ ro) st9) (mlK kp (fsZ ro ln9) (sdZ ro) st9 6) w) (st := mlK wc (fsZ ro ln9) (sdZ ro) st9 nw w) Gw_ok (mlK_in hL hwc w)
  have hmr8 := mdF_rg (G := Gw (rotF op (fsZ ro ln9) (sdZ ro) st9) (rotF lk (fsZ ro ln9) (sdZ ro) st9) (mlK kp (fsZ ro ln9) (sdZ ro) st9 6) w) (st := mlK wc (fsZ ro ln9) (sdZ ro) st9 nw w) Gw_ok (mlK_in hL hwc w)
  refine lv_aload_n hx hb dX7_doesHelp_0 rfl (lv_at hl 0 rfl) ?_
  refine lv_iload_n hx hb dX7_doesHelp_1 rfl (lv_at hl 3 rfl) ?_
  refine lv_iload hx hb dX7_doesHelp_2 (lv_at hl 4 rfl) ?_
  refine x_cVID (As := [.int (iZ (b2 ro)), .int (iZ ln9)]) (rest := []) hx hb hml hts hown hK hST hOK hH 85 (c_X7_isFree l E ST hSF σ ro ln9 op lk kp wc pn nw sh wk sv re ea fa ty li th sz sp wr to v f85 f86 (by assumption) (by omega) (by omega)) (cwV 2 hts gX7_doesHelp_X7_isFree rfl rfl rfl (by decide +kernel) ⟨Nat.le_of_ble_eq_true rfl, Nat.le_of_ble_eq_true rfl⟩) (by decide) f85 rfl rfl hl.1 rfl (Nat.le_of_ble_eq_true rfl) dX7_doesHelp_4 ⟨Nat.le_of_ble_eq_true rfl, Nat.le_of_ble_eq_true rfl⟩ (fun z u h => h) (fun H locs hH => ?_)
  refine x_ifb_ne (tgt := 12) hx hb dX7_doesHelp_7 (by decide) (fun c7 => ?_) (fun c7 => ?_)
  · have hlf9 : lfB pn (fsZ ro ln9) (sdZ ro) = true := (by rw [← frB_lf hl9.1 hl9.2]; exact c7)
    refine lv_aload_n hx hb dX7_doesHelp_12 rfl (lv_at hl 0 rfl) ?_
    refine x_get hx hb hts hown hK hH 85 (by decide) f85 hinX7 rfl 0 (by decide) (List.mem_of_getElem? (i := 1) rfl) rfl dX7_doesHelp_13 ?_
    refine x_iconst hx hb dX7_doesHelp_16 ?_
    refine lv_aload_n hx hb dX7_doesHelp_17 rfl (lv_at hl 0 rfl) ?_
    refine x_get hx hb hts hown hK hH 85 (by decide) f85 hinX7 rfl 2 (by decide) (List.mem_of_getElem? (i := 2) rfl) rfl dX7_doesHelp_18 ?_
    refine x_iconst hx hb dX7_doesHelp_21 ?_
    refine x_cSV (As := [.ref (xad E 86), .int (iZ 0), .ref (xad E 88), .int (iZ 0)]) (rest := []) hx hb hml hts hown hK hST hOK hH (c_X7_copies l E ST hSF σ 86 88 0 0 87 v 87 tq f86 f88 (by omega) (by omega) (by omega) (by omega) (by omega) (by omega) (by omega)) (va_cwS 4 hts gX7_doesHelp_X7_copies rfl rfl rfl (by decide +kernel) ⟨Nat.le_of_ble_eq_true rfl, Nat.le_of_ble_eq_true rfl⟩) rfl hl.1 rfl (Nat.le_of_ble_eq_true rfl) dX7_doesHelp_22 ⟨Nat.le_of_ble_eq_true rfl, Nat.le_of_ble_eq_true rfl⟩ (fun σ5 H locs hp6 hH => ?_)
    obtain ⟨⟨f86, f88⟩, fr7⟩ := hp6
    have f85 : σ5 85 = oB 5 [.ref (xad E 86), .ref (xad E 87), .ref (xad E 88), .ref (xad E 89), .ref (xad E 90), .int (iZ (b2 sv)), .int (iZ re), .int (iZ ea), .int (iZ fa), .ref (xad E 91), .ref (xad E 92), .ref (xad E 93), .int (iZ ty), .ref (xad E 94), .int (iZ li), .int (iZ th), .int (iZ sz), .int (iZ sp), .int (iZ wr), .int (iZ to), .ref (xad E 95)] := (fr7 85 (by omega)).trans f85
    have f91 : σ5 91 = aI E 15 mv := (fr7 91 (by omega)).trans f91
    have f92 : σ5 92 = aI E 25 F := (fr7 92 (by omega)).trans f92
    obtain ⟨σ9, f88, fr10, hH⟩ := x_normE (g := v) 88 (by decide) f88 (by intro j h0 h1; unfold cpK; rw [if_pos (by omega), show (0 : Int) + (j - 0) = j by omega]) hH
    have f85 : σ9 85 = oB 5 [.ref (xad E 86), .ref (xad E 87), .ref (xad E 88), .ref (xad E 89), .ref (xad E 90), .int (iZ (b2 sv)), .int (iZ re), .int (iZ ea), .int (iZ fa), .ref (xad E 91), .ref (xad E 92), .ref (xad E 93), .int (iZ ty), .ref (xad E 94), .int (iZ li), .int (iZ th), .int (iZ sz), .int (iZ sp), .int (iZ wr), .int (iZ to), .ref (xad E 95)] := (fr10 85 (by omega)).trans f85
    have f86 : σ9 86 = aI E 87 v := (fr10 86 (by omega)).trans f86
    have f91 : σ9 91 = aI E 15 mv := (fr10 91 (by omega)).trans f91
    have f92 : σ9 92 = aI E 25 F := (fr10 92 (by omega)).trans f92
    refine lv_aload_n hx hb dX7_doesHelp_25 rfl (lv_at hl 0 rfl) ?_
    refine lv_iload_n hx hb dX7_doesHelp_26 rfl (lv_at hl 3 rfl) ?_
    refine lv_iload hx hb dX7_doesHelp_27 (lv_at hl 4 rfl) ?_
    refine lv_iload hx hb dX7_doesHelp_29 (lv_at hl 5 rfl) ?_
    refine x_cVV (As := [.int (iZ (b2 ro)), .int (iZ ln9), .int (iZ st9)]) (rest := []) hx hb hml hts hown hK hST hOK hH 85 (c_X7_slides l E ST hSF σ9 ro ln9 st9 op lk kp wc pn nw sh wk sv re ea fa ty li th sz sp wr to v mv f85 f86 f91 (by assumption) (by omega) (by omega) (by omega) hlf9) (cwV 3 hts gX7_doesHelp_X7_slides rfl rfl rfl (by decide +kernel) ⟨Nat.le_of_ble_eq_true rfl, Nat.le_of_ble_eq_true rfl⟩) (by decide) f85 rfl rfl hl.1 rfl (Nat.le_of_ble_eq_true rfl) dX7_doesHelp_31 ⟨Nat.le_of_ble_eq_true rfl, Nat.le_of_ble_eq_true rfl⟩ (fun σ12 H locs hp13 hH => ?_)
    obtain ⟨⟨v1_15, m1_16, f85, f86, f91, hC2⟩, fr14⟩ := hp13
    have f88 : σ12 88 = aI E 87 v := (fr14 88 (by omega) (by omega)).trans f88
    have f92 : σ12 92 = aI E 25 F := (fr14 92 (by omega) (by omega)).trans f92
    refine lv_aload_n hx hb dX7_doesHelp_34 rfl (lv_at hl 0 rfl) ?_
    refine lv_iload_n hx hb dX7_doesHelp_35 rfl (lv_at hl 1 rfl) ?_
    refine lv_iload_n hx hb dX7_doesHelp_36 rfl (lv_at hl 2 rfl) ?_
    refine x_cVIE (As := [.int (iZ w), .int (iZ ce)]) (rest := []) hx hb hml hts hown hK hST hOK hH 85 (c_X7_farOf l E ST hSF σ12 w ce (rotF op (fsZ ro ln9) (sdZ ro) st9) (rotF lk (fsZ ro ln9) (sdZ ro) st9) (mlK kp (fsZ ro ln9) (sdZ ro) st9 6) (mlK wc (fsZ ro ln9) (sdZ ro) st9 nw) pn nw sh wk sv re ea fa ty li th sz sp wr to v1_15 F f85 f86 f92 (by assumption) hB2 (by omega) (by omega) (by assumption)) (cwV 2 hts gX7_doesHelp_X7_farOf rfl rfl rfl (by decide +kernel) ⟨Nat.le_of_ble_eq_true rfl, Nat.le_of_ble_eq_true rfl⟩) (by decide) f85 rfl rfl hl.1 rfl (Nat.le_of_ble_eq_true rfl) dX7_doesHelp_37 ⟨Nat.le_of_ble_eq_true rfl, Nat.le_of_ble_eq_true rfl⟩ (fun z u h => h) (fun σ19 H locs hp20 hH => ?_)
    obtain ⟨f92, fr21⟩ := hp20
    have f85 : σ19 85 = oB 5 [.ref (xad E 86), .ref (xad E 87), .ref (xad E 88), .ref (xad E 89), .ref (xad E 90), .int (iZ (b2 sv)), .int (iZ re), .int (iZ ea), .int (iZ fa), .ref (xad E 91), .ref (xad E 92), .ref (xad E 93), .int (iZ ty), .ref (xad E 94), .int (iZ li), .int (iZ th), .int (iZ sz), .int (iZ sp), .int (iZ wr), .int (iZ to), .ref (xad E 95)] := (fr21 85 (by omega)).trans f85
    have f86 : σ19 86 = aI E 87 v1_15 := (fr21 86 (by omega)).trans f86
    have f88 : σ19 88 = aI E 87 v := (fr21 88 (by omega)).trans f88
    have f91 : σ19 91 = aI E 15 m1_16 := (fr21 91 (by omega)).trans f91
    have hm9 : mD (dz (Gw (rotF op (fsZ ro ln9) (sdZ ro) st9) (rotF lk (fsZ ro ln9) (sdZ ro) st9) (mlK kp (fsZ ro ln9) (sdZ ro) st9 6) w) (mlK wc (fsZ ro ln9) (sdZ ro) st9 nw w) ce) = -1 ↔ ¬ hsD op lk kp wc nw w ce (fsZ ro ln9) (sdZ ro) st9 < 25 := mD_m1 (hdr ce); have hmr9 : rg (mD (dz (Gw (rotF op (fsZ ro ln9) (sdZ ro) st9) (rotF lk (fsZ ro ln9) (sdZ ro) st9) (mlK kp (fsZ ro ln9) (sdZ ro) st9 6) w) (mlK wc (fsZ ro ln9) (sdZ ro) st9 nw w) ce)) := (by have := hdr ce; unfold mD rg; (repeat' split) <;> omega)
    refine x_iconst hx hb dX7_doesHelp_40 ?_
    refine x_icmp_eq (tgt := 48) hx hb dX7_doesHelp_41 (by decide) (by omega) (by decide) (fun c41 => ?_) (fun c41 => ?_)
    · refine x_iconst hx hb dX7_doesHelp_48 ?_
      refine lv_istore (lv' := [(6, .int (iZ 0)), (0, .ref (xad E 85)), (1, .int (iZ w)), (2, .int (iZ ce)), (3, .int (iZ (b2 ro))), (4, .int (iZ ln9)), (5, .int (iZ st9))]) hx hb dX7_doesHelp_49 hl (by decide) rfl (fun ls hl => ?_)
      refine lv_aload_n hx hb dX7_doesHelp_51 rfl (lv_at hl 1 rfl) ?_
      refine x_get hx hb hts hown hK hH 85 (by decide) f85 hinX7 rfl 2 (by decide) (List.mem_of_getElem? (i := 2) rfl) rfl dX7_doesHelp_52 ?_
      refine x_iconst hx hb dX7_doesHelp_55 ?_
      refine lv_aload_n hx hb dX7_doesHelp_56 rfl (lv_at hl 1 rfl) ?_
      refine x_get hx hb hts hown hK hH 85 (by decide) f85 hinX7 rfl 0 (by decide) (List.mem_of_getElem? (i := 1) rfl) rfl dX7_doesHelp_57 ?_
      refine x_iconst hx hb dX7_doesHelp_60 ?_
      refine x_cSV (As := [.ref (xad E 88), .int (iZ 0), .ref (xad E 86), .int (iZ 0)]) (rest := []) hx hb hml hts hown hK hST hOK hH (c_X7_copies l E ST hSF σ19 88 86 0 0 87 v 87 v1_15 f88 f86 (by omega) (by omega) (by omega) (by omega) (by omega) (by omega) (by omega)) (va_cwS 4 hts gX7_doesHelp_X7_copies rfl rfl rfl (by decide +kernel) ⟨Nat.le_of_ble_eq_true rfl, Nat.le_of_ble_eq_true rfl⟩) rfl hl.1 rfl (Nat.le_of_ble_eq_true rfl) dX7_doesHelp_61 ⟨Nat.le_of_ble_eq_true rfl, Nat.le_of_ble_eq_true rfl⟩ (fun σ24 H locs hp25 hH => ?_)
      obtain ⟨⟨f88, f86⟩, fr26⟩ := hp25
      have f85 : σ24 85 = oB 5 [.ref (xad E 86), .ref (xad E 87), .ref (xad E 88), .ref (xad E 89), .ref (xad E 90), .int (iZ (b2 sv)), .int (iZ re), .int (iZ ea), .int (iZ fa), .ref (xad E 91), .ref (xad E 92), .ref (xad E 93), .int (iZ ty), .ref (xad E 94), .int (iZ li), .int (iZ th), .int (iZ sz), .int (iZ sp), .int (iZ wr), .int (iZ to), .ref (xad E 95)] := (fr26 85 (by omega)).trans f85
      have f91 : σ24 91 = aI E 15 m1_16 := (fr26 91 (by omega)).trans f91
      have f92 : σ24 92 = aI E 25 (mdF (Gw (rotF op (fsZ ro ln9) (sdZ ro) st9) (rotF lk (fsZ ro ln9) (sdZ ro) st9) (mlK kp (fsZ ro ln9) (sdZ ro) st9 6) w) ((mlK wc (fsZ ro ln9) (sdZ ro) st9 nw) w)) := (fr26 92 (by omega)).trans f92
      obtain ⟨σ28, f86, fr29, hH⟩ := x_normE (g := v) 86 (by decide) f86 (by intro j h0 h1; unfold cpK; rw [if_pos (by omega), show (0 : Int) + (j - 0) = j by omega]) hH
      have f85 : σ28 85 = oB 5 [.ref (xad E 86), .ref (xad E 87), .ref (xad E 88), .ref (xad E 89), .ref (xad E 90), .int (iZ (b2 sv)), .int (iZ re), .int (iZ ea), .int (iZ fa), .ref (xad E 91), .ref (xad E 92), .ref (xad E 93), .int (iZ ty), .ref (xad E 94), .int (iZ li), .int (iZ th), .int (iZ sz), .int (iZ sp), .int (iZ wr), .int (iZ to), .ref (xad E 95)] := (fr29 85 (by omega)).trans f85
      have f88 : σ28 88 = aI E 87 v := (fr29 88 (by omega)).trans f88
      have f91 : σ28 91 = aI E 15 m1_16 := (fr29 91 (by omega)).trans f91
      have f92 : σ28 92 = aI E 25 (mdF (Gw (rotF op (fsZ ro ln9) (sdZ ro) st9) (rotF lk (fsZ ro ln9) (sdZ ro) st9) (mlK kp (fsZ ro ln9) (sdZ ro) st9 6) w) ((mlK wc (fsZ ro ln9) (sdZ ro) st9 nw) w)) := (fr29 92 (by omega)).trans f92
      refine lv_iload hx hb dX7_doesHelp_64 (lv_at hl 0 rfl) ?_
      subst hQ
      exact x_zret (b := false) hx hb hr hlocks hH (Nat.le_of_ble_eq_true rfl) (Nat.le_of_ble_eq_true rfl) ⟨congrArg b2 (show false = (decide (hhZ op lk kp wc pn nw w ce ro ln9 st9 = 1)) from (by first | exact (hh_f (fun q => by rw [← frB_lf hl9.1 hl9.2, c7] at q; exact absurd q.1 (by decide))).symm | exact (hh_f (fun q => hm9.mp c41 q.2)).symm | exact (hh_t ⟨hlf9, Classical.not_not.mp (fun q => c41 (hm9.mpr q))⟩).symm)), ⟨v, m1_16, (mdF (Gw (rotF op (fsZ ro ln9) (sdZ ro) st9) (rotF lk (fsZ ro ln9) (sdZ ro) st9) (mlK kp (fsZ ro ln9) (sdZ ro) st9 6) w) ((mlK wc (fsZ ro ln9) (sdZ ro) st9 nw) w)), f85, f86, f88, f91, f92, (by first | exact hFr | exact fun j => ⟨by have := hmr8 j; omega, by have := hmr8 j; omega⟩)⟩, fun j hj0 hj1 hj2 hj3 => ((fr29 j (by omega)).trans ((fr26 j (by omega)).trans ((fr21 j (by omega)).trans ((fr14 j (by omega) (by omega)).trans ((fr10 j (by omega)).trans (fr7 j (by omega)))))))⟩ dX7_doesHelp_66
    · refine x_iconst hx hb dX7_doesHelp_44 ?_
      refine lv_goto (tgt := 49) hx hb dX7_doesHelp_45 (by decide) ?_
      refine lv_istore (lv' := [(6, .int (iZ 1)), (0, .ref (xad E 85)), (1, .int (iZ w)), (2, .int (iZ ce)), (3, .int (iZ (b2 ro))), (4, .int (iZ ln9)), (5, .int (iZ st9))]) hx hb dX7_doesHelp_49 hl (by decide) rfl (fun ls hl => ?_)
      refine lv_aload_n hx hb dX7_doesHelp_51 rfl (lv_at hl 1 rfl) ?_
      refine x_get hx hb hts hown hK hH 85 (by decide) f85 hinX7 rfl 2 (by decide) (List.mem_of_getElem? (i := 2) rfl) rfl dX7_doesHelp_52 ?_
      refine x_iconst hx hb dX7_doesHelp_55 ?_
      refine lv_aload_n hx hb dX7_doesHelp_56 rfl (lv_at hl 1 rfl) ?_
      refine x_get hx hb hts hown hK hH 85 (by decide) f85 hinX7 rfl 0 (by decide) (List.mem_of_getElem? (i := 1) rfl) rfl dX7_doesHelp_57 ?_
      refine x_iconst hx hb dX7_doesHelp_60 ?_
      refine x_cSV (As := [.ref (xad E 88), .int (iZ 0), .ref (xad E 86), .int (iZ 0)]) (rest := []) hx hb hml hts hown hK hST hOK hH (c_X7_copies l E ST hSF σ19 88 86 0 0 87 v 87 v1_15 f88 f86 (by omega) (by omega) (by omega) (by omega) (by omega) (by omega) (by omega)) (va_cwS 4 hts gX7_doesHelp_X7_copies rfl rfl rfl (by decide +kernel) ⟨Nat.le_of_ble_eq_true rfl, Nat.le_of_ble_eq_true rfl⟩) rfl hl.1 rfl (Nat.le_of_ble_eq_true rfl) dX7_doesHelp_61 ⟨Nat.le_of_ble_eq_true rfl, Nat.le_of_ble_eq_true rfl⟩ (fun σ31 H locs hp32 hH => ?_)
      obtain ⟨⟨f88, f86⟩, fr33⟩ := hp32
      have f85 : σ31 85 = oB 5 [.ref (xad E 86), .ref (xad E 87), .ref (xad E 88), .ref (xad E 89), .ref (xad E 90), .int (iZ (b2 sv)), .int (iZ re), .int (iZ ea), .int (iZ fa), .ref (xad E 91), .ref (xad E 92), .ref (xad E 93), .int (iZ ty), .ref (xad E 94), .int (iZ li), .int (iZ th), .int (iZ sz), .int (iZ sp), .int (iZ wr), .int (iZ to), .ref (xad E 95)] := (fr33 85 (by omega)).trans f85
      have f91 : σ31 91 = aI E 15 m1_16 := (fr33 91 (by omega)).trans f91
      have f92 : σ31 92 = aI E 25 (mdF (Gw (rotF op (fsZ ro ln9) (sdZ ro) st9) (rotF lk (fsZ ro ln9) (sdZ ro) st9) (mlK kp (fsZ ro ln9) (sdZ ro) st9 6) w) ((mlK wc (fsZ ro ln9) (sdZ ro) st9 nw) w)) := (fr33 92 (by omega)).trans f92
      obtain ⟨σ35, f86, fr36, hH⟩ := x_normE (g := v) 86 (by decide) f86 (by intro j h0 h1; unfold cpK; rw [if_pos (by omega), show (0 : Int) + (j - 0) = j by omega]) hH
      have f85 : σ35 85 = oB 5 [.ref (xad E 86), .ref (xad E 87), .ref (xad E 88), .ref (xad E 89), .ref (xad E 90), .int (iZ (b2 sv)), .int (iZ re), .int (iZ ea), .int (iZ fa), .ref (xad E 91), .ref (xad E 92), .ref (xad E 93), .int (iZ ty), .ref (xad E 94), .int (iZ li), .int (iZ th), .int (iZ sz), .int (iZ sp), .int (iZ wr), .int (iZ to), .ref (xad E 95)] := (fr36 85 (by omega)).trans f85
      have f88 : σ35 88 = aI E 87 v := (fr36 88 (by omega)).trans f88
      have f91 : σ35 91 = aI E 15 m1_16 := (fr36 91 (by omega)).trans f91
      have f92 : σ35 92 = aI E 25 (mdF (Gw (rotF op (fsZ ro ln9) (sdZ ro) st9) (rotF lk (fsZ ro ln9) (sdZ ro) st9) (mlK kp (fsZ ro ln9) (sdZ ro) st9 6) w) ((mlK wc (fsZ ro ln9) (sdZ ro) st9 nw) w)) := (fr36 92 (by omega)).trans f92
      refine lv_iload hx hb dX7_doesHelp_64 (lv_at hl 0 rfl) ?_
      subst hQ
      exact x_zret (b := true) hx hb hr hlocks hH (Nat.le_of_ble_eq_true rfl) (Nat.le_of_ble_eq_true rfl) ⟨congrArg b2 (show true = (decide (hhZ op lk kp wc pn nw w ce ro ln9 st9 = 1)) from (by first | exact (hh_f (fun q => by rw [← frB_lf hl9.1 hl9.2, c7] at q; exact absurd q.1 (by decide))).symm | exact (hh_f (fun q => hm9.mp c41 q.2)).symm | exact (hh_t ⟨hlf9, Classical.not_not.mp (fun q => c41 (hm9.mpr q))⟩).symm)), ⟨v, m1_16, (mdF (Gw (rotF op (fsZ ro ln9) (sdZ ro) st9) (rotF lk (fsZ ro ln9) (sdZ ro) st9) (mlK kp (fsZ ro ln9) (sdZ ro) st9 6) w) ((mlK wc (fsZ ro ln9) (sdZ ro) st9 nw) w)), f85, f86, f88, f91, f92, (by first | exact hFr | exact fun j => ⟨by have := hmr8 j; omega, by have := hmr8 j; omega⟩)⟩, fun j hj0 hj1 hj2 hj3 => ((fr36 j (by omega)).trans ((fr33 j (by omega)).trans ((fr21 j (by omega)).trans ((fr14 j (by omega) (by omega)).trans ((fr10 j (by omega)).trans (fr7 j (by omega)))))))⟩ dX7_doesHelp_66
  · refine x_iconst hx hb dX7_doesHelp_10 ?_
    subst hQ
    exact x_zret (b := false) hx hb hr hlocks hH (Nat.le_of_ble_eq_true rfl) (Nat.le_of_ble_eq_true rfl) ⟨congrArg b2 (show false = (decide (hhZ op lk kp wc pn nw w ce ro ln9 st9 = 1)) from (by first | exact (hh_f (fun q => by rw [← frB_lf hl9.1 hl9.2, c7] at q; exact absurd q.1 (by decide))).symm | exact (hh_f (fun q => hm9.mp c41 q.2)).symm | exact (hh_t ⟨hlf9, Classical.not_not.mp (fun q => c41 (hm9.mpr q))⟩).symm)), ⟨tq, mv, F, f85, f86, f88, f91, f92, (by first | exact hFr | exact fun j => ⟨by have := hmr8 j; omega, by have := hmr8 j; omega⟩)⟩, fun j hj0 hj1 hj2 hj3 => rfl⟩ dX7_doesHelp_11

def rm_X7_helpfulShifts : Room := { frames := 9, cells := 0, slots := 0, locals := 207 }
set_option maxRecDepth 100000 in
set_option maxHeartbeats 4000000 in
theorem c_X7_helpfulShifts (l : Launch) (E : xE) (ST : xST) (hSF : SF ST) (σ : xW) (w : Int) (r : Int) (c0 : Int) (op : Int → Int) (lk : Int → Int) (kp : Int → Int) (wc : Int → Int) (pn : Int) (nw : Int) (sh : Int) (wk : Int) (sv : Bool) (re : Int) (ea : Int) (fa : Int) (ty : Int) (li : Int) (th : Int) (sz : Int) (sp : Int) (wr : Int) (to : Int) (v : Int → Int) (tq : Int → Int) (mv : Int → Int) (F : Int → Int) (hr0 : mo E σ sv re ea fa ty li th sz sp wr to) (hr1 : now E σ v) (hr2 : tri E σ tq) (hr3 : mov E σ mv) (hr4 : far E σ F) (hC : Cp v op lk kp wc pn nw sh wk) (hB : BI op lk kp wc pn nw) (hr9 : rg r) (hc9 : rg c0) (hw9 : rg w) (hFr : ∀ j : Int, rg (F j)) : CI l E ST yX7_helpfulShifts wsX7_helpfulShifts rm_X7_helpfulShifts [.ref (xad E 85), .int (iZ w), .int (iZ r), .int (iZ c0)] σ (fun (z : Int) (u : xW) => ((((0 ≤ w ∧ w < nw) ∧ okC r c0) → z = smK (fun i => hpF op lk kp wc pn nw w (r * 5 + c0) (i * 5) 1 + hpF op lk kp wc pn nw w (r * 5 + c0) i 5) 5)) ∧ (∃ (t1 m1 F1 : Int → Int), mo E u sv re ea fa ty li (k1 ((0 ≤ w ∧ w < nw) ∧ okC r c0)) sz sp wr to ∧ now E u v ∧ tri E u t1 ∧ mov E u m1 ∧ far E u F1 ∧ (∀ j : Int, rg (F1 j))) ∧ ∀ j : Nat, (j < 85 ∨ 85 + 2 ≤ j) → j ≠ 88 → (j < 91 ∨ 91 + 2 ≤ j) → u j = σ j) := by
  have f85 : σ 85 = oB 5 [.ref (xad E 86), .ref (xad E 87), .ref (xad E 88), .ref (xad E 89), .ref (xad E 90), .int (iZ (b2 sv)), .int (iZ re), .int (iZ ea), .int (iZ fa), .ref (xad E 91), .ref (xad E 92), .ref (xad E 93), .int (iZ ty), .ref (xad E 94), .int (iZ li), .int (iZ th), .int (iZ sz), .int (iZ sp), .int (iZ wr), .int (iZ to), .ref (xad E 95)] := hr0
  have f86 : σ 86 = aI E 87 v := hr1
  have f88 : σ 88 = aI E 87 tq := hr2
  have f91 : σ 91 = aI E 15 mv := hr3
  have f92 : σ 92 = aI E 25 F := hr4
  refine CI_of (by decide) rfl (Nat.le_of_ble_eq_true rfl) ?_
  intro p e s m args below meth c Q ls G hH hl hQ
  obtain ⟨hx, hb, hml, hown, hts, hK, hST, hlocks, hr, hno⟩ := G
  have hOK := hSF.1
  have hown : s.vm.findClass RX7 = some m.cls := hown
  have hl : lv_has ls 7 [(0, .ref (xad E 85)), (1, .int (iZ w)), (2, .int (iZ r)), (3, .int (iZ c0))] := hl
  obtain ⟨hop, hlk, hkp, hwc, hpn, hnw⟩ := id hB
  have hvR := hC.R
  have hv0 := hC.1.1
  have hcz := cellZ_rg (r := r) (c := c0)
  refine lv_aload_n hx hb dX7_helpfulShifts_0 rfl (lv_at hl 0 rfl) ?_
  refine lv_aload_n hx hb dX7_helpfulShifts_1 rfl (lv_at hl 0 rfl) ?_
  refine lv_iload_n hx hb dX7_helpfulShifts_2 rfl (lv_at hl 1 rfl) ?_
  refine x_cVID (As := [.int (iZ w)]) (rest := [.ref (xad E 85)]) hx hb hml hts hown hK hST hOK hH 85 (c_X7_isWalker l E ST hSF σ w op lk kp wc pn nw sh wk sv re ea fa ty li th sz sp wr to v f85 f86 (by assumption) (by omega) (by omega)) (cwV 1 hts gX7_helpfulShifts_X7_isWalker rfl rfl rfl (by decide +kernel) ⟨Nat.le_of_ble_eq_true rfl, Nat.le_of_ble_eq_true rfl⟩) (by decide) f85 rfl rfl hl.1 rfl (Nat.le_of_ble_eq_true rfl) dX7_helpfulShifts_3 ⟨Nat.le_of_ble_eq_true rfl, Nat.le_of_ble_eq_true rfl⟩ (fun z u h => h) (fun H locs hH => ?_)
  refine x_ifb_eq (tgt := 21) hx hb dX7_helpfulShifts_6 (by decide) (fun c6 => ?_) (fun c6 => ?_)
  · have c6 := of_decide_eq_false c6
    refine x_iconst hx hb dX7_helpfulShifts_21 ?_
    refine x_cVIE (As := [.int (iZ 0)]) (rest := []) hx hb hml hts hown hK hST hOK hH 85 (c_X7_goes l E ST hSF σ false sv re ea fa ty li th sz sp wr to f85 ) (cwV 1 hts gX7_helpfulShifts_X7_goes rfl rfl rfl (by decide +kernel) ⟨Nat.le_of_ble_eq_true rfl, Nat.le_of_ble_eq_true rfl⟩) (by decide) f85 rfl rfl hl.1 rfl (Nat.le_of_ble_eq_true rfl) dX7_helpfulShifts_22 ⟨Nat.le_of_ble_eq_true rfl, Nat.le_of_ble_eq_true rfl⟩ (fun z u h => h) (fun σ5 H locs hp6 hH => ?_)
    obtain ⟨f85, fr7⟩ := hp6
    have f86 : σ5 86 = aI E 87 v := (fr7 86 (by omega)).trans f86
    have f88 : σ5 88 = aI E 87 tq := (fr7 88 (by omega)).trans f88
    have f91 : σ5 91 = aI E 15 mv := (fr7 91 (by omega)).trans f91
    have f92 : σ5 92 = aI E 25 F := (fr7 92 (by omega)).trans f92
    refine x_if_ne (tgt := 30) hx hb dX7_helpfulShifts_25 (by decide) (rg_b2 _) (fun c25 => ?_) (fun c25 => ?_)
    · exact absurd c25 (by decide)
    · refine x_iconst hx hb dX7_helpfulShifts_28 ?_
      subst hQ
      exact x_iret hx hb hr hlocks hH (Nat.le_of_ble_eq_true rfl) (Nat.le_of_ble_eq_true rfl) ⟨(by first | (intro h; have e9 : k = 20 := (by omega); subst e9; rw [hma, cellZ_ok h.2]; exact hhK_20) | (intro h; exfalso; omega) | (intro h; exfalso; simp_all)), ⟨tq, mv, F, (f85.trans (by first | (rw [k1_0 (by omega)]; rfl) | (rw [k1_1 (by omega)]; rfl))), f86, f88, f91, f92, (by first | assumption)⟩, fun j hj0 hj1 hj2 => (fr7 j (by omega))⟩ dX7_helpfulShifts_29
  · have c6 := of_decide_eq_true c6
    refine lv_iload_n hx hb dX7_helpfulShifts_9 rfl (lv_at hl 2 rfl) ?_
    refine lv_iload_n hx hb dX7_helpfulShifts_10 rfl (lv_at hl 3 rfl) ?_
    refine x_cSID (As := [.int (iZ r), .int (iZ c0)]) (rest := [.ref (xad E 85)]) hx hb hml hts hown hK hST hOK hH (c_X7_isCell l E ST hSF σ r c0  (by omega) (by omega)) (va_cwS 2 hts gX7_helpfulShifts_X7_isCell rfl rfl rfl (by decide +kernel) ⟨Nat.le_of_ble_eq_true rfl, Nat.le_of_ble_eq_true rfl⟩) rfl hl.1 rfl (Nat.le_of_ble_eq_true rfl) dX7_helpfulShifts_11 ⟨Nat.le_of_ble_eq_true rfl, Nat.le_of_ble_eq_true rfl⟩ (fun z u h => h) (fun H locs hH => ?_)
    refine x_ifb_eq (tgt := 21) hx hb dX7_helpfulShifts_14 (by decide) (fun c14 => ?_) (fun c14 => ?_)
    · have c14 := of_decide_eq_false c14
      refine x_iconst hx hb dX7_helpfulShifts_21 ?_
      refine x_cVIE (As := [.int (iZ 0)]) (rest := []) hx hb hml hts hown hK hST hOK hH 85 (c_X7_goes l E ST hSF σ false sv re ea fa ty li th sz sp wr to f85 ) (cwV 1 hts gX7_helpfulShifts_X7_goes rfl rfl rfl (by decide +kernel) ⟨Nat.le_of_ble_eq_true rfl, Nat.le_of_ble_eq_true rfl⟩) (by decide) f85 rfl rfl hl.1 rfl (Nat.le_of_ble_eq_true rfl) dX7_helpfulShifts_22 ⟨Nat.le_of_ble_eq_true rfl, Nat.le_of_ble_eq_true rfl⟩ (fun z u h => h) (fun σ13 H locs hp14 hH => ?_)
      obtain ⟨f85, fr15⟩ := hp14
      have f86 : σ13 86 = aI E 87 v := (fr15 86 (by omega)).trans f86
      have f88 : σ13 88 = aI E 87 tq := (fr15 88 (by omega)).trans f88
      have f91 : σ13 91 = aI E 15 mv := (fr15 91 (by omega)).trans f91
      have f92 : σ13 92 = aI E 25 F := (fr15 92 (by omega)).trans f92
      refine x_if_ne (tgt := 30) hx hb dX7_helpfulShifts_25 (by decide) (rg_b2 _) (fun c25 => ?_) (fun c25 => ?_)
      · exact absurd c25 (by decide)
      · refine x_iconst hx hb dX7_helpfulShifts_28 ?_
        subst hQ
        exact x_iret hx hb hr hlocks hH (Nat.le_of_ble_eq_true rfl) (Nat.le_of_ble_eq_true rfl) ⟨(by first | (intro h; have e9 : k = 20 := (by omega); subst e9; rw [hma, cellZ_ok h.2]; exact hhK_20) | (intro h; exfalso; omega) | (intro h; exfalso; simp_all)), ⟨tq, mv, F, (f85.trans (by first | (rw [k1_0 (by omega)]; rfl) | (rw [k1_1 (by omega)]; rfl))), f86, f88, f91, f92, (by first | assumption)⟩, fun j hj0 hj1 hj2 => (fr15 j (by omega))⟩ dX7_helpfulShifts_29
    · have c14 := of_decide_eq_true c14
      refine x_iconst hx hb dX7_helpfulShifts_17 ?_
      refine lv_goto (tgt := 22) hx hb dX7_helpfulShifts_18 (by decide) ?_
      refine x_cVIE (As := [.int (iZ 1)]) (rest := []) hx hb hml hts hown hK hST hOK hH 85 (c_X7_goes l E ST hSF σ true sv re ea fa ty li th sz sp wr to f85 ) (cwV 1 hts gX7_helpfulShifts_X7_goes rfl rfl rfl (by decide +kernel) ⟨Nat.le_of_ble_eq_true rfl, Nat.le_of_ble_eq_true rfl⟩) (by decide) f85 rfl rfl hl.1 rfl (Nat.le_of_ble_eq_true rfl) dX7_helpfulShifts_22 ⟨Nat.le_of_ble_eq_true rfl, Nat.le_of_ble_eq_true rfl⟩ (fun z u h => h) (fun σ18 H locs hp19 hH => ?_)
      obtain ⟨f85, fr20⟩ := hp19
      have f86 : σ18 86 = aI E 87 v := (fr20 86 (by omega)).trans f86
      have f88 : σ18 88 = aI E 87 tq := (fr20 88 (by omega)).trans f88
      have f91 : σ18 91 = aI E 15 mv := (fr20 91 (by omega)).trans f91
      have f92 : σ18 92 = aI E 25 F := (fr20 92 (by omega)).trans f92
      refine x_if_ne (tgt := 30) hx hb dX7_helpfulShifts_25 (by decide) (rg_b2 _) (fun c25 => ?_) (fun c25 => ?_)
      · refine x_iconst hx hb dX7_helpfulShifts_30 ?_
        refine lv_istore (lv' := [(4, .int (iZ 0)), (0, .ref (xad E 85)), (1, .int (iZ w)), (2, .int (iZ r)), (3, .int (iZ c0))]) hx hb dX7_helpfulShifts_31 hl (by decide) rfl (fun ls hl => ?_)
        refine lv_iload_n hx hb dX7_helpfulShifts_33 rfl (lv_at hl 3 rfl) ?_
        refine lv_iload_n hx hb dX7_helpfulShifts_34 rfl (lv_at hl 4 rfl) ?_
        refine x_cSID (As := [.int (iZ r), .int (iZ c0)]) (rest := []) hx hb hml hts hown hK hST hOK hH (c_X7_cellAt l E ST hSF σ18 r c0  (by omega) (by omega)) (va_cwS 2 hts gX7_helpfulShifts_X7_cellAt rfl rfl rfl (by decide +kernel) ⟨Nat.le_of_ble_eq_true rfl, Nat.le_of_ble_eq_true rfl⟩) rfl hl.1 rfl (Nat.le_of_ble_eq_true rfl) dX7_helpfulShifts_35 ⟨Nat.le_of_ble_eq_true rfl, Nat.le_of_ble_eq_true rfl⟩ (fun z u h => h) (fun H locs hH => ?_)
        refine lv_istore (lv' := [(5, .int (iZ (cellZ r c0))), (4, .int (iZ 0)), (0, .ref (xad E 85)), (1, .int (iZ w)), (2, .int (iZ r)), (3, .int (iZ c0))]) hx hb dX7_helpfulShifts_38 hl (by decide) rfl (fun ls hl => ?_)
        refine x_iconst hx hb dX7_helpfulShifts_40 ?_
        refine lv_istore (lv' := [(6, .int (iZ 0)), (5, .int (iZ (cellZ r c0))), (4, .int (iZ 0)), (0, .ref (xad E 85)), (1, .int (iZ w)), (2, .int (iZ r)), (3, .int (iZ c0))]) hx hb dX7_helpfulShifts_41 hl (by decide) rfl (fun ls hl => ?_)
        have K43 : ∀ (nK : Nat) (ma k : Int) (v2 tq2 m2 F2 : Int → Int) (σ25 : xW) (H : Heap) (locs : List Loc) (ls : Array Slot), (20 - k).toNat < nK → (0 ≤ k ∧ k ≤ 20) → (ma = smK (hhK op lk kp wc pn nw w (cellZ r c0)) k) → (0 ≤ ma ∧ ma ≤ k) → (∀ j : Int, rg (F2 j)) → (v2 = v) → σ25 85 = oB 5 [.ref (xad E 86), .ref (xad E 87), .ref (xad E 88), .ref (xad E 89), .ref (xad E 90), .int (iZ (b2 sv)), .int (iZ re), .int (iZ ea), .int (iZ fa), .ref (xad E 91), .ref (xad E 92), .ref (xad E 93), .int (iZ ty), .ref (xad E 94), .int (iZ li), .int (iZ (if true = true then 0 else 1)), .int (iZ sz), .int (iZ sp), .int (iZ wr), .int (iZ to), .ref (xad E 95)] → σ25 86 = aI E 87 v2 → σ25 88 = aI E 87 tq2 → σ25 91 = aI E 15 m2 → σ25 92 = aI E 25 F2 → (∀ j : Nat, j ≠ 86 → j ≠ 88 → (j < 91 ∨ 91 + 2 ≤ j) → σ25 j = σ18 j) → Hx E (xA E s.heap.size) s.heap σ25 H locs → lv_has ls 7 [(6, .int (iZ k)), (5, .int (iZ (cellZ r c0))), (4, .int (iZ ma)), (0, .ref (xad E 85)), (1, .int (iZ w)), (2, .int (iZ r)), (3, .int (iZ c0))] → W p l e rm_X7_helpfulShifts s m args below meth c H locs 0 0 Q (F0 m 43 ls []) := by
          intro n43
          induction n43 with
          | zero =>
            intro ma k v2 tq2 m2 F2 σ25 H locs ls hm
            exact absurd hm (by first | exact Nat.not_lt_zero _ | omega)
          | succ n43 ih43 =>
            intro ma k v2 tq2 m2 F2 σ25 H locs ls hm43 hk hma hmb hF2 hv2 f85 f86 f88 f91 f92 fr26 hH hl
            refine lv_iload hx hb dX7_helpfulShifts_43 (lv_at hl 0 rfl) ?_
            refine x_bipush hx hb dX7_helpfulShifts_45 (by decide) ?_
            refine x_icmp_ge (tgt := 106) hx hb dX7_helpfulShifts_47 (by decide) (by omega) (by decide) (fun c47 => ?_) (fun c47 => ?_)
            · refine lv_iload hx hb dX7_helpfulShifts_106 (lv_at hl 2 rfl) ?_
              subst hQ
              exact x_iret hx hb hr hlocks hH (Nat.le_of_ble_eq_true rfl) (Nat.le_of_ble_eq_true rfl) ⟨(by first | (intro h; have e9 : k = 20 := (by omega); subst e9; rw [hma, cellZ_ok h.2]; exact hhK_20) | (intro h; exfalso; omega) | (intro h; exfalso; simp_all)), ⟨tq2, m2, F2, (f85.trans (by first | (rw [k1_0 (by omega)]; rfl) | (rw [k1_1 (by omega)]; rfl))), (f86.trans (congrArg (fun g => aI E 87 g) (show v2 = v from (by exact hv2)))), f88, f91, f92, (by first | assumption)⟩, fun j hj0 hj1 hj2 => ((fr26 j (by omega) (by omega) (by omega)).trans (fr20 j (by omega)))⟩ dX7_helpfulShifts_108
            · obtain ⟨σ27, f86, fr28, hH⟩ := x_normE (g := v) 86 (by decide) f86 (by intro j h0 h1; rw [hv2]) hH
              have f85 : σ27 85 = oB 5 [.ref (xad E 86), .ref (xad E 87), .ref (xad E 88), .ref (xad E 89), .ref (xad E 90), .int (iZ (b2 sv)), .int (iZ re), .int (iZ ea), .int (iZ fa), .ref (xad E 91), .ref (xad E 92), .ref (xad E 93), .int (iZ ty), .ref (xad E 94), .int (iZ li), .int (iZ (if true = true then 0 else 1)), .int (iZ sz), .int (iZ sp), .int (iZ wr), .int (iZ to), .ref (xad E 95)] := (fr28 85 (by omega)).trans f85
              have f88 : σ27 88 = aI E 87 tq2 := (fr28 88 (by omega)).trans f88
              have f91 : σ27 91 = aI E 15 m2 := (fr28 91 (by omega)).trans f91
              have f92 : σ27 92 = aI E 25 F2 := (fr28 92 (by omega)).trans f92
              refine lv_iload hx hb dX7_helpfulShifts_50 (lv_at hl 2 rfl) ?_
              refine lv_aload_n hx hb dX7_helpfulShifts_52 rfl (lv_at hl 3 rfl) ?_
              refine lv_iload_n hx hb dX7_helpfulShifts_53 rfl (lv_at hl 4 rfl) ?_
              refine lv_iload hx hb dX7_helpfulShifts_54 (lv_at hl 1 rfl) ?_
              refine lv_iload hx hb dX7_helpfulShifts_56 (lv_at hl 0 rfl) ?_
              refine x_iconst hx hb dX7_helpfulShifts_58 ?_
              refine x_irem hx hb dX7_helpfulShifts_59 (by omega) (by omega) (by omega) (by omega) ?_
              refine x_if_ne (tgt := 67) hx hb dX7_helpfulShifts_60 (by decide) (by omega) (fun c60 => ?_) (fun c60 => ?_)
              · refine x_iconst hx hb dX7_helpfulShifts_67 ?_
                refine lv_iload hx hb dX7_helpfulShifts_68 (lv_at hl 0 rfl) ?_
                refine x_iconst hx hb dX7_helpfulShifts_70 ?_
                refine x_idiv hx hb dX7_helpfulShifts_71 (by omega) (by omega) (by omega) (by omega) ?_
                refine lv_iload hx hb dX7_helpfulShifts_72 (lv_at hl 0 rfl) ?_
                refine x_iconst hx hb dX7_helpfulShifts_74 ?_
                refine x_idiv hx hb dX7_helpfulShifts_75 (by omega) (by omega) (by omega) (by omega) ?_
                refine x_iconst hx hb dX7_helpfulShifts_76 ?_
                refine x_irem hx hb dX7_helpfulShifts_77 (by omega) (by omega) (by omega) (by omega) ?_
                refine x_if_ne (tgt := 85) hx hb dX7_helpfulShifts_78 (by decide) (by omega) (fun c78 => ?_) (fun c78 => ?_)
                · refine x_iconst hx hb dX7_helpfulShifts_85 ?_
                  refine x_cVIE (As := [.int (iZ w), .int (iZ (cellZ r c0)), .int (iZ 0), .int (iZ (k / 4)), .int (iZ (-1))]) (rest := [.int (iZ ma)]) hx hb hml hts hown hK hST hOK hH 85 (c_X7_doesHelp l E ST hSF σ27 w (cellZ r c0) false (k / 4) (-1) op lk kp wc pn nw sh wk sv re ea fa ty li (if true = true then 0 else 1) sz sp wr to v tq2 m2 F2 f85 f86 f88 f91 f92 (by assumption) (by omega) (by omega) (by omega) (by omega) (by omega) (by assumption)) (cwV 5 hts gX7_helpfulShifts_X7_doesHelp rfl rfl rfl (by decide +kernel) ⟨Nat.le_of_ble_eq_true rfl, Nat.le_of_ble_eq_true rfl⟩) (by decide) f85 rfl rfl hl.1 rfl (Nat.le_of_ble_eq_true rfl) dX7_helpfulShifts_86 ⟨Nat.le_of_ble_eq_true rfl, Nat.le_of_ble_eq_true rfl⟩ (fun z u h => h) (fun σ30 H locs hp31 hH => ?_)
                  obtain ⟨⟨t1_33, m1_34, F1_35, f85, f86, f88, f91, f92, hf36⟩, fr32⟩ := hp31
                  have hhk := hhK_at (op := op) (lk := lk) (kp := kp) (wc := wc) (pn := pn) (nw := nw) (w := w) (cell := cellZ r c0) (k := k) (b := false) (s := (-1)) (by simp [c60]) (by simp [c78])
                  refine x_ifb_eq (tgt := 96) hx hb dX7_helpfulShifts_89 (by decide) (fun c89 => ?_) (fun c89 => ?_)
                  · have c89 := of_decide_eq_false c89
                    refine x_iconst hx hb dX7_helpfulShifts_96 ?_
                    refine x_iadd hx hb dX7_helpfulShifts_97 ?_
                    refine lv_istore (lv' := [(4, .int (iZ (ma + 0))), (6, .int (iZ k)), (5, .int (iZ (cellZ r c0))), (0, .ref (xad E 85)), (1, .int (iZ w)), (2, .int (iZ r)), (3, .int (iZ c0))]) hx hb dX7_helpfulShifts_98 hl (by decide) rfl (fun ls hl => ?_)
                    refine x_iinc (lv' := [(6, .int (iZ (k + 1))), (4, .int (iZ (ma + 0))), (5, .int (iZ (cellZ r c0))), (0, .ref (xad E 85)), (1, .int (iZ w)), (2, .int (iZ r)), (3, .int (iZ c0))]) hx hb dX7_helpfulShifts_100 hl (k := 1) rfl (by decide) rfl (fun ls hl => ?_)
                    refine lv_goto (tgt := 43) hx hb dX7_helpfulShifts_103 (by decide) ?_
                    exact ih43 (ma + 0) (k + 1) v t1_33 m1_34 F1_35 σ30 _ _ _ (by omega) (by omega) (by rw [smK_s hk.1, ← hma, hhk]; first | rw [c89] | rw [hh_0 c89]) (by omega) (by assumption) (by rfl) f85 f86 f88 f91 f92 (fun j hj0 hj1 hj2 => ((fr32 j (by omega) (by omega) (by omega) (by omega)).trans ((fr28 j (by omega)).trans (fr26 j (by omega) (by omega) (by omega))))) hH (lv_sub hl [0, 2, 1, 3, 4, 5, 6] rfl)
                  · have c89 := of_decide_eq_true c89
                    refine x_iconst hx hb dX7_helpfulShifts_92 ?_
                    refine lv_goto (tgt := 97) hx hb dX7_helpfulShifts_93 (by decide) ?_
                    refine x_iadd hx hb dX7_helpfulShifts_97 ?_
                    refine lv_istore (lv' := [(4, .int (iZ (ma + 1))), (6, .int (iZ k)), (5, .int (iZ (cellZ r c0))), (0, .ref (xad E 85)), (1, .int (iZ w)), (2, .int (iZ r)), (3, .int (iZ c0))]) hx hb dX7_helpfulShifts_98 hl (by decide) rfl (fun ls hl => ?_)
                    refine x_iinc (lv' := [(6, .int (iZ (k + 1))), (4, .int (iZ (ma + 1))), (5, .int (iZ (cellZ r c0))), (0, .ref (xad E 85)), (1, .int (iZ w)), (2, .int (iZ r)), (3, .int (iZ c0))]) hx hb dX7_helpfulShifts_100 hl (k := 1) rfl (by decide) rfl (fun ls hl => ?_)
                    refine lv_goto (tgt := 43) hx hb dX7_helpfulShifts_103 (by decide) ?_
                    exact ih43 (ma + 1) (k + 1) v t1_33 m1_34 F1_35 σ30 _ _ _ (by omega) (by omega) (by rw [smK_s hk.1, ← hma, hhk]; first | rw [c89] | rw [hh_0 c89]) (by omega) (by assumption) (by rfl) f85 f86 f88 f91 f92 (fun j hj0 hj1 hj2 => ((fr32 j (by omega) (by omega) (by omega) (by omega)).trans ((fr28 j (by omega)).trans (fr26 j (by omega) (by omega) (by omega))))) hH (lv_sub hl [0, 2, 1, 3, 4, 5, 6] rfl)
                · refine x_iconst hx hb dX7_helpfulShifts_81 ?_
                  refine lv_goto (tgt := 86) hx hb dX7_helpfulShifts_82 (by decide) ?_
                  refine x_cVIE (As := [.int (iZ w), .int (iZ (cellZ r c0)), .int (iZ 0), .int (iZ (k / 4)), .int (iZ 1)]) (rest := [.int (iZ ma)]) hx hb hml hts hown hK hST hOK hH 85 (c_X7_doesHelp l E ST hSF σ27 w (cellZ r c0) false (k / 4) 1 op lk kp wc pn nw sh wk sv re ea fa ty li (if true = true then 0 else 1) sz sp wr to v tq2 m2 F2 f85 f86 f88 f91 f92 (by assumption) (by omega) (by omega) (by omega) (by omega) (by omega) (by assumption)) (cwV 5 hts gX7_helpfulShifts_X7_doesHelp rfl rfl rfl (by decide +kernel) ⟨Nat.le_of_ble_eq_true rfl, Nat.le_of_ble_eq_true rfl⟩) (by decide) f85 rfl rfl hl.1 rfl (Nat.le_of_ble_eq_true rfl) dX7_helpfulShifts_86 ⟨Nat.le_of_ble_eq_true rfl, Nat.le_of_ble_eq_true rfl⟩ (fun z u h => h) (fun σ39 H locs hp40 hH => ?_)
                  obtain ⟨⟨t1_42, m1_43, F1_44, f85, f86, f88, f91, f92, hf45⟩, fr41⟩ := hp40
                  have hhk := hhK_at (op := op) (lk := lk) (kp := kp) (wc := wc) (pn := pn) (nw := nw) (w := w) (cell := cellZ r c0) (k := k) (b := false) (s := 1) (by simp [c60]) (by simp [c78])
                  refine x_ifb_eq (tgt := 96) hx hb dX7_helpfulShifts_89 (by decide) (fun c89 => ?_) (fun c89 => ?_)
                  · have c89 := of_decide_eq_false c89
                    refine x_iconst hx hb dX7_helpfulShifts_96 ?_
                    refine x_iadd hx hb dX7_helpfulShifts_97 ?_
                    refine lv_istore (lv' := [(4, .int (iZ (ma + 0))), (6, .int (iZ k)), (5, .int (iZ (cellZ r c0))), (0, .ref (xad E 85)), (1, .int (iZ w)), (2, .int (iZ r)), (3, .int (iZ c0))]) hx hb dX7_helpfulShifts_98 hl (by decide) rfl (fun ls hl => ?_)
                    refine x_iinc (lv' := [(6, .int (iZ (k + 1))), (4, .int (iZ (ma + 0))), (5, .int (iZ (cellZ r c0))), (0, .ref (xad E 85)), (1, .int (iZ w)), (2, .int (iZ r)), (3, .int (iZ c0))]) hx hb dX7_helpfulShifts_100 hl (k := 1) rfl (by decide) rfl (fun ls hl => ?_)
                    refine lv_goto (tgt := 43) hx hb dX7_helpfulShifts_103 (by decide) ?_
                    exact ih43 (ma + 0) (k + 1) v t1_42 m1_43 F1_44 σ39 _ _ _ (by omega) (by omega) (by rw [smK_s hk.1, ← hma, hhk]; first | rw [c89] | rw [hh_0 c89]) (by omega) (by assumption) (by rfl) f85 f86 f88 f91 f92 (fun j hj0 hj1 hj2 => ((fr41 j (by omega) (by omega) (by omega) (by omega)).trans ((fr28 j (by omega)).trans (fr26 j (by omega) (by omega) (by omega))))) hH (lv_sub hl [0, 2, 1, 3, 4, 5, 6] rfl)
                  · have c89 := of_decide_eq_true c89
                    refine x_iconst hx hb dX7_helpfulShifts_92 ?_
                    refine lv_goto (tgt := 97) hx hb dX7_helpfulShifts_93 (by decide) ?_
                    refine x_iadd hx hb dX7_helpfulShifts_97 ?_
                    refine lv_istore (lv' := [(4, .int (iZ (ma + 1))), (6, .int (iZ k)), (5, .int (iZ (cellZ r c0))), (0, .ref (xad E 85)), (1, .int (iZ w)), (2, .int (iZ r)), (3, .int (iZ c0))]) hx hb dX7_helpfulShifts_98 hl (by decide) rfl (fun ls hl => ?_)
                    refine x_iinc (lv' := [(6, .int (iZ (k + 1))), (4, .int (iZ (ma + 1))), (5, .int (iZ (cellZ r c0))), (0, .ref (xad E 85)), (1, .int (iZ w)), (2, .int (iZ r)), (3, .int (iZ c0))]) hx hb dX7_helpfulShifts_100 hl (k := 1) rfl (by decide) rfl (fun ls hl => ?_)
                    refine lv_goto (tgt := 43) hx hb dX7_helpfulShifts_103 (by decide) ?_
                    exact ih43 (ma + 1) (k + 1) v t1_42 m1_43 F1_44 σ39 _ _ _ (by omega) (by omega) (by rw [smK_s hk.1, ← hma, hhk]; first | rw [c89] | rw [hh_0 c89]) (by omega) (by assumption) (by rfl) f85 f86 f88 f91 f92 (fun j hj0 hj1 hj2 => ((fr41 j (by omega) (by omega) (by omega) (by omega)).trans ((fr28 j (by omega)).trans (fr26 j (by omega) (by omega) (by omega))))) hH (lv_sub hl [0, 2, 1, 3, 4, 5, 6] rfl)
              · refine x_iconst hx hb dX7_helpfulShifts_63 ?_
                refine lv_goto (tgt := 68) hx hb dX7_helpfulShifts_64 (by decide) ?_
                refine lv_iload hx hb dX7_helpfulShifts_68 (lv_at hl 0 rfl) ?_
                refine x_iconst hx hb dX7_helpfulShifts_70 ?_
                refine x_idiv hx hb dX7_helpfulShifts_71 (by omega) (by omega) (by omega) (by omega) ?_
                refine lv_iload hx hb dX7_helpfulShifts_72 (lv_at hl 0 rfl) ?_
                refine x_iconst hx hb dX7_helpfulShifts_74 ?_
                refine x_idiv hx hb dX7_helpfulShifts_75 (by omega) (by omega) (by omega) (by omega) ?_
                refine x_iconst hx hb dX7_helpfulShifts_76 ?_
                refine x_irem hx hb dX7_helpfulShifts_77 (by omega) (by omega) (by omega) (by omega) ?_
                refine x_if_ne (tgt := 85) hx hb dX7_helpfulShifts_78 (by decide) (by omega) (fun c78 => ?_) (fun c78 => ?_)
                · refine x_iconst hx hb dX7_helpfulShifts_85 ?_
                  refine x_cVIE (As := [.int (iZ w), .int (iZ (cellZ r c0)), .int (iZ 1), .int (iZ (k / 4)), .int (iZ (-1))]) (rest := [.int (iZ ma)]) hx hb hml hts hown hK hST hOK hH 85 (c_X7_doesHelp l E ST hSF σ27 w (cellZ r c0) true (k / 4) (-1) op lk kp wc pn nw sh wk sv re ea fa ty li (if true = true then 0 else 1) sz sp wr to v tq2 m2 F2 f85 f86 f88 f91 f92 (by assumption) (by omega) (by omega) (by omega) (by omega) (by omega) (by assumption)) (cwV 5 hts gX7_helpfulShifts_X7_doesHelp rfl rfl rfl (by decide +kernel) ⟨Nat.le_of_ble_eq_true rfl, Nat.le_of_ble_eq_true rfl⟩) (by decide) f85 rfl rfl hl.1 rfl (Nat.le_of_ble_eq_true rfl) dX7_helpfulShifts_86 ⟨Nat.le_of_ble_eq_true rfl, Nat.le_of_ble_eq_true rfl⟩ (fun z u h => h) (fun σ48 H locs hp49 hH => ?_)
                  obtain ⟨⟨t1_51, m1_52, F1_53, f85, f86, f88, f91, f92, hf54⟩, fr50⟩ := hp49
                  have hhk := hhK_at (op := op) (lk := lk) (kp := kp) (wc := wc) (pn := pn) (nw := nw) (w := w) (cell := cellZ r c0) (k := k) (b := true) (s := (-1)) (by simp [c60]) (by simp [c78])
                  refine x_ifb_eq (tgt := 96) hx hb dX7_helpfulShifts_89 (by decide) (fun c89 => ?_) (fun c89 => ?_)
                  · have c89 := of_decide_eq_false c89
                    refine x_iconst hx hb dX7_helpfulShifts_96 ?_
                    refine x_iadd hx hb dX7_helpfulShifts_97 ?_
                    refine lv_istore (lv' := [(4, .int (iZ (ma + 0))), (6, .int (iZ k)), (5, .int (iZ (cellZ r c0))), (0, .ref (xad E 85)), (1, .int (iZ w)), (2, .int (iZ r)), (3, .int (iZ c0))]) hx hb dX7_helpfulShifts_98 hl (by decide) rfl (fun ls hl => ?_)
                    refine x_iinc (lv' := [(6, .int (iZ (k + 1))), (4, .int (iZ (ma + 0))), (5, .int (iZ (cellZ r c0))), (0, .ref (xad E 85)), (1, .int (iZ w)), (2, .int (iZ r)), (3, .int (iZ c0))]) hx hb dX7_helpfulShifts_100 hl (k := 1) rfl (by decide) rfl (fun ls hl => ?_)
                    refine lv_goto (tgt := 43) hx hb dX7_helpfulShifts_103 (by decide) ?_
                    exact ih43 (ma + 0) (k + 1) v t1_51 m1_52 F1_53 σ48 _ _ _ (by omega) (by omega) (by rw [smK_s hk.1, ← hma, hhk]; first | rw [c89] | rw [hh_0 c89]) (by omega) (by assumption) (by rfl) f85 f86 f88 f91 f92 (fun j hj0 hj1 hj2 => ((fr50 j (by omega) (by omega) (by omega) (by omega)).trans ((fr28 j (by omega)).trans (fr26 j (by omega) (by omega) (by omega))))) hH (lv_sub hl [0, 2, 1, 3, 4, 5, 6] rfl)
                  · have c89 := of_decide_eq_true c89
                    refine x_iconst hx hb dX7_helpfulShifts_92 ?_
                    refine lv_goto (tgt := 97) hx hb dX7_helpfulShifts_93 (by decide) ?_
                    refine x_iadd hx hb dX7_helpfulShifts_97 ?_
                    refine lv_istore (lv' := [(4, .int (iZ (ma + 1))), (6, .int (iZ k)), (5, .int (iZ (cellZ r c0))), (0, .ref (xad E 85)), (1, .int (iZ w)), (2, .int (iZ r)), (3, .int (iZ c0))]) hx hb dX7_helpfulShifts_98 hl (by decide) rfl (fun ls hl => ?_)
                    refine x_iinc (lv' := [(6, .int (iZ (k + 1))), (4, .int (iZ (ma + 1))), (5, .int (iZ (cellZ r c0))), (0, .ref (xad E 85)), (1, .int (iZ w)), (2, .int (iZ r)), (3, .int (iZ c0))]) hx hb dX7_helpfulShifts_100 hl (k := 1) rfl (by decide) rfl (fun ls hl => ?_)
                    refine lv_goto (tgt := 43) hx hb dX7_helpfulShifts_103 (by decide) ?_
                    exact ih43 (ma + 1) (k + 1) v t1_51 m1_52 F1_53 σ48 _ _ _ (by omega) (by omega) (by rw [smK_s hk.1, ← hma, hhk]; first | rw [c89] | rw [hh_0 c89]) (by omega) (by assumption) (by rfl) f85 f86 f88 f91 f92 (fun j hj0 hj1 hj2 => ((fr50 j (by omega) (by omega) (by omega) (by omega)).trans ((fr28 j (by omega)).trans (fr26 j (by omega) (by omega) (by omega))))) hH (lv_sub hl [0, 2, 1, 3, 4, 5, 6] rfl)
                · refine x_iconst hx hb dX7_helpfulShifts_81 ?_
                  refine lv_goto (tgt := 86) hx hb dX7_helpfulShifts_82 (by decide) ?_
                  refine x_cVIE (As := [.int (iZ w), .int (iZ (cellZ r c0)), .int (iZ 1), .int (iZ (k / 4)), .int (iZ 1)]) (rest := [.int (iZ ma)]) hx hb hml hts hown hK hST hOK hH 85 (c_X7_doesHelp l E ST hSF σ27 w (cellZ r c0) true (k / 4) 1 op lk kp wc pn nw sh wk sv re ea fa ty li (if true = true then 0 else 1) sz sp wr to v tq2 m2 F2 f85 f86 f88 f91 f92 (by assumption) (by omega) (by omega) (by omega) (by omega) (by omega) (by assumption)) (cwV 5 hts gX7_helpfulShifts_X7_doesHelp rfl rfl rfl (by decide +kernel) ⟨Nat.le_of_ble_eq_true rfl, Nat.le_of_ble_eq_true rfl⟩) (by decide) f85 rfl rfl hl.1 rfl (Nat.le_of_ble_eq_true rfl) dX7_helpfulShifts_86 ⟨Nat.le_of_ble_eq_true rfl, Nat.le_of_ble_eq_true rfl⟩ (fun z u h => h) (fun σ57 H locs hp58 hH => ?_)
                  obtain ⟨⟨t1_60, m1_61, F1_62, f85, f86, f88, f91, f92, hf63⟩, fr59⟩ := hp58
                  have hhk := hhK_at (op := op) (lk := lk) (kp := kp) (wc := wc) (pn := pn) (nw := nw) (w := w) (cell := cellZ r c0) (k := k) (b := true) (s := 1) (by simp [c60]) (by simp [c78])
                  refine x_ifb_eq (tgt := 96) hx hb dX7_helpfulShifts_89 (by decide) (fun c89 => ?_) (fun c89 => ?_)
                  · have c89 := of_decide_eq_false c89
                    refine x_iconst hx hb dX7_helpfulShifts_96 ?_
                    refine x_iadd hx hb dX7_helpfulShifts_97 ?_
                    refine lv_istore (lv' := [(4, .int (iZ (ma + 0))), (6, .int (iZ k)), (5, .int (iZ (cellZ r c0))), (0, .ref (xad E 85)), (1, .int (iZ w)), (2, .int (iZ r)), (3, .int (iZ c0))]) hx hb dX7_helpfulShifts_98 hl (by decide) rfl (fun ls hl => ?_)
                    refine x_iinc (lv' := [(6, .int (iZ (k + 1))), (4, .int (iZ (ma + 0))), (5, .int (iZ (cellZ r c0))), (0, .ref (xad E 85)), (1, .int (iZ w)), (2, .int (iZ r)), (3, .int (iZ c0))]) hx hb dX7_helpfulShifts_100 hl (k := 1) rfl (by decide) rfl (fun ls hl => ?_)
                    refine lv_goto (tgt := 43) hx hb dX7_helpfulShifts_103 (by decide) ?_
                    exact ih43 (ma + 0) (k + 1) v t1_60 m1_61 F1_62 σ57 _ _ _ (by omega) (by omega) (by rw [smK_s hk.1, ← hma, hhk]; first | rw [c89] | rw [hh_0 c89]) (by omega) (by assumption) (by rfl) f85 f86 f88 f91 f92 (fun j hj0 hj1 hj2 => ((fr59 j (by omega) (by omega) (by omega) (by omega)).trans ((fr28 j (by omega)).trans (fr26 j (by omega) (by omega) (by omega))))) hH (lv_sub hl [0, 2, 1, 3, 4, 5, 6] rfl)
                  · have c89 := of_decide_eq_true c89
                    refine x_iconst hx hb dX7_helpfulShifts_92 ?_
                    refine lv_goto (tgt := 97) hx hb dX7_helpfulShifts_93 (by decide) ?_
                    refine x_iadd hx hb dX7_helpfulShifts_97 ?_
                    refine lv_istore (lv' := [(4, .int (iZ (ma + 1))), (6, .int (iZ k)), (5, .int (iZ (cellZ r c0))), (0, .ref (xad E 85)), (1, .int (iZ w)), (2, .int (iZ r)), (3, .int (iZ c0))]) hx hb dX7_helpfulShifts_98 hl (by decide) rfl (fun ls hl => ?_)
                    refine x_iinc (lv' := [(6, .int (iZ (k + 1))), (4, .int (iZ (ma + 1))), (5, .int (iZ (cellZ r c0))), (0, .ref (xad E 85)), (1, .int (iZ w)), (2, .int (iZ r)), (3, .int (iZ c0))]) hx hb dX7_helpfulShifts_100 hl (k := 1) rfl (by decide) rfl (fun ls hl => ?_)
                    refine lv_goto (tgt := 43) hx hb dX7_helpfulShifts_103 (by decide) ?_
                    exact ih43 (ma + 1) (k + 1) v t1_60 m1_61 F1_62 σ57 _ _ _ (by omega) (by omega) (by rw [smK_s hk.1, ← hma, hhk]; first | rw [c89] | rw [hh_0 c89]) (by omega) (by assumption) (by rfl) f85 f86 f88 f91 f92 (fun j hj0 hj1 hj2 => ((fr59 j (by omega) (by omega) (by omega) (by omega)).trans ((fr28 j (by omega)).trans (fr26 j (by omega) (by omega) (by omega))))) hH (lv_sub hl [0, 2, 1, 3, 4, 5, 6] rfl)
        exact K43 21 0 0 v tq mv F σ18 _ _ _ (by first | omega | decide) (by omega) (by rfl) (by omega) (by exact hFr) (by rfl) f85 f86 f88 f91 f92 (fun j _ _ _ => rfl) hH (lv_sub hl [0, 1, 2, 3, 4, 5, 6] rfl)
      · exact absurd c25 (by decide)
