def rm_X6_nearestKey : Room := { frames := 7, cells := 2, slots := 12, locals := 111 }
set_option maxRecDepth 100000 in
set_option maxHeartbeats 4000000 in
theorem c_X6_nearestKey (l : Launch) (E : xE) (ST : xST) (hSF : SF ST) (htr : l.stackTraces = false) (σ : xW) (w : Int) (hv : Bool) (se : Int) (sf : Int) (ll : Int) (op : Int → Int) (lk : Int → Int) (kp : Int → Int) (wc : Int → Int) (pn : Int) (nw : Int) (sh : Int) (wk : Int) (le : Int → Int) (rl : Int → Int) (fs : Int → Int) (qu : Int → Int) (gr : Int → Int) (hr0 : mn E σ hv se sf ll) (hr1 : bd E σ 1 op lk kp wc pn nw sh wk) (hr2 : sr E σ le rl fs qu gr) (hB : BI op lk kp wc pn nw) (hw9 : rg w) : XI l E ST yX6_nearestKey wsX6_nearestKey rm_X6_nearestKey [.ref (xad E 0), .int (iZ w)] σ (fun (z : Int) (u : xW) => z = 97 + (nkK kp (dz (Gw op lk kp w) (wc w)) 6).1 ∧ (∃ (le1 rl1 fs1 qu1 gr1 : Int → Int), mn E u hv se sf ll ∧ bd E u 1 op lk kp wc pn nw sh wk ∧ sr E u le1 rl1 fs1 qu1 gr1 ∧ (0 ≤ w ∧ w < nw) ∧ (¬ (nkK kp (dz (Gw op lk kp w) (wc w)) 6).1 = -1)) ∧ ∀ j : Nat, (j < 75 ∨ 75 + 6 ≤ j) → u j = σ j) (fun (n : String) (u : xW) => ((n = "java/lang/IndexOutOfBoundsException" ∧ ¬ (0 ≤ w ∧ w < nw)) ∨ (n = "java/util/NoSuchElementException" ∧ (0 ≤ w ∧ w < nw) ∧ (nkK kp (dz (Gw op lk kp w) (wc w)) 6).1 = -1)) ∧ (∃ (le1 rl1 fs1 qu1 gr1 : Int → Int), mn E u hv se sf ll ∧ bd E u 1 op lk kp wc pn nw sh wk ∧ sr E u le1 rl1 fs1 qu1 gr1) ∧ ∀ j : Nat, (j < 75 ∨ 75 + 6 ≤ j) → u j = σ j) := by
  have f0 : σ 0 = oB 4 [.ref (xad E 1), .ref (xad E 7), .ref (xad E 13), .ref (xad E 19), .int (iZ (b2 hv)), .ref (xad E 73), .ref (xad E 75), .ref (xad E 81), .int (iZ se), .int (iZ sf), .ref (xad E 84), .int (iZ ll)] := hr0
  obtain ⟨f1, f2, f3, f4, f5, ro1, f6⟩ := hr1
  obtain ⟨f75, f76, f77, f78, f79, f80⟩ := hr2
  refine XI_of (by decide) rfl (Nat.le_of_ble_eq_true rfl) ?_
  intro p e s m args below meth c Q ls G hH hl hQ
  obtain ⟨hx, hb, hml, hown, hts, hK, hST, hlocks, hr, hno⟩ := G
  have hOK := hSF.1
  have hown : s.vm.findClass RX6 = some m.cls := hown
  have hl : lv_has ls 6 [(0, .ref (xad E 0)), (1, .int (iZ w))] := hl
  have hinX1 : ∀ w ∈ u_ws RX1 TX1 9, w ∈ wsX6_nearestKey := fun w h => (List.mem_cons_of_mem _ (List.mem_append_left _ (List.mem_append_left _ (List.mem_append_left _ (List.mem_append_right _ h)))))
  have hinX5 : ∀ w ∈ u_ws RX5 TX5 5, w ∈ wsX6_nearestKey := fun w h => (List.mem_cons_of_mem _ (List.mem_append_left _ (List.mem_append_left _ (List.mem_append_right _ h))))
  have hinX6 : ∀ w ∈ u_ws RX6 TX6 12, w ∈ wsX6_nearestKey := fun w h => (List.mem_cons_of_mem _ (List.mem_append_left _ (List.mem_append_left _ (List.mem_append_left _ (List.mem_append_left _ (List.mem_append_right _ h))))))
  obtain ⟨hop, hlk, hkp, hwc, hpn, hnw⟩ := id hB
  have hdr := dz_rg (G := Gw op lk kp w) (st := wc w) Gw_ok (hwc w)
  refine lv_aload_n hx hb dX6_nearestKey_0 rfl (lv_at hl 0 rfl) ?_
  refine x_get hx hb hts hown hK hH 0 (ltw (by decide)) f0 hinX6 rfl 6 (by decide) (List.mem_of_getElem? (i := 3) rfl) rfl dX6_nearestKey_1 ?_
  refine lv_aload_n hx hb dX6_nearestKey_4 rfl (lv_at hl 0 rfl) ?_
  refine x_get hx hb hts hown hK hH 0 (ltw (by decide)) f0 hinX6 rfl 0 (by decide) (List.mem_of_getElem? (i := 4) rfl) rfl dX6_nearestKey_5 ?_
  refine lv_aload_n hx hb dX6_nearestKey_8 rfl (lv_at hl 0 rfl) ?_
  refine lv_iload_n hx hb dX6_nearestKey_9 rfl (lv_at hl 1 rfl) ?_
  refine x_cXVIE (As := [.int (iZ w)]) (rest := [.ref (xad E 1), .ref (xad E 75)]) hx hb hml hts hown hK hST hOK hH 0 (c_X6_needWalker l E ST hSF htr σ w hv se sf ll op lk kp wc pn nw sh wk f0 ⟨f1, f2, f3, f4, f5, _, f6⟩ (by omega) (by omega)) (cwV 1 hts gX6_nearestKey_X6_needWalker rfl rfl rfl (by decide +kernel) ⟨Nat.le_of_ble_eq_true rfl, Nat.le_of_ble_eq_true rfl⟩) (ltw (by decide)) f0 rfl rfl hl.1 rfl (Nat.le_of_ble_eq_true rfl) dX6_nearestKey_10 ⟨Nat.le_of_ble_eq_true rfl, Nat.le_of_ble_eq_true rfl⟩ ?_ (fun z u h => h) (fun σ2 H locs hp3 hH => ?_)
  · intro nx ce q9 σ2 H locs hp3 hH hce hcv hcl
    subst hQ
    obtain ⟨hn, hu⟩ := hp3
    rw [hu] at hH
    exact x_out hno hlocks hH hce hcv hcl ⟨(by simp_all <;> omega), ⟨le, rl, fs, qu, gr, f0, ⟨f1, f2, f3, f4, f5, _, f6⟩, ⟨f75, f76, f77, f78, f79, f80⟩⟩, fun j hj0 => rfl⟩ (Nat.le_of_ble_eq_true rfl) (Nat.le_of_ble_eq_true rfl)
  · obtain ⟨hf4, hu5⟩ := hp3
    rw [hu5] at hH
    refine x_cVV (As := [.ref (xad E 1), .int (iZ w)]) (rest := []) hx hb hml hts hown hK hST hOK hH 75 (c_X5_findPaths l E ST hSF σ 1 w op lk kp wc pn nw sh wk le rl fs qu gr ⟨f1, f2, f3, f4, f5, _, f6⟩ ⟨f75, f76, f77, f78, f79, f80⟩ (by omega) (by omega) (by omega)) (cwV 2 hts gX6_nearestKey_X5_findPaths rfl rfl rfl (by decide +kernel) ⟨Nat.le_of_ble_eq_true rfl, Nat.le_of_ble_eq_true rfl⟩) (ltw (by decide)) f75 rfl rfl hl.1 rfl (Nat.le_of_ble_eq_true rfl) dX6_nearestKey_13 ⟨Nat.le_of_ble_eq_true rfl, Nat.le_of_ble_eq_true rfl⟩ (fun σ7 H locs hp8 hH => ?_)
    obtain ⟨⟨fs1_10, qu1_11, ⟨f75, f76, f77, f78, f79, f80⟩, hf12⟩, fr9⟩ := hp8
    have f0 : σ7 0 = oB 4 [.ref (xad E 1), .ref (xad E 7), .ref (xad E 13), .ref (xad E 19), .int (iZ (b2 hv)), .ref (xad E 73), .ref (xad E 75), .ref (xad E 81), .int (iZ se), .int (iZ sf), .ref (xad E 84), .int (iZ ll)] := (fr9 0 (by omega) (by omega) (by omega)).trans f0
    have f1 : σ7 1 = oB 0 [.ref (xad E 2), .ref (xad E 3), .ref (xad E 4), .ref (xad E 5), .ref (xad E 6), .int (iZ pn), .int (iZ nw), .int (iZ sh), .long (lZ wk)] := (fr9 1 (by omega) (by omega) (by omega)).trans f1
    have f2 : σ7 2 = aI E 25 op := (fr9 2 (by omega) (by omega) (by omega)).trans f2
    have f3 : σ7 3 = aI E 25 lk := (fr9 3 (by omega) (by omega) (by omega)).trans f3
    have f4 : σ7 4 = aI E 6 kp := (fr9 4 (by omega) (by omega) (by omega)).trans f4
    have f5 : σ7 5 = aI E 3 wc := (fr9 5 (by omega) (by omega) (by omega)).trans f5
    have f6 : σ7 6 = aI E 5 ro1 := (fr9 6 (by omega) (by omega) (by omega)).trans f6
    refine x_iconst hx hb dX6_nearestKey_16 ?_
    refine lv_istore_n (lv' := [(2, .int (iZ (-1))), (0, .ref (xad E 0)), (1, .int (iZ w))]) hx hb dX6_nearestKey_17 rfl hl (by decide) rfl (fun ls hl => ?_)
    refine x_bipush hx hb dX6_nearestKey_18 (by decide) ?_
    refine lv_istore_n (lv' := [(3, .int (iZ 25)), (2, .int (iZ (-1))), (0, .ref (xad E 0)), (1, .int (iZ w))]) hx hb dX6_nearestKey_20 rfl hl (by decide) rfl (fun ls hl => ?_)
    refine x_iconst hx hb dX6_nearestKey_21 ?_
    refine lv_istore (lv' := [(4, .int (iZ 0)), (3, .int (iZ 25)), (2, .int (iZ (-1))), (0, .ref (xad E 0)), (1, .int (iZ w))]) hx hb dX6_nearestKey_22 hl (by decide) rfl (fun ls hl => ?_)
    have K24 : ∀ (nK : Nat) (ne sh9 i : Int) (H : Heap) (locs : List Loc) (ls : Array Slot), (6 - i).toNat < nK → (0 ≤ i ∧ i ≤ 6) → ((-1 ≤ ne ∧ ne ≤ 5) ∧ (0 ≤ sh9 ∧ sh9 ≤ 25)) → (nkK kp (dz (Gw op lk kp w) (wc w)) i = (ne, sh9)) → Hx E (xA E s.heap.size) s.heap σ7 H locs → lv_has ls 6 [(4, .int (iZ i)), (3, .int (iZ sh9)), (2, .int (iZ ne)), (0, .ref (xad E 0)), (1, .int (iZ w))] → W p l e rm_X6_nearestKey s m args below meth c H locs (0 + rm_X6_needWalker.cells) (0 + rm_X6_needWalker.slots) Q (F0 m 24 ls []) := by
      intro n24
      induction n24 with
      | zero =>
        intro ne sh9 i H locs ls hm
        exact absurd hm (by first | exact Nat.not_lt_zero _ | omega)
      | succ n24 ih24 =>
        intro ne sh9 i H locs ls hm24 hi hnb hnk  hH hl
        refine lv_iload hx hb dX6_nearestKey_24 (lv_at hl 0 rfl) ?_
        refine x_bipush hx hb dX6_nearestKey_26 (by decide) ?_
        refine x_icmp_ge (tgt := 85) hx hb dX6_nearestKey_28 (by decide) (by omega) (by decide) (fun c28 => ?_) (fun c28 => ?_)
        · have e9 : i = 6 := by omega
          subst e9
          refine lv_iload_n hx hb dX6_nearestKey_85 rfl (lv_at hl 2 rfl) ?_
          refine x_iconst hx hb dX6_nearestKey_86 ?_
          refine x_icmp_ne (tgt := 100) hx hb dX6_nearestKey_87 (by decide) (by omega) (by decide) (fun c87 => ?_) (fun c87 => ?_)
          · refine lv_iload_n hx hb dX6_nearestKey_100 rfl (lv_at hl 2 rfl) ?_
            refine x_cSID (As := [.int (iZ ne)]) (rest := []) hx hb hml hts hown hK hST hOK hH (c_X6_keyName l E ST hSF σ7 ne  (by omega) (by omega)) (va_cwS 1 hts gX6_nearestKey_X6_keyName rfl rfl rfl (by decide +kernel) ⟨Nat.le_of_ble_eq_true rfl, Nat.le_of_ble_eq_true rfl⟩) rfl hl.1 rfl (Nat.le_of_ble_eq_true rfl) dX6_nearestKey_101 ⟨Nat.le_of_ble_eq_true rfl, Nat.le_of_ble_eq_true rfl⟩ (fun z u h => h) (fun H locs hH => ?_)
            subst hQ
            exact x_creX hx hb hr hlocks hH (Nat.le_of_ble_eq_true rfl) (Nat.le_of_ble_eq_true rfl) (by omega) (by omega) ⟨(show (97 + ne) = (97 + (nkK kp (dz (Gw op lk kp w) (wc w)) 6).1) from (by rw [hnk])), ⟨(dz (Gw op lk kp w) (wc w)), rl, fs1_10, qu1_11, gr, f0, ⟨f1, f2, f3, f4, f5, _, f6⟩, ⟨f75, f76, f77, f78, f79, f80⟩, (by first | assumption | omega | simp_all), (by first | assumption | omega | simp_all)⟩, fun j hj0 => (fr9 j (by omega) (by omega) (by omega))⟩ dX6_nearestKey_104
          · subst hQ
            exact x_throwSN (text := "no key lies where the walker has a path") hx hb hml htr hts hown hST hSF hno hlocks hH xExc_4 (List.mem_of_getElem? (i := 1) rfl) (List.mem_of_getElem? (i := 2) rfl) (fun w h => (List.mem_cons_of_mem _ (List.mem_append_left _ (List.mem_append_right _ h)))) (List.mem_of_getElem? (i := 22) rfl) hl.1 dX6_nearestKey_90 dX6_nearestKey_93 dX6_nearestKey_94 dX6_nearestKey_96 dX6_nearestKey_99 (Nat.le_of_ble_eq_true rfl) (Nat.le_of_ble_eq_true rfl) (Nat.le_of_ble_eq_true rfl) (Nat.le_of_ble_eq_true rfl) ⟨Or.inr (⟨rfl, (by exact ⟨by omega, by rw [hnk]; exact c87⟩)⟩), ⟨(dz (Gw op lk kp w) (wc w)), rl, fs1_10, qu1_11, gr, f0, ⟨f1, f2, f3, f4, f5, _, f6⟩, ⟨f75, f76, f77, f78, f79, f80⟩⟩, fun j hj0 => (fr9 j (by omega) (by omega) (by omega))⟩ (Nat.le_of_ble_eq_true rfl) (Nat.le_of_ble_eq_true rfl)
        · refine lv_aload_n hx hb dX6_nearestKey_31 rfl (lv_at hl 3 rfl) ?_
          refine x_get hx hb hts hown hK hH 0 (ltw (by decide)) f0 hinX6 rfl 0 (by decide) (List.mem_of_getElem? (i := 4) rfl) rfl dX6_nearestKey_32 ?_
          refine x_get hx hb hts hown hK hH 1 (ltw (by decide)) f1 hinX1 rfl 2 (by decide) (List.mem_of_getElem? (i := 5) rfl) rfl dX6_nearestKey_35 ?_
          refine lv_iload hx hb dX6_nearestKey_38 (lv_at hl 0 rfl) ?_
          refine x_iald hx hb hK hH 4 (ltw (by decide)) f4 (by omega) (by omega) (by omega) dX6_nearestKey_40 ?_
          have hv18 := hkp i
          refine lv_istore (lv' := [(5, .int (iZ (kp i))), (4, .int (iZ i)), (3, .int (iZ sh9)), (2, .int (iZ ne)), (0, .ref (xad E 0)), (1, .int (iZ w))]) hx hb dX6_nearestKey_41 hl (by decide) rfl (fun ls hl => ?_)
          refine lv_iload hx hb dX6_nearestKey_43 (lv_at hl 0 rfl) ?_
          refine x_cSID (As := [.int (iZ (kp i))]) (rest := []) hx hb hml hts hown hK hST hOK hH (c_X6_isCell l E ST hSF σ7 (kp i)  (by omega)) (va_cwS 1 hts gX6_nearestKey_X6_isCell rfl rfl rfl (by decide +kernel) ⟨Nat.le_of_ble_eq_true rfl, Nat.le_of_ble_eq_true rfl⟩) rfl hl.1 rfl (Nat.le_of_ble_eq_true rfl) dX6_nearestKey_45 ⟨Nat.le_of_ble_eq_true rfl, Nat.le_of_ble_eq_true rfl⟩ (fun z u h => h) (fun H locs hH => ?_)
          refine x_ifb_eq (tgt := 79) hx hb dX6_nearestKey_48 (by decide) (fun c48 => ?_) (fun c48 => ?_)
          · have c48 := of_decide_eq_false c48
            refine x_iinc (lv' := [(4, .int (iZ (i + 1))), (5, .int (iZ (kp i))), (3, .int (iZ sh9)), (2, .int (iZ ne)), (0, .ref (xad E 0)), (1, .int (iZ w))]) hx hb dX6_nearestKey_79 hl (k := 1) rfl (by decide) rfl (fun ls hl => ?_)
            refine lv_goto (tgt := 24) hx hb dX6_nearestKey_82 (by decide) ?_
            exact ih24 ne sh9 (i + 1) _ _ _ (by omega) (by omega) (by omega) (by first | exact nkK_t (by omega) c48 (by rw [hnk]; omega) | (rw [nkK_f1 (by omega) c48]; exact hnk) | (rw [nkK_f2 (by omega) (by rw [hnk]; omega)]; exact hnk))  hH (lv_sub hl [0, 2, 3, 4, 5] rfl)
          · have c48 := of_decide_eq_true c48
            refine lv_aload_n hx hb dX6_nearestKey_51 rfl (lv_at hl 4 rfl) ?_
            refine x_get hx hb hts hown hK hH 0 (ltw (by decide)) f0 hinX6 rfl 6 (by decide) (List.mem_of_getElem? (i := 3) rfl) rfl dX6_nearestKey_52 ?_
            refine x_get hx hb hts hown hK hH 75 (ltw (by decide)) f75 hinX5 rfl 0 (by decide) (List.mem_of_getElem? (i := 6) rfl) rfl dX6_nearestKey_55 ?_
            refine lv_iload hx hb dX6_nearestKey_58 (lv_at hl 0 rfl) ?_
            refine x_iald hx hb hK hH 76 (ltw (by decide)) f76 (by omega) (by omega) (by omega) dX6_nearestKey_60 ?_
            have hv22 := hdr (kp i)
            refine lv_iload_n hx hb dX6_nearestKey_61 rfl (lv_at hl 2 rfl) ?_
            refine x_icmp_ge (tgt := 79) hx hb dX6_nearestKey_62 (by decide) (by omega) (by omega) (fun c62 => ?_) (fun c62 => ?_)
            · refine x_iinc (lv' := [(4, .int (iZ (i + 1))), (5, .int (iZ (kp i))), (3, .int (iZ sh9)), (2, .int (iZ ne)), (0, .ref (xad E 0)), (1, .int (iZ w))]) hx hb dX6_nearestKey_79 hl (k := 1) rfl (by decide) rfl (fun ls hl => ?_)
              refine lv_goto (tgt := 24) hx hb dX6_nearestKey_82 (by decide) ?_
              exact ih24 ne sh9 (i + 1) _ _ _ (by omega) (by omega) (by omega) (by first | exact nkK_t (by omega) c48 (by rw [hnk]; omega) | (rw [nkK_f1 (by omega) c48]; exact hnk) | (rw [nkK_f2 (by omega) (by rw [hnk]; omega)]; exact hnk))  hH (lv_sub hl [0, 2, 3, 4, 5] rfl)
            · refine lv_iload hx hb dX6_nearestKey_65 (lv_at hl 1 rfl) ?_
              refine lv_istore_n (lv' := [(2, .int (iZ i)), (5, .int (iZ (kp i))), (4, .int (iZ i)), (3, .int (iZ sh9)), (0, .ref (xad E 0)), (1, .int (iZ w))]) hx hb dX6_nearestKey_67 rfl hl (by decide) rfl (fun ls hl => ?_)
              refine lv_aload_n hx hb dX6_nearestKey_68 rfl (lv_at hl 4 rfl) ?_
              refine x_get hx hb hts hown hK hH 0 (ltw (by decide)) f0 hinX6 rfl 6 (by decide) (List.mem_of_getElem? (i := 3) rfl) rfl dX6_nearestKey_69 ?_
              refine x_get hx hb hts hown hK hH 75 (ltw (by decide)) f75 hinX5 rfl 0 (by decide) (List.mem_of_getElem? (i := 6) rfl) rfl dX6_nearestKey_72 ?_
              refine lv_iload hx hb dX6_nearestKey_75 (lv_at hl 1 rfl) ?_
              refine x_iald hx hb hK hH 76 (ltw (by decide)) f76 (by omega) (by omega) (by omega) dX6_nearestKey_77 ?_
              have hv23 := hdr (kp i)
              refine lv_istore_n (lv' := [(3, .int (iZ ((dz (Gw op lk kp w) (wc w)) (kp i)))), (2, .int (iZ i)), (5, .int (iZ (kp i))), (4, .int (iZ i)), (0, .ref (xad E 0)), (1, .int (iZ w))]) hx hb dX6_nearestKey_78 rfl hl (by decide) rfl (fun ls hl => ?_)
              refine x_iinc (lv' := [(4, .int (iZ (i + 1))), (3, .int (iZ ((dz (Gw op lk kp w) (wc w)) (kp i)))), (2, .int (iZ i)), (5, .int (iZ (kp i))), (0, .ref (xad E 0)), (1, .int (iZ w))]) hx hb dX6_nearestKey_79 hl (k := 3) rfl (by decide) rfl (fun ls hl => ?_)
              refine lv_goto (tgt := 24) hx hb dX6_nearestKey_82 (by decide) ?_
              exact ih24 i ((dz (Gw op lk kp w) (wc w)) (kp i)) (i + 1) _ _ _ (by omega) (by omega) (by omega) (by first | exact nkK_t (by omega) c48 (by rw [hnk]; omega) | (rw [nkK_f1 (by omega) c48]; exact hnk) | (rw [nkK_f2 (by omega) (by rw [hnk]; omega)]; exact hnk))  hH (lv_sub hl [0, 1, 2, 4, 5] rfl)
    exact K24 7 (-1) 25 0 _ _ _ (by first | omega | decide) (by omega) (by omega) (by rfl)  hH (lv_sub hl [0, 1, 2, 3, 4] rfl)

def rm_X6_countHelpful : Room := { frames := 3, cells := 0, slots := 0, locals := 74 }
set_option maxRecDepth 100000 in
set_option maxHeartbeats 4000000 in
theorem c_X6_countHelpful (l : Launch) (E : xE) (ST : xST) (hSF : SF ST) (σ : xW) (w : Int) (cell : Int) (first : Int) (strd : Int) (hv : Bool) (se : Int) (sf : Int) (ll : Int) (op : Int → Int) (lk : Int → Int) (kp : Int → Int) (wc : Int → Int) (pn : Int) (nw : Int) (sh : Int) (wk : Int) (top : Int → Int) (tlk : Int → Int) (tkp : Int → Int) (twc : Int → Int) (tpn : Int) (tnw : Int) (tsh : Int) (twk : Int) (le : Int → Int) (rl : Int → Int) (fs : Int → Int) (qu : Int → Int) (gr : Int → Int) (hr0 : mn E σ hv se sf ll) (hr1 : bd E σ 1 op lk kp wc pn nw sh wk) (hr2 : bd E σ 13 top tlk tkp twc tpn tnw tsh twk) (hr3 : sr E σ le rl fs qu gr) (hB : BI op lk kp wc pn nw) (hw : 0 ≤ w ∧ w < nw) (hc : 0 ≤ cell ∧ cell ≤ 24) (hL : linP first strd) : CI l E ST yX6_countHelpful wsX6_countHelpful rm_X6_countHelpful [.ref (xad E 0), .int (iZ w), .int (iZ cell), .int (iZ first), .int (iZ strd)] σ (fun (z : Int) (u : xW) => z = hpF op lk kp wc pn nw w cell first strd ∧ (∃ (top1 tlk1 tkp1 twc1 : Int → Int) (tpn1 tnw1 tsh1 twk1 : Int) (le1 rl1 fs1 qu1 gr1 : Int → Int), bd E u 13 top1 tlk1 tkp1 twc1 tpn1 tnw1 tsh1 twk1 ∧ sr E u le1 rl1 fs1 qu1 gr1) ∧ ∀ j : Nat, (j < 13 ∨ 13 + 6 ≤ j) → (j < 75 ∨ 75 + 6 ≤ j) → u j = σ j) := by
  have f0 : σ 0 = oB 4 [.ref (xad E 1), .ref (xad E 7), .ref (xad E 13), .ref (xad E 19), .int (iZ (b2 hv)), .ref (xad E 73), .ref (xad E 75), .ref (xad E 81), .int (iZ se), .int (iZ sf), .ref (xad E 84), .int (iZ ll)] := hr0
  obtain ⟨f1, f2, f3, f4, f5, ro1, f6⟩ := hr1
  obtain ⟨f13, f14, f15, f16, f17, ro2, f18⟩ := hr2
  obtain ⟨f75, f76, f77, f78, f79, f80⟩ := hr3
  refine CI_of (by decide) rfl (Nat.le_of_ble_eq_true rfl) ?_
  intro p e s m args below meth c Q ls G hH hl hQ
  obtain ⟨hx, hb, hml, hown, hts, hK, hST, hlocks, hr, hno⟩ := G
  have hOK := hSF.1
  have hown : s.vm.findClass RX6 = some m.cls := hown
  have hl : lv_has ls 7 [(0, .ref (xad E 0)), (1, .int (iZ w)), (2, .int (iZ cell)), (3, .int (iZ first)), (4, .int (iZ strd))] := hl
  have hinX5 : ∀ w ∈ u_ws RX5 TX5 5, w ∈ wsX6_countHelpful := fun w h => (List.mem_cons_of_mem _ (List.mem_append_left _ (List.mem_append_right _ h)))
  have hinX6 : ∀ w ∈ u_ws RX6 TX6 12, w ∈ wsX6_countHelpful := fun w h => (List.mem_cons_of_mem _ (List.mem_append_left _ (List.mem_append_left _ (List.mem_append_right _ h))))
  obtain ⟨hop, hlk, hkp, hwc, hpn, hnw⟩ := id hB
  refine lv_aload_n hx hb dX6_countHelpful_0 rfl (lv_at hl 0 rfl) ?_
  refine x_get hx hb hts hown hK hH 0 (ltw (by decide)) f0 hinX6 rfl 0 (by decide) (List.mem_of_getElem? (i := 1) rfl) rfl dX6_countHelpful_1 ?_
  refine lv_iload_n hx hb dX6_countHelpful_4 rfl (lv_at hl 3 rfl) ?_
  refine lv_iload hx hb dX6_countHelpful_5 (lv_at hl 4 rfl) ?_
  refine x_cVID (As := [.int (iZ first), .int (iZ strd)]) (rest := []) hx hb hml hts hown hK hST hOK hH 1 (c_X1_isLineFree l E ST hSF σ 1 first strd op lk kp wc pn nw sh wk ⟨f1, f2, f3, f4, f5, _, f6⟩ (by omega) (by omega)) (cwV 2 hts gX6_countHelpful_X1_isLineFree rfl rfl rfl (by decide +kernel) ⟨Nat.le_of_ble_eq_true rfl, Nat.le_of_ble_eq_true rfl⟩) (ltw (by decide)) f1 rfl rfl hl.1 rfl (Nat.le_of_ble_eq_true rfl) dX6_countHelpful_7 ⟨Nat.le_of_ble_eq_true rfl, Nat.le_of_ble_eq_true rfl⟩ (fun z u h => h) (fun H locs hH => ?_)
  refine x_ifb_ne (tgt := 15) hx hb dX6_countHelpful_10 (by decide) (fun c10 => ?_) (fun c10 => ?_)
  · refine x_iconst hx hb dX6_countHelpful_15 ?_
    refine lv_istore (lv' := [(5, .int (iZ 0)), (0, .ref (xad E 0)), (1, .int (iZ w)), (2, .int (iZ cell)), (3, .int (iZ first)), (4, .int (iZ strd))]) hx hb dX6_countHelpful_16 hl (by decide) rfl (fun ls hl => ?_)
    refine x_iconst hx hb dX6_countHelpful_18 ?_
    refine lv_istore (lv' := [(6, .int (iZ (-1))), (5, .int (iZ 0)), (0, .ref (xad E 0)), (1, .int (iZ w)), (2, .int (iZ cell)), (3, .int (iZ first)), (4, .int (iZ strd))]) hx hb dX6_countHelpful_19 hl (by decide) rfl (fun ls hl => ?_)
    refine lv_iload hx hb dX6_countHelpful_21 (lv_at hl 0 rfl) ?_
    refine x_iconst hx hb dX6_countHelpful_23 ?_
    refine x_icmp_gt (tgt := 85) hx hb dX6_countHelpful_24 (by decide) (by decide) (by decide) (fun c24 => ?_) (fun c24 => ?_)
    · exact absurd c24 (by decide)
    · refine lv_aload_n hx hb dX6_countHelpful_27 rfl (lv_at hl 2 rfl) ?_
      refine x_get hx hb hts hown hK hH 0 (ltw (by decide)) f0 hinX6 rfl 2 (by decide) (List.mem_of_getElem? (i := 2) rfl) rfl dX6_countHelpful_28 ?_
      refine lv_aload_n hx hb dX6_countHelpful_31 rfl (lv_at hl 2 rfl) ?_
      refine x_get hx hb hts hown hK hH 0 (ltw (by decide)) f0 hinX6 rfl 0 (by decide) (List.mem_of_getElem? (i := 1) rfl) rfl dX6_countHelpful_32 ?_
      refine x_cVV (As := [.ref (xad E 1)]) (rest := []) hx hb hml hts hown hK hST hOK hH 13 (c_X1_copyFrom l E ST hSF σ 13 1 top tlk tkp twc tpn tnw tsh twk op lk kp wc pn nw sh wk ⟨f13, f14, f15, f16, f17, _, f18⟩ ⟨f1, f2, f3, f4, f5, _, f6⟩ (by omega) (by omega) (by omega)) (cwV 1 hts gX6_countHelpful_X1_copyFrom rfl rfl rfl (by decide +kernel) ⟨Nat.le_of_ble_eq_true rfl, Nat.le_of_ble_eq_true rfl⟩) (ltw (by decide)) f13 rfl rfl hl.1 rfl (Nat.le_of_ble_eq_true rfl) dX6_countHelpful_35 ⟨Nat.le_of_ble_eq_true rfl, Nat.le_of_ble_eq_true rfl⟩ (fun σ5 H locs hp6 hH => ?_)
      obtain ⟨⟨⟨f13, f14, f15, f16, f17, ro8, f18⟩, ⟨f1, f2, f3, f4, f5, ro9, f6⟩⟩, fr7⟩ := hp6
      have f0 : σ5 0 = oB 4 [.ref (xad E 1), .ref (xad E 7), .ref (xad E 13), .ref (xad E 19), .int (iZ (b2 hv)), .ref (xad E 73), .ref (xad E 75), .ref (xad E 81), .int (iZ se), .int (iZ sf), .ref (xad E 84), .int (iZ ll)] := (fr7 0 (by omega)).trans f0
      have f75 : σ5 75 = oB 3 [.ref (xad E 76), .ref (xad E 77), .ref (xad E 78), .ref (xad E 79), .ref (xad E 80)] := (fr7 75 (by omega)).trans f75
      have f76 : σ5 76 = aI E 25 le := (fr7 76 (by omega)).trans f76
      have f77 : σ5 77 = aI E 25 rl := (fr7 77 (by omega)).trans f77
      have f78 : σ5 78 = aI E 25 fs := (fr7 78 (by omega)).trans f78
      have f79 : σ5 79 = aI E 25 qu := (fr7 79 (by omega)).trans f79
      have f80 : σ5 80 = aI E 25 gr := (fr7 80 (by omega)).trans f80
      refine lv_aload_n hx hb dX6_countHelpful_38 rfl (lv_at hl 2 rfl) ?_
      refine x_get hx hb hts hown hK hH 0 (ltw (by decide)) f0 hinX6 rfl 2 (by decide) (List.mem_of_getElem? (i := 2) rfl) rfl dX6_countHelpful_39 ?_
      refine lv_iload_n hx hb dX6_countHelpful_42 rfl (lv_at hl 5 rfl) ?_
      refine lv_iload hx hb dX6_countHelpful_43 (lv_at hl 6 rfl) ?_
      refine lv_iload hx hb dX6_countHelpful_45 (lv_at hl 0 rfl) ?_
      refine x_cVV (As := [.int (iZ first), .int (iZ strd), .int (iZ (-1))]) (rest := []) hx hb hml hts hown hK hST hOK hH 13 (c_X1_moveLine l E ST hSF σ5 13 first strd (-1) op lk kp wc pn nw sh wk ⟨f13, f14, f15, f16, f17, _, f18⟩ (by omega) (by omega) (by omega) (by omega)) (cwV 3 hts gX6_countHelpful_X1_moveLine rfl rfl rfl (by decide +kernel) ⟨Nat.le_of_ble_eq_true rfl, Nat.le_of_ble_eq_true rfl⟩) (ltw (by decide)) f13 rfl rfl hl.1 rfl (Nat.le_of_ble_eq_true rfl) dX6_countHelpful_47 ⟨Nat.le_of_ble_eq_true rfl, Nat.le_of_ble_eq_true rfl⟩ (fun σ12 H locs hp13 hH => ?_)
      obtain ⟨⟨f13, f14, f15, f16, f17, ro15, f18⟩, fr14⟩ := hp13
      have f0 : σ12 0 = oB 4 [.ref (xad E 1), .ref (xad E 7), .ref (xad E 13), .ref (xad E 19), .int (iZ (b2 hv)), .ref (xad E 73), .ref (xad E 75), .ref (xad E 81), .int (iZ se), .int (iZ sf), .ref (xad E 84), .int (iZ ll)] := (fr14 0 (by omega)).trans f0
      have f1 : σ12 1 = oB 0 [.ref (xad E 2), .ref (xad E 3), .ref (xad E 4), .ref (xad E 5), .ref (xad E 6), .int (iZ pn), .int (iZ nw), .int (iZ sh), .long (lZ wk)] := (fr14 1 (by omega)).trans f1
      have f2 : σ12 2 = aI E 25 op := (fr14 2 (by omega)).trans f2
      have f3 : σ12 3 = aI E 25 lk := (fr14 3 (by omega)).trans f3
      have f4 : σ12 4 = aI E 6 kp := (fr14 4 (by omega)).trans f4
      have f5 : σ12 5 = aI E 3 wc := (fr14 5 (by omega)).trans f5
      have f6 : σ12 6 = aI E 5 ro9 := (fr14 6 (by omega)).trans f6
      have f75 : σ12 75 = oB 3 [.ref (xad E 76), .ref (xad E 77), .ref (xad E 78), .ref (xad E 79), .ref (xad E 80)] := (fr14 75 (by omega)).trans f75
      have f76 : σ12 76 = aI E 25 le := (fr14 76 (by omega)).trans f76
      have f77 : σ12 77 = aI E 25 rl := (fr14 77 (by omega)).trans f77
      have f78 : σ12 78 = aI E 25 fs := (fr14 78 (by omega)).trans f78
      have f79 : σ12 79 = aI E 25 qu := (fr14 79 (by omega)).trans f79
      have f80 : σ12 80 = aI E 25 gr := (fr14 80 (by omega)).trans f80
      refine lv_aload_n hx hb dX6_countHelpful_50 rfl (lv_at hl 2 rfl) ?_
      refine x_get hx hb hts hown hK hH 0 (ltw (by decide)) f0 hinX6 rfl 6 (by decide) (List.mem_of_getElem? (i := 3) rfl) rfl dX6_countHelpful_51 ?_
      refine lv_aload_n hx hb dX6_countHelpful_54 rfl (lv_at hl 2 rfl) ?_
      refine x_get hx hb hts hown hK hH 0 (ltw (by decide)) f0 hinX6 rfl 2 (by decide) (List.mem_of_getElem? (i := 2) rfl) rfl dX6_countHelpful_55 ?_
      refine lv_iload_n hx hb dX6_countHelpful_58 rfl (lv_at hl 3 rfl) ?_
      refine x_cVV (As := [.ref (xad E 13), .int (iZ w)]) (rest := []) hx hb hml hts hown hK hST hOK hH 75 (c_X5_findPaths l E ST hSF σ12 13 w (rotF op first strd (-1)) (rotF lk first strd (-1)) (mlK kp first strd (-1) 6) (mlK wc first strd (-1) nw) pn nw sh wk le rl fs qu gr ⟨f13, f14, f15, f16, f17, _, f18⟩ ⟨f75, f76, f77, f78, f79, f80⟩ (BI_ml hL hB) (by omega) (by omega)) (cwV 2 hts gX6_countHelpful_X5_findPaths rfl rfl rfl (by decide +kernel) ⟨Nat.le_of_ble_eq_true rfl, Nat.le_of_ble_eq_true rfl⟩) (ltw (by decide)) f75 rfl rfl hl.1 rfl (Nat.le_of_ble_eq_true rfl) dX6_countHelpful_59 ⟨Nat.le_of_ble_eq_true rfl, Nat.le_of_ble_eq_true rfl⟩ (fun σ18 H locs hp19 hH => ?_)
      obtain ⟨⟨fs1_21, qu1_22, ⟨f75, f76, f77, f78, f79, f80⟩, hf23⟩, fr20⟩ := hp19
      have f0 : σ18 0 = oB 4 [.ref (xad E 1), .ref (xad E 7), .ref (xad E 13), .ref (xad E 19), .int (iZ (b2 hv)), .ref (xad E 73), .ref (xad E 75), .ref (xad E 81), .int (iZ se), .int (iZ sf), .ref (xad E 84), .int (iZ ll)] := (fr20 0 (by omega) (by omega) (by omega)).trans f0
      have f1 : σ18 1 = oB 0 [.ref (xad E 2), .ref (xad E 3), .ref (xad E 4), .ref (xad E 5), .ref (xad E 6), .int (iZ pn), .int (iZ nw), .int (iZ sh), .long (lZ wk)] := (fr20 1 (by omega) (by omega) (by omega)).trans f1
      have f2 : σ18 2 = aI E 25 op := (fr20 2 (by omega) (by omega) (by omega)).trans f2
      have f3 : σ18 3 = aI E 25 lk := (fr20 3 (by omega) (by omega) (by omega)).trans f3
      have f4 : σ18 4 = aI E 6 kp := (fr20 4 (by omega) (by omega) (by omega)).trans f4
      have f5 : σ18 5 = aI E 3 wc := (fr20 5 (by omega) (by omega) (by omega)).trans f5
      have f6 : σ18 6 = aI E 5 ro9 := (fr20 6 (by omega) (by omega) (by omega)).trans f6
      have f13 : σ18 13 = oB 0 [.ref (xad E 14), .ref (xad E 15), .ref (xad E 16), .ref (xad E 17), .ref (xad E 18), .int (iZ pn), .int (iZ nw), .int (iZ sh), .long (lZ wk)] := (fr20 13 (by omega) (by omega) (by omega)).trans f13
      have f14 : σ18 14 = aI E 25 (rotF op first strd (-1)) := (fr20 14 (by omega) (by omega) (by omega)).trans f14
      have f15 : σ18 15 = aI E 25 (rotF lk first strd (-1)) := (fr20 15 (by omega) (by omega) (by omega)).trans f15
      have f16 : σ18 16 = aI E 6 (mlK kp first strd (-1) 6) := (fr20 16 (by omega) (by omega) (by omega)).trans f16
      have f17 : σ18 17 = aI E 3 (mlK wc first strd (-1) nw) := (fr20 17 (by omega) (by omega) (by omega)).trans f17
      have f18 : σ18 18 = aI E 5 ro15 := (fr20 18 (by omega) (by omega) (by omega)).trans f18
      refine lv_aload_n hx hb dX6_countHelpful_62 rfl (lv_at hl 2 rfl) ?_
      have hdq := fun (a9 : Int) => dz_rg (G := Gw (rotF op first strd a9) (rotF lk first strd a9) (mlK kp first strd a9 6) w) (st := mlK wc first strd a9 nw w) Gw_ok (mlK_in hL hwc w) cell
      have hdq1 := hdq (-1)
      have hdq2 := hdq 1
      clear hdq
      refine x_get hx hb hts hown hK hH 0 (ltw (by decide)) f0 hinX6 rfl 6 (by decide) (List.mem_of_getElem? (i := 3) rfl) rfl dX6_countHelpful_63 ?_
      refine x_get hx hb hts hown hK hH 75 (ltw (by decide)) f75 hinX5 rfl 0 (by decide) (List.mem_of_getElem? (i := 4) rfl) rfl dX6_countHelpful_66 ?_
      refine lv_iload_n hx hb dX6_countHelpful_69 rfl (lv_at hl 4 rfl) ?_
      refine x_iald hx hb hK hH 76 (ltw (by decide)) f76 (by omega) (by omega) (by omega) dX6_countHelpful_70 ?_
      refine x_bipush hx hb dX6_countHelpful_71 (by decide) ?_
      refine x_icmp_ge (tgt := 79) hx hb dX6_countHelpful_73 (by decide) (by omega) (by decide) (fun c73 => ?_) (fun c73 => ?_)
      · refine x_iinc (lv' := [(6, .int (iZ 1)), (5, .int (iZ 0)), (0, .ref (xad E 0)), (1, .int (iZ w)), (2, .int (iZ cell)), (3, .int (iZ first)), (4, .int (iZ strd))]) hx hb dX6_countHelpful_79 hl (k := 0) rfl (by decide) rfl (fun ls hl => ?_)
        refine lv_goto (tgt := 21) hx hb dX6_countHelpful_82 (by decide) ?_
        refine lv_iload hx hb dX6_countHelpful_21 (lv_at hl 0 rfl) ?_
        refine x_iconst hx hb dX6_countHelpful_23 ?_
        refine x_icmp_gt (tgt := 85) hx hb dX6_countHelpful_24 (by decide) (by decide) (by decide) (fun c24 => ?_) (fun c24 => ?_)
        · exact absurd c24 (by decide)
        · refine lv_aload_n hx hb dX6_countHelpful_27 rfl (lv_at hl 2 rfl) ?_
          refine x_get hx hb hts hown hK hH 0 (ltw (by decide)) f0 hinX6 rfl 2 (by decide) (List.mem_of_getElem? (i := 2) rfl) rfl dX6_countHelpful_28 ?_
          refine lv_aload_n hx hb dX6_countHelpful_31 rfl (lv_at hl 2 rfl) ?_
          refine x_get hx hb hts hown hK hH 0 (ltw (by decide)) f0 hinX6 rfl 0 (by decide) (List.mem_of_getElem? (i := 1) rfl) rfl dX6_countHelpful_32 ?_
          refine x_cVV (As := [.ref (xad E 1)]) (rest := []) hx hb hml hts hown hK hST hOK hH 13 (c_X1_copyFrom l E ST hSF σ18 13 1 (rotF op first strd (-1)) (rotF lk first strd (-1)) (mlK kp first strd (-1) 6) (mlK wc first strd (-1) nw) pn nw sh wk op lk kp wc pn nw sh wk ⟨f13, f14, f15, f16, f17, _, f18⟩ ⟨f1, f2, f3, f4, f5, _, f6⟩ (by omega) (by omega) (by omega)) (cwV 1 hts gX6_countHelpful_X1_copyFrom rfl rfl rfl (by decide +kernel) ⟨Nat.le_of_ble_eq_true rfl, Nat.le_of_ble_eq_true rfl⟩) (ltw (by decide)) f13 rfl rfl hl.1 rfl (Nat.le_of_ble_eq_true rfl) dX6_countHelpful_35 ⟨Nat.le_of_ble_eq_true rfl, Nat.le_of_ble_eq_true rfl⟩ (fun σ26 H locs hp27 hH => ?_)
          obtain ⟨⟨⟨f13, f14, f15, f16, f17, ro29, f18⟩, ⟨f1, f2, f3, f4, f5, ro30, f6⟩⟩, fr28⟩ := hp27
          have f0 : σ26 0 = oB 4 [.ref (xad E 1), .ref (xad E 7), .ref (xad E 13), .ref (xad E 19), .int (iZ (b2 hv)), .ref (xad E 73), .ref (xad E 75), .ref (xad E 81), .int (iZ se), .int (iZ sf), .ref (xad E 84), .int (iZ ll)] := (fr28 0 (by omega)).trans f0
          have f75 : σ26 75 = oB 3 [.ref (xad E 76), .ref (xad E 77), .ref (xad E 78), .ref (xad E 79), .ref (xad E 80)] := (fr28 75 (by omega)).trans f75
          have f76 : σ26 76 = aI E 25 (dz (Gw (rotF op first strd (-1)) (rotF lk first strd (-1)) (mlK kp first strd (-1) 6) w) ((mlK wc first strd (-1) nw) w)) := (fr28 76 (by omega)).trans f76
          have f77 : σ26 77 = aI E 25 rl := (fr28 77 (by omega)).trans f77
          have f78 : σ26 78 = aI E 25 fs1_21 := (fr28 78 (by omega)).trans f78
          have f79 : σ26 79 = aI E 25 qu1_22 := (fr28 79 (by omega)).trans f79
          have f80 : σ26 80 = aI E 25 gr := (fr28 80 (by omega)).trans f80
          refine lv_aload_n hx hb dX6_countHelpful_38 rfl (lv_at hl 2 rfl) ?_
          refine x_get hx hb hts hown hK hH 0 (ltw (by decide)) f0 hinX6 rfl 2 (by decide) (List.mem_of_getElem? (i := 2) rfl) rfl dX6_countHelpful_39 ?_
          refine lv_iload_n hx hb dX6_countHelpful_42 rfl (lv_at hl 5 rfl) ?_
          refine lv_iload hx hb dX6_countHelpful_43 (lv_at hl 6 rfl) ?_
          refine lv_iload hx hb dX6_countHelpful_45 (lv_at hl 0 rfl) ?_
          refine x_cVV (As := [.int (iZ first), .int (iZ strd), .int (iZ 1)]) (rest := []) hx hb hml hts hown hK hST hOK hH 13 (c_X1_moveLine l E ST hSF σ26 13 first strd 1 op lk kp wc pn nw sh wk ⟨f13, f14, f15, f16, f17, _, f18⟩ (by omega) (by omega) (by omega) (by omega)) (cwV 3 hts gX6_countHelpful_X1_moveLine rfl rfl rfl (by decide +kernel) ⟨Nat.le_of_ble_eq_true rfl, Nat.le_of_ble_eq_true rfl⟩) (ltw (by decide)) f13 rfl rfl hl.1 rfl (Nat.le_of_ble_eq_true rfl) dX6_countHelpful_47 ⟨Nat.le_of_ble_eq_true rfl, Nat.le_of_ble_eq_true rfl⟩ (fun σ33 H locs hp34 hH => ?_)
          obtain ⟨⟨f13, f14, f15, f16, f17, ro36, f18⟩, fr35⟩ := hp34
          have f0 : σ33 0 = oB 4 [.ref (xad E 1), .ref (xad E 7), .ref (xad E 13), .ref (xad E 19), .int (iZ (b2 hv)), .ref (xad E 73), .ref (xad E 75), .ref (xad E 81), .int (iZ se), .int (iZ sf), .ref (xad E 84), .int (iZ ll)] := (fr35 0 (by omega)).trans f0
          have f1 : σ33 1 = oB 0 [.ref (xad E 2), .ref (xad E 3), .ref (xad E 4), .ref (xad E 5), .ref (xad E 6), .int (iZ pn), .int (iZ nw), .int (iZ sh), .long (lZ wk)] := (fr35 1 (by omega)).trans f1
          have f2 : σ33 2 = aI E 25 op := (fr35 2 (by omega)).trans f2
          have f3 : σ33 3 = aI E 25 lk := (fr35 3 (by omega)).trans f3
          have f4 : σ33 4 = aI E 6 kp := (fr35 4 (by omega)).trans f4
          have f5 : σ33 5 = aI E 3 wc := (fr35 5 (by omega)).trans f5
          have f6 : σ33 6 = aI E 5 ro30 := (fr35 6 (by omega)).trans f6
          have f75 : σ33 75 = oB 3 [.ref (xad E 76), .ref (xad E 77), .ref (xad E 78), .ref (xad E 79), .ref (xad E 80)] := (fr35 75 (by omega)).trans f75
          have f76 : σ33 76 = aI E 25 (dz (Gw (rotF op first strd (-1)) (rotF lk first strd (-1)) (mlK kp first strd (-1) 6) w) ((mlK wc first strd (-1) nw) w)) := (fr35 76 (by omega)).trans f76
          have f77 : σ33 77 = aI E 25 rl := (fr35 77 (by omega)).trans f77
          have f78 : σ33 78 = aI E 25 fs1_21 := (fr35 78 (by omega)).trans f78
          have f79 : σ33 79 = aI E 25 qu1_22 := (fr35 79 (by omega)).trans f79
          have f80 : σ33 80 = aI E 25 gr := (fr35 80 (by omega)).trans f80
          refine lv_aload_n hx hb dX6_countHelpful_50 rfl (lv_at hl 2 rfl) ?_
          refine x_get hx hb hts hown hK hH 0 (ltw (by decide)) f0 hinX6 rfl 6 (by decide) (List.mem_of_getElem? (i := 3) rfl) rfl dX6_countHelpful_51 ?_
          refine lv_aload_n hx hb dX6_countHelpful_54 rfl (lv_at hl 2 rfl) ?_
          refine x_get hx hb hts hown hK hH 0 (ltw (by decide)) f0 hinX6 rfl 2 (by decide) (List.mem_of_getElem? (i := 2) rfl) rfl dX6_countHelpful_55 ?_
          refine lv_iload_n hx hb dX6_countHelpful_58 rfl (lv_at hl 3 rfl) ?_
          refine x_cVV (As := [.ref (xad E 13), .int (iZ w)]) (rest := []) hx hb hml hts hown hK hST hOK hH 75 (c_X5_findPaths l E ST hSF σ33 13 w (rotF op first strd 1) (rotF lk first strd 1) (mlK kp first strd 1 6) (mlK wc first strd 1 nw) pn nw sh wk (dz (Gw (rotF op first strd (-1)) (rotF lk first strd (-1)) (mlK kp first strd (-1) 6) w) ((mlK wc first strd (-1) nw) w)) rl fs1_21 qu1_22 gr ⟨f13, f14, f15, f16, f17, _, f18⟩ ⟨f75, f76, f77, f78, f79, f80⟩ (BI_ml hL hB) (by omega) (by omega)) (cwV 2 hts gX6_countHelpful_X5_findPaths rfl rfl rfl (by decide +kernel) ⟨Nat.le_of_ble_eq_true rfl, Nat.le_of_ble_eq_true rfl⟩) (ltw (by decide)) f75 rfl rfl hl.1 rfl (Nat.le_of_ble_eq_true rfl) dX6_countHelpful_59 ⟨Nat.le_of_ble_eq_true rfl, Nat.le_of_ble_eq_true rfl⟩ (fun σ39 H locs hp40 hH => ?_)
          obtain ⟨⟨fs1_42, qu1_43, ⟨f75, f76, f77, f78, f79, f80⟩, hf44⟩, fr41⟩ := hp40
          have f0 : σ39 0 = oB 4 [.ref (xad E 1), .ref (xad E 7), .ref (xad E 13), .ref (xad E 19), .int (iZ (b2 hv)), .ref (xad E 73), .ref (xad E 75), .ref (xad E 81), .int (iZ se), .int (iZ sf), .ref (xad E 84), .int (iZ ll)] := (fr41 0 (by omega) (by omega) (by omega)).trans f0
          have f1 : σ39 1 = oB 0 [.ref (xad E 2), .ref (xad E 3), .ref (xad E 4), .ref (xad E 5), .ref (xad E 6), .int (iZ pn), .int (iZ nw), .int (iZ sh), .long (lZ wk)] := (fr41 1 (by omega) (by omega) (by omega)).trans f1
          have f2 : σ39 2 = aI E 25 op := (fr41 2 (by omega) (by omega) (by omega)).trans f2
          have f3 : σ39 3 = aI E 25 lk := (fr41 3 (by omega) (by omega) (by omega)).trans f3
          have f4 : σ39 4 = aI E 6 kp := (fr41 4 (by omega) (by omega) (by omega)).trans f4
          have f5 : σ39 5 = aI E 3 wc := (fr41 5 (by omega) (by omega) (by omega)).trans f5
          have f6 : σ39 6 = aI E 5 ro30 := (fr41 6 (by omega) (by omega) (by omega)).trans f6
          have f13 : σ39 13 = oB 0 [.ref (xad E 14), .ref (xad E 15), .ref (xad E 16), .ref (xad E 17), .ref (xad E 18), .int (iZ pn), .int (iZ nw), .int (iZ sh), .long (lZ wk)] := (fr41 13 (by omega) (by omega) (by omega)).trans f13
          have f14 : σ39 14 = aI E 25 (rotF op first strd 1) := (fr41 14 (by omega) (by omega) (by omega)).trans f14
          have f15 : σ39 15 = aI E 25 (rotF lk first strd 1) := (fr41 15 (by omega) (by omega) (by omega)).trans f15
          have f16 : σ39 16 = aI E 6 (mlK kp first strd 1 6) := (fr41 16 (by omega) (by omega) (by omega)).trans f16
          have f17 : σ39 17 = aI E 3 (mlK wc first strd 1 nw) := (fr41 17 (by omega) (by omega) (by omega)).trans f17
          have f18 : σ39 18 = aI E 5 ro36 := (fr41 18 (by omega) (by omega) (by omega)).trans f18
          refine lv_aload_n hx hb dX6_countHelpful_62 rfl (lv_at hl 2 rfl) ?_
          have hdq := fun (a9 : Int) => dz_rg (G := Gw (rotF op first strd a9) (rotF lk first strd a9) (mlK kp first strd a9 6) w) (st := mlK wc first strd a9 nw w) Gw_ok (mlK_in hL hwc w) cell
          have hdq1 := hdq (-1)
          have hdq2 := hdq 1
          clear hdq
          refine x_get hx hb hts hown hK hH 0 (ltw (by decide)) f0 hinX6 rfl 6 (by decide) (List.mem_of_getElem? (i := 3) rfl) rfl dX6_countHelpful_63 ?_
          refine x_get hx hb hts hown hK hH 75 (ltw (by decide)) f75 hinX5 rfl 0 (by decide) (List.mem_of_getElem? (i := 4) rfl) rfl dX6_countHelpful_66 ?_
          refine lv_iload_n hx hb dX6_countHelpful_69 rfl (lv_at hl 4 rfl) ?_
          refine x_iald hx hb hK hH 76 (ltw (by decide)) f76 (by omega) (by omega) (by omega) dX6_countHelpful_70 ?_
          refine x_bipush hx hb dX6_countHelpful_71 (by decide) ?_
          refine x_icmp_ge (tgt := 79) hx hb dX6_countHelpful_73 (by decide) (by omega) (by decide) (fun c73 => ?_) (fun c73 => ?_)
          · refine x_iinc (lv' := [(6, .int (iZ 3)), (5, .int (iZ 0)), (0, .ref (xad E 0)), (1, .int (iZ w)), (2, .int (iZ cell)), (3, .int (iZ first)), (4, .int (iZ strd))]) hx hb dX6_countHelpful_79 hl (k := 0) rfl (by decide) rfl (fun ls hl => ?_)
            refine lv_goto (tgt := 21) hx hb dX6_countHelpful_82 (by decide) ?_
            refine lv_iload hx hb dX6_countHelpful_21 (lv_at hl 0 rfl) ?_
            refine x_iconst hx hb dX6_countHelpful_23 ?_
            refine x_icmp_gt (tgt := 85) hx hb dX6_countHelpful_24 (by decide) (by decide) (by decide) (fun c24 => ?_) (fun c24 => ?_)
            · refine lv_iload hx hb dX6_countHelpful_85 (lv_at hl 1 rfl) ?_
              subst hQ
              exact x_iret hx hb hr hlocks hH (Nat.le_of_ble_eq_true rfl) (Nat.le_of_ble_eq_true rfl) ⟨(show 0 = (hpF op lk kp wc pn nw w cell first strd) from (by unfold hpF hsD; rw [if_pos (by assumption)]; (repeat' split) <;> omega)), ⟨(rotF op first strd 1), (rotF lk first strd 1), (mlK kp first strd 1 6), (mlK wc first strd 1 nw), pn, nw, sh, wk, (dz (Gw (rotF op first strd 1) (rotF lk first strd 1) (mlK kp first strd 1 6) w) ((mlK wc first strd 1 nw) w)), rl, fs1_42, qu1_43, gr, ⟨f13, f14, f15, f16, f17, _, f18⟩, ⟨f75, f76, f77, f78, f79, f80⟩⟩, fun j hj0 hj1 => ((fr41 j (by omega) (by omega) (by omega)).trans ((fr35 j (by omega)).trans ((fr28 j (by omega)).trans ((fr20 j (by omega) (by omega) (by omega)).trans ((fr14 j (by omega)).trans (fr7 j (by omega)))))))⟩ dX6_countHelpful_87
            · exact absurd c24 (by decide)
          · refine x_iinc (lv' := [(5, .int (iZ 1)), (6, .int (iZ 1)), (0, .ref (xad E 0)), (1, .int (iZ w)), (2, .int (iZ cell)), (3, .int (iZ first)), (4, .int (iZ strd))]) hx hb dX6_countHelpful_76 hl (k := 1) rfl (by decide) rfl (fun ls hl => ?_)
            refine x_iinc (lv' := [(6, .int (iZ 3)), (5, .int (iZ 1)), (0, .ref (xad E 0)), (1, .int (iZ w)), (2, .int (iZ cell)), (3, .int (iZ first)), (4, .int (iZ strd))]) hx hb dX6_countHelpful_79 hl (k := 1) rfl (by decide) rfl (fun ls hl => ?_)
            refine lv_goto (tgt := 21) hx hb dX6_countHelpful_82 (by decide) ?_
            refine lv_iload hx hb dX6_countHelpful_21 (lv_at hl 0 rfl) ?_
            refine x_iconst hx hb dX6_countHelpful_23 ?_
            refine x_icmp_gt (tgt := 85) hx hb dX6_countHelpful_24 (by decide) (by decide) (by decide) (fun c24 => ?_) (fun c24 => ?_)
            · refine lv_iload hx hb dX6_countHelpful_85 (lv_at hl 1 rfl) ?_
              subst hQ
              exact x_iret hx hb hr hlocks hH (Nat.le_of_ble_eq_true rfl) (Nat.le_of_ble_eq_true rfl) ⟨(show 1 = (hpF op lk kp wc pn nw w cell first strd) from (by unfold hpF hsD; rw [if_pos (by assumption)]; (repeat' split) <;> omega)), ⟨(rotF op first strd 1), (rotF lk first strd 1), (mlK kp first strd 1 6), (mlK wc first strd 1 nw), pn, nw, sh, wk, (dz (Gw (rotF op first strd 1) (rotF lk first strd 1) (mlK kp first strd 1 6) w) ((mlK wc first strd 1 nw) w)), rl, fs1_42, qu1_43, gr, ⟨f13, f14, f15, f16, f17, _, f18⟩, ⟨f75, f76, f77, f78, f79, f80⟩⟩, fun j hj0 hj1 => ((fr41 j (by omega) (by omega) (by omega)).trans ((fr35 j (by omega)).trans ((fr28 j (by omega)).trans ((fr20 j (by omega) (by omega) (by omega)).trans ((fr14 j (by omega)).trans (fr7 j (by omega)))))))⟩ dX6_countHelpful_87
            · exact absurd c24 (by decide)
      · refine x_iinc (lv' := [(5, .int (iZ 1)), (6, .int (iZ (-1))), (0, .ref (xad E 0)), (1, .int (iZ w)), (2, .int (iZ cell)), (3, .int (iZ first)), (4, .int (iZ strd))]) hx hb dX6_countHelpful_76 hl (k := 1) rfl (by decide) rfl (fun ls hl => ?_)
        refine x_iinc (lv' := [(6, .int (iZ 1)), (5, .int (iZ 1)), (0, .ref (xad E 0)), (1, .int (iZ w)), (2, .int (iZ cell)), (3, .int (iZ first)), (4, .int (iZ strd))]) hx hb dX6_countHelpful_79 hl (k := 1) rfl (by decide) rfl (fun ls hl => ?_)
        refine lv_goto (tgt := 21) hx hb dX6_countHelpful_82 (by decide) ?_
        refine lv_iload hx hb dX6_countHelpful_21 (lv_at hl 0 rfl) ?_
        refine x_iconst hx hb dX6_countHelpful_23 ?_
        refine x_icmp_gt (tgt := 85) hx hb dX6_countHelpful_24 (by decide) (by decide) (by decide) (fun c24 => ?_) (fun c24 => ?_)
        · exact absurd c24 (by decide)
        · refine lv_aload_n hx hb dX6_countHelpful_27 rfl (lv_at hl 2 rfl) ?_
          refine x_get hx hb hts hown hK hH 0 (ltw (by decide)) f0 hinX6 rfl 2 (by decide) (List.mem_of_getElem? (i := 2) rfl) rfl dX6_countHelpful_28 ?_
          refine lv_aload_n hx hb dX6_countHelpful_31 rfl (lv_at hl 2 rfl) ?_
          refine x_get hx hb hts hown hK hH 0 (ltw (by decide)) f0 hinX6 rfl 0 (by decide) (List.mem_of_getElem? (i := 1) rfl) rfl dX6_countHelpful_32 ?_
          refine x_cVV (As := [.ref (xad E 1)]) (rest := []) hx hb hml hts hown hK hST hOK hH 13 (c_X1_copyFrom l E ST hSF σ18 13 1 (rotF op first strd (-1)) (rotF lk first strd (-1)) (mlK kp first strd (-1) 6) (mlK wc first strd (-1) nw) pn nw sh wk op lk kp wc pn nw sh wk ⟨f13, f14, f15, f16, f17, _, f18⟩ ⟨f1, f2, f3, f4, f5, _, f6⟩ (by omega) (by omega) (by omega)) (cwV 1 hts gX6_countHelpful_X1_copyFrom rfl rfl rfl (by decide +kernel) ⟨Nat.le_of_ble_eq_true rfl, Nat.le_of_ble_eq_true rfl⟩) (ltw (by decide)) f13 rfl rfl hl.1 rfl (Nat.le_of_ble_eq_true rfl) dX6_countHelpful_35 ⟨Nat.le_of_ble_eq_true rfl, Nat.le_of_ble_eq_true rfl⟩ (fun σ47 H locs hp48 hH => ?_)
          obtain ⟨⟨⟨f13, f14, f15, f16, f17, ro50, f18⟩, ⟨f1, f2, f3, f4, f5, ro51, f6⟩⟩, fr49⟩ := hp48
          have f0 : σ47 0 = oB 4 [.ref (xad E 1), .ref (xad E 7), .ref (xad E 13), .ref (xad E 19), .int (iZ (b2 hv)), .ref (xad E 73), .ref (xad E 75), .ref (xad E 81), .int (iZ se), .int (iZ sf), .ref (xad E 84), .int (iZ ll)] := (fr49 0 (by omega)).trans f0
          have f75 : σ47 75 = oB 3 [.ref (xad E 76), .ref (xad E 77), .ref (xad E 78), .ref (xad E 79), .ref (xad E 80)] := (fr49 75 (by omega)).trans f75
          have f76 : σ47 76 = aI E 25 (dz (Gw (rotF op first strd (-1)) (rotF lk first strd (-1)) (mlK kp first strd (-1) 6) w) ((mlK wc first strd (-1) nw) w)) := (fr49 76 (by omega)).trans f76
          have f77 : σ47 77 = aI E 25 rl := (fr49 77 (by omega)).trans f77
          have f78 : σ47 78 = aI E 25 fs1_21 := (fr49 78 (by omega)).trans f78
          have f79 : σ47 79 = aI E 25 qu1_22 := (fr49 79 (by omega)).trans f79
          have f80 : σ47 80 = aI E 25 gr := (fr49 80 (by omega)).trans f80
          refine lv_aload_n hx hb dX6_countHelpful_38 rfl (lv_at hl 2 rfl) ?_
          refine x_get hx hb hts hown hK hH 0 (ltw (by decide)) f0 hinX6 rfl 2 (by decide) (List.mem_of_getElem? (i := 2) rfl) rfl dX6_countHelpful_39 ?_
          refine lv_iload_n hx hb dX6_countHelpful_42 rfl (lv_at hl 5 rfl) ?_
          refine lv_iload hx hb dX6_countHelpful_43 (lv_at hl 6 rfl) ?_
          refine lv_iload hx hb dX6_countHelpful_45 (lv_at hl 0 rfl) ?_
          refine x_cVV (As := [.int (iZ first), .int (iZ strd), .int (iZ 1)]) (rest := []) hx hb hml hts hown hK hST hOK hH 13 (c_X1_moveLine l E ST hSF σ47 13 first strd 1 op lk kp wc pn nw sh wk ⟨f13, f14, f15, f16, f17, _, f18⟩ (by omega) (by omega) (by omega) (by omega)) (cwV 3 hts gX6_countHelpful_X1_moveLine rfl rfl rfl (by decide +kernel) ⟨Nat.le_of_ble_eq_true rfl, Nat.le_of_ble_eq_true rfl⟩) (ltw (by decide)) f13 rfl rfl hl.1 rfl (Nat.le_of_ble_eq_true rfl) dX6_countHelpful_47 ⟨Nat.le_of_ble_eq_true rfl, Nat.le_of_ble_eq_true rfl⟩ (fun σ54 H locs hp55 hH => ?_)
          obtain ⟨⟨f13, f14, f15, f16, f17, ro57, f18⟩, fr56⟩ := hp55
          have f0 : σ54 0 = oB 4 [.ref (xad E 1), .ref (xad E 7), .ref (xad E 13), .ref (xad E 19), .int (iZ (b2 hv)), .ref (xad E 73), .ref (xad E 75), .ref (xad E 81), .int (iZ se), .int (iZ sf), .ref (xad E 84), .int (iZ ll)] := (fr56 0 (by omega)).trans f0
          have f1 : σ54 1 = oB 0 [.ref (xad E 2), .ref (xad E 3), .ref (xad E 4), .ref (xad E 5), .ref (xad E 6), .int (iZ pn), .int (iZ nw), .int (iZ sh), .long (lZ wk)] := (fr56 1 (by omega)).trans f1
          have f2 : σ54 2 = aI E 25 op := (fr56 2 (by omega)).trans f2
          have f3 : σ54 3 = aI E 25 lk := (fr56 3 (by omega)).trans f3
          have f4 : σ54 4 = aI E 6 kp := (fr56 4 (by omega)).trans f4
          have f5 : σ54 5 = aI E 3 wc := (fr56 5 (by omega)).trans f5
          have f6 : σ54 6 = aI E 5 ro51 := (fr56 6 (by omega)).trans f6
          have f75 : σ54 75 = oB 3 [.ref (xad E 76), .ref (xad E 77), .ref (xad E 78), .ref (xad E 79), .ref (xad E 80)] := (fr56 75 (by omega)).trans f75
          have f76 : σ54 76 = aI E 25 (dz (Gw (rotF op first strd (-1)) (rotF lk first strd (-1)) (mlK kp first strd (-1) 6) w) ((mlK wc first strd (-1) nw) w)) := (fr56 76 (by omega)).trans f76
          have f77 : σ54 77 = aI E 25 rl := (fr56 77 (by omega)).trans f77
          have f78 : σ54 78 = aI E 25 fs1_21 := (fr56 78 (by omega)).trans f78
          have f79 : σ54 79 = aI E 25 qu1_22 := (fr56 79 (by omega)).trans f79
          have f80 : σ54 80 = aI E 25 gr := (fr56 80 (by omega)).trans f80
          refine lv_aload_n hx hb dX6_countHelpful_50 rfl (lv_at hl 2 rfl) ?_
          refine x_get hx hb hts hown hK hH 0 (ltw (by decide)) f0 hinX6 rfl 6 (by decide) (List.mem_of_getElem? (i := 3) rfl) rfl dX6_countHelpful_51 ?_
          refine lv_aload_n hx hb dX6_countHelpful_54 rfl (lv_at hl 2 rfl) ?_
          refine x_get hx hb hts hown hK hH 0 (ltw (by decide)) f0 hinX6 rfl 2 (by decide) (List.mem_of_getElem? (i := 2) rfl) rfl dX6_countHelpful_55 ?_
          refine lv_iload_n hx hb dX6_countHelpful_58 rfl (lv_at hl 3 rfl) ?_
          refine x_cVV (As := [.ref (xad E 13), .int (iZ w)]) (rest := []) hx hb hml hts hown hK hST hOK hH 75 (c_X5_findPaths l E ST hSF σ54 13 w (rotF op first strd 1) (rotF lk first strd 1) (mlK kp first strd 1 6) (mlK wc first strd 1 nw) pn nw sh wk (dz (Gw (rotF op first strd (-1)) (rotF lk first strd (-1)) (mlK kp first strd (-1) 6) w) ((mlK wc first strd (-1) nw) w)) rl fs1_21 qu1_22 gr ⟨f13, f14, f15, f16, f17, _, f18⟩ ⟨f75, f76, f77, f78, f79, f80⟩ (BI_ml hL hB) (by omega) (by omega)) (cwV 2 hts gX6_countHelpful_X5_findPaths rfl rfl rfl (by decide +kernel) ⟨Nat.le_of_ble_eq_true rfl, Nat.le_of_ble_eq_true rfl⟩) (ltw (by decide)) f75 rfl rfl hl.1 rfl (Nat.le_of_ble_eq_true rfl) dX6_countHelpful_59 ⟨Nat.le_of_ble_eq_true rfl, Nat.le_of_ble_eq_true rfl⟩ (fun σ60 H locs hp61 hH => ?_)
          obtain ⟨⟨fs1_63, qu1_64, ⟨f75, f76, f77, f78, f79, f80⟩, hf65⟩, fr62⟩ := hp61
          have f0 : σ60 0 = oB 4 [.ref (xad E 1), .ref (xad E 7), .ref (xad E 13), .ref (xad E 19), .int (iZ (b2 hv)), .ref (xad E 73), .ref (xad E 75), .ref (xad E 81), .int (iZ se), .int (iZ sf), .ref (xad E 84), .int (iZ ll)] := (fr62 0 (by omega) (by omega) (by omega)).trans f0
          have f1 : σ60 1 = oB 0 [.ref (xad E 2), .ref (xad E 3), .ref (xad E 4), .ref (xad E 5), .ref (xad E 6), .int (iZ pn), .int (iZ nw), .int (iZ sh), .long (lZ wk)] := (fr62 1 (by omega) (by omega) (by omega)).trans f1
          have f2 : σ60 2 = aI E 25 op := (fr62 2 (by omega) (by omega) (by omega)).trans f2
          have f3 : σ60 3 = aI E 25 lk := (fr62 3 (by omega) (by omega) (by omega)).trans f3
          have f4 : σ60 4 = aI E 6 kp := (fr62 4 (by omega) (by omega) (by omega)).trans f4
          have f5 : σ60 5 = aI E 3 wc := (fr62 5 (by omega) (by omega) (by omega)).trans f5
          have f6 : σ60 6 = aI E 5 ro51 := (fr62 6 (by omega) (by omega) (by omega)).trans f6
          have f13 : σ60 13 = oB 0 [.ref (xad E 14), .ref (xad E 15), .ref (xad E 16), .ref (xad E 17), .ref (xad E 18), .int (iZ pn), .int (iZ nw), .int (iZ sh), .long (lZ wk)] := (fr62 13 (by omega) (by omega) (by omega)).trans f13
          have f14 : σ60 14 = aI E 25 (rotF op first strd 1) := (fr62 14 (by omega) (by omega) (by omega)).trans f14
          have f15 : σ60 15 = aI E 25 (rotF lk first strd 1) := (fr62 15 (by omega) (by omega) (by omega)).trans f15
          have f16 : σ60 16 = aI E 6 (mlK kp first strd 1 6) := (fr62 16 (by omega) (by omega) (by omega)).trans f16
          have f17 : σ60 17 = aI E 3 (mlK wc first strd 1 nw) := (fr62 17 (by omega) (by omega) (by omega)).trans f17
          have f18 : σ60 18 = aI E 5 ro57 := (fr62 18 (by omega) (by omega) (by omega)).trans f18
          refine lv_aload_n hx hb dX6_countHelpful_62 rfl (lv_at hl 2 rfl) ?_
          have hdq := fun (a9 : Int) => dz_rg (G := Gw (rotF op first strd a9) (rotF lk first strd a9) (mlK kp first strd a9 6) w) (st := mlK wc first strd a9 nw w) Gw_ok (mlK_in hL hwc w) cell
          have hdq1 := hdq (-1)
          have hdq2 := hdq 1
          clear hdq
          refine x_get hx hb hts hown hK hH 0 (ltw (by decide)) f0 hinX6 rfl 6 (by decide) (List.mem_of_getElem? (i := 3) rfl) rfl dX6_countHelpful_63 ?_
          refine x_get hx hb hts hown hK hH 75 (ltw (by decide)) f75 hinX5 rfl 0 (by decide) (List.mem_of_getElem? (i := 4) rfl) rfl dX6_countHelpful_66 ?_
          refine lv_iload_n hx hb dX6_countHelpful_69 rfl (lv_at hl 4 rfl) ?_
          refine x_iald hx hb hK hH 76 (ltw (by decide)) f76 (by omega) (by omega) (by omega) dX6_countHelpful_70 ?_
          refine x_bipush hx hb dX6_countHelpful_71 (by decide) ?_
          refine x_icmp_ge (tgt := 79) hx hb dX6_countHelpful_73 (by decide) (by omega) (by decide) (fun c73 => ?_) (fun c73 => ?_)
          · refine x_iinc (lv' := [(6, .int (iZ 3)), (5, .int (iZ 1)), (0, .ref (xad E 0)), (1, .int (iZ w)), (2, .int (iZ cell)), (3, .int (iZ first)), (4, .int (iZ strd))]) hx hb dX6_countHelpful_79 hl (k := 0) rfl (by decide) rfl (fun ls hl => ?_)
            refine lv_goto (tgt := 21) hx hb dX6_countHelpful_82 (by decide) ?_
            refine lv_iload hx hb dX6_countHelpful_21 (lv_at hl 0 rfl) ?_
            refine x_iconst hx hb dX6_countHelpful_23 ?_
            refine x_icmp_gt (tgt := 85) hx hb dX6_countHelpful_24 (by decide) (by decide) (by decide) (fun c24 => ?_) (fun c24 => ?_)
            · refine lv_iload hx hb dX6_countHelpful_85 (lv_at hl 1 rfl) ?_
              subst hQ
              exact x_iret hx hb hr hlocks hH (Nat.le_of_ble_eq_true rfl) (Nat.le_of_ble_eq_true rfl) ⟨(show 1 = (hpF op lk kp wc pn nw w cell first strd) from (by unfold hpF hsD; rw [if_pos (by assumption)]; (repeat' split) <;> omega)), ⟨(rotF op first strd 1), (rotF lk first strd 1), (mlK kp first strd 1 6), (mlK wc first strd 1 nw), pn, nw, sh, wk, (dz (Gw (rotF op first strd 1) (rotF lk first strd 1) (mlK kp first strd 1 6) w) ((mlK wc first strd 1 nw) w)), rl, fs1_63, qu1_64, gr, ⟨f13, f14, f15, f16, f17, _, f18⟩, ⟨f75, f76, f77, f78, f79, f80⟩⟩, fun j hj0 hj1 => ((fr62 j (by omega) (by omega) (by omega)).trans ((fr56 j (by omega)).trans ((fr49 j (by omega)).trans ((fr20 j (by omega) (by omega) (by omega)).trans ((fr14 j (by omega)).trans (fr7 j (by omega)))))))⟩ dX6_countHelpful_87
            · exact absurd c24 (by decide)
          · refine x_iinc (lv' := [(5, .int (iZ 2)), (6, .int (iZ 1)), (0, .ref (xad E 0)), (1, .int (iZ w)), (2, .int (iZ cell)), (3, .int (iZ first)), (4, .int (iZ strd))]) hx hb dX6_countHelpful_76 hl (k := 1) rfl (by decide) rfl (fun ls hl => ?_)
            refine x_iinc (lv' := [(6, .int (iZ 3)), (5, .int (iZ 2)), (0, .ref (xad E 0)), (1, .int (iZ w)), (2, .int (iZ cell)), (3, .int (iZ first)), (4, .int (iZ strd))]) hx hb dX6_countHelpful_79 hl (k := 1) rfl (by decide) rfl (fun ls hl => ?_)
            refine lv_goto (tgt := 21) hx hb dX6_countHelpful_82 (by decide) ?_
            refine lv_iload hx hb dX6_countHelpful_21 (lv_at hl 0 rfl) ?_
            refine x_iconst hx hb dX6_countHelpful_23 ?_
            refine x_icmp_gt (tgt := 85) hx hb dX6_countHelpful_24 (by decide) (by decide) (by decide) (fun c24 => ?_) (fun c24 => ?_)
            · refine lv_iload hx hb dX6_countHelpful_85 (lv_at hl 1 rfl) ?_
              subst hQ
              exact x_iret hx hb hr hlocks hH (Nat.le_of_ble_eq_true rfl) (Nat.le_of_ble_eq_true rfl) ⟨(show 2 = (hpF op lk kp wc pn nw w cell first strd) from (by unfold hpF hsD; rw [if_pos (by assumption)]; (repeat' split) <;> omega)), ⟨(rotF op first strd 1), (rotF lk first strd 1), (mlK kp first strd 1 6), (mlK wc first strd 1 nw), pn, nw, sh, wk, (dz (Gw (rotF op first strd 1) (rotF lk first strd 1) (mlK kp first strd 1 6) w) ((mlK wc first strd 1 nw) w)), rl, fs1_63, qu1_64, gr, ⟨f13, f14, f15, f16, f17, _, f18⟩, ⟨f75, f76, f77, f78, f79, f80⟩⟩, fun j hj0 hj1 => ((fr62 j (by omega) (by omega) (by omega)).trans ((fr56 j (by omega)).trans ((fr49 j (by omega)).trans ((fr20 j (by omega) (by omega) (by omega)).trans ((fr14 j (by omega)).trans (fr7 j (by omega)))))))⟩ dX6_countHelpful_87
            · exact absurd c24 (by decide)
  · refine x_iconst hx hb dX6_countHelpful_13 ?_
    subst hQ
    exact x_iret hx hb hr hlocks hH (Nat.le_of_ble_eq_true rfl) (Nat.le_of_ble_eq_true rfl) ⟨(show 0 = (hpF op lk kp wc pn nw w cell first strd) from (by unfold hpF; rw [if_neg (by rw [c10]; decide)])), ⟨top, tlk, tkp, twc, tpn, tnw, tsh, twk, le, rl, fs, qu, gr, ⟨f13, f14, f15, f16, f17, _, f18⟩, ⟨f75, f76, f77, f78, f79, f80⟩⟩, fun j hj0 hj1 => rfl⟩ dX6_countHelpful_14

def rm_X6_helpfulShifts : Room := { frames := 7, cells := 2, slots := 12, locals := 111 }
set_option maxRecDepth 100000 in
set_option maxHeartbeats 4000000 in
theorem c_X6_helpfulShifts (l : Launch) (E : xE) (ST : xST) (hSF : SF ST) (htr : l.stackTraces = false) (σ : xW) (w : Int) (r : Int) (c0 : Int) (hv : Bool) (se : Int) (sf : Int) (ll : Int) (op : Int → Int) (lk : Int → Int) (kp : Int → Int) (wc : Int → Int) (pn : Int) (nw : Int) (sh : Int) (wk : Int) (top : Int → Int) (tlk : Int → Int) (tkp : Int → Int) (twc : Int → Int) (tpn : Int) (tnw : Int) (tsh : Int) (twk : Int) (le : Int → Int) (rl : Int → Int) (fs : Int → Int) (qu : Int → Int) (gr : Int → Int) (hr0 : mn E σ hv se sf ll) (hr1 : bd E σ 1 op lk kp wc pn nw sh wk) (hr2 : bd E σ 13 top tlk tkp twc tpn tnw tsh twk) (hr3 : sr E σ le rl fs qu gr) (hB : BI op lk kp wc pn nw) (hw9 : rg w) (hr9 : rg r) (hc9 : rg c0) : XI l E ST yX6_helpfulShifts wsX6_helpfulShifts rm_X6_helpfulShifts [.ref (xad E 0), .int (iZ w), .int (iZ r), .int (iZ c0)] σ (fun (z : Int) (u : xW) => z = smK (fun i => hpF op lk kp wc pn nw w (r * 5 + c0) (i * 5) 1 + hpF op lk kp wc pn nw w (r * 5 + c0) i 5) 5 ∧ (∃ (top1 tlk1 tkp1 twc1 : Int → Int) (tpn1 tnw1 tsh1 twk1 : Int) (le1 rl1 fs1 qu1 gr1 : Int → Int), bd E u 13 top1 tlk1 tkp1 twc1 tpn1 tnw1 tsh1 twk1 ∧ sr E u le1 rl1 fs1 qu1 gr1 ∧ (0 ≤ w ∧ w < nw) ∧ (okC r c0)) ∧ ∀ j : Nat, (j < 13 ∨ 13 + 6 ≤ j) → (j < 75 ∨ 75 + 6 ≤ j) → u j = σ j) (fun (n : String) (u : xW) => ((n = "java/lang/IndexOutOfBoundsException" ∧ ¬ ((0 ≤ w ∧ w < nw) ∧ okC r c0))) ∧ (∃ (top1 tlk1 tkp1 twc1 : Int → Int) (tpn1 tnw1 tsh1 twk1 : Int) (le1 rl1 fs1 qu1 gr1 : Int → Int), bd E u 13 top1 tlk1 tkp1 twc1 tpn1 tnw1 tsh1 twk1 ∧ sr E u le1 rl1 fs1 qu1 gr1) ∧ ∀ j : Nat, (j < 13 ∨ 13 + 6 ≤ j) → (j < 75 ∨ 75 + 6 ≤ j) → u j = σ j) := by
  have f0 : σ 0 = oB 4 [.ref (xad E 1), .ref (xad E 7), .ref (xad E 13), .ref (xad E 19), .int (iZ (b2 hv)), .ref (xad E 73), .ref (xad E 75), .ref (xad E 81), .int (iZ se), .int (iZ sf), .ref (xad E 84), .int (iZ ll)] := hr0
  obtain ⟨f1, f2, f3, f4, f5, ro1, f6⟩ := hr1
  obtain ⟨f13, f14, f15, f16, f17, ro2, f18⟩ := hr2
  obtain ⟨f75, f76, f77, f78, f79, f80⟩ := hr3
  refine XI_of (by decide) rfl (Nat.le_of_ble_eq_true rfl) ?_
  intro p e s m args below meth c Q ls G hH hl hQ
  obtain ⟨hx, hb, hml, hown, hts, hK, hST, hlocks, hr, hno⟩ := G
  have hOK := hSF.1
  have hown : s.vm.findClass RX6 = some m.cls := hown
  have hl : lv_has ls 7 [(0, .ref (xad E 0)), (1, .int (iZ w)), (2, .int (iZ r)), (3, .int (iZ c0))] := hl
  obtain ⟨hop, hlk, hkp, hwc, hpn, hnw⟩ := id hB
  refine lv_aload_n hx hb dX6_helpfulShifts_0 rfl (lv_at hl 0 rfl) ?_
  refine lv_iload_n hx hb dX6_helpfulShifts_1 rfl (lv_at hl 1 rfl) ?_
  refine x_cXVIE (As := [.int (iZ w)]) (rest := []) hx hb hml hts hown hK hST hOK hH 0 (c_X6_needWalker l E ST hSF htr σ w hv se sf ll op lk kp wc pn nw sh wk f0 ⟨f1, f2, f3, f4, f5, _, f6⟩ (by omega) (by omega)) (cwV 1 hts gX6_helpfulShifts_X6_needWalker rfl rfl rfl (by decide +kernel) ⟨Nat.le_of_ble_eq_true rfl, Nat.le_of_ble_eq_true rfl⟩) (ltw (by decide)) f0 rfl rfl hl.1 rfl (Nat.le_of_ble_eq_true rfl) dX6_helpfulShifts_2 ⟨Nat.le_of_ble_eq_true rfl, Nat.le_of_ble_eq_true rfl⟩ ?_ (fun z u h => h) (fun σ2 H locs hp3 hH => ?_)
  · intro nx ce q9 σ2 H locs hp3 hH hce hcv hcl
    subst hQ
    obtain ⟨hn, hu⟩ := hp3
    rw [hu] at hH
    exact x_out hno hlocks hH hce hcv hcl ⟨(by simp_all <;> omega), ⟨top, tlk, tkp, twc, tpn, tnw, tsh, twk, le, rl, fs, qu, gr, ⟨f13, f14, f15, f16, f17, _, f18⟩, ⟨f75, f76, f77, f78, f79, f80⟩⟩, fun j hj0 hj1 => rfl⟩ (Nat.le_of_ble_eq_true rfl) (Nat.le_of_ble_eq_true rfl)
  · obtain ⟨hf4, hu5⟩ := hp3
    rw [hu5] at hH
    refine lv_pop hx hb dX6_helpfulShifts_5 rfl ?_
    refine lv_iload_n hx hb dX6_helpfulShifts_6 rfl (lv_at hl 2 rfl) ?_
    refine lv_iload_n hx hb dX6_helpfulShifts_7 rfl (lv_at hl 3 rfl) ?_
    refine x_cXSIE (As := [.int (iZ r), .int (iZ c0)]) (rest := []) hx hb hml hts hown hK hST hOK hH (c_X6_needCell l E ST hSF htr σ r c0  (by omega) (by omega)) (va_cwS 2 hts gX6_helpfulShifts_X6_needCell rfl rfl rfl (by decide +kernel) ⟨Nat.le_of_ble_eq_true rfl, Nat.le_of_ble_eq_true rfl⟩) rfl hl.1 rfl (Nat.le_of_ble_eq_true rfl) dX6_helpfulShifts_8 ⟨Nat.le_of_ble_eq_true rfl, Nat.le_of_ble_eq_true rfl⟩ ?_ (fun z u h => h) (fun σ7 H locs hp8 hH => ?_)
    · intro nx ce q9 σ7 H locs hp8 hH hce hcv hcl
      subst hQ
      obtain ⟨hn, hu⟩ := hp8
      rw [hu] at hH
      exact x_out hno hlocks hH hce hcv hcl ⟨(by simp_all <;> omega), ⟨top, tlk, tkp, twc, tpn, tnw, tsh, twk, le, rl, fs, qu, gr, ⟨f13, f14, f15, f16, f17, _, f18⟩, ⟨f75, f76, f77, f78, f79, f80⟩⟩, fun j hj0 hj1 => rfl⟩ (Nat.le_of_ble_eq_true rfl) (Nat.le_of_ble_eq_true rfl)
    · obtain ⟨hf9, hu10⟩ := hp8
      rw [hu10] at hH
      refine lv_istore (lv' := [(4, .int (iZ (r * 5 + c0))), (0, .ref (xad E 0)), (1, .int (iZ w)), (2, .int (iZ r)), (3, .int (iZ c0))]) hx hb dX6_helpfulShifts_11 hl (by decide) rfl (fun ls hl => ?_)
      refine x_iconst hx hb dX6_helpfulShifts_13 ?_
      refine lv_istore (lv' := [(5, .int (iZ 0)), (4, .int (iZ (r * 5 + c0))), (0, .ref (xad E 0)), (1, .int (iZ w)), (2, .int (iZ r)), (3, .int (iZ c0))]) hx hb dX6_helpfulShifts_14 hl (by decide) rfl (fun ls hl => ?_)
      refine x_iconst hx hb dX6_helpfulShifts_16 ?_
      refine lv_istore (lv' := [(6, .int (iZ 0)), (5, .int (iZ 0)), (4, .int (iZ (r * 5 + c0))), (0, .ref (xad E 0)), (1, .int (iZ w)), (2, .int (iZ r)), (3, .int (iZ c0))]) hx hb dX6_helpfulShifts_17 hl (by decide) rfl (fun ls hl => ?_)
      have K19 : ∀ (nK : Nat) (h9 i9 : Int) (to2 tl2 tk2 tc2 tr2 : Int → Int) (tp2 tn2 ts2 tw2 : Int) (lx2 rx2 fx2 qx2 gx2 : Int → Int) (σ11 : xW) (H : Heap) (locs : List Loc) (ls : Array Slot), (5 - i9).toNat < nK → ((0 ≤ i9 ∧ i9 ≤ 5) ∧ 0 ≤ h9 ∧ h9 ≤ 4 * i9) → (h9 = smK (fun i => hpF op lk kp wc pn nw w (r * 5 + c0) (i * 5) 1 + hpF op lk kp wc pn nw w (r * 5 + c0) i 5) i9) → σ11 0 = oB 4 [.ref (xad E 1), .ref (xad E 7), .ref (xad E 13), .ref (xad E 19), .int (iZ (b2 hv)), .ref (xad E 73), .ref (xad E 75), .ref (xad E 81), .int (iZ se), .int (iZ sf), .ref (xad E 84), .int (iZ ll)] → σ11 1 = oB 0 [.ref (xad E 2), .ref (xad E 3), .ref (xad E 4), .ref (xad E 5), .ref (xad E 6), .int (iZ pn), .int (iZ nw), .int (iZ sh), .long (lZ wk)] → σ11 2 = aI E 25 op → σ11 3 = aI E 25 lk → σ11 4 = aI E 6 kp → σ11 5 = aI E 3 wc → σ11 6 = aI E 5 ro1 → σ11 13 = oB 0 [.ref (xad E 14), .ref (xad E 15), .ref (xad E 16), .ref (xad E 17), .ref (xad E 18), .int (iZ tp2), .int (iZ tn2), .int (iZ ts2), .long (lZ tw2)] → σ11 14 = aI E 25 to2 → σ11 15 = aI E 25 tl2 → σ11 16 = aI E 6 tk2 → σ11 17 = aI E 3 tc2 → σ11 18 = aI E 5 tr2 → σ11 75 = oB 3 [.ref (xad E 76), .ref (xad E 77), .ref (xad E 78), .ref (xad E 79), .ref (xad E 80)] → σ11 76 = aI E 25 lx2 → σ11 77 = aI E 25 rx2 → σ11 78 = aI E 25 fx2 → σ11 79 = aI E 25 qx2 → σ11 80 = aI E 25 gx2 → (∀ j : Nat, (j < 13 ∨ 13 + 6 ≤ j) → (j < 75 ∨ 75 + 6 ≤ j) → σ11 j = σ j) → Hx E (xA E s.heap.size) s.heap σ11 H locs → lv_has ls 7 [(6, .int (iZ i9)), (5, .int (iZ h9)), (4, .int (iZ (r * 5 + c0))), (0, .ref (xad E 0)), (1, .int (iZ w)), (2, .int (iZ r)), (3, .int (iZ c0))] → W p l e rm_X6_helpfulShifts s m args below meth c H locs ((0 + rm_X6_needWalker.cells) + rm_X6_needCell.cells) ((0 + rm_X6_needWalker.slots) + rm_X6_needCell.slots) Q (F0 m 19 ls []) := by
        intro n19
        induction n19 with
        | zero =>
          intro h9 i9 to2 tl2 tk2 tc2 tr2 tp2 tn2 ts2 tw2 lx2 rx2 fx2 qx2 gx2 σ11 H locs ls hm
          exact absurd hm (by first | exact Nat.not_lt_zero _ | omega)
        | succ n19 ih19 =>
          intro h9 i9 to2 tl2 tk2 tc2 tr2 tp2 tn2 ts2 tw2 lx2 rx2 fx2 qx2 gx2 σ11 H locs ls hm19 hi9 hh9 f0 f1 f2 f3 f4 f5 f6 f13 f14 f15 f16 f17 f18 f75 f76 f77 f78 f79 f80 fr12 hH hl
          refine lv_iload hx hb dX6_helpfulShifts_19 (lv_at hl 0 rfl) ?_
          refine x_iconst hx hb dX6_helpfulShifts_21 ?_
          refine x_icmp_ge (tgt := 63) hx hb dX6_helpfulShifts_22 (by decide) (by omega) (by decide) (fun c22 => ?_) (fun c22 => ?_)
          · refine lv_iload hx hb dX6_helpfulShifts_63 (lv_at hl 1 rfl) ?_
            subst hQ
            exact x_ireX hx hb hr hlocks hH (Nat.le_of_ble_eq_true rfl) (Nat.le_of_ble_eq_true rfl) ⟨(show h9 = (smK (fun i => hpF op lk kp wc pn nw w (r * 5 + c0) (i * 5) 1 + hpF op lk kp wc pn nw w (r * 5 + c0) i 5) 5) from (by have e9 : i9 = 5 := (by omega); subst e9; exact hh9)), ⟨to2, tl2, tk2, tc2, tp2, tn2, ts2, tw2, lx2, rx2, fx2, qx2, gx2, ⟨f13, f14, f15, f16, f17, _, f18⟩, ⟨f75, f76, f77, f78, f79, f80⟩, (by first | assumption | omega | simp_all), (by first | assumption | omega | simp_all)⟩, fun j hj0 hj1 => (fr12 j (by omega) (by omega))⟩ dX6_helpfulShifts_65
          · refine lv_iload hx hb dX6_helpfulShifts_25 (lv_at hl 1 rfl) ?_
            refine lv_aload_n hx hb dX6_helpfulShifts_27 rfl (lv_at hl 3 rfl) ?_
            refine lv_iload_n hx hb dX6_helpfulShifts_28 rfl (lv_at hl 4 rfl) ?_
            refine lv_iload hx hb dX6_helpfulShifts_29 (lv_at hl 2 rfl) ?_
            refine lv_iload hx hb dX6_helpfulShifts_31 (lv_at hl 0 rfl) ?_
            refine x_iconst hx hb dX6_helpfulShifts_33 ?_
            refine x_imul hx hb dX6_helpfulShifts_34 ?_
            refine x_iconst hx hb dX6_helpfulShifts_35 ?_
            refine x_cVIE (As := [.int (iZ w), .int (iZ (r * 5 + c0)), .int (iZ (i9 * 5)), .int (iZ 1)]) (rest := [.int (iZ h9)]) hx hb hml hts hown hK hST hOK hH 0 (c_X6_countHelpful l E ST hSF σ11 w (r * 5 + c0) (i9 * 5) 1 hv se sf ll op lk kp wc pn nw sh wk to2 tl2 tk2 tc2 tp2 tn2 ts2 tw2 lx2 rx2 fx2 qx2 gx2 f0 ⟨f1, f2, f3, f4, f5, _, f6⟩ ⟨f13, f14, f15, f16, f17, _, f18⟩ ⟨f75, f76, f77, f78, f79, f80⟩ (by omega) (by omega) (by omega) (Or.inl ⟨rfl, by omega, by omega⟩)) (cwV 4 hts gX6_helpfulShifts_X6_countHelpful rfl rfl rfl (by decide +kernel) ⟨Nat.le_of_ble_eq_true rfl, Nat.le_of_ble_eq_true rfl⟩) (ltw (by decide)) f0 rfl rfl hl.1 rfl (Nat.le_of_ble_eq_true rfl) dX6_helpfulShifts_36 ⟨Nat.le_of_ble_eq_true rfl, Nat.le_of_ble_eq_true rfl⟩ (fun z u h => h) (fun σ14 H locs hp15 hH => ?_)
            obtain ⟨⟨top1_17, tlk1_18, tkp1_19, twc1_20, tpn1_21, tnw1_22, tsh1_23, twk1_24, le1_25, rl1_26, fs1_27, qu1_28, gr1_29, ⟨f13, f14, f15, f16, f17, ro30, f18⟩, ⟨f75, f76, f77, f78, f79, f80⟩⟩, fr16⟩ := hp15
            have f0 : σ14 0 = oB 4 [.ref (xad E 1), .ref (xad E 7), .ref (xad E 13), .ref (xad E 19), .int (iZ (b2 hv)), .ref (xad E 73), .ref (xad E 75), .ref (xad E 81), .int (iZ se), .int (iZ sf), .ref (xad E 84), .int (iZ ll)] := (fr16 0 (by omega) (by omega)).trans f0
            have f1 : σ14 1 = oB 0 [.ref (xad E 2), .ref (xad E 3), .ref (xad E 4), .ref (xad E 5), .ref (xad E 6), .int (iZ pn), .int (iZ nw), .int (iZ sh), .long (lZ wk)] := (fr16 1 (by omega) (by omega)).trans f1
            have f2 : σ14 2 = aI E 25 op := (fr16 2 (by omega) (by omega)).trans f2
            have f3 : σ14 3 = aI E 25 lk := (fr16 3 (by omega) (by omega)).trans f3
            have f4 : σ14 4 = aI E 6 kp := (fr16 4 (by omega) (by omega)).trans f4
            have f5 : σ14 5 = aI E 3 wc := (fr16 5 (by omega) (by omega)).trans f5
            have f6 : σ14 6 = aI E 5 ro1 := (fr16 6 (by omega) (by omega)).trans f6
            have hq1 := hpF_b (op := op) (lk := lk) (kp := kp) (wc := wc) (pn := pn) (nw := nw) (w := w) (cell := r * 5 + c0) (first := i9 * 5) (strd := 1)
            refine x_iadd hx hb dX6_helpfulShifts_39 ?_
            refine lv_istore (lv' := [(5, .int (iZ (h9 + (hpF op lk kp wc pn nw w (r * 5 + c0) (i9 * 5) 1)))), (6, .int (iZ i9)), (4, .int (iZ (r * 5 + c0))), (0, .ref (xad E 0)), (1, .int (iZ w)), (2, .int (iZ r)), (3, .int (iZ c0))]) hx hb dX6_helpfulShifts_40 hl (by decide) rfl (fun ls hl => ?_)
            refine lv_iload hx hb dX6_helpfulShifts_42 (lv_at hl 0 rfl) ?_
            refine lv_aload_n hx hb dX6_helpfulShifts_44 rfl (lv_at hl 3 rfl) ?_
            refine lv_iload_n hx hb dX6_helpfulShifts_45 rfl (lv_at hl 4 rfl) ?_
            refine lv_iload hx hb dX6_helpfulShifts_46 (lv_at hl 2 rfl) ?_
            refine lv_iload hx hb dX6_helpfulShifts_48 (lv_at hl 1 rfl) ?_
            refine x_iconst hx hb dX6_helpfulShifts_50 ?_
            refine x_cVIE (As := [.int (iZ w), .int (iZ (r * 5 + c0)), .int (iZ i9), .int (iZ 5)]) (rest := [.int (iZ (h9 + (hpF op lk kp wc pn nw w (r * 5 + c0) (i9 * 5) 1)))]) hx hb hml hts hown hK hST hOK hH 0 (c_X6_countHelpful l E ST hSF σ14 w (r * 5 + c0) i9 5 hv se sf ll op lk kp wc pn nw sh wk top1_17 tlk1_18 tkp1_19 twc1_20 tpn1_21 tnw1_22 tsh1_23 twk1_24 le1_25 rl1_26 fs1_27 qu1_28 gr1_29 f0 ⟨f1, f2, f3, f4, f5, _, f6⟩ ⟨f13, f14, f15, f16, f17, _, f18⟩ ⟨f75, f76, f77, f78, f79, f80⟩ (by omega) (by omega) (by omega) (Or.inr ⟨rfl, by omega, by omega⟩)) (cwV 4 hts gX6_helpfulShifts_X6_countHelpful rfl rfl rfl (by decide +kernel) ⟨Nat.le_of_ble_eq_true rfl, Nat.le_of_ble_eq_true rfl⟩) (ltw (by decide)) f0 rfl rfl hl.1 rfl (Nat.le_of_ble_eq_true rfl) dX6_helpfulShifts_51 ⟨Nat.le_of_ble_eq_true rfl, Nat.le_of_ble_eq_true rfl⟩ (fun z u h => h) (fun σ33 H locs hp34 hH => ?_)
            obtain ⟨⟨top1_36, tlk1_37, tkp1_38, twc1_39, tpn1_40, tnw1_41, tsh1_42, twk1_43, le1_44, rl1_45, fs1_46, qu1_47, gr1_48, ⟨f13, f14, f15, f16, f17, ro49, f18⟩, ⟨f75, f76, f77, f78, f79, f80⟩⟩, fr35⟩ := hp34
            have f0 : σ33 0 = oB 4 [.ref (xad E 1), .ref (xad E 7), .ref (xad E 13), .ref (xad E 19), .int (iZ (b2 hv)), .ref (xad E 73), .ref (xad E 75), .ref (xad E 81), .int (iZ se), .int (iZ sf), .ref (xad E 84), .int (iZ ll)] := (fr35 0 (by omega) (by omega)).trans f0
            have f1 : σ33 1 = oB 0 [.ref (xad E 2), .ref (xad E 3), .ref (xad E 4), .ref (xad E 5), .ref (xad E 6), .int (iZ pn), .int (iZ nw), .int (iZ sh), .long (lZ wk)] := (fr35 1 (by omega) (by omega)).trans f1
            have f2 : σ33 2 = aI E 25 op := (fr35 2 (by omega) (by omega)).trans f2
            have f3 : σ33 3 = aI E 25 lk := (fr35 3 (by omega) (by omega)).trans f3
            have f4 : σ33 4 = aI E 6 kp := (fr35 4 (by omega) (by omega)).trans f4
            have f5 : σ33 5 = aI E 3 wc := (fr35 5 (by omega) (by omega)).trans f5
            have f6 : σ33 6 = aI E 5 ro1 := (fr35 6 (by omega) (by omega)).trans f6
            have hq2 := hpF_b (op := op) (lk := lk) (kp := kp) (wc := wc) (pn := pn) (nw := nw) (w := w) (cell := r * 5 + c0) (first := i9) (strd := 5)
            refine x_iadd hx hb dX6_helpfulShifts_54 ?_
            refine lv_istore (lv' := [(5, .int (iZ ((h9 + (hpF op lk kp wc pn nw w (r * 5 + c0) (i9 * 5) 1)) + (hpF op lk kp wc pn nw w (r * 5 + c0) i9 5)))), (6, .int (iZ i9)), (4, .int (iZ (r * 5 + c0))), (0, .ref (xad E 0)), (1, .int (iZ w)), (2, .int (iZ r)), (3, .int (iZ c0))]) hx hb dX6_helpfulShifts_55 hl (by decide) rfl (fun ls hl => ?_)
            refine x_iinc (lv' := [(6, .int (iZ (i9 + 1))), (5, .int (iZ ((h9 + (hpF op lk kp wc pn nw w (r * 5 + c0) (i9 * 5) 1)) + (hpF op lk kp wc pn nw w (r * 5 + c0) i9 5)))), (4, .int (iZ (r * 5 + c0))), (0, .ref (xad E 0)), (1, .int (iZ w)), (2, .int (iZ r)), (3, .int (iZ c0))]) hx hb dX6_helpfulShifts_57 hl (k := 1) rfl (by decide) rfl (fun ls hl => ?_)
            refine lv_goto (tgt := 19) hx hb dX6_helpfulShifts_60 (by decide) ?_
            exact ih19 ((h9 + (hpF op lk kp wc pn nw w (r * 5 + c0) (i9 * 5) 1)) + (hpF op lk kp wc pn nw w (r * 5 + c0) i9 5)) (i9 + 1) top1_36 tlk1_37 tkp1_38 twc1_39 ro49 tpn1_40 tnw1_41 tsh1_42 twk1_43 le1_44 rl1_45 fs1_46 qu1_47 gr1_48 σ33 _ _ _ (by omega) (by omega) (by rw [smK_s (by omega), ← hh9]; exact Int.add_assoc _ _ _) f0 f1 f2 f3 f4 f5 f6 f13 f14 f15 f16 f17 f18 f75 f76 f77 f78 f79 f80 (fun j hj0 hj1 => ((fr35 j (by omega) (by omega)).trans ((fr16 j (by omega) (by omega)).trans (fr12 j (by omega) (by omega))))) hH (lv_sub hl [0, 1, 2, 3, 4, 5, 6] rfl)
      exact K19 6 0 0 top tlk tkp twc ro2 tpn tnw tsh twk le rl fs qu gr σ _ _ _ (by first | omega | decide) (by omega) (by rfl) f0 f1 f2 f3 f4 f5 f6 f13 f14 f15 f16 f17 f18 f75 f76 f77 f78 f79 f80 (fun j _ _ => rfl) hH (lv_sub hl [0, 1, 2, 3, 4, 5, 6] rfl)

def rm_X6_walkedTotal : Room := { frames := 0, cells := 0, slots := 0, locals := 0 }
set_option maxRecDepth 100000 in
set_option maxHeartbeats 4000000 in
theorem c_X6_walkedTotal (l : Launch) (E : xE) (ST : xST) (hSF : SF ST) (σ : xW) (hv : Bool) (se : Int) (sf : Int) (ll : Int) (op : Int → Int) (lk : Int → Int) (kp : Int → Int) (wc : Int → Int) (pn : Int) (nw : Int) (sh : Int) (wk : Int) (hr0 : mn E σ hv se sf ll) (hr1 : bd E σ 1 op lk kp wc pn nw sh wk) : CL l E ST yX6_walkedTotal wsX6_walkedTotal rm_X6_walkedTotal [.ref (xad E 0)] σ (fun z (u : xW) => z = lZ wk ∧ u = σ) := by
  have f0 : σ 0 = oB 4 [.ref (xad E 1), .ref (xad E 7), .ref (xad E 13), .ref (xad E 19), .int (iZ (b2 hv)), .ref (xad E 73), .ref (xad E 75), .ref (xad E 81), .int (iZ se), .int (iZ sf), .ref (xad E 84), .int (iZ ll)] := hr0
  obtain ⟨f1, f2, f3, f4, f5, ro1, f6⟩ := hr1
  refine CL_of (by decide) rfl (Nat.le_of_ble_eq_true rfl) ?_
  intro p e s m args below meth c Q ls G hH hl hQ
  obtain ⟨hx, hb, hml, hown, hts, hK, hST, hlocks, hr, hno⟩ := G
  have hOK := hSF.1
  have hown : s.vm.findClass RX6 = some m.cls := hown
  have hl : lv_has ls 1 [(0, .ref (xad E 0))] := hl
  have hinX1 : ∀ w ∈ u_ws RX1 TX1 9, w ∈ wsX6_walkedTotal := fun w h => (List.mem_cons_of_mem _ (List.mem_append_right _ h))
  have hinX6 : ∀ w ∈ u_ws RX6 TX6 12, w ∈ wsX6_walkedTotal := fun w h => (List.mem_cons_of_mem _ (List.mem_append_left _ (List.mem_append_right _ h)))
  refine lv_aload_n hx hb dX6_walkedTotal_0 rfl (lv_at hl 0 rfl) ?_
  refine x_get hx hb hts hown hK hH 0 (ltw (by decide)) f0 hinX6 rfl 0 (by decide) (List.mem_of_getElem? (i := 1) rfl) rfl dX6_walkedTotal_1 ?_
  refine x_get hx hb hts hown hK hH 1 (ltw (by decide)) f1 hinX1 rfl 8 (by decide) (List.mem_of_getElem? (i := 2) rfl) rfl dX6_walkedTotal_4 ?_
  subst hQ
  exact x_lret hx hb hr hlocks hH (Nat.le_of_ble_eq_true rfl) (Nat.le_of_ble_eq_true rfl) ⟨(show (lZ wk) = (lZ wk) from (by rfl)), rfl⟩ dX6_walkedTotal_7

def rm_X6_meanOpenings : Room := { frames := 1, cells := 0, slots := 0, locals := 20 }
set_option maxRecDepth 100000 in
set_option maxHeartbeats 4000000 in
theorem c_X6_meanOpenings (l : Launch) (E : xE) (ST : xST) (hSF : SF ST) (σ : xW) (hv : Bool) (se : Int) (sf : Int) (ll : Int) (op : Int → Int) (lk : Int → Int) (kp : Int → Int) (wc : Int → Int) (pn : Int) (nw : Int) (sh : Int) (wk : Int) (hr0 : mn E σ hv se sf ll) (hr1 : bd E σ 1 op lk kp wc pn nw sh wk) (hB : BI op lk kp wc pn nw) : CD l E ST yX6_meanOpenings wsX6_meanOpenings rm_X6_meanOpenings [.ref (xad E 0)] σ (fun z (u : xW) => z = meD (smK (fun c => bcZ (op c)) 25) ∧ u = σ) := by
  have f0 : σ 0 = oB 4 [.ref (xad E 1), .ref (xad E 7), .ref (xad E 13), .ref (xad E 19), .int (iZ (b2 hv)), .ref (xad E 73), .ref (xad E 75), .ref (xad E 81), .int (iZ se), .int (iZ sf), .ref (xad E 84), .int (iZ ll)] := hr0
  obtain ⟨f1, f2, f3, f4, f5, ro1, f6⟩ := hr1
  refine CD_of (by decide) rfl (Nat.le_of_ble_eq_true rfl) ?_
  intro p e s m args below meth c Q ls G hH hl hQ
  obtain ⟨hx, hb, hml, hown, hts, hK, hST, hlocks, hr, hno⟩ := G
  have hOK := hSF.1
  have hown : s.vm.findClass RX6 = some m.cls := hown
  have hl : lv_has ls 3 [(0, .ref (xad E 0))] := hl
  have hinX1 : ∀ w ∈ u_ws RX1 TX1 9, w ∈ wsX6_meanOpenings := fun w h => (List.mem_cons_of_mem _ (List.mem_append_right _ h))
  have hinX6 : ∀ w ∈ u_ws RX6 TX6 12, w ∈ wsX6_meanOpenings := fun w h => (List.mem_cons_of_mem _ (List.mem_append_left _ (List.mem_append_right _ h)))
  obtain ⟨hop, hlk, hkp, hwc, hpn, hnw⟩ := id hB
  refine x_iconst hx hb dX6_meanOpenings_0 ?_
  refine lv_istore_n (lv' := [(1, .int (iZ 0)), (0, .ref (xad E 0))]) hx hb dX6_meanOpenings_1 rfl hl (by decide) rfl (fun ls hl => ?_)
  refine x_iconst hx hb dX6_meanOpenings_2 ?_
  refine lv_istore_n (lv' := [(2, .int (iZ 0)), (1, .int (iZ 0)), (0, .ref (xad E 0))]) hx hb dX6_meanOpenings_3 rfl hl (by decide) rfl (fun ls hl => ?_)
  have K4 : ∀ (nK : Nat) (su i9 : Int) (H : Heap) (locs : List Loc) (ls : Array Slot), (25 - i9).toNat < nK → ((0 ≤ i9 ∧ i9 ≤ 25) ∧ 0 ≤ su ∧ su ≤ 4 * i9) → (su = smK (fun c => bcZ (op c)) i9) → Hx E (xA E s.heap.size) s.heap σ H locs → lv_has ls 3 [(2, .int (iZ i9)), (1, .int (iZ su)), (0, .ref (xad E 0))] → W p l e rm_X6_meanOpenings s m args below meth c H locs 0 0 Q (F0 m 4 ls []) := by
    intro n4
    induction n4 with
    | zero =>
      intro su i9 H locs ls hm
      exact absurd hm (by first | exact Nat.not_lt_zero _ | omega)
    | succ n4 ih4 =>
      intro su i9 H locs ls hm4 hi9 hsu  hH hl
      refine lv_iload_n hx hb dX6_meanOpenings_4 rfl (lv_at hl 0 rfl) ?_
      refine x_bipush hx hb dX6_meanOpenings_5 (by decide) ?_
      refine x_icmp_ge (tgt := 31) hx hb dX6_meanOpenings_7 (by decide) (by omega) (by decide) (fun c7 => ?_) (fun c7 => ?_)
      · refine lv_iload_n hx hb dX6_meanOpenings_31 rfl (lv_at hl 1 rfl) ?_
        refine lv_i2d hx hb dX6_meanOpenings_32 ?_
        refine lv_ldc2d (v := 4627730092099895296) hx hb hown (hts _ (List.mem_of_getElem? (i := 3) rfl)) dX6_meanOpenings_33 ?_
        refine lv_ddiv hx hb dX6_meanOpenings_36 (by exact meD_n (by omega) (by omega)) ?_
        subst hQ
        exact x_dret hx hb hr hlocks hH (Nat.le_of_ble_eq_true rfl) (Nat.le_of_ble_eq_true rfl) ⟨(show (FP.ddiv (FP.i2d (iZ su)) 4627730092099895296) = (meD (smK (fun c => bcZ (op c)) 25)) from (by have e9 : i9 = 25 := (by omega); subst e9; rw [← hsu]; rfl)), rfl⟩ dX6_meanOpenings_37
      · refine lv_iload_n hx hb dX6_meanOpenings_10 rfl (lv_at hl 1 rfl) ?_
        refine lv_aload_n hx hb dX6_meanOpenings_11 rfl (lv_at hl 2 rfl) ?_
        refine x_get hx hb hts hown hK hH 0 (ltw (by decide)) f0 hinX6 rfl 0 (by decide) (List.mem_of_getElem? (i := 1) rfl) rfl dX6_meanOpenings_12 ?_
        refine x_get hx hb hts hown hK hH 1 (ltw (by decide)) f1 hinX1 rfl 0 (by decide) (List.mem_of_getElem? (i := 2) rfl) rfl dX6_meanOpenings_15 ?_
        refine lv_iload_n hx hb dX6_meanOpenings_18 rfl (lv_at hl 0 rfl) ?_
        refine x_iald hx hb hK hH 2 (ltw (by decide)) f2 (by omega) (by omega) (by omega) dX6_meanOpenings_19 ?_
        have hv2 := hop i9
        refine x_cSID (As := [.int (iZ (op i9))]) (rest := [.int (iZ su)]) hx hb hml hts hown hK hST hOK hH (c_J6_bitCount_0f7a4 l E ST hSF σ (op i9)  ) (va_cwS 1 hts gX6_meanOpenings_J6_bitCount_0f7a4 rfl rfl rfl (by decide +kernel) ⟨Nat.le_of_ble_eq_true rfl, Nat.le_of_ble_eq_true rfl⟩) rfl hl.1 rfl (Nat.le_of_ble_eq_true rfl) dX6_meanOpenings_20 ⟨Nat.le_of_ble_eq_true rfl, Nat.le_of_ble_eq_true rfl⟩ (fun z u h => h) (fun H locs hH => ?_)
        have hbc := bcZ_b (hop i9).1 (hop i9).2
        refine x_iadd hx hb dX6_meanOpenings_23 ?_
        refine lv_istore_n (lv' := [(1, .int (iZ (su + (bcZ (op i9))))), (2, .int (iZ i9)), (0, .ref (xad E 0))]) hx hb dX6_meanOpenings_24 rfl hl (by decide) rfl (fun ls hl => ?_)
        refine x_iinc (lv' := [(2, .int (iZ (i9 + 1))), (1, .int (iZ (su + (bcZ (op i9))))), (0, .ref (xad E 0))]) hx hb dX6_meanOpenings_25 hl (k := 1) rfl (by decide) rfl (fun ls hl => ?_)
        refine lv_goto (tgt := 4) hx hb dX6_meanOpenings_28 (by decide) ?_
        exact ih4 (su + (bcZ (op i9))) (i9 + 1) _ _ _ (by omega) (by omega) (by rw [smK_s (by omega), ← hsu])  hH (lv_sub hl [0, 1, 2] rfl)
  exact K4 26 0 0 _ _ _ (by first | omega | decide) (by omega) (by rfl)  hH (lv_sub hl [0, 1, 2] rfl)

def rm_X6_reachableShare : Room := { frames := 7, cells := 1, slots := 6, locals := 111 }
set_option maxRecDepth 100000 in
set_option maxHeartbeats 4000000 in
theorem c_X6_reachableShare (l : Launch) (E : xE) (ST : xST) (hSF : SF ST) (htr : l.stackTraces = false) (σ : xW) (w : Int) (hv : Bool) (se : Int) (sf : Int) (ll : Int) (op : Int → Int) (lk : Int → Int) (kp : Int → Int) (wc : Int → Int) (pn : Int) (nw : Int) (sh : Int) (wk : Int) (le : Int → Int) (rl : Int → Int) (fs : Int → Int) (qu : Int → Int) (gr : Int → Int) (hr0 : mn E σ hv se sf ll) (hr1 : bd E σ 1 op lk kp wc pn nw sh wk) (hr2 : sr E σ le rl fs qu gr) (hB : BI op lk kp wc pn nw) (hw9 : rg w) : XF l E ST yX6_reachableShare wsX6_reachableShare rm_X6_reachableShare [.ref (xad E 0), .int (iZ w)] σ (fun z (u : xW) => z = shF (cnbK (fun c => decide (dz (Gw op lk kp w) (wc w) c < 25)) 25) ∧ (∃ (le1 rl1 fs1 qu1 gr1 : Int → Int), mn E u hv se sf ll ∧ bd E u 1 op lk kp wc pn nw sh wk ∧ sr E u le1 rl1 fs1 qu1 gr1 ∧ (0 ≤ w ∧ w < nw)) ∧ ∀ j : Nat, (j < 75 ∨ 75 + 6 ≤ j) → u j = σ j) (fun (n : String) (u : xW) => ((n = "java/lang/IndexOutOfBoundsException" ∧ ¬ (0 ≤ w ∧ w < nw))) ∧ (∃ (le1 rl1 fs1 qu1 gr1 : Int → Int), mn E u hv se sf ll ∧ bd E u 1 op lk kp wc pn nw sh wk ∧ sr E u le1 rl1 fs1 qu1 gr1) ∧ ∀ j : Nat, (j < 75 ∨ 75 + 6 ≤ j) → u j = σ j) := by
  have f0 : σ 0 = oB 4 [.ref (xad E 1), .ref (xad E 7), .ref (xad E 13), .ref (xad E 19), .int (iZ (b2 hv)), .ref (xad E 73), .ref (xad E 75), .ref (xad E 81), .int (iZ se), .int (iZ sf), .ref (xad E 84), .int (iZ ll)] := hr0
  obtain ⟨f1, f2, f3, f4, f5, ro1, f6⟩ := hr1
  obtain ⟨f75, f76, f77, f78, f79, f80⟩ := hr2
  refine XF_of (by decide) rfl (Nat.le_of_ble_eq_true rfl) ?_
  intro p e s m args below meth c Q ls G hH hl hQ
  obtain ⟨hx, hb, hml, hown, hts, hK, hST, hlocks, hr, hno⟩ := G
  have hOK := hSF.1
  have hown : s.vm.findClass RX6 = some m.cls := hown
  have hl : lv_has ls 2 [(0, .ref (xad E 0)), (1, .int (iZ w))] := hl
  have hinX6 : ∀ w ∈ u_ws RX6 TX6 12, w ∈ wsX6_reachableShare := fun w h => (List.mem_cons_of_mem _ (List.mem_append_left _ (List.mem_append_left _ (List.mem_append_left _ (List.mem_append_right _ h)))))
  obtain ⟨hop, hlk, hkp, hwc, hpn, hnw⟩ := id hB
  have hdr := dz_rg (G := Gw op lk kp w) (st := wc w) Gw_ok (hwc w)
  refine lv_aload_n hx hb dX6_reachableShare_0 rfl (lv_at hl 0 rfl) ?_
  refine x_get hx hb hts hown hK hH 0 (ltw (by decide)) f0 hinX6 rfl 6 (by decide) (List.mem_of_getElem? (i := 1) rfl) rfl dX6_reachableShare_1 ?_
  refine lv_aload_n hx hb dX6_reachableShare_4 rfl (lv_at hl 0 rfl) ?_
  refine x_get hx hb hts hown hK hH 0 (ltw (by decide)) f0 hinX6 rfl 0 (by decide) (List.mem_of_getElem? (i := 2) rfl) rfl dX6_reachableShare_5 ?_
  refine lv_aload_n hx hb dX6_reachableShare_8 rfl (lv_at hl 0 rfl) ?_
  refine lv_iload_n hx hb dX6_reachableShare_9 rfl (lv_at hl 1 rfl) ?_
  refine x_cXVIE (As := [.int (iZ w)]) (rest := [.ref (xad E 1), .ref (xad E 75)]) hx hb hml hts hown hK hST hOK hH 0 (c_X6_needWalker l E ST hSF htr σ w hv se sf ll op lk kp wc pn nw sh wk f0 ⟨f1, f2, f3, f4, f5, _, f6⟩ (by omega) (by omega)) (cwV 1 hts gX6_reachableShare_X6_needWalker rfl rfl rfl (by decide +kernel) ⟨Nat.le_of_ble_eq_true rfl, Nat.le_of_ble_eq_true rfl⟩) (ltw (by decide)) f0 rfl rfl hl.1 rfl (Nat.le_of_ble_eq_true rfl) dX6_reachableShare_10 ⟨Nat.le_of_ble_eq_true rfl, Nat.le_of_ble_eq_true rfl⟩ ?_ (fun z u h => h) (fun σ2 H locs hp3 hH => ?_)
  · intro nx ce q9 σ2 H locs hp3 hH hce hcv hcl
    subst hQ
    obtain ⟨hn, hu⟩ := hp3
    rw [hu] at hH
    exact x_out hno hlocks hH hce hcv hcl ⟨(by simp_all <;> omega), ⟨le, rl, fs, qu, gr, f0, ⟨f1, f2, f3, f4, f5, _, f6⟩, ⟨f75, f76, f77, f78, f79, f80⟩⟩, fun j hj0 => rfl⟩ (Nat.le_of_ble_eq_true rfl) (Nat.le_of_ble_eq_true rfl)
  · obtain ⟨hf4, hu5⟩ := hp3
    rw [hu5] at hH
    refine x_cVV (As := [.ref (xad E 1), .int (iZ w)]) (rest := []) hx hb hml hts hown hK hST hOK hH 75 (c_X5_findPaths l E ST hSF σ 1 w op lk kp wc pn nw sh wk le rl fs qu gr ⟨f1, f2, f3, f4, f5, _, f6⟩ ⟨f75, f76, f77, f78, f79, f80⟩ (by omega) (by omega) (by omega)) (cwV 2 hts gX6_reachableShare_X5_findPaths rfl rfl rfl (by decide +kernel) ⟨Nat.le_of_ble_eq_true rfl, Nat.le_of_ble_eq_true rfl⟩) (ltw (by decide)) f75 rfl rfl hl.1 rfl (Nat.le_of_ble_eq_true rfl) dX6_reachableShare_13 ⟨Nat.le_of_ble_eq_true rfl, Nat.le_of_ble_eq_true rfl⟩ (fun σ7 H locs hp8 hH => ?_)
    obtain ⟨⟨fs1_10, qu1_11, ⟨f75, f76, f77, f78, f79, f80⟩, hf12⟩, fr9⟩ := hp8
    have f0 : σ7 0 = oB 4 [.ref (xad E 1), .ref (xad E 7), .ref (xad E 13), .ref (xad E 19), .int (iZ (b2 hv)), .ref (xad E 73), .ref (xad E 75), .ref (xad E 81), .int (iZ se), .int (iZ sf), .ref (xad E 84), .int (iZ ll)] := (fr9 0 (by omega) (by omega) (by omega)).trans f0
    have f1 : σ7 1 = oB 0 [.ref (xad E 2), .ref (xad E 3), .ref (xad E 4), .ref (xad E 5), .ref (xad E 6), .int (iZ pn), .int (iZ nw), .int (iZ sh), .long (lZ wk)] := (fr9 1 (by omega) (by omega) (by omega)).trans f1
    have f2 : σ7 2 = aI E 25 op := (fr9 2 (by omega) (by omega) (by omega)).trans f2
    have f3 : σ7 3 = aI E 25 lk := (fr9 3 (by omega) (by omega) (by omega)).trans f3
    have f4 : σ7 4 = aI E 6 kp := (fr9 4 (by omega) (by omega) (by omega)).trans f4
    have f5 : σ7 5 = aI E 3 wc := (fr9 5 (by omega) (by omega) (by omega)).trans f5
    have f6 : σ7 6 = aI E 5 ro1 := (fr9 6 (by omega) (by omega) (by omega)).trans f6
    refine lv_aload_n hx hb dX6_reachableShare_16 rfl (lv_at hl 0 rfl) ?_
    refine x_get hx hb hts hown hK hH 0 (ltw (by decide)) f0 hinX6 rfl 6 (by decide) (List.mem_of_getElem? (i := 1) rfl) rfl dX6_reachableShare_17 ?_
    refine x_cVID (As := []) (rest := []) hx hb hml hts hown hK hST hOK hH 75 (c_X5_countReached l E ST hSF σ7 (dz (Gw op lk kp w) (wc w)) rl fs1_10 qu1_11 gr ⟨f75, f76, f77, f78, f79, f80⟩ (by assumption)) (cwV 0 hts gX6_reachableShare_X5_countReached rfl rfl rfl (by decide +kernel) ⟨Nat.le_of_ble_eq_true rfl, Nat.le_of_ble_eq_true rfl⟩) (ltw (by decide)) f75 rfl rfl hl.1 rfl (Nat.le_of_ble_eq_true rfl) dX6_reachableShare_20 ⟨Nat.le_of_ble_eq_true rfl, Nat.le_of_ble_eq_true rfl⟩ (fun z u h => h) (fun H locs hH => ?_)
    have hcb := cnbK_b (P := fun c => decide (dz (Gw op lk kp w) (wc w) c < 25)) (n := 25) (by decide)
    refine lv_i2f hx hb dX6_reachableShare_23 ?_
    refine lv_ldcf (v := 1103626240) hx hb hown (hts _ (List.mem_of_getElem? (i := 3) rfl)) dX6_reachableShare_24 ?_
    refine lv_fdiv hx hb dX6_reachableShare_26 (by exact shF_n hcb.1 hcb.2) ?_
    subst hQ
    exact x_freX hx hb hr hlocks hH (Nat.le_of_ble_eq_true rfl) (Nat.le_of_ble_eq_true rfl) ⟨(show (FP.fdiv (FP.i2f (iZ (cnbK (fun c => decide ((dz (Gw op lk kp w) (wc w)) c < 25)) 25))) 1103626240) = (shF (cnbK (fun c => decide (dz (Gw op lk kp w) (wc w) c < 25)) 25)) from (by rfl)), ⟨(dz (Gw op lk kp w) (wc w)), rl, fs1_10, qu1_11, gr, f0, ⟨f1, f2, f3, f4, f5, _, f6⟩, ⟨f75, f76, f77, f78, f79, f80⟩, (by first | assumption | omega | simp_all)⟩, fun j hj0 => (fr9 j (by omega) (by omega) (by omega))⟩ dX6_reachableShare_27

def rm_X6_isConsistent : Room := { frames := 5, cells := 0, slots := 0, locals := 121 }
set_option maxRecDepth 100000 in
set_option maxHeartbeats 4000000 in
theorem c_X6_isConsistent (l : Launch) (E : xE) (ST : xST) (hSF : SF ST) (σ : xW) (hv : Bool) (se : Int) (sf : Int) (ll : Int) (op : Int → Int) (lk : Int → Int) (kp : Int → Int) (wc : Int → Int) (pn : Int) (nw : Int) (sh : Int) (wk : Int) (le : Int → Int) (rl : Int → Int) (fs : Int → Int) (qu : Int → Int) (gr : Int → Int) (hr0 : mn E σ hv se sf ll) (hr1 : bd E σ 1 op lk kp wc pn nw sh wk) (hr2 : sr E σ le rl fs qu gr) (hB : BI op lk kp wc pn nw) : CI l E ST yX6_isConsistent wsX6_isConsistent rm_X6_isConsistent [.ref (xad E 0)] σ (fun (z : Int) (u : xW) => z = b2 true ∧ (∃ (le1 rl1 fs1 qu1 gr1 : Int → Int), mn E u hv se sf ll ∧ bd E u 1 op lk kp wc pn nw sh wk ∧ sr E u le1 rl1 fs1 qu1 gr1) ∧ ∀ j : Nat, (j < 75 ∨ 75 + 6 ≤ j) → u j = σ j) := by
  have f0 : σ 0 = oB 4 [.ref (xad E 1), .ref (xad E 7), .ref (xad E 13), .ref (xad E 19), .int (iZ (b2 hv)), .ref (xad E 73), .ref (xad E 75), .ref (xad E 81), .int (iZ se), .int (iZ sf), .ref (xad E 84), .int (iZ ll)] := hr0
  obtain ⟨f1, f2, f3, f4, f5, ro1, f6⟩ := hr1
  obtain ⟨f75, f76, f77, f78, f79, f80⟩ := hr2
  refine CI_of (by decide) rfl (Nat.le_of_ble_eq_true rfl) ?_
  intro p e s m args below meth c Q ls G hH hl hQ
  obtain ⟨hx, hb, hml, hown, hts, hK, hST, hlocks, hr, hno⟩ := G
  have hOK := hSF.1
  have hown : s.vm.findClass RX6 = some m.cls := hown
  have hl : lv_has ls 2 [(0, .ref (xad E 0))] := hl
  have hinX1 : ∀ w ∈ u_ws RX1 TX1 9, w ∈ wsX6_isConsistent := fun w h => (List.mem_cons_of_mem _ (List.mem_append_left _ (List.mem_append_right _ h)))
  have hinX6 : ∀ w ∈ u_ws RX6 TX6 12, w ∈ wsX6_isConsistent := fun w h => (List.mem_cons_of_mem _ (List.mem_append_left _ (List.mem_append_left _ (List.mem_append_right _ h))))
  obtain ⟨hop, hlk, hkp, hwc, hpn, hnw⟩ := id hB
  have hng : 0 ≤ ngZ op ∧ ngZ op ≤ 25 := cnbN_le _ 25
  refine x_iconst hx hb dX6_isConsistent_0 ?_
  refine lv_istore_n (lv' := [(1, .int (iZ 0)), (0, .ref (xad E 0))]) hx hb dX6_isConsistent_1 rfl hl (by decide) rfl (fun ls hl => ?_)
  have K2 : ∀ (nK : Nat) (i9 : Int) (lx2 rx2 fx2 qx2 gx2 : Int → Int) (σ1 : xW) (H : Heap) (locs : List Loc) (ls : Array Slot), (nw - i9).toNat < nK → (0 ≤ i9 ∧ i9 ≤ nw) → σ1 0 = oB 4 [.ref (xad E 1), .ref (xad E 7), .ref (xad E 13), .ref (xad E 19), .int (iZ (b2 hv)), .ref (xad E 73), .ref (xad E 75), .ref (xad E 81), .int (iZ se), .int (iZ sf), .ref (xad E 84), .int (iZ ll)] → σ1 1 = oB 0 [.ref (xad E 2), .ref (xad E 3), .ref (xad E 4), .ref (xad E 5), .ref (xad E 6), .int (iZ pn), .int (iZ nw), .int (iZ sh), .long (lZ wk)] → σ1 2 = aI E 25 op → σ1 3 = aI E 25 lk → σ1 4 = aI E 6 kp → σ1 5 = aI E 3 wc → σ1 6 = aI E 5 ro1 → σ1 75 = oB 3 [.ref (xad E 76), .ref (xad E 77), .ref (xad E 78), .ref (xad E 79), .ref (xad E 80)] → σ1 76 = aI E 25 lx2 → σ1 77 = aI E 25 rx2 → σ1 78 = aI E 25 fx2 → σ1 79 = aI E 25 qx2 → σ1 80 = aI E 25 gx2 → (∀ j : Nat, (j < 75 ∨ 75 + 6 ≤ j) → σ1 j = σ j) → Hx E (xA E s.heap.size) s.heap σ1 H locs → lv_has ls 2 [(1, .int (iZ i9)), (0, .ref (xad E 0))] → W p l e rm_X6_isConsistent s m args below meth c H locs 0 0 Q (F0 m 2 ls []) := by
    intro n2
    induction n2 with
    | zero =>
      intro i9 lx2 rx2 fx2 qx2 gx2 σ1 H locs ls hm
      exact absurd hm (by first | exact Nat.not_lt_zero _ | omega)
    | succ n2 ih2 =>
      intro i9 lx2 rx2 fx2 qx2 gx2 σ1 H locs ls hm2 hi9 f0 f1 f2 f3 f4 f5 f6 f75 f76 f77 f78 f79 f80 fr2 hH hl
      refine lv_iload_n hx hb dX6_isConsistent_2 rfl (lv_at hl 0 rfl) ?_
      refine lv_aload_n hx hb dX6_isConsistent_3 rfl (lv_at hl 1 rfl) ?_
      refine x_get hx hb hts hown hK hH 0 (ltw (by decide)) f0 hinX6 rfl 0 (by decide) (List.mem_of_getElem? (i := 1) rfl) rfl dX6_isConsistent_4 ?_
      refine x_get hx hb hts hown hK hH 1 (ltw (by decide)) f1 hinX1 rfl 6 (by decide) (List.mem_of_getElem? (i := 2) rfl) rfl dX6_isConsistent_7 ?_
      refine x_icmp_ge (tgt := 36) hx hb dX6_isConsistent_10 (by decide) (by omega) (by omega) (fun c10 => ?_) (fun c10 => ?_)
      · refine lv_aload_n hx hb dX6_isConsistent_36 rfl (lv_at hl 1 rfl) ?_
        refine x_get hx hb hts hown hK hH 0 (ltw (by decide)) f0 hinX6 rfl 0 (by decide) (List.mem_of_getElem? (i := 1) rfl) rfl dX6_isConsistent_37 ?_
        refine x_cVID (As := []) (rest := []) hx hb hml hts hown hK hST hOK hH 1 (c_X1_keyPlacesExist l E ST hSF σ1 1 op lk kp wc pn nw sh wk ⟨f1, f2, f3, f4, f5, _, f6⟩ (by omega) (by omega)) (cwV 0 hts gX6_isConsistent_X1_keyPlacesExist rfl rfl rfl (by decide +kernel) ⟨Nat.le_of_ble_eq_true rfl, Nat.le_of_ble_eq_true rfl⟩) (ltw (by decide)) f1 rfl rfl hl.1 rfl (Nat.le_of_ble_eq_true rfl) dX6_isConsistent_40 ⟨Nat.le_of_ble_eq_true rfl, Nat.le_of_ble_eq_true rfl⟩ (fun z u h => h) (fun H locs hH => ?_)
        refine x_if_eq (tgt := 75) hx hb dX6_isConsistent_43 (by decide) (rg_b2 _) (fun c43 => ?_) (fun c43 => ?_)
        · exact absurd c43 (by decide)
        · refine lv_aload_n hx hb dX6_isConsistent_46 rfl (lv_at hl 1 rfl) ?_
          refine x_get hx hb hts hown hK hH 0 (ltw (by decide)) f0 hinX6 rfl 6 (by decide) (List.mem_of_getElem? (i := 3) rfl) rfl dX6_isConsistent_47 ?_
          refine lv_aload_n hx hb dX6_isConsistent_50 rfl (lv_at hl 1 rfl) ?_
          refine x_get hx hb hts hown hK hH 0 (ltw (by decide)) f0 hinX6 rfl 0 (by decide) (List.mem_of_getElem? (i := 1) rfl) rfl dX6_isConsistent_51 ?_
          refine x_cVIE (As := [.ref (xad E 1)]) (rest := []) hx hb hml hts hown hK hST hOK hH 75 (c_X5_countGroups l E ST hSF σ1 1 op lk kp wc pn nw sh wk lx2 rx2 fx2 qx2 gx2 ⟨f1, f2, f3, f4, f5, _, f6⟩ ⟨f75, f76, f77, f78, f79, f80⟩ (by omega) (by omega)) (cwV 1 hts gX6_isConsistent_X5_countGroups rfl rfl rfl (by decide +kernel) ⟨Nat.le_of_ble_eq_true rfl, Nat.le_of_ble_eq_true rfl⟩) (ltw (by decide)) f75 rfl rfl hl.1 rfl (Nat.le_of_ble_eq_true rfl) dX6_isConsistent_54 ⟨Nat.le_of_ble_eq_true rfl, Nat.le_of_ble_eq_true rfl⟩ (fun z u h => h) (fun σ7 H locs hp8 hH => ?_)
          obtain ⟨⟨gr1_10, qu1_11, ⟨f75, f76, f77, f78, f79, f80⟩⟩, fr9⟩ := hp8
          have f0 : σ7 0 = oB 4 [.ref (xad E 1), .ref (xad E 7), .ref (xad E 13), .ref (xad E 19), .int (iZ (b2 hv)), .ref (xad E 73), .ref (xad E 75), .ref (xad E 81), .int (iZ se), .int (iZ sf), .ref (xad E 84), .int (iZ ll)] := (fr9 0 (by omega) (by omega)).trans f0
          have f1 : σ7 1 = oB 0 [.ref (xad E 2), .ref (xad E 3), .ref (xad E 4), .ref (xad E 5), .ref (xad E 6), .int (iZ pn), .int (iZ nw), .int (iZ sh), .long (lZ wk)] := (fr9 1 (by omega) (by omega)).trans f1
          have f2 : σ7 2 = aI E 25 op := (fr9 2 (by omega) (by omega)).trans f2
          have f3 : σ7 3 = aI E 25 lk := (fr9 3 (by omega) (by omega)).trans f3
          have f4 : σ7 4 = aI E 6 kp := (fr9 4 (by omega) (by omega)).trans f4
          have f5 : σ7 5 = aI E 3 wc := (fr9 5 (by omega) (by omega)).trans f5
          have f6 : σ7 6 = aI E 5 ro1 := (fr9 6 (by omega) (by omega)).trans f6
          refine lv_aload_n hx hb dX6_isConsistent_57 rfl (lv_at hl 1 rfl) ?_
          refine x_get hx hb hts hown hK hH 0 (ltw (by decide)) f0 hinX6 rfl 6 (by decide) (List.mem_of_getElem? (i := 3) rfl) rfl dX6_isConsistent_58 ?_
          refine lv_aload_n hx hb dX6_isConsistent_61 rfl (lv_at hl 1 rfl) ?_
          refine x_get hx hb hts hown hK hH 0 (ltw (by decide)) f0 hinX6 rfl 0 (by decide) (List.mem_of_getElem? (i := 1) rfl) rfl dX6_isConsistent_62 ?_
          refine x_cVIE (As := [.ref (xad E 1)]) (rest := [.int (iZ (ngZ op))]) hx hb hml hts hown hK hST hOK hH 75 (c_X5_countGroupsByMerging l E ST hSF σ7 1 op lk kp wc pn nw sh wk lx2 rx2 fx2 qu1_11 gr1_10 ⟨f1, f2, f3, f4, f5, _, f6⟩ ⟨f75, f76, f77, f78, f79, f80⟩ (by omega) (by omega)) (cwV 1 hts gX6_isConsistent_X5_countGroupsByMerging rfl rfl rfl (by decide +kernel) ⟨Nat.le_of_ble_eq_true rfl, Nat.le_of_ble_eq_true rfl⟩) (ltw (by decide)) f75 rfl rfl hl.1 rfl (Nat.le_of_ble_eq_true rfl) dX6_isConsistent_65 ⟨Nat.le_of_ble_eq_true rfl, Nat.le_of_ble_eq_true rfl⟩ (fun z u h => h) (fun σ14 H locs hp15 hH => ?_)
          obtain ⟨⟨gr1_17, ⟨f75, f76, f77, f78, f79, f80⟩⟩, fr16⟩ := hp15
          have f0 : σ14 0 = oB 4 [.ref (xad E 1), .ref (xad E 7), .ref (xad E 13), .ref (xad E 19), .int (iZ (b2 hv)), .ref (xad E 73), .ref (xad E 75), .ref (xad E 81), .int (iZ se), .int (iZ sf), .ref (xad E 84), .int (iZ ll)] := (fr16 0 (by omega)).trans f0
          have f1 : σ14 1 = oB 0 [.ref (xad E 2), .ref (xad E 3), .ref (xad E 4), .ref (xad E 5), .ref (xad E 6), .int (iZ pn), .int (iZ nw), .int (iZ sh), .long (lZ wk)] := (fr16 1 (by omega)).trans f1
          have f2 : σ14 2 = aI E 25 op := (fr16 2 (by omega)).trans f2
          have f3 : σ14 3 = aI E 25 lk := (fr16 3 (by omega)).trans f3
          have f4 : σ14 4 = aI E 6 kp := (fr16 4 (by omega)).trans f4
          have f5 : σ14 5 = aI E 3 wc := (fr16 5 (by omega)).trans f5
          have f6 : σ14 6 = aI E 5 ro1 := (fr16 6 (by omega)).trans f6
          refine x_icmp_ne (tgt := 75) hx hb dX6_isConsistent_68 (by decide) (by omega) (by omega) (fun c68 => ?_) (fun c68 => ?_)
          · exact absurd rfl c68
          · refine x_iconst hx hb dX6_isConsistent_71 ?_
            refine lv_goto (tgt := 76) hx hb dX6_isConsistent_72 (by decide) ?_
            subst hQ
            exact x_zret (b := true) hx hb hr hlocks hH (Nat.le_of_ble_eq_true rfl) (Nat.le_of_ble_eq_true rfl) ⟨congrArg b2 (show true = true from (by rfl)), ⟨lx2, rx2, fx2, qu1_11, gr1_17, f0, ⟨f1, f2, f3, f4, f5, _, f6⟩, ⟨f75, f76, f77, f78, f79, f80⟩⟩, fun j hj0 => ((fr16 j (by omega)).trans ((fr9 j (by omega) (by omega)).trans (fr2 j (by omega))))⟩ dX6_isConsistent_76
      · refine lv_aload_n hx hb dX6_isConsistent_13 rfl (lv_at hl 1 rfl) ?_
        refine x_get hx hb hts hown hK hH 0 (ltw (by decide)) f0 hinX6 rfl 6 (by decide) (List.mem_of_getElem? (i := 3) rfl) rfl dX6_isConsistent_14 ?_
        refine lv_aload_n hx hb dX6_isConsistent_17 rfl (lv_at hl 1 rfl) ?_
        refine x_get hx hb hts hown hK hH 0 (ltw (by decide)) f0 hinX6 rfl 0 (by decide) (List.mem_of_getElem? (i := 1) rfl) rfl dX6_isConsistent_18 ?_
        refine lv_iload_n hx hb dX6_isConsistent_21 rfl (lv_at hl 0 rfl) ?_
        refine x_cVIE (As := [.ref (xad E 1), .int (iZ i9)]) (rest := []) hx hb hml hts hown hK hST hOK hH 75 (c_X5_lengthsAgree l E ST hSF σ1 1 i9 op lk kp wc pn nw sh wk lx2 rx2 fx2 qx2 gx2 ⟨f1, f2, f3, f4, f5, _, f6⟩ ⟨f75, f76, f77, f78, f79, f80⟩ (by omega) (by omega) (by omega)) (cwV 2 hts gX6_isConsistent_X5_lengthsAgree rfl rfl rfl (by decide +kernel) ⟨Nat.le_of_ble_eq_true rfl, Nat.le_of_ble_eq_true rfl⟩) (ltw (by decide)) f75 rfl rfl hl.1 rfl (Nat.le_of_ble_eq_true rfl) dX6_isConsistent_22 ⟨Nat.le_of_ble_eq_true rfl, Nat.le_of_ble_eq_true rfl⟩ (fun z u h => h) (fun σ20 H locs hp21 hH => ?_)
        obtain ⟨⟨fs1_23, qu1_24, ⟨f75, f76, f77, f78, f79, f80⟩⟩, fr22⟩ := hp21
        have f0 : σ20 0 = oB 4 [.ref (xad E 1), .ref (xad E 7), .ref (xad E 13), .ref (xad E 19), .int (iZ (b2 hv)), .ref (xad E 73), .ref (xad E 75), .ref (xad E 81), .int (iZ se), .int (iZ sf), .ref (xad E 84), .int (iZ ll)] := (fr22 0 (by omega) (by omega) (by omega) (by omega)).trans f0
        have f1 : σ20 1 = oB 0 [.ref (xad E 2), .ref (xad E 3), .ref (xad E 4), .ref (xad E 5), .ref (xad E 6), .int (iZ pn), .int (iZ nw), .int (iZ sh), .long (lZ wk)] := (fr22 1 (by omega) (by omega) (by omega) (by omega)).trans f1
        have f2 : σ20 2 = aI E 25 op := (fr22 2 (by omega) (by omega) (by omega) (by omega)).trans f2
        have f3 : σ20 3 = aI E 25 lk := (fr22 3 (by omega) (by omega) (by omega) (by omega)).trans f3
        have f4 : σ20 4 = aI E 6 kp := (fr22 4 (by omega) (by omega) (by omega) (by omega)).trans f4
        have f5 : σ20 5 = aI E 3 wc := (fr22 5 (by omega) (by omega) (by omega) (by omega)).trans f5
        have f6 : σ20 6 = aI E 5 ro1 := (fr22 6 (by omega) (by omega) (by omega) (by omega)).trans f6
        refine x_if_ne (tgt := 30) hx hb dX6_isConsistent_25 (by decide) (rg_b2 _) (fun c25 => ?_) (fun c25 => ?_)
        · refine x_iinc (lv' := [(1, .int (iZ (i9 + 1))), (0, .ref (xad E 0))]) hx hb dX6_isConsistent_30 hl (k := 0) rfl (by decide) rfl (fun ls hl => ?_)
          refine lv_goto (tgt := 2) hx hb dX6_isConsistent_33 (by decide) ?_
          exact ih2 (i9 + 1) (dz (Gw op lk kp i9) (wc i9)) (dz (Gw op lk kp i9) (wc i9)) fs1_23 qu1_24 gx2 σ20 _ _ _ (by omega) (by first | omega | rfl | assumption | simp_all) f0 f1 f2 f3 f4 f5 f6 f75 f76 f77 f78 f79 f80 (fun j hj0 => ((fr22 j (by omega) (by omega) (by omega) (by omega)).trans (fr2 j (by omega)))) hH (lv_sub hl [0, 1] rfl)
        · exact absurd c25 (by decide)
  exact K2 (nw.toNat + 1) 0 le rl fs qu gr σ _ _ _ (by first | omega | decide) (by first | omega | rfl | assumption | simp_all) f0 f1 f2 f3 f4 f5 f6 f75 f76 f77 f78 f79 f80 (fun j _ => rfl) hH (lv_sub hl [0, 1] rfl)
