def rm_X7_mayEnter : Room := { frames := 2, cells := 0, slots := 0, locals := 42 }
set_option maxRecDepth 100000 in
set_option maxHeartbeats 4000000 in
theorem c_X7_mayEnter (l : Launch) (E : xE) (ST : xST) (hSF : SF ST) (σ : xW) (w : Int) (ce : Int) (op : Int → Int) (lk : Int → Int) (kp : Int → Int) (wc : Int → Int) (pn : Int) (nw : Int) (sh : Int) (wk : Int) (sv : Bool) (re : Int) (ea : Int) (fa : Int) (ty : Int) (li : Int) (th : Int) (sz : Int) (sp : Int) (wr : Int) (to : Int) (v : Int → Int) (hr0 : mo E σ sv re ea fa ty li th sz sp wr to) (hr1 : now E σ v) (hC : Cp v op lk kp wc pn nw sh wk) (hB : BI op lk kp wc pn nw) (hw : 0 ≤ w ∧ w < nw) (hc : 0 ≤ ce ∧ ce ≤ 24) : CI l E ST yX7_mayEnter wsX7_mayEnter rm_X7_mayEnter [.ref (xad E 85), .int (iZ w), .int (iZ ce)] σ (fun (z : Int) (u : xW) => z = b2 (decide (lk ce = -1 ∨ kp (lk ce) = 25 + w)) ∧ u = σ) := by
  have f85 : σ 85 = oB 5 [.ref (xad E 86), .ref (xad E 87), .ref (xad E 88), .ref (xad E 89), .ref (xad E 90), .int (iZ (b2 sv)), .int (iZ re), .int (iZ ea), .int (iZ fa), .ref (xad E 91), .ref (xad E 92), .ref (xad E 93), .int (iZ ty), .ref (xad E 94), .int (iZ li), .int (iZ th), .int (iZ sz), .int (iZ sp), .int (iZ wr), .int (iZ to), .ref (xad E 95)] := hr0
  have f86 : σ 86 = aI E 87 v := hr1
  refine CI_of (by decide) rfl (Nat.le_of_ble_eq_true rfl) ?_
  intro p e s m args below meth c Q ls G hH hl hQ
  obtain ⟨hx, hb, hml, hown, hts, hK, hST, hlocks, hr, hno⟩ := G
  have hOK := hSF.1
  have hown : s.vm.findClass RX7 = some m.cls := hown
  have hl : lv_has ls 4 [(0, .ref (xad E 85)), (1, .int (iZ w)), (2, .int (iZ ce))] := hl
  have hinX7 : ∀ w ∈ u_ws RX7 TX7 21, w ∈ wsX7_mayEnter := fun w h => (List.mem_cons_of_mem _ (List.mem_append_right _ h))
  obtain ⟨hop, hlk, hkp, hwc, hpn, hnw⟩ := id hB
  have hvR := hC.R
  have hv0 := hC.1.1
  refine lv_aload_n hx hb dX7_mayEnter_0 rfl (lv_at hl 0 rfl) ?_
  refine lv_iload_n hx hb dX7_mayEnter_1 rfl (lv_at hl 2 rfl) ?_
  refine x_iconst hx hb dX7_mayEnter_2 ?_
  refine x_cVID (As := [.int (iZ ce), .int (iZ 2)]) (rest := []) hx hb hml hts hown hK hST hOK hH 85 (c_X7_of l E ST hSF σ ce 2 sv re ea fa ty li th sz sp wr to v f85 f86 (by omega) (by omega)) (cwV 2 hts gX7_mayEnter_X7_of rfl rfl rfl (by decide +kernel) ⟨Nat.le_of_ble_eq_true rfl, Nat.le_of_ble_eq_true rfl⟩) (by decide) f85 rfl rfl hl.1 rfl (Nat.le_of_ble_eq_true rfl) dX7_mayEnter_3 ⟨Nat.le_of_ble_eq_true rfl, Nat.le_of_ble_eq_true rfl⟩ (fun z u h => h) (fun H locs hH => ?_)
  rw [hC.a2 (c := ce) (by omega) (by omega)]
  have hv4 := hlk ce
  refine lv_istore_n (lv' := [(3, .int (iZ (lk ce))), (0, .ref (xad E 85)), (1, .int (iZ w)), (2, .int (iZ ce))]) hx hb dX7_mayEnter_6 rfl hl (by decide) rfl (fun ls hl => ?_)
  refine lv_iload_n hx hb dX7_mayEnter_7 rfl (lv_at hl 0 rfl) ?_
  refine x_iconst hx hb dX7_mayEnter_8 ?_
  refine x_icmp_eq (tgt := 27) hx hb dX7_mayEnter_9 (by decide) (by omega) (by decide) (fun c9 => ?_) (fun c9 => ?_)
  · refine x_iconst hx hb dX7_mayEnter_27 ?_
    refine lv_goto (tgt := 32) hx hb dX7_mayEnter_28 (by decide) ?_
    subst hQ
    exact x_zret (b := true) hx hb hr hlocks hH (Nat.le_of_ble_eq_true rfl) (Nat.le_of_ble_eq_true rfl) ⟨congrArg b2 (show true = (decide (lk ce = -1 ∨ kp (lk ce) = 25 + w)) from (by first | exact (decide_eq_true (Or.inl c9)).symm | exact (decide_eq_true (Or.inr ((kM_w (by omega)).mp c24))).symm | exact (decide_eq_false (fun q => q.elim c9 (fun q => c24 ((kM_w (by omega)).mpr q)))).symm)), rfl⟩ dX7_mayEnter_32
  · refine lv_aload_n hx hb dX7_mayEnter_12 rfl (lv_at hl 1 rfl) ?_
    refine x_get hx hb hts hown hK hH 85 (by decide) f85 hinX7 rfl 0 (by decide) (List.mem_of_getElem? (i := 1) rfl) rfl dX7_mayEnter_13 ?_
    refine x_iconst hx hb dX7_mayEnter_16 ?_
    refine lv_iload_n hx hb dX7_mayEnter_17 rfl (lv_at hl 0 rfl) ?_
    refine x_iadd hx hb dX7_mayEnter_18 ?_
    refine x_iald hx hb hK hH 86 (by decide) f86 (by omega) (by omega) (by omega) dX7_mayEnter_19 ?_
    have hv5 := hvR (3 + (lk ce))
    rw [hC.key (k := lk ce) (by omega) (by omega)]
    have hkr := kM_rg (hkp (lk ce)).1 (by have := hkp (lk ce); omega)
    refine x_bipush hx hb dX7_mayEnter_20 (by decide) ?_
    refine lv_iload_n hx hb dX7_mayEnter_22 rfl (lv_at hl 2 rfl) ?_
    refine x_iadd hx hb dX7_mayEnter_23 ?_
    refine x_icmp_ne (tgt := 31) hx hb dX7_mayEnter_24 (by decide) (by omega) (by omega) (fun c24 => ?_) (fun c24 => ?_)
    · refine x_iconst hx hb dX7_mayEnter_31 ?_
      subst hQ
      exact x_zret (b := false) hx hb hr hlocks hH (Nat.le_of_ble_eq_true rfl) (Nat.le_of_ble_eq_true rfl) ⟨congrArg b2 (show false = (decide (lk ce = -1 ∨ kp (lk ce) = 25 + w)) from (by first | exact (decide_eq_true (Or.inl c9)).symm | exact (decide_eq_true (Or.inr ((kM_w (by omega)).mp c24))).symm | exact (decide_eq_false (fun q => q.elim c9 (fun q => c24 ((kM_w (by omega)).mpr q)))).symm)), rfl⟩ dX7_mayEnter_32
    · refine x_iconst hx hb dX7_mayEnter_27 ?_
      refine lv_goto (tgt := 32) hx hb dX7_mayEnter_28 (by decide) ?_
      subst hQ
      exact x_zret (b := true) hx hb hr hlocks hH (Nat.le_of_ble_eq_true rfl) (Nat.le_of_ble_eq_true rfl) ⟨congrArg b2 (show true = (decide (lk ce = -1 ∨ kp (lk ce) = 25 + w)) from (by first | exact (decide_eq_true (Or.inl c9)).symm | exact (decide_eq_true (Or.inr ((kM_w (by omega)).mp c24))).symm | exact (decide_eq_false (fun q => q.elim c9 (fun q => c24 ((kM_w (by omega)).mpr q)))).symm)), rfl⟩ dX7_mayEnter_32

def rm_X7_spreads : Room := { frames := 5, cells := 0, slots := 0, locals := 110 }
set_option maxRecDepth 100000 in
set_option maxHeartbeats 4000000 in
theorem c_X7_spreads (l : Launch) (E : xE) (ST : xST) (hSF : SF ST) (σ : xW) (w : Int) (k : Int) (st9 : Int) (fr : Int) (Fo : Int → Int) (op : Int → Int) (lk : Int → Int) (kp : Int → Int) (wc : Int → Int) (pn : Int) (nw : Int) (sh : Int) (wk : Int) (sv : Bool) (re : Int) (ea : Int) (fa : Int) (ty : Int) (li : Int) (th : Int) (sz : Int) (sp : Int) (wr : Int) (to : Int) (v : Int → Int) (F : Int → Int) (hr0 : mo E σ sv re ea fa ty li th sz sp wr to) (hr1 : now E σ v) (hr2 : far E σ F) (hC : Cp v op lk kp wc pn nw sh wk) (hB : BI op lk kp wc pn nw) (hw : 0 ≤ w ∧ w < nw) (hk : 0 ≤ k ∧ k ≤ 24) (hs : 0 ≤ st9 ∧ st9 ≤ 24) (hI : lvI (Gw op lk kp w) fr st9 Fo) (hJ : lvJ (Gw op lk kp w) fr st9 k 0 Fo F) (hFr : ∀ j : Int, rg (F j)) : CV l E ST yX7_spreads wsX7_spreads rm_X7_spreads [.ref (xad E 85), .int (iZ w), .int (iZ k), .int (iZ st9)] σ (fun (u : xW) => (∃ (F1 : Int → Int), far E u F1 ∧ (lvJ (Gw op lk kp w) fr st9 (k + 1) 0 Fo F1) ∧ (∀ j : Int, rg (F1 j))) ∧ ∀ j : Nat, j ≠ 92 → u j = σ j) := by
  have f85 : σ 85 = oB 5 [.ref (xad E 86), .ref (xad E 87), .ref (xad E 88), .ref (xad E 89), .ref (xad E 90), .int (iZ (b2 sv)), .int (iZ re), .int (iZ ea), .int (iZ fa), .ref (xad E 91), .ref (xad E 92), .ref (xad E 93), .int (iZ ty), .ref (xad E 94), .int (iZ li), .int (iZ th), .int (iZ sz), .int (iZ sp), .int (iZ wr), .int (iZ to), .ref (xad E 95)] := hr0
  have f86 : σ 86 = aI E 87 v := hr1
  have f92 : σ 92 = aI E 25 F := hr2
  refine CV_of (by decide) rfl (Nat.le_of_ble_eq_true rfl) ?_
  intro p e s m args below meth c Q ls G hH hl hQ
  obtain ⟨hx, hb, hml, hown, hts, hK, hST, hlocks, hr, hno⟩ := G
  have hOK := hSF.1
  have hown : s.vm.findClass RX7 = some m.cls := hown
  have hl : lv_has ls 6 [(0, .ref (xad E 85)), (1, .int (iZ w)), (2, .int (iZ k)), (3, .int (iZ st9))] := hl
  have hinX7 : ∀ w ∈ u_ws RX7 TX7 21, w ∈ wsX7_spreads := fun w h => (List.mem_cons_of_mem _ (List.mem_append_right _ h))
  obtain ⟨hop, hlk, hkp, hwc, hpn, hnw⟩ := id hB
  have hvR := hC.R
  have hv0 := hC.1.1
  refine x_iconst hx hb dX7_spreads_0 ?_
  refine lv_istore (lv' := [(4, .int (iZ 0)), (0, .ref (xad E 85)), (1, .int (iZ w)), (2, .int (iZ k)), (3, .int (iZ st9))]) hx hb dX7_spreads_1 hl (by decide) rfl (fun ls hl => ?_)
  have K3 : ∀ (nK : Nat) (dd : Int) (Fx : Int → Int) (σ1 : xW) (H : Heap) (locs : List Loc) (ls : Array Slot), (4 - dd).toNat < nK → (0 ≤ dd ∧ dd ≤ 4) → (lvJ (Gw op lk kp w) fr st9 k dd Fo Fx) → (∀ j : Int, rg (Fx j)) → σ1 85 = oB 5 [.ref (xad E 86), .ref (xad E 87), .ref (xad E 88), .ref (xad E 89), .ref (xad E 90), .int (iZ (b2 sv)), .int (iZ re), .int (iZ ea), .int (iZ fa), .ref (xad E 91), .ref (xad E 92), .ref (xad E 93), .int (iZ ty), .ref (xad E 94), .int (iZ li), .int (iZ th), .int (iZ sz), .int (iZ sp), .int (iZ wr), .int (iZ to), .ref (xad E 95)] → σ1 86 = aI E 87 v → σ1 92 = aI E 25 Fx → (∀ j : Nat, j ≠ 92 → σ1 j = σ j) → Hx E (xA E s.heap.size) s.heap σ1 H locs → lv_has ls 6 [(4, .int (iZ dd)), (0, .ref (xad E 85)), (1, .int (iZ w)), (2, .int (iZ k)), (3, .int (iZ st9))] → W p l e rm_X7_spreads s m args below meth c H locs 0 0 Q (F0 m 3 ls []) := by
    intro n3
    induction n3 with
    | zero =>
      intro dd Fx σ1 H locs ls hm
      exact absurd hm (by first | exact Nat.not_lt_zero _ | omega)
    | succ n3 ih3 =>
      intro dd Fx σ1 H locs ls hm3 hdd hJx hxr f85 f86 f92 fr2 hH hl
      refine lv_iload hx hb dX7_spreads_3 (lv_at hl 0 rfl) ?_
      refine x_iconst hx hb dX7_spreads_5 ?_
      refine x_icmp_ge (tgt := 74) hx hb dX7_spreads_6 (by decide) (by omega) (by decide) (fun c6 => ?_) (fun c6 => ?_)
      · subst hQ
        exact x_vret hx hb hr hlocks hH (Nat.le_of_ble_eq_true rfl) (Nat.le_of_ble_eq_true rfl) ⟨⟨Fx, f92, (by first | exact lvJ_skip hJx hs.1 c16 | exact lvJ_next (by have e : dd = 4 := (by omega); rw [← e]; exact hJx)), (by exact hxr)⟩, fun j hj0 => (fr2 j (by omega))⟩ dX7_spreads_74
      · refine lv_aload_n hx hb dX7_spreads_9 rfl (lv_at hl 1 rfl) ?_
        refine x_get hx hb hts hown hK hH 85 (by decide) f85 hinX7 rfl 10 (by decide) (List.mem_of_getElem? (i := 1) rfl) rfl dX7_spreads_10 ?_
        refine lv_iload_n hx hb dX7_spreads_13 rfl (lv_at hl 3 rfl) ?_
        refine x_iald hx hb hK hH 92 (by decide) f92 (by omega) (by omega) (by omega) dX7_spreads_14 ?_
        have hv3 := hxr k
        refine lv_iload_n hx hb dX7_spreads_15 rfl (lv_at hl 4 rfl) ?_
        refine x_icmp_ne (tgt := 74) hx hb dX7_spreads_16 (by decide) (by omega) (by omega) (fun c16 => ?_) (fun c16 => ?_)
        · subst hQ
          exact x_vret hx hb hr hlocks hH (Nat.le_of_ble_eq_true rfl) (Nat.le_of_ble_eq_true rfl) ⟨⟨Fx, f92, (by first | exact lvJ_skip hJx hs.1 c16 | exact lvJ_next (by have e : dd = 4 := (by omega); rw [← e]; exact hJx)), (by exact hxr)⟩, fun j hj0 => (fr2 j (by omega))⟩ dX7_spreads_74
        · have hnr := nbZ_rg (c := k) (d := dd) hk.1 hk.2
          refine lv_iload_n hx hb dX7_spreads_19 rfl (lv_at hl 3 rfl) ?_
          refine lv_iload hx hb dX7_spreads_20 (lv_at hl 0 rfl) ?_
          refine x_cSID (As := [.int (iZ k), .int (iZ dd)]) (rest := []) hx hb hml hts hown hK hST hOK hH (c_X7_beside l E ST hSF σ1 k dd  (by omega) (by omega)) (va_cwS 2 hts gX7_spreads_X7_beside rfl rfl rfl (by decide +kernel) ⟨Nat.le_of_ble_eq_true rfl, Nat.le_of_ble_eq_true rfl⟩) rfl hl.1 rfl (Nat.le_of_ble_eq_true rfl) dX7_spreads_22 ⟨Nat.le_of_ble_eq_true rfl, Nat.le_of_ble_eq_true rfl⟩ (fun z u h => h) (fun H locs hH => ?_)
          refine lv_istore (lv' := [(5, .int (iZ (nbZ k dd))), (4, .int (iZ dd)), (0, .ref (xad E 85)), (1, .int (iZ w)), (2, .int (iZ k)), (3, .int (iZ st9))]) hx hb dX7_spreads_25 hl (by decide) rfl (fun ls hl => ?_)
          refine lv_aload_n hx hb dX7_spreads_27 rfl (lv_at hl 2 rfl) ?_
          refine lv_iload_n hx hb dX7_spreads_28 rfl (lv_at hl 4 rfl) ?_
          refine lv_iload hx hb dX7_spreads_29 (lv_at hl 1 rfl) ?_
          refine x_cVID (As := [.int (iZ k), .int (iZ dd)]) (rest := []) hx hb hml hts hown hK hST hOK hH 85 (c_X7_isJoined l E ST hSF σ1 k dd op lk kp wc pn nw sh wk sv re ea fa ty li th sz sp wr to v f85 f86 (by assumption) (by omega) (by omega) (by omega)) (cwV 2 hts gX7_spreads_X7_isJoined rfl rfl rfl (by decide +kernel) ⟨Nat.le_of_ble_eq_true rfl, Nat.le_of_ble_eq_true rfl⟩) (by decide) f85 rfl rfl hl.1 rfl (Nat.le_of_ble_eq_true rfl) dX7_spreads_31 ⟨Nat.le_of_ble_eq_true rfl, Nat.le_of_ble_eq_true rfl⟩ (fun z u h => h) (fun H locs hH => ?_)
          refine x_ifb_eq (tgt := 68) hx hb dX7_spreads_34 (by decide) (fun c34 => ?_) (fun c34 => ?_)
          · have c34 := of_decide_eq_false c34
            refine x_iinc (lv' := [(4, .int (iZ (dd + 1))), (5, .int (iZ (nbZ k dd))), (0, .ref (xad E 85)), (1, .int (iZ w)), (2, .int (iZ k)), (3, .int (iZ st9))]) hx hb dX7_spreads_68 hl (k := 1) rfl (by decide) rfl (fun ls hl => ?_)
            refine lv_goto (tgt := 3) hx hb dX7_spreads_71 (by decide) ?_
            exact ih3 (dd + 1) Fx σ1 _ _ _ (by omega) (by omega) (by first | exact lvJ_same hJx (fun hg => absurd (Gw_no (Classical.not_not.mp c34)) hg) | exact lvJ_same hJx (fun hg => Gw_nb (P := fun z => ¬ Fx z = -1) hg c45) | exact lvJ_same hJx (fun hg => absurd (Gw_lock (by rw [hjn]; exact c55)) hg) | exact hadd) (by first | exact hxr | exact ui_rg hxr (by unfold rg; omega)) f85 f86 f92 (fun j hj0 => (fr2 j (by omega))) hH (lv_sub hl [0, 2, 3, 4, 5] rfl)
          · have c34 := of_decide_eq_true c34
            have hjn := jo_nb c34
            have hj1 := (jo_iff.mp c34).1
            refine lv_aload_n hx hb dX7_spreads_37 rfl (lv_at hl 2 rfl) ?_
            refine x_get hx hb hts hown hK hH 85 (by decide) f85 hinX7 rfl 10 (by decide) (List.mem_of_getElem? (i := 1) rfl) rfl dX7_spreads_38 ?_
            refine lv_iload hx hb dX7_spreads_41 (lv_at hl 0 rfl) ?_
            refine x_iald hx hb hK hH 92 (by decide) f92 (by omega) (by omega) (by omega) dX7_spreads_43 ?_
            have hv10 := hxr (nbZ k dd)
            refine x_iconst hx hb dX7_spreads_44 ?_
            refine x_icmp_ne (tgt := 68) hx hb dX7_spreads_45 (by decide) (by omega) (by decide) (fun c45 => ?_) (fun c45 => ?_)
            · refine x_iinc (lv' := [(4, .int (iZ (dd + 1))), (5, .int (iZ (nbZ k dd))), (0, .ref (xad E 85)), (1, .int (iZ w)), (2, .int (iZ k)), (3, .int (iZ st9))]) hx hb dX7_spreads_68 hl (k := 1) rfl (by decide) rfl (fun ls hl => ?_)
              refine lv_goto (tgt := 3) hx hb dX7_spreads_71 (by decide) ?_
              exact ih3 (dd + 1) Fx σ1 _ _ _ (by omega) (by omega) (by first | exact lvJ_same hJx (fun hg => absurd (Gw_no (Classical.not_not.mp c34)) hg) | exact lvJ_same hJx (fun hg => Gw_nb (P := fun z => ¬ Fx z = -1) hg c45) | exact lvJ_same hJx (fun hg => absurd (Gw_lock (by rw [hjn]; exact c55)) hg) | exact hadd) (by first | exact hxr | exact ui_rg hxr (by unfold rg; omega)) f85 f86 f92 (fun j hj0 => (fr2 j (by omega))) hH (lv_sub hl [0, 2, 3, 4, 5] rfl)
            · refine lv_aload_n hx hb dX7_spreads_48 rfl (lv_at hl 2 rfl) ?_
              refine lv_iload_n hx hb dX7_spreads_49 rfl (lv_at hl 3 rfl) ?_
              refine lv_iload hx hb dX7_spreads_50 (lv_at hl 0 rfl) ?_
              refine x_cVID (As := [.int (iZ w), .int (iZ (nbZ k dd))]) (rest := []) hx hb hml hts hown hK hST hOK hH 85 (c_X7_mayEnter l E ST hSF σ1 w (nbZ k dd) op lk kp wc pn nw sh wk sv re ea fa ty li th sz sp wr to v f85 f86 (by assumption) (by omega) (by omega) (by omega)) (cwV 2 hts gX7_spreads_X7_mayEnter rfl rfl rfl (by decide +kernel) ⟨Nat.le_of_ble_eq_true rfl, Nat.le_of_ble_eq_true rfl⟩) (by decide) f85 rfl rfl hl.1 rfl (Nat.le_of_ble_eq_true rfl) dX7_spreads_52 ⟨Nat.le_of_ble_eq_true rfl, Nat.le_of_ble_eq_true rfl⟩ (fun z u h => h) (fun H locs hH => ?_)
              refine x_ifb_eq (tgt := 68) hx hb dX7_spreads_55 (by decide) (fun c55 => ?_) (fun c55 => ?_)
              · have c55 := of_decide_eq_false c55
                refine x_iinc (lv' := [(4, .int (iZ (dd + 1))), (5, .int (iZ (nbZ k dd))), (0, .ref (xad E 85)), (1, .int (iZ w)), (2, .int (iZ k)), (3, .int (iZ st9))]) hx hb dX7_spreads_68 hl (k := 1) rfl (by decide) rfl (fun ls hl => ?_)
                refine lv_goto (tgt := 3) hx hb dX7_spreads_71 (by decide) ?_
                exact ih3 (dd + 1) Fx σ1 _ _ _ (by omega) (by omega) (by first | exact lvJ_same hJx (fun hg => absurd (Gw_no (Classical.not_not.mp c34)) hg) | exact lvJ_same hJx (fun hg => Gw_nb (P := fun z => ¬ Fx z = -1) hg c45) | exact lvJ_same hJx (fun hg => absurd (Gw_lock (by rw [hjn]; exact c55)) hg) | exact hadd) (by first | exact hxr | exact ui_rg hxr (by unfold rg; omega)) f85 f86 f92 (fun j hj0 => (fr2 j (by omega))) hH (lv_sub hl [0, 2, 3, 4, 5] rfl)
              · have c55 := of_decide_eq_true c55
                have hadd := lvJ_add hI hJx hs.1 hk (x := nbZ k dd) (by omega) ((Gw_yes (by rw [hjn]; exact c55)).trans hjn) hj1 c45 c16
                refine lv_aload_n hx hb dX7_spreads_58 rfl (lv_at hl 2 rfl) ?_
                refine x_get hx hb hts hown hK hH 85 (by decide) f85 hinX7 rfl 10 (by decide) (List.mem_of_getElem? (i := 1) rfl) rfl dX7_spreads_59 ?_
                refine lv_iload hx hb dX7_spreads_62 (lv_at hl 0 rfl) ?_
                refine lv_iload_n hx hb dX7_spreads_64 rfl (lv_at hl 5 rfl) ?_
                refine x_iconst hx hb dX7_spreads_65 ?_
                refine x_iadd hx hb dX7_spreads_66 ?_
                refine x_iast hx hb hK hH 92 (by decide) f92 (by omega) (by omega) (by omega) dX7_spreads_67 (fun σ14 H locs f92 fr15 hH => ?_)
                have f85 : σ14 85 = oB 5 [.ref (xad E 86), .ref (xad E 87), .ref (xad E 88), .ref (xad E 89), .ref (xad E 90), .int (iZ (b2 sv)), .int (iZ re), .int (iZ ea), .int (iZ fa), .ref (xad E 91), .ref (xad E 92), .ref (xad E 93), .int (iZ ty), .ref (xad E 94), .int (iZ li), .int (iZ th), .int (iZ sz), .int (iZ sp), .int (iZ wr), .int (iZ to), .ref (xad E 95)] := (fr15 85 (by omega)).trans f85
                have f86 : σ14 86 = aI E 87 v := (fr15 86 (by omega)).trans f86
                refine x_iinc (lv' := [(4, .int (iZ (dd + 1))), (5, .int (iZ (nbZ k dd))), (0, .ref (xad E 85)), (1, .int (iZ w)), (2, .int (iZ k)), (3, .int (iZ st9))]) hx hb dX7_spreads_68 hl (k := 1) rfl (by decide) rfl (fun ls hl => ?_)
                refine lv_goto (tgt := 3) hx hb dX7_spreads_71 (by decide) ?_
                exact ih3 (dd + 1) (ui Fx (nbZ k dd) (st9 + 1)) σ14 _ _ _ (by omega) (by omega) (by first | exact lvJ_same hJx (fun hg => absurd (Gw_no (Classical.not_not.mp c34)) hg) | exact lvJ_same hJx (fun hg => Gw_nb (P := fun z => ¬ Fx z = -1) hg c45) | exact lvJ_same hJx (fun hg => absurd (Gw_lock (by rw [hjn]; exact c55)) hg) | exact hadd) (by first | exact hxr | exact ui_rg hxr (by unfold rg; omega)) f85 f86 f92 (fun j hj0 => ((fr15 j (by omega)).trans (fr2 j (by omega)))) hH (lv_sub hl [0, 2, 3, 4, 5] rfl)
  exact K3 5 0 F σ _ _ _ (by first | omega | decide) (by omega) (by exact hJ) (by exact hFr) f85 f86 f92 (fun j _ => rfl) hH (lv_sub hl [0, 1, 2, 3, 4] rfl)

def rm_X7_measures : Room := { frames := 6, cells := 0, slots := 0, locals := 135 }
set_option maxRecDepth 100000 in
set_option maxHeartbeats 4000000 in
theorem c_X7_measures (l : Launch) (E : xE) (ST : xST) (hSF : SF ST) (σ : xW) (w : Int) (fr : Int) (op : Int → Int) (lk : Int → Int) (kp : Int → Int) (wc : Int → Int) (pn : Int) (nw : Int) (sh : Int) (wk : Int) (sv : Bool) (re : Int) (ea : Int) (fa : Int) (ty : Int) (li : Int) (th : Int) (sz : Int) (sp : Int) (wr : Int) (to : Int) (v : Int → Int) (F : Int → Int) (hr0 : mo E σ sv re ea fa ty li th sz sp wr to) (hr1 : now E σ v) (hr2 : far E σ F) (hC : Cp v op lk kp wc pn nw sh wk) (hB : BI op lk kp wc pn nw) (hw : 0 ≤ w ∧ w < nw) (hf9 : 0 ≤ fr ∧ fr ≤ 24) (hFr : ∀ j : Int, rg (F j)) : CV l E ST yX7_measures wsX7_measures rm_X7_measures [.ref (xad E 85), .int (iZ w), .int (iZ fr)] σ (fun (u : xW) => (far E u (mdF (Gw op lk kp w) fr)) ∧ ∀ j : Nat, j ≠ 92 → u j = σ j) := by
  have f85 : σ 85 = oB 5 [.ref (xad E 86), .ref (xad E 87), .ref (xad E 88), .ref (xad E 89), .ref (xad E 90), .int (iZ (b2 sv)), .int (iZ re), .int (iZ ea), .int (iZ fa), .ref (xad E 91), .ref (xad E 92), .ref (xad E 93), .int (iZ ty), .ref (xad E 94), .int (iZ li), .int (iZ th), .int (iZ sz), .int (iZ sp), .int (iZ wr), .int (iZ to), .ref (xad E 95)] := hr0
  have f86 : σ 86 = aI E 87 v := hr1
  have f92 : σ 92 = aI E 25 F := hr2
  refine CV_of (by decide) rfl (Nat.le_of_ble_eq_true rfl) ?_
  intro p e s m args below meth c Q ls G hH hl hQ
  obtain ⟨hx, hb, hml, hown, hts, hK, hST, hlocks, hr, hno⟩ := G
  have hOK := hSF.1
  have hown : s.vm.findClass RX7 = some m.cls := hown
  have hl : lv_has ls 5 [(0, .ref (xad E 85)), (1, .int (iZ w)), (2, .int (iZ fr))] := hl
  have hinX7 : ∀ w ∈ u_ws RX7 TX7 21, w ∈ wsX7_measures := fun w h => (List.mem_cons_of_mem _ (List.mem_append_right _ h))
  obtain ⟨hop, hlk, hkp, hwc, hpn, hnw⟩ := id hB
  have hvR := hC.R
  have hv0 := hC.1.1
  refine x_iconst hx hb dX7_measures_0 ?_
  refine lv_istore_n (lv' := [(3, .int (iZ 0)), (0, .ref (xad E 85)), (1, .int (iZ w)), (2, .int (iZ fr))]) hx hb dX7_measures_1 rfl hl (by decide) rfl (fun ls hl => ?_)
  have K2 : ∀ (nK : Nat) (i : Int) (Fx : Int → Int) (σ1 : xW) (H : Heap) (locs : List Loc) (ls : Array Slot), (25 - i).toNat < nK → (0 ≤ i ∧ i ≤ 25) → (∀ j : Int, 0 ≤ j → j < i → Fx j = if j = fr then 0 else -1) → (∀ j : Int, rg (Fx j)) → σ1 85 = oB 5 [.ref (xad E 86), .ref (xad E 87), .ref (xad E 88), .ref (xad E 89), .ref (xad E 90), .int (iZ (b2 sv)), .int (iZ re), .int (iZ ea), .int (iZ fa), .ref (xad E 91), .ref (xad E 92), .ref (xad E 93), .int (iZ ty), .ref (xad E 94), .int (iZ li), .int (iZ th), .int (iZ sz), .int (iZ sp), .int (iZ wr), .int (iZ to), .ref (xad E 95)] → σ1 86 = aI E 87 v → σ1 92 = aI E 25 Fx → (∀ j : Nat, j ≠ 92 → σ1 j = σ j) → Hx E (xA E s.heap.size) s.heap σ1 H locs → lv_has ls 5 [(3, .int (iZ i)), (0, .ref (xad E 85)), (1, .int (iZ w)), (2, .int (iZ fr))] → W p l e rm_X7_measures s m args below meth c H locs 0 0 Q (F0 m 2 ls []) := by
    intro n2
    induction n2 with
    | zero =>
      intro i Fx σ1 H locs ls hm
      exact absurd hm (by first | exact Nat.not_lt_zero _ | omega)
    | succ n2 ih2 =>
      intro i Fx σ1 H locs ls hm2 hi hxx hxr f85 f86 f92 fr2 hH hl
      refine lv_iload_n hx hb dX7_measures_2 rfl (lv_at hl 0 rfl) ?_
      refine x_bipush hx hb dX7_measures_3 (by decide) ?_
      refine x_icmp_ge (tgt := 30) hx hb dX7_measures_5 (by decide) (by omega) (by decide) (fun c5 => ?_) (fun c5 => ?_)
      · refine x_iconst hx hb dX7_measures_30 ?_
        refine lv_istore_n (lv' := [(3, .int (iZ 0)), (0, .ref (xad E 85)), (1, .int (iZ w)), (2, .int (iZ fr))]) hx hb dX7_measures_31 rfl hl (by decide) rfl (fun ls hl => ?_)
        have K32 : ∀ (nK : Nat) (s9 : Int) (Fy : Int → Int) (σ3 : xW) (H : Heap) (locs : List Loc) (ls : Array Slot), (25 - s9).toNat < nK → (0 ≤ s9 ∧ s9 ≤ 25) → (lvI (Gw op lk kp w) fr s9 Fy) → (∀ j : Int, rg (Fy j)) → σ3 85 = oB 5 [.ref (xad E 86), .ref (xad E 87), .ref (xad E 88), .ref (xad E 89), .ref (xad E 90), .int (iZ (b2 sv)), .int (iZ re), .int (iZ ea), .int (iZ fa), .ref (xad E 91), .ref (xad E 92), .ref (xad E 93), .int (iZ ty), .ref (xad E 94), .int (iZ li), .int (iZ th), .int (iZ sz), .int (iZ sp), .int (iZ wr), .int (iZ to), .ref (xad E 95)] → σ3 86 = aI E 87 v → σ3 92 = aI E 25 Fy → (∀ j : Nat, j ≠ 92 → σ3 j = σ1 j) → Hx E (xA E s.heap.size) s.heap σ3 H locs → lv_has ls 5 [(3, .int (iZ s9)), (0, .ref (xad E 85)), (1, .int (iZ w)), (2, .int (iZ fr))] → W p l e rm_X7_measures s m args below meth c H locs 0 0 Q (F0 m 32 ls []) := by
          intro n32
          induction n32 with
          | zero =>
            intro s9 Fy σ3 H locs ls hm
            exact absurd hm (by first | exact Nat.not_lt_zero _ | omega)
          | succ n32 ih32 =>
            intro s9 Fy σ3 H locs ls hm32 hs9 hyI hyr f85 f86 f92 fr4 hH hl
            refine lv_iload_n hx hb dX7_measures_32 rfl (lv_at hl 0 rfl) ?_
            refine x_bipush hx hb dX7_measures_33 (by decide) ?_
            refine x_icmp_ge (tgt := 68) hx hb dX7_measures_35 (by decide) (by omega) (by decide) (fun c35 => ?_) (fun c35 => ?_)
            · obtain ⟨σ5, f92, fr6, hH⟩ := x_normE (g := mdF (Gw op lk kp w) fr) 92 (by decide) f92 (by intro j h0 h1; have e : s9 = 25 := (by omega); subst e; exact lvI_end Gw_ok hf9 hyI h0 (by omega)) hH
              have f85 : σ5 85 = oB 5 [.ref (xad E 86), .ref (xad E 87), .ref (xad E 88), .ref (xad E 89), .ref (xad E 90), .int (iZ (b2 sv)), .int (iZ re), .int (iZ ea), .int (iZ fa), .ref (xad E 91), .ref (xad E 92), .ref (xad E 93), .int (iZ ty), .ref (xad E 94), .int (iZ li), .int (iZ th), .int (iZ sz), .int (iZ sp), .int (iZ wr), .int (iZ to), .ref (xad E 95)] := (fr6 85 (by omega)).trans f85
              have f86 : σ5 86 = aI E 87 v := (fr6 86 (by omega)).trans f86
              subst hQ
              exact x_vret hx hb hr hlocks hH (Nat.le_of_ble_eq_true rfl) (Nat.le_of_ble_eq_true rfl) ⟨f92, fun j hj0 => ((fr6 j (by omega)).trans ((fr4 j (by omega)).trans (fr2 j (by omega))))⟩ dX7_measures_68
            · refine x_iconst hx hb dX7_measures_38 ?_
              refine lv_istore (lv' := [(4, .int (iZ 0)), (3, .int (iZ s9)), (0, .ref (xad E 85)), (1, .int (iZ w)), (2, .int (iZ fr))]) hx hb dX7_measures_39 hl (by decide) rfl (fun ls hl => ?_)
              have K41 : ∀ (nK : Nat) (k9 : Int) (Fz : Int → Int) (σ7 : xW) (H : Heap) (locs : List Loc) (ls : Array Slot), (25 - k9).toNat < nK → (0 ≤ k9 ∧ k9 ≤ 25) → (lvJ (Gw op lk kp w) fr s9 k9 0 Fy Fz) → (∀ j : Int, rg (Fz j)) → σ7 85 = oB 5 [.ref (xad E 86), .ref (xad E 87), .ref (xad E 88), .ref (xad E 89), .ref (xad E 90), .int (iZ (b2 sv)), .int (iZ re), .int (iZ ea), .int (iZ fa), .ref (xad E 91), .ref (xad E 92), .ref (xad E 93), .int (iZ ty), .ref (xad E 94), .int (iZ li), .int (iZ th), .int (iZ sz), .int (iZ sp), .int (iZ wr), .int (iZ to), .ref (xad E 95)] → σ7 86 = aI E 87 v → σ7 92 = aI E 25 Fz → (∀ j : Nat, j ≠ 92 → σ7 j = σ3 j) → Hx E (xA E s.heap.size) s.heap σ7 H locs → lv_has ls 5 [(4, .int (iZ k9)), (3, .int (iZ s9)), (0, .ref (xad E 85)), (1, .int (iZ w)), (2, .int (iZ fr))] → W p l e rm_X7_measures s m args below meth c H locs 0 0 Q (F0 m 41 ls []) := by
                intro n41
                induction n41 with
                | zero =>
                  intro k9 Fz σ7 H locs ls hm
                  exact absurd hm (by first | exact Nat.not_lt_zero _ | omega)
                | succ n41 ih41 =>
                  intro k9 Fz σ7 H locs ls hm41 hk9 hzJ hzr f85 f86 f92 fr8 hH hl
                  refine lv_iload hx hb dX7_measures_41 (lv_at hl 0 rfl) ?_
                  refine x_bipush hx hb dX7_measures_43 (by decide) ?_
                  refine x_icmp_ge (tgt := 62) hx hb dX7_measures_45 (by decide) (by omega) (by decide) (fun c45 => ?_) (fun c45 => ?_)
                  · refine x_iinc (lv' := [(3, .int (iZ (s9 + 1))), (4, .int (iZ k9)), (0, .ref (xad E 85)), (1, .int (iZ w)), (2, .int (iZ fr))]) hx hb dX7_measures_62 hl (k := 1) rfl (by decide) rfl (fun ls hl => ?_)
                    refine lv_goto (tgt := 32) hx hb dX7_measures_65 (by decide) ?_
                    exact ih32 (s9 + 1) Fz σ7 _ _ _ (by omega) (by omega) (by have e : k9 = 25 := (by omega); subst e; exact lvI_next Gw_ok hf9 hs9.1 hyI hzJ) (by exact hzr) f85 f86 f92 (fun j hj0 => ((fr8 j (by omega)).trans (fr4 j (by omega)))) hH (lv_sub hl [0, 2, 3, 4] rfl)
                  · refine lv_aload_n hx hb dX7_measures_48 rfl (lv_at hl 2 rfl) ?_
                    refine lv_iload_n hx hb dX7_measures_49 rfl (lv_at hl 3 rfl) ?_
                    refine lv_iload hx hb dX7_measures_50 (lv_at hl 0 rfl) ?_
                    refine lv_iload_n hx hb dX7_measures_52 rfl (lv_at hl 1 rfl) ?_
                    refine x_cVV (As := [.int (iZ w), .int (iZ k9), .int (iZ s9)]) (rest := []) hx hb hml hts hown hK hST hOK hH 85 (c_X7_spreads l E ST hSF σ7 w k9 s9 fr Fy op lk kp wc pn nw sh wk sv re ea fa ty li th sz sp wr to v Fz f85 f86 f92 (by assumption) (by omega) (by omega) (by omega) (by omega) hyI hzJ (by assumption)) (cwV 3 hts gX7_measures_X7_spreads rfl rfl rfl (by decide +kernel) ⟨Nat.le_of_ble_eq_true rfl, Nat.le_of_ble_eq_true rfl⟩) (by decide) f85 rfl rfl hl.1 rfl (Nat.le_of_ble_eq_true rfl) dX7_measures_53 ⟨Nat.le_of_ble_eq_true rfl, Nat.le_of_ble_eq_true rfl⟩ (fun σ10 H locs hp11 hH => ?_)
                    obtain ⟨⟨F1_13, f92, hnJ, hnr⟩, fr12⟩ := hp11
                    have f85 : σ10 85 = oB 5 [.ref (xad E 86), .ref (xad E 87), .ref (xad E 88), .ref (xad E 89), .ref (xad E 90), .int (iZ (b2 sv)), .int (iZ re), .int (iZ ea), .int (iZ fa), .ref (xad E 91), .ref (xad E 92), .ref (xad E 93), .int (iZ ty), .ref (xad E 94), .int (iZ li), .int (iZ th), .int (iZ sz), .int (iZ sp), .int (iZ wr), .int (iZ to), .ref (xad E 95)] := (fr12 85 (by omega)).trans f85
                    have f86 : σ10 86 = aI E 87 v := (fr12 86 (by omega)).trans f86
                    refine x_iinc (lv' := [(4, .int (iZ (k9 + 1))), (3, .int (iZ s9)), (0, .ref (xad E 85)), (1, .int (iZ w)), (2, .int (iZ fr))]) hx hb dX7_measures_56 hl (k := 0) rfl (by decide) rfl (fun ls hl => ?_)
                    refine lv_goto (tgt := 41) hx hb dX7_measures_59 (by decide) ?_
                    exact ih41 (k9 + 1) F1_13 σ10 _ _ _ (by omega) (by omega) (by exact hnJ) (by exact hnr) f85 f86 f92 (fun j hj0 => ((fr12 j (by omega)).trans (fr8 j (by omega)))) hH (lv_sub hl [0, 1, 2, 3, 4] rfl)
              exact K41 26 0 Fy σ3 _ _ _ (by first | omega | decide) (by omega) (by exact lvJ_0) (by exact hyr) f85 f86 f92 (fun j _ => rfl) hH (lv_sub hl [0, 1, 2, 3, 4] rfl)
        exact K32 26 0 Fx σ1 _ _ _ (by first | omega | decide) (by omega) (by exact lvI_0 hf9 (fun j h0 h1 => hxx j h0 (by omega))) (by exact hxr) f85 f86 f92 (fun j _ => rfl) hH (lv_sub hl [0, 1, 2, 3] rfl)
      · refine lv_aload_n hx hb dX7_measures_8 rfl (lv_at hl 1 rfl) ?_
        refine x_get hx hb hts hown hK hH 85 (by decide) f85 hinX7 rfl 10 (by decide) (List.mem_of_getElem? (i := 1) rfl) rfl dX7_measures_9 ?_
        refine lv_iload_n hx hb dX7_measures_12 rfl (lv_at hl 0 rfl) ?_
        refine lv_iload_n hx hb dX7_measures_13 rfl (lv_at hl 0 rfl) ?_
        refine lv_iload_n hx hb dX7_measures_14 rfl (lv_at hl 3 rfl) ?_
        refine x_icmp_ne (tgt := 22) hx hb dX7_measures_15 (by decide) (by omega) (by omega) (fun c15 => ?_) (fun c15 => ?_)
        · refine x_iconst hx hb dX7_measures_22 ?_
          refine x_iast hx hb hK hH 92 (by decide) f92 (by omega) (by omega) (by omega) dX7_measures_23 (fun σ15 H locs f92 fr16 hH => ?_)
          have f85 : σ15 85 = oB 5 [.ref (xad E 86), .ref (xad E 87), .ref (xad E 88), .ref (xad E 89), .ref (xad E 90), .int (iZ (b2 sv)), .int (iZ re), .int (iZ ea), .int (iZ fa), .ref (xad E 91), .ref (xad E 92), .ref (xad E 93), .int (iZ ty), .ref (xad E 94), .int (iZ li), .int (iZ th), .int (iZ sz), .int (iZ sp), .int (iZ wr), .int (iZ to), .ref (xad E 95)] := (fr16 85 (by omega)).trans f85
          have f86 : σ15 86 = aI E 87 v := (fr16 86 (by omega)).trans f86
          refine x_iinc (lv' := [(3, .int (iZ (i + 1))), (0, .ref (xad E 85)), (1, .int (iZ w)), (2, .int (iZ fr))]) hx hb dX7_measures_24 hl (k := 0) rfl (by decide) rfl (fun ls hl => ?_)
          refine lv_goto (tgt := 2) hx hb dX7_measures_27 (by decide) ?_
          exact ih2 (i + 1) (ui Fx i (-1)) σ15 _ _ _ (by omega) (by omega) (by intro j h0 h1; by_cases e : j = i; (rw [e, ui_s]; first | rw [if_pos c15] | rw [if_neg c15]); (rw [ui_n e]; exact hxx j h0 (by omega))) (by exact ui_rg hxr (by decide)) f85 f86 f92 (fun j hj0 => ((fr16 j (by omega)).trans (fr2 j (by omega)))) hH (lv_sub hl [0, 1, 2, 3] rfl)
        · refine x_iconst hx hb dX7_measures_18 ?_
          refine lv_goto (tgt := 23) hx hb dX7_measures_19 (by decide) ?_
          refine x_iast hx hb hK hH 92 (by decide) f92 (by omega) (by omega) (by omega) dX7_measures_23 (fun σ17 H locs f92 fr18 hH => ?_)
          have f85 : σ17 85 = oB 5 [.ref (xad E 86), .ref (xad E 87), .ref (xad E 88), .ref (xad E 89), .ref (xad E 90), .int (iZ (b2 sv)), .int (iZ re), .int (iZ ea), .int (iZ fa), .ref (xad E 91), .ref (xad E 92), .ref (xad E 93), .int (iZ ty), .ref (xad E 94), .int (iZ li), .int (iZ th), .int (iZ sz), .int (iZ sp), .int (iZ wr), .int (iZ to), .ref (xad E 95)] := (fr18 85 (by omega)).trans f85
          have f86 : σ17 86 = aI E 87 v := (fr18 86 (by omega)).trans f86
          refine x_iinc (lv' := [(3, .int (iZ (i + 1))), (0, .ref (xad E 85)), (1, .int (iZ w)), (2, .int (iZ fr))]) hx hb dX7_measures_24 hl (k := 0) rfl (by decide) rfl (fun ls hl => ?_)
          refine lv_goto (tgt := 2) hx hb dX7_measures_27 (by decide) ?_
          exact ih2 (i + 1) (ui Fx i 0) σ17 _ _ _ (by omega) (by omega) (by intro j h0 h1; by_cases e : j = i; (rw [e, ui_s]; first | rw [if_pos c15] | rw [if_neg c15]); (rw [ui_n e]; exact hxx j h0 (by omega))) (by exact ui_rg hxr (by decide)) f85 f86 f92 (fun j hj0 => ((fr18 j (by omega)).trans (fr2 j (by omega)))) hH (lv_sub hl [0, 1, 2, 3] rfl)
  exact K2 26 0 F σ _ _ _ (by first | omega | decide) (by omega) (by intro j h0 h1; omega) (by exact hFr) f85 f86 f92 (fun j _ => rfl) hH (lv_sub hl [0, 1, 2, 3] rfl)

def rm_X7_farOf : Room := { frames := 7, cells := 0, slots := 0, locals := 159 }
set_option maxRecDepth 100000 in
set_option maxHeartbeats 4000000 in
theorem c_X7_farOf (l : Launch) (E : xE) (ST : xST) (hSF : SF ST) (σ : xW) (w : Int) (ce : Int) (op : Int → Int) (lk : Int → Int) (kp : Int → Int) (wc : Int → Int) (pn : Int) (nw : Int) (sh : Int) (wk : Int) (sv : Bool) (re : Int) (ea : Int) (fa : Int) (ty : Int) (li : Int) (th : Int) (sz : Int) (sp : Int) (wr : Int) (to : Int) (v : Int → Int) (F : Int → Int) (hr0 : mo E σ sv re ea fa ty li th sz sp wr to) (hr1 : now E σ v) (hr2 : far E σ F) (hC : Cp v op lk kp wc pn nw sh wk) (hB : BI op lk kp wc pn nw) (hw : 0 ≤ w ∧ w < nw) (hc : 0 ≤ ce ∧ ce ≤ 24) (hFr : ∀ j : Int, rg (F j)) : CI l E ST yX7_farOf wsX7_farOf rm_X7_farOf [.ref (xad E 85), .int (iZ w), .int (iZ ce)] σ (fun (z : Int) (u : xW) => z = mD (dz (Gw op lk kp w) (wc w) ce) ∧ (far E u (mdF (Gw op lk kp w) (wc w))) ∧ ∀ j : Nat, j ≠ 92 → u j = σ j) := by
  have f85 : σ 85 = oB 5 [.ref (xad E 86), .ref (xad E 87), .ref (xad E 88), .ref (xad E 89), .ref (xad E 90), .int (iZ (b2 sv)), .int (iZ re), .int (iZ ea), .int (iZ fa), .ref (xad E 91), .ref (xad E 92), .ref (xad E 93), .int (iZ ty), .ref (xad E 94), .int (iZ li), .int (iZ th), .int (iZ sz), .int (iZ sp), .int (iZ wr), .int (iZ to), .ref (xad E 95)] := hr0
  have f86 : σ 86 = aI E 87 v := hr1
  have f92 : σ 92 = aI E 25 F := hr2
  refine CI_of (by decide) rfl (Nat.le_of_ble_eq_true rfl) ?_
  intro p e s m args below meth c Q ls G hH hl hQ
  obtain ⟨hx, hb, hml, hown, hts, hK, hST, hlocks, hr, hno⟩ := G
  have hOK := hSF.1
  have hown : s.vm.findClass RX7 = some m.cls := hown
  have hl : lv_has ls 3 [(0, .ref (xad E 85)), (1, .int (iZ w)), (2, .int (iZ ce))] := hl
  have hinX7 : ∀ w ∈ u_ws RX7 TX7 21, w ∈ wsX7_farOf := fun w h => (List.mem_cons_of_mem _ (List.mem_append_right _ h))
  obtain ⟨hop, hlk, hkp, hwc, hpn, hnw⟩ := id hB
  have hvR := hC.R
  have hv0 := hC.1.1
  have hst := hwc w
  refine lv_aload_n hx hb dX7_farOf_0 rfl (lv_at hl 0 rfl) ?_
  refine lv_iload_n hx hb dX7_farOf_1 rfl (lv_at hl 1 rfl) ?_
  refine lv_aload_n hx hb dX7_farOf_2 rfl (lv_at hl 0 rfl) ?_
  refine lv_iload_n hx hb dX7_farOf_3 rfl (lv_at hl 1 rfl) ?_
  refine x_cVID (As := [.int (iZ w)]) (rest := [.int (iZ w), .ref (xad E 85)]) hx hb hml hts hown hK hST hOK hH 85 (c_X7_standing l E ST hSF σ w op lk kp wc pn nw sh wk sv re ea fa ty li th sz sp wr to v f85 f86 (by assumption) (by omega) (by omega)) (cwV 1 hts gX7_farOf_X7_standing rfl rfl rfl (by decide +kernel) ⟨Nat.le_of_ble_eq_true rfl, Nat.le_of_ble_eq_true rfl⟩) (by decide) f85 rfl rfl hl.1 rfl (Nat.le_of_ble_eq_true rfl) dX7_farOf_4 ⟨Nat.le_of_ble_eq_true rfl, Nat.le_of_ble_eq_true rfl⟩ (fun z u h => h) (fun H locs hH => ?_)
  rw [if_pos hw]
  refine x_cVV (As := [.int (iZ w), .int (iZ (wc w))]) (rest := []) hx hb hml hts hown hK hST hOK hH 85 (c_X7_measures l E ST hSF σ w (wc w) op lk kp wc pn nw sh wk sv re ea fa ty li th sz sp wr to v F f85 f86 f92 (by assumption) (by omega) (by omega) (by omega) (by assumption)) (cwV 2 hts gX7_farOf_X7_measures rfl rfl rfl (by decide +kernel) ⟨Nat.le_of_ble_eq_true rfl, Nat.le_of_ble_eq_true rfl⟩) (by decide) f85 rfl rfl hl.1 rfl (Nat.le_of_ble_eq_true rfl) dX7_farOf_7 ⟨Nat.le_of_ble_eq_true rfl, Nat.le_of_ble_eq_true rfl⟩ (fun σ5 H locs hp6 hH => ?_)
  obtain ⟨f92, fr7⟩ := hp6
  have f85 : σ5 85 = oB 5 [.ref (xad E 86), .ref (xad E 87), .ref (xad E 88), .ref (xad E 89), .ref (xad E 90), .int (iZ (b2 sv)), .int (iZ re), .int (iZ ea), .int (iZ fa), .ref (xad E 91), .ref (xad E 92), .ref (xad E 93), .int (iZ ty), .ref (xad E 94), .int (iZ li), .int (iZ th), .int (iZ sz), .int (iZ sp), .int (iZ wr), .int (iZ to), .ref (xad E 95)] := (fr7 85 (by omega)).trans f85
  have f86 : σ5 86 = aI E 87 v := (fr7 86 (by omega)).trans f86
  refine lv_aload_n hx hb dX7_farOf_10 rfl (lv_at hl 0 rfl) ?_
  refine x_get hx hb hts hown hK hH 85 (by decide) f85 hinX7 rfl 10 (by decide) (List.mem_of_getElem? (i := 1) rfl) rfl dX7_farOf_11 ?_
  refine lv_iload_n hx hb dX7_farOf_14 rfl (lv_at hl 2 rfl) ?_
  refine x_iald hx hb hK hH 92 (by decide) f92 (by omega) (by omega) (by omega) dX7_farOf_15 ?_
  subst hQ
  exact x_iret hx hb hr hlocks hH (Nat.le_of_ble_eq_true rfl) (Nat.le_of_ble_eq_true rfl) ⟨(show ((mdF (Gw op lk kp w) (wc w)) ce) = (mD (dz (Gw op lk kp w) (wc w) ce)) from (by rfl)), f92, fun j hj0 => (fr7 j (by omega))⟩ dX7_farOf_16

def rm_X7_walks : Room := { frames := 8, cells := 0, slots := 0, locals := 181 }
set_option maxRecDepth 100000 in
set_option maxHeartbeats 4000000 in
theorem c_X7_walks (l : Launch) (E : xE) (ST : xST) (hSF : SF ST) (σ : xW) (w : Int) (r : Int) (c0 : Int) (op : Int → Int) (lk : Int → Int) (kp : Int → Int) (wc : Int → Int) (pn : Int) (nw : Int) (sh : Int) (wk : Int) (sv : Bool) (re : Int) (ea : Int) (fa : Int) (ty : Int) (li : Int) (th : Int) (sz : Int) (sp : Int) (wr : Int) (to : Int) (v : Int → Int) (F : Int → Int) (hr0 : mo E σ sv re ea fa ty li th sz sp wr to) (hr1 : now E σ v) (hr2 : far E σ F) (hC : Cp v op lk kp wc pn nw sh wk) (hB : BI op lk kp wc pn nw) (hr9 : rg r) (hc9 : rg c0) (hw9 : rg w) (hFr : ∀ j : Int, rg (F j)) (hwk : 0 ≤ wk ∧ wk ≤ 1000000000) : CI l E ST yX7_walks wsX7_walks rm_X7_walks [.ref (xad E 85), .int (iZ w), .int (iZ r), .int (iZ c0)] σ (fun (z : Int) (u : xW) => (rg z ∧ (0 ≤ (walkF op lk kp wc pn nw sh wk w r c0).1 → z = (walkF op lk kp wc pn nw sh wk w r c0).1)) ∧ (∃ (v1 F1 : Int → Int), mo E u sv re ea fa ty li (tA (walkF op lk kp wc pn nw sh wk w r c0).1) sz sp wr to ∧ now E u v1 ∧ far E u F1 ∧ (CpT v1 (walkF op lk kp wc pn nw sh wk w r c0).2) ∧ (∀ j : Int, rg (F1 j))) ∧ ∀ j : Nat, (j < 85 ∨ 85 + 2 ≤ j) → j ≠ 92 → u j = σ j) := by
  have f85 : σ 85 = oB 5 [.ref (xad E 86), .ref (xad E 87), .ref (xad E 88), .ref (xad E 89), .ref (xad E 90), .int (iZ (b2 sv)), .int (iZ re), .int (iZ ea), .int (iZ fa), .ref (xad E 91), .ref (xad E 92), .ref (xad E 93), .int (iZ ty), .ref (xad E 94), .int (iZ li), .int (iZ th), .int (iZ sz), .int (iZ sp), .int (iZ wr), .int (iZ to), .ref (xad E 95)] := hr0
  have f86 : σ 86 = aI E 87 v := hr1
  have f92 : σ 92 = aI E 25 F := hr2
  refine CI_of (by decide) rfl (Nat.le_of_ble_eq_true rfl) ?_
  intro p e s m args below meth c Q ls G hH hl hQ
  obtain ⟨hx, hb, hml, hown, hts, hK, hST, hlocks, hr, hno⟩ := G
  have hOK := hSF.1
  have hown : s.vm.findClass RX7 = some m.cls := hown
  have hl : lv_has ls 7 [(0, .ref (xad E 85)), (1, .int (iZ w)), (2, .int (iZ r)), (3, .int (iZ c0))] := hl
  have hinX7 : ∀ w ∈ u_ws RX7 TX7 21, w ∈ wsX7_walks := fun w h => (List.mem_cons_of_mem _ (List.mem_append_right _ h))
  obtain ⟨hop, hlk, hkp, hwc, hpn, hnw⟩ := id hB
  have hvR := hC.R
  have hv0 := hC.1.1
  have hcz := cellZ_rg (r := r) (c := c0)
  have hst := hwc w
  have hdr := dz_rg (G := (Gw op lk kp w)) (st := wc w) Gw_ok (hwc w) (cellZ r c0)
  have hmr := mdF_rg (G := (Gw op lk kp w)) (st := wc w) Gw_ok (hwc w) (cellZ r c0)
  unfold mdF at hmr
  refine lv_iload_n hx hb dX7_walks_0 rfl (lv_at hl 2 rfl) ?_
  refine lv_iload_n hx hb dX7_walks_1 rfl (lv_at hl 3 rfl) ?_
  refine x_cSID (As := [.int (iZ r), .int (iZ c0)]) (rest := []) hx hb hml hts hown hK hST hOK hH (c_X7_cellAt l E ST hSF σ r c0  (by omega) (by omega)) (va_cwS 2 hts gX7_walks_X7_cellAt rfl rfl rfl (by decide +kernel) ⟨Nat.le_of_ble_eq_true rfl, Nat.le_of_ble_eq_true rfl⟩) rfl hl.1 rfl (Nat.le_of_ble_eq_true rfl) dX7_walks_2 ⟨Nat.le_of_ble_eq_true rfl, Nat.le_of_ble_eq_true rfl⟩ (fun z u h => h) (fun H locs hH => ?_)
  refine lv_istore (lv' := [(4, .int (iZ (cellZ r c0))), (0, .ref (xad E 85)), (1, .int (iZ w)), (2, .int (iZ r)), (3, .int (iZ c0))]) hx hb dX7_walks_5 hl (by decide) rfl (fun ls hl => ?_)
  refine lv_aload_n hx hb dX7_walks_7 rfl (lv_at hl 1 rfl) ?_
  refine lv_iload_n hx hb dX7_walks_8 rfl (lv_at hl 2 rfl) ?_
  refine x_cVID (As := [.int (iZ w)]) (rest := []) hx hb hml hts hown hK hST hOK hH 85 (c_X7_isWalker l E ST hSF σ w op lk kp wc pn nw sh wk sv re ea fa ty li th sz sp wr to v f85 f86 (by assumption) (by omega) (by omega)) (cwV 1 hts gX7_walks_X7_isWalker rfl rfl rfl (by decide +kernel) ⟨Nat.le_of_ble_eq_true rfl, Nat.le_of_ble_eq_true rfl⟩) (by decide) f85 rfl rfl hl.1 rfl (Nat.le_of_ble_eq_true rfl) dX7_walks_9 ⟨Nat.le_of_ble_eq_true rfl, Nat.le_of_ble_eq_true rfl⟩ (fun z u h => h) (fun H locs hH => ?_)
  refine x_ifb_eq (tgt := 27) hx hb dX7_walks_12 (by decide) (fun c12 => ?_) (fun c12 => ?_)
  · have c12 := of_decide_eq_false c12
    refine x_iconst hx hb dX7_walks_27 ?_
    refine lv_istore (lv' := [(5, .int (iZ 0)), (4, .int (iZ (cellZ r c0))), (0, .ref (xad E 85)), (1, .int (iZ w)), (2, .int (iZ r)), (3, .int (iZ c0))]) hx hb dX7_walks_28 hl (by decide) rfl (fun ls hl => ?_)
    refine lv_iload hx hb dX7_walks_30 (lv_at hl 0 rfl) ?_
    refine x_if_eq (tgt := 45) hx hb dX7_walks_32 (by decide) (by decide) (fun c32 => ?_) (fun c32 => ?_)
    · refine x_iconst hx hb dX7_walks_45 ?_
      refine lv_istore (lv' := [(6, .int (iZ (-1))), (5, .int (iZ 0)), (4, .int (iZ (cellZ r c0))), (0, .ref (xad E 85)), (1, .int (iZ w)), (2, .int (iZ r)), (3, .int (iZ c0))]) hx hb dX7_walks_46 hl (by decide) rfl (fun ls hl => ?_)
      refine lv_aload_n hx hb dX7_walks_48 rfl (lv_at hl 3 rfl) ?_
      refine lv_iload hx hb dX7_walks_49 (lv_at hl 1 rfl) ?_
      refine lv_iload hx hb dX7_walks_51 (lv_at hl 0 rfl) ?_
      refine x_if_eq (tgt := 60) hx hb dX7_walks_53 (by decide) (by decide) (fun c53 => ?_) (fun c53 => ?_)
      · exact absurd c53 (by decide)
      · refine x_iconst hx hb dX7_walks_56 ?_
        refine lv_goto (tgt := 61) hx hb dX7_walks_57 (by decide) ?_
        refine lv_iload hx hb dX7_walks_61 (lv_at hl 0 rfl) ?_
        refine x_iconst hx hb dX7_walks_63 ?_
        refine x_icmp_eq (tgt := 71) hx hb dX7_walks_64 (by decide) (by decide) (by decide) (fun c64 => ?_) (fun c64 => ?_)
        · refine x_iconst hx hb dX7_walks_71 ?_
          refine x_cVIE (As := [.int (iZ 0), .int (iZ 1), .int (iZ 0)]) (rest := []) hx hb hml hts hown hK hST hOK hH 85 (c_X7_holds l E ST hSF σ false true false sv re ea fa ty li th sz sp wr to f85 ) (cwV 3 hts gX7_walks_X7_holds rfl rfl rfl (by decide +kernel) ⟨Nat.le_of_ble_eq_true rfl, Nat.le_of_ble_eq_true rfl⟩) (by decide) f85 rfl rfl hl.1 rfl (Nat.le_of_ble_eq_true rfl) dX7_walks_72 ⟨Nat.le_of_ble_eq_true rfl, Nat.le_of_ble_eq_true rfl⟩ (fun z u h => h) (fun σ8 H locs hp9 hH => ?_)
          obtain ⟨f85, fr10⟩ := hp9
          have f86 : σ8 86 = aI E 87 v := (fr10 86 (by omega)).trans f86
          have f92 : σ8 92 = aI E 25 F := (fr10 92 (by omega)).trans f92
          refine x_ifb_ne (tgt := 80) hx hb dX7_walks_75 (by decide) (fun c75 => ?_) (fun c75 => ?_)
          · obtain ⟨⟨hw8, hmd⟩, hy9⟩ := walk_y (op := op) (lk := lk) (kp := kp) (wc := wc) (pn := pn) (nw := nw) (sh := sh) (wk := wk) (w := w) (r := r) (c := c0) hwc (by simp; omega) (by simp [c53]) (by simp [c64]) c75
            have hC2 := Cp_br (w := w) (cell := cellZ r c0) (Cp_wc hC hnw.2 (w := w) (x := cellZ r c0) (by omega) (by omega) (by unfold rg; omega)) hnw.2 (by omega) hcz
            refine lv_aload_n hx hb dX7_walks_80 rfl (lv_at hl 3 rfl) ?_
            refine lv_iload_n hx hb dX7_walks_81 rfl (lv_at hl 4 rfl) ?_
            refine lv_iload hx hb dX7_walks_82 (lv_at hl 2 rfl) ?_
            refine x_cVV (As := [.int (iZ w), .int (iZ (cellZ r c0))]) (rest := []) hx hb hml hts hown hK hST hOK hH 85 (c_X7_comes l E ST hSF σ8 w (cellZ r c0) sv re ea fa ty li (thZ false true false) sz sp wr to v f85 f86 (by omega) (by omega) (by assumption)) (cwV 2 hts gX7_walks_X7_comes rfl rfl rfl (by decide +kernel) ⟨Nat.le_of_ble_eq_true rfl, Nat.le_of_ble_eq_true rfl⟩) (by decide) f85 rfl rfl hl.1 rfl (Nat.le_of_ble_eq_true rfl) dX7_walks_84 ⟨Nat.le_of_ble_eq_true rfl, Nat.le_of_ble_eq_true rfl⟩ (fun σ13 H locs hp14 hH => ?_)
            obtain ⟨⟨f85, f86⟩, fr15⟩ := hp14
            have f92 : σ13 92 = aI E 25 F := (fr15 92 (by omega)).trans f92
            refine lv_aload_n hx hb dX7_walks_87 rfl (lv_at hl 3 rfl) ?_
            refine x_get hx hb hts hown hK hH 85 (by decide) f85 hinX7 rfl 0 (by decide) (List.mem_of_getElem? (i := 1) rfl) rfl dX7_walks_88 ?_
            refine x_iconst hx hb dX7_walks_91 ?_
            refine lv_dup2_11 hx hb dX7_walks_92 rfl rfl ?_
            refine x_iald hx hb hK hH 86 (by decide) f86 (by omega) (by omega) (by omega) dX7_walks_93 ?_
            rw [hC2.1.2.2]
            refine lv_iload hx hb dX7_walks_94 (lv_at hl 0 rfl) ?_
            refine x_iadd hx hb dX7_walks_96 ?_
            refine x_iast hx hb hK hH 86 (by decide) f86 (by omega) (by omega) (by omega) dX7_walks_97 (fun σ17 H locs f86 fr18 hH => ?_)
            have f85 : σ17 85 = oB 5 [.ref (xad E 86), .ref (xad E 87), .ref (xad E 88), .ref (xad E 89), .ref (xad E 90), .int (iZ (b2 sv)), .int (iZ re), .int (iZ ea), .int (iZ fa), .ref (xad E 91), .ref (xad E 92), .ref (xad E 93), .int (iZ ty), .ref (xad E 94), .int (iZ li), .int (iZ (thZ false true false)), .int (iZ sz), .int (iZ sp), .int (iZ wr), .int (iZ to), .ref (xad E 95)] := (fr18 85 (by omega)).trans f85
            have f92 : σ17 92 = aI E 25 F := (fr18 92 (by omega)).trans f92
            refine lv_iload hx hb dX7_walks_98 (lv_at hl 0 rfl) ?_
            subst hQ
            exact x_iret hx hb hr hlocks hH (Nat.le_of_ble_eq_true rfl) (Nat.le_of_ble_eq_true rfl) ⟨(by first | exact rs_ok hy9 hmd ⟨by omega, by omega⟩ | exact rs_no (walk_n (op := op) (lk := lk) (kp := kp) (wc := wc) (pn := pn) (nw := nw) (sh := sh) (wk := wk) (w := w) (r := r) (c := c0) hwc (by simp; omega) (by simp [c53]) (by simp [c64]) c75) | exact absurd (okZ_t.mp c75).1 (by decide)), ⟨(ui (bmK (ui v (9 + w) (cellZ r c0)) w (cellZ r c0) 6) 2 (wk + (-1))), F, (f85.trans (by rw [walk_th (op := op) (lk := lk) (kp := kp) (wc := wc) (pn := pn) (nw := nw) (sh := sh) (wk := wk) (w := w) (r := r) (c := c0) hwc (by simp; omega) (by simp [c53]) (by simp [c64])])), f86, f92, (by first | (rw [hmd]; exact cp_ok (Cp_wk hC2 hnw.2 (by unfold rg; omega)) hy9) | exact cp_no hC (walk_n (op := op) (lk := lk) (kp := kp) (wc := wc) (pn := pn) (nw := nw) (sh := sh) (wk := wk) (w := w) (r := r) (c := c0) hwc (by simp; omega) (by simp [c53]) (by simp [c64]) c75) | exact absurd (okZ_t.mp c75).1 (by decide)), (by first | exact hFr | exact fun j => ⟨by have := mdF_rg (G := (Gw op lk kp w)) (st := wc w) Gw_ok (hwc w) j; omega, by have := mdF_rg (G := (Gw op lk kp w)) (st := wc w) Gw_ok (hwc w) j; omega⟩)⟩, fun j hj0 hj1 => ((fr18 j (by omega)).trans ((fr15 j (by omega)).trans (fr10 j (by omega))))⟩ dX7_walks_100
          · refine x_iconst hx hb dX7_walks_78 ?_
            subst hQ
            exact x_iret hx hb hr hlocks hH (Nat.le_of_ble_eq_true rfl) (Nat.le_of_ble_eq_true rfl) ⟨(by first | exact rs_ok hy9 hmd ⟨by omega, by omega⟩ | exact rs_no (walk_n (op := op) (lk := lk) (kp := kp) (wc := wc) (pn := pn) (nw := nw) (sh := sh) (wk := wk) (w := w) (r := r) (c := c0) hwc (by simp; omega) (by simp [c53]) (by simp [c64]) c75) | exact absurd (okZ_t.mp c75).1 (by decide)), ⟨v, F, (f85.trans (by rw [walk_th (op := op) (lk := lk) (kp := kp) (wc := wc) (pn := pn) (nw := nw) (sh := sh) (wk := wk) (w := w) (r := r) (c := c0) hwc (by simp; omega) (by simp [c53]) (by simp [c64])])), f86, f92, (by first | (rw [hmd]; exact cp_ok (Cp_wk hC2 hnw.2 (by unfold rg; omega)) hy9) | exact cp_no hC (walk_n (op := op) (lk := lk) (kp := kp) (wc := wc) (pn := pn) (nw := nw) (sh := sh) (wk := wk) (w := w) (r := r) (c := c0) hwc (by simp; omega) (by simp [c53]) (by simp [c64]) c75) | exact absurd (okZ_t.mp c75).1 (by decide)), (by first | exact hFr | exact fun j => ⟨by have := mdF_rg (G := (Gw op lk kp w)) (st := wc w) Gw_ok (hwc w) j; omega, by have := mdF_rg (G := (Gw op lk kp w)) (st := wc w) Gw_ok (hwc w) j; omega⟩)⟩, fun j hj0 hj1 => (fr10 j (by omega))⟩ dX7_walks_79
        · exact absurd c64 (by decide)
    · exact absurd c32 (by decide)
  · have c12 := of_decide_eq_true c12
    refine lv_iload_n hx hb dX7_walks_15 rfl (lv_at hl 3 rfl) ?_
    refine lv_iload_n hx hb dX7_walks_16 rfl (lv_at hl 4 rfl) ?_
    refine x_cSID (As := [.int (iZ r), .int (iZ c0)]) (rest := []) hx hb hml hts hown hK hST hOK hH (c_X7_isCell l E ST hSF σ r c0  (by omega) (by omega)) (va_cwS 2 hts gX7_walks_X7_isCell rfl rfl rfl (by decide +kernel) ⟨Nat.le_of_ble_eq_true rfl, Nat.le_of_ble_eq_true rfl⟩) rfl hl.1 rfl (Nat.le_of_ble_eq_true rfl) dX7_walks_17 ⟨Nat.le_of_ble_eq_true rfl, Nat.le_of_ble_eq_true rfl⟩ (fun z u h => h) (fun H locs hH => ?_)
    refine x_ifb_eq (tgt := 27) hx hb dX7_walks_20 (by decide) (fun c20 => ?_) (fun c20 => ?_)
    · have c20 := of_decide_eq_false c20
      refine x_iconst hx hb dX7_walks_27 ?_
      refine lv_istore (lv' := [(5, .int (iZ 0)), (4, .int (iZ (cellZ r c0))), (0, .ref (xad E 85)), (1, .int (iZ w)), (2, .int (iZ r)), (3, .int (iZ c0))]) hx hb dX7_walks_28 hl (by decide) rfl (fun ls hl => ?_)
      refine lv_iload hx hb dX7_walks_30 (lv_at hl 0 rfl) ?_
      refine x_if_eq (tgt := 45) hx hb dX7_walks_32 (by decide) (by decide) (fun c32 => ?_) (fun c32 => ?_)
      · refine x_iconst hx hb dX7_walks_45 ?_
        refine lv_istore (lv' := [(6, .int (iZ (-1))), (5, .int (iZ 0)), (4, .int (iZ (cellZ r c0))), (0, .ref (xad E 85)), (1, .int (iZ w)), (2, .int (iZ r)), (3, .int (iZ c0))]) hx hb dX7_walks_46 hl (by decide) rfl (fun ls hl => ?_)
        refine lv_aload_n hx hb dX7_walks_48 rfl (lv_at hl 3 rfl) ?_
        refine lv_iload hx hb dX7_walks_49 (lv_at hl 1 rfl) ?_
        refine lv_iload hx hb dX7_walks_51 (lv_at hl 0 rfl) ?_
        refine x_if_eq (tgt := 60) hx hb dX7_walks_53 (by decide) (by decide) (fun c53 => ?_) (fun c53 => ?_)
        · exact absurd c53 (by decide)
        · refine x_iconst hx hb dX7_walks_56 ?_
          refine lv_goto (tgt := 61) hx hb dX7_walks_57 (by decide) ?_
          refine lv_iload hx hb dX7_walks_61 (lv_at hl 0 rfl) ?_
          refine x_iconst hx hb dX7_walks_63 ?_
          refine x_icmp_eq (tgt := 71) hx hb dX7_walks_64 (by decide) (by decide) (by decide) (fun c64 => ?_) (fun c64 => ?_)
          · refine x_iconst hx hb dX7_walks_71 ?_
            refine x_cVIE (As := [.int (iZ 0), .int (iZ 1), .int (iZ 0)]) (rest := []) hx hb hml hts hown hK hST hOK hH 85 (c_X7_holds l E ST hSF σ false true false sv re ea fa ty li th sz sp wr to f85 ) (cwV 3 hts gX7_walks_X7_holds rfl rfl rfl (by decide +kernel) ⟨Nat.le_of_ble_eq_true rfl, Nat.le_of_ble_eq_true rfl⟩) (by decide) f85 rfl rfl hl.1 rfl (Nat.le_of_ble_eq_true rfl) dX7_walks_72 ⟨Nat.le_of_ble_eq_true rfl, Nat.le_of_ble_eq_true rfl⟩ (fun z u h => h) (fun σ23 H locs hp24 hH => ?_)
            obtain ⟨f85, fr25⟩ := hp24
            have f86 : σ23 86 = aI E 87 v := (fr25 86 (by omega)).trans f86
            have f92 : σ23 92 = aI E 25 F := (fr25 92 (by omega)).trans f92
            refine x_ifb_ne (tgt := 80) hx hb dX7_walks_75 (by decide) (fun c75 => ?_) (fun c75 => ?_)
            · obtain ⟨⟨hw8, hmd⟩, hy9⟩ := walk_y (op := op) (lk := lk) (kp := kp) (wc := wc) (pn := pn) (nw := nw) (sh := sh) (wk := wk) (w := w) (r := r) (c := c0) hwc (by simp; omega) (by simp [c53]) (by simp [c64]) c75
              have hC2 := Cp_br (w := w) (cell := cellZ r c0) (Cp_wc hC hnw.2 (w := w) (x := cellZ r c0) (by omega) (by omega) (by unfold rg; omega)) hnw.2 (by omega) hcz
              refine lv_aload_n hx hb dX7_walks_80 rfl (lv_at hl 3 rfl) ?_
              refine lv_iload_n hx hb dX7_walks_81 rfl (lv_at hl 4 rfl) ?_
              refine lv_iload hx hb dX7_walks_82 (lv_at hl 2 rfl) ?_
              refine x_cVV (As := [.int (iZ w), .int (iZ (cellZ r c0))]) (rest := []) hx hb hml hts hown hK hST hOK hH 85 (c_X7_comes l E ST hSF σ23 w (cellZ r c0) sv re ea fa ty li (thZ false true false) sz sp wr to v f85 f86 (by omega) (by omega) (by assumption)) (cwV 2 hts gX7_walks_X7_comes rfl rfl rfl (by decide +kernel) ⟨Nat.le_of_ble_eq_true rfl, Nat.le_of_ble_eq_true rfl⟩) (by decide) f85 rfl rfl hl.1 rfl (Nat.le_of_ble_eq_true rfl) dX7_walks_84 ⟨Nat.le_of_ble_eq_true rfl, Nat.le_of_ble_eq_true rfl⟩ (fun σ28 H locs hp29 hH => ?_)
              obtain ⟨⟨f85, f86⟩, fr30⟩ := hp29
              have f92 : σ28 92 = aI E 25 F := (fr30 92 (by omega)).trans f92
              refine lv_aload_n hx hb dX7_walks_87 rfl (lv_at hl 3 rfl) ?_
              refine x_get hx hb hts hown hK hH 85 (by decide) f85 hinX7 rfl 0 (by decide) (List.mem_of_getElem? (i := 1) rfl) rfl dX7_walks_88 ?_
              refine x_iconst hx hb dX7_walks_91 ?_
              refine lv_dup2_11 hx hb dX7_walks_92 rfl rfl ?_
              refine x_iald hx hb hK hH 86 (by decide) f86 (by omega) (by omega) (by omega) dX7_walks_93 ?_
              rw [hC2.1.2.2]
              refine lv_iload hx hb dX7_walks_94 (lv_at hl 0 rfl) ?_
              refine x_iadd hx hb dX7_walks_96 ?_
              refine x_iast hx hb hK hH 86 (by decide) f86 (by omega) (by omega) (by omega) dX7_walks_97 (fun σ32 H locs f86 fr33 hH => ?_)
              have f85 : σ32 85 = oB 5 [.ref (xad E 86), .ref (xad E 87), .ref (xad E 88), .ref (xad E 89), .ref (xad E 90), .int (iZ (b2 sv)), .int (iZ re), .int (iZ ea), .int (iZ fa), .ref (xad E 91), .ref (xad E 92), .ref (xad E 93), .int (iZ ty), .ref (xad E 94), .int (iZ li), .int (iZ (thZ false true false)), .int (iZ sz), .int (iZ sp), .int (iZ wr), .int (iZ to), .ref (xad E 95)] := (fr33 85 (by omega)).trans f85
              have f92 : σ32 92 = aI E 25 F := (fr33 92 (by omega)).trans f92
              refine lv_iload hx hb dX7_walks_98 (lv_at hl 0 rfl) ?_
              subst hQ
              exact x_iret hx hb hr hlocks hH (Nat.le_of_ble_eq_true rfl) (Nat.le_of_ble_eq_true rfl) ⟨(by first | exact rs_ok hy9 hmd ⟨by omega, by omega⟩ | exact rs_no (walk_n (op := op) (lk := lk) (kp := kp) (wc := wc) (pn := pn) (nw := nw) (sh := sh) (wk := wk) (w := w) (r := r) (c := c0) hwc (by simp; omega) (by simp [c53]) (by simp [c64]) c75) | exact absurd (okZ_t.mp c75).1 (by decide)), ⟨(ui (bmK (ui v (9 + w) (cellZ r c0)) w (cellZ r c0) 6) 2 (wk + (-1))), F, (f85.trans (by rw [walk_th (op := op) (lk := lk) (kp := kp) (wc := wc) (pn := pn) (nw := nw) (sh := sh) (wk := wk) (w := w) (r := r) (c := c0) hwc (by simp; omega) (by simp [c53]) (by simp [c64])])), f86, f92, (by first | (rw [hmd]; exact cp_ok (Cp_wk hC2 hnw.2 (by unfold rg; omega)) hy9) | exact cp_no hC (walk_n (op := op) (lk := lk) (kp := kp) (wc := wc) (pn := pn) (nw := nw) (sh := sh) (wk := wk) (w := w) (r := r) (c := c0) hwc (by simp; omega) (by simp [c53]) (by simp [c64]) c75) | exact absurd (okZ_t.mp c75).1 (by decide)), (by first | exact hFr | exact fun j => ⟨by have := mdF_rg (G := (Gw op lk kp w)) (st := wc w) Gw_ok (hwc w) j; omega, by have := mdF_rg (G := (Gw op lk kp w)) (st := wc w) Gw_ok (hwc w) j; omega⟩)⟩, fun j hj0 hj1 => ((fr33 j (by omega)).trans ((fr30 j (by omega)).trans (fr25 j (by omega))))⟩ dX7_walks_100
            · refine x_iconst hx hb dX7_walks_78 ?_
              subst hQ
              exact x_iret hx hb hr hlocks hH (Nat.le_of_ble_eq_true rfl) (Nat.le_of_ble_eq_true rfl) ⟨(by first | exact rs_ok hy9 hmd ⟨by omega, by omega⟩ | exact rs_no (walk_n (op := op) (lk := lk) (kp := kp) (wc := wc) (pn := pn) (nw := nw) (sh := sh) (wk := wk) (w := w) (r := r) (c := c0) hwc (by simp; omega) (by simp [c53]) (by simp [c64]) c75) | exact absurd (okZ_t.mp c75).1 (by decide)), ⟨v, F, (f85.trans (by rw [walk_th (op := op) (lk := lk) (kp := kp) (wc := wc) (pn := pn) (nw := nw) (sh := sh) (wk := wk) (w := w) (r := r) (c := c0) hwc (by simp; omega) (by simp [c53]) (by simp [c64])])), f86, f92, (by first | (rw [hmd]; exact cp_ok (Cp_wk hC2 hnw.2 (by unfold rg; omega)) hy9) | exact cp_no hC (walk_n (op := op) (lk := lk) (kp := kp) (wc := wc) (pn := pn) (nw := nw) (sh := sh) (wk := wk) (w := w) (r := r) (c := c0) hwc (by simp; omega) (by simp [c53]) (by simp [c64]) c75) | exact absurd (okZ_t.mp c75).1 (by decide)), (by first | exact hFr | exact fun j => ⟨by have := mdF_rg (G := (Gw op lk kp w)) (st := wc w) Gw_ok (hwc w) j; omega, by have := mdF_rg (G := (Gw op lk kp w)) (st := wc w) Gw_ok (hwc w) j; omega⟩)⟩, fun j hj0 hj1 => (fr25 j (by omega))⟩ dX7_walks_79
          · exact absurd c64 (by decide)
      · exact absurd c32 (by decide)
    · have c20 := of_decide_eq_true c20
      refine x_iconst hx hb dX7_walks_23 ?_
      refine lv_goto (tgt := 28) hx hb dX7_walks_24 (by decide) ?_
      refine lv_istore (lv' := [(5, .int (iZ 1)), (4, .int (iZ (cellZ r c0))), (0, .ref (xad E 85)), (1, .int (iZ w)), (2, .int (iZ r)), (3, .int (iZ c0))]) hx hb dX7_walks_28 hl (by decide) rfl (fun ls hl => ?_)
      refine lv_iload hx hb dX7_walks_30 (lv_at hl 0 rfl) ?_
      refine x_if_eq (tgt := 45) hx hb dX7_walks_32 (by decide) (by decide) (fun c32 => ?_) (fun c32 => ?_)
      · exact absurd c32 (by decide)
      · refine lv_aload_n hx hb dX7_walks_35 rfl (lv_at hl 2 rfl) ?_
        refine lv_iload_n hx hb dX7_walks_36 rfl (lv_at hl 3 rfl) ?_
        refine lv_iload hx hb dX7_walks_37 (lv_at hl 1 rfl) ?_
        refine x_cVIE (As := [.int (iZ w), .int (iZ (cellZ r c0))]) (rest := []) hx hb hml hts hown hK hST hOK hH 85 (c_X7_farOf l E ST hSF σ w (cellZ r c0) op lk kp wc pn nw sh wk sv re ea fa ty li th sz sp wr to v F f85 f86 f92 (by assumption) (by omega) (by omega) (by omega) (by assumption)) (cwV 2 hts gX7_walks_X7_farOf rfl rfl rfl (by decide +kernel) ⟨Nat.le_of_ble_eq_true rfl, Nat.le_of_ble_eq_true rfl⟩) (by decide) f85 rfl rfl hl.1 rfl (Nat.le_of_ble_eq_true rfl) dX7_walks_39 ⟨Nat.le_of_ble_eq_true rfl, Nat.le_of_ble_eq_true rfl⟩ (fun z u h => h) (fun σ35 H locs hp36 hH => ?_)
        obtain ⟨f92, fr37⟩ := hp36
        have f85 : σ35 85 = oB 5 [.ref (xad E 86), .ref (xad E 87), .ref (xad E 88), .ref (xad E 89), .ref (xad E 90), .int (iZ (b2 sv)), .int (iZ re), .int (iZ ea), .int (iZ fa), .ref (xad E 91), .ref (xad E 92), .ref (xad E 93), .int (iZ ty), .ref (xad E 94), .int (iZ li), .int (iZ th), .int (iZ sz), .int (iZ sp), .int (iZ wr), .int (iZ to), .ref (xad E 95)] := (fr37 85 (by omega)).trans f85
        have f86 : σ35 86 = aI E 87 v := (fr37 86 (by omega)).trans f86
        refine lv_goto (tgt := 46) hx hb dX7_walks_42 (by decide) ?_
        refine lv_istore (lv' := [(6, .int (iZ (mD (dz (Gw op lk kp w) (wc w) (cellZ r c0))))), (5, .int (iZ 1)), (4, .int (iZ (cellZ r c0))), (0, .ref (xad E 85)), (1, .int (iZ w)), (2, .int (iZ r)), (3, .int (iZ c0))]) hx hb dX7_walks_46 hl (by decide) rfl (fun ls hl => ?_)
        refine lv_aload_n hx hb dX7_walks_48 rfl (lv_at hl 3 rfl) ?_
        refine lv_iload hx hb dX7_walks_49 (lv_at hl 1 rfl) ?_
        refine lv_iload hx hb dX7_walks_51 (lv_at hl 0 rfl) ?_
        refine x_if_eq (tgt := 60) hx hb dX7_walks_53 (by decide) (by omega) (fun c53 => ?_) (fun c53 => ?_)
        · refine x_iconst hx hb dX7_walks_60 ?_
          refine lv_iload hx hb dX7_walks_61 (lv_at hl 0 rfl) ?_
          refine x_iconst hx hb dX7_walks_63 ?_
          refine x_icmp_eq (tgt := 71) hx hb dX7_walks_64 (by decide) (by omega) (by decide) (fun c64 => ?_) (fun c64 => ?_)
          · refine x_iconst hx hb dX7_walks_71 ?_
            refine x_cVIE (As := [.int (iZ 1), .int (iZ 0), .int (iZ 0)]) (rest := []) hx hb hml hts hown hK hST hOK hH 85 (c_X7_holds l E ST hSF σ35 true false false sv re ea fa ty li th sz sp wr to f85 ) (cwV 3 hts gX7_walks_X7_holds rfl rfl rfl (by decide +kernel) ⟨Nat.le_of_ble_eq_true rfl, Nat.le_of_ble_eq_true rfl⟩) (by decide) f85 rfl rfl hl.1 rfl (Nat.le_of_ble_eq_true rfl) dX7_walks_72 ⟨Nat.le_of_ble_eq_true rfl, Nat.le_of_ble_eq_true rfl⟩ (fun z u h => h) (fun σ40 H locs hp41 hH => ?_)
            obtain ⟨f85, fr42⟩ := hp41
            have f86 : σ40 86 = aI E 87 v := (fr42 86 (by omega)).trans f86
            have f92 : σ40 92 = aI E 25 (mdF (Gw op lk kp w) (wc w)) := (fr42 92 (by omega)).trans f92
            refine x_ifb_ne (tgt := 80) hx hb dX7_walks_75 (by decide) (fun c75 => ?_) (fun c75 => ?_)
            · obtain ⟨⟨hw8, hmd⟩, hy9⟩ := walk_y (op := op) (lk := lk) (kp := kp) (wc := wc) (pn := pn) (nw := nw) (sh := sh) (wk := wk) (w := w) (r := r) (c := c0) hwc (by simp; omega) (by simp [c53]) (by simp [c64]) c75
              have hC2 := Cp_br (w := w) (cell := cellZ r c0) (Cp_wc hC hnw.2 (w := w) (x := cellZ r c0) (by omega) (by omega) (by unfold rg; omega)) hnw.2 (by omega) hcz
              refine lv_aload_n hx hb dX7_walks_80 rfl (lv_at hl 3 rfl) ?_
              refine lv_iload_n hx hb dX7_walks_81 rfl (lv_at hl 4 rfl) ?_
              refine lv_iload hx hb dX7_walks_82 (lv_at hl 2 rfl) ?_
              refine x_cVV (As := [.int (iZ w), .int (iZ (cellZ r c0))]) (rest := []) hx hb hml hts hown hK hST hOK hH 85 (c_X7_comes l E ST hSF σ40 w (cellZ r c0) sv re ea fa ty li (thZ true false false) sz sp wr to v f85 f86 (by omega) (by omega) (by assumption)) (cwV 2 hts gX7_walks_X7_comes rfl rfl rfl (by decide +kernel) ⟨Nat.le_of_ble_eq_true rfl, Nat.le_of_ble_eq_true rfl⟩) (by decide) f85 rfl rfl hl.1 rfl (Nat.le_of_ble_eq_true rfl) dX7_walks_84 ⟨Nat.le_of_ble_eq_true rfl, Nat.le_of_ble_eq_true rfl⟩ (fun σ45 H locs hp46 hH => ?_)
              obtain ⟨⟨f85, f86⟩, fr47⟩ := hp46
              have f92 : σ45 92 = aI E 25 (mdF (Gw op lk kp w) (wc w)) := (fr47 92 (by omega)).trans f92
              refine lv_aload_n hx hb dX7_walks_87 rfl (lv_at hl 3 rfl) ?_
              refine x_get hx hb hts hown hK hH 85 (by decide) f85 hinX7 rfl 0 (by decide) (List.mem_of_getElem? (i := 1) rfl) rfl dX7_walks_88 ?_
              refine x_iconst hx hb dX7_walks_91 ?_
              refine lv_dup2_11 hx hb dX7_walks_92 rfl rfl ?_
              refine x_iald hx hb hK hH 86 (by decide) f86 (by omega) (by omega) (by omega) dX7_walks_93 ?_
              rw [hC2.1.2.2]
              refine lv_iload hx hb dX7_walks_94 (lv_at hl 0 rfl) ?_
              refine x_iadd hx hb dX7_walks_96 ?_
              refine x_iast hx hb hK hH 86 (by decide) f86 (by omega) (by omega) (by omega) dX7_walks_97 (fun σ49 H locs f86 fr50 hH => ?_)
              have f85 : σ49 85 = oB 5 [.ref (xad E 86), .ref (xad E 87), .ref (xad E 88), .ref (xad E 89), .ref (xad E 90), .int (iZ (b2 sv)), .int (iZ re), .int (iZ ea), .int (iZ fa), .ref (xad E 91), .ref (xad E 92), .ref (xad E 93), .int (iZ ty), .ref (xad E 94), .int (iZ li), .int (iZ (thZ true false false)), .int (iZ sz), .int (iZ sp), .int (iZ wr), .int (iZ to), .ref (xad E 95)] := (fr50 85 (by omega)).trans f85
              have f92 : σ49 92 = aI E 25 (mdF (Gw op lk kp w) (wc w)) := (fr50 92 (by omega)).trans f92
              refine lv_iload hx hb dX7_walks_98 (lv_at hl 0 rfl) ?_
              subst hQ
              exact x_iret hx hb hr hlocks hH (Nat.le_of_ble_eq_true rfl) (Nat.le_of_ble_eq_true rfl) ⟨(by first | exact rs_ok hy9 hmd ⟨by omega, by omega⟩ | exact rs_no (walk_n (op := op) (lk := lk) (kp := kp) (wc := wc) (pn := pn) (nw := nw) (sh := sh) (wk := wk) (w := w) (r := r) (c := c0) hwc (by simp; omega) (by simp [c53]) (by simp [c64]) c75) | exact absurd (okZ_t.mp c75).1 (by decide)), ⟨(ui (bmK (ui v (9 + w) (cellZ r c0)) w (cellZ r c0) 6) 2 (wk + (mD (dz (Gw op lk kp w) (wc w) (cellZ r c0))))), (mdF (Gw op lk kp w) (wc w)), (f85.trans (by rw [walk_th (op := op) (lk := lk) (kp := kp) (wc := wc) (pn := pn) (nw := nw) (sh := sh) (wk := wk) (w := w) (r := r) (c := c0) hwc (by simp; omega) (by simp [c53]) (by simp [c64])])), f86, f92, (by first | (rw [hmd]; exact cp_ok (Cp_wk hC2 hnw.2 (by unfold rg; omega)) hy9) | exact cp_no hC (walk_n (op := op) (lk := lk) (kp := kp) (wc := wc) (pn := pn) (nw := nw) (sh := sh) (wk := wk) (w := w) (r := r) (c := c0) hwc (by simp; omega) (by simp [c53]) (by simp [c64]) c75) | exact absurd (okZ_t.mp c75).1 (by decide)), (by first | exact hFr | exact fun j => ⟨by have := mdF_rg (G := (Gw op lk kp w)) (st := wc w) Gw_ok (hwc w) j; omega, by have := mdF_rg (G := (Gw op lk kp w)) (st := wc w) Gw_ok (hwc w) j; omega⟩)⟩, fun j hj0 hj1 => ((fr50 j (by omega)).trans ((fr47 j (by omega)).trans ((fr42 j (by omega)).trans (fr37 j (by omega)))))⟩ dX7_walks_100
            · refine x_iconst hx hb dX7_walks_78 ?_
              subst hQ
              exact x_iret hx hb hr hlocks hH (Nat.le_of_ble_eq_true rfl) (Nat.le_of_ble_eq_true rfl) ⟨(by first | exact rs_ok hy9 hmd ⟨by omega, by omega⟩ | exact rs_no (walk_n (op := op) (lk := lk) (kp := kp) (wc := wc) (pn := pn) (nw := nw) (sh := sh) (wk := wk) (w := w) (r := r) (c := c0) hwc (by simp; omega) (by simp [c53]) (by simp [c64]) c75) | exact absurd (okZ_t.mp c75).1 (by decide)), ⟨v, (mdF (Gw op lk kp w) (wc w)), (f85.trans (by rw [walk_th (op := op) (lk := lk) (kp := kp) (wc := wc) (pn := pn) (nw := nw) (sh := sh) (wk := wk) (w := w) (r := r) (c := c0) hwc (by simp; omega) (by simp [c53]) (by simp [c64])])), f86, f92, (by first | (rw [hmd]; exact cp_ok (Cp_wk hC2 hnw.2 (by unfold rg; omega)) hy9) | exact cp_no hC (walk_n (op := op) (lk := lk) (kp := kp) (wc := wc) (pn := pn) (nw := nw) (sh := sh) (wk := wk) (w := w) (r := r) (c := c0) hwc (by simp; omega) (by simp [c53]) (by simp [c64]) c75) | exact absurd (okZ_t.mp c75).1 (by decide)), (by first | exact hFr | exact fun j => ⟨by have := mdF_rg (G := (Gw op lk kp w)) (st := wc w) Gw_ok (hwc w) j; omega, by have := mdF_rg (G := (Gw op lk kp w)) (st := wc w) Gw_ok (hwc w) j; omega⟩)⟩, fun j hj0 hj1 => ((fr42 j (by omega)).trans (fr37 j (by omega)))⟩ dX7_walks_79
          · refine x_iconst hx hb dX7_walks_67 ?_
            refine lv_goto (tgt := 72) hx hb dX7_walks_68 (by decide) ?_
            refine x_cVIE (As := [.int (iZ 1), .int (iZ 0), .int (iZ 1)]) (rest := []) hx hb hml hts hown hK hST hOK hH 85 (c_X7_holds l E ST hSF σ35 true false true sv re ea fa ty li th sz sp wr to f85 ) (cwV 3 hts gX7_walks_X7_holds rfl rfl rfl (by decide +kernel) ⟨Nat.le_of_ble_eq_true rfl, Nat.le_of_ble_eq_true rfl⟩) (by decide) f85 rfl rfl hl.1 rfl (Nat.le_of_ble_eq_true rfl) dX7_walks_72 ⟨Nat.le_of_ble_eq_true rfl, Nat.le_of_ble_eq_true rfl⟩ (fun z u h => h) (fun σ52 H locs hp53 hH => ?_)
            obtain ⟨f85, fr54⟩ := hp53
            have f86 : σ52 86 = aI E 87 v := (fr54 86 (by omega)).trans f86
            have f92 : σ52 92 = aI E 25 (mdF (Gw op lk kp w) (wc w)) := (fr54 92 (by omega)).trans f92
            refine x_ifb_ne (tgt := 80) hx hb dX7_walks_75 (by decide) (fun c75 => ?_) (fun c75 => ?_)
            · obtain ⟨⟨hw8, hmd⟩, hy9⟩ := walk_y (op := op) (lk := lk) (kp := kp) (wc := wc) (pn := pn) (nw := nw) (sh := sh) (wk := wk) (w := w) (r := r) (c := c0) hwc (by simp; omega) (by simp [c53]) (by simp [c64]) c75
              have hC2 := Cp_br (w := w) (cell := cellZ r c0) (Cp_wc hC hnw.2 (w := w) (x := cellZ r c0) (by omega) (by omega) (by unfold rg; omega)) hnw.2 (by omega) hcz
              refine lv_aload_n hx hb dX7_walks_80 rfl (lv_at hl 3 rfl) ?_
              refine lv_iload_n hx hb dX7_walks_81 rfl (lv_at hl 4 rfl) ?_
              refine lv_iload hx hb dX7_walks_82 (lv_at hl 2 rfl) ?_
              refine x_cVV (As := [.int (iZ w), .int (iZ (cellZ r c0))]) (rest := []) hx hb hml hts hown hK hST hOK hH 85 (c_X7_comes l E ST hSF σ52 w (cellZ r c0) sv re ea fa ty li (thZ true false true) sz sp wr to v f85 f86 (by omega) (by omega) (by assumption)) (cwV 2 hts gX7_walks_X7_comes rfl rfl rfl (by decide +kernel) ⟨Nat.le_of_ble_eq_true rfl, Nat.le_of_ble_eq_true rfl⟩) (by decide) f85 rfl rfl hl.1 rfl (Nat.le_of_ble_eq_true rfl) dX7_walks_84 ⟨Nat.le_of_ble_eq_true rfl, Nat.le_of_ble_eq_true rfl⟩ (fun σ57 H locs hp58 hH => ?_)
              obtain ⟨⟨f85, f86⟩, fr59⟩ := hp58
              have f92 : σ57 92 = aI E 25 (mdF (Gw op lk kp w) (wc w)) := (fr59 92 (by omega)).trans f92
              refine lv_aload_n hx hb dX7_walks_87 rfl (lv_at hl 3 rfl) ?_
              refine x_get hx hb hts hown hK hH 85 (by decide) f85 hinX7 rfl 0 (by decide) (List.mem_of_getElem? (i := 1) rfl) rfl dX7_walks_88 ?_
              refine x_iconst hx hb dX7_walks_91 ?_
              refine lv_dup2_11 hx hb dX7_walks_92 rfl rfl ?_
              refine x_iald hx hb hK hH 86 (by decide) f86 (by omega) (by omega) (by omega) dX7_walks_93 ?_
              rw [hC2.1.2.2]
              refine lv_iload hx hb dX7_walks_94 (lv_at hl 0 rfl) ?_
              refine x_iadd hx hb dX7_walks_96 ?_
              refine x_iast hx hb hK hH 86 (by decide) f86 (by omega) (by omega) (by omega) dX7_walks_97 (fun σ61 H locs f86 fr62 hH => ?_)
              have f85 : σ61 85 = oB 5 [.ref (xad E 86), .ref (xad E 87), .ref (xad E 88), .ref (xad E 89), .ref (xad E 90), .int (iZ (b2 sv)), .int (iZ re), .int (iZ ea), .int (iZ fa), .ref (xad E 91), .ref (xad E 92), .ref (xad E 93), .int (iZ ty), .ref (xad E 94), .int (iZ li), .int (iZ (thZ true false true)), .int (iZ sz), .int (iZ sp), .int (iZ wr), .int (iZ to), .ref (xad E 95)] := (fr62 85 (by omega)).trans f85
              have f92 : σ61 92 = aI E 25 (mdF (Gw op lk kp w) (wc w)) := (fr62 92 (by omega)).trans f92
              refine lv_iload hx hb dX7_walks_98 (lv_at hl 0 rfl) ?_
              subst hQ
              exact x_iret hx hb hr hlocks hH (Nat.le_of_ble_eq_true rfl) (Nat.le_of_ble_eq_true rfl) ⟨(by first | exact rs_ok hy9 hmd ⟨by omega, by omega⟩ | exact rs_no (walk_n (op := op) (lk := lk) (kp := kp) (wc := wc) (pn := pn) (nw := nw) (sh := sh) (wk := wk) (w := w) (r := r) (c := c0) hwc (by simp; omega) (by simp [c53]) (by simp [c64]) c75) | exact absurd (okZ_t.mp c75).1 (by decide)), ⟨(ui (bmK (ui v (9 + w) (cellZ r c0)) w (cellZ r c0) 6) 2 (wk + (mD (dz (Gw op lk kp w) (wc w) (cellZ r c0))))), (mdF (Gw op lk kp w) (wc w)), (f85.trans (by rw [walk_th (op := op) (lk := lk) (kp := kp) (wc := wc) (pn := pn) (nw := nw) (sh := sh) (wk := wk) (w := w) (r := r) (c := c0) hwc (by simp; omega) (by simp [c53]) (by simp [c64])])), f86, f92, (by first | (rw [hmd]; exact cp_ok (Cp_wk hC2 hnw.2 (by unfold rg; omega)) hy9) | exact cp_no hC (walk_n (op := op) (lk := lk) (kp := kp) (wc := wc) (pn := pn) (nw := nw) (sh := sh) (wk := wk) (w := w) (r := r) (c := c0) hwc (by simp; omega) (by simp [c53]) (by simp [c64]) c75) | exact absurd (okZ_t.mp c75).1 (by decide)), (by first | exact hFr | exact fun j => ⟨by have := mdF_rg (G := (Gw op lk kp w)) (st := wc w) Gw_ok (hwc w) j; omega, by have := mdF_rg (G := (Gw op lk kp w)) (st := wc w) Gw_ok (hwc w) j; omega⟩)⟩, fun j hj0 hj1 => ((fr62 j (by omega)).trans ((fr59 j (by omega)).trans ((fr54 j (by omega)).trans (fr37 j (by omega)))))⟩ dX7_walks_100
            · refine x_iconst hx hb dX7_walks_78 ?_
              subst hQ
              exact x_iret hx hb hr hlocks hH (Nat.le_of_ble_eq_true rfl) (Nat.le_of_ble_eq_true rfl) ⟨(by first | exact rs_ok hy9 hmd ⟨by omega, by omega⟩ | exact rs_no (walk_n (op := op) (lk := lk) (kp := kp) (wc := wc) (pn := pn) (nw := nw) (sh := sh) (wk := wk) (w := w) (r := r) (c := c0) hwc (by simp; omega) (by simp [c53]) (by simp [c64]) c75) | exact absurd (okZ_t.mp c75).1 (by decide)), ⟨v, (mdF (Gw op lk kp w) (wc w)), (f85.trans (by rw [walk_th (op := op) (lk := lk) (kp := kp) (wc := wc) (pn := pn) (nw := nw) (sh := sh) (wk := wk) (w := w) (r := r) (c := c0) hwc (by simp; omega) (by simp [c53]) (by simp [c64])])), f86, f92, (by first | (rw [hmd]; exact cp_ok (Cp_wk hC2 hnw.2 (by unfold rg; omega)) hy9) | exact cp_no hC (walk_n (op := op) (lk := lk) (kp := kp) (wc := wc) (pn := pn) (nw := nw) (sh := sh) (wk := wk) (w := w) (r := r) (c := c0) hwc (by simp; omega) (by simp [c53]) (by simp [c64]) c75) | exact absurd (okZ_t.mp c75).1 (by decide)), (by first | exact hFr | exact fun j => ⟨by have := mdF_rg (G := (Gw op lk kp w)) (st := wc w) Gw_ok (hwc w) j; omega, by have := mdF_rg (G := (Gw op lk kp w)) (st := wc w) Gw_ok (hwc w) j; omega⟩)⟩, fun j hj0 hj1 => ((fr54 j (by omega)).trans (fr37 j (by omega)))⟩ dX7_walks_79
        · refine x_iconst hx hb dX7_walks_56 ?_
          refine lv_goto (tgt := 61) hx hb dX7_walks_57 (by decide) ?_
          refine lv_iload hx hb dX7_walks_61 (lv_at hl 0 rfl) ?_
          refine x_iconst hx hb dX7_walks_63 ?_
          refine x_icmp_eq (tgt := 71) hx hb dX7_walks_64 (by decide) (by omega) (by decide) (fun c64 => ?_) (fun c64 => ?_)
          · refine x_iconst hx hb dX7_walks_71 ?_
            refine x_cVIE (As := [.int (iZ 1), .int (iZ 1), .int (iZ 0)]) (rest := []) hx hb hml hts hown hK hST hOK hH 85 (c_X7_holds l E ST hSF σ35 true true false sv re ea fa ty li th sz sp wr to f85 ) (cwV 3 hts gX7_walks_X7_holds rfl rfl rfl (by decide +kernel) ⟨Nat.le_of_ble_eq_true rfl, Nat.le_of_ble_eq_true rfl⟩) (by decide) f85 rfl rfl hl.1 rfl (Nat.le_of_ble_eq_true rfl) dX7_walks_72 ⟨Nat.le_of_ble_eq_true rfl, Nat.le_of_ble_eq_true rfl⟩ (fun z u h => h) (fun σ64 H locs hp65 hH => ?_)
            obtain ⟨f85, fr66⟩ := hp65
            have f86 : σ64 86 = aI E 87 v := (fr66 86 (by omega)).trans f86
            have f92 : σ64 92 = aI E 25 (mdF (Gw op lk kp w) (wc w)) := (fr66 92 (by omega)).trans f92
            refine x_ifb_ne (tgt := 80) hx hb dX7_walks_75 (by decide) (fun c75 => ?_) (fun c75 => ?_)
            · obtain ⟨⟨hw8, hmd⟩, hy9⟩ := walk_y (op := op) (lk := lk) (kp := kp) (wc := wc) (pn := pn) (nw := nw) (sh := sh) (wk := wk) (w := w) (r := r) (c := c0) hwc (by simp; omega) (by simp [c53]) (by simp [c64]) c75
              have hC2 := Cp_br (w := w) (cell := cellZ r c0) (Cp_wc hC hnw.2 (w := w) (x := cellZ r c0) (by omega) (by omega) (by unfold rg; omega)) hnw.2 (by omega) hcz
              refine lv_aload_n hx hb dX7_walks_80 rfl (lv_at hl 3 rfl) ?_
              refine lv_iload_n hx hb dX7_walks_81 rfl (lv_at hl 4 rfl) ?_
              refine lv_iload hx hb dX7_walks_82 (lv_at hl 2 rfl) ?_
              refine x_cVV (As := [.int (iZ w), .int (iZ (cellZ r c0))]) (rest := []) hx hb hml hts hown hK hST hOK hH 85 (c_X7_comes l E ST hSF σ64 w (cellZ r c0) sv re ea fa ty li (thZ true true false) sz sp wr to v f85 f86 (by omega) (by omega) (by assumption)) (cwV 2 hts gX7_walks_X7_comes rfl rfl rfl (by decide +kernel) ⟨Nat.le_of_ble_eq_true rfl, Nat.le_of_ble_eq_true rfl⟩) (by decide) f85 rfl rfl hl.1 rfl (Nat.le_of_ble_eq_true rfl) dX7_walks_84 ⟨Nat.le_of_ble_eq_true rfl, Nat.le_of_ble_eq_true rfl⟩ (fun σ69 H locs hp70 hH => ?_)
              obtain ⟨⟨f85, f86⟩, fr71⟩ := hp70
              have f92 : σ69 92 = aI E 25 (mdF (Gw op lk kp w) (wc w)) := (fr71 92 (by omega)).trans f92
              refine lv_aload_n hx hb dX7_walks_87 rfl (lv_at hl 3 rfl) ?_
              refine x_get hx hb hts hown hK hH 85 (by decide) f85 hinX7 rfl 0 (by decide) (List.mem_of_getElem? (i := 1) rfl) rfl dX7_walks_88 ?_
              refine x_iconst hx hb dX7_walks_91 ?_
              refine lv_dup2_11 hx hb dX7_walks_92 rfl rfl ?_
              refine x_iald hx hb hK hH 86 (by decide) f86 (by omega) (by omega) (by omega) dX7_walks_93 ?_
              rw [hC2.1.2.2]
              refine lv_iload hx hb dX7_walks_94 (lv_at hl 0 rfl) ?_
              refine x_iadd hx hb dX7_walks_96 ?_
              refine x_iast hx hb hK hH 86 (by decide) f86 (by omega) (by omega) (by omega) dX7_walks_97 (fun σ73 H locs f86 fr74 hH => ?_)
              have f85 : σ73 85 = oB 5 [.ref (xad E 86), .ref (xad E 87), .ref (xad E 88), .ref (xad E 89), .ref (xad E 90), .int (iZ (b2 sv)), .int (iZ re), .int (iZ ea), .int (iZ fa), .ref (xad E 91), .ref (xad E 92), .ref (xad E 93), .int (iZ ty), .ref (xad E 94), .int (iZ li), .int (iZ (thZ true true false)), .int (iZ sz), .int (iZ sp), .int (iZ wr), .int (iZ to), .ref (xad E 95)] := (fr74 85 (by omega)).trans f85
              have f92 : σ73 92 = aI E 25 (mdF (Gw op lk kp w) (wc w)) := (fr74 92 (by omega)).trans f92
              refine lv_iload hx hb dX7_walks_98 (lv_at hl 0 rfl) ?_
              subst hQ
              exact x_iret hx hb hr hlocks hH (Nat.le_of_ble_eq_true rfl) (Nat.le_of_ble_eq_true rfl) ⟨(by first | exact rs_ok hy9 hmd ⟨by omega, by omega⟩ | exact rs_no (walk_n (op := op) (lk := lk) (kp := kp) (wc := wc) (pn := pn) (nw := nw) (sh := sh) (wk := wk) (w := w) (r := r) (c := c0) hwc (by simp; omega) (by simp [c53]) (by simp [c64]) c75) | exact absurd (okZ_t.mp c75).1 (by decide)), ⟨(ui (bmK (ui v (9 + w) (cellZ r c0)) w (cellZ r c0) 6) 2 (wk + (mD (dz (Gw op lk kp w) (wc w) (cellZ r c0))))), (mdF (Gw op lk kp w) (wc w)), (f85.trans (by rw [walk_th (op := op) (lk := lk) (kp := kp) (wc := wc) (pn := pn) (nw := nw) (sh := sh) (wk := wk) (w := w) (r := r) (c := c0) hwc (by simp; omega) (by simp [c53]) (by simp [c64])])), f86, f92, (by first | (rw [hmd]; exact cp_ok (Cp_wk hC2 hnw.2 (by unfold rg; omega)) hy9) | exact cp_no hC (walk_n (op := op) (lk := lk) (kp := kp) (wc := wc) (pn := pn) (nw := nw) (sh := sh) (wk := wk) (w := w) (r := r) (c := c0) hwc (by simp; omega) (by simp [c53]) (by simp [c64]) c75) | exact absurd (okZ_t.mp c75).1 (by decide)), (by first | exact hFr | exact fun j => ⟨by have := mdF_rg (G := (Gw op lk kp w)) (st := wc w) Gw_ok (hwc w) j; omega, by have := mdF_rg (G := (Gw op lk kp w)) (st := wc w) Gw_ok (hwc w) j; omega⟩)⟩, fun j hj0 hj1 => ((fr74 j (by omega)).trans ((fr71 j (by omega)).trans ((fr66 j (by omega)).trans (fr37 j (by omega)))))⟩ dX7_walks_100
            · refine x_iconst hx hb dX7_walks_78 ?_
              subst hQ
              exact x_iret hx hb hr hlocks hH (Nat.le_of_ble_eq_true rfl) (Nat.le_of_ble_eq_true rfl) ⟨(by first | exact rs_ok hy9 hmd ⟨by omega, by omega⟩ | exact rs_no (walk_n (op := op) (lk := lk) (kp := kp) (wc := wc) (pn := pn) (nw := nw) (sh := sh) (wk := wk) (w := w) (r := r) (c := c0) hwc (by simp; omega) (by simp [c53]) (by simp [c64]) c75) | exact absurd (okZ_t.mp c75).1 (by decide)), ⟨v, (mdF (Gw op lk kp w) (wc w)), (f85.trans (by rw [walk_th (op := op) (lk := lk) (kp := kp) (wc := wc) (pn := pn) (nw := nw) (sh := sh) (wk := wk) (w := w) (r := r) (c := c0) hwc (by simp; omega) (by simp [c53]) (by simp [c64])])), f86, f92, (by first | (rw [hmd]; exact cp_ok (Cp_wk hC2 hnw.2 (by unfold rg; omega)) hy9) | exact cp_no hC (walk_n (op := op) (lk := lk) (kp := kp) (wc := wc) (pn := pn) (nw := nw) (sh := sh) (wk := wk) (w := w) (r := r) (c := c0) hwc (by simp; omega) (by simp [c53]) (by simp [c64]) c75) | exact absurd (okZ_t.mp c75).1 (by decide)), (by first | exact hFr | exact fun j => ⟨by have := mdF_rg (G := (Gw op lk kp w)) (st := wc w) Gw_ok (hwc w) j; omega, by have := mdF_rg (G := (Gw op lk kp w)) (st := wc w) Gw_ok (hwc w) j; omega⟩)⟩, fun j hj0 hj1 => ((fr66 j (by omega)).trans (fr37 j (by omega)))⟩ dX7_walks_79
          · refine x_iconst hx hb dX7_walks_67 ?_
            refine lv_goto (tgt := 72) hx hb dX7_walks_68 (by decide) ?_
            refine x_cVIE (As := [.int (iZ 1), .int (iZ 1), .int (iZ 1)]) (rest := []) hx hb hml hts hown hK hST hOK hH 85 (c_X7_holds l E ST hSF σ35 true true true sv re ea fa ty li th sz sp wr to f85 ) (cwV 3 hts gX7_walks_X7_holds rfl rfl rfl (by decide +kernel) ⟨Nat.le_of_ble_eq_true rfl, Nat.le_of_ble_eq_true rfl⟩) (by decide) f85 rfl rfl hl.1 rfl (Nat.le_of_ble_eq_true rfl) dX7_walks_72 ⟨Nat.le_of_ble_eq_true rfl, Nat.le_of_ble_eq_true rfl⟩ (fun z u h => h) (fun σ76 H locs hp77 hH => ?_)
            obtain ⟨f85, fr78⟩ := hp77
            have f86 : σ76 86 = aI E 87 v := (fr78 86 (by omega)).trans f86
            have f92 : σ76 92 = aI E 25 (mdF (Gw op lk kp w) (wc w)) := (fr78 92 (by omega)).trans f92
            refine x_ifb_ne (tgt := 80) hx hb dX7_walks_75 (by decide) (fun c75 => ?_) (fun c75 => ?_)
            · obtain ⟨⟨hw8, hmd⟩, hy9⟩ := walk_y (op := op) (lk := lk) (kp := kp) (wc := wc) (pn := pn) (nw := nw) (sh := sh) (wk := wk) (w := w) (r := r) (c := c0) hwc (by simp; omega) (by simp [c53]) (by simp [c64]) c75
              have hC2 := Cp_br (w := w) (cell := cellZ r c0) (Cp_wc hC hnw.2 (w := w) (x := cellZ r c0) (by omega) (by omega) (by unfold rg; omega)) hnw.2 (by omega) hcz
              refine lv_aload_n hx hb dX7_walks_80 rfl (lv_at hl 3 rfl) ?_
              refine lv_iload_n hx hb dX7_walks_81 rfl (lv_at hl 4 rfl) ?_
              refine lv_iload hx hb dX7_walks_82 (lv_at hl 2 rfl) ?_
              refine x_cVV (As := [.int (iZ w), .int (iZ (cellZ r c0))]) (rest := []) hx hb hml hts hown hK hST hOK hH 85 (c_X7_comes l E ST hSF σ76 w (cellZ r c0) sv re ea fa ty li (thZ true true true) sz sp wr to v f85 f86 (by omega) (by omega) (by assumption)) (cwV 2 hts gX7_walks_X7_comes rfl rfl rfl (by decide +kernel) ⟨Nat.le_of_ble_eq_true rfl, Nat.le_of_ble_eq_true rfl⟩) (by decide) f85 rfl rfl hl.1 rfl (Nat.le_of_ble_eq_true rfl) dX7_walks_84 ⟨Nat.le_of_ble_eq_true rfl, Nat.le_of_ble_eq_true rfl⟩ (fun σ81 H locs hp82 hH => ?_)
              obtain ⟨⟨f85, f86⟩, fr83⟩ := hp82
              have f92 : σ81 92 = aI E 25 (mdF (Gw op lk kp w) (wc w)) := (fr83 92 (by omega)).trans f92
              refine lv_aload_n hx hb dX7_walks_87 rfl (lv_at hl 3 rfl) ?_
              refine x_get hx hb hts hown hK hH 85 (by decide) f85 hinX7 rfl 0 (by decide) (List.mem_of_getElem? (i := 1) rfl) rfl dX7_walks_88 ?_
              refine x_iconst hx hb dX7_walks_91 ?_
              refine lv_dup2_11 hx hb dX7_walks_92 rfl rfl ?_
              refine x_iald hx hb hK hH 86 (by decide) f86 (by omega) (by omega) (by omega) dX7_walks_93 ?_
              rw [hC2.1.2.2]
              refine lv_iload hx hb dX7_walks_94 (lv_at hl 0 rfl) ?_
              refine x_iadd hx hb dX7_walks_96 ?_
              refine x_iast hx hb hK hH 86 (by decide) f86 (by omega) (by omega) (by omega) dX7_walks_97 (fun σ85 H locs f86 fr86 hH => ?_)
              have f85 : σ85 85 = oB 5 [.ref (xad E 86), .ref (xad E 87), .ref (xad E 88), .ref (xad E 89), .ref (xad E 90), .int (iZ (b2 sv)), .int (iZ re), .int (iZ ea), .int (iZ fa), .ref (xad E 91), .ref (xad E 92), .ref (xad E 93), .int (iZ ty), .ref (xad E 94), .int (iZ li), .int (iZ (thZ true true true)), .int (iZ sz), .int (iZ sp), .int (iZ wr), .int (iZ to), .ref (xad E 95)] := (fr86 85 (by omega)).trans f85
              have f92 : σ85 92 = aI E 25 (mdF (Gw op lk kp w) (wc w)) := (fr86 92 (by omega)).trans f92
              refine lv_iload hx hb dX7_walks_98 (lv_at hl 0 rfl) ?_
              subst hQ
              exact x_iret hx hb hr hlocks hH (Nat.le_of_ble_eq_true rfl) (Nat.le_of_ble_eq_true rfl) ⟨(by first | exact rs_ok hy9 hmd ⟨by omega, by omega⟩ | exact rs_no (walk_n (op := op) (lk := lk) (kp := kp) (wc := wc) (pn := pn) (nw := nw) (sh := sh) (wk := wk) (w := w) (r := r) (c := c0) hwc (by simp; omega) (by simp [c53]) (by simp [c64]) c75) | exact absurd (okZ_t.mp c75).1 (by decide)), ⟨(ui (bmK (ui v (9 + w) (cellZ r c0)) w (cellZ r c0) 6) 2 (wk + (mD (dz (Gw op lk kp w) (wc w) (cellZ r c0))))), (mdF (Gw op lk kp w) (wc w)), (f85.trans (by rw [walk_th (op := op) (lk := lk) (kp := kp) (wc := wc) (pn := pn) (nw := nw) (sh := sh) (wk := wk) (w := w) (r := r) (c := c0) hwc (by simp; omega) (by simp [c53]) (by simp [c64])])), f86, f92, (by first | (rw [hmd]; exact cp_ok (Cp_wk hC2 hnw.2 (by unfold rg; omega)) hy9) | exact cp_no hC (walk_n (op := op) (lk := lk) (kp := kp) (wc := wc) (pn := pn) (nw := nw) (sh := sh) (wk := wk) (w := w) (r := r) (c := c0) hwc (by simp; omega) (by simp [c53]) (by simp [c64]) c75) | exact absurd (okZ_t.mp c75).1 (by decide)), (by first | exact hFr | exact fun j => ⟨by have := mdF_rg (G := (Gw op lk kp w)) (st := wc w) Gw_ok (hwc w) j; omega, by have := mdF_rg (G := (Gw op lk kp w)) (st := wc w) Gw_ok (hwc w) j; omega⟩)⟩, fun j hj0 hj1 => ((fr86 j (by omega)).trans ((fr83 j (by omega)).trans ((fr78 j (by omega)).trans (fr37 j (by omega)))))⟩ dX7_walks_100
            · refine x_iconst hx hb dX7_walks_78 ?_
              subst hQ
              exact x_iret hx hb hr hlocks hH (Nat.le_of_ble_eq_true rfl) (Nat.le_of_ble_eq_true rfl) ⟨(by first | exact rs_ok hy9 hmd ⟨by omega, by omega⟩ | exact rs_no (walk_n (op := op) (lk := lk) (kp := kp) (wc := wc) (pn := pn) (nw := nw) (sh := sh) (wk := wk) (w := w) (r := r) (c := c0) hwc (by simp; omega) (by simp [c53]) (by simp [c64]) c75) | exact absurd (okZ_t.mp c75).1 (by decide)), ⟨v, (mdF (Gw op lk kp w) (wc w)), (f85.trans (by rw [walk_th (op := op) (lk := lk) (kp := kp) (wc := wc) (pn := pn) (nw := nw) (sh := sh) (wk := wk) (w := w) (r := r) (c := c0) hwc (by simp; omega) (by simp [c53]) (by simp [c64])])), f86, f92, (by first | (rw [hmd]; exact cp_ok (Cp_wk hC2 hnw.2 (by unfold rg; omega)) hy9) | exact cp_no hC (walk_n (op := op) (lk := lk) (kp := kp) (wc := wc) (pn := pn) (nw := nw) (sh := sh) (wk := wk) (w := w) (r := r) (c := c0) hwc (by simp; omega) (by simp [c53]) (by simp [c64]) c75) | exact absurd (okZ_t.mp c75).1 (by decide)), (by first | exact hFr | exact fun j => ⟨by have := mdF_rg (G := (Gw op lk kp w)) (st := wc w) Gw_ok (hwc w) j; omega, by have := mdF_rg (G := (Gw op lk kp w)) (st := wc w) Gw_ok (hwc w) j; omega⟩)⟩, fun j hj0 hj1 => ((fr78 j (by omega)).trans (fr37 j (by omega)))⟩ dX7_walks_79

def rm_X7_walk : Room := { frames := 9, cells := 0, slots := 0, locals := 207 }
set_option maxRecDepth 100000 in
set_option maxHeartbeats 4000000 in
theorem c_X7_walk (l : Launch) (E : xE) (ST : xST) (hSF : SF ST) (σ : xW) (w : Int) (r : Int) (c0 : Int) (op : Int → Int) (lk : Int → Int) (kp : Int → Int) (wc : Int → Int) (pn : Int) (nw : Int) (sh : Int) (wk : Int) (sv : Bool) (re : Int) (ea : Int) (fa : Int) (ty : Int) (li : Int) (th : Int) (sz : Int) (sp : Int) (wr : Int) (to : Int) (v : Int → Int) (wb : Int → Int) (hF : Int → Int) (F : Int → Int) (hr0 : mo E σ sv re ea fa ty li th sz sp wr to) (hr1 : now E σ v) (hr2 : bef E σ wb) (hr3 : his E σ hF) (hr4 : far E σ F) (hC : Cp v op lk kp wc pn nw sh wk) (hB : BI op lk kp wc pn nw) (hre : 0 ≤ re ∧ re ≤ 8) (hr9 : rg r) (hc9 : rg c0) (hw9 : rg w) (hFr : ∀ j : Int, rg (F j)) (hwk : 0 ≤ wk ∧ wk ≤ 1000000000) : CI l E ST yX7_walk wsX7_walk rm_X7_walk [.ref (xad E 85), .int (iZ w), .int (iZ r), .int (iZ c0)] σ (fun (z : Int) (u : xW) => (0 ≤ (walkF op lk kp wc pn nw sh wk w r c0).1 → z = (walkF op lk kp wc pn nw sh wk w r c0).1) ∧ (∃ (v1 F1 : Int → Int), mo E u sv (if tA (walkF op lk kp wc pn nw sh wk w r c0).1 = 0 then re8 re else re) ea fa ty li (tA (walkF op lk kp wc pn nw sh wk w r c0).1) sz sp wr to ∧ now E u (if tA (walkF op lk kp wc pn nw sh wk w r c0).1 = 0 then v1 else v) ∧ bef E u v ∧ his E u (if tA (walkF op lk kp wc pn nw sh wk w r c0).1 = 0 then rmF hF v re else hF) ∧ far E u F1 ∧ (CpT v1 (walkF op lk kp wc pn nw sh wk w r c0).2) ∧ (∀ j : Int, rg (F1 j))) ∧ ∀ j : Nat, (j < 85 ∨ 85 + 3 ≤ j) → j ≠ 90 → j ≠ 92 → u j = σ j) := by
  have f85 : σ 85 = oB 5 [.ref (xad E 86), .ref (xad E 87), .ref (xad E 88), .ref (xad E 89), .ref (xad E 90), .int (iZ (b2 sv)), .int (iZ re), .int (iZ ea), .int (iZ fa), .ref (xad E 91), .ref (xad E 92), .ref (xad E 93), .int (iZ ty), .ref (xad E 94), .int (iZ li), .int (iZ th), .int (iZ sz), .int (iZ sp), .int (iZ wr), .int (iZ to), .ref (xad E 95)] := hr0
  have f86 : σ 86 = aI E 87 v := hr1
  have f87 : σ 87 = aI E 87 wb := hr2
  have f90 : σ 90 = aI E 696 hF := hr3
  have f92 : σ 92 = aI E 25 F := hr4
  refine CI_of (by decide) rfl (Nat.le_of_ble_eq_true rfl) ?_
  intro p e s m args below meth c Q ls G hH hl hQ
  obtain ⟨hx, hb, hml, hown, hts, hK, hST, hlocks, hr, hno⟩ := G
  have hOK := hSF.1
  have hown : s.vm.findClass RX7 = some m.cls := hown
  have hl : lv_has ls 4 [(0, .ref (xad E 85)), (1, .int (iZ w)), (2, .int (iZ r)), (3, .int (iZ c0))] := hl
  obtain ⟨hop, hlk, hkp, hwc, hpn, hnw⟩ := id hB
  have hvR := hC.R
  have hv0 := hC.1.1
  refine lv_aload_n hx hb dX7_walk_0 rfl (lv_at hl 0 rfl) ?_
  refine x_cVV (As := []) (rest := []) hx hb hml hts hown hK hST hOK hH 85 (c_X7_begins l E ST hSF σ sv re ea fa ty li th sz sp wr to v wb f85 f86 f87 ) (cwV 0 hts gX7_walk_X7_begins rfl rfl rfl (by decide +kernel) ⟨Nat.le_of_ble_eq_true rfl, Nat.le_of_ble_eq_true rfl⟩) (by decide) f85 rfl rfl hl.1 rfl (Nat.le_of_ble_eq_true rfl) dX7_walk_1 ⟨Nat.le_of_ble_eq_true rfl, Nat.le_of_ble_eq_true rfl⟩ (fun σ2 H locs hp3 hH => ?_)
  obtain ⟨⟨f85, f86, f87⟩, fr4⟩ := hp3
  have f90 : σ2 90 = aI E 696 hF := (fr4 90 (by omega)).trans f90
  have f92 : σ2 92 = aI E 25 F := (fr4 92 (by omega)).trans f92
  refine lv_aload_n hx hb dX7_walk_4 rfl (lv_at hl 0 rfl) ?_
  refine lv_aload_n hx hb dX7_walk_5 rfl (lv_at hl 0 rfl) ?_
  refine lv_iload_n hx hb dX7_walk_6 rfl (lv_at hl 1 rfl) ?_
  refine lv_iload_n hx hb dX7_walk_7 rfl (lv_at hl 2 rfl) ?_
  refine lv_iload_n hx hb dX7_walk_8 rfl (lv_at hl 3 rfl) ?_
  refine x_cVI (As := [.int (iZ w), .int (iZ r), .int (iZ c0)]) (rest := [.ref (xad E 85)]) hx hb hml hts hown hK hST hOK hH 85 (c_X7_walks l E ST hSF σ2 w r c0 op lk kp wc pn nw sh wk sv re ea fa ty li th sz sp wr to v F f85 f86 f92 (by assumption) (by omega) (by omega) (by omega) (by omega) (by assumption) (by omega)) (cwV 3 hts gX7_walk_X7_walks rfl rfl rfl (by decide +kernel) ⟨Nat.le_of_ble_eq_true rfl, Nat.le_of_ble_eq_true rfl⟩) (by decide) f85 rfl rfl hl.1 rfl (Nat.le_of_ble_eq_true rfl) dX7_walk_9 ⟨Nat.le_of_ble_eq_true rfl, Nat.le_of_ble_eq_true rfl⟩ (fun z6 σ7 H locs hp8 hH => ?_)
  obtain ⟨hz_, ⟨v1_, F1_10, f85, f86, f92, hf11, hf12⟩, fr9⟩ := hp8
  have f87 : σ7 87 = aI E 87 v := (fr9 87 (by omega) (by omega)).trans f87
  have f90 : σ7 90 = aI E 696 hF := (fr9 90 (by omega) (by omega)).trans f90
  have htb : 0 ≤ tA (walkF op lk kp wc pn nw sh wk w r c0).1 ∧ tA (walkF op lk kp wc pn nw sh wk w r c0).1 ≤ 3 := (by unfold tA; (repeat' split) <;> omega)
  refine x_cVIE (As := [.int (iZ z6)]) (rest := []) hx hb hml hts hown hK hST hOK hH 85 (c_X7_ends l E ST hSF σ7 z6 sv re ea fa ty li (tA (walkF op lk kp wc pn nw sh wk w r c0).1) sz sp wr to v1_ v hF f85 f86 f87 f90 (by omega) (by omega) (by omega)) (cwV 1 hts gX7_walk_X7_ends rfl rfl rfl (by decide +kernel) ⟨Nat.le_of_ble_eq_true rfl, Nat.le_of_ble_eq_true rfl⟩) (by decide) f85 rfl rfl hl.1 rfl (Nat.le_of_ble_eq_true rfl) dX7_walk_12 ⟨Nat.le_of_ble_eq_true rfl, Nat.le_of_ble_eq_true rfl⟩ (fun z u h => h) (fun σ14 H locs hp15 hH => ?_)
  obtain ⟨⟨f85, f86, f87, f90⟩, fr16⟩ := hp15
  have f92 : σ14 92 = aI E 25 F1_10 := (fr16 92 (by omega) (by omega)).trans f92
  subst hQ
  exact x_iret hx hb hr hlocks hH (Nat.le_of_ble_eq_true rfl) (Nat.le_of_ble_eq_true rfl) ⟨(by intro h9; rw [if_pos (tA_0 h9)]; exact hz_.2 h9), ⟨v1_, F1_10, (f85.trans (by first | rfl | omega | simp_all)), (f86.trans (congrArg (fun g => aI E 87 g) (show (if (tA (walkF op lk kp wc pn nw sh wk w r c0).1) = 0 then v1_ else v) = (if tA (walkF op lk kp wc pn nw sh wk w r c0).1 = 0 then v1_ else v) from (by first | rfl | omega | simp_all)))), f87, (f90.trans (congrArg (fun g => aI E 696 g) (show (if (tA (walkF op lk kp wc pn nw sh wk w r c0).1) = 0 then rmF hF v re else hF) = (if tA (walkF op lk kp wc pn nw sh wk w r c0).1 = 0 then rmF hF v re else hF) from (by first | rfl | omega | simp_all)))), f92, (by first | assumption | omega | simp_all), (by first | assumption | omega | simp_all)⟩, fun j hj0 hj1 hj2 => ((fr16 j (by omega) (by omega)).trans ((fr9 j (by omega) (by omega)).trans (fr4 j (by omega))))⟩ dX7_walk_15
