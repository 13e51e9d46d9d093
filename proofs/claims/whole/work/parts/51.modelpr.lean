def rm_X7_letterHere : Room := { frames := 0, cells := 0, slots := 0, locals := 0 }
set_option maxRecDepth 100000 in
set_option maxHeartbeats 4000000 in
theorem c_X7_letterHere (l : Launch) (E : xE) (ST : xST) (hSF : SF ST) (σ : xW) (sv : Bool) (re : Int) (ea : Int) (fa : Int) (ty : Int) (li : Int) (th : Int) (sz : Int) (sp : Int) (wr : Int) (to : Int) (tx : Int → Int) (hr0 : mo E σ sv re ea fa ty li th sz sp wr to) (hr1 : txt E σ tx) (hsp : 0 ≤ sp ∧ sp ≤ sz) (hsz : sz ≤ 60) (htx : ∀ j, 0 ≤ tx j ∧ tx j ≤ 65535) : CI l E ST yX7_letterHere wsX7_letterHere rm_X7_letterHere [.ref (xad E 85)] σ (fun (z : Int) (u : xW) => z = leZ tx sz sp ∧ u = σ) := by
  have f85 : σ 85 = oB 5 [.ref (xad E 86), .ref (xad E 87), .ref (xad E 88), .ref (xad E 89), .ref (xad E 90), .int (iZ (b2 sv)), .int (iZ re), .int (iZ ea), .int (iZ fa), .ref (xad E 91), .ref (xad E 92), .ref (xad E 93), .int (iZ ty), .ref (xad E 94), .int (iZ li), .int (iZ th), .int (iZ sz), .int (iZ sp), .int (iZ wr), .int (iZ to), .ref (xad E 95)] := hr0
  have f93 : σ 93 = aI E 60 tx := hr1
  refine CI_of (by decide) rfl (Nat.le_of_ble_eq_true rfl) ?_
  intro p e s m args below meth c Q ls G hH hl hQ
  obtain ⟨hx, hb, hml, hown, hts, hK, hST, hlocks, hr, hno⟩ := G
  have hOK := hSF.1
  have hown : s.vm.findClass RX7 = some m.cls := hown
  have hl : lv_has ls 1 [(0, .ref (xad E 85))] := hl
  have hinX7 : ∀ w ∈ u_ws RX7 TX7 21, w ∈ wsX7_letterHere := fun w h => (List.mem_cons_of_mem _ (List.mem_append_right _ h))
  refine lv_aload_n hx hb dX7_letterHere_0 rfl (lv_at hl 0 rfl) ?_
  refine x_get hx hb hts hown hK hH 85 (by decide) f85 hinX7 rfl 17 (by decide) (List.mem_of_getElem? (i := 1) rfl) rfl dX7_letterHere_1 ?_
  refine lv_aload_n hx hb dX7_letterHere_4 rfl (lv_at hl 0 rfl) ?_
  refine x_get hx hb hts hown hK hH 85 (by decide) f85 hinX7 rfl 16 (by decide) (List.mem_of_getElem? (i := 2) rfl) rfl dX7_letterHere_5 ?_
  refine x_icmp_ge (tgt := 23) hx hb dX7_letterHere_8 (by decide) (by omega) (by omega) (fun c8 => ?_) (fun c8 => ?_)
  · refine x_iconst hx hb dX7_letterHere_23 ?_
    subst hQ
    exact x_iret hx hb hr hlocks hH (Nat.le_of_ble_eq_true rfl) (Nat.le_of_ble_eq_true rfl) ⟨(show (-1) = (leZ tx sz sp) from (by unfold leZ; first | rw [if_pos (by omega)] | rw [if_neg (by omega)])), rfl⟩ dX7_letterHere_24
  · refine lv_aload_n hx hb dX7_letterHere_11 rfl (lv_at hl 0 rfl) ?_
    refine x_get hx hb hts hown hK hH 85 (by decide) f85 hinX7 rfl 11 (by decide) (List.mem_of_getElem? (i := 3) rfl) rfl dX7_letterHere_12 ?_
    refine lv_aload_n hx hb dX7_letterHere_15 rfl (lv_at hl 0 rfl) ?_
    refine x_get hx hb hts hown hK hH 85 (by decide) f85 hinX7 rfl 17 (by decide) (List.mem_of_getElem? (i := 1) rfl) rfl dX7_letterHere_16 ?_
    refine x_iald hx hb hK hH 93 (by decide) f93 (by omega) (by omega) (by omega) dX7_letterHere_19 ?_
    have hv1 := htx sp
    refine lv_goto (tgt := 24) hx hb dX7_letterHere_20 (by decide) ?_
    subst hQ
    exact x_iret hx hb hr hlocks hH (Nat.le_of_ble_eq_true rfl) (Nat.le_of_ble_eq_true rfl) ⟨(show (tx sp) = (leZ tx sz sp) from (by unfold leZ; first | rw [if_pos (by omega)] | rw [if_neg (by omega)])), rfl⟩ dX7_letterHere_24

def rm_X7_reads : Room := { frames := 1, cells := 0, slots := 0, locals := 22 }
set_option maxRecDepth 100000 in
set_option maxHeartbeats 4000000 in
theorem c_X7_reads (l : Launch) (E : xE) (ST : xST) (hSF : SF ST) (σ : xW) (le9 : Int) (mo9 : Int) (sv : Bool) (re : Int) (ea : Int) (fa : Int) (ty : Int) (li : Int) (th : Int) (sz : Int) (sp : Int) (wr : Int) (to : Int) (tx : Int → Int) (hr0 : mo E σ sv re ea fa ty li th sz sp wr to) (hr1 : txt E σ tx) (hsp : 0 ≤ sp ∧ sp ≤ sz) (hsz : sz ≤ 60) (htx : ∀ j, 0 ≤ tx j ∧ tx j ≤ 65535) (hwr : -1 ≤ wr ∧ wr ≤ sz) (hle : 0 ≤ le9 ∧ le9 ≤ mo9 ∧ mo9 ≤ 1000) : CI l E ST yX7_reads wsX7_reads rm_X7_reads [.ref (xad E 85), .int (iZ le9), .int (iZ mo9)] σ (fun (z : Int) (u : xW) => z = rVl tx sz le9 mo9 sp wr ∧ (mo E u sv re ea fa ty li th sz (rSp tx sz le9 mo9 sp wr) (rWr tx sz le9 mo9 sp wr) to) ∧ ∀ j : Nat, j ≠ 85 → u j = σ j) := by
  have f85 : σ 85 = oB 5 [.ref (xad E 86), .ref (xad E 87), .ref (xad E 88), .ref (xad E 89), .ref (xad E 90), .int (iZ (b2 sv)), .int (iZ re), .int (iZ ea), .int (iZ fa), .ref (xad E 91), .ref (xad E 92), .ref (xad E 93), .int (iZ ty), .ref (xad E 94), .int (iZ li), .int (iZ th), .int (iZ sz), .int (iZ sp), .int (iZ wr), .int (iZ to), .ref (xad E 95)] := hr0
  have f93 : σ 93 = aI E 60 tx := hr1
  refine CI_of (by decide) rfl (Nat.le_of_ble_eq_true rfl) ?_
  intro p e s m args below meth c Q ls G hH hl hQ
  obtain ⟨hx, hb, hml, hown, hts, hK, hST, hlocks, hr, hno⟩ := G
  have hOK := hSF.1
  have hown : s.vm.findClass RX7 = some m.cls := hown
  have hl : lv_has ls 3 [(0, .ref (xad E 85)), (1, .int (iZ le9)), (2, .int (iZ mo9))] := hl
  have hinX7 : ∀ w ∈ u_ws RX7 TX7 21, w ∈ wsX7_reads := fun w h => (List.mem_cons_of_mem _ (List.mem_append_right _ h))
  refine lv_aload_n hx hb dX7_reads_0 rfl (lv_at hl 0 rfl) ?_
  refine x_get hx hb hts hown hK hH 85 (by decide) f85 hinX7 rfl 18 (by decide) (List.mem_of_getElem? (i := 1) rfl) rfl dX7_reads_1 ?_
  refine x_iconst hx hb dX7_reads_4 ?_
  refine x_icmp_ne (tgt := 44) hx hb dX7_reads_5 (by decide) (by omega) (by decide) (fun c5 => ?_) (fun c5 => ?_)
  · refine lv_aload_n hx hb dX7_reads_44 rfl (lv_at hl 0 rfl) ?_
    refine lv_aload_n hx hb dX7_reads_45 rfl (lv_at hl 0 rfl) ?_
    refine x_get hx hb hts hown hK hH 85 (by decide) f85 hinX7 rfl 18 (by decide) (List.mem_of_getElem? (i := 1) rfl) rfl dX7_reads_46 ?_
    refine x_iconst hx hb dX7_reads_49 ?_
    refine x_icmp_ne (tgt := 60) hx hb dX7_reads_50 (by decide) (by omega) (by decide) (fun c50 => ?_) (fun c50 => ?_)
    · refine lv_aload_n hx hb dX7_reads_60 rfl (lv_at hl 0 rfl) ?_
      refine x_get hx hb hts hown hK hH 85 (by decide) f85 hinX7 rfl 18 (by decide) (List.mem_of_getElem? (i := 1) rfl) rfl dX7_reads_61 ?_
      refine x_put (fs' := [.ref (xad E 86), .ref (xad E 87), .ref (xad E 88), .ref (xad E 89), .ref (xad E 90), .int (iZ (b2 sv)), .int (iZ re), .int (iZ ea), .int (iZ fa), .ref (xad E 91), .ref (xad E 92), .ref (xad E 93), .int (iZ ty), .ref (xad E 94), .int (iZ li), .int (iZ th), .int (iZ sz), .int (iZ sp), .int (iZ wr), .int (iZ to), .ref (xad E 95)]) hx hb hts hown hK hH 85 (by decide) f85 hinX7 rfl tyX7 tyX7_ok nmX7 18 (by decide) (List.mem_of_getElem? (i := 1) rfl) rfl (ty := .int) (by decide +kernel) rfl rfl (Nat.le_of_ble_eq_true rfl) rfl dX7_reads_64 (fun σ1 H locs f85 fr2 hH => ?_)
      have f93 : σ1 93 = aI E 60 tx := (fr2 93 (by omega)).trans f93
      refine x_iconst hx hb dX7_reads_67 ?_
      subst hQ
      exact x_iret hx hb hr hlocks hH (Nat.le_of_ble_eq_true rfl) (Nat.le_of_ble_eq_true rfl) ⟨(show 0 = (rVl tx sz le9 mo9 sp wr) from (by first | rw [(rd_w c5).2.2] | rw [(rd_n c5 (fun q => c17 ((le_ok (by omega)).mpr q))).2.2])), (f85.trans (by first | (rw [(rd_w c5).1, (rd_w c5).2.1]; done) | (rw [(rd_n c5 (fun q => c17 ((le_ok (by omega)).mpr q))).1, (rd_n c5 (fun q => c17 ((le_ok (by omega)).mpr q))).2.1]; done) | exact absurd c50 c5 | exact absurd c5 c50)), fun j hj0 => (fr2 j (by omega))⟩ dX7_reads_68
    · refine lv_aload_n hx hb dX7_reads_53 rfl (lv_at hl 0 rfl) ?_
      refine x_get hx hb hts hown hK hH 85 (by decide) f85 hinX7 rfl 17 (by decide) (List.mem_of_getElem? (i := 2) rfl) rfl dX7_reads_54 ?_
      refine lv_goto (tgt := 64) hx hb dX7_reads_57 (by decide) ?_
      refine x_put (fs' := [.ref (xad E 86), .ref (xad E 87), .ref (xad E 88), .ref (xad E 89), .ref (xad E 90), .int (iZ (b2 sv)), .int (iZ re), .int (iZ ea), .int (iZ fa), .ref (xad E 91), .ref (xad E 92), .ref (xad E 93), .int (iZ ty), .ref (xad E 94), .int (iZ li), .int (iZ th), .int (iZ sz), .int (iZ sp), .int (iZ sp), .int (iZ to), .ref (xad E 95)]) hx hb hts hown hK hH 85 (by decide) f85 hinX7 rfl tyX7 tyX7_ok nmX7 18 (by decide) (List.mem_of_getElem? (i := 1) rfl) rfl (ty := .int) (by decide +kernel) rfl rfl (Nat.le_of_ble_eq_true rfl) rfl dX7_reads_64 (fun σ3 H locs f85 fr4 hH => ?_)
      have f93 : σ3 93 = aI E 60 tx := (fr4 93 (by omega)).trans f93
      refine x_iconst hx hb dX7_reads_67 ?_
      subst hQ
      exact x_iret hx hb hr hlocks hH (Nat.le_of_ble_eq_true rfl) (Nat.le_of_ble_eq_true rfl) ⟨(show 0 = (rVl tx sz le9 mo9 sp wr) from (by first | rw [(rd_w c5).2.2] | rw [(rd_n c5 (fun q => c17 ((le_ok (by omega)).mpr q))).2.2])), (f85.trans (by first | (rw [(rd_w c5).1, (rd_w c5).2.1]; done) | (rw [(rd_n c5 (fun q => c17 ((le_ok (by omega)).mpr q))).1, (rd_n c5 (fun q => c17 ((le_ok (by omega)).mpr q))).2.1]; done) | exact absurd c50 c5 | exact absurd c5 c50)), fun j hj0 => (fr4 j (by omega))⟩ dX7_reads_68
  · refine lv_aload_n hx hb dX7_reads_8 rfl (lv_at hl 0 rfl) ?_
    refine x_cVID (As := []) (rest := []) hx hb hml hts hown hK hST hOK hH 85 (c_X7_letterHere l E ST hSF σ sv re ea fa ty li th sz sp wr to tx f85 f93 (by omega) (by omega) (by assumption)) (cwV 0 hts gX7_reads_X7_letterHere rfl rfl rfl (by decide +kernel) ⟨Nat.le_of_ble_eq_true rfl, Nat.le_of_ble_eq_true rfl⟩) (by decide) f85 rfl rfl hl.1 rfl (Nat.le_of_ble_eq_true rfl) dX7_reads_9 ⟨Nat.le_of_ble_eq_true rfl, Nat.le_of_ble_eq_true rfl⟩ (fun z u h => h) (fun H locs hH => ?_)
    have hlb := leZ_b (t := tx) (n := sz) (sp := sp) htx
    refine lv_iload_n hx hb dX7_reads_12 rfl (lv_at hl 1 rfl) ?_
    refine lv_iload_n hx hb dX7_reads_13 rfl (lv_at hl 2 rfl) ?_
    refine x_cSID (As := [.int (iZ (leZ tx sz sp)), .int (iZ le9), .int (iZ mo9)]) (rest := []) hx hb hml hts hown hK hST hOK hH (c_X7_isIn l E ST hSF σ (leZ tx sz sp) le9 mo9  (by omega) (by omega) (by omega)) (va_cwS 3 hts gX7_reads_X7_isIn rfl rfl rfl (by decide +kernel) ⟨Nat.le_of_ble_eq_true rfl, Nat.le_of_ble_eq_true rfl⟩) rfl hl.1 rfl (Nat.le_of_ble_eq_true rfl) dX7_reads_14 ⟨Nat.le_of_ble_eq_true rfl, Nat.le_of_ble_eq_true rfl⟩ (fun z u h => h) (fun H locs hH => ?_)
    refine x_ifb_eq (tgt := 44) hx hb dX7_reads_17 (by decide) (fun c17 => ?_) (fun c17 => ?_)
    · have c17 := of_decide_eq_false c17
      refine lv_aload_n hx hb dX7_reads_44 rfl (lv_at hl 0 rfl) ?_
      refine lv_aload_n hx hb dX7_reads_45 rfl (lv_at hl 0 rfl) ?_
      refine x_get hx hb hts hown hK hH 85 (by decide) f85 hinX7 rfl 18 (by decide) (List.mem_of_getElem? (i := 1) rfl) rfl dX7_reads_46 ?_
      refine x_iconst hx hb dX7_reads_49 ?_
      refine x_icmp_ne (tgt := 60) hx hb dX7_reads_50 (by decide) (by omega) (by decide) (fun c50 => ?_) (fun c50 => ?_)
      · refine lv_aload_n hx hb dX7_reads_60 rfl (lv_at hl 0 rfl) ?_
        refine x_get hx hb hts hown hK hH 85 (by decide) f85 hinX7 rfl 18 (by decide) (List.mem_of_getElem? (i := 1) rfl) rfl dX7_reads_61 ?_
        refine x_put (fs' := [.ref (xad E 86), .ref (xad E 87), .ref (xad E 88), .ref (xad E 89), .ref (xad E 90), .int (iZ (b2 sv)), .int (iZ re), .int (iZ ea), .int (iZ fa), .ref (xad E 91), .ref (xad E 92), .ref (xad E 93), .int (iZ ty), .ref (xad E 94), .int (iZ li), .int (iZ th), .int (iZ sz), .int (iZ sp), .int (iZ wr), .int (iZ to), .ref (xad E 95)]) hx hb hts hown hK hH 85 (by decide) f85 hinX7 rfl tyX7 tyX7_ok nmX7 18 (by decide) (List.mem_of_getElem? (i := 1) rfl) rfl (ty := .int) (by decide +kernel) rfl rfl (Nat.le_of_ble_eq_true rfl) rfl dX7_reads_64 (fun σ11 H locs f85 fr12 hH => ?_)
        have f93 : σ11 93 = aI E 60 tx := (fr12 93 (by omega)).trans f93
        refine x_iconst hx hb dX7_reads_67 ?_
        subst hQ
        exact x_iret hx hb hr hlocks hH (Nat.le_of_ble_eq_true rfl) (Nat.le_of_ble_eq_true rfl) ⟨(show 0 = (rVl tx sz le9 mo9 sp wr) from (by first | rw [(rd_w c5).2.2] | rw [(rd_n c5 (fun q => c17 ((le_ok (by omega)).mpr q))).2.2])), (f85.trans (by first | (rw [(rd_w c5).1, (rd_w c5).2.1]; done) | (rw [(rd_n c5 (fun q => c17 ((le_ok (by omega)).mpr q))).1, (rd_n c5 (fun q => c17 ((le_ok (by omega)).mpr q))).2.1]; done) | exact absurd c50 c5 | exact absurd c5 c50)), fun j hj0 => (fr12 j (by omega))⟩ dX7_reads_68
      · refine lv_aload_n hx hb dX7_reads_53 rfl (lv_at hl 0 rfl) ?_
        refine x_get hx hb hts hown hK hH 85 (by decide) f85 hinX7 rfl 17 (by decide) (List.mem_of_getElem? (i := 2) rfl) rfl dX7_reads_54 ?_
        refine lv_goto (tgt := 64) hx hb dX7_reads_57 (by decide) ?_
        refine x_put (fs' := [.ref (xad E 86), .ref (xad E 87), .ref (xad E 88), .ref (xad E 89), .ref (xad E 90), .int (iZ (b2 sv)), .int (iZ re), .int (iZ ea), .int (iZ fa), .ref (xad E 91), .ref (xad E 92), .ref (xad E 93), .int (iZ ty), .ref (xad E 94), .int (iZ li), .int (iZ th), .int (iZ sz), .int (iZ sp), .int (iZ sp), .int (iZ to), .ref (xad E 95)]) hx hb hts hown hK hH 85 (by decide) f85 hinX7 rfl tyX7 tyX7_ok nmX7 18 (by decide) (List.mem_of_getElem? (i := 1) rfl) rfl (ty := .int) (by decide +kernel) rfl rfl (Nat.le_of_ble_eq_true rfl) rfl dX7_reads_64 (fun σ13 H locs f85 fr14 hH => ?_)
        have f93 : σ13 93 = aI E 60 tx := (fr14 93 (by omega)).trans f93
        refine x_iconst hx hb dX7_reads_67 ?_
        subst hQ
        exact x_iret hx hb hr hlocks hH (Nat.le_of_ble_eq_true rfl) (Nat.le_of_ble_eq_true rfl) ⟨(show 0 = (rVl tx sz le9 mo9 sp wr) from (by first | rw [(rd_w c5).2.2] | rw [(rd_n c5 (fun q => c17 ((le_ok (by omega)).mpr q))).2.2])), (f85.trans (by first | (rw [(rd_w c5).1, (rd_w c5).2.1]; done) | (rw [(rd_n c5 (fun q => c17 ((le_ok (by omega)).mpr q))).1, (rd_n c5 (fun q => c17 ((le_ok (by omega)).mpr q))).2.1]; done) | exact absurd c50 c5 | exact absurd c5 c50)), fun j hj0 => (fr14 j (by omega))⟩ dX7_reads_68
    · have c17 := of_decide_eq_true c17
      have hok := (le_ok (t := tx) (n := sz) (a := le9) (b := mo9) (sp := sp) (by omega)).mp c17
      have hok1 := hok.1
      refine lv_aload_n hx hb dX7_reads_20 rfl (lv_at hl 0 rfl) ?_
      refine lv_dup hx hb dX7_reads_21 rfl ?_
      refine x_get hx hb hts hown hK hH 85 (by decide) f85 hinX7 rfl 17 (by decide) (List.mem_of_getElem? (i := 2) rfl) rfl dX7_reads_22 ?_
      refine x_iconst hx hb dX7_reads_25 ?_
      refine x_iadd hx hb dX7_reads_26 ?_
      refine x_put (fs' := [.ref (xad E 86), .ref (xad E 87), .ref (xad E 88), .ref (xad E 89), .ref (xad E 90), .int (iZ (b2 sv)), .int (iZ re), .int (iZ ea), .int (iZ fa), .ref (xad E 91), .ref (xad E 92), .ref (xad E 93), .int (iZ ty), .ref (xad E 94), .int (iZ li), .int (iZ th), .int (iZ sz), .int (iZ (sp + 1)), .int (iZ wr), .int (iZ to), .ref (xad E 95)]) hx hb hts hown hK hH 85 (by decide) f85 hinX7 rfl tyX7 tyX7_ok nmX7 17 (by decide) (List.mem_of_getElem? (i := 2) rfl) rfl (ty := .int) (by decide +kernel) rfl rfl (Nat.le_of_ble_eq_true rfl) rfl dX7_reads_27 (fun σ15 H locs f85 fr16 hH => ?_)
      have f93 : σ15 93 = aI E 60 tx := (fr16 93 (by omega)).trans f93
      refine lv_aload_n hx hb dX7_reads_30 rfl (lv_at hl 0 rfl) ?_
      refine x_get hx hb hts hown hK hH 85 (by decide) f85 hinX7 rfl 11 (by decide) (List.mem_of_getElem? (i := 3) rfl) rfl dX7_reads_31 ?_
      refine lv_aload_n hx hb dX7_reads_34 rfl (lv_at hl 0 rfl) ?_
      refine x_get hx hb hts hown hK hH 85 (by decide) f85 hinX7 rfl 17 (by decide) (List.mem_of_getElem? (i := 2) rfl) rfl dX7_reads_35 ?_
      refine x_iconst hx hb dX7_reads_38 ?_
      refine x_isub hx hb dX7_reads_39 ?_
      refine x_iald hx hb hK hH 93 (by decide) f93 (by omega) (by omega) (by omega) dX7_reads_40 ?_
      have hv17 := htx ((sp + 1) - 1)
      refine lv_iload_n hx hb dX7_reads_41 rfl (lv_at hl 1 rfl) ?_
      refine x_isub hx hb dX7_reads_42 ?_
      subst hQ
      exact x_iret hx hb hr hlocks hH (Nat.le_of_ble_eq_true rfl) (Nat.le_of_ble_eq_true rfl) ⟨(show ((tx ((sp + 1) - 1)) - le9) = (rVl tx sz le9 mo9 sp wr) from (by rw [(rd_y c5 hok).2.2, show sp + 1 - 1 = sp by omega])), (f85.trans (by rw [(rd_y c5 hok).1, (rd_y c5 hok).2.1, c5])), fun j hj0 => (fr16 j (by omega))⟩ dX7_reads_43

def rm_X7_digit : Room := { frames := 2, cells := 0, slots := 0, locals := 44 }
set_option maxRecDepth 100000 in
set_option maxHeartbeats 4000000 in
theorem c_X7_digit (l : Launch) (E : xE) (ST : xST) (hSF : SF ST) (σ : xW) (sv : Bool) (re : Int) (ea : Int) (fa : Int) (ty : Int) (li : Int) (th : Int) (sz : Int) (sp : Int) (wr : Int) (to : Int) (tx : Int → Int) (hr0 : mo E σ sv re ea fa ty li th sz sp wr to) (hr1 : txt E σ tx) (hsp : 0 ≤ sp ∧ sp ≤ sz) (hsz : sz ≤ 60) (htx : ∀ j, 0 ≤ tx j ∧ tx j ≤ 65535) (hwr : -1 ≤ wr ∧ wr ≤ sz) : CI l E ST yX7_digit wsX7_digit rm_X7_digit [.ref (xad E 85)] σ (fun (z : Int) (u : xW) => z = rVl tx sz 48 57 sp wr ∧ (mo E u sv re ea fa ty li th sz (rSp tx sz 48 57 sp wr) (rWr tx sz 48 57 sp wr) to) ∧ ∀ j : Nat, j ≠ 85 → u j = σ j) := by
  have f85 : σ 85 = oB 5 [.ref (xad E 86), .ref (xad E 87), .ref (xad E 88), .ref (xad E 89), .ref (xad E 90), .int (iZ (b2 sv)), .int (iZ re), .int (iZ ea), .int (iZ fa), .ref (xad E 91), .ref (xad E 92), .ref (xad E 93), .int (iZ ty), .ref (xad E 94), .int (iZ li), .int (iZ th), .int (iZ sz), .int (iZ sp), .int (iZ wr), .int (iZ to), .ref (xad E 95)] := hr0
  have f93 : σ 93 = aI E 60 tx := hr1
  refine CI_of (by decide) rfl (Nat.le_of_ble_eq_true rfl) ?_
  intro p e s m args below meth c Q ls G hH hl hQ
  obtain ⟨hx, hb, hml, hown, hts, hK, hST, hlocks, hr, hno⟩ := G
  have hOK := hSF.1
  have hown : s.vm.findClass RX7 = some m.cls := hown
  have hl : lv_has ls 1 [(0, .ref (xad E 85))] := hl
  refine lv_aload_n hx hb dX7_digit_0 rfl (lv_at hl 0 rfl) ?_
  refine x_bipush hx hb dX7_digit_1 (by decide) ?_
  refine x_bipush hx hb dX7_digit_3 (by decide) ?_
  refine x_cVIE (As := [.int (iZ 48), .int (iZ 57)]) (rest := []) hx hb hml hts hown hK hST hOK hH 85 (c_X7_reads l E ST hSF σ 48 57 sv re ea fa ty li th sz sp wr to tx f85 f93 (by omega) (by omega) (by assumption) (by omega) (by omega)) (cwV 2 hts gX7_digit_X7_reads rfl rfl rfl (by decide +kernel) ⟨Nat.le_of_ble_eq_true rfl, Nat.le_of_ble_eq_true rfl⟩) (by decide) f85 rfl rfl hl.1 rfl (Nat.le_of_ble_eq_true rfl) dX7_digit_5 ⟨Nat.le_of_ble_eq_true rfl, Nat.le_of_ble_eq_true rfl⟩ (fun z u h => h) (fun σ2 H locs hp3 hH => ?_)
  obtain ⟨f85, fr4⟩ := hp3
  have f93 : σ2 93 = aI E 60 tx := (fr4 93 (by omega)).trans f93
  subst hQ
  exact x_iret hx hb hr hlocks hH (Nat.le_of_ble_eq_true rfl) (Nat.le_of_ble_eq_true rfl) ⟨(show (rVl tx sz 48 57 sp wr) = (rVl tx sz 48 57 sp wr) from (by rfl)), f85, fun j hj0 => (fr4 j (by omega))⟩ dX7_digit_8

def rm_X7_blank : Room := { frames := 2, cells := 0, slots := 0, locals := 44 }
set_option maxRecDepth 100000 in
set_option maxHeartbeats 4000000 in
theorem c_X7_blank (l : Launch) (E : xE) (ST : xST) (hSF : SF ST) (σ : xW) (sv : Bool) (re : Int) (ea : Int) (fa : Int) (ty : Int) (li : Int) (th : Int) (sz : Int) (sp : Int) (wr : Int) (to : Int) (tx : Int → Int) (hr0 : mo E σ sv re ea fa ty li th sz sp wr to) (hr1 : txt E σ tx) (hsp : 0 ≤ sp ∧ sp ≤ sz) (hsz : sz ≤ 60) (htx : ∀ j, 0 ≤ tx j ∧ tx j ≤ 65535) (hwr : -1 ≤ wr ∧ wr ≤ sz) : CV l E ST yX7_blank wsX7_blank rm_X7_blank [.ref (xad E 85)] σ (fun (u : xW) => (mo E u sv re ea fa ty li th sz (rSp tx sz 32 32 sp wr) (rWr tx sz 32 32 sp wr) to) ∧ ∀ j : Nat, j ≠ 85 → u j = σ j) := by
  have f85 : σ 85 = oB 5 [.ref (xad E 86), .ref (xad E 87), .ref (xad E 88), .ref (xad E 89), .ref (xad E 90), .int (iZ (b2 sv)), .int (iZ re), .int (iZ ea), .int (iZ fa), .ref (xad E 91), .ref (xad E 92), .ref (xad E 93), .int (iZ ty), .ref (xad E 94), .int (iZ li), .int (iZ th), .int (iZ sz), .int (iZ sp), .int (iZ wr), .int (iZ to), .ref (xad E 95)] := hr0
  have f93 : σ 93 = aI E 60 tx := hr1
  refine CV_of (by decide) rfl (Nat.le_of_ble_eq_true rfl) ?_
  intro p e s m args below meth c Q ls G hH hl hQ
  obtain ⟨hx, hb, hml, hown, hts, hK, hST, hlocks, hr, hno⟩ := G
  have hOK := hSF.1
  have hown : s.vm.findClass RX7 = some m.cls := hown
  have hl : lv_has ls 2 [(0, .ref (xad E 85))] := hl
  refine lv_aload_n hx hb dX7_blank_0 rfl (lv_at hl 0 rfl) ?_
  refine x_bipush hx hb dX7_blank_1 (by decide) ?_
  refine x_bipush hx hb dX7_blank_3 (by decide) ?_
  refine x_cVIE (As := [.int (iZ 32), .int (iZ 32)]) (rest := []) hx hb hml hts hown hK hST hOK hH 85 (c_X7_reads l E ST hSF σ 32 32 sv re ea fa ty li th sz sp wr to tx f85 f93 (by omega) (by omega) (by assumption) (by omega) (by omega)) (cwV 2 hts gX7_blank_X7_reads rfl rfl rfl (by decide +kernel) ⟨Nat.le_of_ble_eq_true rfl, Nat.le_of_ble_eq_true rfl⟩) (by decide) f85 rfl rfl hl.1 rfl (Nat.le_of_ble_eq_true rfl) dX7_blank_5 ⟨Nat.le_of_ble_eq_true rfl, Nat.le_of_ble_eq_true rfl⟩ (fun z u h => h) (fun σ2 H locs hp3 hH => ?_)
  obtain ⟨f85, fr4⟩ := hp3
  have f93 : σ2 93 = aI E 60 tx := (fr4 93 (by omega)).trans f93
  refine lv_istore_n (lv' := [(1, .int (iZ (rVl tx sz 32 32 sp wr))), (0, .ref (xad E 85))]) hx hb dX7_blank_8 rfl hl (by decide) rfl (fun ls hl => ?_)
  subst hQ
  exact x_vret hx hb hr hlocks hH (Nat.le_of_ble_eq_true rfl) (Nat.le_of_ble_eq_true rfl) ⟨f85, fun j hj0 => (fr4 j (by omega))⟩ dX7_blank_9

def rm_X7_letter : Room := { frames := 2, cells := 0, slots := 0, locals := 44 }
set_option maxRecDepth 100000 in
set_option maxHeartbeats 4000000 in
theorem c_X7_letter (l : Launch) (E : xE) (ST : xST) (hSF : SF ST) (σ : xW) (sv : Bool) (re : Int) (ea : Int) (fa : Int) (ty : Int) (li : Int) (th : Int) (sz : Int) (sp : Int) (wr : Int) (to : Int) (tx : Int → Int) (hr0 : mo E σ sv re ea fa ty li th sz sp wr to) (hr1 : txt E σ tx) (hsp : 0 ≤ sp ∧ sp ≤ sz) (hsz : sz ≤ 60) (htx : ∀ j, 0 ≤ tx j ∧ tx j ≤ 65535) (hwr : -1 ≤ wr ∧ wr ≤ sz) : CI l E ST yX7_letter wsX7_letter rm_X7_letter [.ref (xad E 85)] σ (fun (z : Int) (u : xW) => z = 97 + rVl tx sz 97 102 sp wr ∧ (mo E u sv re ea fa ty li th sz (rSp tx sz 97 102 sp wr) (rWr tx sz 97 102 sp wr) to) ∧ ∀ j : Nat, j ≠ 85 → u j = σ j) := by
  have f85 : σ 85 = oB 5 [.ref (xad E 86), .ref (xad E 87), .ref (xad E 88), .ref (xad E 89), .ref (xad E 90), .int (iZ (b2 sv)), .int (iZ re), .int (iZ ea), .int (iZ fa), .ref (xad E 91), .ref (xad E 92), .ref (xad E 93), .int (iZ ty), .ref (xad E 94), .int (iZ li), .int (iZ th), .int (iZ sz), .int (iZ sp), .int (iZ wr), .int (iZ to), .ref (xad E 95)] := hr0
  have f93 : σ 93 = aI E 60 tx := hr1
  refine CI_of (by decide) rfl (Nat.le_of_ble_eq_true rfl) ?_
  intro p e s m args below meth c Q ls G hH hl hQ
  obtain ⟨hx, hb, hml, hown, hts, hK, hST, hlocks, hr, hno⟩ := G
  have hOK := hSF.1
  have hown : s.vm.findClass RX7 = some m.cls := hown
  have hl : lv_has ls 1 [(0, .ref (xad E 85))] := hl
  refine x_bipush hx hb dX7_letter_0 (by decide) ?_
  refine lv_aload_n hx hb dX7_letter_2 rfl (lv_at hl 0 rfl) ?_
  refine x_bipush hx hb dX7_letter_3 (by decide) ?_
  refine x_bipush hx hb dX7_letter_5 (by decide) ?_
  refine x_cVIE (As := [.int (iZ 97), .int (iZ 102)]) (rest := [.int (iZ 97)]) hx hb hml hts hown hK hST hOK hH 85 (c_X7_reads l E ST hSF σ 97 102 sv re ea fa ty li th sz sp wr to tx f85 f93 (by omega) (by omega) (by assumption) (by omega) (by omega)) (cwV 2 hts gX7_letter_X7_reads rfl rfl rfl (by decide +kernel) ⟨Nat.le_of_ble_eq_true rfl, Nat.le_of_ble_eq_true rfl⟩) (by decide) f85 rfl rfl hl.1 rfl (Nat.le_of_ble_eq_true rfl) dX7_letter_7 ⟨Nat.le_of_ble_eq_true rfl, Nat.le_of_ble_eq_true rfl⟩ (fun z u h => h) (fun σ2 H locs hp3 hH => ?_)
  obtain ⟨f85, fr4⟩ := hp3
  have f93 : σ2 93 = aI E 60 tx := (fr4 93 (by omega)).trans f93
  refine x_iadd hx hb dX7_letter_10 ?_
  subst hQ
  exact x_iret hx hb hr hlocks hH (Nat.le_of_ble_eq_true rfl) (Nat.le_of_ble_eq_true rfl) ⟨(show (97 + (rVl tx sz 97 102 sp wr)) = (97 + rVl tx sz 97 102 sp wr) from (by rfl)), f85, fun j hj0 => (fr4 j (by omega))⟩ dX7_letter_11

def rm_X7_number : Room := { frames := 3, cells := 0, slots := 0, locals := 64 }
set_option maxRecDepth 100000 in
set_option maxHeartbeats 4000000 in
theorem c_X7_number (l : Launch) (E : xE) (ST : xST) (hSF : SF ST) (σ : xW) (M : Int × List Int) (vs : List Int) (sv : Bool) (re : Int) (ea : Int) (fa : Int) (ty : Int) (li : Int) (th : Int) (sz : Int) (sp : Int) (wr : Int) (to : Int) (tx : Int → Int) (hr0 : mo E σ sv re ea fa ty li th sz sp wr to) (hr1 : txt E σ tx) (hsp : 0 ≤ sp ∧ sp ≤ sz) (hsz : sz ≤ 60) (htx : ∀ j, 0 ≤ tx j ∧ tx j ≤ 65535) (hwr : -1 ≤ wr ∧ wr ≤ sz) (hR : RelI tx sz M [78] sp wr vs) : CI l E ST yX7_number wsX7_number rm_X7_number [.ref (xad E 85)] σ (fun (z : Int) (u : xW) => (0 ≤ z ∧ z ≤ 99) ∧ (∃ (sp1 wr1 : Int), mo E u sv re ea fa ty li th sz sp1 wr1 to ∧ (RelI tx sz M [] sp1 wr1 (vs ++ [z])) ∧ ((0 ≤ sp1 ∧ sp1 ≤ sz) ∧ -1 ≤ wr1 ∧ wr1 ≤ sz)) ∧ ∀ j : Nat, j ≠ 85 → u j = σ j) := by
  have f85 : σ 85 = oB 5 [.ref (xad E 86), .ref (xad E 87), .ref (xad E 88), .ref (xad E 89), .ref (xad E 90), .int (iZ (b2 sv)), .int (iZ re), .int (iZ ea), .int (iZ fa), .ref (xad E 91), .ref (xad E 92), .ref (xad E 93), .int (iZ ty), .ref (xad E 94), .int (iZ li), .int (iZ th), .int (iZ sz), .int (iZ sp), .int (iZ wr), .int (iZ to), .ref (xad E 95)] := hr0
  have f93 : σ 93 = aI E 60 tx := hr1
  refine CI_of (by decide) rfl (Nat.le_of_ble_eq_true rfl) ?_
  intro p e s m args below meth c Q ls G hH hl hQ
  obtain ⟨hx, hb, hml, hown, hts, hK, hST, hlocks, hr, hno⟩ := G
  have hOK := hSF.1
  have hown : s.vm.findClass RX7 = some m.cls := hown
  have hl : lv_has ls 2 [(0, .ref (xad E 85))] := hl
  have hinX7 : ∀ w ∈ u_ws RX7 TX7 21, w ∈ wsX7_number := fun w h => (List.mem_cons_of_mem _ (List.mem_append_right _ h))
  have hs1 := rSp_b (t := tx) (n := sz) (a := 48) (b := 57) (sp := sp) (wr := wr) hsp
  have hw1 := rWr_b (t := tx) (n := sz) (a := 48) (b := 57) (sp := sp) (wr := wr) hsp hwr
  have hv1 := rVl_b (t := tx) (n := sz) (a := 48) (b := 57) (sp := sp) (wr := wr) (by decide)
  have hs2 := rSp_b (t := tx) (n := sz) (a := 48) (b := 57) (sp := rSp tx sz 48 57 sp wr) (wr := rWr tx sz 48 57 sp wr) hs1
  have hw2 := rWr_b (t := tx) (n := sz) (a := 48) (b := 57) (sp := rSp tx sz 48 57 sp wr) (wr := rWr tx sz 48 57 sp wr) hs1 hw1
  have hv2 := rVl_b (t := tx) (n := sz) (a := 48) (b := 57) (sp := rSp tx sz 48 57 sp wr) (wr := rWr tx sz 48 57 sp wr) (by decide)
  refine lv_aload_n hx hb dX7_number_0 rfl (lv_at hl 0 rfl) ?_
  refine x_cVIE (As := []) (rest := []) hx hb hml hts hown hK hST hOK hH 85 (c_X7_digit l E ST hSF σ sv re ea fa ty li th sz sp wr to tx f85 f93 (by omega) (by omega) (by assumption) (by omega)) (cwV 0 hts gX7_number_X7_digit rfl rfl rfl (by decide +kernel) ⟨Nat.le_of_ble_eq_true rfl, Nat.le_of_ble_eq_true rfl⟩) (by decide) f85 rfl rfl hl.1 rfl (Nat.le_of_ble_eq_true rfl) dX7_number_1 ⟨Nat.le_of_ble_eq_true rfl, Nat.le_of_ble_eq_true rfl⟩ (fun z u h => h) (fun σ2 H locs hp3 hH => ?_)
  obtain ⟨f85, fr4⟩ := hp3
  have f93 : σ2 93 = aI E 60 tx := (fr4 93 (by omega)).trans f93
  refine lv_istore_n (lv' := [(1, .int (iZ (rVl tx sz 48 57 sp wr))), (0, .ref (xad E 85))]) hx hb dX7_number_4 rfl hl (by decide) rfl (fun ls hl => ?_)
  refine lv_aload_n hx hb dX7_number_5 rfl (lv_at hl 1 rfl) ?_
  refine x_get hx hb hts hown hK hH 85 (by decide) f85 hinX7 rfl 18 (by decide) (List.mem_of_getElem? (i := 1) rfl) rfl dX7_number_6 ?_
  refine x_iconst hx hb dX7_number_9 ?_
  refine x_icmp_ne (tgt := 39) hx hb dX7_number_10 (by decide) (by omega) (by decide) (fun c10 => ?_) (fun c10 => ?_)
  · refine lv_iload_n hx hb dX7_number_39 rfl (lv_at hl 0 rfl) ?_
    subst hQ
    exact x_iret hx hb hr hlocks hH (Nat.le_of_ble_eq_true rfl) (Nat.le_of_ble_eq_true rfl) ⟨(by omega), ⟨(rSp tx sz 48 57 sp wr), (rWr tx sz 48 57 sp wr), f85, (by first | exact (rel_N hR).2 ⟨c10, (le_ok (by decide)).mp c24⟩ | exact (rel_N hR).1 (fun q => c10 q.1) | exact (rel_N hR).1 (fun q => c24 ((le_ok (by decide)).mpr q.2))), (by omega)⟩, fun j hj0 => (fr4 j (by omega))⟩ dX7_number_40
  · refine lv_aload_n hx hb dX7_number_13 rfl (lv_at hl 1 rfl) ?_
    refine x_cVID (As := []) (rest := []) hx hb hml hts hown hK hST hOK hH 85 (c_X7_letterHere l E ST hSF σ2 sv re ea fa ty li th sz (rSp tx sz 48 57 sp wr) (rWr tx sz 48 57 sp wr) to tx f85 f93 (by omega) (by omega) (by assumption)) (cwV 0 hts gX7_number_X7_letterHere rfl rfl rfl (by decide +kernel) ⟨Nat.le_of_ble_eq_true rfl, Nat.le_of_ble_eq_true rfl⟩) (by decide) f85 rfl rfl hl.1 rfl (Nat.le_of_ble_eq_true rfl) dX7_number_14 ⟨Nat.le_of_ble_eq_true rfl, Nat.le_of_ble_eq_true rfl⟩ (fun z u h => h) (fun H locs hH => ?_)
    have hlb := leZ_b (t := tx) (n := sz) (sp := rSp tx sz 48 57 sp wr) htx
    refine x_bipush hx hb dX7_number_17 (by decide) ?_
    refine x_bipush hx hb dX7_number_19 (by decide) ?_
    refine x_cSID (As := [.int (iZ (leZ tx sz (rSp tx sz 48 57 sp wr))), .int (iZ 48), .int (iZ 57)]) (rest := []) hx hb hml hts hown hK hST hOK hH (c_X7_isIn l E ST hSF σ2 (leZ tx sz (rSp tx sz 48 57 sp wr)) 48 57  (by omega) (by omega) (by omega)) (va_cwS 3 hts gX7_number_X7_isIn rfl rfl rfl (by decide +kernel) ⟨Nat.le_of_ble_eq_true rfl, Nat.le_of_ble_eq_true rfl⟩) rfl hl.1 rfl (Nat.le_of_ble_eq_true rfl) dX7_number_21 ⟨Nat.le_of_ble_eq_true rfl, Nat.le_of_ble_eq_true rfl⟩ (fun z u h => h) (fun H locs hH => ?_)
    refine x_ifb_eq (tgt := 39) hx hb dX7_number_24 (by decide) (fun c24 => ?_) (fun c24 => ?_)
    · have c24 := of_decide_eq_false c24
      refine lv_iload_n hx hb dX7_number_39 rfl (lv_at hl 0 rfl) ?_
      subst hQ
      exact x_iret hx hb hr hlocks hH (Nat.le_of_ble_eq_true rfl) (Nat.le_of_ble_eq_true rfl) ⟨(by omega), ⟨(rSp tx sz 48 57 sp wr), (rWr tx sz 48 57 sp wr), f85, (by first | exact (rel_N hR).2 ⟨c10, (le_ok (by decide)).mp c24⟩ | exact (rel_N hR).1 (fun q => c10 q.1) | exact (rel_N hR).1 (fun q => c24 ((le_ok (by decide)).mpr q.2))), (by omega)⟩, fun j hj0 => (fr4 j (by omega))⟩ dX7_number_40
    · have c24 := of_decide_eq_true c24
      refine x_bipush hx hb dX7_number_27 (by decide) ?_
      refine lv_iload_n hx hb dX7_number_29 rfl (lv_at hl 0 rfl) ?_
      refine x_imul hx hb dX7_number_30 ?_
      refine lv_aload_n hx hb dX7_number_31 rfl (lv_at hl 1 rfl) ?_
      refine x_cVIE (As := []) (rest := [.int (iZ (10 * (rVl tx sz 48 57 sp wr)))]) hx hb hml hts hown hK hST hOK hH 85 (c_X7_digit l E ST hSF σ2 sv re ea fa ty li th sz (rSp tx sz 48 57 sp wr) (rWr tx sz 48 57 sp wr) to tx f85 f93 (by omega) (by omega) (by assumption) (by omega)) (cwV 0 hts gX7_number_X7_digit rfl rfl rfl (by decide +kernel) ⟨Nat.le_of_ble_eq_true rfl, Nat.le_of_ble_eq_true rfl⟩) (by decide) f85 rfl rfl hl.1 rfl (Nat.le_of_ble_eq_true rfl) dX7_number_32 ⟨Nat.le_of_ble_eq_true rfl, Nat.le_of_ble_eq_true rfl⟩ (fun z u h => h) (fun σ13 H locs hp14 hH => ?_)
      obtain ⟨f85, fr15⟩ := hp14
      have f93 : σ13 93 = aI E 60 tx := (fr15 93 (by omega)).trans f93
      refine x_iadd hx hb dX7_number_35 ?_
      refine lv_goto (tgt := 40) hx hb dX7_number_36 (by decide) ?_
      subst hQ
      exact x_iret hx hb hr hlocks hH (Nat.le_of_ble_eq_true rfl) (Nat.le_of_ble_eq_true rfl) ⟨(by omega), ⟨(rSp tx sz 48 57 (rSp tx sz 48 57 sp wr) (rWr tx sz 48 57 sp wr)), (rWr tx sz 48 57 (rSp tx sz 48 57 sp wr) (rWr tx sz 48 57 sp wr)), f85, (by first | exact (rel_N hR).2 ⟨c10, (le_ok (by decide)).mp c24⟩ | exact (rel_N hR).1 (fun q => c10 q.1) | exact (rel_N hR).1 (fun q => c24 ((le_ok (by decide)).mpr q.2))), (by omega)⟩, fun j hj0 => ((fr15 j (by omega)).trans (fr4 j (by omega)))⟩ dX7_number_40

def rm_X7_cell : Room := { frames := 3, cells := 0, slots := 0, locals := 64 }
set_option maxRecDepth 100000 in
set_option maxHeartbeats 4000000 in
theorem c_X7_cell (l : Launch) (E : xE) (ST : xST) (hSF : SF ST) (σ : xW) (b9 : Int) (M : Int × List Int) (ks : List Int) (vs : List Int) (sv : Bool) (re : Int) (ea : Int) (fa : Int) (ty : Int) (li : Int) (th : Int) (sz : Int) (sp : Int) (wr : Int) (to : Int) (tx : Int → Int) (nu : Int → Int) (hr0 : mo E σ sv re ea fa ty li th sz sp wr to) (hr1 : txt E σ tx) (hr2 : num E σ nu) (hsp : 0 ≤ sp ∧ sp ≤ sz) (hsz : sz ≤ 60) (htx : ∀ j, 0 ≤ tx j ∧ tx j ≤ 65535) (hwr : -1 ≤ wr ∧ wr ≤ sz) (hb9 : 0 ≤ b9 ∧ b9 ≤ 118) (hR : RelI tx sz M (68 :: 68 :: ks) sp wr vs) : CV l E ST yX7_cell wsX7_cell rm_X7_cell [.ref (xad E 85), .int (iZ b9)] σ (fun (u : xW) => (∃ (sp1 wr1 d1 d2 : Int), mo E u sv re ea fa ty li th sz sp1 wr1 to ∧ num E u (ui (ui nu b9 d1) (b9 + 1) d2) ∧ (RelI tx sz M ks sp1 wr1 (vs ++ [d1] ++ [d2])) ∧ ((0 ≤ sp1 ∧ sp1 ≤ sz) ∧ -1 ≤ wr1 ∧ wr1 ≤ sz) ∧ ((0 ≤ d1 ∧ d1 ≤ 9) ∧ 0 ≤ d2 ∧ d2 ≤ 9)) ∧ ∀ j : Nat, j ≠ 85 → j ≠ 95 → u j = σ j) := by
  have f85 : σ 85 = oB 5 [.ref (xad E 86), .ref (xad E 87), .ref (xad E 88), .ref (xad E 89), .ref (xad E 90), .int (iZ (b2 sv)), .int (iZ re), .int (iZ ea), .int (iZ fa), .ref (xad E 91), .ref (xad E 92), .ref (xad E 93), .int (iZ ty), .ref (xad E 94), .int (iZ li), .int (iZ th), .int (iZ sz), .int (iZ sp), .int (iZ wr), .int (iZ to), .ref (xad E 95)] := hr0
  have f93 : σ 93 = aI E 60 tx := hr1
  have f95 : σ 95 = aI E 120 nu := hr2
  refine CV_of (by decide) rfl (Nat.le_of_ble_eq_true rfl) ?_
  intro p e s m args below meth c Q ls G hH hl hQ
  obtain ⟨hx, hb, hml, hown, hts, hK, hST, hlocks, hr, hno⟩ := G
  have hOK := hSF.1
  have hown : s.vm.findClass RX7 = some m.cls := hown
  have hl : lv_has ls 2 [(0, .ref (xad E 85)), (1, .int (iZ b9))] := hl
  have hinX7 : ∀ w ∈ u_ws RX7 TX7 21, w ∈ wsX7_cell := fun w h => (List.mem_cons_of_mem _ (List.mem_append_right _ h))
  have hs1 := rSp_b (t := tx) (n := sz) (a := 48) (b := 57) (sp := sp) (wr := wr) hsp
  have hw1 := rWr_b (t := tx) (n := sz) (a := 48) (b := 57) (sp := sp) (wr := wr) hsp hwr
  have hv1 := rVl_b (t := tx) (n := sz) (a := 48) (b := 57) (sp := sp) (wr := wr) (by decide)
  have hs2 := rSp_b (t := tx) (n := sz) (a := 48) (b := 57) (sp := rSp tx sz 48 57 sp wr) (wr := rWr tx sz 48 57 sp wr) hs1
  have hw2 := rWr_b (t := tx) (n := sz) (a := 48) (b := 57) (sp := rSp tx sz 48 57 sp wr) (wr := rWr tx sz 48 57 sp wr) hs1 hw1
  have hv2 := rVl_b (t := tx) (n := sz) (a := 48) (b := 57) (sp := rSp tx sz 48 57 sp wr) (wr := rWr tx sz 48 57 sp wr) (by decide)
  refine lv_aload_n hx hb dX7_cell_0 rfl (lv_at hl 0 rfl) ?_
  refine x_get hx hb hts hown hK hH 85 (by decide) f85 hinX7 rfl 20 (by decide) (List.mem_of_getElem? (i := 1) rfl) rfl dX7_cell_1 ?_
  refine lv_iload_n hx hb dX7_cell_4 rfl (lv_at hl 1 rfl) ?_
  refine lv_aload_n hx hb dX7_cell_5 rfl (lv_at hl 0 rfl) ?_
  refine x_cVIE (As := []) (rest := [.int (iZ b9), .ref (xad E 95)]) hx hb hml hts hown hK hST hOK hH 85 (c_X7_digit l E ST hSF σ sv re ea fa ty li th sz sp wr to tx f85 f93 (by omega) (by omega) (by assumption) (by omega)) (cwV 0 hts gX7_cell_X7_digit rfl rfl rfl (by decide +kernel) ⟨Nat.le_of_ble_eq_true rfl, Nat.le_of_ble_eq_true rfl⟩) (by decide) f85 rfl rfl hl.1 rfl (Nat.le_of_ble_eq_true rfl) dX7_cell_6 ⟨Nat.le_of_ble_eq_true rfl, Nat.le_of_ble_eq_true rfl⟩ (fun z u h => h) (fun σ2 H locs hp3 hH => ?_)
  obtain ⟨f85, fr4⟩ := hp3
  have f93 : σ2 93 = aI E 60 tx := (fr4 93 (by omega)).trans f93
  have f95 : σ2 95 = aI E 120 nu := (fr4 95 (by omega)).trans f95
  refine x_iast hx hb hK hH 95 (by decide) f95 (by omega) (by omega) (by omega) dX7_cell_9 (fun σ6 H locs f95 fr7 hH => ?_)
  have f85 : σ6 85 = oB 5 [.ref (xad E 86), .ref (xad E 87), .ref (xad E 88), .ref (xad E 89), .ref (xad E 90), .int (iZ (b2 sv)), .int (iZ re), .int (iZ ea), .int (iZ fa), .ref (xad E 91), .ref (xad E 92), .ref (xad E 93), .int (iZ ty), .ref (xad E 94), .int (iZ li), .int (iZ th), .int (iZ sz), .int (iZ (rSp tx sz 48 57 sp wr)), .int (iZ (rWr tx sz 48 57 sp wr)), .int (iZ to), .ref (xad E 95)] := (fr7 85 (by omega)).trans f85
  have f93 : σ6 93 = aI E 60 tx := (fr7 93 (by omega)).trans f93
  refine lv_aload_n hx hb dX7_cell_10 rfl (lv_at hl 0 rfl) ?_
  refine x_get hx hb hts hown hK hH 85 (by decide) f85 hinX7 rfl 20 (by decide) (List.mem_of_getElem? (i := 1) rfl) rfl dX7_cell_11 ?_
  refine lv_iload_n hx hb dX7_cell_14 rfl (lv_at hl 1 rfl) ?_
  refine x_iconst hx hb dX7_cell_15 ?_
  refine x_iadd hx hb dX7_cell_16 ?_
  refine lv_aload_n hx hb dX7_cell_17 rfl (lv_at hl 0 rfl) ?_
  refine x_cVIE (As := []) (rest := [.int (iZ (b9 + 1)), .ref (xad E 95)]) hx hb hml hts hown hK hST hOK hH 85 (c_X7_digit l E ST hSF σ6 sv re ea fa ty li th sz (rSp tx sz 48 57 sp wr) (rWr tx sz 48 57 sp wr) to tx f85 f93 (by omega) (by omega) (by assumption) (by omega)) (cwV 0 hts gX7_cell_X7_digit rfl rfl rfl (by decide +kernel) ⟨Nat.le_of_ble_eq_true rfl, Nat.le_of_ble_eq_true rfl⟩) (by decide) f85 rfl rfl hl.1 rfl (Nat.le_of_ble_eq_true rfl) dX7_cell_18 ⟨Nat.le_of_ble_eq_true rfl, Nat.le_of_ble_eq_true rfl⟩ (fun z u h => h) (fun σ9 H locs hp10 hH => ?_)
  obtain ⟨f85, fr11⟩ := hp10
  have f93 : σ9 93 = aI E 60 tx := (fr11 93 (by omega)).trans f93
  have f95 : σ9 95 = aI E 120 (ui nu b9 (rVl tx sz 48 57 sp wr)) := (fr11 95 (by omega)).trans f95
  refine x_iast hx hb hK hH 95 (by decide) f95 (by omega) (by omega) (by omega) dX7_cell_21 (fun σ13 H locs f95 fr14 hH => ?_)
  have f85 : σ13 85 = oB 5 [.ref (xad E 86), .ref (xad E 87), .ref (xad E 88), .ref (xad E 89), .ref (xad E 90), .int (iZ (b2 sv)), .int (iZ re), .int (iZ ea), .int (iZ fa), .ref (xad E 91), .ref (xad E 92), .ref (xad E 93), .int (iZ ty), .ref (xad E 94), .int (iZ li), .int (iZ th), .int (iZ sz), .int (iZ (rSp tx sz 48 57 (rSp tx sz 48 57 sp wr) (rWr tx sz 48 57 sp wr))), .int (iZ (rWr tx sz 48 57 (rSp tx sz 48 57 sp wr) (rWr tx sz 48 57 sp wr))), .int (iZ to), .ref (xad E 95)] := (fr14 85 (by omega)).trans f85
  have f93 : σ13 93 = aI E 60 tx := (fr14 93 (by omega)).trans f93
  subst hQ
  exact x_vret hx hb hr hlocks hH (Nat.le_of_ble_eq_true rfl) (Nat.le_of_ble_eq_true rfl) ⟨⟨(rSp tx sz 48 57 (rSp tx sz 48 57 sp wr) (rWr tx sz 48 57 sp wr)), (rWr tx sz 48 57 (rSp tx sz 48 57 sp wr) (rWr tx sz 48 57 sp wr)), (rVl tx sz 48 57 sp wr), (rVl tx sz 48 57 (rSp tx sz 48 57 sp wr) (rWr tx sz 48 57 sp wr)), f85, f95, (by exact rel_D (rel_D hR)), (by omega), (by omega)⟩, fun j hj0 hj1 => ((fr14 j (by omega)).trans ((fr11 j (by omega)).trans ((fr7 j (by omega)).trans (fr4 j (by omega)))))⟩ dX7_cell_22

def rm_X7_steps : Room := { frames := 3, cells := 0, slots := 0, locals := 64 }
set_option maxRecDepth 100000 in
set_option maxHeartbeats 4000000 in
theorem c_X7_steps (l : Launch) (E : xE) (ST : xST) (hSF : SF ST) (σ : xW) (b9 : Int) (M : Int × List Int) (sv : Bool) (re : Int) (ea : Int) (fa : Int) (ty : Int) (li : Int) (th : Int) (sz : Int) (sp : Int) (wr : Int) (to : Int) (tx : Int → Int) (nu : Int → Int) (hr0 : mo E σ sv re ea fa ty li th sz sp wr to) (hr1 : txt E σ tx) (hr2 : num E σ nu) (hsp : 0 ≤ sp ∧ sp ≤ sz) (hsz : sz ≤ 60) (htx : ∀ j, 0 ≤ tx j ∧ tx j ≤ 65535) (hwr : -1 ≤ wr ∧ wr ≤ sz) (hb9 : 0 ≤ b9 ∧ b9 ≤ 116) (hR : RelI tx sz M [68, 83, 68] sp wr []) : CV l E ST yX7_steps wsX7_steps rm_X7_steps [.ref (xad E 85), .int (iZ b9)] σ (fun (u : xW) => (∃ (sp1 wr1 d1 q9 d2 : Int), mo E u sv re ea fa ty li th sz sp1 wr1 to ∧ num E u (ui (ui nu (b9 + 1) d1) (b9 + 2) (q9 * d2)) ∧ (RelI tx sz M [] sp1 wr1 [d1, q9, d2]) ∧ ((0 ≤ sp1 ∧ sp1 ≤ sz) ∧ -1 ≤ wr1 ∧ wr1 ≤ sz) ∧ ((0 ≤ d1 ∧ d1 ≤ 9) ∧ (0 ≤ d2 ∧ d2 ≤ 9) ∧ (q9 = 1 ∨ q9 = -1))) ∧ ∀ j : Nat, j ≠ 85 → j ≠ 95 → u j = σ j) := by
  have f85 : σ 85 = oB 5 [.ref (xad E 86), .ref (xad E 87), .ref (xad E 88), .ref (xad E 89), .ref (xad E 90), .int (iZ (b2 sv)), .int (iZ re), .int (iZ ea), .int (iZ fa), .ref (xad E 91), .ref (xad E 92), .ref (xad E 93), .int (iZ ty), .ref (xad E 94), .int (iZ li), .int (iZ th), .int (iZ sz), .int (iZ sp), .int (iZ wr), .int (iZ to), .ref (xad E 95)] := hr0
  have f93 : σ 93 = aI E 60 tx := hr1
  have f95 : σ 95 = aI E 120 nu := hr2
  refine CV_of (by decide) rfl (Nat.le_of_ble_eq_true rfl) ?_
  intro p e s m args below meth c Q ls G hH hl hQ
  obtain ⟨hx, hb, hml, hown, hts, hK, hST, hlocks, hr, hno⟩ := G
  have hOK := hSF.1
  have hown : s.vm.findClass RX7 = some m.cls := hown
  have hl : lv_has ls 5 [(0, .ref (xad E 85)), (1, .int (iZ b9))] := hl
  have hinX7 : ∀ w ∈ u_ws RX7 TX7 21, w ∈ wsX7_steps := fun w h => (List.mem_cons_of_mem _ (List.mem_append_right _ h))
  have hs1 := rSp_b (t := tx) (n := sz) (a := 48) (b := 57) (sp := sp) (wr := wr) hsp
  have hw1 := rWr_b (t := tx) (n := sz) (a := 48) (b := 57) (sp := sp) (wr := wr) hsp hwr
  have hv1 := rVl_b (t := tx) (n := sz) (a := 48) (b := 57) (sp := sp) (wr := wr) (by decide)
  refine lv_aload_n hx hb dX7_steps_0 rfl (lv_at hl 0 rfl) ?_
  refine x_get hx hb hts hown hK hH 85 (by decide) f85 hinX7 rfl 20 (by decide) (List.mem_of_getElem? (i := 1) rfl) rfl dX7_steps_1 ?_
  refine lv_iload_n hx hb dX7_steps_4 rfl (lv_at hl 1 rfl) ?_
  refine x_iconst hx hb dX7_steps_5 ?_
  refine x_iadd hx hb dX7_steps_6 ?_
  refine lv_aload_n hx hb dX7_steps_7 rfl (lv_at hl 0 rfl) ?_
  refine x_cVIE (As := []) (rest := [.int (iZ (b9 + 1)), .ref (xad E 95)]) hx hb hml hts hown hK hST hOK hH 85 (c_X7_digit l E ST hSF σ sv re ea fa ty li th sz sp wr to tx f85 f93 (by omega) (by omega) (by assumption) (by omega)) (cwV 0 hts gX7_steps_X7_digit rfl rfl rfl (by decide +kernel) ⟨Nat.le_of_ble_eq_true rfl, Nat.le_of_ble_eq_true rfl⟩) (by decide) f85 rfl rfl hl.1 rfl (Nat.le_of_ble_eq_true rfl) dX7_steps_8 ⟨Nat.le_of_ble_eq_true rfl, Nat.le_of_ble_eq_true rfl⟩ (fun z u h => h) (fun σ2 H locs hp3 hH => ?_)
  obtain ⟨f85, fr4⟩ := hp3
  have f93 : σ2 93 = aI E 60 tx := (fr4 93 (by omega)).trans f93
  have f95 : σ2 95 = aI E 120 nu := (fr4 95 (by omega)).trans f95
  refine x_iast hx hb hK hH 95 (by decide) f95 (by omega) (by omega) (by omega) dX7_steps_11 (fun σ6 H locs f95 fr7 hH => ?_)
  have f85 : σ6 85 = oB 5 [.ref (xad E 86), .ref (xad E 87), .ref (xad E 88), .ref (xad E 89), .ref (xad E 90), .int (iZ (b2 sv)), .int (iZ re), .int (iZ ea), .int (iZ fa), .ref (xad E 91), .ref (xad E 92), .ref (xad E 93), .int (iZ ty), .ref (xad E 94), .int (iZ li), .int (iZ th), .int (iZ sz), .int (iZ (rSp tx sz 48 57 sp wr)), .int (iZ (rWr tx sz 48 57 sp wr)), .int (iZ to), .ref (xad E 95)] := (fr7 85 (by omega)).trans f85
  have f93 : σ6 93 = aI E 60 tx := (fr7 93 (by omega)).trans f93
  refine lv_aload_n hx hb dX7_steps_12 rfl (lv_at hl 0 rfl) ?_
  refine x_cVID (As := []) (rest := []) hx hb hml hts hown hK hST hOK hH 85 (c_X7_letterHere l E ST hSF σ6 sv re ea fa ty li th sz (rSp tx sz 48 57 sp wr) (rWr tx sz 48 57 sp wr) to tx f85 f93 (by omega) (by omega) (by assumption)) (cwV 0 hts gX7_steps_X7_letterHere rfl rfl rfl (by decide +kernel) ⟨Nat.le_of_ble_eq_true rfl, Nat.le_of_ble_eq_true rfl⟩) (by decide) f85 rfl rfl hl.1 rfl (Nat.le_of_ble_eq_true rfl) dX7_steps_13 ⟨Nat.le_of_ble_eq_true rfl, Nat.le_of_ble_eq_true rfl⟩ (fun z u h => h) (fun H locs hH => ?_)
  have hlb := leZ_b (t := tx) (n := sz) (sp := rSp tx sz 48 57 sp wr) htx
  refine x_bipush hx hb dX7_steps_16 (by decide) ?_
  refine x_icmp_ne (tgt := 25) hx hb dX7_steps_18 (by decide) (by omega) (by decide) (fun c18 => ?_) (fun c18 => ?_)
  · refine x_iconst hx hb dX7_steps_25 ?_
    refine lv_istore_n (lv' := [(2, .int (iZ 0)), (0, .ref (xad E 85)), (1, .int (iZ b9))]) hx hb dX7_steps_26 rfl hl (by decide) rfl (fun ls hl => ?_)
    refine lv_iload_n hx hb dX7_steps_27 rfl (lv_at hl 0 rfl) ?_
    refine x_if_eq (tgt := 42) hx hb dX7_steps_28 (by decide) (by decide) (fun c28 => ?_) (fun c28 => ?_)
    · refine lv_aload_n hx hb dX7_steps_42 rfl (lv_at hl 1 rfl) ?_
      refine x_bipush hx hb dX7_steps_43 (by decide) ?_
      refine x_bipush hx hb dX7_steps_45 (by decide) ?_
      refine x_cVIE (As := [.int (iZ 45), .int (iZ 45)]) (rest := []) hx hb hml hts hown hK hST hOK hH 85 (c_X7_reads l E ST hSF σ6 45 45 sv re ea fa ty li th sz (rSp tx sz 48 57 sp wr) (rWr tx sz 48 57 sp wr) to tx f85 f93 (by omega) (by omega) (by assumption) (by omega) (by omega)) (cwV 2 hts gX7_steps_X7_reads rfl rfl rfl (by decide +kernel) ⟨Nat.le_of_ble_eq_true rfl, Nat.le_of_ble_eq_true rfl⟩) (by decide) f85 rfl rfl hl.1 rfl (Nat.le_of_ble_eq_true rfl) dX7_steps_47 ⟨Nat.le_of_ble_eq_true rfl, Nat.le_of_ble_eq_true rfl⟩ (fun z u h => h) (fun σ12 H locs hp13 hH => ?_)
      obtain ⟨f85, fr14⟩ := hp13
      have f93 : σ12 93 = aI E 60 tx := (fr14 93 (by omega)).trans f93
      have f95 : σ12 95 = aI E 120 (ui nu (b9 + 1) (rVl tx sz 48 57 sp wr)) := (fr14 95 (by omega)).trans f95
      refine lv_istore_n (lv' := [(3, .int (iZ (rVl tx sz 45 45 (rSp tx sz 48 57 sp wr) (rWr tx sz 48 57 sp wr)))), (2, .int (iZ 0)), (0, .ref (xad E 85)), (1, .int (iZ b9))]) hx hb dX7_steps_50 rfl hl (by decide) rfl (fun ls hl => ?_)
      have hrs := (rel_S (rel_D hR)).2 c18
      have hs3 := rSp_b (t := tx) (n := sz) (a := 45) (b := 45) (sp := rSp tx sz 48 57 sp wr) (wr := rWr tx sz 48 57 sp wr) hs1
      have hw3 := rWr_b (t := tx) (n := sz) (a := 45) (b := 45) (sp := rSp tx sz 48 57 sp wr) (wr := rWr tx sz 48 57 sp wr) hs1 hw1
      have hs4 := rSp_b (t := tx) (n := sz) (a := 48) (b := 57) (sp := rSp tx sz 45 45 (rSp tx sz 48 57 sp wr) (rWr tx sz 48 57 sp wr)) (wr := rWr tx sz 45 45 (rSp tx sz 48 57 sp wr) (rWr tx sz 48 57 sp wr)) hs3
      have hw4 := rWr_b (t := tx) (n := sz) (a := 48) (b := 57) (sp := rSp tx sz 45 45 (rSp tx sz 48 57 sp wr) (rWr tx sz 48 57 sp wr)) (wr := rWr tx sz 45 45 (rSp tx sz 48 57 sp wr) (rWr tx sz 48 57 sp wr)) hs3 hw3
      have hv4 := rVl_b (t := tx) (n := sz) (a := 48) (b := 57) (sp := rSp tx sz 45 45 (rSp tx sz 48 57 sp wr) (rWr tx sz 48 57 sp wr)) (wr := rWr tx sz 45 45 (rSp tx sz 48 57 sp wr) (rWr tx sz 48 57 sp wr)) (by decide)
      refine lv_aload_n hx hb dX7_steps_51 rfl (lv_at hl 2 rfl) ?_
      refine x_cVIE (As := []) (rest := []) hx hb hml hts hown hK hST hOK hH 85 (c_X7_digit l E ST hSF σ12 sv re ea fa ty li th sz (rSp tx sz 45 45 (rSp tx sz 48 57 sp wr) (rWr tx sz 48 57 sp wr)) (rWr tx sz 45 45 (rSp tx sz 48 57 sp wr) (rWr tx sz 48 57 sp wr)) to tx f85 f93 (by omega) (by omega) (by assumption) (by omega)) (cwV 0 hts gX7_steps_X7_digit rfl rfl rfl (by decide +kernel) ⟨Nat.le_of_ble_eq_true rfl, Nat.le_of_ble_eq_true rfl⟩) (by decide) f85 rfl rfl hl.1 rfl (Nat.le_of_ble_eq_true rfl) dX7_steps_52 ⟨Nat.le_of_ble_eq_true rfl, Nat.le_of_ble_eq_true rfl⟩ (fun z u h => h) (fun σ17 H locs hp18 hH => ?_)
      obtain ⟨f85, fr19⟩ := hp18
      have f93 : σ17 93 = aI E 60 tx := (fr19 93 (by omega)).trans f93
      have f95 : σ17 95 = aI E 120 (ui nu (b9 + 1) (rVl tx sz 48 57 sp wr)) := (fr19 95 (by omega)).trans f95
      refine lv_istore (lv' := [(4, .int (iZ (rVl tx sz 48 57 (rSp tx sz 45 45 (rSp tx sz 48 57 sp wr) (rWr tx sz 48 57 sp wr)) (rWr tx sz 45 45 (rSp tx sz 48 57 sp wr) (rWr tx sz 48 57 sp wr))))), (3, .int (iZ (rVl tx sz 45 45 (rSp tx sz 48 57 sp wr) (rWr tx sz 48 57 sp wr)))), (2, .int (iZ 0)), (0, .ref (xad E 85)), (1, .int (iZ b9))]) hx hb dX7_steps_55 hl (by decide) rfl (fun ls hl => ?_)
      refine lv_aload_n hx hb dX7_steps_57 rfl (lv_at hl 3 rfl) ?_
      refine x_get hx hb hts hown hK hH 85 (by decide) f85 hinX7 rfl 20 (by decide) (List.mem_of_getElem? (i := 1) rfl) rfl dX7_steps_58 ?_
      refine lv_iload_n hx hb dX7_steps_61 rfl (lv_at hl 4 rfl) ?_
      refine x_iconst hx hb dX7_steps_62 ?_
      refine x_iadd hx hb dX7_steps_63 ?_
      refine lv_iload_n hx hb dX7_steps_64 rfl (lv_at hl 2 rfl) ?_
      refine x_if_eq (tgt := 73) hx hb dX7_steps_65 (by decide) (by decide) (fun c65 => ?_) (fun c65 => ?_)
      · refine lv_iload hx hb dX7_steps_73 (lv_at hl 0 rfl) ?_
        refine x_ineg hx hb dX7_steps_75 ?_
        refine x_iast hx hb hK hH 95 (by decide) f95 (by omega) (by omega) (by omega) dX7_steps_76 (fun σ21 H locs f95 fr22 hH => ?_)
        have f85 : σ21 85 = oB 5 [.ref (xad E 86), .ref (xad E 87), .ref (xad E 88), .ref (xad E 89), .ref (xad E 90), .int (iZ (b2 sv)), .int (iZ re), .int (iZ ea), .int (iZ fa), .ref (xad E 91), .ref (xad E 92), .ref (xad E 93), .int (iZ ty), .ref (xad E 94), .int (iZ li), .int (iZ th), .int (iZ sz), .int (iZ (rSp tx sz 48 57 (rSp tx sz 45 45 (rSp tx sz 48 57 sp wr) (rWr tx sz 48 57 sp wr)) (rWr tx sz 45 45 (rSp tx sz 48 57 sp wr) (rWr tx sz 48 57 sp wr)))), .int (iZ (rWr tx sz 48 57 (rSp tx sz 45 45 (rSp tx sz 48 57 sp wr) (rWr tx sz 48 57 sp wr)) (rWr tx sz 45 45 (rSp tx sz 48 57 sp wr) (rWr tx sz 48 57 sp wr)))), .int (iZ to), .ref (xad E 95)] := (fr22 85 (by omega)).trans f85
        have f93 : σ21 93 = aI E 60 tx := (fr22 93 (by omega)).trans f93
        subst hQ
        exact x_vret hx hb hr hlocks hH (Nat.le_of_ble_eq_true rfl) (Nat.le_of_ble_eq_true rfl) ⟨⟨(rSp tx sz 48 57 (rSp tx sz 45 45 (rSp tx sz 48 57 sp wr) (rWr tx sz 48 57 sp wr)) (rWr tx sz 45 45 (rSp tx sz 48 57 sp wr) (rWr tx sz 48 57 sp wr))), (rWr tx sz 48 57 (rSp tx sz 45 45 (rSp tx sz 48 57 sp wr) (rWr tx sz 48 57 sp wr)) (rWr tx sz 45 45 (rSp tx sz 48 57 sp wr) (rWr tx sz 48 57 sp wr))), (rVl tx sz 48 57 sp wr), (-1), (rVl tx sz 48 57 (rSp tx sz 45 45 (rSp tx sz 48 57 sp wr) (rWr tx sz 48 57 sp wr)) (rWr tx sz 45 45 (rSp tx sz 48 57 sp wr) (rWr tx sz 48 57 sp wr))), f85, (f95.trans (congrArg (fun g => aI E 120 g) (show (ui (ui nu (b9 + 1) (rVl tx sz 48 57 sp wr)) (b9 + 2) (-(rVl tx sz 48 57 (rSp tx sz 45 45 (rSp tx sz 48 57 sp wr) (rWr tx sz 48 57 sp wr)) (rWr tx sz 45 45 (rSp tx sz 48 57 sp wr) (rWr tx sz 48 57 sp wr))))) = (ui (ui nu (b9 + 1) (rVl tx sz 48 57 sp wr)) (b9 + 2) ((-1) * (rVl tx sz 48 57 (rSp tx sz 45 45 (rSp tx sz 48 57 sp wr) (rWr tx sz 48 57 sp wr)) (rWr tx sz 45 45 (rSp tx sz 48 57 sp wr) (rWr tx sz 48 57 sp wr))))) from (by first | rw [Int.one_mul] | rw [show ∀ x : Int, (-1) * x = -x from fun x => by omega])))), (by exact rel_D hrs), (by omega), (by omega)⟩, fun j hj0 hj1 => ((fr22 j (by omega)).trans ((fr19 j (by omega)).trans ((fr14 j (by omega)).trans ((fr7 j (by omega)).trans (fr4 j (by omega))))))⟩ dX7_steps_77
      · exact absurd c65 (by decide)
    · exact absurd c28 (by decide)
  · refine x_iconst hx hb dX7_steps_21 ?_
    refine lv_goto (tgt := 26) hx hb dX7_steps_22 (by decide) ?_
    refine lv_istore_n (lv' := [(2, .int (iZ 1)), (0, .ref (xad E 85)), (1, .int (iZ b9))]) hx hb dX7_steps_26 rfl hl (by decide) rfl (fun ls hl => ?_)
    refine lv_iload_n hx hb dX7_steps_27 rfl (lv_at hl 0 rfl) ?_
    refine x_if_eq (tgt := 42) hx hb dX7_steps_28 (by decide) (by decide) (fun c28 => ?_) (fun c28 => ?_)
    · exact absurd c28 (by decide)
    · refine lv_aload_n hx hb dX7_steps_31 rfl (lv_at hl 1 rfl) ?_
      refine x_bipush hx hb dX7_steps_32 (by decide) ?_
      refine x_bipush hx hb dX7_steps_34 (by decide) ?_
      refine x_cVIE (As := [.int (iZ 43), .int (iZ 43)]) (rest := []) hx hb hml hts hown hK hST hOK hH 85 (c_X7_reads l E ST hSF σ6 43 43 sv re ea fa ty li th sz (rSp tx sz 48 57 sp wr) (rWr tx sz 48 57 sp wr) to tx f85 f93 (by omega) (by omega) (by assumption) (by omega) (by omega)) (cwV 2 hts gX7_steps_X7_reads rfl rfl rfl (by decide +kernel) ⟨Nat.le_of_ble_eq_true rfl, Nat.le_of_ble_eq_true rfl⟩) (by decide) f85 rfl rfl hl.1 rfl (Nat.le_of_ble_eq_true rfl) dX7_steps_36 ⟨Nat.le_of_ble_eq_true rfl, Nat.le_of_ble_eq_true rfl⟩ (fun z u h => h) (fun σ24 H locs hp25 hH => ?_)
      obtain ⟨f85, fr26⟩ := hp25
      have f93 : σ24 93 = aI E 60 tx := (fr26 93 (by omega)).trans f93
      have f95 : σ24 95 = aI E 120 (ui nu (b9 + 1) (rVl tx sz 48 57 sp wr)) := (fr26 95 (by omega)).trans f95
      refine lv_goto (tgt := 50) hx hb dX7_steps_39 (by decide) ?_
      refine lv_istore_n (lv' := [(3, .int (iZ (rVl tx sz 43 43 (rSp tx sz 48 57 sp wr) (rWr tx sz 48 57 sp wr)))), (2, .int (iZ 1)), (0, .ref (xad E 85)), (1, .int (iZ b9))]) hx hb dX7_steps_50 rfl hl (by decide) rfl (fun ls hl => ?_)
      have hrs := (rel_S (rel_D hR)).1 c18
      have hs3 := rSp_b (t := tx) (n := sz) (a := 43) (b := 43) (sp := rSp tx sz 48 57 sp wr) (wr := rWr tx sz 48 57 sp wr) hs1
      have hw3 := rWr_b (t := tx) (n := sz) (a := 43) (b := 43) (sp := rSp tx sz 48 57 sp wr) (wr := rWr tx sz 48 57 sp wr) hs1 hw1
      have hs4 := rSp_b (t := tx) (n := sz) (a := 48) (b := 57) (sp := rSp tx sz 43 43 (rSp tx sz 48 57 sp wr) (rWr tx sz 48 57 sp wr)) (wr := rWr tx sz 43 43 (rSp tx sz 48 57 sp wr) (rWr tx sz 48 57 sp wr)) hs3
      have hw4 := rWr_b (t := tx) (n := sz) (a := 48) (b := 57) (sp := rSp tx sz 43 43 (rSp tx sz 48 57 sp wr) (rWr tx sz 48 57 sp wr)) (wr := rWr tx sz 43 43 (rSp tx sz 48 57 sp wr) (rWr tx sz 48 57 sp wr)) hs3 hw3
      have hv4 := rVl_b (t := tx) (n := sz) (a := 48) (b := 57) (sp := rSp tx sz 43 43 (rSp tx sz 48 57 sp wr) (rWr tx sz 48 57 sp wr)) (wr := rWr tx sz 43 43 (rSp tx sz 48 57 sp wr) (rWr tx sz 48 57 sp wr)) (by decide)
      refine lv_aload_n hx hb dX7_steps_51 rfl (lv_at hl 2 rfl) ?_
      refine x_cVIE (As := []) (rest := []) hx hb hml hts hown hK hST hOK hH 85 (c_X7_digit l E ST hSF σ24 sv re ea fa ty li th sz (rSp tx sz 43 43 (rSp tx sz 48 57 sp wr) (rWr tx sz 48 57 sp wr)) (rWr tx sz 43 43 (rSp tx sz 48 57 sp wr) (rWr tx sz 48 57 sp wr)) to tx f85 f93 (by omega) (by omega) (by assumption) (by omega)) (cwV 0 hts gX7_steps_X7_digit rfl rfl rfl (by decide +kernel) ⟨Nat.le_of_ble_eq_true rfl, Nat.le_of_ble_eq_true rfl⟩) (by decide) f85 rfl rfl hl.1 rfl (Nat.le_of_ble_eq_true rfl) dX7_steps_52 ⟨Nat.le_of_ble_eq_true rfl, Nat.le_of_ble_eq_true rfl⟩ (fun z u h => h) (fun σ29 H locs hp30 hH => ?_)
      obtain ⟨f85, fr31⟩ := hp30
      have f93 : σ29 93 = aI E 60 tx := (fr31 93 (by omega)).trans f93
      have f95 : σ29 95 = aI E 120 (ui nu (b9 + 1) (rVl tx sz 48 57 sp wr)) := (fr31 95 (by omega)).trans f95
      refine lv_istore (lv' := [(4, .int (iZ (rVl tx sz 48 57 (rSp tx sz 43 43 (rSp tx sz 48 57 sp wr) (rWr tx sz 48 57 sp wr)) (rWr tx sz 43 43 (rSp tx sz 48 57 sp wr) (rWr tx sz 48 57 sp wr))))), (3, .int (iZ (rVl tx sz 43 43 (rSp tx sz 48 57 sp wr) (rWr tx sz 48 57 sp wr)))), (2, .int (iZ 1)), (0, .ref (xad E 85)), (1, .int (iZ b9))]) hx hb dX7_steps_55 hl (by decide) rfl (fun ls hl => ?_)
      refine lv_aload_n hx hb dX7_steps_57 rfl (lv_at hl 3 rfl) ?_
      refine x_get hx hb hts hown hK hH 85 (by decide) f85 hinX7 rfl 20 (by decide) (List.mem_of_getElem? (i := 1) rfl) rfl dX7_steps_58 ?_
      refine lv_iload_n hx hb dX7_steps_61 rfl (lv_at hl 4 rfl) ?_
      refine x_iconst hx hb dX7_steps_62 ?_
      refine x_iadd hx hb dX7_steps_63 ?_
      refine lv_iload_n hx hb dX7_steps_64 rfl (lv_at hl 2 rfl) ?_
      refine x_if_eq (tgt := 73) hx hb dX7_steps_65 (by decide) (by decide) (fun c65 => ?_) (fun c65 => ?_)
      · exact absurd c65 (by decide)
      · refine lv_iload hx hb dX7_steps_68 (lv_at hl 0 rfl) ?_
        refine lv_goto (tgt := 76) hx hb dX7_steps_70 (by decide) ?_
        refine x_iast hx hb hK hH 95 (by decide) f95 (by omega) (by omega) (by omega) dX7_steps_76 (fun σ33 H locs f95 fr34 hH => ?_)
        have f85 : σ33 85 = oB 5 [.ref (xad E 86), .ref (xad E 87), .ref (xad E 88), .ref (xad E 89), .ref (xad E 90), .int (iZ (b2 sv)), .int (iZ re), .int (iZ ea), .int (iZ fa), .ref (xad E 91), .ref (xad E 92), .ref (xad E 93), .int (iZ ty), .ref (xad E 94), .int (iZ li), .int (iZ th), .int (iZ sz), .int (iZ (rSp tx sz 48 57 (rSp tx sz 43 43 (rSp tx sz 48 57 sp wr) (rWr tx sz 48 57 sp wr)) (rWr tx sz 43 43 (rSp tx sz 48 57 sp wr) (rWr tx sz 48 57 sp wr)))), .int (iZ (rWr tx sz 48 57 (rSp tx sz 43 43 (rSp tx sz 48 57 sp wr) (rWr tx sz 48 57 sp wr)) (rWr tx sz 43 43 (rSp tx sz 48 57 sp wr) (rWr tx sz 48 57 sp wr)))), .int (iZ to), .ref (xad E 95)] := (fr34 85 (by omega)).trans f85
        have f93 : σ33 93 = aI E 60 tx := (fr34 93 (by omega)).trans f93
        subst hQ
        exact x_vret hx hb hr hlocks hH (Nat.le_of_ble_eq_true rfl) (Nat.le_of_ble_eq_true rfl) ⟨⟨(rSp tx sz 48 57 (rSp tx sz 43 43 (rSp tx sz 48 57 sp wr) (rWr tx sz 48 57 sp wr)) (rWr tx sz 43 43 (rSp tx sz 48 57 sp wr) (rWr tx sz 48 57 sp wr))), (rWr tx sz 48 57 (rSp tx sz 43 43 (rSp tx sz 48 57 sp wr) (rWr tx sz 48 57 sp wr)) (rWr tx sz 43 43 (rSp tx sz 48 57 sp wr) (rWr tx sz 48 57 sp wr))), (rVl tx sz 48 57 sp wr), 1, (rVl tx sz 48 57 (rSp tx sz 43 43 (rSp tx sz 48 57 sp wr) (rWr tx sz 48 57 sp wr)) (rWr tx sz 43 43 (rSp tx sz 48 57 sp wr) (rWr tx sz 48 57 sp wr))), f85, (f95.trans (congrArg (fun g => aI E 120 g) (show (ui (ui nu (b9 + 1) (rVl tx sz 48 57 sp wr)) (b9 + 2) (rVl tx sz 48 57 (rSp tx sz 43 43 (rSp tx sz 48 57 sp wr) (rWr tx sz 48 57 sp wr)) (rWr tx sz 43 43 (rSp tx sz 48 57 sp wr) (rWr tx sz 48 57 sp wr)))) = (ui (ui nu (b9 + 1) (rVl tx sz 48 57 sp wr)) (b9 + 2) (1 * (rVl tx sz 48 57 (rSp tx sz 43 43 (rSp tx sz 48 57 sp wr) (rWr tx sz 48 57 sp wr)) (rWr tx sz 43 43 (rSp tx sz 48 57 sp wr) (rWr tx sz 48 57 sp wr))))) from (by first | rw [Int.one_mul] | rw [show ∀ x : Int, (-1) * x = -x from fun x => by omega])))), (by exact rel_D hrs), (by omega), (by omega)⟩, fun j hj0 hj1 => ((fr34 j (by omega)).trans ((fr31 j (by omega)).trans ((fr26 j (by omega)).trans ((fr7 j (by omega)).trans (fr4 j (by omega))))))⟩ dX7_steps_77

def rm_X7_startOf : Room := { frames := 0, cells := 0, slots := 0, locals := 0 }
set_option maxRecDepth 100000 in
set_option maxHeartbeats 4000000 in
theorem c_X7_startOf (l : Launch) (E : xE) (ST : xST) (hSF : SF ST) (σ : xW) (k : Int) (hk : 0 ≤ k ∧ k ≤ 11) : CI l E ST yX7_startOf wsX7_startOf rm_X7_startOf [.int (iZ k)] σ (fun (z : Int) (u : xW) => z = stZ k ∧ u = σ) := by
  refine CI_of (by decide) rfl (Nat.le_of_ble_eq_true rfl) ?_
  intro p e s m args below meth c Q ls G hH hl hQ
  obtain ⟨hx, hb, hml, hown, hts, hK, hST, hlocks, hr, hno⟩ := G
  have hOK := hSF.1
  have hown : s.vm.findClass RX7 = some m.cls := hown
  have hl : lv_has ls 1 [(0, .int (iZ k))] := hl
  refine lv_iload_n hx hb dX7_startOf_0 rfl (lv_at hl 0 rfl) ?_
  rcases (show (k = 0) ∨ (k = 1) ∨ (k = 2) ∨ (k = 3) ∨ (k = 4) ∨ (k = 5) ∨ (k = 6) ∨ (k = 7) ∨ (k = 8) ∨ (k = 9) ∨ (k = 10) ∨ (k < 0 ∨ 10 < k) by omega) with c1 | c1 | c1 | c1 | c1 | c1 | c1 | c1 | c1 | c1 | c1 | c1
  · refine x_tableIn (tgt := 60) hx hb 0 c1 (by omega) dX7_startOf_1 (by decide) (by decide) rfl (by decide) ?_
    refine x_iconst hx hb dX7_startOf_60 ?_
    refine lv_iload_n hx hb dX7_startOf_61 rfl (lv_at hl 0 rfl) ?_
    refine x_imul hx hb dX7_startOf_62 ?_
    subst hQ
    exact x_iret hx hb hr hlocks hH (Nat.le_of_ble_eq_true rfl) (Nat.le_of_ble_eq_true rfl) ⟨(show (5 * k) = (stZ k) from (by unfold stZ; (repeat' split) <;> omega)), rfl⟩ dX7_startOf_63
  · refine x_tableIn (tgt := 60) hx hb 1 c1 (by omega) dX7_startOf_1 (by decide) (by decide) rfl (by decide) ?_
    refine x_iconst hx hb dX7_startOf_60 ?_
    refine lv_iload_n hx hb dX7_startOf_61 rfl (lv_at hl 0 rfl) ?_
    refine x_imul hx hb dX7_startOf_62 ?_
    subst hQ
    exact x_iret hx hb hr hlocks hH (Nat.le_of_ble_eq_true rfl) (Nat.le_of_ble_eq_true rfl) ⟨(show (5 * k) = (stZ k) from (by unfold stZ; (repeat' split) <;> omega)), rfl⟩ dX7_startOf_63
  · refine x_tableIn (tgt := 60) hx hb 2 c1 (by omega) dX7_startOf_1 (by decide) (by decide) rfl (by decide) ?_
    refine x_iconst hx hb dX7_startOf_60 ?_
    refine lv_iload_n hx hb dX7_startOf_61 rfl (lv_at hl 0 rfl) ?_
    refine x_imul hx hb dX7_startOf_62 ?_
    subst hQ
    exact x_iret hx hb hr hlocks hH (Nat.le_of_ble_eq_true rfl) (Nat.le_of_ble_eq_true rfl) ⟨(show (5 * k) = (stZ k) from (by unfold stZ; (repeat' split) <;> omega)), rfl⟩ dX7_startOf_63
  · refine x_tableIn (tgt := 64) hx hb 3 c1 (by omega) dX7_startOf_1 (by decide) (by decide) rfl (by decide) ?_
    refine x_bipush hx hb dX7_startOf_64 (by decide) ?_
    subst hQ
    exact x_iret hx hb hr hlocks hH (Nat.le_of_ble_eq_true rfl) (Nat.le_of_ble_eq_true rfl) ⟨(show 14 = (stZ k) from (by unfold stZ; (repeat' split) <;> omega)), rfl⟩ dX7_startOf_66
  · refine x_tableIn (tgt := 67) hx hb 4 c1 (by omega) dX7_startOf_1 (by decide) (by decide) rfl (by decide) ?_
    refine x_bipush hx hb dX7_startOf_67 (by decide) ?_
    subst hQ
    exact x_iret hx hb hr hlocks hH (Nat.le_of_ble_eq_true rfl) (Nat.le_of_ble_eq_true rfl) ⟨(show 20 = (stZ k) from (by unfold stZ; (repeat' split) <;> omega)), rfl⟩ dX7_startOf_69
  · refine x_tableIn (tgt := 70) hx hb 5 c1 (by omega) dX7_startOf_1 (by decide) (by decide) rfl (by decide) ?_
    refine x_bipush hx hb dX7_startOf_70 (by decide) ?_
    subst hQ
    exact x_iret hx hb hr hlocks hH (Nat.le_of_ble_eq_true rfl) (Nat.le_of_ble_eq_true rfl) ⟨(show 24 = (stZ k) from (by unfold stZ; (repeat' split) <;> omega)), rfl⟩ dX7_startOf_72
  · refine x_tableIn (tgt := 73) hx hb 6 c1 (by omega) dX7_startOf_1 (by decide) (by decide) rfl (by decide) ?_
    refine x_bipush hx hb dX7_startOf_73 (by decide) ?_
    subst hQ
    exact x_iret hx hb hr hlocks hH (Nat.le_of_ble_eq_true rfl) (Nat.le_of_ble_eq_true rfl) ⟨(show 31 = (stZ k) from (by unfold stZ; (repeat' split) <;> omega)), rfl⟩ dX7_startOf_75
  · refine x_tableIn (tgt := 76) hx hb 7 c1 (by omega) dX7_startOf_1 (by decide) (by decide) rfl (by decide) ?_
    refine x_bipush hx hb dX7_startOf_76 (by decide) ?_
    refine x_iconst hx hb dX7_startOf_78 ?_
    refine lv_iload_n hx hb dX7_startOf_79 rfl (lv_at hl 0 rfl) ?_
    refine x_bipush hx hb dX7_startOf_80 (by decide) ?_
    refine x_isub hx hb dX7_startOf_82 ?_
    refine x_imul hx hb dX7_startOf_83 ?_
    refine x_iadd hx hb dX7_startOf_84 ?_
    subst hQ
    exact x_iret hx hb hr hlocks hH (Nat.le_of_ble_eq_true rfl) (Nat.le_of_ble_eq_true rfl) ⟨(show (35 + (5 * (k - 7))) = (stZ k) from (by unfold stZ; (repeat' split) <;> omega)), rfl⟩ dX7_startOf_85
  · refine x_tableIn (tgt := 76) hx hb 8 c1 (by omega) dX7_startOf_1 (by decide) (by decide) rfl (by decide) ?_
    refine x_bipush hx hb dX7_startOf_76 (by decide) ?_
    refine x_iconst hx hb dX7_startOf_78 ?_
    refine lv_iload_n hx hb dX7_startOf_79 rfl (lv_at hl 0 rfl) ?_
    refine x_bipush hx hb dX7_startOf_80 (by decide) ?_
    refine x_isub hx hb dX7_startOf_82 ?_
    refine x_imul hx hb dX7_startOf_83 ?_
    refine x_iadd hx hb dX7_startOf_84 ?_
    subst hQ
    exact x_iret hx hb hr hlocks hH (Nat.le_of_ble_eq_true rfl) (Nat.le_of_ble_eq_true rfl) ⟨(show (35 + (5 * (k - 7))) = (stZ k) from (by unfold stZ; (repeat' split) <;> omega)), rfl⟩ dX7_startOf_85
  · refine x_tableIn (tgt := 86) hx hb 9 c1 (by omega) dX7_startOf_1 (by decide) (by decide) rfl (by decide) ?_
    refine x_bipush hx hb dX7_startOf_86 (by decide) ?_
    subst hQ
    exact x_iret hx hb hr hlocks hH (Nat.le_of_ble_eq_true rfl) (Nat.le_of_ble_eq_true rfl) ⟨(show 45 = (stZ k) from (by unfold stZ; (repeat' split) <;> omega)), rfl⟩ dX7_startOf_88
  · refine x_tableIn (tgt := 89) hx hb 10 c1 (by omega) dX7_startOf_1 (by decide) (by decide) rfl (by decide) ?_
    refine x_bipush hx hb dX7_startOf_89 (by decide) ?_
    subst hQ
    exact x_iret hx hb hr hlocks hH (Nat.le_of_ble_eq_true rfl) (Nat.le_of_ble_eq_true rfl) ⟨(show 51 = (stZ k) from (by unfold stZ; (repeat' split) <;> omega)), rfl⟩ dX7_startOf_91
  · refine x_tableOut (tgt := 92) hx hb (by omega) dX7_startOf_1 c1 (by decide) ?_
    refine x_bipush hx hb dX7_startOf_92 (by decide) ?_
    subst hQ
    exact x_iret hx hb hr hlocks hH (Nat.le_of_ble_eq_true rfl) (Nat.le_of_ble_eq_true rfl) ⟨(show 56 = (stZ k) from (by unfold stZ; (repeat' split) <;> omega)), rfl⟩ dX7_startOf_94

def rm_X7_kindHere : Room := { frames := 4, cells := 0, slots := 0, locals := 85 }
set_option maxRecDepth 100000 in
set_option maxHeartbeats 4000000 in
theorem c_X7_kindHere (l : Launch) (E : xE) (ST : xST) (hSF : SF ST) (Z : zE) (hSQ : SQ Z ST) (σ : xW) (sv : Bool) (re : Int) (ea : Int) (fa : Int) (ty : Int) (li : Int) (th : Int) (sz : Int) (sp : Int) (wr : Int) (to : Int) (tx : Int → Int) (hr0 : mo E σ sv re ea fa ty li th sz sp wr to) (hr1 : txt E σ tx) (hsp : 0 ≤ sp ∧ sp ≤ sz) (hsz : sz ≤ 60) (htx : ∀ j, 0 ≤ tx j ∧ tx j ≤ 65535) (hwr : rg wr) : CI l E ST yX7_kindHere wsX7_kindHere rm_X7_kindHere [.ref (xad E 85)] σ (fun (z : Int) (u : xW) => (-1 ≤ z ∧ z ≤ 10) ∧ (∃ (sp1 wr1 : Int), mo E u sv re ea fa ty li th sz sp1 wr1 to ∧ (khP tx sz sp wr z sp1 wr1)) ∧ ∀ j : Nat, j ≠ 85 → u j = σ j) := by
  have f85 : σ 85 = oB 5 [.ref (xad E 86), .ref (xad E 87), .ref (xad E 88), .ref (xad E 89), .ref (xad E 90), .int (iZ (b2 sv)), .int (iZ re), .int (iZ ea), .int (iZ fa), .ref (xad E 91), .ref (xad E 92), .ref (xad E 93), .int (iZ ty), .ref (xad E 94), .int (iZ li), .int (iZ th), .int (iZ sz), .int (iZ sp), .int (iZ wr), .int (iZ to), .ref (xad E 95)] := hr0
  have f93 : σ 93 = aI E 60 tx := hr1
  refine CI_of (by decide) rfl (Nat.le_of_ble_eq_true rfl) ?_
  intro p e s m args below meth c Q ls G hH hl hQ
  obtain ⟨hx, hb, hml, hown, hts, hK, hST, hlocks, hr, hno⟩ := G
  have hOK := hSF.1
  have hown : s.vm.findClass RX7 = some m.cls := hown
  have hl : lv_has ls 6 [(0, .ref (xad E 85))] := hl
  have hinX7 : ∀ w ∈ u_ws RX7 TX7 21, w ∈ wsX7_kindHere := fun w h => (List.mem_cons_of_mem _ (List.mem_append_right _ h))
  have hs11 : slZ 11 = 56 := rfl
  refine lv_aload_n hx hb dX7_kindHere_0 rfl (lv_at hl 0 rfl) ?_
  refine x_get hx hb hts hown hK hH 85 (by decide) f85 hinX7 rfl 17 (by decide) (List.mem_of_getElem? (i := 1) rfl) rfl dX7_kindHere_1 ?_
  refine lv_istore_n (lv' := [(1, .int (iZ sp)), (0, .ref (xad E 85))]) hx hb dX7_kindHere_4 rfl hl (by decide) rfl (fun ls hl => ?_)
  refine x_iconst hx hb dX7_kindHere_5 ?_
  refine lv_istore_n (lv' := [(2, .int (iZ (-1))), (1, .int (iZ sp)), (0, .ref (xad E 85))]) hx hb dX7_kindHere_6 rfl hl (by decide) rfl (fun ls hl => ?_)
  refine x_iconst hx hb dX7_kindHere_7 ?_
  refine lv_istore_n (lv' := [(3, .int (iZ 0)), (2, .int (iZ (-1))), (1, .int (iZ sp)), (0, .ref (xad E 85))]) hx hb dX7_kindHere_8 rfl hl (by decide) rfl (fun ls hl => ?_)
  have K9 : ∀ (nK : Nat) (fr9 on w : Int) (H : Heap) (locs : List Loc) (ls : Array Slot), (11 - w).toNat < nK → ((0 ≤ w ∧ w ≤ 11) ∧ (-1 ≤ on ∧ on ≤ 10) ∧ (sp ≤ fr9 ∧ fr9 ≤ sz)) → (on = -1 → (∀ i : Int, 0 ≤ i → i < w → pfZ tx sz sp i < wlZ i) ∧ fr9 = fmZ tx sz sp w) → (¬ on = -1 → pfZ tx sz sp on = wlZ on) → Hx E (xA E s.heap.size) s.heap σ H locs → lv_has ls 6 [(3, .int (iZ w)), (2, .int (iZ on)), (1, .int (iZ fr9)), (0, .ref (xad E 85))] → W p l e rm_X7_kindHere s m args below meth c H locs 0 0 Q (F0 m 9 ls []) := by
    intro n9
    induction n9 with
    | zero =>
      intro fr9 on w H locs ls hm
      exact absurd hm (by first | exact Nat.not_lt_zero _ | omega)
    | succ n9 ih9 =>
      intro fr9 on w H locs ls hm9 hi hno hye  hH hl
      refine lv_iload_n hx hb dX7_kindHere_9 rfl (lv_at hl 0 rfl) ?_
      refine x_bipush hx hb dX7_kindHere_10 (by decide) ?_
      refine x_icmp_ge (tgt := 122) hx hb dX7_kindHere_12 (by decide) (by omega) (by decide) (fun c12 => ?_) (fun c12 => ?_)
      · refine lv_aload_n hx hb dX7_kindHere_122 rfl (lv_at hl 3 rfl) ?_
        refine lv_iload_n hx hb dX7_kindHere_123 rfl (lv_at hl 1 rfl) ?_
        refine x_iconst hx hb dX7_kindHere_124 ?_
        refine x_icmp_ne (tgt := 132) hx hb dX7_kindHere_125 (by decide) (by omega) (by decide) (fun c125 => ?_) (fun c125 => ?_)
        · refine lv_aload_n hx hb dX7_kindHere_132 rfl (lv_at hl 3 rfl) ?_
          refine x_get hx hb hts hown hK hH 85 (by decide) f85 hinX7 rfl 18 (by decide) (List.mem_of_getElem? (i := 8) rfl) rfl dX7_kindHere_133 ?_
          refine x_put (fs' := [.ref (xad E 86), .ref (xad E 87), .ref (xad E 88), .ref (xad E 89), .ref (xad E 90), .int (iZ (b2 sv)), .int (iZ re), .int (iZ ea), .int (iZ fa), .ref (xad E 91), .ref (xad E 92), .ref (xad E 93), .int (iZ ty), .ref (xad E 94), .int (iZ li), .int (iZ th), .int (iZ sz), .int (iZ sp), .int (iZ wr), .int (iZ to), .ref (xad E 95)]) hx hb hts hown hK hH 85 (by decide) f85 hinX7 rfl tyX7 tyX7_ok nmX7 18 (by decide) (List.mem_of_getElem? (i := 8) rfl) rfl (ty := .int) (by decide +kernel) rfl rfl (Nat.le_of_ble_eq_true rfl) rfl dX7_kindHere_136 (fun σ2 H locs f85 fr3 hH => ?_)
          have f93 : σ2 93 = aI E 60 tx := (fr3 93 (by omega)).trans f93
          refine lv_aload_n hx hb dX7_kindHere_139 rfl (lv_at hl 3 rfl) ?_
          refine lv_dup hx hb dX7_kindHere_140 rfl ?_
          refine x_get hx hb hts hown hK hH 85 (by decide) f85 hinX7 rfl 17 (by decide) (List.mem_of_getElem? (i := 1) rfl) rfl dX7_kindHere_141 ?_
          refine lv_iload_n hx hb dX7_kindHere_144 rfl (lv_at hl 1 rfl) ?_
          refine x_iconst hx hb dX7_kindHere_145 ?_
          refine x_icmp_ne (tgt := 153) hx hb dX7_kindHere_146 (by decide) (by omega) (by decide) (fun c146 => ?_) (fun c146 => ?_)
          · have hwb9 := wl_b (i := on) (by omega) (by omega)
            have hwl9 : wlZ on = stZ (on + 1) - stZ on := rfl
            refine lv_iload_n hx hb dX7_kindHere_153 rfl (lv_at hl 1 rfl) ?_
            refine x_iconst hx hb dX7_kindHere_154 ?_
            refine x_iadd hx hb dX7_kindHere_155 ?_
            refine x_cSID (As := [.int (iZ (on + 1))]) (rest := [.int (iZ sp), .ref (xad E 85)]) hx hb hml hts hown hK hST hOK hH (c_X7_startOf l E ST hSF σ2 (on + 1)  (by omega)) (va_cwS 1 hts gX7_kindHere_X7_startOf rfl rfl rfl (by decide +kernel) ⟨Nat.le_of_ble_eq_true rfl, Nat.le_of_ble_eq_true rfl⟩) rfl hl.1 rfl (Nat.le_of_ble_eq_true rfl) dX7_kindHere_156 ⟨Nat.le_of_ble_eq_true rfl, Nat.le_of_ble_eq_true rfl⟩ (fun z u h => h) (fun H locs hH => ?_)
            refine lv_iload_n hx hb dX7_kindHere_159 rfl (lv_at hl 1 rfl) ?_
            refine x_cSID (As := [.int (iZ on)]) (rest := [.int (iZ (stZ (on + 1))), .int (iZ sp), .ref (xad E 85)]) hx hb hml hts hown hK hST hOK hH (c_X7_startOf l E ST hSF σ2 on  (by omega)) (va_cwS 1 hts gX7_kindHere_X7_startOf rfl rfl rfl (by decide +kernel) ⟨Nat.le_of_ble_eq_true rfl, Nat.le_of_ble_eq_true rfl⟩) rfl hl.1 rfl (Nat.le_of_ble_eq_true rfl) dX7_kindHere_160 ⟨Nat.le_of_ble_eq_true rfl, Nat.le_of_ble_eq_true rfl⟩ (fun z u h => h) (fun H locs hH => ?_)
            refine x_isub hx hb dX7_kindHere_163 ?_
            refine x_iadd hx hb dX7_kindHere_164 ?_
            refine x_put (fs' := [.ref (xad E 86), .ref (xad E 87), .ref (xad E 88), .ref (xad E 89), .ref (xad E 90), .int (iZ (b2 sv)), .int (iZ re), .int (iZ ea), .int (iZ fa), .ref (xad E 91), .ref (xad E 92), .ref (xad E 93), .int (iZ ty), .ref (xad E 94), .int (iZ li), .int (iZ th), .int (iZ sz), .int (iZ (sp + ((stZ (on + 1)) - (stZ on)))), .int (iZ wr), .int (iZ to), .ref (xad E 95)]) hx hb hts hown hK hH 85 (by decide) f85 hinX7 rfl tyX7 tyX7_ok nmX7 17 (by decide) (List.mem_of_getElem? (i := 1) rfl) rfl (ty := .int) (by decide +kernel) rfl rfl (Nat.le_of_ble_eq_true rfl) rfl dX7_kindHere_165 (fun σ10 H locs f85 fr11 hH => ?_)
            have f93 : σ10 93 = aI E 60 tx := (fr11 93 (by omega)).trans f93
            refine lv_iload_n hx hb dX7_kindHere_168 rfl (lv_at hl 1 rfl) ?_
            subst hQ
            exact x_iret hx hb hr hlocks hH (Nat.le_of_ble_eq_true rfl) (Nat.le_of_ble_eq_true rfl) ⟨(by omega), ⟨(sp + ((stZ (on + 1)) - (stZ on))), wr, f85, (by first | exact Or.inl ⟨by omega, fun i h0 h1 => (hno (by omega)).1 i h0 (by omega), by rw [(hno (by omega)).2, show w = 11 by omega], by omega⟩ | exact Or.inr ⟨by omega, hye (by omega), rfl, by omega⟩ | (exfalso; omega))⟩, fun j hj0 => ((fr11 j (by omega)).trans (fr3 j (by omega)))⟩ dX7_kindHere_169
          · refine x_iconst hx hb dX7_kindHere_149 ?_
            refine lv_goto (tgt := 164) hx hb dX7_kindHere_150 (by decide) ?_
            refine x_iadd hx hb dX7_kindHere_164 ?_
            refine x_put (fs' := [.ref (xad E 86), .ref (xad E 87), .ref (xad E 88), .ref (xad E 89), .ref (xad E 90), .int (iZ (b2 sv)), .int (iZ re), .int (iZ ea), .int (iZ fa), .ref (xad E 91), .ref (xad E 92), .ref (xad E 93), .int (iZ ty), .ref (xad E 94), .int (iZ li), .int (iZ th), .int (iZ sz), .int (iZ (sp + 0)), .int (iZ wr), .int (iZ to), .ref (xad E 95)]) hx hb hts hown hK hH 85 (by decide) f85 hinX7 rfl tyX7 tyX7_ok nmX7 17 (by decide) (List.mem_of_getElem? (i := 1) rfl) rfl (ty := .int) (by decide +kernel) rfl rfl (Nat.le_of_ble_eq_true rfl) rfl dX7_kindHere_165 (fun σ12 H locs f85 fr13 hH => ?_)
            have f93 : σ12 93 = aI E 60 tx := (fr13 93 (by omega)).trans f93
            refine lv_iload_n hx hb dX7_kindHere_168 rfl (lv_at hl 1 rfl) ?_
            subst hQ
            exact x_iret hx hb hr hlocks hH (Nat.le_of_ble_eq_true rfl) (Nat.le_of_ble_eq_true rfl) ⟨(by omega), ⟨(sp + 0), wr, f85, (by first | exact Or.inl ⟨by omega, fun i h0 h1 => (hno (by omega)).1 i h0 (by omega), by rw [(hno (by omega)).2, show w = 11 by omega], by omega⟩ | exact Or.inr ⟨by omega, hye (by omega), rfl, by omega⟩ | (exfalso; omega))⟩, fun j hj0 => ((fr13 j (by omega)).trans (fr3 j (by omega)))⟩ dX7_kindHere_169
        · refine lv_iload_n hx hb dX7_kindHere_128 rfl (lv_at hl 2 rfl) ?_
          refine lv_goto (tgt := 136) hx hb dX7_kindHere_129 (by decide) ?_
          refine x_put (fs' := [.ref (xad E 86), .ref (xad E 87), .ref (xad E 88), .ref (xad E 89), .ref (xad E 90), .int (iZ (b2 sv)), .int (iZ re), .int (iZ ea), .int (iZ fa), .ref (xad E 91), .ref (xad E 92), .ref (xad E 93), .int (iZ ty), .ref (xad E 94), .int (iZ li), .int (iZ th), .int (iZ sz), .int (iZ sp), .int (iZ fr9), .int (iZ to), .ref (xad E 95)]) hx hb hts hown hK hH 85 (by decide) f85 hinX7 rfl tyX7 tyX7_ok nmX7 18 (by decide) (List.mem_of_getElem? (i := 8) rfl) rfl (ty := .int) (by decide +kernel) rfl rfl (Nat.le_of_ble_eq_true rfl) rfl dX7_kindHere_136 (fun σ14 H locs f85 fr15 hH => ?_)
          have f93 : σ14 93 = aI E 60 tx := (fr15 93 (by omega)).trans f93
          refine lv_aload_n hx hb dX7_kindHere_139 rfl (lv_at hl 3 rfl) ?_
          refine lv_dup hx hb dX7_kindHere_140 rfl ?_
          refine x_get hx hb hts hown hK hH 85 (by decide) f85 hinX7 rfl 17 (by decide) (List.mem_of_getElem? (i := 1) rfl) rfl dX7_kindHere_141 ?_
          refine lv_iload_n hx hb dX7_kindHere_144 rfl (lv_at hl 1 rfl) ?_
          refine x_iconst hx hb dX7_kindHere_145 ?_
          refine x_icmp_ne (tgt := 153) hx hb dX7_kindHere_146 (by decide) (by omega) (by decide) (fun c146 => ?_) (fun c146 => ?_)
          · have hwb9 := wl_b (i := on) (by omega) (by omega)
            have hwl9 : wlZ on = stZ (on + 1) - stZ on := rfl
            refine lv_iload_n hx hb dX7_kindHere_153 rfl (lv_at hl 1 rfl) ?_
            refine x_iconst hx hb dX7_kindHere_154 ?_
            refine x_iadd hx hb dX7_kindHere_155 ?_
            refine x_cSID (As := [.int (iZ (on + 1))]) (rest := [.int (iZ sp), .ref (xad E 85)]) hx hb hml hts hown hK hST hOK hH (c_X7_startOf l E ST hSF σ14 (on + 1)  (by omega)) (va_cwS 1 hts gX7_kindHere_X7_startOf rfl rfl rfl (by decide +kernel) ⟨Nat.le_of_ble_eq_true rfl, Nat.le_of_ble_eq_true rfl⟩) rfl hl.1 rfl (Nat.le_of_ble_eq_true rfl) dX7_kindHere_156 ⟨Nat.le_of_ble_eq_true rfl, Nat.le_of_ble_eq_true rfl⟩ (fun z u h => h) (fun H locs hH => ?_)
            refine lv_iload_n hx hb dX7_kindHere_159 rfl (lv_at hl 1 rfl) ?_
            refine x_cSID (As := [.int (iZ on)]) (rest := [.int (iZ (stZ (on + 1))), .int (iZ sp), .ref (xad E 85)]) hx hb hml hts hown hK hST hOK hH (c_X7_startOf l E ST hSF σ14 on  (by omega)) (va_cwS 1 hts gX7_kindHere_X7_startOf rfl rfl rfl (by decide +kernel) ⟨Nat.le_of_ble_eq_true rfl, Nat.le_of_ble_eq_true rfl⟩) rfl hl.1 rfl (Nat.le_of_ble_eq_true rfl) dX7_kindHere_160 ⟨Nat.le_of_ble_eq_true rfl, Nat.le_of_ble_eq_true rfl⟩ (fun z u h => h) (fun H locs hH => ?_)
            refine x_isub hx hb dX7_kindHere_163 ?_
            refine x_iadd hx hb dX7_kindHere_164 ?_
            refine x_put (fs' := [.ref (xad E 86), .ref (xad E 87), .ref (xad E 88), .ref (xad E 89), .ref (xad E 90), .int (iZ (b2 sv)), .int (iZ re), .int (iZ ea), .int (iZ fa), .ref (xad E 91), .ref (xad E 92), .ref (xad E 93), .int (iZ ty), .ref (xad E 94), .int (iZ li), .int (iZ th), .int (iZ sz), .int (iZ (sp + ((stZ (on + 1)) - (stZ on)))), .int (iZ fr9), .int (iZ to), .ref (xad E 95)]) hx hb hts hown hK hH 85 (by decide) f85 hinX7 rfl tyX7 tyX7_ok nmX7 17 (by decide) (List.mem_of_getElem? (i := 1) rfl) rfl (ty := .int) (by decide +kernel) rfl rfl (Nat.le_of_ble_eq_true rfl) rfl dX7_kindHere_165 (fun σ22 H locs f85 fr23 hH => ?_)
            have f93 : σ22 93 = aI E 60 tx := (fr23 93 (by omega)).trans f93
            refine lv_iload_n hx hb dX7_kindHere_168 rfl (lv_at hl 1 rfl) ?_
            subst hQ
            exact x_iret hx hb hr hlocks hH (Nat.le_of_ble_eq_true rfl) (Nat.le_of_ble_eq_true rfl) ⟨(by omega), ⟨(sp + ((stZ (on + 1)) - (stZ on))), fr9, f85, (by first | exact Or.inl ⟨by omega, fun i h0 h1 => (hno (by omega)).1 i h0 (by omega), by rw [(hno (by omega)).2, show w = 11 by omega], by omega⟩ | exact Or.inr ⟨by omega, hye (by omega), rfl, by omega⟩ | (exfalso; omega))⟩, fun j hj0 => ((fr23 j (by omega)).trans (fr15 j (by omega)))⟩ dX7_kindHere_169
          · refine x_iconst hx hb dX7_kindHere_149 ?_
            refine lv_goto (tgt := 164) hx hb dX7_kindHere_150 (by decide) ?_
            refine x_iadd hx hb dX7_kindHere_164 ?_
            refine x_put (fs' := [.ref (xad E 86), .ref (xad E 87), .ref (xad E 88), .ref (xad E 89), .ref (xad E 90), .int (iZ (b2 sv)), .int (iZ re), .int (iZ ea), .int (iZ fa), .ref (xad E 91), .ref (xad E 92), .ref (xad E 93), .int (iZ ty), .ref (xad E 94), .int (iZ li), .int (iZ th), .int (iZ sz), .int (iZ (sp + 0)), .int (iZ fr9), .int (iZ to), .ref (xad E 95)]) hx hb hts hown hK hH 85 (by decide) f85 hinX7 rfl tyX7 tyX7_ok nmX7 17 (by decide) (List.mem_of_getElem? (i := 1) rfl) rfl (ty := .int) (by decide +kernel) rfl rfl (Nat.le_of_ble_eq_true rfl) rfl dX7_kindHere_165 (fun σ24 H locs f85 fr25 hH => ?_)
            have f93 : σ24 93 = aI E 60 tx := (fr25 93 (by omega)).trans f93
            refine lv_iload_n hx hb dX7_kindHere_168 rfl (lv_at hl 1 rfl) ?_
            subst hQ
            exact x_iret hx hb hr hlocks hH (Nat.le_of_ble_eq_true rfl) (Nat.le_of_ble_eq_true rfl) ⟨(by omega), ⟨(sp + 0), fr9, f85, (by first | exact Or.inl ⟨by omega, fun i h0 h1 => (hno (by omega)).1 i h0 (by omega), by rw [(hno (by omega)).2, show w = 11 by omega], by omega⟩ | exact Or.inr ⟨by omega, hye (by omega), rfl, by omega⟩ | (exfalso; omega))⟩, fun j hj0 => ((fr25 j (by omega)).trans (fr15 j (by omega)))⟩ dX7_kindHere_169
      · refine lv_iload_n hx hb dX7_kindHere_15 rfl (lv_at hl 1 rfl) ?_
        refine x_iconst hx hb dX7_kindHere_16 ?_
        refine x_icmp_ne (tgt := 122) hx hb dX7_kindHere_17 (by decide) (by omega) (by decide) (fun c17 => ?_) (fun c17 => ?_)
        · refine lv_aload_n hx hb dX7_kindHere_122 rfl (lv_at hl 3 rfl) ?_
          refine lv_iload_n hx hb dX7_kindHere_123 rfl (lv_at hl 1 rfl) ?_
          refine x_iconst hx hb dX7_kindHere_124 ?_
          refine x_icmp_ne (tgt := 132) hx hb dX7_kindHere_125 (by decide) (by omega) (by decide) (fun c125 => ?_) (fun c125 => ?_)
          · refine lv_aload_n hx hb dX7_kindHere_132 rfl (lv_at hl 3 rfl) ?_
            refine x_get hx hb hts hown hK hH 85 (by decide) f85 hinX7 rfl 18 (by decide) (List.mem_of_getElem? (i := 8) rfl) rfl dX7_kindHere_133 ?_
            refine x_put (fs' := [.ref (xad E 86), .ref (xad E 87), .ref (xad E 88), .ref (xad E 89), .ref (xad E 90), .int (iZ (b2 sv)), .int (iZ re), .int (iZ ea), .int (iZ fa), .ref (xad E 91), .ref (xad E 92), .ref (xad E 93), .int (iZ ty), .ref (xad E 94), .int (iZ li), .int (iZ th), .int (iZ sz), .int (iZ sp), .int (iZ wr), .int (iZ to), .ref (xad E 95)]) hx hb hts hown hK hH 85 (by decide) f85 hinX7 rfl tyX7 tyX7_ok nmX7 18 (by decide) (List.mem_of_getElem? (i := 8) rfl) rfl (ty := .int) (by decide +kernel) rfl rfl (Nat.le_of_ble_eq_true rfl) rfl dX7_kindHere_136 (fun σ26 H locs f85 fr27 hH => ?_)
            have f93 : σ26 93 = aI E 60 tx := (fr27 93 (by omega)).trans f93
            refine lv_aload_n hx hb dX7_kindHere_139 rfl (lv_at hl 3 rfl) ?_
            refine lv_dup hx hb dX7_kindHere_140 rfl ?_
            refine x_get hx hb hts hown hK hH 85 (by decide) f85 hinX7 rfl 17 (by decide) (List.mem_of_getElem? (i := 1) rfl) rfl dX7_kindHere_141 ?_
            refine lv_iload_n hx hb dX7_kindHere_144 rfl (lv_at hl 1 rfl) ?_
            refine x_iconst hx hb dX7_kindHere_145 ?_
            refine x_icmp_ne (tgt := 153) hx hb dX7_kindHere_146 (by decide) (by omega) (by decide) (fun c146 => ?_) (fun c146 => ?_)
            · have hwb9 := wl_b (i := on) (by omega) (by omega)
              have hwl9 : wlZ on = stZ (on + 1) - stZ on := rfl
              refine lv_iload_n hx hb dX7_kindHere_153 rfl (lv_at hl 1 rfl) ?_
              refine x_iconst hx hb dX7_kindHere_154 ?_
              refine x_iadd hx hb dX7_kindHere_155 ?_
              refine x_cSID (As := [.int (iZ (on + 1))]) (rest := [.int (iZ sp), .ref (xad E 85)]) hx hb hml hts hown hK hST hOK hH (c_X7_startOf l E ST hSF σ26 (on + 1)  (by omega)) (va_cwS 1 hts gX7_kindHere_X7_startOf rfl rfl rfl (by decide +kernel) ⟨Nat.le_of_ble_eq_true rfl, Nat.le_of_ble_eq_true rfl⟩) rfl hl.1 rfl (Nat.le_of_ble_eq_true rfl) dX7_kindHere_156 ⟨Nat.le_of_ble_eq_true rfl, Nat.le_of_ble_eq_true rfl⟩ (fun z u h => h) (fun H locs hH => ?_)
              refine lv_iload_n hx hb dX7_kindHere_159 rfl (lv_at hl 1 rfl) ?_
              refine x_cSID (As := [.int (iZ on)]) (rest := [.int (iZ (stZ (on + 1))), .int (iZ sp), .ref (xad E 85)]) hx hb hml hts hown hK hST hOK hH (c_X7_startOf l E ST hSF σ26 on  (by omega)) (va_cwS 1 hts gX7_kindHere_X7_startOf rfl rfl rfl (by decide +kernel) ⟨Nat.le_of_ble_eq_true rfl, Nat.le_of_ble_eq_true rfl⟩) rfl hl.1 rfl (Nat.le_of_ble_eq_true rfl) dX7_kindHere_160 ⟨Nat.le_of_ble_eq_true rfl, Nat.le_of_ble_eq_true rfl⟩ (fun z u h => h) (fun H locs hH => ?_)
              refine x_isub hx hb dX7_kindHere_163 ?_
              refine x_iadd hx hb dX7_kindHere_164 ?_
              refine x_put (fs' := [.ref (xad E 86), .ref (xad E 87), .ref (xad E 88), .ref (xad E 89), .ref (xad E 90), .int (iZ (b2 sv)), .int (iZ re), .int (iZ ea), .int (iZ fa), .ref (xad E 91), .ref (xad E 92), .ref (xad E 93), .int (iZ ty), .ref (xad E 94), .int (iZ li), .int (iZ th), .int (iZ sz), .int (iZ (sp + ((stZ (on + 1)) - (stZ on)))), .int (iZ wr), .int (iZ to), .ref (xad E 95)]) hx hb hts hown hK hH 85 (by decide) f85 hinX7 rfl tyX7 tyX7_ok nmX7 17 (by decide) (List.mem_of_getElem? (i := 1) rfl) rfl (ty := .int) (by decide +kernel) rfl rfl (Nat.le_of_ble_eq_true rfl) rfl dX7_kindHere_165 (fun σ34 H locs f85 fr35 hH => ?_)
              have f93 : σ34 93 = aI E 60 tx := (fr35 93 (by omega)).trans f93
              refine lv_iload_n hx hb dX7_kindHere_168 rfl (lv_at hl 1 rfl) ?_
              subst hQ
              exact x_iret hx hb hr hlocks hH (Nat.le_of_ble_eq_true rfl) (Nat.le_of_ble_eq_true rfl) ⟨(by omega), ⟨(sp + ((stZ (on + 1)) - (stZ on))), wr, f85, (by first | exact Or.inl ⟨by omega, fun i h0 h1 => (hno (by omega)).1 i h0 (by omega), by rw [(hno (by omega)).2, show w = 11 by omega], by omega⟩ | exact Or.inr ⟨by omega, hye (by omega), rfl, by omega⟩ | (exfalso; omega))⟩, fun j hj0 => ((fr35 j (by omega)).trans (fr27 j (by omega)))⟩ dX7_kindHere_169
            · refine x_iconst hx hb dX7_kindHere_149 ?_
              refine lv_goto (tgt := 164) hx hb dX7_kindHere_150 (by decide) ?_
              refine x_iadd hx hb dX7_kindHere_164 ?_
              refine x_put (fs' := [.ref (xad E 86), .ref (xad E 87), .ref (xad E 88), .ref (xad E 89), .ref (xad E 90), .int (iZ (b2 sv)), .int (iZ re), .int (iZ ea), .int (iZ fa), .ref (xad E 91), .ref (xad E 92), .ref (xad E 93), .int (iZ ty), .ref (xad E 94), .int (iZ li), .int (iZ th), .int (iZ sz), .int (iZ (sp + 0)), .int (iZ wr), .int (iZ to), .ref (xad E 95)]) hx hb hts hown hK hH 85 (by decide) f85 hinX7 rfl tyX7 tyX7_ok nmX7 17 (by decide) (List.mem_of_getElem? (i := 1) rfl) rfl (ty := .int) (by decide +kernel) rfl rfl (Nat.le_of_ble_eq_true rfl) rfl dX7_kindHere_165 (fun σ36 H locs f85 fr37 hH => ?_)
              have f93 : σ36 93 = aI E 60 tx := (fr37 93 (by omega)).trans f93
              refine lv_iload_n hx hb dX7_kindHere_168 rfl (lv_at hl 1 rfl) ?_
              subst hQ
              exact x_iret hx hb hr hlocks hH (Nat.le_of_ble_eq_true rfl) (Nat.le_of_ble_eq_true rfl) ⟨(by omega), ⟨(sp + 0), wr, f85, (by first | exact Or.inl ⟨by omega, fun i h0 h1 => (hno (by omega)).1 i h0 (by omega), by rw [(hno (by omega)).2, show w = 11 by omega], by omega⟩ | exact Or.inr ⟨by omega, hye (by omega), rfl, by omega⟩ | (exfalso; omega))⟩, fun j hj0 => ((fr37 j (by omega)).trans (fr27 j (by omega)))⟩ dX7_kindHere_169
          · refine lv_iload_n hx hb dX7_kindHere_128 rfl (lv_at hl 2 rfl) ?_
            refine lv_goto (tgt := 136) hx hb dX7_kindHere_129 (by decide) ?_
            refine x_put (fs' := [.ref (xad E 86), .ref (xad E 87), .ref (xad E 88), .ref (xad E 89), .ref (xad E 90), .int (iZ (b2 sv)), .int (iZ re), .int (iZ ea), .int (iZ fa), .ref (xad E 91), .ref (xad E 92), .ref (xad E 93), .int (iZ ty), .ref (xad E 94), .int (iZ li), .int (iZ th), .int (iZ sz), .int (iZ sp), .int (iZ fr9), .int (iZ to), .ref (xad E 95)]) hx hb hts hown hK hH 85 (by decide) f85 hinX7 rfl tyX7 tyX7_ok nmX7 18 (by decide) (List.mem_of_getElem? (i := 8) rfl) rfl (ty := .int) (by decide +kernel) rfl rfl (Nat.le_of_ble_eq_true rfl) rfl dX7_kindHere_136 (fun σ38 H locs f85 fr39 hH => ?_)
            have f93 : σ38 93 = aI E 60 tx := (fr39 93 (by omega)).trans f93
            refine lv_aload_n hx hb dX7_kindHere_139 rfl (lv_at hl 3 rfl) ?_
            refine lv_dup hx hb dX7_kindHere_140 rfl ?_
            refine x_get hx hb hts hown hK hH 85 (by decide) f85 hinX7 rfl 17 (by decide) (List.mem_of_getElem? (i := 1) rfl) rfl dX7_kindHere_141 ?_
            refine lv_iload_n hx hb dX7_kindHere_144 rfl (lv_at hl 1 rfl) ?_
            refine x_iconst hx hb dX7_kindHere_145 ?_
            refine x_icmp_ne (tgt := 153) hx hb dX7_kindHere_146 (by decide) (by omega) (by decide) (fun c146 => ?_) (fun c146 => ?_)
            · have hwb9 := wl_b (i := on) (by omega) (by omega)
              have hwl9 : wlZ on = stZ (on + 1) - stZ on := rfl
              refine lv_iload_n hx hb dX7_kindHere_153 rfl (lv_at hl 1 rfl) ?_
              refine x_iconst hx hb dX7_kindHere_154 ?_
              refine x_iadd hx hb dX7_kindHere_155 ?_
              refine x_cSID (As := [.int (iZ (on + 1))]) (rest := [.int (iZ sp), .ref (xad E 85)]) hx hb hml hts hown hK hST hOK hH (c_X7_startOf l E ST hSF σ38 (on + 1)  (by omega)) (va_cwS 1 hts gX7_kindHere_X7_startOf rfl rfl rfl (by decide +kernel) ⟨Nat.le_of_ble_eq_true rfl, Nat.le_of_ble_eq_true rfl⟩) rfl hl.1 rfl (Nat.le_of_ble_eq_true rfl) dX7_kindHere_156 ⟨Nat.le_of_ble_eq_true rfl, Nat.le_of_ble_eq_true rfl⟩ (fun z u h => h) (fun H locs hH => ?_)
              refine lv_iload_n hx hb dX7_kindHere_159 rfl (lv_at hl 1 rfl) ?_
              refine x_cSID (As := [.int (iZ on)]) (rest := [.int (iZ (stZ (on + 1))), .int (iZ sp), .ref (xad E 85)]) hx hb hml hts hown hK hST hOK hH (c_X7_startOf l E ST hSF σ38 on  (by omega)) (va_cwS 1 hts gX7_kindHere_X7_startOf rfl rfl rfl (by decide +kernel) ⟨Nat.le_of_ble_eq_true rfl, Nat.le_of_ble_eq_true rfl⟩) rfl hl.1 rfl (Nat.le_of_ble_eq_true rfl) dX7_kindHere_160 ⟨Nat.le_of_ble_eq_true rfl, Nat.le_of_ble_eq_true rfl⟩ (fun z u h => h) (fun H locs hH => ?_)
              refine x_isub hx hb dX7_kindHere_163 ?_
              refine x_iadd hx hb dX7_kindHere_164 ?_
              refine x_put (fs' := [.ref (xad E 86), .ref (xad E 87), .ref (xad E 88), .ref (xad E 89), .ref (xad E 90), .int (iZ (b2 sv)), .int (iZ re), .int (iZ ea), .int (iZ fa), .ref (xad E 91), .ref (xad E 92), .ref (xad E 93), .int (iZ ty), .ref (xad E 94), .int (iZ li), .int (iZ th), .int (iZ sz), .int (iZ (sp + ((stZ (on + 1)) - (stZ on)))), .int (iZ fr9), .int (iZ to), .ref (xad E 95)]) hx hb hts hown hK hH 85 (by decide) f85 hinX7 rfl tyX7 tyX7_ok nmX7 17 (by decide) (List.mem_of_getElem? (i := 1) rfl) rfl (ty := .int) (by decide +kernel) rfl rfl (Nat.le_of_ble_eq_true rfl) rfl dX7_kindHere_165 (fun σ46 H locs f85 fr47 hH => ?_)
              have f93 : σ46 93 = aI E 60 tx := (fr47 93 (by omega)).trans f93
              refine lv_iload_n hx hb dX7_kindHere_168 rfl (lv_at hl 1 rfl) ?_
              subst hQ
              exact x_iret hx hb hr hlocks hH (Nat.le_of_ble_eq_true rfl) (Nat.le_of_ble_eq_true rfl) ⟨(by omega), ⟨(sp + ((stZ (on + 1)) - (stZ on))), fr9, f85, (by first | exact Or.inl ⟨by omega, fun i h0 h1 => (hno (by omega)).1 i h0 (by omega), by rw [(hno (by omega)).2, show w = 11 by omega], by omega⟩ | exact Or.inr ⟨by omega, hye (by omega), rfl, by omega⟩ | (exfalso; omega))⟩, fun j hj0 => ((fr47 j (by omega)).trans (fr39 j (by omega)))⟩ dX7_kindHere_169
            · refine x_iconst hx hb dX7_kindHere_149 ?_
              refine lv_goto (tgt := 164) hx hb dX7_kindHere_150 (by decide) ?_
              refine x_iadd hx hb dX7_kindHere_164 ?_
              refine x_put (fs' := [.ref (xad E 86), .ref (xad E 87), .ref (xad E 88), .ref (xad E 89), .ref (xad E 90), .int (iZ (b2 sv)), .int (iZ re), .int (iZ ea), .int (iZ fa), .ref (xad E 91), .ref (xad E 92), .ref (xad E 93), .int (iZ ty), .ref (xad E 94), .int (iZ li), .int (iZ th), .int (iZ sz), .int (iZ (sp + 0)), .int (iZ fr9), .int (iZ to), .ref (xad E 95)]) hx hb hts hown hK hH 85 (by decide) f85 hinX7 rfl tyX7 tyX7_ok nmX7 17 (by decide) (List.mem_of_getElem? (i := 1) rfl) rfl (ty := .int) (by decide +kernel) rfl rfl (Nat.le_of_ble_eq_true rfl) rfl dX7_kindHere_165 (fun σ48 H locs f85 fr49 hH => ?_)
              have f93 : σ48 93 = aI E 60 tx := (fr49 93 (by omega)).trans f93
              refine lv_iload_n hx hb dX7_kindHere_168 rfl (lv_at hl 1 rfl) ?_
              subst hQ
              exact x_iret hx hb hr hlocks hH (Nat.le_of_ble_eq_true rfl) (Nat.le_of_ble_eq_true rfl) ⟨(by omega), ⟨(sp + 0), fr9, f85, (by first | exact Or.inl ⟨by omega, fun i h0 h1 => (hno (by omega)).1 i h0 (by omega), by rw [(hno (by omega)).2, show w = 11 by omega], by omega⟩ | exact Or.inr ⟨by omega, hye (by omega), rfl, by omega⟩ | (exfalso; omega))⟩, fun j hj0 => ((fr49 j (by omega)).trans (fr39 j (by omega)))⟩ dX7_kindHere_169
        · have hwl : wlZ w = stZ (w + 1) - stZ w := rfl
          have hwb := wl_b (i := w) (by omega) (by omega)
          refine lv_iload_n hx hb dX7_kindHere_20 rfl (lv_at hl 0 rfl) ?_
          refine x_iconst hx hb dX7_kindHere_21 ?_
          refine x_iadd hx hb dX7_kindHere_22 ?_
          refine x_cSID (As := [.int (iZ (w + 1))]) (rest := []) hx hb hml hts hown hK hST hOK hH (c_X7_startOf l E ST hSF σ (w + 1)  (by omega)) (va_cwS 1 hts gX7_kindHere_X7_startOf rfl rfl rfl (by decide +kernel) ⟨Nat.le_of_ble_eq_true rfl, Nat.le_of_ble_eq_true rfl⟩) rfl hl.1 rfl (Nat.le_of_ble_eq_true rfl) dX7_kindHere_23 ⟨Nat.le_of_ble_eq_true rfl, Nat.le_of_ble_eq_true rfl⟩ (fun z u h => h) (fun H locs hH => ?_)
          refine lv_iload_n hx hb dX7_kindHere_26 rfl (lv_at hl 0 rfl) ?_
          refine x_cSID (As := [.int (iZ w)]) (rest := [.int (iZ (stZ (w + 1)))]) hx hb hml hts hown hK hST hOK hH (c_X7_startOf l E ST hSF σ w  (by omega)) (va_cwS 1 hts gX7_kindHere_X7_startOf rfl rfl rfl (by decide +kernel) ⟨Nat.le_of_ble_eq_true rfl, Nat.le_of_ble_eq_true rfl⟩) rfl hl.1 rfl (Nat.le_of_ble_eq_true rfl) dX7_kindHere_27 ⟨Nat.le_of_ble_eq_true rfl, Nat.le_of_ble_eq_true rfl⟩ (fun z u h => h) (fun H locs hH => ?_)
          refine x_isub hx hb dX7_kindHere_30 ?_
          refine lv_istore (lv' := [(4, .int (iZ ((stZ (w + 1)) - (stZ w)))), (3, .int (iZ w)), (2, .int (iZ on)), (1, .int (iZ fr9)), (0, .ref (xad E 85))]) hx hb dX7_kindHere_31 hl (by decide) rfl (fun ls hl => ?_)
          refine x_iconst hx hb dX7_kindHere_33 ?_
          refine lv_istore (lv' := [(5, .int (iZ 0)), (4, .int (iZ ((stZ (w + 1)) - (stZ w)))), (3, .int (iZ w)), (2, .int (iZ on)), (1, .int (iZ fr9)), (0, .ref (xad E 85))]) hx hb dX7_kindHere_34 hl (by decide) rfl (fun ls hl => ?_)
          have K36 : ∀ (nK : Nat) (k : Int) (H : Heap) (locs : List Loc) (ls : Array Slot), (wlZ w - k).toNat < nK → (0 ≤ k ∧ k ≤ wlZ w) → (∀ j : Nat, (j : Int) < k → sp + j < sz ∧ tx (sp + j) = (sWrd w).getD j 0) → Hx E (xA E s.heap.size) s.heap σ H locs → lv_has ls 6 [(5, .int (iZ k)), (4, .int (iZ ((stZ (w + 1)) - (stZ w)))), (3, .int (iZ w)), (2, .int (iZ on)), (1, .int (iZ fr9)), (0, .ref (xad E 85))] → W p l e rm_X7_kindHere s m args below meth c H locs 0 0 Q (F0 m 36 ls []) := by
            intro n36
            induction n36 with
            | zero =>
              intro k H locs ls hm
              exact absurd hm (by first | exact Nat.not_lt_zero _ | omega)
            | succ n36 ih36 =>
              intro k H locs ls hm36 hk hkj  hH hl
              refine lv_iload hx hb dX7_kindHere_36 (lv_at hl 0 rfl) ?_
              refine lv_iload hx hb dX7_kindHere_38 (lv_at hl 1 rfl) ?_
              refine x_icmp_ge (tgt := 91) hx hb dX7_kindHere_40 (by decide) (by omega) (by omega) (fun c40 => ?_) (fun c40 => ?_)
              · have hpf := pf_is (t := tx) (n := sz) (sp := sp) (w := w) ⟨by omega, by omega⟩ (k := k) (by omega) hkj (Or.inl (by omega))
                have hpb9 := pf_b (t := tx) (n := sz) (sp := sp) (i := w) (by omega) (by omega) hsp.2
                refine lv_iload_n hx hb dX7_kindHere_91 rfl (lv_at hl 4 rfl) ?_
                refine lv_aload_n hx hb dX7_kindHere_92 rfl (lv_at hl 5 rfl) ?_
                refine x_get hx hb hts hown hK hH 85 (by decide) f85 hinX7 rfl 17 (by decide) (List.mem_of_getElem? (i := 1) rfl) rfl dX7_kindHere_93 ?_
                refine lv_iload hx hb dX7_kindHere_96 (lv_at hl 0 rfl) ?_
                refine x_iadd hx hb dX7_kindHere_98 ?_
                refine x_max hx hb hml hown hts (List.mem_of_getElem? (i := 4) rfl) (List.mem_of_getElem? (i := 5) rfl) (List.mem_of_getElem? (i := 6) rfl) (List.mem_of_getElem? (i := 7) rfl) hl.1 (Nat.le_of_ble_eq_true rfl) (Nat.le_of_ble_eq_true rfl) (Nat.le_of_ble_eq_true rfl) (Nat.le_of_ble_eq_true rfl) (by omega) (by omega) dX7_kindHere_99 ?_
                refine lv_istore_n (lv' := [(1, .int (iZ (if fr9 < (sp + k) then (sp + k) else fr9))), (5, .int (iZ k)), (4, .int (iZ ((stZ (w + 1)) - (stZ w)))), (3, .int (iZ w)), (2, .int (iZ on)), (0, .ref (xad E 85))]) hx hb dX7_kindHere_102 rfl hl (by decide) rfl (fun ls hl => ?_)
                refine lv_iload hx hb dX7_kindHere_103 (lv_at hl 1 rfl) ?_
                refine lv_iload hx hb dX7_kindHere_105 (lv_at hl 2 rfl) ?_
                refine x_icmp_ne (tgt := 114) hx hb dX7_kindHere_107 (by decide) (by omega) (by omega) (fun c107 => ?_) (fun c107 => ?_)
                · refine lv_iload_n hx hb dX7_kindHere_114 rfl (lv_at hl 4 rfl) ?_
                  refine lv_istore_n (lv' := [(2, .int (iZ on)), (1, .int (iZ (if fr9 < (sp + k) then (sp + k) else fr9))), (5, .int (iZ k)), (4, .int (iZ ((stZ (w + 1)) - (stZ w)))), (3, .int (iZ w)), (0, .ref (xad E 85))]) hx hb dX7_kindHere_115 rfl hl (by decide) rfl (fun ls hl => ?_)
                  refine x_iinc (lv' := [(3, .int (iZ (w + 1))), (2, .int (iZ on)), (1, .int (iZ (if fr9 < (sp + k) then (sp + k) else fr9))), (5, .int (iZ k)), (4, .int (iZ ((stZ (w + 1)) - (stZ w)))), (0, .ref (xad E 85))]) hx hb dX7_kindHere_116 hl (k := 4) rfl (by decide) rfl (fun ls hl => ?_)
                  refine lv_goto (tgt := 9) hx hb dX7_kindHere_119 (by decide) ?_
                  exact ih9 (if fr9 < (sp + k) then (sp + k) else fr9) on (w + 1) _ _ _ (by omega) (by refine ⟨by omega, by omega, ?_⟩; split <;> omega) (by intro h; first | omega | (have h9 := hno (by omega); refine ⟨fun i h0 h1 => ?_, by rw [fmZ_s (by omega), hpf, h9.2]⟩; by_cases e : i = w; (rw [e]; omega); (exact h9.1 i h0 (by omega)))) (by intro h; first | (rw [hpf]; omega) | exact absurd h (by omega))  hH (lv_sub hl [0, 1, 2, 5] rfl)
                · refine lv_iload_n hx hb dX7_kindHere_110 rfl (lv_at hl 3 rfl) ?_
                  refine lv_goto (tgt := 115) hx hb dX7_kindHere_111 (by decide) ?_
                  refine lv_istore_n (lv' := [(2, .int (iZ w)), (1, .int (iZ (if fr9 < (sp + k) then (sp + k) else fr9))), (5, .int (iZ k)), (4, .int (iZ ((stZ (w + 1)) - (stZ w)))), (3, .int (iZ w)), (0, .ref (xad E 85))]) hx hb dX7_kindHere_115 rfl hl (by decide) rfl (fun ls hl => ?_)
                  refine x_iinc (lv' := [(3, .int (iZ (w + 1))), (2, .int (iZ w)), (1, .int (iZ (if fr9 < (sp + k) then (sp + k) else fr9))), (5, .int (iZ k)), (4, .int (iZ ((stZ (w + 1)) - (stZ w)))), (0, .ref (xad E 85))]) hx hb dX7_kindHere_116 hl (k := 4) rfl (by decide) rfl (fun ls hl => ?_)
                  refine lv_goto (tgt := 9) hx hb dX7_kindHere_119 (by decide) ?_
                  exact ih9 (if fr9 < (sp + k) then (sp + k) else fr9) w (w + 1) _ _ _ (by omega) (by refine ⟨by omega, by omega, ?_⟩; split <;> omega) (by intro h; first | omega | (have h9 := hno (by omega); refine ⟨fun i h0 h1 => ?_, by rw [fmZ_s (by omega), hpf, h9.2]⟩; by_cases e : i = w; (rw [e]; omega); (exact h9.1 i h0 (by omega)))) (by intro h; first | (rw [hpf]; omega) | exact absurd h (by omega))  hH (lv_sub hl [0, 1, 2, 5] rfl)
              · refine lv_aload_n hx hb dX7_kindHere_43 rfl (lv_at hl 5 rfl) ?_
                refine x_get hx hb hts hown hK hH 85 (by decide) f85 hinX7 rfl 17 (by decide) (List.mem_of_getElem? (i := 1) rfl) rfl dX7_kindHere_44 ?_
                refine lv_iload hx hb dX7_kindHere_47 (lv_at hl 0 rfl) ?_
                refine x_iadd hx hb dX7_kindHere_49 ?_
                refine lv_aload_n hx hb dX7_kindHere_50 rfl (lv_at hl 5 rfl) ?_
                refine x_get hx hb hts hown hK hH 85 (by decide) f85 hinX7 rfl 16 (by decide) (List.mem_of_getElem? (i := 2) rfl) rfl dX7_kindHere_51 ?_
                refine x_icmp_ge (tgt := 91) hx hb dX7_kindHere_54 (by decide) (by omega) (by omega) (fun c54 => ?_) (fun c54 => ?_)
                · have hpf := pf_is (t := tx) (n := sz) (sp := sp) (w := w) ⟨by omega, by omega⟩ (k := k) (by omega) hkj (Or.inr (fun q => by omega))
                  have hpb9 := pf_b (t := tx) (n := sz) (sp := sp) (i := w) (by omega) (by omega) hsp.2
                  refine lv_iload_n hx hb dX7_kindHere_91 rfl (lv_at hl 4 rfl) ?_
                  refine lv_aload_n hx hb dX7_kindHere_92 rfl (lv_at hl 5 rfl) ?_
                  refine x_get hx hb hts hown hK hH 85 (by decide) f85 hinX7 rfl 17 (by decide) (List.mem_of_getElem? (i := 1) rfl) rfl dX7_kindHere_93 ?_
                  refine lv_iload hx hb dX7_kindHere_96 (lv_at hl 0 rfl) ?_
                  refine x_iadd hx hb dX7_kindHere_98 ?_
                  refine x_max hx hb hml hown hts (List.mem_of_getElem? (i := 4) rfl) (List.mem_of_getElem? (i := 5) rfl) (List.mem_of_getElem? (i := 6) rfl) (List.mem_of_getElem? (i := 7) rfl) hl.1 (Nat.le_of_ble_eq_true rfl) (Nat.le_of_ble_eq_true rfl) (Nat.le_of_ble_eq_true rfl) (Nat.le_of_ble_eq_true rfl) (by omega) (by omega) dX7_kindHere_99 ?_
                  refine lv_istore_n (lv' := [(1, .int (iZ (if fr9 < (sp + k) then (sp + k) else fr9))), (5, .int (iZ k)), (4, .int (iZ ((stZ (w + 1)) - (stZ w)))), (3, .int (iZ w)), (2, .int (iZ on)), (0, .ref (xad E 85))]) hx hb dX7_kindHere_102 rfl hl (by decide) rfl (fun ls hl => ?_)
                  refine lv_iload hx hb dX7_kindHere_103 (lv_at hl 1 rfl) ?_
                  refine lv_iload hx hb dX7_kindHere_105 (lv_at hl 2 rfl) ?_
                  refine x_icmp_ne (tgt := 114) hx hb dX7_kindHere_107 (by decide) (by omega) (by omega) (fun c107 => ?_) (fun c107 => ?_)
                  · refine lv_iload_n hx hb dX7_kindHere_114 rfl (lv_at hl 4 rfl) ?_
                    refine lv_istore_n (lv' := [(2, .int (iZ on)), (1, .int (iZ (if fr9 < (sp + k) then (sp + k) else fr9))), (5, .int (iZ k)), (4, .int (iZ ((stZ (w + 1)) - (stZ w)))), (3, .int (iZ w)), (0, .ref (xad E 85))]) hx hb dX7_kindHere_115 rfl hl (by decide) rfl (fun ls hl => ?_)
                    refine x_iinc (lv' := [(3, .int (iZ (w + 1))), (2, .int (iZ on)), (1, .int (iZ (if fr9 < (sp + k) then (sp + k) else fr9))), (5, .int (iZ k)), (4, .int (iZ ((stZ (w + 1)) - (stZ w)))), (0, .ref (xad E 85))]) hx hb dX7_kindHere_116 hl (k := 4) rfl (by decide) rfl (fun ls hl => ?_)
                    refine lv_goto (tgt := 9) hx hb dX7_kindHere_119 (by decide) ?_
                    exact ih9 (if fr9 < (sp + k) then (sp + k) else fr9) on (w + 1) _ _ _ (by omega) (by refine ⟨by omega, by omega, ?_⟩; split <;> omega) (by intro h; first | omega | (have h9 := hno (by omega); refine ⟨fun i h0 h1 => ?_, by rw [fmZ_s (by omega), hpf, h9.2]⟩; by_cases e : i = w; (rw [e]; omega); (exact h9.1 i h0 (by omega)))) (by intro h; first | (rw [hpf]; omega) | exact absurd h (by omega))  hH (lv_sub hl [0, 1, 2, 5] rfl)
                  · refine lv_iload_n hx hb dX7_kindHere_110 rfl (lv_at hl 3 rfl) ?_
                    refine lv_goto (tgt := 115) hx hb dX7_kindHere_111 (by decide) ?_
                    refine lv_istore_n (lv' := [(2, .int (iZ w)), (1, .int (iZ (if fr9 < (sp + k) then (sp + k) else fr9))), (5, .int (iZ k)), (4, .int (iZ ((stZ (w + 1)) - (stZ w)))), (3, .int (iZ w)), (0, .ref (xad E 85))]) hx hb dX7_kindHere_115 rfl hl (by decide) rfl (fun ls hl => ?_)
                    refine x_iinc (lv' := [(3, .int (iZ (w + 1))), (2, .int (iZ w)), (1, .int (iZ (if fr9 < (sp + k) then (sp + k) else fr9))), (5, .int (iZ k)), (4, .int (iZ ((stZ (w + 1)) - (stZ w)))), (0, .ref (xad E 85))]) hx hb dX7_kindHere_116 hl (k := 4) rfl (by decide) rfl (fun ls hl => ?_)
                    refine lv_goto (tgt := 9) hx hb dX7_kindHere_119 (by decide) ?_
                    exact ih9 (if fr9 < (sp + k) then (sp + k) else fr9) w (w + 1) _ _ _ (by omega) (by refine ⟨by omega, by omega, ?_⟩; split <;> omega) (by intro h; first | omega | (have h9 := hno (by omega); refine ⟨fun i h0 h1 => ?_, by rw [fmZ_s (by omega), hpf, h9.2]⟩; by_cases e : i = w; (rw [e]; omega); (exact h9.1 i h0 (by omega)))) (by intro h; first | (rw [hpf]; omega) | exact absurd h (by omega))  hH (lv_sub hl [0, 1, 2, 5] rfl)
                · have htq := htx (sp + k)
                  have hsc := scZ_b (i := 11) (k := stZ w + k) (by decide) (by decide) (by omega) (by omega)
                  refine lv_aload_n hx hb dX7_kindHere_57 rfl (lv_at hl 5 rfl) ?_
                  refine x_get hx hb hts hown hK hH 85 (by decide) f85 hinX7 rfl 11 (by decide) (List.mem_of_getElem? (i := 3) rfl) rfl dX7_kindHere_58 ?_
                  refine lv_aload_n hx hb dX7_kindHere_61 rfl (lv_at hl 5 rfl) ?_
                  refine x_get hx hb hts hown hK hH 85 (by decide) f85 hinX7 rfl 17 (by decide) (List.mem_of_getElem? (i := 1) rfl) rfl dX7_kindHere_62 ?_
                  refine lv_iload hx hb dX7_kindHere_65 (lv_at hl 0 rfl) ?_
                  refine x_iadd hx hb dX7_kindHere_67 ?_
                  refine x_iald hx hb hK hH 93 (by decide) f93 (by omega) (by omega) (by omega) dX7_kindHere_68 ?_
                  have hv57 := htx (sp + k)
                  refine x_ldcNm hx hb hSQ hST hown dX7_kindHere_69 ?_
                  refine lv_iload_n hx hb dX7_kindHere_72 rfl (lv_at hl 2 rfl) ?_
                  refine x_cSID (As := [.int (iZ w)]) (rest := [.ref (zK Z 11), .int (iZ (tx (sp + k)))]) hx hb hml hts hown hK hST hOK hH (c_X7_startOf l E ST hSF σ w  (by omega)) (va_cwS 1 hts gX7_kindHere_X7_startOf rfl rfl rfl (by decide +kernel) ⟨Nat.le_of_ble_eq_true rfl, Nat.le_of_ble_eq_true rfl⟩) rfl hl.1 rfl (Nat.le_of_ble_eq_true rfl) dX7_kindHere_73 ⟨Nat.le_of_ble_eq_true rfl, Nat.le_of_ble_eq_true rfl⟩ (fun z u h => h) (fun H locs hH => ?_)
                  refine lv_iload hx hb dX7_kindHere_76 (lv_at hl 0 rfl) ?_
                  refine x_iadd hx hb dX7_kindHere_78 ?_
                  refine x_cRID (As := [.int (iZ ((stZ w) + k))]) (rest := [.int (iZ (tx (sp + k)))]) hx hb hml hts hown hK hST hOK hH (x_recS hSQ hST hH (i := 11) (by omega) (by omega)) (c_J0_charAt_5068e l E ST hSF Z hSQ σ 11 ((stZ w) + k)  (by omega) (by omega) (by omega) (by omega)) (cwV 1 hts gX7_kindHere_J0_charAt_5068e rfl rfl rfl (by decide +kernel) ⟨Nat.le_of_ble_eq_true rfl, Nat.le_of_ble_eq_true rfl⟩) rfl hl.1 rfl (Nat.le_of_ble_eq_true rfl) dX7_kindHere_79 ⟨Nat.le_of_ble_eq_true rfl, Nat.le_of_ble_eq_true rfl⟩ (fun z u h => h) (fun H locs hH => ?_)
                  refine x_icmp_ne (tgt := 91) hx hb dX7_kindHere_82 (by decide) (by omega) (by omega) (fun c82 => ?_) (fun c82 => ?_)
                  · have hpf := pf_is (t := tx) (n := sz) (sp := sp) (w := w) ⟨by omega, by omega⟩ (k := k) (by omega) hkj (Or.inr (fun q => c82 q.2))
                    have hpb9 := pf_b (t := tx) (n := sz) (sp := sp) (i := w) (by omega) (by omega) hsp.2
                    refine lv_iload_n hx hb dX7_kindHere_91 rfl (lv_at hl 4 rfl) ?_
                    refine lv_aload_n hx hb dX7_kindHere_92 rfl (lv_at hl 5 rfl) ?_
                    refine x_get hx hb hts hown hK hH 85 (by decide) f85 hinX7 rfl 17 (by decide) (List.mem_of_getElem? (i := 1) rfl) rfl dX7_kindHere_93 ?_
                    refine lv_iload hx hb dX7_kindHere_96 (lv_at hl 0 rfl) ?_
                    refine x_iadd hx hb dX7_kindHere_98 ?_
                    refine x_max hx hb hml hown hts (List.mem_of_getElem? (i := 4) rfl) (List.mem_of_getElem? (i := 5) rfl) (List.mem_of_getElem? (i := 6) rfl) (List.mem_of_getElem? (i := 7) rfl) hl.1 (Nat.le_of_ble_eq_true rfl) (Nat.le_of_ble_eq_true rfl) (Nat.le_of_ble_eq_true rfl) (Nat.le_of_ble_eq_true rfl) (by omega) (by omega) dX7_kindHere_99 ?_
                    refine lv_istore_n (lv' := [(1, .int (iZ (if fr9 < (sp + k) then (sp + k) else fr9))), (5, .int (iZ k)), (4, .int (iZ ((stZ (w + 1)) - (stZ w)))), (3, .int (iZ w)), (2, .int (iZ on)), (0, .ref (xad E 85))]) hx hb dX7_kindHere_102 rfl hl (by decide) rfl (fun ls hl => ?_)
                    refine lv_iload hx hb dX7_kindHere_103 (lv_at hl 1 rfl) ?_
                    refine lv_iload hx hb dX7_kindHere_105 (lv_at hl 2 rfl) ?_
                    refine x_icmp_ne (tgt := 114) hx hb dX7_kindHere_107 (by decide) (by omega) (by omega) (fun c107 => ?_) (fun c107 => ?_)
                    · refine lv_iload_n hx hb dX7_kindHere_114 rfl (lv_at hl 4 rfl) ?_
                      refine lv_istore_n (lv' := [(2, .int (iZ on)), (1, .int (iZ (if fr9 < (sp + k) then (sp + k) else fr9))), (5, .int (iZ k)), (4, .int (iZ ((stZ (w + 1)) - (stZ w)))), (3, .int (iZ w)), (0, .ref (xad E 85))]) hx hb dX7_kindHere_115 rfl hl (by decide) rfl (fun ls hl => ?_)
                      refine x_iinc (lv' := [(3, .int (iZ (w + 1))), (2, .int (iZ on)), (1, .int (iZ (if fr9 < (sp + k) then (sp + k) else fr9))), (5, .int (iZ k)), (4, .int (iZ ((stZ (w + 1)) - (stZ w)))), (0, .ref (xad E 85))]) hx hb dX7_kindHere_116 hl (k := 4) rfl (by decide) rfl (fun ls hl => ?_)
                      refine lv_goto (tgt := 9) hx hb dX7_kindHere_119 (by decide) ?_
                      exact ih9 (if fr9 < (sp + k) then (sp + k) else fr9) on (w + 1) _ _ _ (by omega) (by refine ⟨by omega, by omega, ?_⟩; split <;> omega) (by intro h; first | omega | (have h9 := hno (by omega); refine ⟨fun i h0 h1 => ?_, by rw [fmZ_s (by omega), hpf, h9.2]⟩; by_cases e : i = w; (rw [e]; omega); (exact h9.1 i h0 (by omega)))) (by intro h; first | (rw [hpf]; omega) | exact absurd h (by omega))  hH (lv_sub hl [0, 1, 2, 5] rfl)
                    · refine lv_iload_n hx hb dX7_kindHere_110 rfl (lv_at hl 3 rfl) ?_
                      refine lv_goto (tgt := 115) hx hb dX7_kindHere_111 (by decide) ?_
                      refine lv_istore_n (lv' := [(2, .int (iZ w)), (1, .int (iZ (if fr9 < (sp + k) then (sp + k) else fr9))), (5, .int (iZ k)), (4, .int (iZ ((stZ (w + 1)) - (stZ w)))), (3, .int (iZ w)), (0, .ref (xad E 85))]) hx hb dX7_kindHere_115 rfl hl (by decide) rfl (fun ls hl => ?_)
                      refine x_iinc (lv' := [(3, .int (iZ (w + 1))), (2, .int (iZ w)), (1, .int (iZ (if fr9 < (sp + k) then (sp + k) else fr9))), (5, .int (iZ k)), (4, .int (iZ ((stZ (w + 1)) - (stZ w)))), (0, .ref (xad E 85))]) hx hb dX7_kindHere_116 hl (k := 4) rfl (by decide) rfl (fun ls hl => ?_)
                      refine lv_goto (tgt := 9) hx hb dX7_kindHere_119 (by decide) ?_
                      exact ih9 (if fr9 < (sp + k) then (sp + k) else fr9) w (w + 1) _ _ _ (by omega) (by refine ⟨by omega, by omega, ?_⟩; split <;> omega) (by intro h; first | omega | (have h9 := hno (by omega); refine ⟨fun i h0 h1 => ?_, by rw [fmZ_s (by omega), hpf, h9.2]⟩; by_cases e : i = w; (rw [e]; omega); (exact h9.1 i h0 (by omega)))) (by intro h; first | (rw [hpf]; omega) | exact absurd h (by omega))  hH (lv_sub hl [0, 1, 2, 5] rfl)
                  · refine x_iinc (lv' := [(5, .int (iZ (k + 1))), (4, .int (iZ ((stZ (w + 1)) - (stZ w)))), (3, .int (iZ w)), (2, .int (iZ on)), (1, .int (iZ fr9)), (0, .ref (xad E 85))]) hx hb dX7_kindHere_85 hl (k := 0) rfl (by decide) rfl (fun ls hl => ?_)
                    refine lv_goto (tgt := 36) hx hb dX7_kindHere_88 (by decide) ?_
                    exact ih36 (k + 1) _ _ _ (by omega) (by omega) (by exact pf_ext ⟨by omega, by omega⟩ (by omega) hkj (by omega) c82)  hH (lv_sub hl [0, 1, 2, 3, 4, 5] rfl)
          exact K36 57 0 _ _ _ (by first | omega | decide) (by omega) (by intro j h; omega)  hH (lv_sub hl [0, 1, 2, 3, 4, 5] rfl)
  exact K9 12 sp (-1) 0 _ _ _ (by first | omega | decide) (by omega) (by intro h; exact ⟨fun i h0 h1 => by omega, rfl⟩) (by intro h; exact absurd rfl h)  hH (lv_sub hl [0, 1, 2, 3] rfl)
