def rm_X6_writeTile : Room := { frames := 1, cells := 0, slots := 0, locals := 23 }
set_option maxRecDepth 100000 in
set_option maxHeartbeats 4000000 in
theorem c_X6_writeTile (l : Launch) (E : xE) (ST : xST) (hSF : SF ST) (σ : xW) (cell : Int) (hv : Bool) (se : Int) (sf : Int) (ll : Int) (op : Int → Int) (lk : Int → Int) (kp : Int → Int) (wc : Int → Int) (pn : Int) (nw : Int) (sh : Int) (wk : Int) (lq : Int → Int) (hr0 : mn E σ hv se sf ll) (hr1 : bd E σ 1 op lk kp wc pn nw sh wk) (hr2 : cln E σ lq) (hB : BI op lk kp wc pn nw) (hc : 0 ≤ cell ∧ cell ≤ 24) (hll : 0 ≤ ll ∧ ll ≤ 35) : CV l E ST yX6_writeTile wsX6_writeTile rm_X6_writeTile [.ref (xad E 0), .int (iZ cell)] σ (fun (u : xW) => (∃ (lq1 : Int → Int) (ll1 : Int), mn E u hv se sf ll1 ∧ cln E u lq1 ∧ ((lq1, ll1) = List.foldl wrF (lq, ll) (tlL op lk kp wc pn nw cell)) ∧ (0 ≤ ll1 ∧ ll1 ≤ 35)) ∧ ∀ j : Nat, j ≠ 0 → j ≠ 84 → u j = σ j) := by
  have f0 : σ 0 = oB 4 [.ref (xad E 1), .ref (xad E 7), .ref (xad E 13), .ref (xad E 19), .int (iZ (b2 hv)), .ref (xad E 73), .ref (xad E 75), .ref (xad E 81), .int (iZ se), .int (iZ sf), .ref (xad E 84), .int (iZ ll)] := hr0
  obtain ⟨f1, f2, f3, f4, f5, ro1, f6⟩ := hr1
  have f84 : σ 84 = aC E 35 lq := hr2
  refine CV_of (by decide) rfl (Nat.le_of_ble_eq_true rfl) ?_
  intro p e s m args below meth c Q ls G hH hl hQ
  obtain ⟨hx, hb, hml, hown, hts, hK, hST, hlocks, hr, hno⟩ := G
  have hOK := hSF.1
  have hown : s.vm.findClass RX6 = some m.cls := hown
  have hl : lv_has ls 4 [(0, .ref (xad E 0)), (1, .int (iZ cell))] := hl
  have hinX1 : ∀ w ∈ u_ws RX1 TX1 9, w ∈ wsX6_writeTile := fun w h => (List.mem_cons_of_mem _ (List.mem_append_right _ h))
  have hinX6 : ∀ w ∈ u_ws RX6 TX6 12, w ∈ wsX6_writeTile := fun w h => (List.mem_cons_of_mem _ (List.mem_append_left _ (List.mem_append_right _ h)))
  obtain ⟨hop, hlk, hkp, hwc, hpn, hnw⟩ := id hB
  have hoq := hop cell
  refine lv_aload_n hx hb dX6_writeTile_0 rfl (lv_at hl 0 rfl) ?_
  refine x_get hx hb hts hown hK hH 0 (ltw (by decide)) f0 hinX6 rfl 0 (by decide) (List.mem_of_getElem? (i := 1) rfl) rfl dX6_writeTile_1 ?_
  refine x_get hx hb hts hown hK hH 1 (ltw (by decide)) f1 hinX1 rfl 0 (by decide) (List.mem_of_getElem? (i := 2) rfl) rfl dX6_writeTile_4 ?_
  refine lv_iload_n hx hb dX6_writeTile_7 rfl (lv_at hl 1 rfl) ?_
  refine x_iald hx hb hK hH 2 (ltw (by decide)) f2 (by omega) (by omega) (by omega) dX6_writeTile_8 ?_
  have hv1 := hop cell
  refine lv_istore_n (lv' := [(2, .int (iZ (op cell))), (0, .ref (xad E 0)), (1, .int (iZ cell))]) hx hb dX6_writeTile_9 rfl hl (by decide) rfl (fun ls hl => ?_)
  refine lv_aload_n hx hb dX6_writeTile_10 rfl (lv_at hl 1 rfl) ?_
  refine lv_iload_n hx hb dX6_writeTile_11 rfl (lv_at hl 0 rfl) ?_
  refine x_bipush hx hb dX6_writeTile_12 (by decide) ?_
  refine x_icmp_ge (tgt := 24) hx hb dX6_writeTile_14 (by decide) (by omega) (by decide) (fun c14 => ?_) (fun c14 => ?_)
  · refine x_bipush hx hb dX6_writeTile_24 (by decide) ?_
    refine lv_iload_n hx hb dX6_writeTile_26 rfl (lv_at hl 0 rfl) ?_
    refine x_iadd hx hb dX6_writeTile_27 ?_
    refine x_bipush hx hb dX6_writeTile_28 (by decide) ?_
    refine x_isub hx hb dX6_writeTile_30 ?_
    refine x_i2c hx hb dX6_writeTile_31 ?_
    rw [i2cZ_in (by omega) (by omega)]
    refine x_cVV (As := [.int (iZ ((65 + (op cell)) - 10))]) (rest := []) hx hb hml hts hown hK hST hOK hH 0 (c_X6_write l E ST hSF σ ((65 + (op cell)) - 10) hv se sf ll lq f0 f84 (by omega) (by omega)) (cwV 1 hts gX6_writeTile_X6_write rfl rfl rfl (by decide +kernel) ⟨Nat.le_of_ble_eq_true rfl, Nat.le_of_ble_eq_true rfl⟩) (ltw (by decide)) f0 rfl rfl hl.1 rfl (Nat.le_of_ble_eq_true rfl) dX6_writeTile_32 ⟨Nat.le_of_ble_eq_true rfl, Nat.le_of_ble_eq_true rfl⟩ (fun σ3 H locs hp4 hH => ?_)
    obtain ⟨⟨lq_32, ll_32, f0, f84, hw32⟩, fr5⟩ := hp4
    have f1 : σ3 1 = oB 0 [.ref (xad E 2), .ref (xad E 3), .ref (xad E 4), .ref (xad E 5), .ref (xad E 6), .int (iZ pn), .int (iZ nw), .int (iZ sh), .long (lZ wk)] := (fr5 1 (by omega) (by omega)).trans f1
    have f2 : σ3 2 = aI E 25 op := (fr5 2 (by omega) (by omega)).trans f2
    have f3 : σ3 3 = aI E 25 lk := (fr5 3 (by omega) (by omega)).trans f3
    have f4 : σ3 4 = aI E 6 kp := (fr5 4 (by omega) (by omega)).trans f4
    have f5 : σ3 5 = aI E 3 wc := (fr5 5 (by omega) (by omega)).trans f5
    have f6 : σ3 6 = aI E 5 ro1 := (fr5 6 (by omega) (by omega)).trans f6
    have hb32 := wr_b hw32 (by omega)
    have s1 : (lq_32, ll_32) = List.foldl wrF (lq, ll) [tlC (op cell)] := by rw [show tlC (op cell) = 65 + op cell - 10 from (by unfold tlC; rw [if_neg (by omega)])]; exact fl_w fl_0 hw32
    refine lv_aload_n hx hb dX6_writeTile_35 rfl (lv_at hl 1 rfl) ?_
    refine x_get hx hb hts hown hK hH 0 (ltw (by decide)) f0 hinX6 rfl 0 (by decide) (List.mem_of_getElem? (i := 1) rfl) rfl dX6_writeTile_36 ?_
    refine lv_iload_n hx hb dX6_writeTile_39 rfl (lv_at hl 2 rfl) ?_
    refine x_cVID (As := [.int (iZ cell)]) (rest := []) hx hb hml hts hown hK hST hOK hH 1 (c_X1_isFixed l E ST hSF σ3 1 cell op lk kp wc pn nw sh wk ⟨f1, f2, f3, f4, f5, _, f6⟩ (by omega) (by omega)) (cwV 1 hts gX6_writeTile_X1_isFixed rfl rfl rfl (by decide +kernel) ⟨Nat.le_of_ble_eq_true rfl, Nat.le_of_ble_eq_true rfl⟩) (ltw (by decide)) f1 rfl rfl hl.1 rfl (Nat.le_of_ble_eq_true rfl) dX6_writeTile_40 ⟨Nat.le_of_ble_eq_true rfl, Nat.le_of_ble_eq_true rfl⟩ (fun z u h => h) (fun H locs hH => ?_)
    refine x_ifb_eq (tgt := 52) hx hb dX6_writeTile_43 (by decide) (fun c43 => ?_) (fun c43 => ?_)
    · have c43 := of_decide_eq_false c43
      have s2 : (lq_32, ll_32) = List.foldl wrF (lq, ll) ([tlC (op cell)] ++ pinL pn cell) := by rw [show pinL pn cell = [] from if_neg c43]; exact fl_n s1
      refine lv_aload_n hx hb dX6_writeTile_52 rfl (lv_at hl 1 rfl) ?_
      refine x_get hx hb hts hown hK hH 0 (ltw (by decide)) f0 hinX6 rfl 0 (by decide) (List.mem_of_getElem? (i := 1) rfl) rfl dX6_writeTile_53 ?_
      refine x_get hx hb hts hown hK hH 1 (ltw (by decide)) f1 hinX1 rfl 1 (by decide) (List.mem_of_getElem? (i := 3) rfl) rfl dX6_writeTile_56 ?_
      refine lv_iload_n hx hb dX6_writeTile_59 rfl (lv_at hl 2 rfl) ?_
      refine x_iald hx hb hK hH 3 (ltw (by decide)) f3 (by omega) (by omega) (by omega) dX6_writeTile_60 ?_
      have hv10 := hlk cell
      refine x_iconst hx hb dX6_writeTile_61 ?_
      refine x_icmp_eq (tgt := 87) hx hb dX6_writeTile_62 (by decide) (by omega) (by decide) (fun c62 => ?_) (fun c62 => ?_)
      · have s3 : (lq_32, ll_32) = List.foldl wrF (lq, ll) ([tlC (op cell)] ++ pinL pn cell ++ lkL lk cell) := by rw [show lkL lk cell = [] from if_pos c62]; exact fl_n s2
        refine lv_aload_n hx hb dX6_writeTile_87 rfl (lv_at hl 1 rfl) ?_
        refine x_get hx hb hts hown hK hH 0 (ltw (by decide)) f0 hinX6 rfl 0 (by decide) (List.mem_of_getElem? (i := 1) rfl) rfl dX6_writeTile_88 ?_
        refine lv_iload_n hx hb dX6_writeTile_91 rfl (lv_at hl 2 rfl) ?_
        refine x_cVID (As := [.int (iZ cell)]) (rest := []) hx hb hml hts hown hK hST hOK hH 1 (c_X1_countWalkers l E ST hSF σ3 1 cell op lk kp wc pn nw sh wk ⟨f1, f2, f3, f4, f5, _, f6⟩ (by omega) (by omega) (by assumption) (by omega)) (cwV 1 hts gX6_writeTile_X1_countWalkers rfl rfl rfl (by decide +kernel) ⟨Nat.le_of_ble_eq_true rfl, Nat.le_of_ble_eq_true rfl⟩) (ltw (by decide)) f1 rfl rfl hl.1 rfl (Nat.le_of_ble_eq_true rfl) dX6_writeTile_92 ⟨Nat.le_of_ble_eq_true rfl, Nat.le_of_ble_eq_true rfl⟩ (fun z u h => h) (fun H locs hH => ?_)
        have hcb := cntK_b (f := wc) (x := cell) hnw.1
        refine x_if_le (tgt := 104) hx hb dX6_writeTile_95 (by decide) (by omega) (fun c95 => ?_) (fun c95 => ?_)
        · have s4 : (lq_32, ll_32) = List.foldl wrF (lq, ll) ([tlC (op cell)] ++ pinL pn cell ++ lkL lk cell ++ wkL wc nw cell) := by rw [show wkL wc nw cell = [] from if_neg (by omega)]; exact fl_n s3
          refine x_iconst hx hb dX6_writeTile_104 ?_
          refine lv_istore_n (lv' := [(3, .int (iZ 0)), (2, .int (iZ (op cell))), (0, .ref (xad E 0)), (1, .int (iZ cell))]) hx hb dX6_writeTile_105 rfl hl (by decide) rfl (fun ls hl => ?_)
          have K106 : ∀ (nK : Nat) (i : Int) (lqx : Int → Int) (llx : Int) (σ14 : xW) (H : Heap) (locs : List Loc) (ls : Array Slot), (6 - i).toNat < nK → (0 ≤ i ∧ i ≤ 6) → (0 ≤ llx ∧ llx ≤ 35) → ((lqx, llx) = List.foldl wrF (lq, ll) ([tlC (op cell)] ++ pinL pn cell ++ lkL lk cell ++ wkL wc nw cell ++ kyL kp cell i)) → σ14 0 = oB 4 [.ref (xad E 1), .ref (xad E 7), .ref (xad E 13), .ref (xad E 19), .int (iZ (b2 hv)), .ref (xad E 73), .ref (xad E 75), .ref (xad E 81), .int (iZ se), .int (iZ sf), .ref (xad E 84), .int (iZ llx)] → σ14 1 = oB 0 [.ref (xad E 2), .ref (xad E 3), .ref (xad E 4), .ref (xad E 5), .ref (xad E 6), .int (iZ pn), .int (iZ nw), .int (iZ sh), .long (lZ wk)] → σ14 2 = aI E 25 op → σ14 3 = aI E 25 lk → σ14 4 = aI E 6 kp → σ14 5 = aI E 3 wc → σ14 6 = aI E 5 ro1 → σ14 84 = aC E 35 lqx → (∀ j : Nat, j ≠ 0 → j ≠ 84 → σ14 j = σ3 j) → Hx E (xA E s.heap.size) s.heap σ14 H locs → lv_has ls 4 [(3, .int (iZ i)), (2, .int (iZ (op cell))), (0, .ref (xad E 0)), (1, .int (iZ cell))] → W p l e rm_X6_writeTile s m args below meth c H locs 0 0 Q (F0 m 106 ls []) := by
            intro n106
            induction n106 with
            | zero =>
              intro i lqx llx σ14 H locs ls hm
              exact absurd hm (by first | exact Nat.not_lt_zero _ | omega)
            | succ n106 ih106 =>
              intro i lqx llx σ14 H locs ls hm106 hi hlb hlx f0 f1 f2 f3 f4 f5 f6 f84 fr15 hH hl
              refine lv_iload_n hx hb dX6_writeTile_106 rfl (lv_at hl 0 rfl) ?_
              refine x_bipush hx hb dX6_writeTile_107 (by decide) ?_
              refine x_icmp_ge (tgt := 139) hx hb dX6_writeTile_109 (by decide) (by omega) (by decide) (fun c109 => ?_) (fun c109 => ?_)
              · subst hQ
                exact x_vret hx hb hr hlocks hH (Nat.le_of_ble_eq_true rfl) (Nat.le_of_ble_eq_true rfl) ⟨⟨lqx, llx, f0, f84, (by have e9 : i = 6 := (by omega); subst e9; exact hlx), (by omega)⟩, fun j hj0 hj1 => ((fr15 j (by omega) (by omega)).trans (fr5 j (by omega) (by omega)))⟩ dX6_writeTile_139
              · refine lv_aload_n hx hb dX6_writeTile_112 rfl (lv_at hl 2 rfl) ?_
                refine x_get hx hb hts hown hK hH 0 (ltw (by decide)) f0 hinX6 rfl 0 (by decide) (List.mem_of_getElem? (i := 1) rfl) rfl dX6_writeTile_113 ?_
                refine x_get hx hb hts hown hK hH 1 (ltw (by decide)) f1 hinX1 rfl 2 (by decide) (List.mem_of_getElem? (i := 4) rfl) rfl dX6_writeTile_116 ?_
                refine lv_iload_n hx hb dX6_writeTile_119 rfl (lv_at hl 0 rfl) ?_
                refine x_iald hx hb hK hH 4 (ltw (by decide)) f4 (by omega) (by omega) (by omega) dX6_writeTile_120 ?_
                have hv16 := hkp i
                refine lv_iload_n hx hb dX6_writeTile_121 rfl (lv_at hl 3 rfl) ?_
                refine x_icmp_ne (tgt := 133) hx hb dX6_writeTile_122 (by decide) (by omega) (by omega) (fun c122 => ?_) (fun c122 => ?_)
                · refine x_iinc (lv' := [(3, .int (iZ (i + 1))), (2, .int (iZ (op cell))), (0, .ref (xad E 0)), (1, .int (iZ cell))]) hx hb dX6_writeTile_133 hl (k := 0) rfl (by decide) rfl (fun ls hl => ?_)
                  refine lv_goto (tgt := 106) hx hb dX6_writeTile_136 (by decide) ?_
                  exact ih106 (i + 1) lqx llx σ14 _ _ _ (by omega) (by omega) (by omega) (by rw [kyL_s hi.1]; first | (rw [if_pos c122, ← List.append_assoc]; exact fl_w hlx hw130) | (rw [if_neg c122, List.append_nil]; exact hlx)) f0 f1 f2 f3 f4 f5 f6 f84 (fun j hj0 hj1 => (fr15 j (by omega) (by omega))) hH (lv_sub hl [0, 1, 2, 3] rfl)
                · refine lv_aload_n hx hb dX6_writeTile_125 rfl (lv_at hl 2 rfl) ?_
                  refine lv_iload_n hx hb dX6_writeTile_126 rfl (lv_at hl 0 rfl) ?_
                  refine x_cSID (As := [.int (iZ i)]) (rest := [.ref (xad E 0)]) hx hb hml hts hown hK hST hOK hH (c_X6_keyName l E ST hSF σ14 i  (by omega) (by omega)) (va_cwS 1 hts gX6_writeTile_X6_keyName rfl rfl rfl (by decide +kernel) ⟨Nat.le_of_ble_eq_true rfl, Nat.le_of_ble_eq_true rfl⟩) rfl hl.1 rfl (Nat.le_of_ble_eq_true rfl) dX6_writeTile_127 ⟨Nat.le_of_ble_eq_true rfl, Nat.le_of_ble_eq_true rfl⟩ (fun z u h => h) (fun H locs hH => ?_)
                  refine x_cVV (As := [.int (iZ (97 + i))]) (rest := []) hx hb hml hts hown hK hST hOK hH 0 (c_X6_write l E ST hSF σ14 (97 + i) hv se sf llx lqx f0 f84 (by omega) (by omega)) (cwV 1 hts gX6_writeTile_X6_write rfl rfl rfl (by decide +kernel) ⟨Nat.le_of_ble_eq_true rfl, Nat.le_of_ble_eq_true rfl⟩) (ltw (by decide)) f0 rfl rfl hl.1 rfl (Nat.le_of_ble_eq_true rfl) dX6_writeTile_130 ⟨Nat.le_of_ble_eq_true rfl, Nat.le_of_ble_eq_true rfl⟩ (fun σ21 H locs hp22 hH => ?_)
                  obtain ⟨⟨lq_130, ll_130, f0, f84, hw130⟩, fr23⟩ := hp22
                  have f1 : σ21 1 = oB 0 [.ref (xad E 2), .ref (xad E 3), .ref (xad E 4), .ref (xad E 5), .ref (xad E 6), .int (iZ pn), .int (iZ nw), .int (iZ sh), .long (lZ wk)] := (fr23 1 (by omega) (by omega)).trans f1
                  have f2 : σ21 2 = aI E 25 op := (fr23 2 (by omega) (by omega)).trans f2
                  have f3 : σ21 3 = aI E 25 lk := (fr23 3 (by omega) (by omega)).trans f3
                  have f4 : σ21 4 = aI E 6 kp := (fr23 4 (by omega) (by omega)).trans f4
                  have f5 : σ21 5 = aI E 3 wc := (fr23 5 (by omega) (by omega)).trans f5
                  have f6 : σ21 6 = aI E 5 ro1 := (fr23 6 (by omega) (by omega)).trans f6
                  have hb130 := wr_b hw130 (by omega)
                  refine x_iinc (lv' := [(3, .int (iZ (i + 1))), (2, .int (iZ (op cell))), (0, .ref (xad E 0)), (1, .int (iZ cell))]) hx hb dX6_writeTile_133 hl (k := 0) rfl (by decide) rfl (fun ls hl => ?_)
                  refine lv_goto (tgt := 106) hx hb dX6_writeTile_136 (by decide) ?_
                  exact ih106 (i + 1) lq_130 ll_130 σ21 _ _ _ (by omega) (by omega) (by omega) (by rw [kyL_s hi.1]; first | (rw [if_pos c122, ← List.append_assoc]; exact fl_w hlx hw130) | (rw [if_neg c122, List.append_nil]; exact hlx)) f0 f1 f2 f3 f4 f5 f6 f84 (fun j hj0 hj1 => ((fr23 j (by omega) (by omega)).trans (fr15 j (by omega) (by omega)))) hH (lv_sub hl [0, 1, 2, 3] rfl)
          exact K106 7 0 lq_32 ll_32 σ3 _ _ _ (by first | omega | decide) (by omega) (by omega) (by rw [kyL_0]; exact fl_n s4) f0 f1 f2 f3 f4 f5 f6 f84 (fun j _ _ => rfl) hH (lv_sub hl [0, 1, 2, 3] rfl)
        · refine lv_aload_n hx hb dX6_writeTile_98 rfl (lv_at hl 1 rfl) ?_
          refine x_bipush hx hb dX6_writeTile_99 (by decide) ?_
          refine x_cVV (As := [.int (iZ 64)]) (rest := []) hx hb hml hts hown hK hST hOK hH 0 (c_X6_write l E ST hSF σ3 64 hv se sf ll_32 lq_32 f0 f84 (by omega) (by omega)) (cwV 1 hts gX6_writeTile_X6_write rfl rfl rfl (by decide +kernel) ⟨Nat.le_of_ble_eq_true rfl, Nat.le_of_ble_eq_true rfl⟩) (ltw (by decide)) f0 rfl rfl hl.1 rfl (Nat.le_of_ble_eq_true rfl) dX6_writeTile_101 ⟨Nat.le_of_ble_eq_true rfl, Nat.le_of_ble_eq_true rfl⟩ (fun σ26 H locs hp27 hH => ?_)
          obtain ⟨⟨lq_101, ll_101, f0, f84, hw101⟩, fr28⟩ := hp27
          have f1 : σ26 1 = oB 0 [.ref (xad E 2), .ref (xad E 3), .ref (xad E 4), .ref (xad E 5), .ref (xad E 6), .int (iZ pn), .int (iZ nw), .int (iZ sh), .long (lZ wk)] := (fr28 1 (by omega) (by omega)).trans f1
          have f2 : σ26 2 = aI E 25 op := (fr28 2 (by omega) (by omega)).trans f2
          have f3 : σ26 3 = aI E 25 lk := (fr28 3 (by omega) (by omega)).trans f3
          have f4 : σ26 4 = aI E 6 kp := (fr28 4 (by omega) (by omega)).trans f4
          have f5 : σ26 5 = aI E 3 wc := (fr28 5 (by omega) (by omega)).trans f5
          have f6 : σ26 6 = aI E 5 ro1 := (fr28 6 (by omega) (by omega)).trans f6
          have hb101 := wr_b hw101 (by omega)
          have s4 : (lq_101, ll_101) = List.foldl wrF (lq, ll) ([tlC (op cell)] ++ pinL pn cell ++ lkL lk cell ++ wkL wc nw cell) := by rw [show wkL wc nw cell = [64] from if_pos (by omega)]; exact fl_w s3 hw101
          refine x_iconst hx hb dX6_writeTile_104 ?_
          refine lv_istore_n (lv' := [(3, .int (iZ 0)), (2, .int (iZ (op cell))), (0, .ref (xad E 0)), (1, .int (iZ cell))]) hx hb dX6_writeTile_105 rfl hl (by decide) rfl (fun ls hl => ?_)
          have K106 : ∀ (nK : Nat) (i : Int) (lqx : Int → Int) (llx : Int) (σ30 : xW) (H : Heap) (locs : List Loc) (ls : Array Slot), (6 - i).toNat < nK → (0 ≤ i ∧ i ≤ 6) → (0 ≤ llx ∧ llx ≤ 35) → ((lqx, llx) = List.foldl wrF (lq, ll) ([tlC (op cell)] ++ pinL pn cell ++ lkL lk cell ++ wkL wc nw cell ++ kyL kp cell i)) → σ30 0 = oB 4 [.ref (xad E 1), .ref (xad E 7), .ref (xad E 13), .ref (xad E 19), .int (iZ (b2 hv)), .ref (xad E 73), .ref (xad E 75), .ref (xad E 81), .int (iZ se), .int (iZ sf), .ref (xad E 84), .int (iZ llx)] → σ30 1 = oB 0 [.ref (xad E 2), .ref (xad E 3), .ref (xad E 4), .ref (xad E 5), .ref (xad E 6), .int (iZ pn), .int (iZ nw), .int (iZ sh), .long (lZ wk)] → σ30 2 = aI E 25 op → σ30 3 = aI E 25 lk → σ30 4 = aI E 6 kp → σ30 5 = aI E 3 wc → σ30 6 = aI E 5 ro1 → σ30 84 = aC E 35 lqx → (∀ j : Nat, j ≠ 0 → j ≠ 84 → σ30 j = σ26 j) → Hx E (xA E s.heap.size) s.heap σ30 H locs → lv_has ls 4 [(3, .int (iZ i)), (2, .int (iZ (op cell))), (0, .ref (xad E 0)), (1, .int (iZ cell))] → W p l e rm_X6_writeTile s m args below meth c H locs 0 0 Q (F0 m 106 ls []) := by
            intro n106
            induction n106 with
            | zero =>
              intro i lqx llx σ30 H locs ls hm
              exact absurd hm (by first | exact Nat.not_lt_zero _ | omega)
            | succ n106 ih106 =>
              intro i lqx llx σ30 H locs ls hm106 hi hlb hlx f0 f1 f2 f3 f4 f5 f6 f84 fr31 hH hl
              refine lv_iload_n hx hb dX6_writeTile_106 rfl (lv_at hl 0 rfl) ?_
              refine x_bipush hx hb dX6_writeTile_107 (by decide) ?_
              refine x_icmp_ge (tgt := 139) hx hb dX6_writeTile_109 (by decide) (by omega) (by decide) (fun c109 => ?_) (fun c109 => ?_)
              · subst hQ
                exact x_vret hx hb hr hlocks hH (Nat.le_of_ble_eq_true rfl) (Nat.le_of_ble_eq_true rfl) ⟨⟨lqx, llx, f0, f84, (by have e9 : i = 6 := (by omega); subst e9; exact hlx), (by omega)⟩, fun j hj0 hj1 => ((fr31 j (by omega) (by omega)).trans ((fr28 j (by omega) (by omega)).trans (fr5 j (by omega) (by omega))))⟩ dX6_writeTile_139
              · refine lv_aload_n hx hb dX6_writeTile_112 rfl (lv_at hl 2 rfl) ?_
                refine x_get hx hb hts hown hK hH 0 (ltw (by decide)) f0 hinX6 rfl 0 (by decide) (List.mem_of_getElem? (i := 1) rfl) rfl dX6_writeTile_113 ?_
                refine x_get hx hb hts hown hK hH 1 (ltw (by decide)) f1 hinX1 rfl 2 (by decide) (List.mem_of_getElem? (i := 4) rfl) rfl dX6_writeTile_116 ?_
                refine lv_iload_n hx hb dX6_writeTile_119 rfl (lv_at hl 0 rfl) ?_
                refine x_iald hx hb hK hH 4 (ltw (by decide)) f4 (by omega) (by omega) (by omega) dX6_writeTile_120 ?_
                have hv32 := hkp i
                refine lv_iload_n hx hb dX6_writeTile_121 rfl (lv_at hl 3 rfl) ?_
                refine x_icmp_ne (tgt := 133) hx hb dX6_writeTile_122 (by decide) (by omega) (by omega) (fun c122 => ?_) (fun c122 => ?_)
                · refine x_iinc (lv' := [(3, .int (iZ (i + 1))), (2, .int (iZ (op cell))), (0, .ref (xad E 0)), (1, .int (iZ cell))]) hx hb dX6_writeTile_133 hl (k := 0) rfl (by decide) rfl (fun ls hl => ?_)
                  refine lv_goto (tgt := 106) hx hb dX6_writeTile_136 (by decide) ?_
                  exact ih106 (i + 1) lqx llx σ30 _ _ _ (by omega) (by omega) (by omega) (by rw [kyL_s hi.1]; first | (rw [if_pos c122, ← List.append_assoc]; exact fl_w hlx hw130) | (rw [if_neg c122, List.append_nil]; exact hlx)) f0 f1 f2 f3 f4 f5 f6 f84 (fun j hj0 hj1 => (fr31 j (by omega) (by omega))) hH (lv_sub hl [0, 1, 2, 3] rfl)
                · refine lv_aload_n hx hb dX6_writeTile_125 rfl (lv_at hl 2 rfl) ?_
                  refine lv_iload_n hx hb dX6_writeTile_126 rfl (lv_at hl 0 rfl) ?_
                  refine x_cSID (As := [.int (iZ i)]) (rest := [.ref (xad E 0)]) hx hb hml hts hown hK hST hOK hH (c_X6_keyName l E ST hSF σ30 i  (by omega) (by omega)) (va_cwS 1 hts gX6_writeTile_X6_keyName rfl rfl rfl (by decide +kernel) ⟨Nat.le_of_ble_eq_true rfl, Nat.le_of_ble_eq_true rfl⟩) rfl hl.1 rfl (Nat.le_of_ble_eq_true rfl) dX6_writeTile_127 ⟨Nat.le_of_ble_eq_true rfl, Nat.le_of_ble_eq_true rfl⟩ (fun z u h => h) (fun H locs hH => ?_)
                  refine x_cVV (As := [.int (iZ (97 + i))]) (rest := []) hx hb hml hts hown hK hST hOK hH 0 (c_X6_write l E ST hSF σ30 (97 + i) hv se sf llx lqx f0 f84 (by omega) (by omega)) (cwV 1 hts gX6_writeTile_X6_write rfl rfl rfl (by decide +kernel) ⟨Nat.le_of_ble_eq_true rfl, Nat.le_of_ble_eq_true rfl⟩) (ltw (by decide)) f0 rfl rfl hl.1 rfl (Nat.le_of_ble_eq_true rfl) dX6_writeTile_130 ⟨Nat.le_of_ble_eq_true rfl, Nat.le_of_ble_eq_true rfl⟩ (fun σ37 H locs hp38 hH => ?_)
                  obtain ⟨⟨lq_130, ll_130, f0, f84, hw130⟩, fr39⟩ := hp38
                  have f1 : σ37 1 = oB 0 [.ref (xad E 2), .ref (xad E 3), .ref (xad E 4), .ref (xad E 5), .ref (xad E 6), .int (iZ pn), .int (iZ nw), .int (iZ sh), .long (lZ wk)] := (fr39 1 (by omega) (by omega)).trans f1
                  have f2 : σ37 2 = aI E 25 op := (fr39 2 (by omega) (by omega)).trans f2
                  have f3 : σ37 3 = aI E 25 lk := (fr39 3 (by omega) (by omega)).trans f3
                  have f4 : σ37 4 = aI E 6 kp := (fr39 4 (by omega) (by omega)).trans f4
                  have f5 : σ37 5 = aI E 3 wc := (fr39 5 (by omega) (by omega)).trans f5
                  have f6 : σ37 6 = aI E 5 ro1 := (fr39 6 (by omega) (by omega)).trans f6
                  have hb130 := wr_b hw130 (by omega)
                  refine x_iinc (lv' := [(3, .int (iZ (i + 1))), (2, .int (iZ (op cell))), (0, .ref (xad E 0)), (1, .int (iZ cell))]) hx hb dX6_writeTile_133 hl (k := 0) rfl (by decide) rfl (fun ls hl => ?_)
                  refine lv_goto (tgt := 106) hx hb dX6_writeTile_136 (by decide) ?_
                  exact ih106 (i + 1) lq_130 ll_130 σ37 _ _ _ (by omega) (by omega) (by omega) (by rw [kyL_s hi.1]; first | (rw [if_pos c122, ← List.append_assoc]; exact fl_w hlx hw130) | (rw [if_neg c122, List.append_nil]; exact hlx)) f0 f1 f2 f3 f4 f5 f6 f84 (fun j hj0 hj1 => ((fr39 j (by omega) (by omega)).trans (fr31 j (by omega) (by omega)))) hH (lv_sub hl [0, 1, 2, 3] rfl)
          exact K106 7 0 lq_101 ll_101 σ26 _ _ _ (by first | omega | decide) (by omega) (by omega) (by rw [kyL_0]; exact fl_n s4) f0 f1 f2 f3 f4 f5 f6 f84 (fun j _ _ => rfl) hH (lv_sub hl [0, 1, 2, 3] rfl)
      · refine lv_aload_n hx hb dX6_writeTile_65 rfl (lv_at hl 1 rfl) ?_
        refine x_bipush hx hb dX6_writeTile_66 (by decide) ?_
        refine x_cVV (As := [.int (iZ 35)]) (rest := []) hx hb hml hts hown hK hST hOK hH 0 (c_X6_write l E ST hSF σ3 35 hv se sf ll_32 lq_32 f0 f84 (by omega) (by omega)) (cwV 1 hts gX6_writeTile_X6_write rfl rfl rfl (by decide +kernel) ⟨Nat.le_of_ble_eq_true rfl, Nat.le_of_ble_eq_true rfl⟩) (ltw (by decide)) f0 rfl rfl hl.1 rfl (Nat.le_of_ble_eq_true rfl) dX6_writeTile_68 ⟨Nat.le_of_ble_eq_true rfl, Nat.le_of_ble_eq_true rfl⟩ (fun σ42 H locs hp43 hH => ?_)
        obtain ⟨⟨lq_68, ll_68, f0, f84, hw68⟩, fr44⟩ := hp43
        have f1 : σ42 1 = oB 0 [.ref (xad E 2), .ref (xad E 3), .ref (xad E 4), .ref (xad E 5), .ref (xad E 6), .int (iZ pn), .int (iZ nw), .int (iZ sh), .long (lZ wk)] := (fr44 1 (by omega) (by omega)).trans f1
        have f2 : σ42 2 = aI E 25 op := (fr44 2 (by omega) (by omega)).trans f2
        have f3 : σ42 3 = aI E 25 lk := (fr44 3 (by omega) (by omega)).trans f3
        have f4 : σ42 4 = aI E 6 kp := (fr44 4 (by omega) (by omega)).trans f4
        have f5 : σ42 5 = aI E 3 wc := (fr44 5 (by omega) (by omega)).trans f5
        have f6 : σ42 6 = aI E 5 ro1 := (fr44 6 (by omega) (by omega)).trans f6
        have hb68 := wr_b hw68 (by omega)
        refine lv_aload_n hx hb dX6_writeTile_71 rfl (lv_at hl 1 rfl) ?_
        refine lv_aload_n hx hb dX6_writeTile_72 rfl (lv_at hl 1 rfl) ?_
        refine x_get hx hb hts hown hK hH 0 (ltw (by decide)) f0 hinX6 rfl 0 (by decide) (List.mem_of_getElem? (i := 1) rfl) rfl dX6_writeTile_73 ?_
        refine x_get hx hb hts hown hK hH 1 (ltw (by decide)) f1 hinX1 rfl 1 (by decide) (List.mem_of_getElem? (i := 3) rfl) rfl dX6_writeTile_76 ?_
        refine lv_iload_n hx hb dX6_writeTile_79 rfl (lv_at hl 2 rfl) ?_
        refine x_iald hx hb hK hH 3 (ltw (by decide)) f3 (by omega) (by omega) (by omega) dX6_writeTile_80 ?_
        have hv46 := hlk cell
        refine x_cSID (As := [.int (iZ (lk cell))]) (rest := [.ref (xad E 0)]) hx hb hml hts hown hK hST hOK hH (c_X6_keyName l E ST hSF σ42 (lk cell)  (by omega) (by omega)) (va_cwS 1 hts gX6_writeTile_X6_keyName rfl rfl rfl (by decide +kernel) ⟨Nat.le_of_ble_eq_true rfl, Nat.le_of_ble_eq_true rfl⟩) rfl hl.1 rfl (Nat.le_of_ble_eq_true rfl) dX6_writeTile_81 ⟨Nat.le_of_ble_eq_true rfl, Nat.le_of_ble_eq_true rfl⟩ (fun z u h => h) (fun H locs hH => ?_)
        refine x_cVV (As := [.int (iZ (97 + (lk cell)))]) (rest := []) hx hb hml hts hown hK hST hOK hH 0 (c_X6_write l E ST hSF σ42 (97 + (lk cell)) hv se sf ll_68 lq_68 f0 f84 (by omega) (by omega)) (cwV 1 hts gX6_writeTile_X6_write rfl rfl rfl (by decide +kernel) ⟨Nat.le_of_ble_eq_true rfl, Nat.le_of_ble_eq_true rfl⟩) (ltw (by decide)) f0 rfl rfl hl.1 rfl (Nat.le_of_ble_eq_true rfl) dX6_writeTile_84 ⟨Nat.le_of_ble_eq_true rfl, Nat.le_of_ble_eq_true rfl⟩ (fun σ51 H locs hp52 hH => ?_)
        obtain ⟨⟨lq_84, ll_84, f0, f84, hw84⟩, fr53⟩ := hp52
        have f1 : σ51 1 = oB 0 [.ref (xad E 2), .ref (xad E 3), .ref (xad E 4), .ref (xad E 5), .ref (xad E 6), .int (iZ pn), .int (iZ nw), .int (iZ sh), .long (lZ wk)] := (fr53 1 (by omega) (by omega)).trans f1
        have f2 : σ51 2 = aI E 25 op := (fr53 2 (by omega) (by omega)).trans f2
        have f3 : σ51 3 = aI E 25 lk := (fr53 3 (by omega) (by omega)).trans f3
        have f4 : σ51 4 = aI E 6 kp := (fr53 4 (by omega) (by omega)).trans f4
        have f5 : σ51 5 = aI E 3 wc := (fr53 5 (by omega) (by omega)).trans f5
        have f6 : σ51 6 = aI E 5 ro1 := (fr53 6 (by omega) (by omega)).trans f6
        have hb84 := wr_b hw84 (by omega)
        have s3 : (lq_84, ll_84) = List.foldl wrF (lq, ll) ([tlC (op cell)] ++ pinL pn cell ++ lkL lk cell) := by rw [show lkL lk cell = [35, 97 + lk cell] from if_neg c62]; exact fl_w2 s2 hw68 hw84
        refine lv_aload_n hx hb dX6_writeTile_87 rfl (lv_at hl 1 rfl) ?_
        refine x_get hx hb hts hown hK hH 0 (ltw (by decide)) f0 hinX6 rfl 0 (by decide) (List.mem_of_getElem? (i := 1) rfl) rfl dX6_writeTile_88 ?_
        refine lv_iload_n hx hb dX6_writeTile_91 rfl (lv_at hl 2 rfl) ?_
        refine x_cVID (As := [.int (iZ cell)]) (rest := []) hx hb hml hts hown hK hST hOK hH 1 (c_X1_countWalkers l E ST hSF σ51 1 cell op lk kp wc pn nw sh wk ⟨f1, f2, f3, f4, f5, _, f6⟩ (by omega) (by omega) (by assumption) (by omega)) (cwV 1 hts gX6_writeTile_X1_countWalkers rfl rfl rfl (by decide +kernel) ⟨Nat.le_of_ble_eq_true rfl, Nat.le_of_ble_eq_true rfl⟩) (ltw (by decide)) f1 rfl rfl hl.1 rfl (Nat.le_of_ble_eq_true rfl) dX6_writeTile_92 ⟨Nat.le_of_ble_eq_true rfl, Nat.le_of_ble_eq_true rfl⟩ (fun z u h => h) (fun H locs hH => ?_)
        have hcb := cntK_b (f := wc) (x := cell) hnw.1
        refine x_if_le (tgt := 104) hx hb dX6_writeTile_95 (by decide) (by omega) (fun c95 => ?_) (fun c95 => ?_)
        · have s4 : (lq_84, ll_84) = List.foldl wrF (lq, ll) ([tlC (op cell)] ++ pinL pn cell ++ lkL lk cell ++ wkL wc nw cell) := by rw [show wkL wc nw cell = [] from if_neg (by omega)]; exact fl_n s3
          refine x_iconst hx hb dX6_writeTile_104 ?_
          refine lv_istore_n (lv' := [(3, .int (iZ 0)), (2, .int (iZ (op cell))), (0, .ref (xad E 0)), (1, .int (iZ cell))]) hx hb dX6_writeTile_105 rfl hl (by decide) rfl (fun ls hl => ?_)
          have K106 : ∀ (nK : Nat) (i : Int) (lqx : Int → Int) (llx : Int) (σ58 : xW) (H : Heap) (locs : List Loc) (ls : Array Slot), (6 - i).toNat < nK → (0 ≤ i ∧ i ≤ 6) → (0 ≤ llx ∧ llx ≤ 35) → ((lqx, llx) = List.foldl wrF (lq, ll) ([tlC (op cell)] ++ pinL pn cell ++ lkL lk cell ++ wkL wc nw cell ++ kyL kp cell i)) → σ58 0 = oB 4 [.ref (xad E 1), .ref (xad E 7), .ref (xad E 13), .ref (xad E 19), .int (iZ (b2 hv)), .ref (xad E 73), .ref (xad E 75), .ref (xad E 81), .int (iZ se), .int (iZ sf), .ref (xad E 84), .int (iZ llx)] → σ58 1 = oB 0 [.ref (xad E 2), .ref (xad E 3), .ref (xad E 4), .ref (xad E 5), .ref (xad E 6), .int (iZ pn), .int (iZ nw), .int (iZ sh), .long (lZ wk)] → σ58 2 = aI E 25 op → σ58 3 = aI E 25 lk → σ58 4 = aI E 6 kp → σ58 5 = aI E 3 wc → σ58 6 = aI E 5 ro1 → σ58 84 = aC E 35 lqx → (∀ j : Nat, j ≠ 0 → j ≠ 84 → σ58 j = σ51 j) → Hx E (xA E s.heap.size) s.heap σ58 H locs → lv_has ls 4 [(3, .int (iZ i)), (2, .int (iZ (op cell))), (0, .ref (xad E 0)), (1, .int (iZ cell))] → W p l e rm_X6_writeTile s m args below meth c H locs 0 0 Q (F0 m 106 ls []) := by
            intro n106
            induction n106 with
            | zero =>
              intro i lqx llx σ58 H locs ls hm
              exact absurd hm (by first | exact Nat.not_lt_zero _ | omega)
            | succ n106 ih106 =>
              intro i lqx llx σ58 H locs ls hm106 hi hlb hlx f0 f1 f2 f3 f4 f5 f6 f84 fr59 hH hl
              refine lv_iload_n hx hb dX6_writeTile_106 rfl (lv_at hl 0 rfl) ?_
              refine x_bipush hx hb dX6_writeTile_107 (by decide) ?_
              refine x_icmp_ge (tgt := 139) hx hb dX6_writeTile_109 (by decide) (by omega) (by decide) (fun c109 => ?_) (fun c109 => ?_)
              · subst hQ
                exact x_vret hx hb hr hlocks hH (Nat.le_of_ble_eq_true rfl) (Nat.le_of_ble_eq_true rfl) ⟨⟨lqx, llx, f0, f84, (by have e9 : i = 6 := (by omega); subst e9; exact hlx), (by omega)⟩, fun j hj0 hj1 => ((fr59 j (by omega) (by omega)).trans ((fr53 j (by omega) (by omega)).trans ((fr44 j (by omega) (by omega)).trans (fr5 j (by omega) (by omega)))))⟩ dX6_writeTile_139
              · refine lv_aload_n hx hb dX6_writeTile_112 rfl (lv_at hl 2 rfl) ?_
                refine x_get hx hb hts hown hK hH 0 (ltw (by decide)) f0 hinX6 rfl 0 (by decide) (List.mem_of_getElem? (i := 1) rfl) rfl dX6_writeTile_113 ?_
                refine x_get hx hb hts hown hK hH 1 (ltw (by decide)) f1 hinX1 rfl 2 (by decide) (List.mem_of_getElem? (i := 4) rfl) rfl dX6_writeTile_116 ?_
                refine lv_iload_n hx hb dX6_writeTile_119 rfl (lv_at hl 0 rfl) ?_
                refine x_iald hx hb hK hH 4 (ltw (by decide)) f4 (by omega) (by omega) (by omega) dX6_writeTile_120 ?_
                have hv60 := hkp i
                refine lv_iload_n hx hb dX6_writeTile_121 rfl (lv_at hl 3 rfl) ?_
                refine x_icmp_ne (tgt := 133) hx hb dX6_writeTile_122 (by decide) (by omega) (by omega) (fun c122 => ?_) (fun c122 => ?_)
                · refine x_iinc (lv' := [(3, .int (iZ (i + 1))), (2, .int (iZ (op cell))), (0, .ref (xad E 0)), (1, .int (iZ cell))]) hx hb dX6_writeTile_133 hl (k := 0) rfl (by decide) rfl (fun ls hl => ?_)
                  refine lv_goto (tgt := 106) hx hb dX6_writeTile_136 (by decide) ?_
                  exact ih106 (i + 1) lqx llx σ58 _ _ _ (by omega) (by omega) (by omega) (by rw [kyL_s hi.1]; first | (rw [if_pos c122, ← List.append_assoc]; exact fl_w hlx hw130) | (rw [if_neg c122, List.append_nil]; exact hlx)) f0 f1 f2 f3 f4 f5 f6 f84 (fun j hj0 hj1 => (fr59 j (by omega) (by omega))) hH (lv_sub hl [0, 1, 2, 3] rfl)
                · refine lv_aload_n hx hb dX6_writeTile_125 rfl (lv_at hl 2 rfl) ?_
                  refine lv_iload_n hx hb dX6_writeTile_126 rfl (lv_at hl 0 rfl) ?_
                  refine x_cSID (As := [.int (iZ i)]) (rest := [.ref (xad E 0)]) hx hb hml hts hown hK hST hOK hH (c_X6_keyName l E ST hSF σ58 i  (by omega) (by omega)) (va_cwS 1 hts gX6_writeTile_X6_keyName rfl rfl rfl (by decide +kernel) ⟨Nat.le_of_ble_eq_true rfl, Nat.le_of_ble_eq_true rfl⟩) rfl hl.1 rfl (Nat.le_of_ble_eq_true rfl) dX6_writeTile_127 ⟨Nat.le_of_ble_eq_true rfl, Nat.le_of_ble_eq_true rfl⟩ (fun z u h => h) (fun H locs hH => ?_)
                  refine x_cVV (As := [.int (iZ (97 + i))]) (rest := []) hx hb hml hts hown hK hST hOK hH 0 (c_X6_write l E ST hSF σ58 (97 + i) hv se sf llx lqx f0 f84 (by omega) (by omega)) (cwV 1 hts gX6_writeTile_X6_write rfl rfl rfl (by decide +kernel) ⟨Nat.le_of_ble_eq_true rfl, Nat.le_of_ble_eq_true rfl⟩) (ltw (by decide)) f0 rfl rfl hl.1 rfl (Nat.le_of_ble_eq_true rfl) dX6_writeTile_130 ⟨Nat.le_of_ble_eq_true rfl, Nat.le_of_ble_eq_true rfl⟩ (fun σ65 H locs hp66 hH => ?_)
                  obtain ⟨⟨lq_130, ll_130, f0, f84, hw130⟩, fr67⟩ := hp66
                  have f1 : σ65 1 = oB 0 [.ref (xad E 2), .ref (xad E 3), .ref (xad E 4), .ref (xad E 5), .ref (xad E 6), .int (iZ pn), .int (iZ nw), .int (iZ sh), .long (lZ wk)] := (fr67 1 (by omega) (by omega)).trans f1
                  have f2 : σ65 2 = aI E 25 op := (fr67 2 (by omega) (by omega)).trans f2
                  have f3 : σ65 3 = aI E 25 lk := (fr67 3 (by omega) (by omega)).trans f3
                  have f4 : σ65 4 = aI E 6 kp := (fr67 4 (by omega) (by omega)).trans f4
                  have f5 : σ65 5 = aI E 3 wc := (fr67 5 (by omega) (by omega)).trans f5
                  have f6 : σ65 6 = aI E 5 ro1 := (fr67 6 (by omega) (by omega)).trans f6
                  have hb130 := wr_b hw130 (by omega)
                  refine x_iinc (lv' := [(3, .int (iZ (i + 1))), (2, .int (iZ (op cell))), (0, .ref (xad E 0)), (1, .int (iZ cell))]) hx hb dX6_writeTile_133 hl (k := 0) rfl (by decide) rfl (fun ls hl => ?_)
                  refine lv_goto (tgt := 106) hx hb dX6_writeTile_136 (by decide) ?_
                  exact ih106 (i + 1) lq_130 ll_130 σ65 _ _ _ (by omega) (by omega) (by omega) (by rw [kyL_s hi.1]; first | (rw [if_pos c122, ← List.append_assoc]; exact fl_w hlx hw130) | (rw [if_neg c122, List.append_nil]; exact hlx)) f0 f1 f2 f3 f4 f5 f6 f84 (fun j hj0 hj1 => ((fr67 j (by omega) (by omega)).trans (fr59 j (by omega) (by omega)))) hH (lv_sub hl [0, 1, 2, 3] rfl)
          exact K106 7 0 lq_84 ll_84 σ51 _ _ _ (by first | omega | decide) (by omega) (by omega) (by rw [kyL_0]; exact fl_n s4) f0 f1 f2 f3 f4 f5 f6 f84 (fun j _ _ => rfl) hH (lv_sub hl [0, 1, 2, 3] rfl)
        · refine lv_aload_n hx hb dX6_writeTile_98 rfl (lv_at hl 1 rfl) ?_
          refine x_bipush hx hb dX6_writeTile_99 (by decide) ?_
          refine x_cVV (As := [.int (iZ 64)]) (rest := []) hx hb hml hts hown hK hST hOK hH 0 (c_X6_write l E ST hSF σ51 64 hv se sf ll_84 lq_84 f0 f84 (by omega) (by omega)) (cwV 1 hts gX6_writeTile_X6_write rfl rfl rfl (by decide +kernel) ⟨Nat.le_of_ble_eq_true rfl, Nat.le_of_ble_eq_true rfl⟩) (ltw (by decide)) f0 rfl rfl hl.1 rfl (Nat.le_of_ble_eq_true rfl) dX6_writeTile_101 ⟨Nat.le_of_ble_eq_true rfl, Nat.le_of_ble_eq_true rfl⟩ (fun σ70 H locs hp71 hH => ?_)
          obtain ⟨⟨lq_101, ll_101, f0, f84, hw101⟩, fr72⟩ := hp71
          have f1 : σ70 1 = oB 0 [.ref (xad E 2), .ref (xad E 3), .ref (xad E 4), .ref (xad E 5), .ref (xad E 6), .int (iZ pn), .int (iZ nw), .int (iZ sh), .long (lZ wk)] := (fr72 1 (by omega) (by omega)).trans f1
          have f2 : σ70 2 = aI E 25 op := (fr72 2 (by omega) (by omega)).trans f2
          have f3 : σ70 3 = aI E 25 lk := (fr72 3 (by omega) (by omega)).trans f3
          have f4 : σ70 4 = aI E 6 kp := (fr72 4 (by omega) (by omega)).trans f4
          have f5 : σ70 5 = aI E 3 wc := (fr72 5 (by omega) (by omega)).trans f5
          have f6 : σ70 6 = aI E 5 ro1 := (fr72 6 (by omega) (by omega)).trans f6
          have hb101 := wr_b hw101 (by omega)
          have s4 : (lq_101, ll_101) = List.foldl wrF (lq, ll) ([tlC (op cell)] ++ pinL pn cell ++ lkL lk cell ++ wkL wc nw cell) := by rw [show wkL wc nw cell = [64] from if_pos (by omega)]; exact fl_w s3 hw101
          refine x_iconst hx hb dX6_writeTile_104 ?_
          refine lv_istore_n (lv' := [(3, .int (iZ 0)), (2, .int (iZ (op cell))), (0, .ref (xad E 0)), (1, .int (iZ cell))]) hx hb dX6_writeTile_105 rfl hl (by decide) rfl (fun ls hl => ?_)
          have K106 : ∀ (nK : Nat) (i : Int) (lqx : Int → Int) (llx : Int) (σ74 : xW) (H : Heap) (locs : List Loc) (ls : Array Slot), (6 - i).toNat < nK → (0 ≤ i ∧ i ≤ 6) → (0 ≤ llx ∧ llx ≤ 35) → ((lqx, llx) = List.foldl wrF (lq, ll) ([tlC (op cell)] ++ pinL pn cell ++ lkL lk cell ++ wkL wc nw cell ++ kyL kp cell i)) → σ74 0 = oB 4 [.ref (xad E 1), .ref (xad E 7), .ref (xad E 13), .ref (xad E 19), .int (iZ (b2 hv)), .ref (xad E 73), .ref (xad E 75), .ref (xad E 81), .int (iZ se), .int (iZ sf), .ref (xad E 84), .int (iZ llx)] → σ74 1 = oB 0 [.ref (xad E 2), .ref (xad E 3), .ref (xad E 4), .ref (xad E 5), .ref (xad E 6), .int (iZ pn), .int (iZ nw), .int (iZ sh), .long (lZ wk)] → σ74 2 = aI E 25 op → σ74 3 = aI E 25 lk → σ74 4 = aI E 6 kp → σ74 5 = aI E 3 wc → σ74 6 = aI E 5 ro1 → σ74 84 = aC E 35 lqx → (∀ j : Nat, j ≠ 0 → j ≠ 84 → σ74 j = σ70 j) → Hx E (xA E s.heap.size) s.heap σ74 H locs → lv_has ls 4 [(3, .int (iZ i)), (2, .int (iZ (op cell))), (0, .ref (xad E 0)), (1, .int (iZ cell))] → W p l e rm_X6_writeTile s m args below meth c H locs 0 0 Q (F0 m 106 ls []) := by
            intro n106
            induction n106 with
            | zero =>
              intro i lqx llx σ74 H locs ls hm
              exact absurd hm (by first | exact Nat.not_lt_zero _ | omega)
            | succ n106 ih106 =>
              intro i lqx llx σ74 H locs ls hm106 hi hlb hlx f0 f1 f2 f3 f4 f5 f6 f84 fr75 hH hl
              refine lv_iload_n hx hb dX6_writeTile_106 rfl (lv_at hl 0 rfl) ?_
              refine x_bipush hx hb dX6_writeTile_107 (by decide) ?_
              refine x_icmp_ge (tgt := 139) hx hb dX6_writeTile_109 (by decide) (by omega) (by decide) (fun c109 => ?_) (fun c109 => ?_)
              · subst hQ
                exact x_vret hx hb hr hlocks hH (Nat.le_of_ble_eq_true rfl) (Nat.le_of_ble_eq_true rfl) ⟨⟨lqx, llx, f0, f84, (by have e9 : i = 6 := (by omega); subst e9; exact hlx), (by omega)⟩, fun j hj0 hj1 => ((fr75 j (by omega) (by omega)).trans ((fr72 j (by omega) (by omega)).trans ((fr53 j (by omega) (by omega)).trans ((fr44 j (by omega) (by omega)).trans (fr5 j (by omega) (by omega))))))⟩ dX6_writeTile_139
              · refine lv_aload_n hx hb dX6_writeTile_112 rfl (lv_at hl 2 rfl) ?_
                refine x_get hx hb hts hown hK hH 0 (ltw (by decide)) f0 hinX6 rfl 0 (by decide) (List.mem_of_getElem? (i := 1) rfl) rfl dX6_writeTile_113 ?_
                refine x_get hx hb hts hown hK hH 1 (ltw (by decide)) f1 hinX1 rfl 2 (by decide) (List.mem_of_getElem? (i := 4) rfl) rfl dX6_writeTile_116 ?_
                refine lv_iload_n hx hb dX6_writeTile_119 rfl (lv_at hl 0 rfl) ?_
                refine x_iald hx hb hK hH 4 (ltw (by decide)) f4 (by omega) (by omega) (by omega) dX6_writeTile_120 ?_
                have hv76 := hkp i
                refine lv_iload_n hx hb dX6_writeTile_121 rfl (lv_at hl 3 rfl) ?_
                refine x_icmp_ne (tgt := 133) hx hb dX6_writeTile_122 (by decide) (by omega) (by omega) (fun c122 => ?_) (fun c122 => ?_)
                · refine x_iinc (lv' := [(3, .int (iZ (i + 1))), (2, .int (iZ (op cell))), (0, .ref (xad E 0)), (1, .int (iZ cell))]) hx hb dX6_writeTile_133 hl (k := 0) rfl (by decide) rfl (fun ls hl => ?_)
                  refine lv_goto (tgt := 106) hx hb dX6_writeTile_136 (by decide) ?_
                  exact ih106 (i + 1) lqx llx σ74 _ _ _ (by omega) (by omega) (by omega) (by rw [kyL_s hi.1]; first | (rw [if_pos c122, ← List.append_assoc]; exact fl_w hlx hw130) | (rw [if_neg c122, List.append_nil]; exact hlx)) f0 f1 f2 f3 f4 f5 f6 f84 (fun j hj0 hj1 => (fr75 j (by omega) (by omega))) hH (lv_sub hl [0, 1, 2, 3] rfl)
                · refine lv_aload_n hx hb dX6_writeTile_125 rfl (lv_at hl 2 rfl) ?_
                  refine lv_iload_n hx hb dX6_writeTile_126 rfl (lv_at hl 0 rfl) ?_
                  refine x_cSID (As := [.int (iZ i)]) (rest := [.ref (xad E 0)]) hx hb hml hts hown hK hST hOK hH (c_X6_keyName l E ST hSF σ74 i  (by omega) (by omega)) (va_cwS 1 hts gX6_writeTile_X6_keyName rfl rfl rfl (by decide +kernel) ⟨Nat.le_of_ble_eq_true rfl, Nat.le_of_ble_eq_true rfl⟩) rfl hl.1 rfl (Nat.le_of_ble_eq_true rfl) dX6_writeTile_127 ⟨Nat.le_of_ble_eq_true rfl, Nat.le_of_ble_eq_true rfl⟩ (fun z u h => h) (fun H locs hH => ?_)
                  refine x_cVV (As := [.int (iZ (97 + i))]) (rest := []) hx hb hml hts hown hK hST hOK hH 0 (c_X6_write l E ST hSF σ74 (97 + i) hv se sf llx lqx f0 f84 (by omega) (by omega)) (cwV 1 hts gX6_writeTile_X6_write rfl rfl rfl (by decide +kernel) ⟨Nat.le_of_ble_eq_true rfl, Nat.le_of_ble_eq_true rfl⟩) (ltw (by decide)) f0 rfl rfl hl.1 rfl (Nat.le_of_ble_eq_true rfl) dX6_writeTile_130 ⟨Nat.le_of_ble_eq_true rfl, Nat.le_of_ble_eq_true rfl⟩ (fun σ81 H locs hp82 hH => ?_)
                  obtain ⟨⟨lq_130, ll_130, f0, f84, hw130⟩, fr83⟩ := hp82
                  have f1 : σ81 1 = oB 0 [.ref (xad E 2), .ref (xad E 3), .ref (xad E 4), .ref (xad E 5), .ref (xad E 6), .int (iZ pn), .int (iZ nw), .int (iZ sh), .long (lZ wk)] := (fr83 1 (by omega) (by omega)).trans f1
                  have f2 : σ81 2 = aI E 25 op := (fr83 2 (by omega) (by omega)).trans f2
                  have f3 : σ81 3 = aI E 25 lk := (fr83 3 (by omega) (by omega)).trans f3
                  have f4 : σ81 4 = aI E 6 kp := (fr83 4 (by omega) (by omega)).trans f4
                  have f5 : σ81 5 = aI E 3 wc := (fr83 5 (by omega) (by omega)).trans f5
                  have f6 : σ81 6 = aI E 5 ro1 := (fr83 6 (by omega) (by omega)).trans f6
                  have hb130 := wr_b hw130 (by omega)
                  refine x_iinc (lv' := [(3, .int (iZ (i + 1))), (2, .int (iZ (op cell))), (0, .ref (xad E 0)), (1, .int (iZ cell))]) hx hb dX6_writeTile_133 hl (k := 0) rfl (by decide) rfl (fun ls hl => ?_)
                  refine lv_goto (tgt := 106) hx hb dX6_writeTile_136 (by decide) ?_
                  exact ih106 (i + 1) lq_130 ll_130 σ81 _ _ _ (by omega) (by omega) (by omega) (by rw [kyL_s hi.1]; first | (rw [if_pos c122, ← List.append_assoc]; exact fl_w hlx hw130) | (rw [if_neg c122, List.append_nil]; exact hlx)) f0 f1 f2 f3 f4 f5 f6 f84 (fun j hj0 hj1 => ((fr83 j (by omega) (by omega)).trans (fr75 j (by omega) (by omega)))) hH (lv_sub hl [0, 1, 2, 3] rfl)
          exact K106 7 0 lq_101 ll_101 σ70 _ _ _ (by first | omega | decide) (by omega) (by omega) (by rw [kyL_0]; exact fl_n s4) f0 f1 f2 f3 f4 f5 f6 f84 (fun j _ _ => rfl) hH (lv_sub hl [0, 1, 2, 3] rfl)
    · have c43 := of_decide_eq_true c43
      refine lv_aload_n hx hb dX6_writeTile_46 rfl (lv_at hl 1 rfl) ?_
      refine x_bipush hx hb dX6_writeTile_47 (by decide) ?_
      refine x_cVV (As := [.int (iZ 42)]) (rest := []) hx hb hml hts hown hK hST hOK hH 0 (c_X6_write l E ST hSF σ3 42 hv se sf ll_32 lq_32 f0 f84 (by omega) (by omega)) (cwV 1 hts gX6_writeTile_X6_write rfl rfl rfl (by decide +kernel) ⟨Nat.le_of_ble_eq_true rfl, Nat.le_of_ble_eq_true rfl⟩) (ltw (by decide)) f0 rfl rfl hl.1 rfl (Nat.le_of_ble_eq_true rfl) dX6_writeTile_49 ⟨Nat.le_of_ble_eq_true rfl, Nat.le_of_ble_eq_true rfl⟩ (fun σ86 H locs hp87 hH => ?_)
      obtain ⟨⟨lq_49, ll_49, f0, f84, hw49⟩, fr88⟩ := hp87
      have f1 : σ86 1 = oB 0 [.ref (xad E 2), .ref (xad E 3), .ref (xad E 4), .ref (xad E 5), .ref (xad E 6), .int (iZ pn), .int (iZ nw), .int (iZ sh), .long (lZ wk)] := (fr88 1 (by omega) (by omega)).trans f1
      have f2 : σ86 2 = aI E 25 op := (fr88 2 (by omega) (by omega)).trans f2
      have f3 : σ86 3 = aI E 25 lk := (fr88 3 (by omega) (by omega)).trans f3
      have f4 : σ86 4 = aI E 6 kp := (fr88 4 (by omega) (by omega)).trans f4
      have f5 : σ86 5 = aI E 3 wc := (fr88 5 (by omega) (by omega)).trans f5
      have f6 : σ86 6 = aI E 5 ro1 := (fr88 6 (by omega) (by omega)).trans f6
      have hb49 := wr_b hw49 (by omega)
      have s2 : (lq_49, ll_49) = List.foldl wrF (lq, ll) ([tlC (op cell)] ++ pinL pn cell) := by rw [show pinL pn cell = [42] from if_pos c43]; exact fl_w s1 hw49
      refine lv_aload_n hx hb dX6_writeTile_52 rfl (lv_at hl 1 rfl) ?_
      refine x_get hx hb hts hown hK hH 0 (ltw (by decide)) f0 hinX6 rfl 0 (by decide) (List.mem_of_getElem? (i := 1) rfl) rfl dX6_writeTile_53 ?_
      refine x_get hx hb hts hown hK hH 1 (ltw (by decide)) f1 hinX1 rfl 1 (by decide) (List.mem_of_getElem? (i := 3) rfl) rfl dX6_writeTile_56 ?_
      refine lv_iload_n hx hb dX6_writeTile_59 rfl (lv_at hl 2 rfl) ?_
      refine x_iald hx hb hK hH 3 (ltw (by decide)) f3 (by omega) (by omega) (by omega) dX6_writeTile_60 ?_
      have hv90 := hlk cell
      refine x_iconst hx hb dX6_writeTile_61 ?_
      refine x_icmp_eq (tgt := 87) hx hb dX6_writeTile_62 (by decide) (by omega) (by decide) (fun c62 => ?_) (fun c62 => ?_)
      · have s3 : (lq_49, ll_49) = List.foldl wrF (lq, ll) ([tlC (op cell)] ++ pinL pn cell ++ lkL lk cell) := by rw [show lkL lk cell = [] from if_pos c62]; exact fl_n s2
        refine lv_aload_n hx hb dX6_writeTile_87 rfl (lv_at hl 1 rfl) ?_
        refine x_get hx hb hts hown hK hH 0 (ltw (by decide)) f0 hinX6 rfl 0 (by decide) (List.mem_of_getElem? (i := 1) rfl) rfl dX6_writeTile_88 ?_
        refine lv_iload_n hx hb dX6_writeTile_91 rfl (lv_at hl 2 rfl) ?_
        refine x_cVID (As := [.int (iZ cell)]) (rest := []) hx hb hml hts hown hK hST hOK hH 1 (c_X1_countWalkers l E ST hSF σ86 1 cell op lk kp wc pn nw sh wk ⟨f1, f2, f3, f4, f5, _, f6⟩ (by omega) (by omega) (by assumption) (by omega)) (cwV 1 hts gX6_writeTile_X1_countWalkers rfl rfl rfl (by decide +kernel) ⟨Nat.le_of_ble_eq_true rfl, Nat.le_of_ble_eq_true rfl⟩) (ltw (by decide)) f1 rfl rfl hl.1 rfl (Nat.le_of_ble_eq_true rfl) dX6_writeTile_92 ⟨Nat.le_of_ble_eq_true rfl, Nat.le_of_ble_eq_true rfl⟩ (fun z u h => h) (fun H locs hH => ?_)
        have hcb := cntK_b (f := wc) (x := cell) hnw.1
        refine x_if_le (tgt := 104) hx hb dX6_writeTile_95 (by decide) (by omega) (fun c95 => ?_) (fun c95 => ?_)
        · have s4 : (lq_49, ll_49) = List.foldl wrF (lq, ll) ([tlC (op cell)] ++ pinL pn cell ++ lkL lk cell ++ wkL wc nw cell) := by rw [show wkL wc nw cell = [] from if_neg (by omega)]; exact fl_n s3
          refine x_iconst hx hb dX6_writeTile_104 ?_
          refine lv_istore_n (lv' := [(3, .int (iZ 0)), (2, .int (iZ (op cell))), (0, .ref (xad E 0)), (1, .int (iZ cell))]) hx hb dX6_writeTile_105 rfl hl (by decide) rfl (fun ls hl => ?_)
          have K106 : ∀ (nK : Nat) (i : Int) (lqx : Int → Int) (llx : Int) (σ94 : xW) (H : Heap) (locs : List Loc) (ls : Array Slot), (6 - i).toNat < nK → (0 ≤ i ∧ i ≤ 6) → (0 ≤ llx ∧ llx ≤ 35) → ((lqx, llx) = List.foldl wrF (lq, ll) ([tlC (op cell)] ++ pinL pn cell ++ lkL lk cell ++ wkL wc nw cell ++ kyL kp cell i)) → σ94 0 = oB 4 [.ref (xad E 1), .ref (xad E 7), .ref (xad E 13), .ref (xad E 19), .int (iZ (b2 hv)), .ref (xad E 73), .ref (xad E 75), .ref (xad E 81), .int (iZ se), .int (iZ sf), .ref (xad E 84), .int (iZ llx)] → σ94 1 = oB 0 [.ref (xad E 2), .ref (xad E 3), .ref (xad E 4), .ref (xad E 5), .ref (xad E 6), .int (iZ pn), .int (iZ nw), .int (iZ sh), .long (lZ wk)] → σ94 2 = aI E 25 op → σ94 3 = aI E 25 lk → σ94 4 = aI E 6 kp → σ94 5 = aI E 3 wc → σ94 6 = aI E 5 ro1 → σ94 84 = aC E 35 lqx → (∀ j : Nat, j ≠ 0 → j ≠ 84 → σ94 j = σ86 j) → Hx E (xA E s.heap.size) s.heap σ94 H locs → lv_has ls 4 [(3, .int (iZ i)), (2, .int (iZ (op cell))), (0, .ref (xad E 0)), (1, .int (iZ cell))] → W p l e rm_X6_writeTile s m args below meth c H locs 0 0 Q (F0 m 106 ls []) := by
            intro n106
            induction n106 with
            | zero =>
              intro i lqx llx σ94 H locs ls hm
              exact absurd hm (by first | exact Nat.not_lt_zero _ | omega)
            | succ n106 ih106 =>
              intro i lqx llx σ94 H locs ls hm106 hi hlb hlx f0 f1 f2 f3 f4 f5 f6 f84 fr95 hH hl
              refine lv_iload_n hx hb dX6_writeTile_106 rfl (lv_at hl 0 rfl) ?_
              refine x_bipush hx hb dX6_writeTile_107 (by decide) ?_
              refine x_icmp_ge (tgt := 139) hx hb dX6_writeTile_109 (by decide) (by omega) (by decide) (fun c109 => ?_) (fun c109 => ?_)
              · subst hQ
                exact x_vret hx hb hr hlocks hH (Nat.le_of_ble_eq_true rfl) (Nat.le_of_ble_eq_true rfl) ⟨⟨lqx, llx, f0, f84, (by have e9 : i = 6 := (by omega); subst e9; exact hlx), (by omega)⟩, fun j hj0 hj1 => ((fr95 j (by omega) (by omega)).trans ((fr88 j (by omega) (by omega)).trans (fr5 j (by omega) (by omega))))⟩ dX6_writeTile_139
              · refine lv_aload_n hx hb dX6_writeTile_112 rfl (lv_at hl 2 rfl) ?_
                refine x_get hx hb hts hown hK hH 0 (ltw (by decide)) f0 hinX6 rfl 0 (by decide) (List.mem_of_getElem? (i := 1) rfl) rfl dX6_writeTile_113 ?_
                refine x_get hx hb hts hown hK hH 1 (ltw (by decide)) f1 hinX1 rfl 2 (by decide) (List.mem_of_getElem? (i := 4) rfl) rfl dX6_writeTile_116 ?_
                refine lv_iload_n hx hb dX6_writeTile_119 rfl (lv_at hl 0 rfl) ?_
                refine x_iald hx hb hK hH 4 (ltw (by decide)) f4 (by omega) (by omega) (by omega) dX6_writeTile_120 ?_
                have hv96 := hkp i
                refine lv_iload_n hx hb dX6_writeTile_121 rfl (lv_at hl 3 rfl) ?_
                refine x_icmp_ne (tgt := 133) hx hb dX6_writeTile_122 (by decide) (by omega) (by omega) (fun c122 => ?_) (fun c122 => ?_)
                · refine x_iinc (lv' := [(3, .int (iZ (i + 1))), (2, .int (iZ (op cell))), (0, .ref (xad E 0)), (1, .int (iZ cell))]) hx hb dX6_writeTile_133 hl (k := 0) rfl (by decide) rfl (fun ls hl => ?_)
                  refine lv_goto (tgt := 106) hx hb dX6_writeTile_136 (by decide) ?_
                  exact ih106 (i + 1) lqx llx σ94 _ _ _ (by omega) (by omega) (by omega) (by rw [kyL_s hi.1]; first | (rw [if_pos c122, ← List.append_assoc]; exact fl_w hlx hw130) | (rw [if_neg c122, List.append_nil]; exact hlx)) f0 f1 f2 f3 f4 f5 f6 f84 (fun j hj0 hj1 => (fr95 j (by omega) (by omega))) hH (lv_sub hl [0, 1, 2, 3] rfl)
                · refine lv_aload_n hx hb dX6_writeTile_125 rfl (lv_at hl 2 rfl) ?_
                  refine lv_iload_n hx hb dX6_writeTile_126 rfl (lv_at hl 0 rfl) ?_
                  refine x_cSID (As := [.int (iZ i)]) (rest := [.ref (xad E 0)]) hx hb hml hts hown hK hST hOK hH (c_X6_keyName l E ST hSF σ94 i  (by omega) (by omega)) (va_cwS 1 hts gX6_writeTile_X6_keyName rfl rfl rfl (by decide +kernel) ⟨Nat.le_of_ble_eq_true rfl, Nat.le_of_ble_eq_true rfl⟩) rfl hl.1 rfl (Nat.le_of_ble_eq_true rfl) dX6_writeTile_127 ⟨Nat.le_of_ble_eq_true rfl, Nat.le_of_ble_eq_true rfl⟩ (fun z u h => h) (fun H locs hH => ?_)
                  refine x_cVV (As := [.int (iZ (97 + i))]) (rest := []) hx hb hml hts hown hK hST hOK hH 0 (c_X6_write l E ST hSF σ94 (97 + i) hv se sf llx lqx f0 f84 (by omega) (by omega)) (cwV 1 hts gX6_writeTile_X6_write rfl rfl rfl (by decide +kernel) ⟨Nat.le_of_ble_eq_true rfl, Nat.le_of_ble_eq_true rfl⟩) (ltw (by decide)) f0 rfl rfl hl.1 rfl (Nat.le_of_ble_eq_true rfl) dX6_writeTile_130 ⟨Nat.le_of_ble_eq_true rfl, Nat.le_of_ble_eq_true rfl⟩ (fun σ101 H locs hp102 hH => ?_)
                  obtain ⟨⟨lq_130, ll_130, f0, f84, hw130⟩, fr103⟩ := hp102
                  have f1 : σ101 1 = oB 0 [.ref (xad E 2), .ref (xad E 3), .ref (xad E 4), .ref (xad E 5), .ref (xad E 6), .int (iZ pn), .int (iZ nw), .int (iZ sh), .long (lZ wk)] := (fr103 1 (by omega) (by omega)).trans f1
                  have f2 : σ101 2 = aI E 25 op := (fr103 2 (by omega) (by omega)).trans f2
                  have f3 : σ101 3 = aI E 25 lk := (fr103 3 (by omega) (by omega)).trans f3
                  have f4 : σ101 4 = aI E 6 kp := (fr103 4 (by omega) (by omega)).trans f4
                  have f5 : σ101 5 = aI E 3 wc := (fr103 5 (by omega) (by omega)).trans f5
                  have f6 : σ101 6 = aI E 5 ro1 := (fr103 6 (by omega) (by omega)).trans f6
                  have hb130 := wr_b hw130 (by omega)
                  refine x_iinc (lv' := [(3, .int (iZ (i + 1))), (2, .int (iZ (op cell))), (0, .ref (xad E 0)), (1, .int (iZ cell))]) hx hb dX6_writeTile_133 hl (k := 0) rfl (by decide) rfl (fun ls hl => ?_)
                  refine lv_goto (tgt := 106) hx hb dX6_writeTile_136 (by decide) ?_
                  exact ih106 (i + 1) lq_130 ll_130 σ101 _ _ _ (by omega) (by omega) (by omega) (by rw [kyL_s hi.1]; first | (rw [if_pos c122, ← List.append_assoc]; exact fl_w hlx hw130) | (rw [if_neg c122, List.append_nil]; exact hlx)) f0 f1 f2 f3 f4 f5 f6 f84 (fun j hj0 hj1 => ((fr103 j (by omega) (by omega)).trans (fr95 j (by omega) (by omega)))) hH (lv_sub hl [0, 1, 2, 3] rfl)
          exact K106 7 0 lq_49 ll_49 σ86 _ _ _ (by first | omega | decide) (by omega) (by omega) (by rw [kyL_0]; exact fl_n s4) f0 f1 f2 f3 f4 f5 f6 f84 (fun j _ _ => rfl) hH (lv_sub hl [0, 1, 2, 3] rfl)
        · refine lv_aload_n hx hb dX6_writeTile_98 rfl (lv_at hl 1 rfl) ?_
          refine x_bipush hx hb dX6_writeTile_99 (by decide) ?_
          refine x_cVV (As := [.int (iZ 64)]) (rest := []) hx hb hml hts hown hK hST hOK hH 0 (c_X6_write l E ST hSF σ86 64 hv se sf ll_49 lq_49 f0 f84 (by omega) (by omega)) (cwV 1 hts gX6_writeTile_X6_write rfl rfl rfl (by decide +kernel) ⟨Nat.le_of_ble_eq_true rfl, Nat.le_of_ble_eq_true rfl⟩) (ltw (by decide)) f0 rfl rfl hl.1 rfl (Nat.le_of_ble_eq_true rfl) dX6_writeTile_101 ⟨Nat.le_of_ble_eq_true rfl, Nat.le_of_ble_eq_true rfl⟩ (fun σ106 H locs hp107 hH => ?_)
          obtain ⟨⟨lq_101, ll_101, f0, f84, hw101⟩, fr108⟩ := hp107
          have f1 : σ106 1 = oB 0 [.ref (xad E 2), .ref (xad E 3), .ref (xad E 4), .ref (xad E 5), .ref (xad E 6), .int (iZ pn), .int (iZ nw), .int (iZ sh), .long (lZ wk)] := (fr108 1 (by omega) (by omega)).trans f1
          have f2 : σ106 2 = aI E 25 op := (fr108 2 (by omega) (by omega)).trans f2
          have f3 : σ106 3 = aI E 25 lk := (fr108 3 (by omega) (by omega)).trans f3
          have f4 : σ106 4 = aI E 6 kp := (fr108 4 (by omega) (by omega)).trans f4
          have f5 : σ106 5 = aI E 3 wc := (fr108 5 (by omega) (by omega)).trans f5
          have f6 : σ106 6 = aI E 5 ro1 := (fr108 6 (by omega) (by omega)).trans f6
          have hb101 := wr_b hw101 (by omega)
          have s4 : (lq_101, ll_101) = List.foldl wrF (lq, ll) ([tlC (op cell)] ++ pinL pn cell ++ lkL lk cell ++ wkL wc nw cell) := by rw [show wkL wc nw cell = [64] from if_pos (by omega)]; exact fl_w s3 hw101
          refine x_iconst hx hb dX6_writeTile_104 ?_
          refine lv_istore_n (lv' := [(3, .int (iZ 0)), (2, .int (iZ (op cell))), (0, .ref (xad E 0)), (1, .int (iZ cell))]) hx hb dX6_writeTile_105 rfl hl (by decide) rfl (fun ls hl => ?_)
          have K106 : ∀ (nK : Nat) (i : Int) (lqx : Int → Int) (llx : Int) (σ110 : xW) (H : Heap) (locs : List Loc) (ls : Array Slot), (6 - i).toNat < nK → (0 ≤ i ∧ i ≤ 6) → (0 ≤ llx ∧ llx ≤ 35) → ((lqx, llx) = List.foldl wrF (lq, ll) ([tlC (op cell)] ++ pinL pn cell ++ lkL lk cell ++ wkL wc nw cell ++ kyL kp cell i)) → σ110 0 = oB 4 [.ref (xad E 1), .ref (xad E 7), .ref (xad E 13), .ref (xad E 19), .int (iZ (b2 hv)), .ref (xad E 73), .ref (xad E 75), .ref (xad E 81), .int (iZ se), .int (iZ sf), .ref (xad E 84), .int (iZ llx)] → σ110 1 = oB 0 [.ref (xad E 2), .ref (xad E 3), .ref (xad E 4), .ref (xad E 5), .ref (xad E 6), .int (iZ pn), .int (iZ nw), .int (iZ sh), .long (lZ wk)] → σ110 2 = aI E 25 op → σ110 3 = aI E 25 lk → σ110 4 = aI E 6 kp → σ110 5 = aI E 3 wc → σ110 6 = aI E 5 ro1 → σ110 84 = aC E 35 lqx → (∀ j : Nat, j ≠ 0 → j ≠ 84 → σ110 j = σ106 j) → Hx E (xA E s.heap.size) s.heap σ110 H locs → lv_has ls 4 [(3, .int (iZ i)), (2, .int (iZ (op cell))), (0, .ref (xad E 0)), (1, .int (iZ cell))] → W p l e rm_X6_writeTile s m args below meth c H locs 0 0 Q (F0 m 106 ls []) := by
            intro n106
            induction n106 with
            | zero =>
              intro i lqx llx σ110 H locs ls hm
              exact absurd hm (by first | exact Nat.not_lt_zero _ | omega)
            | succ n106 ih106 =>
              intro i lqx llx σ110 H locs ls hm106 hi hlb hlx f0 f1 f2 f3 f4 f5 f6 f84 fr111 hH hl
              refine lv_iload_n hx hb dX6_writeTile_106 rfl (lv_at hl 0 rfl) ?_
              refine x_bipush hx hb dX6_writeTile_107 (by decide) ?_
              refine x_icmp_ge (tgt := 139) hx hb dX6_writeTile_109 (by decide) (by omega) (by decide) (fun c109 => ?_) (fun c109 => ?_)
              · subst hQ
                exact x_vret hx hb hr hlocks hH (Nat.le_of_ble_eq_true rfl) (Nat.le_of_ble_eq_true rfl) ⟨⟨lqx, llx, f0, f84, (by have e9 : i = 6 := (by omega); subst e9; exact hlx), (by omega)⟩, fun j hj0 hj1 => ((fr111 j (by omega) (by omega)).trans ((fr108 j (by omega) (by omega)).trans ((fr88 j (by omega) (by omega)).trans (fr5 j (by omega) (by omega)))))⟩ dX6_writeTile_139
              · refine lv_aload_n hx hb dX6_writeTile_112 rfl (lv_at hl 2 rfl) ?_
                refine x_get hx hb hts hown hK hH 0 (ltw (by decide)) f0 hinX6 rfl 0 (by decide) (List.mem_of_getElem? (i := 1) rfl) rfl dX6_writeTile_113 ?_
                refine x_get hx hb hts hown hK hH 1 (ltw (by decide)) f1 hinX1 rfl 2 (by decide) (List.mem_of_getElem? (i := 4) rfl) rfl dX6_writeTile_116 ?_
                refine lv_iload_n hx hb dX6_writeTile_119 rfl (lv_at hl 0 rfl) ?_
                refine x_iald hx hb hK hH 4 (ltw (by decide)) f4 (by omega) (by omega) (by omega) dX6_writeTile_120 ?_
                have hv112 := hkp i
                refine lv_iload_n hx hb dX6_writeTile_121 rfl (lv_at hl 3 rfl) ?_
                refine x_icmp_ne (tgt := 133) hx hb dX6_writeTile_122 (by decide) (by omega) (by omega) (fun c122 => ?_) (fun c122 => ?_)
                · refine x_iinc (lv' := [(3, .int (iZ (i + 1))), (2, .int (iZ (op cell))), (0, .ref (xad E 0)), (1, .int (iZ cell))]) hx hb dX6_writeTile_133 hl (k := 0) rfl (by decide) rfl (fun ls hl => ?_)
                  refine lv_goto (tgt := 106) hx hb dX6_writeTile_136 (by decide) ?_
                  exact ih106 (i + 1) lqx llx σ110 _ _ _ (by omega) (by omega) (by omega) (by rw [kyL_s hi.1]; first | (rw [if_pos c122, ← List.append_assoc]; exact fl_w hlx hw130) | (rw [if_neg c122, List.append_nil]; exact hlx)) f0 f1 f2 f3 f4 f5 f6 f84 (fun j hj0 hj1 => (fr111 j (by omega) (by omega))) hH (lv_sub hl [0, 1, 2, 3] rfl)
                · refine lv_aload_n hx hb dX6_writeTile_125 rfl (lv_at hl 2 rfl) ?_
                  refine lv_iload_n hx hb dX6_writeTile_126 rfl (lv_at hl 0 rfl) ?_
                  refine x_cSID (As := [.int (iZ i)]) (rest := [.ref (xad E 0)]) hx hb hml hts hown hK hST hOK hH (c_X6_keyName l E ST hSF σ110 i  (by omega) (by omega)) (va_cwS 1 hts gX6_writeTile_X6_keyName rfl rfl rfl (by decide +kernel) ⟨Nat.le_of_ble_eq_true rfl, Nat.le_of_ble_eq_true rfl⟩) rfl hl.1 rfl (Nat.le_of_ble_eq_true rfl) dX6_writeTile_127 ⟨Nat.le_of_ble_eq_true rfl, Nat.le_of_ble_eq_true rfl⟩ (fun z u h => h) (fun H locs hH => ?_)
                  refine x_cVV (As := [.int (iZ (97 + i))]) (rest := []) hx hb hml hts hown hK hST hOK hH 0 (c_X6_write l E ST hSF σ110 (97 + i) hv se sf llx lqx f0 f84 (by omega) (by omega)) (cwV 1 hts gX6_writeTile_X6_write rfl rfl rfl (by decide +kernel) ⟨Nat.le_of_ble_eq_true rfl, Nat.le_of_ble_eq_true rfl⟩) (ltw (by decide)) f0 rfl rfl hl.1 rfl (Nat.le_of_ble_eq_true rfl) dX6_writeTile_130 ⟨Nat.le_of_ble_eq_true rfl, Nat.le_of_ble_eq_true rfl⟩ (fun σ117 H locs hp118 hH => ?_)
                  obtain ⟨⟨lq_130, ll_130, f0, f84, hw130⟩, fr119⟩ := hp118
                  have f1 : σ117 1 = oB 0 [.ref (xad E 2), .ref (xad E 3), .ref (xad E 4), .ref (xad E 5), .ref (xad E 6), .int (iZ pn), .int (iZ nw), .int (iZ sh), .long (lZ wk)] := (fr119 1 (by omega) (by omega)).trans f1
                  have f2 : σ117 2 = aI E 25 op := (fr119 2 (by omega) (by omega)).trans f2
                  have f3 : σ117 3 = aI E 25 lk := (fr119 3 (by omega) (by omega)).trans f3
                  have f4 : σ117 4 = aI E 6 kp := (fr119 4 (by omega) (by omega)).trans f4
                  have f5 : σ117 5 = aI E 3 wc := (fr119 5 (by omega) (by omega)).trans f5
                  have f6 : σ117 6 = aI E 5 ro1 := (fr119 6 (by omega) (by omega)).trans f6
                  have hb130 := wr_b hw130 (by omega)
                  refine x_iinc (lv' := [(3, .int (iZ (i + 1))), (2, .int (iZ (op cell))), (0, .ref (xad E 0)), (1, .int (iZ cell))]) hx hb dX6_writeTile_133 hl (k := 0) rfl (by decide) rfl (fun ls hl => ?_)
                  refine lv_goto (tgt := 106) hx hb dX6_writeTile_136 (by decide) ?_
                  exact ih106 (i + 1) lq_130 ll_130 σ117 _ _ _ (by omega) (by omega) (by omega) (by rw [kyL_s hi.1]; first | (rw [if_pos c122, ← List.append_assoc]; exact fl_w hlx hw130) | (rw [if_neg c122, List.append_nil]; exact hlx)) f0 f1 f2 f3 f4 f5 f6 f84 (fun j hj0 hj1 => ((fr119 j (by omega) (by omega)).trans (fr111 j (by omega) (by omega)))) hH (lv_sub hl [0, 1, 2, 3] rfl)
          exact K106 7 0 lq_101 ll_101 σ106 _ _ _ (by first | omega | decide) (by omega) (by omega) (by rw [kyL_0]; exact fl_n s4) f0 f1 f2 f3 f4 f5 f6 f84 (fun j _ _ => rfl) hH (lv_sub hl [0, 1, 2, 3] rfl)
      · refine lv_aload_n hx hb dX6_writeTile_65 rfl (lv_at hl 1 rfl) ?_
        refine x_bipush hx hb dX6_writeTile_66 (by decide) ?_
        refine x_cVV (As := [.int (iZ 35)]) (rest := []) hx hb hml hts hown hK hST hOK hH 0 (c_X6_write l E ST hSF σ86 35 hv se sf ll_49 lq_49 f0 f84 (by omega) (by omega)) (cwV 1 hts gX6_writeTile_X6_write rfl rfl rfl (by decide +kernel) ⟨Nat.le_of_ble_eq_true rfl, Nat.le_of_ble_eq_true rfl⟩) (ltw (by decide)) f0 rfl rfl hl.1 rfl (Nat.le_of_ble_eq_true rfl) dX6_writeTile_68 ⟨Nat.le_of_ble_eq_true rfl, Nat.le_of_ble_eq_true rfl⟩ (fun σ122 H locs hp123 hH => ?_)
        obtain ⟨⟨lq_68, ll_68, f0, f84, hw68⟩, fr124⟩ := hp123
        have f1 : σ122 1 = oB 0 [.ref (xad E 2), .ref (xad E 3), .ref (xad E 4), .ref (xad E 5), .ref (xad E 6), .int (iZ pn), .int (iZ nw), .int (iZ sh), .long (lZ wk)] := (fr124 1 (by omega) (by omega)).trans f1
        have f2 : σ122 2 = aI E 25 op := (fr124 2 (by omega) (by omega)).trans f2
        have f3 : σ122 3 = aI E 25 lk := (fr124 3 (by omega) (by omega)).trans f3
        have f4 : σ122 4 = aI E 6 kp := (fr124 4 (by omega) (by omega)).trans f4
        have f5 : σ122 5 = aI E 3 wc := (fr124 5 (by omega) (by omega)).trans f5
        have f6 : σ122 6 = aI E 5 ro1 := (fr124 6 (by omega) (by omega)).trans f6
        have hb68 := wr_b hw68 (by omega)
        refine lv_aload_n hx hb dX6_writeTile_71 rfl (lv_at hl 1 rfl) ?_
        refine lv_aload_n hx hb dX6_writeTile_72 rfl (lv_at hl 1 rfl) ?_
        refine x_get hx hb hts hown hK hH 0 (ltw (by decide)) f0 hinX6 rfl 0 (by decide) (List.mem_of_getElem? (i := 1) rfl) rfl dX6_writeTile_73 ?_
        refine x_get hx hb hts hown hK hH 1 (ltw (by decide)) f1 hinX1 rfl 1 (by decide) (List.mem_of_getElem? (i := 3) rfl) rfl dX6_writeTile_76 ?_
        refine lv_iload_n hx hb dX6_writeTile_79 rfl (lv_at hl 2 rfl) ?_
        refine x_iald hx hb hK hH 3 (ltw (by decide)) f3 (by omega) (by omega) (by omega) dX6_writeTile_80 ?_
        have hv126 := hlk cell
        refine x_cSID (As := [.int (iZ (lk cell))]) (rest := [.ref (xad E 0)]) hx hb hml hts hown hK hST hOK hH (c_X6_keyName l E ST hSF σ122 (lk cell)  (by omega) (by omega)) (va_cwS 1 hts gX6_writeTile_X6_keyName rfl rfl rfl (by decide +kernel) ⟨Nat.le_of_ble_eq_true rfl, Nat.le_of_ble_eq_true rfl⟩) rfl hl.1 rfl (Nat.le_of_ble_eq_true rfl) dX6_writeTile_81 ⟨Nat.le_of_ble_eq_true rfl, Nat.le_of_ble_eq_true rfl⟩ (fun z u h => h) (fun H locs hH => ?_)
        refine x_cVV (As := [.int (iZ (97 + (lk cell)))]) (rest := []) hx hb hml hts hown hK hST hOK hH 0 (c_X6_write l E ST hSF σ122 (97 + (lk cell)) hv se sf ll_68 lq_68 f0 f84 (by omega) (by omega)) (cwV 1 hts gX6_writeTile_X6_write rfl rfl rfl (by decide +kernel) ⟨Nat.le_of_ble_eq_true rfl, Nat.le_of_ble_eq_true rfl⟩) (ltw (by decide)) f0 rfl rfl hl.1 rfl (Nat.le_of_ble_eq_true rfl) dX6_writeTile_84 ⟨Nat.le_of_ble_eq_true rfl, Nat.le_of_ble_eq_true rfl⟩ (fun σ131 H locs hp132 hH => ?_)
        obtain ⟨⟨lq_84, ll_84, f0, f84, hw84⟩, fr133⟩ := hp132
        have f1 : σ131 1 = oB 0 [.ref (xad E 2), .ref (xad E 3), .ref (xad E 4), .ref (xad E 5), .ref (xad E 6), .int (iZ pn), .int (iZ nw), .int (iZ sh), .long (lZ wk)] := (fr133 1 (by omega) (by omega)).trans f1
        have f2 : σ131 2 = aI E 25 op := (fr133 2 (by omega) (by omega)).trans f2
        have f3 : σ131 3 = aI E 25 lk := (fr133 3 (by omega) (by omega)).trans f3
        have f4 : σ131 4 = aI E 6 kp := (fr133 4 (by omega) (by omega)).trans f4
        have f5 : σ131 5 = aI E 3 wc := (fr133 5 (by omega) (by omega)).trans f5
        have f6 : σ131 6 = aI E 5 ro1 := (fr133 6 (by omega) (by omega)).trans f6
        have hb84 := wr_b hw84 (by omega)
        have s3 : (lq_84, ll_84) = List.foldl wrF (lq, ll) ([tlC (op cell)] ++ pinL pn cell ++ lkL lk cell) := by rw [show lkL lk cell = [35, 97 + lk cell] from if_neg c62]; exact fl_w2 s2 hw68 hw84
        refine lv_aload_n hx hb dX6_writeTile_87 rfl (lv_at hl 1 rfl) ?_
        refine x_get hx hb hts hown hK hH 0 (ltw (by decide)) f0 hinX6 rfl 0 (by decide) (List.mem_of_getElem? (i := 1) rfl) rfl dX6_writeTile_88 ?_
        refine lv_iload_n hx hb dX6_writeTile_91 rfl (lv_at hl 2 rfl) ?_
        refine x_cVID (As := [.int (iZ cell)]) (rest := []) hx hb hml hts hown hK hST hOK hH 1 (c_X1_countWalkers l E ST hSF σ131 1 cell op lk kp wc pn nw sh wk ⟨f1, f2, f3, f4, f5, _, f6⟩ (by omega) (by omega) (by assumption) (by omega)) (cwV 1 hts gX6_writeTile_X1_countWalkers rfl rfl rfl (by decide +kernel) ⟨Nat.le_of_ble_eq_true rfl, Nat.le_of_ble_eq_true rfl⟩) (ltw (by decide)) f1 rfl rfl hl.1 rfl (Nat.le_of_ble_eq_true rfl) dX6_writeTile_92 ⟨Nat.le_of_ble_eq_true rfl, Nat.le_of_ble_eq_true rfl⟩ (fun z u h => h) (fun H locs hH => ?_)
        have hcb := cntK_b (f := wc) (x := cell) hnw.1
        refine x_if_le (tgt := 104) hx hb dX6_writeTile_95 (by decide) (by omega) (fun c95 => ?_) (fun c95 => ?_)
        · have s4 : (lq_84, ll_84) = List.foldl wrF (lq, ll) ([tlC (op cell)] ++ pinL pn cell ++ lkL lk cell ++ wkL wc nw cell) := by rw [show wkL wc nw cell = [] from if_neg (by omega)]; exact fl_n s3
          refine x_iconst hx hb dX6_writeTile_104 ?_
          refine lv_istore_n (lv' := [(3, .int (iZ 0)), (2, .int (iZ (op cell))), (0, .ref (xad E 0)), (1, .int (iZ cell))]) hx hb dX6_writeTile_105 rfl hl (by decide) rfl (fun ls hl => ?_)
          have K106 : ∀ (nK : Nat) (i : Int) (lqx : Int → Int) (llx : Int) (σ138 : xW) (H : Heap) (locs : List Loc) (ls : Array Slot), (6 - i).toNat < nK → (0 ≤ i ∧ i ≤ 6) → (0 ≤ llx ∧ llx ≤ 35) → ((lqx, llx) = List.foldl wrF (lq, ll) ([tlC (op cell)] ++ pinL pn cell ++ lkL lk cell ++ wkL wc nw cell ++ kyL kp cell i)) → σ138 0 = oB 4 [.ref (xad E 1), .ref (xad E 7), .ref (xad E 13), .ref (xad E 19), .int (iZ (b2 hv)), .ref (xad E 73), .ref (xad E 75), .ref (xad E 81), .int (iZ se), .int (iZ sf), .ref (xad E 84), .int (iZ llx)] → σ138 1 = oB 0 [.ref (xad E 2), .ref (xad E 3), .ref (xad E 4), .ref (xad E 5), .ref (xad E 6), .int (iZ pn), .int (iZ nw), .int (iZ sh), .long (lZ wk)] → σ138 2 = aI E 25 op → σ138 3 = aI E 25 lk → σ138 4 = aI E 6 kp → σ138 5 = aI E 3 wc → σ138 6 = aI E 5 ro1 → σ138 84 = aC E 35 lqx → (∀ j : Nat, j ≠ 0 → j ≠ 84 → σ138 j = σ131 j) → Hx E (xA E s.heap.size) s.heap σ138 H locs → lv_has ls 4 [(3, .int (iZ i)), (2, .int (iZ (op cell))), (0, .ref (xad E 0)), (1, .int (iZ cell))] → W p l e rm_X6_writeTile s m args below meth c H locs 0 0 Q (F0 m 106 ls []) := by
            intro n106
            induction n106 with
            | zero =>
              intro i lqx llx σ138 H locs ls hm
              exact absurd hm (by first | exact Nat.not_lt_zero _ | omega)
            | succ n106 ih106 =>
              intro i lqx llx σ138 H locs ls hm106 hi hlb hlx f0 f1 f2 f3 f4 f5 f6 f84 fr139 hH hl
              refine lv_iload_n hx hb dX6_writeTile_106 rfl (lv_at hl 0 rfl) ?_
              refine x_bipush hx hb dX6_writeTile_107 (by decide) ?_
              refine x_icmp_ge (tgt := 139) hx hb dX6_writeTile_109 (by decide) (by omega) (by decide) (fun c109 => ?_) (fun c109 => ?_)
              · subst hQ
                exact x_vret hx hb hr hlocks hH (Nat.le_of_ble_eq_true rfl) (Nat.le_of_ble_eq_true rfl) ⟨⟨lqx, llx, f0, f84, (by have e9 : i = 6 := (by omega); subst e9; exact hlx), (by omega)⟩, fun j hj0 hj1 => ((fr139 j (by omega) (by omega)).trans ((fr133 j (by omega) (by omega)).trans ((fr124 j (by omega) (by omega)).trans ((fr88 j (by omega) (by omega)).trans (fr5 j (by omega) (by omega))))))⟩ dX6_writeTile_139
              · refine lv_aload_n hx hb dX6_writeTile_112 rfl (lv_at hl 2 rfl) ?_
                refine x_get hx hb hts hown hK hH 0 (ltw (by decide)) f0 hinX6 rfl 0 (by decide) (List.mem_of_getElem? (i := 1) rfl) rfl dX6_writeTile_113 ?_
                refine x_get hx hb hts hown hK hH 1 (ltw (by decide)) f1 hinX1 rfl 2 (by decide) (List.mem_of_getElem? (i := 4) rfl) rfl dX6_writeTile_116 ?_
                refine lv_iload_n hx hb dX6_writeTile_119 rfl (lv_at hl 0 rfl) ?_
                refine x_iald hx hb hK hH 4 (ltw (by decide)) f4 (by omega) (by omega) (by omega) dX6_writeTile_120 ?_
                have hv140 := hkp i
                refine lv_iload_n hx hb dX6_writeTile_121 rfl (lv_at hl 3 rfl) ?_
                refine x_icmp_ne (tgt := 133) hx hb dX6_writeTile_122 (by decide) (by omega) (by omega) (fun c122 => ?_) (fun c122 => ?_)
                · refine x_iinc (lv' := [(3, .int (iZ (i + 1))), (2, .int (iZ (op cell))), (0, .ref (xad E 0)), (1, .int (iZ cell))]) hx hb dX6_writeTile_133 hl (k := 0) rfl (by decide) rfl (fun ls hl => ?_)
                  refine lv_goto (tgt := 106) hx hb dX6_writeTile_136 (by decide) ?_
                  exact ih106 (i + 1) lqx llx σ138 _ _ _ (by omega) (by omega) (by omega) (by rw [kyL_s hi.1]; first | (rw [if_pos c122, ← List.append_assoc]; exact fl_w hlx hw130) | (rw [if_neg c122, List.append_nil]; exact hlx)) f0 f1 f2 f3 f4 f5 f6 f84 (fun j hj0 hj1 => (fr139 j (by omega) (by omega))) hH (lv_sub hl [0, 1, 2, 3] rfl)
                · refine lv_aload_n hx hb dX6_writeTile_125 rfl (lv_at hl 2 rfl) ?_
                  refine lv_iload_n hx hb dX6_writeTile_126 rfl (lv_at hl 0 rfl) ?_
                  refine x_cSID (As := [.int (iZ i)]) (rest := [.ref (xad E 0)]) hx hb hml hts hown hK hST hOK hH (c_X6_keyName l E ST hSF σ138 i  (by omega) (by omega)) (va_cwS 1 hts gX6_writeTile_X6_keyName rfl rfl rfl (by decide +kernel) ⟨Nat.le_of_ble_eq_true rfl, Nat.le_of_ble_eq_true rfl⟩) rfl hl.1 rfl (Nat.le_of_ble_eq_true rfl) dX6_writeTile_127 ⟨Nat.le_of_ble_eq_true rfl, Nat.le_of_ble_eq_true rfl⟩ (fun z u h => h) (fun H locs hH => ?_)
                  refine x_cVV (As := [.int (iZ (97 + i))]) (rest := []) hx hb hml hts hown hK hST hOK hH 0 (c_X6_write l E ST hSF σ138 (97 + i) hv se sf llx lqx f0 f84 (by omega) (by omega)) (cwV 1 hts gX6_writeTile_X6_write rfl rfl rfl (by decide +kernel) ⟨Nat.le_of_ble_eq_true rfl, Nat.le_of_ble_eq_true rfl⟩) (ltw (by decide)) f0 rfl rfl hl.1 rfl (Nat.le_of_ble_eq_true rfl) dX6_writeTile_130 ⟨Nat.le_of_ble_eq_true rfl, Nat.le_of_ble_eq_true rfl⟩ (fun σ145 H locs hp146 hH => ?_)
                  obtain ⟨⟨lq_130, ll_130, f0, f84, hw130⟩, fr147⟩ := hp146
                  have f1 : σ145 1 = oB 0 [.ref (xad E 2), .ref (xad E 3), .ref (xad E 4), .ref (xad E 5), .ref (xad E 6), .int (iZ pn), .int (iZ nw), .int (iZ sh), .long (lZ wk)] := (fr147 1 (by omega) (by omega)).trans f1
                  have f2 : σ145 2 = aI E 25 op := (fr147 2 (by omega) (by omega)).trans f2
                  have f3 : σ145 3 = aI E 25 lk := (fr147 3 (by omega) (by omega)).trans f3
                  have f4 : σ145 4 = aI E 6 kp := (fr147 4 (by omega) (by omega)).trans f4
                  have f5 : σ145 5 = aI E 3 wc := (fr147 5 (by omega) (by omega)).trans f5
                  have f6 : σ145 6 = aI E 5 ro1 := (fr147 6 (by omega) (by omega)).trans f6
                  have hb130 := wr_b hw130 (by omega)
                  refine x_iinc (lv' := [(3, .int (iZ (i + 1))), (2, .int (iZ (op cell))), (0, .ref (xad E 0)), (1, .int (iZ cell))]) hx hb dX6_writeTile_133 hl (k := 0) rfl (by decide) rfl (fun ls hl => ?_)
                  refine lv_goto (tgt := 106) hx hb dX6_writeTile_136 (by decide) ?_
                  exact ih106 (i + 1) lq_130 ll_130 σ145 _ _ _ (by omega) (by omega) (by omega) (by rw [kyL_s hi.1]; first | (rw [if_pos c122, ← List.append_assoc]; exact fl_w hlx hw130) | (rw [if_neg c122, List.append_nil]; exact hlx)) f0 f1 f2 f3 f4 f5 f6 f84 (fun j hj0 hj1 => ((fr147 j (by omega) (by omega)).trans (fr139 j (by omega) (by omega)))) hH (lv_sub hl [0, 1, 2, 3] rfl)
          exact K106 7 0 lq_84 ll_84 σ131 _ _ _ (by first | omega | decide) (by omega) (by omega) (by rw [kyL_0]; exact fl_n s4) f0 f1 f2 f3 f4 f5 f6 f84 (fun j _ _ => rfl) hH (lv_sub hl [0, 1, 2, 3] rfl)
        · refine lv_aload_n hx hb dX6_writeTile_98 rfl (lv_at hl 1 rfl) ?_
          refine x_bipush hx hb dX6_writeTile_99 (by decide) ?_
          refine x_cVV (As := [.int (iZ 64)]) (rest := []) hx hb hml hts hown hK hST hOK hH 0 (c_X6_write l E ST hSF σ131 64 hv se sf ll_84 lq_84 f0 f84 (by omega) (by omega)) (cwV 1 hts gX6_writeTile_X6_write rfl rfl rfl (by decide +kernel) ⟨Nat.le_of_ble_eq_true rfl, Nat.le_of_ble_eq_true rfl⟩) (ltw (by decide)) f0 rfl rfl hl.1 rfl (Nat.le_of_ble_eq_true rfl) dX6_writeTile_101 ⟨Nat.le_of_ble_eq_true rfl, Nat.le_of_ble_eq_true rfl⟩ (fun σ150 H locs hp151 hH => ?_)
          obtain ⟨⟨lq_101, ll_101, f0, f84, hw101⟩, fr152⟩ := hp151
          have f1 : σ150 1 = oB 0 [.ref (xad E 2), .ref (xad E 3), .ref (xad E 4), .ref (xad E 5), .ref (xad E 6), .int (iZ pn), .int (iZ nw), .int (iZ sh), .long (lZ wk)] := (fr152 1 (by omega) (by omega)).trans f1
          have f2 : σ150 2 = aI E 25 op := (fr152 2 (by omega) (by omega)).trans f2
          have f3 : σ150 3 = aI E 25 lk := (fr152 3 (by omega) (by omega)).trans f3
          have f4 : σ150 4 = aI E 6 kp := (fr152 4 (by omega) (by omega)).trans f4
          have f5 : σ150 5 = aI E 3 wc := (fr152 5 (by omega) (by omega)).trans f5
          have f6 : σ150 6 = aI E 5 ro1 := (fr152 6 (by omega) (by omega)).trans f6
          have hb101 := wr_b hw101 (by omega)
          have s4 : (lq_101, ll_101) = List.foldl wrF (lq, ll) ([tlC (op cell)] ++ pinL pn cell ++ lkL lk cell ++ wkL wc nw cell) := by rw [show wkL wc nw cell = [64] from if_pos (by omega)]; exact fl_w s3 hw101
          refine x_iconst hx hb dX6_writeTile_104 ?_
          refine lv_istore_n (lv' := [(3, .int (iZ 0)), (2, .int (iZ (op cell))), (0, .ref (xad E 0)), (1, .int (iZ cell))]) hx hb dX6_writeTile_105 rfl hl (by decide) rfl (fun ls hl => ?_)
          have K106 : ∀ (nK : Nat) (i : Int) (lqx : Int → Int) (llx : Int) (σ154 : xW) (H : Heap) (locs : List Loc) (ls : Array Slot), (6 - i).toNat < nK → (0 ≤ i ∧ i ≤ 6) → (0 ≤ llx ∧ llx ≤ 35) → ((lqx, llx) = List.foldl wrF (lq, ll) ([tlC (op cell)] ++ pinL pn cell ++ lkL lk cell ++ wkL wc nw cell ++ kyL kp cell i)) → σ154 0 = oB 4 [.ref (xad E 1), .ref (xad E 7), .ref (xad E 13), .ref (xad E 19), .int (iZ (b2 hv)), .ref (xad E 73), .ref (xad E 75), .ref (xad E 81), .int (iZ se), .int (iZ sf), .ref (xad E 84), .int (iZ llx)] → σ154 1 = oB 0 [.ref (xad E 2), .ref (xad E 3), .ref (xad E 4), .ref (xad E 5), .ref (xad E 6), .int (iZ pn), .int (iZ nw), .int (iZ sh), .long (lZ wk)] → σ154 2 = aI E 25 op → σ154 3 = aI E 25 lk → σ154 4 = aI E 6 kp → σ154 5 = aI E 3 wc → σ154 6 = aI E 5 ro1 → σ154 84 = aC E 35 lqx → (∀ j : Nat, j ≠ 0 → j ≠ 84 → σ154 j = σ150 j) → Hx E (xA E s.heap.size) s.heap σ154 H locs → lv_has ls 4 [(3, .int (iZ i)), (2, .int (iZ (op cell))), (0, .ref (xad E 0)), (1, .int (iZ cell))] → W p l e rm_X6_writeTile s m args below meth c H locs 0 0 Q (F0 m 106 ls []) := by
            intro n106
            induction n106 with
            | zero =>
              intro i lqx llx σ154 H locs ls hm
              exact absurd hm (by first | exact Nat.not_lt_zero _ | omega)
            | succ n106 ih106 =>
              intro i lqx llx σ154 H locs ls hm106 hi hlb hlx f0 f1 f2 f3 f4 f5 f6 f84 fr155 hH hl
              refine lv_iload_n hx hb dX6_writeTile_106 rfl (lv_at hl 0 rfl) ?_
              refine x_bipush hx hb dX6_writeTile_107 (by decide) ?_
              refine x_icmp_ge (tgt := 139) hx hb dX6_writeTile_109 (by decide) (by omega) (by decide) (fun c109 => ?_) (fun c109 => ?_)
              · subst hQ
                exact x_vret hx hb hr hlocks hH (Nat.le_of_ble_eq_true rfl) (Nat.le_of_ble_eq_true rfl) ⟨⟨lqx, llx, f0, f84, (by have e9 : i = 6 := (by omega); subst e9; exact hlx), (by omega)⟩, fun j hj0 hj1 => ((fr155 j (by omega) (by omega)).trans ((fr152 j (by omega) (by omega)).trans ((fr133 j (by omega) (by omega)).trans ((fr124 j (by omega) (by omega)).trans ((fr88 j (by omega) (by omega)).trans (fr5 j (by omega) (by omega)))))))⟩ dX6_writeTile_139
              · refine lv_aload_n hx hb dX6_writeTile_112 rfl (lv_at hl 2 rfl) ?_
                refine x_get hx hb hts hown hK hH 0 (ltw (by decide)) f0 hinX6 rfl 0 (by decide) (List.mem_of_getElem? (i := 1) rfl) rfl dX6_writeTile_113 ?_
                refine x_get hx hb hts hown hK hH 1 (ltw (by decide)) f1 hinX1 rfl 2 (by decide) (List.mem_of_getElem? (i := 4) rfl) rfl dX6_writeTile_116 ?_
                refine lv_iload_n hx hb dX6_writeTile_119 rfl (lv_at hl 0 rfl) ?_
                refine x_iald hx hb hK hH 4 (ltw (by decide)) f4 (by omega) (by omega) (by omega) dX6_writeTile_120 ?_
                have hv156 := hkp i
                refine lv_iload_n hx hb dX6_writeTile_121 rfl (lv_at hl 3 rfl) ?_
                refine x_icmp_ne (tgt := 133) hx hb dX6_writeTile_122 (by decide) (by omega) (by omega) (fun c122 => ?_) (fun c122 => ?_)
                · refine x_iinc (lv' := [(3, .int (iZ (i + 1))), (2, .int (iZ (op cell))), (0, .ref (xad E 0)), (1, .int (iZ cell))]) hx hb dX6_writeTile_133 hl (k := 0) rfl (by decide) rfl (fun ls hl => ?_)
                  refine lv_goto (tgt := 106) hx hb dX6_writeTile_136 (by decide) ?_
                  exact ih106 (i + 1) lqx llx σ154 _ _ _ (by omega) (by omega) (by omega) (by rw [kyL_s hi.1]; first | (rw [if_pos c122, ← List.append_assoc]; exact fl_w hlx hw130) | (rw [if_neg c122, List.append_nil]; exact hlx)) f0 f1 f2 f3 f4 f5 f6 f84 (fun j hj0 hj1 => (fr155 j (by omega) (by omega))) hH (lv_sub hl [0, 1, 2, 3] rfl)
                · refine lv_aload_n hx hb dX6_writeTile_125 rfl (lv_at hl 2 rfl) ?_
                  refine lv_iload_n hx hb dX6_writeTile_126 rfl (lv_at hl 0 rfl) ?_
                  refine x_cSID (As := [.int (iZ i)]) (rest := [.ref (xad E 0)]) hx hb hml hts hown hK hST hOK hH (c_X6_keyName l E ST hSF σ154 i  (by omega) (by omega)) (va_cwS 1 hts gX6_writeTile_X6_keyName rfl rfl rfl (by decide +kernel) ⟨Nat.le_of_ble_eq_true rfl, Nat.le_of_ble_eq_true rfl⟩) rfl hl.1 rfl (Nat.le_of_ble_eq_true rfl) dX6_writeTile_127 ⟨Nat.le_of_ble_eq_true rfl, Nat.le_of_ble_eq_true rfl⟩ (fun z u h => h) (fun H locs hH => ?_)
                  refine x_cVV (As := [.int (iZ (97 + i))]) (rest := []) hx hb hml hts hown hK hST hOK hH 0 (c_X6_write l E ST hSF σ154 (97 + i) hv se sf llx lqx f0 f84 (by omega) (by omega)) (cwV 1 hts gX6_writeTile_X6_write rfl rfl rfl (by decide +kernel) ⟨Nat.le_of_ble_eq_true rfl, Nat.le_of_ble_eq_true rfl⟩) (ltw (by decide)) f0 rfl rfl hl.1 rfl (Nat.le_of_ble_eq_true rfl) dX6_writeTile_130 ⟨Nat.le_of_ble_eq_true rfl, Nat.le_of_ble_eq_true rfl⟩ (fun σ161 H locs hp162 hH => ?_)
                  obtain ⟨⟨lq_130, ll_130, f0, f84, hw130⟩, fr163⟩ := hp162
                  have f1 : σ161 1 = oB 0 [.ref (xad E 2), .ref (xad E 3), .ref (xad E 4), .ref (xad E 5), .ref (xad E 6), .int (iZ pn), .int (iZ nw), .int (iZ sh), .long (lZ wk)] := (fr163 1 (by omega) (by omega)).trans f1
                  have f2 : σ161 2 = aI E 25 op := (fr163 2 (by omega) (by omega)).trans f2
                  have f3 : σ161 3 = aI E 25 lk := (fr163 3 (by omega) (by omega)).trans f3
                  have f4 : σ161 4 = aI E 6 kp := (fr163 4 (by omega) (by omega)).trans f4
                  have f5 : σ161 5 = aI E 3 wc := (fr163 5 (by omega) (by omega)).trans f5
                  have f6 : σ161 6 = aI E 5 ro1 := (fr163 6 (by omega) (by omega)).trans f6
                  have hb130 := wr_b hw130 (by omega)
                  refine x_iinc (lv' := [(3, .int (iZ (i + 1))), (2, .int (iZ (op cell))), (0, .ref (xad E 0)), (1, .int (iZ cell))]) hx hb dX6_writeTile_133 hl (k := 0) rfl (by decide) rfl (fun ls hl => ?_)
                  refine lv_goto (tgt := 106) hx hb dX6_writeTile_136 (by decide) ?_
                  exact ih106 (i + 1) lq_130 ll_130 σ161 _ _ _ (by omega) (by omega) (by omega) (by rw [kyL_s hi.1]; first | (rw [if_pos c122, ← List.append_assoc]; exact fl_w hlx hw130) | (rw [if_neg c122, List.append_nil]; exact hlx)) f0 f1 f2 f3 f4 f5 f6 f84 (fun j hj0 hj1 => ((fr163 j (by omega) (by omega)).trans (fr155 j (by omega) (by omega)))) hH (lv_sub hl [0, 1, 2, 3] rfl)
          exact K106 7 0 lq_101 ll_101 σ150 _ _ _ (by first | omega | decide) (by omega) (by omega) (by rw [kyL_0]; exact fl_n s4) f0 f1 f2 f3 f4 f5 f6 f84 (fun j _ _ => rfl) hH (lv_sub hl [0, 1, 2, 3] rfl)
  · refine x_bipush hx hb dX6_writeTile_17 (by decide) ?_
    refine lv_iload_n hx hb dX6_writeTile_19 rfl (lv_at hl 0 rfl) ?_
    refine x_iadd hx hb dX6_writeTile_20 ?_
    refine lv_goto (tgt := 31) hx hb dX6_writeTile_21 (by decide) ?_
    refine x_i2c hx hb dX6_writeTile_31 ?_
    rw [i2cZ_in (by omega) (by omega)]
    refine x_cVV (As := [.int (iZ (48 + (op cell)))]) (rest := []) hx hb hml hts hown hK hST hOK hH 0 (c_X6_write l E ST hSF σ (48 + (op cell)) hv se sf ll lq f0 f84 (by omega) (by omega)) (cwV 1 hts gX6_writeTile_X6_write rfl rfl rfl (by decide +kernel) ⟨Nat.le_of_ble_eq_true rfl, Nat.le_of_ble_eq_true rfl⟩) (ltw (by decide)) f0 rfl rfl hl.1 rfl (Nat.le_of_ble_eq_true rfl) dX6_writeTile_32 ⟨Nat.le_of_ble_eq_true rfl, Nat.le_of_ble_eq_true rfl⟩ (fun σ166 H locs hp167 hH => ?_)
    obtain ⟨⟨lq_32, ll_32, f0, f84, hw32⟩, fr168⟩ := hp167
    have f1 : σ166 1 = oB 0 [.ref (xad E 2), .ref (xad E 3), .ref (xad E 4), .ref (xad E 5), .ref (xad E 6), .int (iZ pn), .int (iZ nw), .int (iZ sh), .long (lZ wk)] := (fr168 1 (by omega) (by omega)).trans f1
    have f2 : σ166 2 = aI E 25 op := (fr168 2 (by omega) (by omega)).trans f2
    have f3 : σ166 3 = aI E 25 lk := (fr168 3 (by omega) (by omega)).trans f3
    have f4 : σ166 4 = aI E 6 kp := (fr168 4 (by omega) (by omega)).trans f4
    have f5 : σ166 5 = aI E 3 wc := (fr168 5 (by omega) (by omega)).trans f5
    have f6 : σ166 6 = aI E 5 ro1 := (fr168 6 (by omega) (by omega)).trans f6
    have hb32 := wr_b hw32 (by omega)
    have s1 : (lq_32, ll_32) = List.foldl wrF (lq, ll) [tlC (op cell)] := by rw [show tlC (op cell) = 48 + op cell from (by unfold tlC; rw [if_pos (by omega)])]; exact fl_w fl_0 hw32
    refine lv_aload_n hx hb dX6_writeTile_35 rfl (lv_at hl 1 rfl) ?_
    refine x_get hx hb hts hown hK hH 0 (ltw (by decide)) f0 hinX6 rfl 0 (by decide) (List.mem_of_getElem? (i := 1) rfl) rfl dX6_writeTile_36 ?_
    refine lv_iload_n hx hb dX6_writeTile_39 rfl (lv_at hl 2 rfl) ?_
    refine x_cVID (As := [.int (iZ cell)]) (rest := []) hx hb hml hts hown hK hST hOK hH 1 (c_X1_isFixed l E ST hSF σ166 1 cell op lk kp wc pn nw sh wk ⟨f1, f2, f3, f4, f5, _, f6⟩ (by omega) (by omega)) (cwV 1 hts gX6_writeTile_X1_isFixed rfl rfl rfl (by decide +kernel) ⟨Nat.le_of_ble_eq_true rfl, Nat.le_of_ble_eq_true rfl⟩) (ltw (by decide)) f1 rfl rfl hl.1 rfl (Nat.le_of_ble_eq_true rfl) dX6_writeTile_40 ⟨Nat.le_of_ble_eq_true rfl, Nat.le_of_ble_eq_true rfl⟩ (fun z u h => h) (fun H locs hH => ?_)
    refine x_ifb_eq (tgt := 52) hx hb dX6_writeTile_43 (by decide) (fun c43 => ?_) (fun c43 => ?_)
    · have c43 := of_decide_eq_false c43
      have s2 : (lq_32, ll_32) = List.foldl wrF (lq, ll) ([tlC (op cell)] ++ pinL pn cell) := by rw [show pinL pn cell = [] from if_neg c43]; exact fl_n s1
      refine lv_aload_n hx hb dX6_writeTile_52 rfl (lv_at hl 1 rfl) ?_
      refine x_get hx hb hts hown hK hH 0 (ltw (by decide)) f0 hinX6 rfl 0 (by decide) (List.mem_of_getElem? (i := 1) rfl) rfl dX6_writeTile_53 ?_
      refine x_get hx hb hts hown hK hH 1 (ltw (by decide)) f1 hinX1 rfl 1 (by decide) (List.mem_of_getElem? (i := 3) rfl) rfl dX6_writeTile_56 ?_
      refine lv_iload_n hx hb dX6_writeTile_59 rfl (lv_at hl 2 rfl) ?_
      refine x_iald hx hb hK hH 3 (ltw (by decide)) f3 (by omega) (by omega) (by omega) dX6_writeTile_60 ?_
      have hv173 := hlk cell
      refine x_iconst hx hb dX6_writeTile_61 ?_
      refine x_icmp_eq (tgt := 87) hx hb dX6_writeTile_62 (by decide) (by omega) (by decide) (fun c62 => ?_) (fun c62 => ?_)
      · have s3 : (lq_32, ll_32) = List.foldl wrF (lq, ll) ([tlC (op cell)] ++ pinL pn cell ++ lkL lk cell) := by rw [show lkL lk cell = [] from if_pos c62]; exact fl_n s2
        refine lv_aload_n hx hb dX6_writeTile_87 rfl (lv_at hl 1 rfl) ?_
        refine x_get hx hb hts hown hK hH 0 (ltw (by decide)) f0 hinX6 rfl 0 (by decide) (List.mem_of_getElem? (i := 1) rfl) rfl dX6_writeTile_88 ?_
        refine lv_iload_n hx hb dX6_writeTile_91 rfl (lv_at hl 2 rfl) ?_
        refine x_cVID (As := [.int (iZ cell)]) (rest := []) hx hb hml hts hown hK hST hOK hH 1 (c_X1_countWalkers l E ST hSF σ166 1 cell op lk kp wc pn nw sh wk ⟨f1, f2, f3, f4, f5, _, f6⟩ (by omega) (by omega) (by assumption) (by omega)) (cwV 1 hts gX6_writeTile_X1_countWalkers rfl rfl rfl (by decide +kernel) ⟨Nat.le_of_ble_eq_true rfl, Nat.le_of_ble_eq_true rfl⟩) (ltw (by decide)) f1 rfl rfl hl.1 rfl (Nat.le_of_ble_eq_true rfl) dX6_writeTile_92 ⟨Nat.le_of_ble_eq_true rfl, Nat.le_of_ble_eq_true rfl⟩ (fun z u h => h) (fun H locs hH => ?_)
        have hcb := cntK_b (f := wc) (x := cell) hnw.1
        refine x_if_le (tgt := 104) hx hb dX6_writeTile_95 (by decide) (by omega) (fun c95 => ?_) (fun c95 => ?_)
        · have s4 : (lq_32, ll_32) = List.foldl wrF (lq, ll) ([tlC (op cell)] ++ pinL pn cell ++ lkL lk cell ++ wkL wc nw cell) := by rw [show wkL wc nw cell = [] from if_neg (by omega)]; exact fl_n s3
          refine x_iconst hx hb dX6_writeTile_104 ?_
          refine lv_istore_n (lv' := [(3, .int (iZ 0)), (2, .int (iZ (op cell))), (0, .ref (xad E 0)), (1, .int (iZ cell))]) hx hb dX6_writeTile_105 rfl hl (by decide) rfl (fun ls hl => ?_)
          have K106 : ∀ (nK : Nat) (i : Int) (lqx : Int → Int) (llx : Int) (σ177 : xW) (H : Heap) (locs : List Loc) (ls : Array Slot), (6 - i).toNat < nK → (0 ≤ i ∧ i ≤ 6) → (0 ≤ llx ∧ llx ≤ 35) → ((lqx, llx) = List.foldl wrF (lq, ll) ([tlC (op cell)] ++ pinL pn cell ++ lkL lk cell ++ wkL wc nw cell ++ kyL kp cell i)) → σ177 0 = oB 4 [.ref (xad E 1), .ref (xad E 7), .ref (xad E 13), .ref (xad E 19), .int (iZ (b2 hv)), .ref (xad E 73), .ref (xad E 75), .ref (xad E 81), .int (iZ se), .int (iZ sf), .ref (xad E 84), .int (iZ llx)] → σ177 1 = oB 0 [.ref (xad E 2), .ref (xad E 3), .ref (xad E 4), .ref (xad E 5), .ref (xad E 6), .int (iZ pn), .int (iZ nw), .int (iZ sh), .long (lZ wk)] → σ177 2 = aI E 25 op → σ177 3 = aI E 25 lk → σ177 4 = aI E 6 kp → σ177 5 = aI E 3 wc → σ177 6 = aI E 5 ro1 → σ177 84 = aC E 35 lqx → (∀ j : Nat, j ≠ 0 → j ≠ 84 → σ177 j = σ166 j) → Hx E (xA E s.heap.size) s.heap σ177 H locs → lv_has ls 4 [(3, .int (iZ i)), (2, .int (iZ (op cell))), (0, .ref (xad E 0)), (1, .int (iZ cell))] → W p l e rm_X6_writeTile s m args below meth c H locs 0 0 Q (F0 m 106 ls []) := by
            intro n106
            induction n106 with
            | zero =>
              intro i lqx llx σ177 H locs ls hm
              exact absurd hm (by first | exact Nat.not_lt_zero _ | omega)
            | succ n106 ih106 =>
              intro i lqx llx σ177 H locs ls hm106 hi hlb hlx f0 f1 f2 f3 f4 f5 f6 f84 fr178 hH hl
              refine lv_iload_n hx hb dX6_writeTile_106 rfl (lv_at hl 0 rfl) ?_
              refine x_bipush hx hb dX6_writeTile_107 (by decide) ?_
              refine x_icmp_ge (tgt := 139) hx hb dX6_writeTile_109 (by decide) (by omega) (by decide) (fun c109 => ?_) (fun c109 => ?_)
              · subst hQ
                exact x_vret hx hb hr hlocks hH (Nat.le_of_ble_eq_true rfl) (Nat.le_of_ble_eq_true rfl) ⟨⟨lqx, llx, f0, f84, (by have e9 : i = 6 := (by omega); subst e9; exact hlx), (by omega)⟩, fun j hj0 hj1 => ((fr178 j (by omega) (by omega)).trans (fr168 j (by omega) (by omega)))⟩ dX6_writeTile_139
              · refine lv_aload_n hx hb dX6_writeTile_112 rfl (lv_at hl 2 rfl) ?_
                refine x_get hx hb hts hown hK hH 0 (ltw (by decide)) f0 hinX6 rfl 0 (by decide) (List.mem_of_getElem? (i := 1) rfl) rfl dX6_writeTile_113 ?_
                refine x_get hx hb hts hown hK hH 1 (ltw (by decide)) f1 hinX1 rfl 2 (by decide) (List.mem_of_getElem? (i := 4) rfl) rfl dX6_writeTile_116 ?_
                refine lv_iload_n hx hb dX6_writeTile_119 rfl (lv_at hl 0 rfl) ?_
                refine x_iald hx hb hK hH 4 (ltw (by decide)) f4 (by omega) (by omega) (by omega) dX6_writeTile_120 ?_
                have hv179 := hkp i
                refine lv_iload_n hx hb dX6_writeTile_121 rfl (lv_at hl 3 rfl) ?_
                refine x_icmp_ne (tgt := 133) hx hb dX6_writeTile_122 (by decide) (by omega) (by omega) (fun c122 => ?_) (fun c122 => ?_)
                · refine x_iinc (lv' := [(3, .int (iZ (i + 1))), (2, .int (iZ (op cell))), (0, .ref (xad E 0)), (1, .int (iZ cell))]) hx hb dX6_writeTile_133 hl (k := 0) rfl (by decide) rfl (fun ls hl => ?_)
                  refine lv_goto (tgt := 106) hx hb dX6_writeTile_136 (by decide) ?_
                  exact ih106 (i + 1) lqx llx σ177 _ _ _ (by omega) (by omega) (by omega) (by rw [kyL_s hi.1]; first | (rw [if_pos c122, ← List.append_assoc]; exact fl_w hlx hw130) | (rw [if_neg c122, List.append_nil]; exact hlx)) f0 f1 f2 f3 f4 f5 f6 f84 (fun j hj0 hj1 => (fr178 j (by omega) (by omega))) hH (lv_sub hl [0, 1, 2, 3] rfl)
                · refine lv_aload_n hx hb dX6_writeTile_125 rfl (lv_at hl 2 rfl) ?_
                  refine lv_iload_n hx hb dX6_writeTile_126 rfl (lv_at hl 0 rfl) ?_
                  refine x_cSID (As := [.int (iZ i)]) (rest := [.ref (xad E 0)]) hx hb hml hts hown hK hST hOK hH (c_X6_keyName l E ST hSF σ177 i  (by omega) (by omega)) (va_cwS 1 hts gX6_writeTile_X6_keyName rfl rfl rfl (by decide +kernel) ⟨Nat.le_of_ble_eq_true rfl, Nat.le_of_ble_eq_true rfl⟩) rfl hl.1 rfl (Nat.le_of_ble_eq_true rfl) dX6_writeTile_127 ⟨Nat.le_of_ble_eq_true rfl, Nat.le_of_ble_eq_true rfl⟩ (fun z u h => h) (fun H locs hH => ?_)
                  refine x_cVV (As := [.int (iZ (97 + i))]) (rest := []) hx hb hml hts hown hK hST hOK hH 0 (c_X6_write l E ST hSF σ177 (97 + i) hv se sf llx lqx f0 f84 (by omega) (by omega)) (cwV 1 hts gX6_writeTile_X6_write rfl rfl rfl (by decide +kernel) ⟨Nat.le_of_ble_eq_true rfl, Nat.le_of_ble_eq_true rfl⟩) (ltw (by decide)) f0 rfl rfl hl.1 rfl (Nat.le_of_ble_eq_true rfl) dX6_writeTile_130 ⟨Nat.le_of_ble_eq_true rfl, Nat.le_of_ble_eq_true rfl⟩ (fun σ184 H locs hp185 hH => ?_)
                  obtain ⟨⟨lq_130, ll_130, f0, f84, hw130⟩, fr186⟩ := hp185
                  have f1 : σ184 1 = oB 0 [.ref (xad E 2), .ref (xad E 3), .ref (xad E 4), .ref (xad E 5), .ref (xad E 6), .int (iZ pn), .int (iZ nw), .int (iZ sh), .long (lZ wk)] := (fr186 1 (by omega) (by omega)).trans f1
                  have f2 : σ184 2 = aI E 25 op := (fr186 2 (by omega) (by omega)).trans f2
                  have f3 : σ184 3 = aI E 25 lk := (fr186 3 (by omega) (by omega)).trans f3
                  have f4 : σ184 4 = aI E 6 kp := (fr186 4 (by omega) (by omega)).trans f4
                  have f5 : σ184 5 = aI E 3 wc := (fr186 5 (by omega) (by omega)).trans f5
                  have f6 : σ184 6 = aI E 5 ro1 := (fr186 6 (by omega) (by omega)).trans f6
                  have hb130 := wr_b hw130 (by omega)
                  refine x_iinc (lv' := [(3, .int (iZ (i + 1))), (2, .int (iZ (op cell))), (0, .ref (xad E 0)), (1, .int (iZ cell))]) hx hb dX6_writeTile_133 hl (k := 0) rfl (by decide) rfl (fun ls hl => ?_)
                  refine lv_goto (tgt := 106) hx hb dX6_writeTile_136 (by decide) ?_
                  exact ih106 (i + 1) lq_130 ll_130 σ184 _ _ _ (by omega) (by omega) (by omega) (by rw [kyL_s hi.1]; first | (rw [if_pos c122, ← List.append_assoc]; exact fl_w hlx hw130) | (rw [if_neg c122, List.append_nil]; exact hlx)) f0 f1 f2 f3 f4 f5 f6 f84 (fun j hj0 hj1 => ((fr186 j (by omega) (by omega)).trans (fr178 j (by omega) (by omega)))) hH (lv_sub hl [0, 1, 2, 3] rfl)
          exact K106 7 0 lq_32 ll_32 σ166 _ _ _ (by first | omega | decide) (by omega) (by omega) (by rw [kyL_0]; exact fl_n s4) f0 f1 f2 f3 f4 f5 f6 f84 (fun j _ _ => rfl) hH (lv_sub hl [0, 1, 2, 3] rfl)
        · refine lv_aload_n hx hb dX6_writeTile_98 rfl (lv_at hl 1 rfl) ?_
          refine x_bipush hx hb dX6_writeTile_99 (by decide) ?_
          refine x_cVV (As := [.int (iZ 64)]) (rest := []) hx hb hml hts hown hK hST hOK hH 0 (c_X6_write l E ST hSF σ166 64 hv se sf ll_32 lq_32 f0 f84 (by omega) (by omega)) (cwV 1 hts gX6_writeTile_X6_write rfl rfl rfl (by decide +kernel) ⟨Nat.le_of_ble_eq_true rfl, Nat.le_of_ble_eq_true rfl⟩) (ltw (by decide)) f0 rfl rfl hl.1 rfl (Nat.le_of_ble_eq_true rfl) dX6_writeTile_101 ⟨Nat.le_of_ble_eq_true rfl, Nat.le_of_ble_eq_true rfl⟩ (fun σ189 H locs hp190 hH => ?_)
          obtain ⟨⟨lq_101, ll_101, f0, f84, hw101⟩, fr191⟩ := hp190
          have f1 : σ189 1 = oB 0 [.ref (xad E 2), .ref (xad E 3), .ref (xad E 4), .ref (xad E 5), .ref (xad E 6), .int (iZ pn), .int (iZ nw), .int (iZ sh), .long (lZ wk)] := (fr191 1 (by omega) (by omega)).trans f1
          have f2 : σ189 2 = aI E 25 op := (fr191 2 (by omega) (by omega)).trans f2
          have f3 : σ189 3 = aI E 25 lk := (fr191 3 (by omega) (by omega)).trans f3
          have f4 : σ189 4 = aI E 6 kp := (fr191 4 (by omega) (by omega)).trans f4
          have f5 : σ189 5 = aI E 3 wc := (fr191 5 (by omega) (by omega)).trans f5
          have f6 : σ189 6 = aI E 5 ro1 := (fr191 6 (by omega) (by omega)).trans f6
          have hb101 := wr_b hw101 (by omega)
          have s4 : (lq_101, ll_101) = List.foldl wrF (lq, ll) ([tlC (op cell)] ++ pinL pn cell ++ lkL lk cell ++ wkL wc nw cell) := by rw [show wkL wc nw cell = [64] from if_pos (by omega)]; exact fl_w s3 hw101
          refine x_iconst hx hb dX6_writeTile_104 ?_
          refine lv_istore_n (lv' := [(3, .int (iZ 0)), (2, .int (iZ (op cell))), (0, .ref (xad E 0)), (1, .int (iZ cell))]) hx hb dX6_writeTile_105 rfl hl (by decide) rfl (fun ls hl => ?_)
          have K106 : ∀ (nK : Nat) (i : Int) (lqx : Int → Int) (llx : Int) (σ193 : xW) (H : Heap) (locs : List Loc) (ls : Array Slot), (6 - i).toNat < nK → (0 ≤ i ∧ i ≤ 6) → (0 ≤ llx ∧ llx ≤ 35) → ((lqx, llx) = List.foldl wrF (lq, ll) ([tlC (op cell)] ++ pinL pn cell ++ lkL lk cell ++ wkL wc nw cell ++ kyL kp cell i)) → σ193 0 = oB 4 [.ref (xad E 1), .ref (xad E 7), .ref (xad E 13), .ref (xad E 19), .int (iZ (b2 hv)), .ref (xad E 73), .ref (xad E 75), .ref (xad E 81), .int (iZ se), .int (iZ sf), .ref (xad E 84), .int (iZ llx)] → σ193 1 = oB 0 [.ref (xad E 2), .ref (xad E 3), .ref (xad E 4), .ref (xad E 5), .ref (xad E 6), .int (iZ pn), .int (iZ nw), .int (iZ sh), .long (lZ wk)] → σ193 2 = aI E 25 op → σ193 3 = aI E 25 lk → σ193 4 = aI E 6 kp → σ193 5 = aI E 3 wc → σ193 6 = aI E 5 ro1 → σ193 84 = aC E 35 lqx → (∀ j : Nat, j ≠ 0 → j ≠ 84 → σ193 j = σ189 j) → Hx E (xA E s.heap.size) s.heap σ193 H locs → lv_has ls 4 [(3, .int (iZ i)), (2, .int (iZ (op cell))), (0, .ref (xad E 0)), (1, .int (iZ cell))] → W p l e rm_X6_writeTile s m args below meth c H locs 0 0 Q (F0 m 106 ls []) := by
            intro n106
            induction n106 with
            | zero =>
              intro i lqx llx σ193 H locs ls hm
              exact absurd hm (by first | exact Nat.not_lt_zero _ | omega)
            | succ n106 ih106 =>
              intro i lqx llx σ193 H locs ls hm106 hi hlb hlx f0 f1 f2 f3 f4 f5 f6 f84 fr194 hH hl
              refine lv_iload_n hx hb dX6_writeTile_106 rfl (lv_at hl 0 rfl) ?_
              refine x_bipush hx hb dX6_writeTile_107 (by decide) ?_
              refine x_icmp_ge (tgt := 139) hx hb dX6_writeTile_109 (by decide) (by omega) (by decide) (fun c109 => ?_) (fun c109 => ?_)
              · subst hQ
                exact x_vret hx hb hr hlocks hH (Nat.le_of_ble_eq_true rfl) (Nat.le_of_ble_eq_true rfl) ⟨⟨lqx, llx, f0, f84, (by have e9 : i = 6 := (by omega); subst e9; exact hlx), (by omega)⟩, fun j hj0 hj1 => ((fr194 j (by omega) (by omega)).trans ((fr191 j (by omega) (by omega)).trans (fr168 j (by omega) (by omega))))⟩ dX6_writeTile_139
              · refine lv_aload_n hx hb dX6_writeTile_112 rfl (lv_at hl 2 rfl) ?_
                refine x_get hx hb hts hown hK hH 0 (ltw (by decide)) f0 hinX6 rfl 0 (by decide) (List.mem_of_getElem? (i := 1) rfl) rfl dX6_writeTile_113 ?_
                refine x_get hx hb hts hown hK hH 1 (ltw (by decide)) f1 hinX1 rfl 2 (by decide) (List.mem_of_getElem? (i := 4) rfl) rfl dX6_writeTile_116 ?_
                refine lv_iload_n hx hb dX6_writeTile_119 rfl (lv_at hl 0 rfl) ?_
                refine x_iald hx hb hK hH 4 (ltw (by decide)) f4 (by omega) (by omega) (by omega) dX6_writeTile_120 ?_
                have hv195 := hkp i
                refine lv_iload_n hx hb dX6_writeTile_121 rfl (lv_at hl 3 rfl) ?_
                refine x_icmp_ne (tgt := 133) hx hb dX6_writeTile_122 (by decide) (by omega) (by omega) (fun c122 => ?_) (fun c122 => ?_)
                · refine x_iinc (lv' := [(3, .int (iZ (i + 1))), (2, .int (iZ (op cell))), (0, .ref (xad E 0)), (1, .int (iZ cell))]) hx hb dX6_writeTile_133 hl (k := 0) rfl (by decide) rfl (fun ls hl => ?_)
                  refine lv_goto (tgt := 106) hx hb dX6_writeTile_136 (by decide) ?_
                  exact ih106 (i + 1) lqx llx σ193 _ _ _ (by omega) (by omega) (by omega) (by rw [kyL_s hi.1]; first | (rw [if_pos c122, ← List.append_assoc]; exact fl_w hlx hw130) | (rw [if_neg c122, List.append_nil]; exact hlx)) f0 f1 f2 f3 f4 f5 f6 f84 (fun j hj0 hj1 => (fr194 j (by omega) (by omega))) hH (lv_sub hl [0, 1, 2, 3] rfl)
                · refine lv_aload_n hx hb dX6_writeTile_125 rfl (lv_at hl 2 rfl) ?_
                  refine lv_iload_n hx hb dX6_writeTile_126 rfl (lv_at hl 0 rfl) ?_
                  refine x_cSID (As := [.int (iZ i)]) (rest := [.ref (xad E 0)]) hx hb hml hts hown hK hST hOK hH (c_X6_keyName l E ST hSF σ193 i  (by omega) (by omega)) (va_cwS 1 hts gX6_writeTile_X6_keyName rfl rfl rfl (by decide +kernel) ⟨Nat.le_of_ble_eq_true rfl, Nat.le_of_ble_eq_true rfl⟩) rfl hl.1 rfl (Nat.le_of_ble_eq_true rfl) dX6_writeTile_127 ⟨Nat.le_of_ble_eq_true rfl, Nat.le_of_ble_eq_true rfl⟩ (fun z u h => h) (fun H locs hH => ?_)
                  refine x_cVV (As := [.int (iZ (97 + i))]) (rest := []) hx hb hml hts hown hK hST hOK hH 0 (c_X6_write l E ST hSF σ193 (97 + i) hv se sf llx lqx f0 f84 (by omega) (by omega)) (cwV 1 hts gX6_writeTile_X6_write rfl rfl rfl (by decide +kernel) ⟨Nat.le_of_ble_eq_true rfl, Nat.le_of_ble_eq_true rfl⟩) (ltw (by decide)) f0 rfl rfl hl.1 rfl (Nat.le_of_ble_eq_true rfl) dX6_writeTile_130 ⟨Nat.le_of_ble_eq_true rfl, Nat.le_of_ble_eq_true rfl⟩ (fun σ200 H locs hp201 hH => ?_)
                  obtain ⟨⟨lq_130, ll_130, f0, f84, hw130⟩, fr202⟩ := hp201
                  have f1 : σ200 1 = oB 0 [.ref (xad E 2), .ref (xad E 3), .ref (xad E 4), .ref (xad E 5), .ref (xad E 6), .int (iZ pn), .int (iZ nw), .int (iZ sh), .long (lZ wk)] := (fr202 1 (by omega) (by omega)).trans f1
                  have f2 : σ200 2 = aI E 25 op := (fr202 2 (by omega) (by omega)).trans f2
                  have f3 : σ200 3 = aI E 25 lk := (fr202 3 (by omega) (by omega)).trans f3
                  have f4 : σ200 4 = aI E 6 kp := (fr202 4 (by omega) (by omega)).trans f4
                  have f5 : σ200 5 = aI E 3 wc := (fr202 5 (by omega) (by omega)).trans f5
                  have f6 : σ200 6 = aI E 5 ro1 := (fr202 6 (by omega) (by omega)).trans f6
                  have hb130 := wr_b hw130 (by omega)
                  refine x_iinc (lv' := [(3, .int (iZ (i + 1))), (2, .int (iZ (op cell))), (0, .ref (xad E 0)), (1, .int (iZ cell))]) hx hb dX6_writeTile_133 hl (k := 0) rfl (by decide) rfl (fun ls hl => ?_)
                  refine lv_goto (tgt := 106) hx hb dX6_writeTile_136 (by decide) ?_
                  exact ih106 (i + 1) lq_130 ll_130 σ200 _ _ _ (by omega) (by omega) (by omega) (by rw [kyL_s hi.1]; first | (rw [if_pos c122, ← List.append_assoc]; exact fl_w hlx hw130) | (rw [if_neg c122, List.append_nil]; exact hlx)) f0 f1 f2 f3 f4 f5 f6 f84 (fun j hj0 hj1 => ((fr202 j (by omega) (by omega)).trans (fr194 j (by omega) (by omega)))) hH (lv_sub hl [0, 1, 2, 3] rfl)
          exact K106 7 0 lq_101 ll_101 σ189 _ _ _ (by first | omega | decide) (by omega) (by omega) (by rw [kyL_0]; exact fl_n s4) f0 f1 f2 f3 f4 f5 f6 f84 (fun j _ _ => rfl) hH (lv_sub hl [0, 1, 2, 3] rfl)
      · refine lv_aload_n hx hb dX6_writeTile_65 rfl (lv_at hl 1 rfl) ?_
        refine x_bipush hx hb dX6_writeTile_66 (by decide) ?_
        refine x_cVV (As := [.int (iZ 35)]) (rest := []) hx hb hml hts hown hK hST hOK hH 0 (c_X6_write l E ST hSF σ166 35 hv se sf ll_32 lq_32 f0 f84 (by omega) (by omega)) (cwV 1 hts gX6_writeTile_X6_write rfl rfl rfl (by decide +kernel) ⟨Nat.le_of_ble_eq_true rfl, Nat.le_of_ble_eq_true rfl⟩) (ltw (by decide)) f0 rfl rfl hl.1 rfl (Nat.le_of_ble_eq_true rfl) dX6_writeTile_68 ⟨Nat.le_of_ble_eq_true rfl, Nat.le_of_ble_eq_true rfl⟩ (fun σ205 H locs hp206 hH => ?_)
        obtain ⟨⟨lq_68, ll_68, f0, f84, hw68⟩, fr207⟩ := hp206
        have f1 : σ205 1 = oB 0 [.ref (xad E 2), .ref (xad E 3), .ref (xad E 4), .ref (xad E 5), .ref (xad E 6), .int (iZ pn), .int (iZ nw), .int (iZ sh), .long (lZ wk)] := (fr207 1 (by omega) (by omega)).trans f1
        have f2 : σ205 2 = aI E 25 op := (fr207 2 (by omega) (by omega)).trans f2
        have f3 : σ205 3 = aI E 25 lk := (fr207 3 (by omega) (by omega)).trans f3
        have f4 : σ205 4 = aI E 6 kp := (fr207 4 (by omega) (by omega)).trans f4
        have f5 : σ205 5 = aI E 3 wc := (fr207 5 (by omega) (by omega)).trans f5
        have f6 : σ205 6 = aI E 5 ro1 := (fr207 6 (by omega) (by omega)).trans f6
        have hb68 := wr_b hw68 (by omega)
        refine lv_aload_n hx hb dX6_writeTile_71 rfl (lv_at hl 1 rfl) ?_
        refine lv_aload_n hx hb dX6_writeTile_72 rfl (lv_at hl 1 rfl) ?_
        refine x_get hx hb hts hown hK hH 0 (ltw (by decide)) f0 hinX6 rfl 0 (by decide) (List.mem_of_getElem? (i := 1) rfl) rfl dX6_writeTile_73 ?_
        refine x_get hx hb hts hown hK hH 1 (ltw (by decide)) f1 hinX1 rfl 1 (by decide) (List.mem_of_getElem? (i := 3) rfl) rfl dX6_writeTile_76 ?_
        refine lv_iload_n hx hb dX6_writeTile_79 rfl (lv_at hl 2 rfl) ?_
        refine x_iald hx hb hK hH 3 (ltw (by decide)) f3 (by omega) (by omega) (by omega) dX6_writeTile_80 ?_
        have hv209 := hlk cell
        refine x_cSID (As := [.int (iZ (lk cell))]) (rest := [.ref (xad E 0)]) hx hb hml hts hown hK hST hOK hH (c_X6_keyName l E ST hSF σ205 (lk cell)  (by omega) (by omega)) (va_cwS 1 hts gX6_writeTile_X6_keyName rfl rfl rfl (by decide +kernel) ⟨Nat.le_of_ble_eq_true rfl, Nat.le_of_ble_eq_true rfl⟩) rfl hl.1 rfl (Nat.le_of_ble_eq_true rfl) dX6_writeTile_81 ⟨Nat.le_of_ble_eq_true rfl, Nat.le_of_ble_eq_true rfl⟩ (fun z u h => h) (fun H locs hH => ?_)
        refine x_cVV (As := [.int (iZ (97 + (lk cell)))]) (rest := []) hx hb hml hts hown hK hST hOK hH 0 (c_X6_write l E ST hSF σ205 (97 + (lk cell)) hv se sf ll_68 lq_68 f0 f84 (by omega) (by omega)) (cwV 1 hts gX6_writeTile_X6_write rfl rfl rfl (by decide +kernel) ⟨Nat.le_of_ble_eq_true rfl, Nat.le_of_ble_eq_true rfl⟩) (ltw (by decide)) f0 rfl rfl hl.1 rfl (Nat.le_of_ble_eq_true rfl) dX6_writeTile_84 ⟨Nat.le_of_ble_eq_true rfl, Nat.le_of_ble_eq_true rfl⟩ (fun σ214 H locs hp215 hH => ?_)
        obtain ⟨⟨lq_84, ll_84, f0, f84, hw84⟩, fr216⟩ := hp215
        have f1 : σ214 1 = oB 0 [.ref (xad E 2), .ref (xad E 3), .ref (xad E 4), .ref (xad E 5), .ref (xad E 6), .int (iZ pn), .int (iZ nw), .int (iZ sh), .long (lZ wk)] := (fr216 1 (by omega) (by omega)).trans f1
        have f2 : σ214 2 = aI E 25 op := (fr216 2 (by omega) (by omega)).trans f2
        have f3 : σ214 3 = aI E 25 lk := (fr216 3 (by omega) (by omega)).trans f3
        have f4 : σ214 4 = aI E 6 kp := (fr216 4 (by omega) (by omega)).trans f4
        have f5 : σ214 5 = aI E 3 wc := (fr216 5 (by omega) (by omega)).trans f5
        have f6 : σ214 6 = aI E 5 ro1 := (fr216 6 (by omega) (by omega)).trans f6
        have hb84 := wr_b hw84 (by omega)
        have s3 : (lq_84, ll_84) = List.foldl wrF (lq, ll) ([tlC (op cell)] ++ pinL pn cell ++ lkL lk cell) := by rw [show lkL lk cell = [35, 97 + lk cell] from if_neg c62]; exact fl_w2 s2 hw68 hw84
        refine lv_aload_n hx hb dX6_writeTile_87 rfl (lv_at hl 1 rfl) ?_
        refine x_get hx hb hts hown hK hH 0 (ltw (by decide)) f0 hinX6 rfl 0 (by decide) (List.mem_of_getElem? (i := 1) rfl) rfl dX6_writeTile_88 ?_
        refine lv_iload_n hx hb dX6_writeTile_91 rfl (lv_at hl 2 rfl) ?_
        refine x_cVID (As := [.int (iZ cell)]) (rest := []) hx hb hml hts hown hK hST hOK hH 1 (c_X1_countWalkers l E ST hSF σ214 1 cell op lk kp wc pn nw sh wk ⟨f1, f2, f3, f4, f5, _, f6⟩ (by omega) (by omega) (by assumption) (by omega)) (cwV 1 hts gX6_writeTile_X1_countWalkers rfl rfl rfl (by decide +kernel) ⟨Nat.le_of_ble_eq_true rfl, Nat.le_of_ble_eq_true rfl⟩) (ltw (by decide)) f1 rfl rfl hl.1 rfl (Nat.le_of_ble_eq_true rfl) dX6_writeTile_92 ⟨Nat.le_of_ble_eq_true rfl, Nat.le_of_ble_eq_true rfl⟩ (fun z u h => h) (fun H locs hH => ?_)
        have hcb := cntK_b (f := wc) (x := cell) hnw.1
        refine x_if_le (tgt := 104) hx hb dX6_writeTile_95 (by decide) (by omega) (fun c95 => ?_) (fun c95 => ?_)
        · have s4 : (lq_84, ll_84) = List.foldl wrF (lq, ll) ([tlC (op cell)] ++ pinL pn cell ++ lkL lk cell ++ wkL wc nw cell) := by rw [show wkL wc nw cell = [] from if_neg (by omega)]; exact fl_n s3
          refine x_iconst hx hb dX6_writeTile_104 ?_
          refine lv_istore_n (lv' := [(3, .int (iZ 0)), (2, .int (iZ (op cell))), (0, .ref (xad E 0)), (1, .int (iZ cell))]) hx hb dX6_writeTile_105 rfl hl (by decide) rfl (fun ls hl => ?_)
          have K106 : ∀ (nK : Nat) (i : Int) (lqx : Int → Int) (llx : Int) (σ221 : xW) (H : Heap) (locs : List Loc) (ls : Array Slot), (6 - i).toNat < nK → (0 ≤ i ∧ i ≤ 6) → (0 ≤ llx ∧ llx ≤ 35) → ((lqx, llx) = List.foldl wrF (lq, ll) ([tlC (op cell)] ++ pinL pn cell ++ lkL lk cell ++ wkL wc nw cell ++ kyL kp cell i)) → σ221 0 = oB 4 [.ref (xad E 1), .ref (xad E 7), .ref (xad E 13), .ref (xad E 19), .int (iZ (b2 hv)), .ref (xad E 73), .ref (xad E 75), .ref (xad E 81), .int (iZ se), .int (iZ sf), .ref (xad E 84), .int (iZ llx)] → σ221 1 = oB 0 [.ref (xad E 2), .ref (xad E 3), .ref (xad E 4), .ref (xad E 5), .ref (xad E 6), .int (iZ pn), .int (iZ nw), .int (iZ sh), .long (lZ wk)] → σ221 2 = aI E 25 op → σ221 3 = aI E 25 lk → σ221 4 = aI E 6 kp → σ221 5 = aI E 3 wc → σ221 6 = aI E 5 ro1 → σ221 84 = aC E 35 lqx → (∀ j : Nat, j ≠ 0 → j ≠ 84 → σ221 j = σ214 j) → Hx E (xA E s.heap.size) s.heap σ221 H locs → lv_has ls 4 [(3, .int (iZ i)), (2, .int (iZ (op cell))), (0, .ref (xad E 0)), (1, .int (iZ cell))] → W p l e rm_X6_writeTile s m args below meth c H locs 0 0 Q (F0 m 106 ls []) := by
            intro n106
            induction n106 with
            | zero =>
              intro i lqx llx σ221 H locs ls hm
              exact absurd hm (by first | exact Nat.not_lt_zero _ | omega)
            | succ n106 ih106 =>
              intro i lqx llx σ221 H locs ls hm106 hi hlb hlx f0 f1 f2 f3 f4 f5 f6 f84 fr222 hH hl
              refine lv_iload_n hx hb dX6_writeTile_106 rfl (lv_at hl 0 rfl) ?_
              refine x_bipush hx hb dX6_writeTile_107 (by decide) ?_
              refine x_icmp_ge (tgt := 139) hx hb dX6_writeTile_109 (by decide) (by omega) (by decide) (fun c109 => ?_) (fun c109 => ?_)
              · subst hQ
                exact x_vret hx hb hr hlocks hH (Nat.le_of_ble_eq_true rfl) (Nat.le_of_ble_eq_true rfl) ⟨⟨lqx, llx, f0, f84, (by have e9 : i = 6 := (by omega); subst e9; exact hlx), (by omega)⟩, fun j hj0 hj1 => ((fr222 j (by omega) (by omega)).trans ((fr216 j (by omega) (by omega)).trans ((fr207 j (by omega) (by omega)).trans (fr168 j (by omega) (by omega)))))⟩ dX6_writeTile_139
              · refine lv_aload_n hx hb dX6_writeTile_112 rfl (lv_at hl 2 rfl) ?_
                refine x_get hx hb hts hown hK hH 0 (ltw (by decide)) f0 hinX6 rfl 0 (by decide) (List.mem_of_getElem? (i := 1) rfl) rfl dX6_writeTile_113 ?_
                refine x_get hx hb hts hown hK hH 1 (ltw (by decide)) f1 hinX1 rfl 2 (by decide) (List.mem_of_getElem? (i := 4) rfl) rfl dX6_writeTile_116 ?_
                refine lv_iload_n hx hb dX6_writeTile_119 rfl (lv_at hl 0 rfl) ?_
                refine x_iald hx hb hK hH 4 (ltw (by decide)) f4 (by omega) (by omega) (by omega) dX6_writeTile_120 ?_
                have hv223 := hkp i
                refine lv_iload_n hx hb dX6_writeTile_121 rfl (lv_at hl 3 rfl) ?_
                refine x_icmp_ne (tgt := 133) hx hb dX6_writeTile_122 (by decide) (by omega) (by omega) (fun c122 => ?_) (fun c122 => ?_)
                · refine x_iinc (lv' := [(3, .int (iZ (i + 1))), (2, .int (iZ (op cell))), (0, .ref (xad E 0)), (1, .int (iZ cell))]) hx hb dX6_writeTile_133 hl (k := 0) rfl (by decide) rfl (fun ls hl => ?_)
                  refine lv_goto (tgt := 106) hx hb dX6_writeTile_136 (by decide) ?_
                  exact ih106 (i + 1) lqx llx σ221 _ _ _ (by omega) (by omega) (by omega) (by rw [kyL_s hi.1]; first | (rw [if_pos c122, ← List.append_assoc]; exact fl_w hlx hw130) | (rw [if_neg c122, List.append_nil]; exact hlx)) f0 f1 f2 f3 f4 f5 f6 f84 (fun j hj0 hj1 => (fr222 j (by omega) (by omega))) hH (lv_sub hl [0, 1, 2, 3] rfl)
                · refine lv_aload_n hx hb dX6_writeTile_125 rfl (lv_at hl 2 rfl) ?_
                  refine lv_iload_n hx hb dX6_writeTile_126 rfl (lv_at hl 0 rfl) ?_
                  refine x_cSID (As := [.int (iZ i)]) (rest := [.ref (xad E 0)]) hx hb hml hts hown hK hST hOK hH (c_X6_keyName l E ST hSF σ221 i  (by omega) (by omega)) (va_cwS 1 hts gX6_writeTile_X6_keyName rfl rfl rfl (by decide +kernel) ⟨Nat.le_of_ble_eq_true rfl, Nat.le_of_ble_eq_true rfl⟩) rfl hl.1 rfl (Nat.le_of_ble_eq_true rfl) dX6_writeTile_127 ⟨Nat.le_of_ble_eq_true rfl, Nat.le_of_ble_eq_true rfl⟩ (fun z u h => h) (fun H locs hH => ?_)
                  refine x_cVV (As := [.int (iZ (97 + i))]) (rest := []) hx hb hml hts hown hK hST hOK hH 0 (c_X6_write l E ST hSF σ221 (97 + i) hv se sf llx lqx f0 f84 (by omega) (by omega)) (cwV 1 hts gX6_writeTile_X6_write rfl rfl rfl (by decide +kernel) ⟨Nat.le_of_ble_eq_true rfl, Nat.le_of_ble_eq_true rfl⟩) (ltw (by decide)) f0 rfl rfl hl.1 rfl (Nat.le_of_ble_eq_true rfl) dX6_writeTile_130 ⟨Nat.le_of_ble_eq_true rfl, Nat.le_of_ble_eq_true rfl⟩ (fun σ228 H locs hp229 hH => ?_)
                  obtain ⟨⟨lq_130, ll_130, f0, f84, hw130⟩, fr230⟩ := hp229
                  have f1 : σ228 1 = oB 0 [.ref (xad E 2), .ref (xad E 3), .ref (xad E 4), .ref (xad E 5), .ref (xad E 6), .int (iZ pn), .int (iZ nw), .int (iZ sh), .long (lZ wk)] := (fr230 1 (by omega) (by omega)).trans f1
                  have f2 : σ228 2 = aI E 25 op := (fr230 2 (by omega) (by omega)).trans f2
                  have f3 : σ228 3 = aI E 25 lk := (fr230 3 (by omega) (by omega)).trans f3
                  have f4 : σ228 4 = aI E 6 kp := (fr230 4 (by omega) (by omega)).trans f4
                  have f5 : σ228 5 = aI E 3 wc := (fr230 5 (by omega) (by omega)).trans f5
                  have f6 : σ228 6 = aI E 5 ro1 := (fr230 6 (by omega) (by omega)).trans f6
                  have hb130 := wr_b hw130 (by omega)
                  refine x_iinc (lv' := [(3, .int (iZ (i + 1))), (2, .int (iZ (op cell))), (0, .ref (xad E 0)), (1, .int (iZ cell))]) hx hb dX6_writeTile_133 hl (k := 0) rfl (by decide) rfl (fun ls hl => ?_)
                  refine lv_goto (tgt := 106) hx hb dX6_writeTile_136 (by decide) ?_
                  exact ih106 (i + 1) lq_130 ll_130 σ228 _ _ _ (by omega) (by omega) (by omega) (by rw [kyL_s hi.1]; first | (rw [if_pos c122, ← List.append_assoc]; exact fl_w hlx hw130) | (rw [if_neg c122, List.append_nil]; exact hlx)) f0 f1 f2 f3 f4 f5 f6 f84 (fun j hj0 hj1 => ((fr230 j (by omega) (by omega)).trans (fr222 j (by omega) (by omega)))) hH (lv_sub hl [0, 1, 2, 3] rfl)
          exact K106 7 0 lq_84 ll_84 σ214 _ _ _ (by first | omega | decide) (by omega) (by omega) (by rw [kyL_0]; exact fl_n s4) f0 f1 f2 f3 f4 f5 f6 f84 (fun j _ _ => rfl) hH (lv_sub hl [0, 1, 2, 3] rfl)
        · refine lv_aload_n hx hb dX6_writeTile_98 rfl (lv_at hl 1 rfl) ?_
          refine x_bipush hx hb dX6_writeTile_99 (by decide) ?_
          refine x_cVV (As := [.int (iZ 64)]) (rest := []) hx hb hml hts hown hK hST hOK hH 0 (c_X6_write l E ST hSF σ214 64 hv se sf ll_84 lq_84 f0 f84 (by omega) (by omega)) (cwV 1 hts gX6_writeTile_X6_write rfl rfl rfl (by decide +kernel) ⟨Nat.le_of_ble_eq_true rfl, Nat.le_of_ble_eq_true rfl⟩) (ltw (by decide)) f0 rfl rfl hl.1 rfl (Nat.le_of_ble_eq_true rfl) dX6_writeTile_101 ⟨Nat.le_of_ble_eq_true rfl, Nat.le_of_ble_eq_true rfl⟩ (fun σ233 H locs hp234 hH => ?_)
          obtain ⟨⟨lq_101, ll_101, f0, f84, hw101⟩, fr235⟩ := hp234
          have f1 : σ233 1 = oB 0 [.ref (xad E 2), .ref (xad E 3), .ref (xad E 4), .ref (xad E 5), .ref (xad E 6), .int (iZ pn), .int (iZ nw), .int (iZ sh), .long (lZ wk)] := (fr235 1 (by omega) (by omega)).trans f1
          have f2 : σ233 2 = aI E 25 op := (fr235 2 (by omega) (by omega)).trans f2
          have f3 : σ233 3 = aI E 25 lk := (fr235 3 (by omega) (by omega)).trans f3
          have f4 : σ233 4 = aI E 6 kp := (fr235 4 (by omega) (by omega)).trans f4
          have f5 : σ233 5 = aI E 3 wc := (fr235 5 (by omega) (by omega)).trans f5
          have f6 : σ233 6 = aI E 5 ro1 := (fr235 6 (by omega) (by omega)).trans f6
          have hb101 := wr_b hw101 (by omega)
          have s4 : (lq_101, ll_101) = List.foldl wrF (lq, ll) ([tlC (op cell)] ++ pinL pn cell ++ lkL lk cell ++ wkL wc nw cell) := by rw [show wkL wc nw cell = [64] from if_pos (by omega)]; exact fl_w s3 hw101
          refine x_iconst hx hb dX6_writeTile_104 ?_
          refine lv_istore_n (lv' := [(3, .int (iZ 0)), (2, .int (iZ (op cell))), (0, .ref (xad E 0)), (1, .int (iZ cell))]) hx hb dX6_writeTile_105 rfl hl (by decide) rfl (fun ls hl => ?_)
          have K106 : ∀ (nK : Nat) (i : Int) (lqx : Int → Int) (llx : Int) (σ237 : xW) (H : Heap) (locs : List Loc) (ls : Array Slot), (6 - i).toNat < nK → (0 ≤ i ∧ i ≤ 6) → (0 ≤ llx ∧ llx ≤ 35) → ((lqx, llx) = List.foldl wrF (lq, ll) ([tlC (op cell)] ++ pinL pn cell ++ lkL lk cell ++ wkL wc nw cell ++ kyL kp cell i)) → σ237 0 = oB 4 [.ref (xad E 1), .ref (xad E 7), .ref (xad E 13), .ref (xad E 19), .int (iZ (b2 hv)), .ref (xad E 73), .ref (xad E 75), .ref (xad E 81), .int (iZ se), .int (iZ sf), .ref (xad E 84), .int (iZ llx)] → σ237 1 = oB 0 [.ref (xad E 2), .ref (xad E 3), .ref (xad E 4), .ref (xad E 5), .ref (xad E 6), .int (iZ pn), .int (iZ nw), .int (iZ sh), .long (lZ wk)] → σ237 2 = aI E 25 op → σ237 3 = aI E 25 lk → σ237 4 = aI E 6 kp → σ237 5 = aI E 3 wc → σ237 6 = aI E 5 ro1 → σ237 84 = aC E 35 lqx → (∀ j : Nat, j ≠ 0 → j ≠ 84 → σ237 j = σ233 j) → Hx E (xA E s.heap.size) s.heap σ237 H locs → lv_has ls 4 [(3, .int (iZ i)), (2, .int (iZ (op cell))), (0, .ref (xad E 0)), (1, .int (iZ cell))] → W p l e rm_X6_writeTile s m args below meth c H locs 0 0 Q (F0 m 106 ls []) := by
            intro n106
            induction n106 with
            | zero =>
              intro i lqx llx σ237 H locs ls hm
              exact absurd hm (by first | exact Nat.not_lt_zero _ | omega)
            | succ n106 ih106 =>
              intro i lqx llx σ237 H locs ls hm106 hi hlb hlx f0 f1 f2 f3 f4 f5 f6 f84 fr238 hH hl
              refine lv_iload_n hx hb dX6_writeTile_106 rfl (lv_at hl 0 rfl) ?_
              refine x_bipush hx hb dX6_writeTile_107 (by decide) ?_
              refine x_icmp_ge (tgt := 139) hx hb dX6_writeTile_109 (by decide) (by omega) (by decide) (fun c109 => ?_) (fun c109 => ?_)
              · subst hQ
                exact x_vret hx hb hr hlocks hH (Nat.le_of_ble_eq_true rfl) (Nat.le_of_ble_eq_true rfl) ⟨⟨lqx, llx, f0, f84, (by have e9 : i = 6 := (by omega); subst e9; exact hlx), (by omega)⟩, fun j hj0 hj1 => ((fr238 j (by omega) (by omega)).trans ((fr235 j (by omega) (by omega)).trans ((fr216 j (by omega) (by omega)).trans ((fr207 j (by omega) (by omega)).trans (fr168 j (by omega) (by omega))))))⟩ dX6_writeTile_139
              · refine lv_aload_n hx hb dX6_writeTile_112 rfl (lv_at hl 2 rfl) ?_
                refine x_get hx hb hts hown hK hH 0 (ltw (by decide)) f0 hinX6 rfl 0 (by decide) (List.mem_of_getElem? (i := 1) rfl) rfl dX6_writeTile_113 ?_
                refine x_get hx hb hts hown hK hH 1 (ltw (by decide)) f1 hinX1 rfl 2 (by decide) (List.mem_of_getElem? (i := 4) rfl) rfl dX6_writeTile_116 ?_
                refine lv_iload_n hx hb dX6_writeTile_119 rfl (lv_at hl 0 rfl) ?_
                refine x_iald hx hb hK hH 4 (ltw (by decide)) f4 (by omega) (by omega) (by omega) dX6_writeTile_120 ?_
                have hv239 := hkp i
                refine lv_iload_n hx hb dX6_writeTile_121 rfl (lv_at hl 3 rfl) ?_
                refine x_icmp_ne (tgt := 133) hx hb dX6_writeTile_122 (by decide) (by omega) (by omega) (fun c122 => ?_) (fun c122 => ?_)
                · refine x_iinc (lv' := [(3, .int (iZ (i + 1))), (2, .int (iZ (op cell))), (0, .ref (xad E 0)), (1, .int (iZ cell))]) hx hb dX6_writeTile_133 hl (k := 0) rfl (by decide) rfl (fun ls hl => ?_)
                  refine lv_goto (tgt := 106) hx hb dX6_writeTile_136 (by decide) ?_
                  exact ih106 (i + 1) lqx llx σ237 _ _ _ (by omega) (by omega) (by omega) (by rw [kyL_s hi.1]; first | (rw [if_pos c122, ← List.append_assoc]; exact fl_w hlx hw130) | (rw [if_neg c122, List.append_nil]; exact hlx)) f0 f1 f2 f3 f4 f5 f6 f84 (fun j hj0 hj1 => (fr238 j (by omega) (by omega))) hH (lv_sub hl [0, 1, 2, 3] rfl)
                · refine lv_aload_n hx hb dX6_writeTile_125 rfl (lv_at hl 2 rfl) ?_
                  refine lv_iload_n hx hb dX6_writeTile_126 rfl (lv_at hl 0 rfl) ?_
                  refine x_cSID (As := [.int (iZ i)]) (rest := [.ref (xad E 0)]) hx hb hml hts hown hK hST hOK hH (c_X6_keyName l E ST hSF σ237 i  (by omega) (by omega)) (va_cwS 1 hts gX6_writeTile_X6_keyName rfl rfl rfl (by decide +kernel) ⟨Nat.le_of_ble_eq_true rfl, Nat.le_of_ble_eq_true rfl⟩) rfl hl.1 rfl (Nat.le_of_ble_eq_true rfl) dX6_writeTile_127 ⟨Nat.le_of_ble_eq_true rfl, Nat.le_of_ble_eq_true rfl⟩ (fun z u h => h) (fun H locs hH => ?_)
                  refine x_cVV (As := [.int (iZ (97 + i))]) (rest := []) hx hb hml hts hown hK hST hOK hH 0 (c_X6_write l E ST hSF σ237 (97 + i) hv se sf llx lqx f0 f84 (by omega) (by omega)) (cwV 1 hts gX6_writeTile_X6_write rfl rfl rfl (by decide +kernel) ⟨Nat.le_of_ble_eq_true rfl, Nat.le_of_ble_eq_true rfl⟩) (ltw (by decide)) f0 rfl rfl hl.1 rfl (Nat.le_of_ble_eq_true rfl) dX6_writeTile_130 ⟨Nat.le_of_ble_eq_true rfl, Nat.le_of_ble_eq_true rfl⟩ (fun σ244 H locs hp245 hH => ?_)
                  obtain ⟨⟨lq_130, ll_130, f0, f84, hw130⟩, fr246⟩ := hp245
                  have f1 : σ244 1 = oB 0 [.ref (xad E 2), .ref (xad E 3), .ref (xad E 4), .ref (xad E 5), .ref (xad E 6), .int (iZ pn), .int (iZ nw), .int (iZ sh), .long (lZ wk)] := (fr246 1 (by omega) (by omega)).trans f1
                  have f2 : σ244 2 = aI E 25 op := (fr246 2 (by omega) (by omega)).trans f2
                  have f3 : σ244 3 = aI E 25 lk := (fr246 3 (by omega) (by omega)).trans f3
                  have f4 : σ244 4 = aI E 6 kp := (fr246 4 (by omega) (by omega)).trans f4
                  have f5 : σ244 5 = aI E 3 wc := (fr246 5 (by omega) (by omega)).trans f5
                  have f6 : σ244 6 = aI E 5 ro1 := (fr246 6 (by omega) (by omega)).trans f6
                  have hb130 := wr_b hw130 (by omega)
                  refine x_iinc (lv' := [(3, .int (iZ (i + 1))), (2, .int (iZ (op cell))), (0, .ref (xad E 0)), (1, .int (iZ cell))]) hx hb dX6_writeTile_133 hl (k := 0) rfl (by decide) rfl (fun ls hl => ?_)
                  refine lv_goto (tgt := 106) hx hb dX6_writeTile_136 (by decide) ?_
                  exact ih106 (i + 1) lq_130 ll_130 σ244 _ _ _ (by omega) (by omega) (by omega) (by rw [kyL_s hi.1]; first | (rw [if_pos c122, ← List.append_assoc]; exact fl_w hlx hw130) | (rw [if_neg c122, List.append_nil]; exact hlx)) f0 f1 f2 f3 f4 f5 f6 f84 (fun j hj0 hj1 => ((fr246 j (by omega) (by omega)).trans (fr238 j (by omega) (by omega)))) hH (lv_sub hl [0, 1, 2, 3] rfl)
          exact K106 7 0 lq_101 ll_101 σ233 _ _ _ (by first | omega | decide) (by omega) (by omega) (by rw [kyL_0]; exact fl_n s4) f0 f1 f2 f3 f4 f5 f6 f84 (fun j _ _ => rfl) hH (lv_sub hl [0, 1, 2, 3] rfl)
    · have c43 := of_decide_eq_true c43
      refine lv_aload_n hx hb dX6_writeTile_46 rfl (lv_at hl 1 rfl) ?_
      refine x_bipush hx hb dX6_writeTile_47 (by decide) ?_
      refine x_cVV (As := [.int (iZ 42)]) (rest := []) hx hb hml hts hown hK hST hOK hH 0 (c_X6_write l E ST hSF σ166 42 hv se sf ll_32 lq_32 f0 f84 (by omega) (by omega)) (cwV 1 hts gX6_writeTile_X6_write rfl rfl rfl (by decide +kernel) ⟨Nat.le_of_ble_eq_true rfl, Nat.le_of_ble_eq_true rfl⟩) (ltw (by decide)) f0 rfl rfl hl.1 rfl (Nat.le_of_ble_eq_true rfl) dX6_writeTile_49 ⟨Nat.le_of_ble_eq_true rfl, Nat.le_of_ble_eq_true rfl⟩ (fun σ249 H locs hp250 hH => ?_)
      obtain ⟨⟨lq_49, ll_49, f0, f84, hw49⟩, fr251⟩ := hp250
      have f1 : σ249 1 = oB 0 [.ref (xad E 2), .ref (xad E 3), .ref (xad E 4), .ref (xad E 5), .ref (xad E 6), .int (iZ pn), .int (iZ nw), .int (iZ sh), .long (lZ wk)] := (fr251 1 (by omega) (by omega)).trans f1
      have f2 : σ249 2 = aI E 25 op := (fr251 2 (by omega) (by omega)).trans f2
      have f3 : σ249 3 = aI E 25 lk := (fr251 3 (by omega) (by omega)).trans f3
      have f4 : σ249 4 = aI E 6 kp := (fr251 4 (by omega) (by omega)).trans f4
      have f5 : σ249 5 = aI E 3 wc := (fr251 5 (by omega) (by omega)).trans f5
      have f6 : σ249 6 = aI E 5 ro1 := (fr251 6 (by omega) (by omega)).trans f6
      have hb49 := wr_b hw49 (by omega)
      have s2 : (lq_49, ll_49) = List.foldl wrF (lq, ll) ([tlC (op cell)] ++ pinL pn cell) := by rw [show pinL pn cell = [42] from if_pos c43]; exact fl_w s1 hw49
      refine lv_aload_n hx hb dX6_writeTile_52 rfl (lv_at hl 1 rfl) ?_
      refine x_get hx hb hts hown hK hH 0 (ltw (by decide)) f0 hinX6 rfl 0 (by decide) (List.mem_of_getElem? (i := 1) rfl) rfl dX6_writeTile_53 ?_
      refine x_get hx hb hts hown hK hH 1 (ltw (by decide)) f1 hinX1 rfl 1 (by decide) (List.mem_of_getElem? (i := 3) rfl) rfl dX6_writeTile_56 ?_
      refine lv_iload_n hx hb dX6_writeTile_59 rfl (lv_at hl 2 rfl) ?_
      refine x_iald hx hb hK hH 3 (ltw (by decide)) f3 (by omega) (by omega) (by omega) dX6_writeTile_60 ?_
      have hv253 := hlk cell
      refine x_iconst hx hb dX6_writeTile_61 ?_
      refine x_icmp_eq (tgt := 87) hx hb dX6_writeTile_62 (by decide) (by omega) (by decide) (fun c62 => ?_) (fun c62 => ?_)
      · have s3 : (lq_49, ll_49) = List.foldl wrF (lq, ll) ([tlC (op cell)] ++ pinL pn cell ++ lkL lk cell) := by rw [show lkL lk cell = [] from if_pos c62]; exact fl_n s2
        refine lv_aload_n hx hb dX6_writeTile_87 rfl (lv_at hl 1 rfl) ?_
        refine x_get hx hb hts hown hK hH 0 (ltw (by decide)) f0 hinX6 rfl 0 (by decide) (List.mem_of_getElem? (i := 1) rfl) rfl dX6_writeTile_88 ?_
        refine lv_iload_n hx hb dX6_writeTile_91 rfl (lv_at hl 2 rfl) ?_
        refine x_cVID (As := [.int (iZ cell)]) (rest := []) hx hb hml hts hown hK hST hOK hH 1 (c_X1_countWalkers l E ST hSF σ249 1 cell op lk kp wc pn nw sh wk ⟨f1, f2, f3, f4, f5, _, f6⟩ (by omega) (by omega) (by assumption) (by omega)) (cwV 1 hts gX6_writeTile_X1_countWalkers rfl rfl rfl (by decide +kernel) ⟨Nat.le_of_ble_eq_true rfl, Nat.le_of_ble_eq_true rfl⟩) (ltw (by decide)) f1 rfl rfl hl.1 rfl (Nat.le_of_ble_eq_true rfl) dX6_writeTile_92 ⟨Nat.le_of_ble_eq_true rfl, Nat.le_of_ble_eq_true rfl⟩ (fun z u h => h) (fun H locs hH => ?_)
        have hcb := cntK_b (f := wc) (x := cell) hnw.1
        refine x_if_le (tgt := 104) hx hb dX6_writeTile_95 (by decide) (by omega) (fun c95 => ?_) (fun c95 => ?_)
        · have s4 : (lq_49, ll_49) = List.foldl wrF (lq, ll) ([tlC (op cell)] ++ pinL pn cell ++ lkL lk cell ++ wkL wc nw cell) := by rw [show wkL wc nw cell = [] from if_neg (by omega)]; exact fl_n s3
          refine x_iconst hx hb dX6_writeTile_104 ?_
          refine lv_istore_n (lv' := [(3, .int (iZ 0)), (2, .int (iZ (op cell))), (0, .ref (xad E 0)), (1, .int (iZ cell))]) hx hb dX6_writeTile_105 rfl hl (by decide) rfl (fun ls hl => ?_)
          have K106 : ∀ (nK : Nat) (i : Int) (lqx : Int → Int) (llx : Int) (σ257 : xW) (H : Heap) (locs : List Loc) (ls : Array Slot), (6 - i).toNat < nK → (0 ≤ i ∧ i ≤ 6) → (0 ≤ llx ∧ llx ≤ 35) → ((lqx, llx) = List.foldl wrF (lq, ll) ([tlC (op cell)] ++ pinL pn cell ++ lkL lk cell ++ wkL wc nw cell ++ kyL kp cell i)) → σ257 0 = oB 4 [.ref (xad E 1), .ref (xad E 7), .ref (xad E 13), .ref (xad E 19), .int (iZ (b2 hv)), .ref (xad E 73), .ref (xad E 75), .ref (xad E 81), .int (iZ se), .int (iZ sf), .ref (xad E 84), .int (iZ llx)] → σ257 1 = oB 0 [.ref (xad E 2), .ref (xad E 3), .ref (xad E 4), .ref (xad E 5), .ref (xad E 6), .int (iZ pn), .int (iZ nw), .int (iZ sh), .long (lZ wk)] → σ257 2 = aI E 25 op → σ257 3 = aI E 25 lk → σ257 4 = aI E 6 kp → σ257 5 = aI E 3 wc → σ257 6 = aI E 5 ro1 → σ257 84 = aC E 35 lqx → (∀ j : Nat, j ≠ 0 → j ≠ 84 → σ257 j = σ249 j) → Hx E (xA E s.heap.size) s.heap σ257 H locs → lv_has ls 4 [(3, .int (iZ i)), (2, .int (iZ (op cell))), (0, .ref (xad E 0)), (1, .int (iZ cell))] → W p l e rm_X6_writeTile s m args below meth c H locs 0 0 Q (F0 m 106 ls []) := by
            intro n106
            induction n106 with
            | zero =>
              intro i lqx llx σ257 H locs ls hm
              exact absurd hm (by first | exact Nat.not_lt_zero _ | omega)
            | succ n106 ih106 =>
              intro i lqx llx σ257 H locs ls hm106 hi hlb hlx f0 f1 f2 f3 f4 f5 f6 f84 fr258 hH hl
              refine lv_iload_n hx hb dX6_writeTile_106 rfl (lv_at hl 0 rfl) ?_
              refine x_bipush hx hb dX6_writeTile_107 (by decide) ?_
              refine x_icmp_ge (tgt := 139) hx hb dX6_writeTile_109 (by decide) (by omega) (by decide) (fun c109 => ?_) (fun c109 => ?_)
              · subst hQ
                exact x_vret hx hb hr hlocks hH (Nat.le_of_ble_eq_true rfl) (Nat.le_of_ble_eq_true rfl) ⟨⟨lqx, llx, f0, f84, (by have e9 : i = 6 := (by omega); subst e9; exact hlx), (by omega)⟩, fun j hj0 hj1 => ((fr258 j (by omega) (by omega)).trans ((fr251 j (by omega) (by omega)).trans (fr168 j (by omega) (by omega))))⟩ dX6_writeTile_139
              · refine lv_aload_n hx hb dX6_writeTile_112 rfl (lv_at hl 2 rfl) ?_
                refine x_get hx hb hts hown hK hH 0 (ltw (by decide)) f0 hinX6 rfl 0 (by decide) (List.mem_of_getElem? (i := 1) rfl) rfl dX6_writeTile_113 ?_
                refine x_get hx hb hts hown hK hH 1 (ltw (by decide)) f1 hinX1 rfl 2 (by decide) (List.mem_of_getElem? (i := 4) rfl) rfl dX6_writeTile_116 ?_
                refine lv_iload_n hx hb dX6_writeTile_119 rfl (lv_at hl 0 rfl) ?_
                refine x_iald hx hb hK hH 4 (ltw (by decide)) f4 (by omega) (by omega) (by omega) dX6_writeTile_120 ?_
                have hv259 := hkp i
                refine lv_iload_n hx hb dX6_writeTile_121 rfl (lv_at hl 3 rfl) ?_
                refine x_icmp_ne (tgt := 133) hx hb dX6_writeTile_122 (by decide) (by omega) (by omega) (fun c122 => ?_) (fun c122 => ?_)
                · refine x_iinc (lv' := [(3, .int (iZ (i + 1))), (2, .int (iZ (op cell))), (0, .ref (xad E 0)), (1, .int (iZ cell))]) hx hb dX6_writeTile_133 hl (k := 0) rfl (by decide) rfl (fun ls hl => ?_)
                  refine lv_goto (tgt := 106) hx hb dX6_writeTile_136 (by decide) ?_
                  exact ih106 (i + 1) lqx llx σ257 _ _ _ (by omega) (by omega) (by omega) (by rw [kyL_s hi.1]; first | (rw [if_pos c122, ← List.append_assoc]; exact fl_w hlx hw130) | (rw [if_neg c122, List.append_nil]; exact hlx)) f0 f1 f2 f3 f4 f5 f6 f84 (fun j hj0 hj1 => (fr258 j (by omega) (by omega))) hH (lv_sub hl [0, 1, 2, 3] rfl)
                · refine lv_aload_n hx hb dX6_writeTile_125 rfl (lv_at hl 2 rfl) ?_
                  refine lv_iload_n hx hb dX6_writeTile_126 rfl (lv_at hl 0 rfl) ?_
                  refine x_cSID (As := [.int (iZ i)]) (rest := [.ref (xad E 0)]) hx hb hml hts hown hK hST hOK hH (c_X6_keyName l E ST hSF σ257 i  (by omega) (by omega)) (va_cwS 1 hts gX6_writeTile_X6_keyName rfl rfl rfl (by decide +kernel) ⟨Nat.le_of_ble_eq_true rfl, Nat.le_of_ble_eq_true rfl⟩) rfl hl.1 rfl (Nat.le_of_ble_eq_true rfl) dX6_writeTile_127 ⟨Nat.le_of_ble_eq_true rfl, Nat.le_of_ble_eq_true rfl⟩ (fun z u h => h) (fun H locs hH => ?_)
                  refine x_cVV (As := [.int (iZ (97 + i))]) (rest := []) hx hb hml hts hown hK hST hOK hH 0 (c_X6_write l E ST hSF σ257 (97 + i) hv se sf llx lqx f0 f84 (by omega) (by omega)) (cwV 1 hts gX6_writeTile_X6_write rfl rfl rfl (by decide +kernel) ⟨Nat.le_of_ble_eq_true rfl, Nat.le_of_ble_eq_true rfl⟩) (ltw (by decide)) f0 rfl rfl hl.1 rfl (Nat.le_of_ble_eq_true rfl) dX6_writeTile_130 ⟨Nat.le_of_ble_eq_true rfl, Nat.le_of_ble_eq_true rfl⟩ (fun σ264 H locs hp265 hH => ?_)
                  obtain ⟨⟨lq_130, ll_130, f0, f84, hw130⟩, fr266⟩ := hp265
                  have f1 : σ264 1 = oB 0 [.ref (xad E 2), .ref (xad E 3), .ref (xad E 4), .ref (xad E 5), .ref (xad E 6), .int (iZ pn), .int (iZ nw), .int (iZ sh), .long (lZ wk)] := (fr266 1 (by omega) (by omega)).trans f1
                  have f2 : σ264 2 = aI E 25 op := (fr266 2 (by omega) (by omega)).trans f2
                  have f3 : σ264 3 = aI E 25 lk := (fr266 3 (by omega) (by omega)).trans f3
                  have f4 : σ264 4 = aI E 6 kp := (fr266 4 (by omega) (by omega)).trans f4
                  have f5 : σ264 5 = aI E 3 wc := (fr266 5 (by omega) (by omega)).trans f5
                  have f6 : σ264 6 = aI E 5 ro1 := (fr266 6 (by omega) (by omega)).trans f6
                  have hb130 := wr_b hw130 (by omega)
                  refine x_iinc (lv' := [(3, .int (iZ (i + 1))), (2, .int (iZ (op cell))), (0, .ref (xad E 0)), (1, .int (iZ cell))]) hx hb dX6_writeTile_133 hl (k := 0) rfl (by decide) rfl (fun ls hl => ?_)
                  refine lv_goto (tgt := 106) hx hb dX6_writeTile_136 (by decide) ?_
                  exact ih106 (i + 1) lq_130 ll_130 σ264 _ _ _ (by omega) (by omega) (by omega) (by rw [kyL_s hi.1]; first | (rw [if_pos c122, ← List.append_assoc]; exact fl_w hlx hw130) | (rw [if_neg c122, List.append_nil]; exact hlx)) f0 f1 f2 f3 f4 f5 f6 f84 (fun j hj0 hj1 => ((fr266 j (by omega) (by omega)).trans (fr258 j (by omega) (by omega)))) hH (lv_sub hl [0, 1, 2, 3] rfl)
          exact K106 7 0 lq_49 ll_49 σ249 _ _ _ (by first | omega | decide) (by omega) (by omega) (by rw [kyL_0]; exact fl_n s4) f0 f1 f2 f3 f4 f5 f6 f84 (fun j _ _ => rfl) hH (lv_sub hl [0, 1, 2, 3] rfl)
        · refine lv_aload_n hx hb dX6_writeTile_98 rfl (lv_at hl 1 rfl) ?_
          refine x_bipush hx hb dX6_writeTile_99 (by decide) ?_
          refine x_cVV (As := [.int (iZ 64)]) (rest := []) hx hb hml hts hown hK hST hOK hH 0 (c_X6_write l E ST hSF σ249 64 hv se sf ll_49 lq_49 f0 f84 (by omega) (by omega)) (cwV 1 hts gX6_writeTile_X6_write rfl rfl rfl (by decide +kernel) ⟨Nat.le_of_ble_eq_true rfl, Nat.le_of_ble_eq_true rfl⟩) (ltw (by decide)) f0 rfl rfl hl.1 rfl (Nat.le_of_ble_eq_true rfl) dX6_writeTile_101 ⟨Nat.le_of_ble_eq_true rfl, Nat.le_of_ble_eq_true rfl⟩ (fun σ269 H locs hp270 hH => ?_)
          obtain ⟨⟨lq_101, ll_101, f0, f84, hw101⟩, fr271⟩ := hp270
          have f1 : σ269 1 = oB 0 [.ref (xad E 2), .ref (xad E 3), .ref (xad E 4), .ref (xad E 5), .ref (xad E 6), .int (iZ pn), .int (iZ nw), .int (iZ sh), .long (lZ wk)] := (fr271 1 (by omega) (by omega)).trans f1
          have f2 : σ269 2 = aI E 25 op := (fr271 2 (by omega) (by omega)).trans f2
          have f3 : σ269 3 = aI E 25 lk := (fr271 3 (by omega) (by omega)).trans f3
          have f4 : σ269 4 = aI E 6 kp := (fr271 4 (by omega) (by omega)).trans f4
          have f5 : σ269 5 = aI E 3 wc := (fr271 5 (by omega) (by omega)).trans f5
          have f6 : σ269 6 = aI E 5 ro1 := (fr271 6 (by omega) (by omega)).trans f6
          have hb101 := wr_b hw101 (by omega)
          have s4 : (lq_101, ll_101) = List.foldl wrF (lq, ll) ([tlC (op cell)] ++ pinL pn cell ++ lkL lk cell ++ wkL wc nw cell) := by rw [show wkL wc nw cell = [64] from if_pos (by omega)]; exact fl_w s3 hw101
          refine x_iconst hx hb dX6_writeTile_104 ?_
          refine lv_istore_n (lv' := [(3, .int (iZ 0)), (2, .int (iZ (op cell))), (0, .ref (xad E 0)), (1, .int (iZ cell))]) hx hb dX6_writeTile_105 rfl hl (by decide) rfl (fun ls hl => ?_)
          have K106 : ∀ (nK : Nat) (i : Int) (lqx : Int → Int) (llx : Int) (σ273 : xW) (H : Heap) (locs : List Loc) (ls : Array Slot), (6 - i).toNat < nK → (0 ≤ i ∧ i ≤ 6) → (0 ≤ llx ∧ llx ≤ 35) → ((lqx, llx) = List.foldl wrF (lq, ll) ([tlC (op cell)] ++ pinL pn cell ++ lkL lk cell ++ wkL wc nw cell ++ kyL kp cell i)) → σ273 0 = oB 4 [.ref (xad E 1), .ref (xad E 7), .ref (xad E 13), .ref (xad E 19), .int (iZ (b2 hv)), .ref (xad E 73), .ref (xad E 75), .ref (xad E 81), .int (iZ se), .int (iZ sf), .ref (xad E 84), .int (iZ llx)] → σ273 1 = oB 0 [.ref (xad E 2), .ref (xad E 3), .ref (xad E 4), .ref (xad E 5), .ref (xad E 6), .int (iZ pn), .int (iZ nw), .int (iZ sh), .long (lZ wk)] → σ273 2 = aI E 25 op → σ273 3 = aI E 25 lk → σ273 4 = aI E 6 kp → σ273 5 = aI E 3 wc → σ273 6 = aI E 5 ro1 → σ273 84 = aC E 35 lqx → (∀ j : Nat, j ≠ 0 → j ≠ 84 → σ273 j = σ269 j) → Hx E (xA E s.heap.size) s.heap σ273 H locs → lv_has ls 4 [(3, .int (iZ i)), (2, .int (iZ (op cell))), (0, .ref (xad E 0)), (1, .int (iZ cell))] → W p l e rm_X6_writeTile s m args below meth c H locs 0 0 Q (F0 m 106 ls []) := by
            intro n106
            induction n106 with
            | zero =>
              intro i lqx llx σ273 H locs ls hm
              exact absurd hm (by first | exact Nat.not_lt_zero _ | omega)
            | succ n106 ih106 =>
              intro i lqx llx σ273 H locs ls hm106 hi hlb hlx f0 f1 f2 f3 f4 f5 f6 f84 fr274 hH hl
              refine lv_iload_n hx hb dX6_writeTile_106 rfl (lv_at hl 0 rfl) ?_
              refine x_bipush hx hb dX6_writeTile_107 (by decide) ?_
              refine x_icmp_ge (tgt := 139) hx hb dX6_writeTile_109 (by decide) (by omega) (by decide) (fun c109 => ?_) (fun c109 => ?_)
              · subst hQ
                exact x_vret hx hb hr hlocks hH (Nat.le_of_ble_eq_true rfl) (Nat.le_of_ble_eq_true rfl) ⟨⟨lqx, llx, f0, f84, (by have e9 : i = 6 := (by omega); subst e9; exact hlx), (by omega)⟩, fun j hj0 hj1 => ((fr274 j (by omega) (by omega)).trans ((fr271 j (by omega) (by omega)).trans ((fr251 j (by omega) (by omega)).trans (fr168 j (by omega) (by omega)))))⟩ dX6_writeTile_139
              · refine lv_aload_n hx hb dX6_writeTile_112 rfl (lv_at hl 2 rfl) ?_
                refine x_get hx hb hts hown hK hH 0 (ltw (by decide)) f0 hinX6 rfl 0 (by decide) (List.mem_of_getElem? (i := 1) rfl) rfl dX6_writeTile_113 ?_
                refine x_get hx hb hts hown hK hH 1 (ltw (by decide)) f1 hinX1 rfl 2 (by decide) (List.mem_of_getElem? (i := 4) rfl) rfl dX6_writeTile_116 ?_
                refine lv_iload_n hx hb dX6_writeTile_119 rfl (lv_at hl 0 rfl) ?_
                refine x_iald hx hb hK hH 4 (ltw (by decide)) f4 (by omega) (by omega) (by omega) dX6_writeTile_120 ?_
                have hv275 := hkp i
                refine lv_iload_n hx hb dX6_writeTile_121 rfl (lv_at hl 3 rfl) ?_
                refine x_icmp_ne (tgt := 133) hx hb dX6_writeTile_122 (by decide) (by omega) (by omega) (fun c122 => ?_) (fun c122 => ?_)
                · refine x_iinc (lv' := [(3, .int (iZ (i + 1))), (2, .int (iZ (op cell))), (0, .ref (xad E 0)), (1, .int (iZ cell))]) hx hb dX6_writeTile_133 hl (k := 0) rfl (by decide) rfl (fun ls hl => ?_)
                  refine lv_goto (tgt := 106) hx hb dX6_writeTile_136 (by decide) ?_
                  exact ih106 (i + 1) lqx llx σ273 _ _ _ (by omega) (by omega) (by omega) (by rw [kyL_s hi.1]; first | (rw [if_pos c122, ← List.append_assoc]; exact fl_w hlx hw130) | (rw [if_neg c122, List.append_nil]; exact hlx)) f0 f1 f2 f3 f4 f5 f6 f84 (fun j hj0 hj1 => (fr274 j (by omega) (by omega))) hH (lv_sub hl [0, 1, 2, 3] rfl)
                · refine lv_aload_n hx hb dX6_writeTile_125 rfl (lv_at hl 2 rfl) ?_
                  refine lv_iload_n hx hb dX6_writeTile_126 rfl (lv_at hl 0 rfl) ?_
                  refine x_cSID (As := [.int (iZ i)]) (rest := [.ref (xad E 0)]) hx hb hml hts hown hK hST hOK hH (c_X6_keyName l E ST hSF σ273 i  (by omega) (by omega)) (va_cwS 1 hts gX6_writeTile_X6_keyName rfl rfl rfl (by decide +kernel) ⟨Nat.le_of_ble_eq_true rfl, Nat.le_of_ble_eq_true rfl⟩) rfl hl.1 rfl (Nat.le_of_ble_eq_true rfl) dX6_writeTile_127 ⟨Nat.le_of_ble_eq_true rfl, Nat.le_of_ble_eq_true rfl⟩ (fun z u h => h) (fun H locs hH => ?_)
                  refine x_cVV (As := [.int (iZ (97 + i))]) (rest := []) hx hb hml hts hown hK hST hOK hH 0 (c_X6_write l E ST hSF σ273 (97 + i) hv se sf llx lqx f0 f84 (by omega) (by omega)) (cwV 1 hts gX6_writeTile_X6_write rfl rfl rfl (by decide +kernel) ⟨Nat.le_of_ble_eq_true rfl, Nat.le_of_ble_eq_true rfl⟩) (ltw (by decide)) f0 rfl rfl hl.1 rfl (Nat.le_of_ble_eq_true rfl) dX6_writeTile_130 ⟨Nat.le_of_ble_eq_true rfl, Nat.le_of_ble_eq_true rfl⟩ (fun σ280 H locs hp281 hH => ?_)
                  obtain ⟨⟨lq_130, ll_130, f0, f84, hw130⟩, fr282⟩ := hp281
                  have f1 : σ280 1 = oB 0 [.ref (xad E 2), .ref (xad E 3), .ref (xad E 4), .ref (xad E 5), .ref (xad E 6), .int (iZ pn), .int (iZ nw), .int (iZ sh), .long (lZ wk)] := (fr282 1 (by omega) (by omega)).trans f1
                  have f2 : σ280 2 = aI E 25 op := (fr282 2 (by omega) (by omega)).trans f2
                  have f3 : σ280 3 = aI E 25 lk := (fr282 3 (by omega) (by omega)).trans f3
                  have f4 : σ280 4 = aI E 6 kp := (fr282 4 (by omega) (by omega)).trans f4
                  have f5 : σ280 5 = aI E 3 wc := (fr282 5 (by omega) (by omega)).trans f5
                  have f6 : σ280 6 = aI E 5 ro1 := (fr282 6 (by omega) (by omega)).trans f6
                  have hb130 := wr_b hw130 (by omega)
                  refine x_iinc (lv' := [(3, .int (iZ (i + 1))), (2, .int (iZ (op cell))), (0, .ref (xad E 0)), (1, .int (iZ cell))]) hx hb dX6_writeTile_133 hl (k := 0) rfl (by decide) rfl (fun ls hl => ?_)
                  refine lv_goto (tgt := 106) hx hb dX6_writeTile_136 (by decide) ?_
                  exact ih106 (i + 1) lq_130 ll_130 σ280 _ _ _ (by omega) (by omega) (by omega) (by rw [kyL_s hi.1]; first | (rw [if_pos c122, ← List.append_assoc]; exact fl_w hlx hw130) | (rw [if_neg c122, List.append_nil]; exact hlx)) f0 f1 f2 f3 f4 f5 f6 f84 (fun j hj0 hj1 => ((fr282 j (by omega) (by omega)).trans (fr274 j (by omega) (by omega)))) hH (lv_sub hl [0, 1, 2, 3] rfl)
          exact K106 7 0 lq_101 ll_101 σ269 _ _ _ (by first | omega | decide) (by omega) (by omega) (by rw [kyL_0]; exact fl_n s4) f0 f1 f2 f3 f4 f5 f6 f84 (fun j _ _ => rfl) hH (lv_sub hl [0, 1, 2, 3] rfl)
      · refine lv_aload_n hx hb dX6_writeTile_65 rfl (lv_at hl 1 rfl) ?_
        refine x_bipush hx hb dX6_writeTile_66 (by decide) ?_
        refine x_cVV (As := [.int (iZ 35)]) (rest := []) hx hb hml hts hown hK hST hOK hH 0 (c_X6_write l E ST hSF σ249 35 hv se sf ll_49 lq_49 f0 f84 (by omega) (by omega)) (cwV 1 hts gX6_writeTile_X6_write rfl rfl rfl (by decide +kernel) ⟨Nat.le_of_ble_eq_true rfl, Nat.le_of_ble_eq_true rfl⟩) (ltw (by decide)) f0 rfl rfl hl.1 rfl (Nat.le_of_ble_eq_true rfl) dX6_writeTile_68 ⟨Nat.le_of_ble_eq_true rfl, Nat.le_of_ble_eq_true rfl⟩ (fun σ285 H locs hp286 hH => ?_)
        obtain ⟨⟨lq_68, ll_68, f0, f84, hw68⟩, fr287⟩ := hp286
        have f1 : σ285 1 = oB 0 [.ref (xad E 2), .ref (xad E 3), .ref (xad E 4), .ref (xad E 5), .ref (xad E 6), .int (iZ pn), .int (iZ nw), .int (iZ sh), .long (lZ wk)] := (fr287 1 (by omega) (by omega)).trans f1
        have f2 : σ285 2 = aI E 25 op := (fr287 2 (by omega) (by omega)).trans f2
        have f3 : σ285 3 = aI E 25 lk := (fr287 3 (by omega) (by omega)).trans f3
        have f4 : σ285 4 = aI E 6 kp := (fr287 4 (by omega) (by omega)).trans f4
        have f5 : σ285 5 = aI E 3 wc := (fr287 5 (by omega) (by omega)).trans f5
        have f6 : σ285 6 = aI E 5 ro1 := (fr287 6 (by omega) (by omega)).trans f6
        have hb68 := wr_b hw68 (by omega)
        refine lv_aload_n hx hb dX6_writeTile_71 rfl (lv_at hl 1 rfl) ?_
        refine lv_aload_n hx hb dX6_writeTile_72 rfl (lv_at hl 1 rfl) ?_
        refine x_get hx hb hts hown hK hH 0 (ltw (by decide)) f0 hinX6 rfl 0 (by decide) (List.mem_of_getElem? (i := 1) rfl) rfl dX6_writeTile_73 ?_
        refine x_get hx hb hts hown hK hH 1 (ltw (by decide)) f1 hinX1 rfl 1 (by decide) (List.mem_of_getElem? (i := 3) rfl) rfl dX6_writeTile_76 ?_
        refine lv_iload_n hx hb dX6_writeTile_79 rfl (lv_at hl 2 rfl) ?_
        refine x_iald hx hb hK hH 3 (ltw (by decide)) f3 (by omega) (by omega) (by omega) dX6_writeTile_80 ?_
        have hv289 := hlk cell
        refine x_cSID (As := [.int (iZ (lk cell))]) (rest := [.ref (xad E 0)]) hx hb hml hts hown hK hST hOK hH (c_X6_keyName l E ST hSF σ285 (lk cell)  (by omega) (by omega)) (va_cwS 1 hts gX6_writeTile_X6_keyName rfl rfl rfl (by decide +kernel) ⟨Nat.le_of_ble_eq_true rfl, Nat.le_of_ble_eq_true rfl⟩) rfl hl.1 rfl (Nat.le_of_ble_eq_true rfl) dX6_writeTile_81 ⟨Nat.le_of_ble_eq_true rfl, Nat.le_of_ble_eq_true rfl⟩ (fun z u h => h) (fun H locs hH => ?_)
        refine x_cVV (As := [.int (iZ (97 + (lk cell)))]) (rest := []) hx hb hml hts hown hK hST hOK hH 0 (c_X6_write l E ST hSF σ285 (97 + (lk cell)) hv se sf ll_68 lq_68 f0 f84 (by omega) (by omega)) (cwV 1 hts gX6_writeTile_X6_write rfl rfl rfl (by decide +kernel) ⟨Nat.le_of_ble_eq_true rfl, Nat.le_of_ble_eq_true rfl⟩) (ltw (by decide)) f0 rfl rfl hl.1 rfl (Nat.le_of_ble_eq_true rfl) dX6_writeTile_84 ⟨Nat.le_of_ble_eq_true rfl, Nat.le_of_ble_eq_true rfl⟩ (fun σ294 H locs hp295 hH => ?_)
        obtain ⟨⟨lq_84, ll_84, f0, f84, hw84⟩, fr296⟩ := hp295
        have f1 : σ294 1 = oB 0 [.ref (xad E 2), .ref (xad E 3), .ref (xad E 4), .ref (xad E 5), .ref (xad E 6), .int (iZ pn), .int (iZ nw), .int (iZ sh), .long (lZ wk)] := (fr296 1 (by omega) (by omega)).trans f1
        have f2 : σ294 2 = aI E 25 op := (fr296 2 (by omega) (by omega)).trans f2
        have f3 : σ294 3 = aI E 25 lk := (fr296 3 (by omega) (by omega)).trans f3
        have f4 : σ294 4 = aI E 6 kp := (fr296 4 (by omega) (by omega)).trans f4
        have f5 : σ294 5 = aI E 3 wc := (fr296 5 (by omega) (by omega)).trans f5
        have f6 : σ294 6 = aI E 5 ro1 := (fr296 6 (by omega) (by omega)).trans f6
        have hb84 := wr_b hw84 (by omega)
        have s3 : (lq_84, ll_84) = List.foldl wrF (lq, ll) ([tlC (op cell)] ++ pinL pn cell ++ lkL lk cell) := by rw [show lkL lk cell = [35, 97 + lk cell] from if_neg c62]; exact fl_w2 s2 hw68 hw84
        refine lv_aload_n hx hb dX6_writeTile_87 rfl (lv_at hl 1 rfl) ?_
        refine x_get hx hb hts hown hK hH 0 (ltw (by decide)) f0 hinX6 rfl 0 (by decide) (List.mem_of_getElem? (i := 1) rfl) rfl dX6_writeTile_88 ?_
        refine lv_iload_n hx hb dX6_writeTile_91 rfl (lv_at hl 2 rfl) ?_
        refine x_cVID (As := [.int (iZ cell)]) (rest := []) hx hb hml hts hown hK hST hOK hH 1 (c_X1_countWalkers l E ST hSF σ294 1 cell op lk kp wc pn nw sh wk ⟨f1, f2, f3, f4, f5, _, f6⟩ (by omega) (by omega) (by assumption) (by omega)) (cwV 1 hts gX6_writeTile_X1_countWalkers rfl rfl rfl (by decide +kernel) ⟨Nat.le_of_ble_eq_true rfl, Nat.le_of_ble_eq_true rfl⟩) (ltw (by decide)) f1 rfl rfl hl.1 rfl (Nat.le_of_ble_eq_true rfl) dX6_writeTile_92 ⟨Nat.le_of_ble_eq_true rfl, Nat.le_of_ble_eq_true rfl⟩ (fun z u h => h) (fun H locs hH => ?_)
        have hcb := cntK_b (f := wc) (x := cell) hnw.1
        refine x_if_le (tgt := 104) hx hb dX6_writeTile_95 (by decide) (by omega) (fun c95 => ?_) (fun c95 => ?_)
        · have s4 : (lq_84, ll_84) = List.foldl wrF (lq, ll) ([tlC (op cell)] ++ pinL pn cell ++ lkL lk cell ++ wkL wc nw cell) := by rw [show wkL wc nw cell = [] from if_neg (by omega)]; exact fl_n s3
          refine x_iconst hx hb dX6_writeTile_104 ?_
          refine lv_istore_n (lv' := [(3, .int (iZ 0)), (2, .int (iZ (op cell))), (0, .ref (xad E 0)), (1, .int (iZ cell))]) hx hb dX6_writeTile_105 rfl hl (by decide) rfl (fun ls hl => ?_)
          have K106 : ∀ (nK : Nat) (i : Int) (lqx : Int → Int) (llx : Int) (σ301 : xW) (H : Heap) (locs : List Loc) (ls : Array Slot), (6 - i).toNat < nK → (0 ≤ i ∧ i ≤ 6) → (0 ≤ llx ∧ llx ≤ 35) → ((lqx, llx) = List.foldl wrF (lq, ll) ([tlC (op cell)] ++ pinL pn cell ++ lkL lk cell ++ wkL wc nw cell ++ kyL kp cell i)) → σ301 0 = oB 4 [.ref (xad E 1), .ref (xad E 7), .ref (xad E 13), .ref (xad E 19), .int (iZ (b2 hv)), .ref (xad E 73), .ref (xad E 75), .ref (xad E 81), .int (iZ se), .int (iZ sf), .ref (xad E 84), .int (iZ llx)] → σ301 1 = oB 0 [.ref (xad E 2), .ref (xad E 3), .ref (xad E 4), .ref (xad E 5), .ref (xad E 6), .int (iZ pn), .int (iZ nw), .int (iZ sh), .long (lZ wk)] → σ301 2 = aI E 25 op → σ301 3 = aI E 25 lk → σ301 4 = aI E 6 kp → σ301 5 = aI E 3 wc → σ301 6 = aI E 5 ro1 → σ301 84 = aC E 35 lqx → (∀ j : Nat, j ≠ 0 → j ≠ 84 → σ301 j = σ294 j) → Hx E (xA E s.heap.size) s.heap σ301 H locs → lv_has ls 4 [(3, .int (iZ i)), (2, .int (iZ (op cell))), (0, .ref (xad E 0)), (1, .int (iZ cell))] → W p l e rm_X6_writeTile s m args below meth c H locs 0 0 Q (F0 m 106 ls []) := by
            intro n106
            induction n106 with
            | zero =>
              intro i lqx llx σ301 H locs ls hm
              exact absurd hm (by first | exact Nat.not_lt_zero _ | omega)
            | succ n106 ih106 =>
              intro i lqx llx σ301 H locs ls hm106 hi hlb hlx f0 f1 f2 f3 f4 f5 f6 f84 fr302 hH hl
              refine lv_iload_n hx hb dX6_writeTile_106 rfl (lv_at hl 0 rfl) ?_
              refine x_bipush hx hb dX6_writeTile_107 (by decide) ?_
              refine x_icmp_ge (tgt := 139) hx hb dX6_writeTile_109 (by decide) (by omega) (by decide) (fun c109 => ?_) (fun c109 => ?_)
              · subst hQ
                exact x_vret hx hb hr hlocks hH (Nat.le_of_ble_eq_true rfl) (Nat.le_of_ble_eq_true rfl) ⟨⟨lqx, llx, f0, f84, (by have e9 : i = 6 := (by omega); subst e9; exact hlx), (by omega)⟩, fun j hj0 hj1 => ((fr302 j (by omega) (by omega)).trans ((fr296 j (by omega) (by omega)).trans ((fr287 j (by omega) (by omega)).trans ((fr251 j (by omega) (by omega)).trans (fr168 j (by omega) (by omega))))))⟩ dX6_writeTile_139
              · refine lv_aload_n hx hb dX6_writeTile_112 rfl (lv_at hl 2 rfl) ?_
                refine x_get hx hb hts hown hK hH 0 (ltw (by decide)) f0 hinX6 rfl 0 (by decide) (List.mem_of_getElem? (i := 1) rfl) rfl dX6_writeTile_113 ?_
                refine x_get hx hb hts hown hK hH 1 (ltw (by decide)) f1 hinX1 rfl 2 (by decide) (List.mem_of_getElem? (i := 4) rfl) rfl dX6_writeTile_116 ?_
                refine lv_iload_n hx hb dX6_writeTile_119 rfl (lv_at hl 0 rfl) ?_
                refine x_iald hx hb hK hH 4 (ltw (by decide)) f4 (by omega) (by omega) (by omega) dX6_writeTile_120 ?_
                have hv303 := hkp i
                refine lv_iload_n hx hb dX6_writeTile_121 rfl (lv_at hl 3 rfl) ?_
                refine x_icmp_ne (tgt := 133) hx hb dX6_writeTile_122 (by decide) (by omega) (by omega) (fun c122 => ?_) (fun c122 => ?_)
                · refine x_iinc (lv' := [(3, .int (iZ (i + 1))), (2, .int (iZ (op cell))), (0, .ref (xad E 0)), (1, .int (iZ cell))]) hx hb dX6_writeTile_133 hl (k := 0) rfl (by decide) rfl (fun ls hl => ?_)
                  refine lv_goto (tgt := 106) hx hb dX6_writeTile_136 (by decide) ?_
                  exact ih106 (i + 1) lqx llx σ301 _ _ _ (by omega) (by omega) (by omega) (by rw [kyL_s hi.1]; first | (rw [if_pos c122, ← List.append_assoc]; exact fl_w hlx hw130) | (rw [if_neg c122, List.append_nil]; exact hlx)) f0 f1 f2 f3 f4 f5 f6 f84 (fun j hj0 hj1 => (fr302 j (by omega) (by omega))) hH (lv_sub hl [0, 1, 2, 3] rfl)
                · refine lv_aload_n hx hb dX6_writeTile_125 rfl (lv_at hl 2 rfl) ?_
                  refine lv_iload_n hx hb dX6_writeTile_126 rfl (lv_at hl 0 rfl) ?_
                  refine x_cSID (As := [.int (iZ i)]) (rest := [.ref (xad E 0)]) hx hb hml hts hown hK hST hOK hH (c_X6_keyName l E ST hSF σ301 i  (by omega) (by omega)) (va_cwS 1 hts gX6_writeTile_X6_keyName rfl rfl rfl (by decide +kernel) ⟨Nat.le_of_ble_eq_true rfl, Nat.le_of_ble_eq_true rfl⟩) rfl hl.1 rfl (Nat.le_of_ble_eq_true rfl) dX6_writeTile_127 ⟨Nat.le_of_ble_eq_true rfl, Nat.le_of_ble_eq_true rfl⟩ (fun z u h => h) (fun H locs hH => ?_)
                  refine x_cVV (As := [.int (iZ (97 + i))]) (rest := []) hx hb hml hts hown hK hST hOK hH 0 (c_X6_write l E ST hSF σ301 (97 + i) hv se sf llx lqx f0 f84 (by omega) (by omega)) (cwV 1 hts gX6_writeTile_X6_write rfl rfl rfl (by decide +kernel) ⟨Nat.le_of_ble_eq_true rfl, Nat.le_of_ble_eq_true rfl⟩) (ltw (by decide)) f0 rfl rfl hl.1 rfl (Nat.le_of_ble_eq_true rfl) dX6_writeTile_130 ⟨Nat.le_of_ble_eq_true rfl, Nat.le_of_ble_eq_true rfl⟩ (fun σ308 H locs hp309 hH => ?_)
                  obtain ⟨⟨lq_130, ll_130, f0, f84, hw130⟩, fr310⟩ := hp309
                  have f1 : σ308 1 = oB 0 [.ref (xad E 2), .ref (xad E 3), .ref (xad E 4), .ref (xad E 5), .ref (xad E 6), .int (iZ pn), .int (iZ nw), .int (iZ sh), .long (lZ wk)] := (fr310 1 (by omega) (by omega)).trans f1
                  have f2 : σ308 2 = aI E 25 op := (fr310 2 (by omega) (by omega)).trans f2
                  have f3 : σ308 3 = aI E 25 lk := (fr310 3 (by omega) (by omega)).trans f3
                  have f4 : σ308 4 = aI E 6 kp := (fr310 4 (by omega) (by omega)).trans f4
                  have f5 : σ308 5 = aI E 3 wc := (fr310 5 (by omega) (by omega)).trans f5
                  have f6 : σ308 6 = aI E 5 ro1 := (fr310 6 (by omega) (by omega)).trans f6
                  have hb130 := wr_b hw130 (by omega)
                  refine x_iinc (lv' := [(3, .int (iZ (i + 1))), (2, .int (iZ (op cell))), (0, .ref (xad E 0)), (1, .int (iZ cell))]) hx hb dX6_writeTile_133 hl (k := 0) rfl (by decide) rfl (fun ls hl => ?_)
                  refine lv_goto (tgt := 106) hx hb dX6_writeTile_136 (by decide) ?_
                  exact ih106 (i + 1) lq_130 ll_130 σ308 _ _ _ (by omega) (by omega) (by omega) (by rw [kyL_s hi.1]; first | (rw [if_pos c122, ← List.append_assoc]; exact fl_w hlx hw130) | (rw [if_neg c122, List.append_nil]; exact hlx)) f0 f1 f2 f3 f4 f5 f6 f84 (fun j hj0 hj1 => ((fr310 j (by omega) (by omega)).trans (fr302 j (by omega) (by omega)))) hH (lv_sub hl [0, 1, 2, 3] rfl)
          exact K106 7 0 lq_84 ll_84 σ294 _ _ _ (by first | omega | decide) (by omega) (by omega) (by rw [kyL_0]; exact fl_n s4) f0 f1 f2 f3 f4 f5 f6 f84 (fun j _ _ => rfl) hH (lv_sub hl [0, 1, 2, 3] rfl)
        · refine lv_aload_n hx hb dX6_writeTile_98 rfl (lv_at hl 1 rfl) ?_
          refine x_bipush hx hb dX6_writeTile_99 (by decide) ?_
          refine x_cVV (As := [.int (iZ 64)]) (rest := []) hx hb hml hts hown hK hST hOK hH 0 (c_X6_write l E ST hSF σ294 64 hv se sf ll_84 lq_84 f0 f84 (by omega) (by omega)) (cwV 1 hts gX6_writeTile_X6_write rfl rfl rfl (by decide +kernel) ⟨Nat.le_of_ble_eq_true rfl, Nat.le_of_ble_eq_true rfl⟩) (ltw (by decide)) f0 rfl rfl hl.1 rfl (Nat.le_of_ble_eq_true rfl) dX6_writeTile_101 ⟨Nat.le_of_ble_eq_true rfl, Nat.le_of_ble_eq_true rfl⟩ (fun σ313 H locs hp314 hH => ?_)
          obtain ⟨⟨lq_101, ll_101, f0, f84, hw101⟩, fr315⟩ := hp314
          have f1 : σ313 1 = oB 0 [.ref (xad E 2), .ref (xad E 3), .ref (xad E 4), .ref (xad E 5), .ref (xad E 6), .int (iZ pn), .int (iZ nw), .int (iZ sh), .long (lZ wk)] := (fr315 1 (by omega) (by omega)).trans f1
          have f2 : σ313 2 = aI E 25 op := (fr315 2 (by omega) (by omega)).trans f2
          have f3 : σ313 3 = aI E 25 lk := (fr315 3 (by omega) (by omega)).trans f3
          have f4 : σ313 4 = aI E 6 kp := (fr315 4 (by omega) (by omega)).trans f4
          have f5 : σ313 5 = aI E 3 wc := (fr315 5 (by omega) (by omega)).trans f5
          have f6 : σ313 6 = aI E 5 ro1 := (fr315 6 (by omega) (by omega)).trans f6
          have hb101 := wr_b hw101 (by omega)
          have s4 : (lq_101, ll_101) = List.foldl wrF (lq, ll) ([tlC (op cell)] ++ pinL pn cell ++ lkL lk cell ++ wkL wc nw cell) := by rw [show wkL wc nw cell = [64] from if_pos (by omega)]; exact fl_w s3 hw101
          refine x_iconst hx hb dX6_writeTile_104 ?_
          refine lv_istore_n (lv' := [(3, .int (iZ 0)), (2, .int (iZ (op cell))), (0, .ref (xad E 0)), (1, .int (iZ cell))]) hx hb dX6_writeTile_105 rfl hl (by decide) rfl (fun ls hl => ?_)
          have K106 : ∀ (nK : Nat) (i : Int) (lqx : Int → Int) (llx : Int) (σ317 : xW) (H : Heap) (locs : List Loc) (ls : Array Slot), (6 - i).toNat < nK → (0 ≤ i ∧ i ≤ 6) → (0 ≤ llx ∧ llx ≤ 35) → ((lqx, llx) = List.foldl wrF (lq, ll) ([tlC (op cell)] ++ pinL pn cell ++ lkL lk cell ++ wkL wc nw cell ++ kyL kp cell i)) → σ317 0 = oB 4 [.ref (xad E 1), .ref (xad E 7), .ref (xad E 13), .ref (xad E 19), .int (iZ (b2 hv)), .ref (xad E 73), .ref (xad E 75), .ref (xad E 81), .int (iZ se), .int (iZ sf), .ref (xad E 84), .int (iZ llx)] → σ317 1 = oB 0 [.ref (xad E 2), .ref (xad E 3), .ref (xad E 4), .ref (xad E 5), .ref (xad E 6), .int (iZ pn), .int (iZ nw), .int (iZ sh), .long (lZ wk)] → σ317 2 = aI E 25 op → σ317 3 = aI E 25 lk → σ317 4 = aI E 6 kp → σ317 5 = aI E 3 wc → σ317 6 = aI E 5 ro1 → σ317 84 = aC E 35 lqx → (∀ j : Nat, j ≠ 0 → j ≠ 84 → σ317 j = σ313 j) → Hx E (xA E s.heap.size) s.heap σ317 H locs → lv_has ls 4 [(3, .int (iZ i)), (2, .int (iZ (op cell))), (0, .ref (xad E 0)), (1, .int (iZ cell))] → W p l e rm_X6_writeTile s m args below meth c H locs 0 0 Q (F0 m 106 ls []) := by
            intro n106
            induction n106 with
            | zero =>
              intro i lqx llx σ317 H locs ls hm
              exact absurd hm (by first | exact Nat.not_lt_zero _ | omega)
            | succ n106 ih106 =>
              intro i lqx llx σ317 H locs ls hm106 hi hlb hlx f0 f1 f2 f3 f4 f5 f6 f84 fr318 hH hl
              refine lv_iload_n hx hb dX6_writeTile_106 rfl (lv_at hl 0 rfl) ?_
              refine x_bipush hx hb dX6_writeTile_107 (by decide) ?_
              refine x_icmp_ge (tgt := 139) hx hb dX6_writeTile_109 (by decide) (by omega) (by decide) (fun c109 => ?_) (fun c109 => ?_)
              · subst hQ
                exact x_vret hx hb hr hlocks hH (Nat.le_of_ble_eq_true rfl) (Nat.le_of_ble_eq_true rfl) ⟨⟨lqx, llx, f0, f84, (by have e9 : i = 6 := (by omega); subst e9; exact hlx), (by omega)⟩, fun j hj0 hj1 => ((fr318 j (by omega) (by omega)).trans ((fr315 j (by omega) (by omega)).trans ((fr296 j (by omega) (by omega)).trans ((fr287 j (by omega) (by omega)).trans ((fr251 j (by omega) (by omega)).trans (fr168 j (by omega) (by omega)))))))⟩ dX6_writeTile_139
              · refine lv_aload_n hx hb dX6_writeTile_112 rfl (lv_at hl 2 rfl) ?_
                refine x_get hx hb hts hown hK hH 0 (ltw (by decide)) f0 hinX6 rfl 0 (by decide) (List.mem_of_getElem? (i := 1) rfl) rfl dX6_writeTile_113 ?_
                refine x_get hx hb hts hown hK hH 1 (ltw (by decide)) f1 hinX1 rfl 2 (by decide) (List.mem_of_getElem? (i := 4) rfl) rfl dX6_writeTile_116 ?_
                refine lv_iload_n hx hb dX6_writeTile_119 rfl (lv_at hl 0 rfl) ?_
                refine x_iald hx hb hK hH 4 (ltw (by decide)) f4 (by omega) (by omega) (by omega) dX6_writeTile_120 ?_
                have hv319 := hkp i
                refine lv_iload_n hx hb dX6_writeTile_121 rfl (lv_at hl 3 rfl) ?_
                refine x_icmp_ne (tgt := 133) hx hb dX6_writeTile_122 (by decide) (by omega) (by omega) (fun c122 => ?_) (fun c122 => ?_)
                · refine x_iinc (lv' := [(3, .int (iZ (i + 1))), (2, .int (iZ (op cell))), (0, .ref (xad E 0)), (1, .int (iZ cell))]) hx hb dX6_writeTile_133 hl (k := 0) rfl (by decide) rfl (fun ls hl => ?_)
                  refine lv_goto (tgt := 106) hx hb dX6_writeTile_136 (by decide) ?_
                  exact ih106 (i + 1) lqx llx σ317 _ _ _ (by omega) (by omega) (by omega) (by rw [kyL_s hi.1]; first | (rw [if_pos c122, ← List.append_assoc]; exact fl_w hlx hw130) | (rw [if_neg c122, List.append_nil]; exact hlx)) f0 f1 f2 f3 f4 f5 f6 f84 (fun j hj0 hj1 => (fr318 j (by omega) (by omega))) hH (lv_sub hl [0, 1, 2, 3] rfl)
                · refine lv_aload_n hx hb dX6_writeTile_125 rfl (lv_at hl 2 rfl) ?_
                  refine lv_iload_n hx hb dX6_writeTile_126 rfl (lv_at hl 0 rfl) ?_
                  refine x_cSID (As := [.int (iZ i)]) (rest := [.ref (xad E 0)]) hx hb hml hts hown hK hST hOK hH (c_X6_keyName l E ST hSF σ317 i  (by omega) (by omega)) (va_cwS 1 hts gX6_writeTile_X6_keyName rfl rfl rfl (by decide +kernel) ⟨Nat.le_of_ble_eq_true rfl, Nat.le_of_ble_eq_true rfl⟩) rfl hl.1 rfl (Nat.le_of_ble_eq_true rfl) dX6_writeTile_127 ⟨Nat.le_of_ble_eq_true rfl, Nat.le_of_ble_eq_true rfl⟩ (fun z u h => h) (fun H locs hH => ?_)
                  refine x_cVV (As := [.int (iZ (97 + i))]) (rest := []) hx hb hml hts hown hK hST hOK hH 0 (c_X6_write l E ST hSF σ317 (97 + i) hv se sf llx lqx f0 f84 (by omega) (by omega)) (cwV 1 hts gX6_writeTile_X6_write rfl rfl rfl (by decide +kernel) ⟨Nat.le_of_ble_eq_true rfl, Nat.le_of_ble_eq_true rfl⟩) (ltw (by decide)) f0 rfl rfl hl.1 rfl (Nat.le_of_ble_eq_true rfl) dX6_writeTile_130 ⟨Nat.le_of_ble_eq_true rfl, Nat.le_of_ble_eq_true rfl⟩ (fun σ324 H locs hp325 hH => ?_)
                  obtain ⟨⟨lq_130, ll_130, f0, f84, hw130⟩, fr326⟩ := hp325
                  have f1 : σ324 1 = oB 0 [.ref (xad E 2), .ref (xad E 3), .ref (xad E 4), .ref (xad E 5), .ref (xad E 6), .int (iZ pn), .int (iZ nw), .int (iZ sh), .long (lZ wk)] := (fr326 1 (by omega) (by omega)).trans f1
                  have f2 : σ324 2 = aI E 25 op := (fr326 2 (by omega) (by omega)).trans f2
                  have f3 : σ324 3 = aI E 25 lk := (fr326 3 (by omega) (by omega)).trans f3
                  have f4 : σ324 4 = aI E 6 kp := (fr326 4 (by omega) (by omega)).trans f4
                  have f5 : σ324 5 = aI E 3 wc := (fr326 5 (by omega) (by omega)).trans f5
                  have f6 : σ324 6 = aI E 5 ro1 := (fr326 6 (by omega) (by omega)).trans f6
                  have hb130 := wr_b hw130 (by omega)
                  refine x_iinc (lv' := [(3, .int (iZ (i + 1))), (2, .int (iZ (op cell))), (0, .ref (xad E 0)), (1, .int (iZ cell))]) hx hb dX6_writeTile_133 hl (k := 0) rfl (by decide) rfl (fun ls hl => ?_)
                  refine lv_goto (tgt := 106) hx hb dX6_writeTile_136 (by decide) ?_
                  exact ih106 (i + 1) lq_130 ll_130 σ324 _ _ _ (by omega) (by omega) (by omega) (by rw [kyL_s hi.1]; first | (rw [if_pos c122, ← List.append_assoc]; exact fl_w hlx hw130) | (rw [if_neg c122, List.append_nil]; exact hlx)) f0 f1 f2 f3 f4 f5 f6 f84 (fun j hj0 hj1 => ((fr326 j (by omega) (by omega)).trans (fr318 j (by omega) (by omega)))) hH (lv_sub hl [0, 1, 2, 3] rfl)
          exact K106 7 0 lq_101 ll_101 σ313 _ _ _ (by first | omega | decide) (by omega) (by omega) (by rw [kyL_0]; exact fl_n s4) f0 f1 f2 f3 f4 f5 f6 f84 (fun j _ _ => rfl) hH (lv_sub hl [0, 1, 2, 3] rfl)

def rm_X6_writeRow : Room := { frames := 7, cells := 1, slots := 6, locals := 110 }
set_option maxRecDepth 100000 in
set_option maxHeartbeats 4000000 in
theorem c_X6_writeRow (l : Launch) (E : xE) (ST : xST) (hSF : SF ST) (htr : l.stackTraces = false) (σ : xW) (r : Int) (hv : Bool) (se : Int) (sf : Int) (ll : Int) (op : Int → Int) (lk : Int → Int) (kp : Int → Int) (wc : Int → Int) (pn : Int) (nw : Int) (sh : Int) (wk : Int) (lq : Int → Int) (hr0 : mn E σ hv se sf ll) (hr1 : bd E σ 1 op lk kp wc pn nw sh wk) (hr2 : cln E σ lq) (hB : BI op lk kp wc pn nw) (hr9 : rg r) : XI l E ST yX6_writeRow wsX6_writeRow rm_X6_writeRow [.ref (xad E 0), .int (iZ r)] σ (fun (z : Int) (u : xW) => z = (List.foldl wrF (lq, 0) (rwL op lk kp wc pn nw r 5)).2 ∧ (mn E u hv se sf ((List.foldl wrF (lq, 0) (rwL op lk kp wc pn nw r 5)).2) ∧ bd E u 1 op lk kp wc pn nw sh wk ∧ cln E u ((List.foldl wrF (lq, 0) (rwL op lk kp wc pn nw r 5)).1) ∧ (0 ≤ r ∧ r < 5)) ∧ ∀ j : Nat, j ≠ 0 → j ≠ 84 → u j = σ j) (fun (n : String) (u : xW) => ((n = "java/lang/IndexOutOfBoundsException" ∧ ¬ (0 ≤ r ∧ r < 5))) ∧ (mn E u hv se sf ll ∧ bd E u 1 op lk kp wc pn nw sh wk ∧ cln E u lq) ∧ ∀ j : Nat, j ≠ 0 → j ≠ 84 → u j = σ j) := by
  have f0 : σ 0 = oB 4 [.ref (xad E 1), .ref (xad E 7), .ref (xad E 13), .ref (xad E 19), .int (iZ (b2 hv)), .ref (xad E 73), .ref (xad E 75), .ref (xad E 81), .int (iZ se), .int (iZ sf), .ref (xad E 84), .int (iZ ll)] := hr0
  obtain ⟨f1, f2, f3, f4, f5, ro1, f6⟩ := hr1
  have f84 : σ 84 = aC E 35 lq := hr2
  refine XI_of (by decide) rfl (Nat.le_of_ble_eq_true rfl) ?_
  intro p e s m args below meth c Q ls G hH hl hQ
  obtain ⟨hx, hb, hml, hown, hts, hK, hST, hlocks, hr, hno⟩ := G
  have hOK := hSF.1
  have hown : s.vm.findClass RX6 = some m.cls := hown
  have hl : lv_has ls 4 [(0, .ref (xad E 0)), (1, .int (iZ r))] := hl
  have hinX6 : ∀ w ∈ u_ws RX6 TX6 12, w ∈ wsX6_writeRow := fun w h => (List.mem_cons_of_mem _ (List.mem_append_left _ (List.mem_append_left _ (List.mem_append_right _ h))))
  obtain ⟨hop, hlk, hkp, hwc, hpn, hnw⟩ := id hB
  refine lv_iload_n hx hb dX6_writeRow_0 rfl (lv_at hl 1 rfl) ?_
  refine x_cXSIE (As := [.int (iZ r)]) (rest := []) hx hb hml hts hown hK hST hOK hH (c_X6_needLine l E ST hSF htr σ r  (by omega)) (va_cwS 1 hts gX6_writeRow_X6_needLine rfl rfl rfl (by decide +kernel) ⟨Nat.le_of_ble_eq_true rfl, Nat.le_of_ble_eq_true rfl⟩) rfl hl.1 rfl (Nat.le_of_ble_eq_true rfl) dX6_writeRow_1 ⟨Nat.le_of_ble_eq_true rfl, Nat.le_of_ble_eq_true rfl⟩ ?_ (fun z u h => h) (fun σ2 H locs hp3 hH => ?_)
  · intro nx ce q9 σ2 H locs hp3 hH hce hcv hcl
    subst hQ
    obtain ⟨hn, hu⟩ := hp3
    rw [hu] at hH
    exact x_out hno hlocks hH hce hcv hcl ⟨(by first | exact hn | simp_all | omega), ⟨f0, ⟨f1, f2, f3, f4, f5, _, f6⟩, f84⟩, fun j hj0 hj1 => rfl⟩ (Nat.le_of_ble_eq_true rfl) (Nat.le_of_ble_eq_true rfl)
  · obtain ⟨hf4, hu5⟩ := hp3
    rw [hu5] at hH
    refine x_iconst hx hb dX6_writeRow_4 ?_
    refine x_imul hx hb dX6_writeRow_5 ?_
    refine lv_istore_n (lv' := [(2, .int (iZ (r * 5))), (0, .ref (xad E 0)), (1, .int (iZ r))]) hx hb dX6_writeRow_6 rfl hl (by decide) rfl (fun ls hl => ?_)
    refine lv_aload_n hx hb dX6_writeRow_7 rfl (lv_at hl 1 rfl) ?_
    refine x_iconst hx hb dX6_writeRow_8 ?_
    refine x_put (fs' := [.ref (xad E 1), .ref (xad E 7), .ref (xad E 13), .ref (xad E 19), .int (iZ (b2 hv)), .ref (xad E 73), .ref (xad E 75), .ref (xad E 81), .int (iZ se), .int (iZ sf), .ref (xad E 84), .int (iZ 0)]) hx hb hts hown hK hH 0 (ltw (by decide)) f0 hinX6 rfl tyX6 tyX6_ok nmX6 11 (by decide) (List.mem_of_getElem? (i := 1) rfl) rfl (ty := .int) (by decide +kernel) rfl rfl (Nat.le_of_ble_eq_true rfl) rfl dX6_writeRow_9 (fun σ6 H locs f0 fr7 hH => ?_)
    have f1 : σ6 1 = oB 0 [.ref (xad E 2), .ref (xad E 3), .ref (xad E 4), .ref (xad E 5), .ref (xad E 6), .int (iZ pn), .int (iZ nw), .int (iZ sh), .long (lZ wk)] := (fr7 1 (by omega)).trans f1
    have f2 : σ6 2 = aI E 25 op := (fr7 2 (by omega)).trans f2
    have f3 : σ6 3 = aI E 25 lk := (fr7 3 (by omega)).trans f3
    have f4 : σ6 4 = aI E 6 kp := (fr7 4 (by omega)).trans f4
    have f5 : σ6 5 = aI E 3 wc := (fr7 5 (by omega)).trans f5
    have f6 : σ6 6 = aI E 5 ro1 := (fr7 6 (by omega)).trans f6
    have f84 : σ6 84 = aC E 35 lq := (fr7 84 (by omega)).trans f84
    refine x_iconst hx hb dX6_writeRow_12 ?_
    refine lv_istore_n (lv' := [(3, .int (iZ 0)), (2, .int (iZ (r * 5))), (0, .ref (xad E 0)), (1, .int (iZ r))]) hx hb dX6_writeRow_13 rfl hl (by decide) rfl (fun ls hl => ?_)
    have K14 : ∀ (nK : Nat) (i : Int) (lqx : Int → Int) (llx : Int) (σ8 : xW) (H : Heap) (locs : List Loc) (ls : Array Slot), (5 - i).toNat < nK → (0 ≤ i ∧ i ≤ 5) → (0 ≤ llx ∧ llx ≤ 35) → ((lqx, llx) = List.foldl wrF (lq, 0) (rwL op lk kp wc pn nw r i)) → σ8 0 = oB 4 [.ref (xad E 1), .ref (xad E 7), .ref (xad E 13), .ref (xad E 19), .int (iZ (b2 hv)), .ref (xad E 73), .ref (xad E 75), .ref (xad E 81), .int (iZ se), .int (iZ sf), .ref (xad E 84), .int (iZ llx)] → σ8 1 = oB 0 [.ref (xad E 2), .ref (xad E 3), .ref (xad E 4), .ref (xad E 5), .ref (xad E 6), .int (iZ pn), .int (iZ nw), .int (iZ sh), .long (lZ wk)] → σ8 2 = aI E 25 op → σ8 3 = aI E 25 lk → σ8 4 = aI E 6 kp → σ8 5 = aI E 3 wc → σ8 6 = aI E 5 ro1 → σ8 84 = aC E 35 lqx → (∀ j : Nat, j ≠ 0 → j ≠ 84 → σ8 j = σ6 j) → Hx E (xA E s.heap.size) s.heap σ8 H locs → lv_has ls 4 [(3, .int (iZ i)), (2, .int (iZ (r * 5))), (0, .ref (xad E 0)), (1, .int (iZ r))] → W p l e rm_X6_writeRow s m args below meth c H locs (0 + rm_X6_needLine.cells) (0 + rm_X6_needLine.slots) Q (F0 m 14 ls []) := by
      intro n14
      induction n14 with
      | zero =>
        intro i lqx llx σ8 H locs ls hm
        exact absurd hm (by first | exact Nat.not_lt_zero _ | omega)
      | succ n14 ih14 =>
        intro i lqx llx σ8 H locs ls hm14 hi hlb hlx f0 f1 f2 f3 f4 f5 f6 f84 fr9 hH hl
        refine lv_iload_n hx hb dX6_writeRow_14 rfl (lv_at hl 0 rfl) ?_
        refine x_iconst hx hb dX6_writeRow_15 ?_
        refine x_icmp_ge (tgt := 42) hx hb dX6_writeRow_16 (by decide) (by omega) (by decide) (fun c16 => ?_) (fun c16 => ?_)
        · refine lv_aload_n hx hb dX6_writeRow_42 rfl (lv_at hl 2 rfl) ?_
          refine x_get hx hb hts hown hK hH 0 (ltw (by decide)) f0 hinX6 rfl 11 (by decide) (List.mem_of_getElem? (i := 1) rfl) rfl dX6_writeRow_43 ?_
          subst hQ
          exact x_ireX hx hb hr hlocks hH (Nat.le_of_ble_eq_true rfl) (Nat.le_of_ble_eq_true rfl) ⟨(show llx = ((List.foldl wrF (lq, 0) (rwL op lk kp wc pn nw r 5)).2) from (by have e9 : i = 5 := (by omega); subst e9; rw [← hlx])), ⟨(f0.trans (by have e9 : i = 5 := (by omega); subst e9; rw [← hlx])), ⟨f1, f2, f3, f4, f5, _, f6⟩, (f84.trans (congrArg (fun g => aC E 35 g) (show lqx = ((List.foldl wrF (lq, 0) (rwL op lk kp wc pn nw r 5)).1) from (by have e9 : i = 5 := (by omega); subst e9; rw [← hlx])))), (by omega)⟩, fun j hj0 hj1 => ((fr9 j (by omega) (by omega)).trans (fr7 j (by omega)))⟩ dX6_writeRow_46
        · refine lv_iload_n hx hb dX6_writeRow_19 rfl (lv_at hl 0 rfl) ?_
          refine x_if_le (tgt := 29) hx hb dX6_writeRow_20 (by decide) (by omega) (fun c20 => ?_) (fun c20 => ?_)
          · refine lv_aload_n hx hb dX6_writeRow_29 rfl (lv_at hl 2 rfl) ?_
            refine lv_iload_n hx hb dX6_writeRow_30 rfl (lv_at hl 1 rfl) ?_
            refine lv_iload_n hx hb dX6_writeRow_31 rfl (lv_at hl 0 rfl) ?_
            refine x_iadd hx hb dX6_writeRow_32 ?_
            refine x_cVV (As := [.int (iZ ((r * 5) + i))]) (rest := []) hx hb hml hts hown hK hST hOK hH 0 (c_X6_writeTile l E ST hSF σ8 ((r * 5) + i) hv se sf llx op lk kp wc pn nw sh wk lqx f0 ⟨f1, f2, f3, f4, f5, _, f6⟩ f84 (by omega) (by omega) (by omega)) (cwV 1 hts gX6_writeRow_X6_writeTile rfl rfl rfl (by decide +kernel) ⟨Nat.le_of_ble_eq_true rfl, Nat.le_of_ble_eq_true rfl⟩) (ltw (by decide)) f0 rfl rfl hl.1 rfl (Nat.le_of_ble_eq_true rfl) dX6_writeRow_33 ⟨Nat.le_of_ble_eq_true rfl, Nat.le_of_ble_eq_true rfl⟩ (fun σ11 H locs hp12 hH => ?_)
            obtain ⟨⟨lq_33, ll_33, f0, f84, hw33, hb33⟩, fr13⟩ := hp12
            have f1 : σ11 1 = oB 0 [.ref (xad E 2), .ref (xad E 3), .ref (xad E 4), .ref (xad E 5), .ref (xad E 6), .int (iZ pn), .int (iZ nw), .int (iZ sh), .long (lZ wk)] := (fr13 1 (by omega) (by omega)).trans f1
            have f2 : σ11 2 = aI E 25 op := (fr13 2 (by omega) (by omega)).trans f2
            have f3 : σ11 3 = aI E 25 lk := (fr13 3 (by omega) (by omega)).trans f3
            have f4 : σ11 4 = aI E 6 kp := (fr13 4 (by omega) (by omega)).trans f4
            have f5 : σ11 5 = aI E 3 wc := (fr13 5 (by omega) (by omega)).trans f5
            have f6 : σ11 6 = aI E 5 ro1 := (fr13 6 (by omega) (by omega)).trans f6
            refine x_iinc (lv' := [(3, .int (iZ (i + 1))), (2, .int (iZ (r * 5))), (0, .ref (xad E 0)), (1, .int (iZ r))]) hx hb dX6_writeRow_36 hl (k := 0) rfl (by decide) rfl (fun ls hl => ?_)
            refine lv_goto (tgt := 14) hx hb dX6_writeRow_39 (by decide) ?_
            exact ih14 (i + 1) lq_33 ll_33 σ11 _ _ _ (by omega) (by omega) (by omega) (by rw [rwL_s hi.1]; first | (rw [if_pos (show i = 0 by omega), List.append_nil]; exact fl_l hlx hw33) | (rw [if_neg (show ¬ i = 0 by omega)]; exact fl_l (fl_w hlx hw26) hw33)) f0 f1 f2 f3 f4 f5 f6 f84 (fun j hj0 hj1 => ((fr13 j (by omega) (by omega)).trans (fr9 j (by omega) (by omega)))) hH (lv_sub hl [0, 1, 2, 3] rfl)
          · refine lv_aload_n hx hb dX6_writeRow_23 rfl (lv_at hl 2 rfl) ?_
            refine x_bipush hx hb dX6_writeRow_24 (by decide) ?_
            refine x_cVV (As := [.int (iZ 32)]) (rest := []) hx hb hml hts hown hK hST hOK hH 0 (c_X6_write l E ST hSF σ8 32 hv se sf llx lqx f0 f84 (by omega) (by omega)) (cwV 1 hts gX6_writeRow_X6_write rfl rfl rfl (by decide +kernel) ⟨Nat.le_of_ble_eq_true rfl, Nat.le_of_ble_eq_true rfl⟩) (ltw (by decide)) f0 rfl rfl hl.1 rfl (Nat.le_of_ble_eq_true rfl) dX6_writeRow_26 ⟨Nat.le_of_ble_eq_true rfl, Nat.le_of_ble_eq_true rfl⟩ (fun σ16 H locs hp17 hH => ?_)
            obtain ⟨⟨lq_26, ll_26, f0, f84, hw26⟩, fr18⟩ := hp17
            have f1 : σ16 1 = oB 0 [.ref (xad E 2), .ref (xad E 3), .ref (xad E 4), .ref (xad E 5), .ref (xad E 6), .int (iZ pn), .int (iZ nw), .int (iZ sh), .long (lZ wk)] := (fr18 1 (by omega) (by omega)).trans f1
            have f2 : σ16 2 = aI E 25 op := (fr18 2 (by omega) (by omega)).trans f2
            have f3 : σ16 3 = aI E 25 lk := (fr18 3 (by omega) (by omega)).trans f3
            have f4 : σ16 4 = aI E 6 kp := (fr18 4 (by omega) (by omega)).trans f4
            have f5 : σ16 5 = aI E 3 wc := (fr18 5 (by omega) (by omega)).trans f5
            have f6 : σ16 6 = aI E 5 ro1 := (fr18 6 (by omega) (by omega)).trans f6
            have hb26 := wr_b hw26 (by omega)
            refine lv_aload_n hx hb dX6_writeRow_29 rfl (lv_at hl 2 rfl) ?_
            refine lv_iload_n hx hb dX6_writeRow_30 rfl (lv_at hl 1 rfl) ?_
            refine lv_iload_n hx hb dX6_writeRow_31 rfl (lv_at hl 0 rfl) ?_
            refine x_iadd hx hb dX6_writeRow_32 ?_
            refine x_cVV (As := [.int (iZ ((r * 5) + i))]) (rest := []) hx hb hml hts hown hK hST hOK hH 0 (c_X6_writeTile l E ST hSF σ16 ((r * 5) + i) hv se sf ll_26 op lk kp wc pn nw sh wk lq_26 f0 ⟨f1, f2, f3, f4, f5, _, f6⟩ f84 (by omega) (by omega) (by omega)) (cwV 1 hts gX6_writeRow_X6_writeTile rfl rfl rfl (by decide +kernel) ⟨Nat.le_of_ble_eq_true rfl, Nat.le_of_ble_eq_true rfl⟩) (ltw (by decide)) f0 rfl rfl hl.1 rfl (Nat.le_of_ble_eq_true rfl) dX6_writeRow_33 ⟨Nat.le_of_ble_eq_true rfl, Nat.le_of_ble_eq_true rfl⟩ (fun σ21 H locs hp22 hH => ?_)
            obtain ⟨⟨lq_33, ll_33, f0, f84, hw33, hb33⟩, fr23⟩ := hp22
            have f1 : σ21 1 = oB 0 [.ref (xad E 2), .ref (xad E 3), .ref (xad E 4), .ref (xad E 5), .ref (xad E 6), .int (iZ pn), .int (iZ nw), .int (iZ sh), .long (lZ wk)] := (fr23 1 (by omega) (by omega)).trans f1
            have f2 : σ21 2 = aI E 25 op := (fr23 2 (by omega) (by omega)).trans f2
            have f3 : σ21 3 = aI E 25 lk := (fr23 3 (by omega) (by omega)).trans f3
            have f4 : σ21 4 = aI E 6 kp := (fr23 4 (by omega) (by omega)).trans f4
            have f5 : σ21 5 = aI E 3 wc := (fr23 5 (by omega) (by omega)).trans f5
            have f6 : σ21 6 = aI E 5 ro1 := (fr23 6 (by omega) (by omega)).trans f6
            refine x_iinc (lv' := [(3, .int (iZ (i + 1))), (2, .int (iZ (r * 5))), (0, .ref (xad E 0)), (1, .int (iZ r))]) hx hb dX6_writeRow_36 hl (k := 0) rfl (by decide) rfl (fun ls hl => ?_)
            refine lv_goto (tgt := 14) hx hb dX6_writeRow_39 (by decide) ?_
            exact ih14 (i + 1) lq_33 ll_33 σ21 _ _ _ (by omega) (by omega) (by omega) (by rw [rwL_s hi.1]; first | (rw [if_pos (show i = 0 by omega), List.append_nil]; exact fl_l hlx hw33) | (rw [if_neg (show ¬ i = 0 by omega)]; exact fl_l (fl_w hlx hw26) hw33)) f0 f1 f2 f3 f4 f5 f6 f84 (fun j hj0 hj1 => ((fr23 j (by omega) (by omega)).trans ((fr18 j (by omega) (by omega)).trans (fr9 j (by omega) (by omega))))) hH (lv_sub hl [0, 1, 2, 3] rfl)
    exact K14 6 0 lq 0 σ6 _ _ _ (by first | omega | decide) (by omega) (by omega) (by exact fl_0) f0 f1 f2 f3 f4 f5 f6 f84 (fun j _ _ => rfl) hH (lv_sub hl [0, 1, 2, 3] rfl)
