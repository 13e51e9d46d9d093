def rm_X6_isLine : Room := { frames := 0, cells := 0, slots := 0, locals := 0 }
set_option maxRecDepth 100000 in
set_option maxHeartbeats 4000000 in
theorem c_X6_isLine (l : Launch) (E : xE) (ST : xST) (hSF : SF ST) (σ : xW) (a : Int) (ha : rg a) : CI l E ST yX6_isLine wsX6_isLine rm_X6_isLine [.int (iZ a)] σ (fun (z : Int) (u : xW) => z = b2 (decide (0 ≤ a ∧ a < 5)) ∧ u = σ) := by
  refine CI_of (by decide) rfl (Nat.le_of_ble_eq_true rfl) ?_
  intro p e s m args below meth c Q ls G hH hl hQ
  obtain ⟨hx, hb, hml, hown, hts, hK, hST, hlocks, hr, hno⟩ := G
  have hOK := hSF.1
  have hown : s.vm.findClass RX6 = some m.cls := hown
  have hl : lv_has ls 1 [(0, .int (iZ a))] := hl
  refine lv_iload_n hx hb dX6_isLine_0 rfl (lv_at hl 0 rfl) ?_
  refine x_if_lt (tgt := 13) hx hb dX6_isLine_1 (by decide) (by omega) (fun c1 => ?_) (fun c1 => ?_)
  · refine x_iconst hx hb dX6_isLine_13 ?_
    subst hQ
    exact x_zret (b := false) hx hb hr hlocks hH (Nat.le_of_ble_eq_true rfl) (Nat.le_of_ble_eq_true rfl) ⟨congrArg b2 (show false = (decide (0 ≤ a ∧ a < 5)) from (by exact (decide_eq_false (by omega)).symm)), rfl⟩ dX6_isLine_14
  · refine lv_iload_n hx hb dX6_isLine_4 rfl (lv_at hl 0 rfl) ?_
    refine x_iconst hx hb dX6_isLine_5 ?_
    refine x_icmp_ge (tgt := 13) hx hb dX6_isLine_6 (by decide) (by omega) (by decide) (fun c6 => ?_) (fun c6 => ?_)
    · refine x_iconst hx hb dX6_isLine_13 ?_
      subst hQ
      exact x_zret (b := false) hx hb hr hlocks hH (Nat.le_of_ble_eq_true rfl) (Nat.le_of_ble_eq_true rfl) ⟨congrArg b2 (show false = (decide (0 ≤ a ∧ a < 5)) from (by exact (decide_eq_false (by omega)).symm)), rfl⟩ dX6_isLine_14
    · refine x_iconst hx hb dX6_isLine_9 ?_
      refine lv_goto (tgt := 14) hx hb dX6_isLine_10 (by decide) ?_
      subst hQ
      exact x_zret (b := true) hx hb hr hlocks hH (Nat.le_of_ble_eq_true rfl) (Nat.le_of_ble_eq_true rfl) ⟨congrArg b2 (show true = (decide (0 ≤ a ∧ a < 5)) from (by exact (decide_eq_true (by omega)).symm)), rfl⟩ dX6_isLine_14

def rm_X6_isCell : Room := { frames := 0, cells := 0, slots := 0, locals := 0 }
set_option maxRecDepth 100000 in
set_option maxHeartbeats 4000000 in
theorem c_X6_isCell (l : Launch) (E : xE) (ST : xST) (hSF : SF ST) (σ : xW) (a : Int) (ha : rg a) : CI l E ST yX6_isCell wsX6_isCell rm_X6_isCell [.int (iZ a)] σ (fun (z : Int) (u : xW) => z = b2 (decide (0 ≤ a ∧ a < 25)) ∧ u = σ) := by
  refine CI_of (by decide) rfl (Nat.le_of_ble_eq_true rfl) ?_
  intro p e s m args below meth c Q ls G hH hl hQ
  obtain ⟨hx, hb, hml, hown, hts, hK, hST, hlocks, hr, hno⟩ := G
  have hOK := hSF.1
  have hown : s.vm.findClass RX6 = some m.cls := hown
  have hl : lv_has ls 1 [(0, .int (iZ a))] := hl
  refine lv_iload_n hx hb dX6_isCell_0 rfl (lv_at hl 0 rfl) ?_
  refine x_if_lt (tgt := 14) hx hb dX6_isCell_1 (by decide) (by omega) (fun c1 => ?_) (fun c1 => ?_)
  · refine x_iconst hx hb dX6_isCell_14 ?_
    subst hQ
    exact x_zret (b := false) hx hb hr hlocks hH (Nat.le_of_ble_eq_true rfl) (Nat.le_of_ble_eq_true rfl) ⟨congrArg b2 (show false = (decide (0 ≤ a ∧ a < 25)) from (by exact (decide_eq_false (by omega)).symm)), rfl⟩ dX6_isCell_15
  · refine lv_iload_n hx hb dX6_isCell_4 rfl (lv_at hl 0 rfl) ?_
    refine x_bipush hx hb dX6_isCell_5 (by decide) ?_
    refine x_icmp_ge (tgt := 14) hx hb dX6_isCell_7 (by decide) (by omega) (by decide) (fun c7 => ?_) (fun c7 => ?_)
    · refine x_iconst hx hb dX6_isCell_14 ?_
      subst hQ
      exact x_zret (b := false) hx hb hr hlocks hH (Nat.le_of_ble_eq_true rfl) (Nat.le_of_ble_eq_true rfl) ⟨congrArg b2 (show false = (decide (0 ≤ a ∧ a < 25)) from (by exact (decide_eq_false (by omega)).symm)), rfl⟩ dX6_isCell_15
    · refine x_iconst hx hb dX6_isCell_10 ?_
      refine lv_goto (tgt := 15) hx hb dX6_isCell_11 (by decide) ?_
      subst hQ
      exact x_zret (b := true) hx hb hr hlocks hH (Nat.le_of_ble_eq_true rfl) (Nat.le_of_ble_eq_true rfl) ⟨congrArg b2 (show true = (decide (0 ≤ a ∧ a < 25)) from (by exact (decide_eq_true (by omega)).symm)), rfl⟩ dX6_isCell_15

def rm_X6_isKey : Room := { frames := 0, cells := 0, slots := 0, locals := 0 }
set_option maxRecDepth 100000 in
set_option maxHeartbeats 4000000 in
theorem c_X6_isKey (l : Launch) (E : xE) (ST : xST) (hSF : SF ST) (σ : xW) (a : Int) (ha : rg a) : CI l E ST yX6_isKey wsX6_isKey rm_X6_isKey [.int (iZ a)] σ (fun (z : Int) (u : xW) => z = b2 (decide (97 ≤ a ∧ a < 103)) ∧ u = σ) := by
  refine CI_of (by decide) rfl (Nat.le_of_ble_eq_true rfl) ?_
  intro p e s m args below meth c Q ls G hH hl hQ
  obtain ⟨hx, hb, hml, hown, hts, hK, hST, hlocks, hr, hno⟩ := G
  have hOK := hSF.1
  have hown : s.vm.findClass RX6 = some m.cls := hown
  have hl : lv_has ls 1 [(0, .int (iZ a))] := hl
  refine lv_iload_n hx hb dX6_isKey_0 rfl (lv_at hl 0 rfl) ?_
  refine x_bipush hx hb dX6_isKey_1 (by decide) ?_
  refine x_icmp_lt (tgt := 16) hx hb dX6_isKey_3 (by decide) (by omega) (by decide) (fun c3 => ?_) (fun c3 => ?_)
  · refine x_iconst hx hb dX6_isKey_16 ?_
    subst hQ
    exact x_zret (b := false) hx hb hr hlocks hH (Nat.le_of_ble_eq_true rfl) (Nat.le_of_ble_eq_true rfl) ⟨congrArg b2 (show false = (decide (97 ≤ a ∧ a < 103)) from (by exact (decide_eq_false (by omega)).symm)), rfl⟩ dX6_isKey_17
  · refine lv_iload_n hx hb dX6_isKey_6 rfl (lv_at hl 0 rfl) ?_
    refine x_bipush hx hb dX6_isKey_7 (by decide) ?_
    refine x_icmp_ge (tgt := 16) hx hb dX6_isKey_9 (by decide) (by omega) (by decide) (fun c9 => ?_) (fun c9 => ?_)
    · refine x_iconst hx hb dX6_isKey_16 ?_
      subst hQ
      exact x_zret (b := false) hx hb hr hlocks hH (Nat.le_of_ble_eq_true rfl) (Nat.le_of_ble_eq_true rfl) ⟨congrArg b2 (show false = (decide (97 ≤ a ∧ a < 103)) from (by exact (decide_eq_false (by omega)).symm)), rfl⟩ dX6_isKey_17
    · refine x_iconst hx hb dX6_isKey_12 ?_
      refine lv_goto (tgt := 17) hx hb dX6_isKey_13 (by decide) ?_
      subst hQ
      exact x_zret (b := true) hx hb hr hlocks hH (Nat.le_of_ble_eq_true rfl) (Nat.le_of_ble_eq_true rfl) ⟨congrArg b2 (show true = (decide (97 ≤ a ∧ a < 103)) from (by exact (decide_eq_true (by omega)).symm)), rfl⟩ dX6_isKey_17

def rm_X6_keyName : Room := { frames := 0, cells := 0, slots := 0, locals := 0 }
set_option maxRecDepth 100000 in
set_option maxHeartbeats 4000000 in
theorem c_X6_keyName (l : Launch) (E : xE) (ST : xST) (hSF : SF ST) (σ : xW) (a : Int) (h0 : 0 ≤ a) (h1 : a ≤ 1000) : CI l E ST yX6_keyName wsX6_keyName rm_X6_keyName [.int (iZ a)] σ (fun (z : Int) (u : xW) => z = 97 + a ∧ u = σ) := by
  refine CI_of (by decide) rfl (Nat.le_of_ble_eq_true rfl) ?_
  intro p e s m args below meth c Q ls G hH hl hQ
  obtain ⟨hx, hb, hml, hown, hts, hK, hST, hlocks, hr, hno⟩ := G
  have hOK := hSF.1
  have hown : s.vm.findClass RX6 = some m.cls := hown
  have hl : lv_has ls 1 [(0, .int (iZ a))] := hl
  refine x_bipush hx hb dX6_keyName_0 (by decide) ?_
  refine lv_iload_n hx hb dX6_keyName_2 rfl (lv_at hl 0 rfl) ?_
  refine x_iadd hx hb dX6_keyName_3 ?_
  refine x_i2c hx hb dX6_keyName_4 ?_
  rw [i2cZ_in (by omega) (by omega)]
  subst hQ
  exact x_cret hx hb hr hlocks hH (Nat.le_of_ble_eq_true rfl) (Nat.le_of_ble_eq_true rfl) (by omega) (by omega) ⟨(show (97 + a) = (97 + a) from (by first | rfl | omega | simp_all)), rfl⟩ dX6_keyName_5

def rm_X1_isFixed : Room := { frames := 0, cells := 0, slots := 0, locals := 0 }
set_option maxRecDepth 100000 in
set_option maxHeartbeats 4000000 in
theorem c_X1_isFixed (l : Launch) (E : xE) (ST : xST) (hSF : SF ST) (σ : xW) (b : Nat) (cell : Int) (op : Int → Int) (lk : Int → Int) (kp : Int → Int) (wc : Int → Int) (pn : Int) (nw : Int) (sh : Int) (wk : Int) (hr0 : bd E σ b op lk kp wc pn nw sh wk) (hb : b + 6 ≤ 85) (hc : 0 ≤ cell ∧ cell < 25) : CI l E ST yX1_isFixed wsX1_isFixed rm_X1_isFixed [.ref (xad E b), .int (iZ cell)] σ (fun (z : Int) (u : xW) => z = b2 (decide (iandZ (ishrZ pn cell) 1 = 1)) ∧ u = σ) := by
  obtain ⟨fb_0, fb_1, fb_2, fb_3, fb_4, ro0, fb_5⟩ := hr0
  refine CI_of (by decide) rfl (Nat.le_of_ble_eq_true rfl) ?_
  intro p e s m args below meth c Q ls G hH hl hQ
  obtain ⟨hx, hb, hml, hown, hts, hK, hST, hlocks, hr, hno⟩ := G
  have hOK := hSF.1
  have hown : s.vm.findClass RX1 = some m.cls := hown
  have hl : lv_has ls 2 [(0, .ref (xad E b)), (1, .int (iZ cell))] := hl
  have hinX1 : ∀ w ∈ u_ws RX1 TX1 9, w ∈ wsX1_isFixed := fun w h => (List.mem_cons_of_mem _ (List.mem_append_right _ h))
  refine lv_aload_n hx hb dX1_isFixed_0 rfl (lv_at hl 0 rfl) ?_
  refine x_get hx hb hts hown hK hH b (by omega) fb_0 hinX1 rfl 5 (by decide) (List.mem_of_getElem? (i := 1) rfl) rfl dX1_isFixed_1 ?_
  refine lv_iload_n hx hb dX1_isFixed_4 rfl (lv_at hl 1 rfl) ?_
  refine x_ishr hx hb dX1_isFixed_5 ?_
  refine x_iconst hx hb dX1_isFixed_6 ?_
  refine x_iand hx hb dX1_isFixed_7 ?_
  refine x_iconst hx hb dX1_isFixed_8 ?_
  refine x_icmp_ne (tgt := 16) hx hb dX1_isFixed_9 (by decide) (iZ_rg _) (by decide) (fun c9 => ?_) (fun c9 => ?_)
  · refine x_iconst hx hb dX1_isFixed_16 ?_
    subst hQ
    exact x_zret (b := false) hx hb hr hlocks hH (Nat.le_of_ble_eq_true rfl) (Nat.le_of_ble_eq_true rfl) ⟨congrArg b2 (show false = (decide (iandZ (ishrZ pn cell) 1 = 1)) from (by exact (decide_eq_false (by omega)).symm)), rfl⟩ dX1_isFixed_17
  · refine x_iconst hx hb dX1_isFixed_12 ?_
    refine lv_goto (tgt := 17) hx hb dX1_isFixed_13 (by decide) ?_
    subst hQ
    exact x_zret (b := true) hx hb hr hlocks hH (Nat.le_of_ble_eq_true rfl) (Nat.le_of_ble_eq_true rfl) ⟨congrArg b2 (show true = (decide (iandZ (ishrZ pn cell) 1 = 1)) from (by exact (decide_eq_true (by omega)).symm)), rfl⟩ dX1_isFixed_17

def rm_X1_isWalker : Room := { frames := 0, cells := 0, slots := 0, locals := 0 }
set_option maxRecDepth 100000 in
set_option maxHeartbeats 4000000 in
theorem c_X1_isWalker (l : Launch) (E : xE) (ST : xST) (hSF : SF ST) (σ : xW) (b : Nat) (w : Int) (op : Int → Int) (lk : Int → Int) (kp : Int → Int) (wc : Int → Int) (pn : Int) (nw : Int) (sh : Int) (wk : Int) (hr0 : bd E σ b op lk kp wc pn nw sh wk) (hb : b + 6 ≤ 85) (hw : rg w) (hnw : 0 ≤ nw ∧ nw ≤ 3) : CI l E ST yX1_isWalker wsX1_isWalker rm_X1_isWalker [.ref (xad E b), .int (iZ w)] σ (fun (z : Int) (u : xW) => z = b2 (decide (0 ≤ w ∧ w < nw)) ∧ u = σ) := by
  obtain ⟨fb_0, fb_1, fb_2, fb_3, fb_4, ro0, fb_5⟩ := hr0
  refine CI_of (by decide) rfl (Nat.le_of_ble_eq_true rfl) ?_
  intro p e s m args below meth c Q ls G hH hl hQ
  obtain ⟨hx, hb, hml, hown, hts, hK, hST, hlocks, hr, hno⟩ := G
  have hOK := hSF.1
  have hown : s.vm.findClass RX1 = some m.cls := hown
  have hl : lv_has ls 2 [(0, .ref (xad E b)), (1, .int (iZ w))] := hl
  have hinX1 : ∀ w ∈ u_ws RX1 TX1 9, w ∈ wsX1_isWalker := fun w h => (List.mem_cons_of_mem _ (List.mem_append_right _ h))
  refine lv_iload_n hx hb dX1_isWalker_0 rfl (lv_at hl 1 rfl) ?_
  refine x_if_lt (tgt := 16) hx hb dX1_isWalker_1 (by decide) (by omega) (fun c1 => ?_) (fun c1 => ?_)
  · refine x_iconst hx hb dX1_isWalker_16 ?_
    subst hQ
    exact x_zret (b := false) hx hb hr hlocks hH (Nat.le_of_ble_eq_true rfl) (Nat.le_of_ble_eq_true rfl) ⟨congrArg b2 (show false = (decide (0 ≤ w ∧ w < nw)) from (by exact (decide_eq_false (by omega)).symm)), rfl⟩ dX1_isWalker_17
  · refine lv_iload_n hx hb dX1_isWalker_4 rfl (lv_at hl 1 rfl) ?_
    refine lv_aload_n hx hb dX1_isWalker_5 rfl (lv_at hl 0 rfl) ?_
    refine x_get hx hb hts hown hK hH b (by omega) fb_0 hinX1 rfl 6 (by decide) (List.mem_of_getElem? (i := 1) rfl) rfl dX1_isWalker_6 ?_
    refine x_icmp_ge (tgt := 16) hx hb dX1_isWalker_9 (by decide) (by omega) (by omega) (fun c9 => ?_) (fun c9 => ?_)
    · refine x_iconst hx hb dX1_isWalker_16 ?_
      subst hQ
      exact x_zret (b := false) hx hb hr hlocks hH (Nat.le_of_ble_eq_true rfl) (Nat.le_of_ble_eq_true rfl) ⟨congrArg b2 (show false = (decide (0 ≤ w ∧ w < nw)) from (by exact (decide_eq_false (by omega)).symm)), rfl⟩ dX1_isWalker_17
    · refine x_iconst hx hb dX1_isWalker_12 ?_
      refine lv_goto (tgt := 17) hx hb dX1_isWalker_13 (by decide) ?_
      subst hQ
      exact x_zret (b := true) hx hb hr hlocks hH (Nat.le_of_ble_eq_true rfl) (Nat.le_of_ble_eq_true rfl) ⟨congrArg b2 (show true = (decide (0 ≤ w ∧ w < nw)) from (by exact (decide_eq_true (by omega)).symm)), rfl⟩ dX1_isWalker_17

def rm_X1_countKeys : Room := { frames := 0, cells := 0, slots := 0, locals := 0 }
set_option maxRecDepth 100000 in
set_option maxHeartbeats 4000000 in
theorem c_X1_countKeys (l : Launch) (E : xE) (ST : xST) (hSF : SF ST) (σ : xW) (b : Nat) (place : Int) (op : Int → Int) (lk : Int → Int) (kp : Int → Int) (wc : Int → Int) (pn : Int) (nw : Int) (sh : Int) (wk : Int) (hr0 : bd E σ b op lk kp wc pn nw sh wk) (hb : b + 6 ≤ 85) (hp : rg place) (hkp : ∀ j, -1 ≤ kp j ∧ kp j ≤ 27) : CI l E ST yX1_countKeys wsX1_countKeys rm_X1_countKeys [.ref (xad E b), .int (iZ place)] σ (fun (z : Int) (u : xW) => z = cntK kp place 6 ∧ u = σ) := by
  obtain ⟨fb_0, fb_1, fb_2, fb_3, fb_4, ro0, fb_5⟩ := hr0
  refine CI_of (by decide) rfl (Nat.le_of_ble_eq_true rfl) ?_
  intro p e s m args below meth c Q ls G hH hl hQ
  obtain ⟨hx, hb, hml, hown, hts, hK, hST, hlocks, hr, hno⟩ := G
  have hOK := hSF.1
  have hown : s.vm.findClass RX1 = some m.cls := hown
  have hl : lv_has ls 4 [(0, .ref (xad E b)), (1, .int (iZ place))] := hl
  have hinX1 : ∀ w ∈ u_ws RX1 TX1 9, w ∈ wsX1_countKeys := fun w h => (List.mem_cons_of_mem _ (List.mem_append_right _ h))
  refine x_iconst hx hb dX1_countKeys_0 ?_
  refine lv_istore_n (lv' := [(2, .int (iZ 0)), (0, .ref (xad E b)), (1, .int (iZ place))]) hx hb dX1_countKeys_1 rfl hl (by decide) rfl (fun ls hl => ?_)
  refine x_iconst hx hb dX1_countKeys_2 ?_
  refine lv_istore_n (lv' := [(3, .int (iZ 0)), (2, .int (iZ 0)), (0, .ref (xad E b)), (1, .int (iZ place))]) hx hb dX1_countKeys_3 rfl hl (by decide) rfl (fun ls hl => ?_)
  have K4 : ∀ (nK : Nat) (cnt i : Int) (H : Heap) (locs : List Loc) (ls : Array Slot), (6 - i).toNat < nK → (0 ≤ i ∧ i ≤ 6) → (cnt = cntK kp place i) → (0 ≤ cnt ∧ cnt ≤ i) → Hx E (xA E s.heap.size) s.heap σ H locs → lv_has ls 4 [(3, .int (iZ i)), (2, .int (iZ cnt)), (0, .ref (xad E b)), (1, .int (iZ place))] → W p l e rm_X1_countKeys s m args below meth c H locs 0 0 Q (F0 m 4 ls []) := by
    intro n4
    induction n4 with
    | zero =>
      intro cnt i H locs ls hm
      exact absurd hm (by first | exact Nat.not_lt_zero _ | omega)
    | succ n4 ih4 =>
      intro cnt i H locs ls hm4 hi hcnt hcb  hH hl
      refine lv_iload_n hx hb dX1_countKeys_4 rfl (lv_at hl 0 rfl) ?_
      refine x_bipush hx hb dX1_countKeys_5 (by decide) ?_
      refine x_icmp_ge (tgt := 29) hx hb dX1_countKeys_7 (by decide) (by omega) (by decide) (fun c7 => ?_) (fun c7 => ?_)
      · refine lv_iload_n hx hb dX1_countKeys_29 rfl (lv_at hl 1 rfl) ?_
        subst hQ
        exact x_iret hx hb hr hlocks hH (Nat.le_of_ble_eq_true rfl) (Nat.le_of_ble_eq_true rfl) ⟨(show cnt = (cntK kp place 6) from (by have e : i = 6 := (by omega); subst e; exact hcnt)), rfl⟩ dX1_countKeys_30
      · refine lv_aload_n hx hb dX1_countKeys_10 rfl (lv_at hl 2 rfl) ?_
        refine x_get hx hb hts hown hK hH b (by omega) fb_0 hinX1 rfl 2 (by decide) (List.mem_of_getElem? (i := 1) rfl) rfl dX1_countKeys_11 ?_
        refine lv_iload_n hx hb dX1_countKeys_14 rfl (lv_at hl 0 rfl) ?_
        refine x_iald hx hb hK hH (b + 3) (by omega) fb_3 (by omega) (by omega) (by omega) dX1_countKeys_15 ?_
        have hv2 := hkp i
        refine lv_iload_n hx hb dX1_countKeys_16 rfl (lv_at hl 3 rfl) ?_
        refine x_icmp_ne (tgt := 23) hx hb dX1_countKeys_17 (by decide) (by omega) (by omega) (fun c17 => ?_) (fun c17 => ?_)
        · refine x_iinc (lv' := [(3, .int (iZ (i + 1))), (2, .int (iZ cnt)), (0, .ref (xad E b)), (1, .int (iZ place))]) hx hb dX1_countKeys_23 hl (k := 0) rfl (by decide) rfl (fun ls hl => ?_)
          refine lv_goto (tgt := 4) hx hb dX1_countKeys_26 (by decide) ?_
          exact ih4 cnt (i + 1) _ _ _ (by omega) (by first | omega | rfl | assumption | simp_all) (by first | (rw [cntK_s (by omega)]; simp only [*]; simp) | omega) (by first | omega | rfl | assumption | simp_all)  hH (lv_sub hl [0, 1, 2, 3] rfl)
        · refine x_iinc (lv' := [(2, .int (iZ (cnt + 1))), (3, .int (iZ i)), (0, .ref (xad E b)), (1, .int (iZ place))]) hx hb dX1_countKeys_20 hl (k := 1) rfl (by decide) rfl (fun ls hl => ?_)
          refine x_iinc (lv' := [(3, .int (iZ (i + 1))), (2, .int (iZ (cnt + 1))), (0, .ref (xad E b)), (1, .int (iZ place))]) hx hb dX1_countKeys_23 hl (k := 1) rfl (by decide) rfl (fun ls hl => ?_)
          refine lv_goto (tgt := 4) hx hb dX1_countKeys_26 (by decide) ?_
          exact ih4 (cnt + 1) (i + 1) _ _ _ (by omega) (by first | omega | rfl | assumption | simp_all) (by first | (rw [cntK_s (by omega)]; simp only [*]; simp) | omega) (by first | omega | rfl | assumption | simp_all)  hH (lv_sub hl [0, 1, 2, 3] rfl)
  exact K4 7 0 0 _ _ _ (by first | omega | decide) (by first | omega | rfl | assumption | simp_all) (by rfl) (by first | omega | rfl | assumption | simp_all)  hH (lv_sub hl [0, 1, 2, 3] rfl)

def rm_X1_countWalkers : Room := { frames := 0, cells := 0, slots := 0, locals := 0 }
set_option maxRecDepth 100000 in
set_option maxHeartbeats 4000000 in
theorem c_X1_countWalkers (l : Launch) (E : xE) (ST : xST) (hSF : SF ST) (σ : xW) (b : Nat) (cell : Int) (op : Int → Int) (lk : Int → Int) (kp : Int → Int) (wc : Int → Int) (pn : Int) (nw : Int) (sh : Int) (wk : Int) (hr0 : bd E σ b op lk kp wc pn nw sh wk) (hb : b + 6 ≤ 85) (hp : rg cell) (hwc : ∀ j, 0 ≤ wc j ∧ wc j ≤ 24) (hnw : 0 ≤ nw ∧ nw ≤ 3) : CI l E ST yX1_countWalkers wsX1_countWalkers rm_X1_countWalkers [.ref (xad E b), .int (iZ cell)] σ (fun (z : Int) (u : xW) => z = cntK wc cell nw ∧ u = σ) := by
  obtain ⟨fb_0, fb_1, fb_2, fb_3, fb_4, ro0, fb_5⟩ := hr0
  refine CI_of (by decide) rfl (Nat.le_of_ble_eq_true rfl) ?_
  intro p e s m args below meth c Q ls G hH hl hQ
  obtain ⟨hx, hb, hml, hown, hts, hK, hST, hlocks, hr, hno⟩ := G
  have hOK := hSF.1
  have hown : s.vm.findClass RX1 = some m.cls := hown
  have hl : lv_has ls 4 [(0, .ref (xad E b)), (1, .int (iZ cell))] := hl
  have hinX1 : ∀ w ∈ u_ws RX1 TX1 9, w ∈ wsX1_countWalkers := fun w h => (List.mem_cons_of_mem _ (List.mem_append_right _ h))
  refine x_iconst hx hb dX1_countWalkers_0 ?_
  refine lv_istore_n (lv' := [(2, .int (iZ 0)), (0, .ref (xad E b)), (1, .int (iZ cell))]) hx hb dX1_countWalkers_1 rfl hl (by decide) rfl (fun ls hl => ?_)
  refine x_iconst hx hb dX1_countWalkers_2 ?_
  refine lv_istore_n (lv' := [(3, .int (iZ 0)), (2, .int (iZ 0)), (0, .ref (xad E b)), (1, .int (iZ cell))]) hx hb dX1_countWalkers_3 rfl hl (by decide) rfl (fun ls hl => ?_)
  have K4 : ∀ (nK : Nat) (cnt i : Int) (H : Heap) (locs : List Loc) (ls : Array Slot), (nw - i).toNat < nK → (0 ≤ i ∧ i ≤ nw) → (cnt = cntK wc cell i) → (0 ≤ cnt ∧ cnt ≤ i) → Hx E (xA E s.heap.size) s.heap σ H locs → lv_has ls 4 [(3, .int (iZ i)), (2, .int (iZ cnt)), (0, .ref (xad E b)), (1, .int (iZ cell))] → W p l e rm_X1_countWalkers s m args below meth c H locs 0 0 Q (F0 m 4 ls []) := by
    intro n4
    induction n4 with
    | zero =>
      intro cnt i H locs ls hm
      exact absurd hm (by first | exact Nat.not_lt_zero _ | omega)
    | succ n4 ih4 =>
      intro cnt i H locs ls hm4 hi hcnt hcb  hH hl
      refine lv_iload_n hx hb dX1_countWalkers_4 rfl (lv_at hl 0 rfl) ?_
      refine lv_aload_n hx hb dX1_countWalkers_5 rfl (lv_at hl 2 rfl) ?_
      refine x_get hx hb hts hown hK hH b (by omega) fb_0 hinX1 rfl 6 (by decide) (List.mem_of_getElem? (i := 1) rfl) rfl dX1_countWalkers_6 ?_
      refine x_icmp_ge (tgt := 31) hx hb dX1_countWalkers_9 (by decide) (by omega) (by omega) (fun c9 => ?_) (fun c9 => ?_)
      · refine lv_iload_n hx hb dX1_countWalkers_31 rfl (lv_at hl 1 rfl) ?_
        subst hQ
        exact x_iret hx hb hr hlocks hH (Nat.le_of_ble_eq_true rfl) (Nat.le_of_ble_eq_true rfl) ⟨(show cnt = (cntK wc cell nw) from (by have e : i = nw := (by omega); subst e; exact hcnt)), rfl⟩ dX1_countWalkers_32
      · refine lv_aload_n hx hb dX1_countWalkers_12 rfl (lv_at hl 2 rfl) ?_
        refine x_get hx hb hts hown hK hH b (by omega) fb_0 hinX1 rfl 3 (by decide) (List.mem_of_getElem? (i := 2) rfl) rfl dX1_countWalkers_13 ?_
        refine lv_iload_n hx hb dX1_countWalkers_16 rfl (lv_at hl 0 rfl) ?_
        refine x_iald hx hb hK hH (b + 4) (by omega) fb_4 (by omega) (by omega) (by omega) dX1_countWalkers_17 ?_
        have hv2 := hwc i
        refine lv_iload_n hx hb dX1_countWalkers_18 rfl (lv_at hl 3 rfl) ?_
        refine x_icmp_ne (tgt := 25) hx hb dX1_countWalkers_19 (by decide) (by omega) (by omega) (fun c19 => ?_) (fun c19 => ?_)
        · refine x_iinc (lv' := [(3, .int (iZ (i + 1))), (2, .int (iZ cnt)), (0, .ref (xad E b)), (1, .int (iZ cell))]) hx hb dX1_countWalkers_25 hl (k := 0) rfl (by decide) rfl (fun ls hl => ?_)
          refine lv_goto (tgt := 4) hx hb dX1_countWalkers_28 (by decide) ?_
          exact ih4 cnt (i + 1) _ _ _ (by omega) (by first | omega | rfl | assumption | simp_all) (by first | (rw [cntK_s (by omega)]; simp only [*]; simp) | omega) (by first | omega | rfl | assumption | simp_all)  hH (lv_sub hl [0, 1, 2, 3] rfl)
        · refine x_iinc (lv' := [(2, .int (iZ (cnt + 1))), (3, .int (iZ i)), (0, .ref (xad E b)), (1, .int (iZ cell))]) hx hb dX1_countWalkers_22 hl (k := 1) rfl (by decide) rfl (fun ls hl => ?_)
          refine x_iinc (lv' := [(3, .int (iZ (i + 1))), (2, .int (iZ (cnt + 1))), (0, .ref (xad E b)), (1, .int (iZ cell))]) hx hb dX1_countWalkers_25 hl (k := 1) rfl (by decide) rfl (fun ls hl => ?_)
          refine lv_goto (tgt := 4) hx hb dX1_countWalkers_28 (by decide) ?_
          exact ih4 (cnt + 1) (i + 1) _ _ _ (by omega) (by first | omega | rfl | assumption | simp_all) (by first | (rw [cntK_s (by omega)]; simp only [*]; simp) | omega) (by first | omega | rfl | assumption | simp_all)  hH (lv_sub hl [0, 1, 2, 3] rfl)
  exact K4 4 0 0 _ _ _ (by first | omega | decide) (by first | omega | rfl | assumption | simp_all) (by rfl) (by first | omega | rfl | assumption | simp_all)  hH (lv_sub hl [0, 1, 2, 3] rfl)
