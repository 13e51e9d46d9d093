def rm_X7_thrown : Room := { frames := 0, cells := 0, slots := 0, locals := 0 }
set_option maxRecDepth 100000 in
set_option maxHeartbeats 4000000 in
theorem c_X7_thrown (l : Launch) (E : xE) (ST : xST) (hSF : SF ST) (σ : xW) (sv : Bool) (re : Int) (ea : Int) (fa : Int) (ty : Int) (li : Int) (th : Int) (sz : Int) (sp : Int) (wr : Int) (to : Int) (hr0 : mo E σ sv re ea fa ty li th sz sp wr to) : CI l E ST yX7_thrown wsX7_thrown rm_X7_thrown [.ref (xad E 85)] σ (fun (z : Int) (u : xW) => z = th ∧ u = σ) := by
  have f85 : σ 85 = oB 5 [.ref (xad E 86), .ref (xad E 87), .ref (xad E 88), .ref (xad E 89), .ref (xad E 90), .int (iZ (b2 sv)), .int (iZ re), .int (iZ ea), .int (iZ fa), .ref (xad E 91), .ref (xad E 92), .ref (xad E 93), .int (iZ ty), .ref (xad E 94), .int (iZ li), .int (iZ th), .int (iZ sz), .int (iZ sp), .int (iZ wr), .int (iZ to), .ref (xad E 95)] := hr0
  refine CI_of (by decide) rfl (Nat.le_of_ble_eq_true rfl) ?_
  intro p e s m args below meth c Q ls G hH hl hQ
  obtain ⟨hx, hb, hml, hown, hts, hK, hST, hlocks, hr, hno⟩ := G
  have hOK := hSF.1
  have hown : s.vm.findClass RX7 = some m.cls := hown
  have hl : lv_has ls 1 [(0, .ref (xad E 85))] := hl
  have hinX7 : ∀ w ∈ u_ws RX7 TX7 21, w ∈ wsX7_thrown := fun w h => (List.mem_cons_of_mem _ (List.mem_append_right _ h))
  refine lv_aload_n hx hb dX7_thrown_0 rfl (lv_at hl 0 rfl) ?_
  refine x_get hx hb hts hown hK hH 85 (by decide) f85 hinX7 rfl 15 (by decide) (List.mem_of_getElem? (i := 1) rfl) rfl dX7_thrown_1 ?_
  subst hQ
  exact x_iret hx hb hr hlocks hH (Nat.le_of_ble_eq_true rfl) (Nat.le_of_ble_eq_true rfl) ⟨(show th = th from (by first | rfl | omega | simp_all)), rfl⟩ dX7_thrown_4

def rm_X7_copies : Room := { frames := 0, cells := 0, slots := 0, locals := 0 }
set_option maxRecDepth 100000 in
set_option maxHeartbeats 4000000 in
theorem c_X7_copies (l : Launch) (E : xE) (ST : xST) (hSF : SF ST) (σ : xW) (a : Nat) (b : Nat) (fr : Int) (into : Int) (n : Nat) (f : Int → Int) (n2 : Nat) (g : Int → Int) (hr0 : ar1 E σ a n f) (hr1 : ar1 E σ b n2 g) (ha9 : a < 98) (hb9 : b < 98) (hab : ¬ a = b) (hfr : 0 ≤ fr ∧ fr + 87 ≤ n) (hin : 0 ≤ into ∧ into + 87 ≤ n2) (hn : n ≤ 1000) (hn2 : n2 ≤ 1000) : CV l E ST yX7_copies wsX7_copies rm_X7_copies [.ref (xad E a), .int (iZ fr), .ref (xad E b), .int (iZ into)] σ (fun (u : xW) => (ar1 E u a n f ∧ ar1 E u b n2 (cpK f fr g into 87)) ∧ ∀ j : Nat, j ≠ b → u j = σ j) := by
  have fa_0 : σ a = aI E n f := hr0
  have fb_0 : σ b = aI E n2 g := hr1
  refine CV_of (by decide) rfl (Nat.le_of_ble_eq_true rfl) ?_
  intro p e s m args below meth c Q ls G hH hl hQ
  obtain ⟨hx, hb, hml, hown, hts, hK, hST, hlocks, hr, hno⟩ := G
  have hOK := hSF.1
  have hown : s.vm.findClass RX7 = some m.cls := hown
  have hl : lv_has ls 5 [(0, .ref (xad E a)), (1, .int (iZ fr)), (2, .ref (xad E b)), (3, .int (iZ into))] := hl
  refine x_iconst hx hb dX7_copies_0 ?_
  refine lv_istore (lv' := [(4, .int (iZ 0)), (0, .ref (xad E a)), (1, .int (iZ fr)), (2, .ref (xad E b)), (3, .int (iZ into))]) hx hb dX7_copies_1 hl (by decide) rfl (fun ls hl => ?_)
  have K3 : ∀ (nK : Nat) (i : Int) (h : Int → Int) (σ1 : xW) (H : Heap) (locs : List Loc) (ls : Array Slot), (87 - i).toNat < nK → (0 ≤ i ∧ i ≤ 87) → (h = cpK f fr g into i) → σ1 a = aI E n f → σ1 b = aI E n2 h → (∀ j : Nat, j ≠ b → σ1 j = σ j) → Hx E (xA E s.heap.size) s.heap σ1 H locs → lv_has ls 5 [(4, .int (iZ i)), (0, .ref (xad E a)), (1, .int (iZ fr)), (2, .ref (xad E b)), (3, .int (iZ into))] → W p l e rm_X7_copies s m args below meth c H locs 0 0 Q (F0 m 3 ls []) := by
    intro n3
    induction n3 with
    | zero =>
      intro i h σ1 H locs ls hm
      exact absurd hm (by first | exact Nat.not_lt_zero _ | omega)
    | succ n3 ih3 =>
      intro i h σ1 H locs ls hm3 hi hh fa_0 fb_0 fr2 hH hl
      refine lv_iload hx hb dX7_copies_3 (lv_at hl 0 rfl) ?_
      refine x_bipush hx hb dX7_copies_5 (by decide) ?_
      refine x_icmp_ge (tgt := 28) hx hb dX7_copies_7 (by decide) (by omega) (by decide) (fun c7 => ?_) (fun c7 => ?_)
      · subst hQ
        exact x_vret hx hb hr hlocks hH (Nat.le_of_ble_eq_true rfl) (Nat.le_of_ble_eq_true rfl) ⟨⟨fa_0, (fb_0.trans (congrArg (fun g => aI E n2 g) (show h = (cpK f fr g into 87) from (by have e9 : i = 87 := (by omega); rw [hh, e9]))))⟩, fun j hj0 => (fr2 j (by omega))⟩ dX7_copies_28
      · refine lv_aload_n hx hb dX7_copies_10 rfl (lv_at hl 3 rfl) ?_
        refine lv_iload_n hx hb dX7_copies_11 rfl (lv_at hl 4 rfl) ?_
        refine lv_iload hx hb dX7_copies_12 (lv_at hl 0 rfl) ?_
        refine x_iadd hx hb dX7_copies_14 ?_
        refine lv_aload_n hx hb dX7_copies_15 rfl (lv_at hl 1 rfl) ?_
        refine lv_iload_n hx hb dX7_copies_16 rfl (lv_at hl 2 rfl) ?_
        refine lv_iload hx hb dX7_copies_17 (lv_at hl 0 rfl) ?_
        refine x_iadd hx hb dX7_copies_19 ?_
        refine x_iald hx hb hK hH a (by omega) fa_0 (by omega) (by omega) (by omega) dX7_copies_20 ?_
        refine x_iast hx hb hK hH b (by omega) fb_0 (by omega) (by omega) (by omega) dX7_copies_21 (fun σ3 H locs fb_0 fr4 hH => ?_)
        have fa_0 : σ3 a = aI E n f := (fr4 a (by omega)).trans fa_0
        refine x_iinc (lv' := [(4, .int (iZ (i + 1))), (0, .ref (xad E a)), (1, .int (iZ fr)), (2, .ref (xad E b)), (3, .int (iZ into))]) hx hb dX7_copies_22 hl (k := 0) rfl (by decide) rfl (fun ls hl => ?_)
        refine lv_goto (tgt := 3) hx hb dX7_copies_25 (by decide) ?_
        exact ih3 (i + 1) (ui h (into + i) (f (fr + i))) σ3 _ _ _ (by omega) (by omega) (by rw [hh]; exact cpK_s (by omega)) fa_0 fb_0 (fun j hj0 => ((fr4 j (by omega)).trans (fr2 j (by omega)))) hH (lv_sub hl [0, 1, 2, 3, 4] rfl)
  exact K3 88 0 g σ _ _ _ (by first | omega | decide) (by omega) (by exact cpK_0.symm) fa_0 fb_0 (fun j _ => rfl) hH (lv_sub hl [0, 1, 2, 3, 4] rfl)

def rm_X7_holds : Room := { frames := 0, cells := 0, slots := 0, locals := 0 }
set_option maxRecDepth 100000 in
set_option maxHeartbeats 4000000 in
theorem c_X7_holds (l : Launch) (E : xE) (ST : xST) (hSF : SF ST) (σ : xW) (b1 : Bool) (b4 : Bool) (b3 : Bool) (sv : Bool) (re : Int) (ea : Int) (fa : Int) (ty : Int) (li : Int) (th : Int) (sz : Int) (sp : Int) (wr : Int) (to : Int) (hr0 : mo E σ sv re ea fa ty li th sz sp wr to) : CI l E ST yX7_holds wsX7_holds rm_X7_holds [.ref (xad E 85), .int (iZ (b2 b1)), .int (iZ (b2 b4)), .int (iZ (b2 b3))] σ (fun (z : Int) (u : xW) => z = b2 (okZ b1 b4 b3) ∧ (mo E u sv re ea fa ty li (thZ b1 b4 b3) sz sp wr to) ∧ ∀ j : Nat, j ≠ 85 → u j = σ j) := by
  have f85 : σ 85 = oB 5 [.ref (xad E 86), .ref (xad E 87), .ref (xad E 88), .ref (xad E 89), .ref (xad E 90), .int (iZ (b2 sv)), .int (iZ re), .int (iZ ea), .int (iZ fa), .ref (xad E 91), .ref (xad E 92), .ref (xad E 93), .int (iZ ty), .ref (xad E 94), .int (iZ li), .int (iZ th), .int (iZ sz), .int (iZ sp), .int (iZ wr), .int (iZ to), .ref (xad E 95)] := hr0
  refine CI_of (by decide) rfl (Nat.le_of_ble_eq_true rfl) ?_
  intro p e s m args below meth c Q ls G hH hl hQ
  obtain ⟨hx, hb, hml, hown, hts, hK, hST, hlocks, hr, hno⟩ := G
  have hOK := hSF.1
  have hown : s.vm.findClass RX7 = some m.cls := hown
  have hl : lv_has ls 4 [(0, .ref (xad E 85)), (1, .int (iZ (b2 b1))), (2, .int (iZ (b2 b4))), (3, .int (iZ (b2 b3)))] := hl
  have hinX7 : ∀ w ∈ u_ws RX7 TX7 21, w ∈ wsX7_holds := fun w h => (List.mem_cons_of_mem _ (List.mem_append_right _ h))
  refine lv_aload_n hx hb dX7_holds_0 rfl (lv_at hl 0 rfl) ?_
  refine lv_iload_n hx hb dX7_holds_1 rfl (lv_at hl 1 rfl) ?_
  refine x_ifb_ne (tgt := 9) hx hb dX7_holds_2 (by decide) (fun c2 => ?_) (fun c2 => ?_)
  · refine lv_iload_n hx hb dX7_holds_9 rfl (lv_at hl 2 rfl) ?_
    refine x_ifb_ne (tgt := 17) hx hb dX7_holds_10 (by decide) (fun c10 => ?_) (fun c10 => ?_)
    · refine lv_iload_n hx hb dX7_holds_17 rfl (lv_at hl 3 rfl) ?_
      refine x_ifb_ne (tgt := 25) hx hb dX7_holds_18 (by decide) (fun c18 => ?_) (fun c18 => ?_)
      · refine x_iconst hx hb dX7_holds_25 ?_
        refine x_put (fs' := [.ref (xad E 86), .ref (xad E 87), .ref (xad E 88), .ref (xad E 89), .ref (xad E 90), .int (iZ (b2 sv)), .int (iZ re), .int (iZ ea), .int (iZ fa), .ref (xad E 91), .ref (xad E 92), .ref (xad E 93), .int (iZ ty), .ref (xad E 94), .int (iZ li), .int (iZ 0), .int (iZ sz), .int (iZ sp), .int (iZ wr), .int (iZ to), .ref (xad E 95)]) hx hb hts hown hK hH 85 (by decide) f85 hinX7 rfl tyX7 tyX7_ok nmX7 15 (by decide) (List.mem_of_getElem? (i := 1) rfl) rfl (ty := .int) (by decide +kernel) rfl rfl (Nat.le_of_ble_eq_true rfl) rfl dX7_holds_26 (fun σ1 H locs f85 fr2 hH => ?_)
        refine lv_aload_n hx hb dX7_holds_29 rfl (lv_at hl 0 rfl) ?_
        refine x_get hx hb hts hown hK hH 85 (by decide) f85 hinX7 rfl 15 (by decide) (List.mem_of_getElem? (i := 1) rfl) rfl dX7_holds_30 ?_
        refine x_if_ne (tgt := 40) hx hb dX7_holds_33 (by decide) (by decide) (fun c33 => ?_) (fun c33 => ?_)
        · exact absurd c33 (by decide)
        · refine x_iconst hx hb dX7_holds_36 ?_
          refine lv_goto (tgt := 41) hx hb dX7_holds_37 (by decide) ?_
          subst hQ
          exact x_zret (b := true) hx hb hr hlocks hH (Nat.le_of_ble_eq_true rfl) (Nat.le_of_ble_eq_true rfl) ⟨congrArg b2 (show true = (okZ b1 b4 b3) from (by simp [okZ, thZ, *])), (f85.trans (by simp [thZ, *])), fun j hj0 => (fr2 j (by omega))⟩ dX7_holds_41
      · refine x_iconst hx hb dX7_holds_21 ?_
        refine lv_goto (tgt := 26) hx hb dX7_holds_22 (by decide) ?_
        refine x_put (fs' := [.ref (xad E 86), .ref (xad E 87), .ref (xad E 88), .ref (xad E 89), .ref (xad E 90), .int (iZ (b2 sv)), .int (iZ re), .int (iZ ea), .int (iZ fa), .ref (xad E 91), .ref (xad E 92), .ref (xad E 93), .int (iZ ty), .ref (xad E 94), .int (iZ li), .int (iZ 3), .int (iZ sz), .int (iZ sp), .int (iZ wr), .int (iZ to), .ref (xad E 95)]) hx hb hts hown hK hH 85 (by decide) f85 hinX7 rfl tyX7 tyX7_ok nmX7 15 (by decide) (List.mem_of_getElem? (i := 1) rfl) rfl (ty := .int) (by decide +kernel) rfl rfl (Nat.le_of_ble_eq_true rfl) rfl dX7_holds_26 (fun σ3 H locs f85 fr4 hH => ?_)
        refine lv_aload_n hx hb dX7_holds_29 rfl (lv_at hl 0 rfl) ?_
        refine x_get hx hb hts hown hK hH 85 (by decide) f85 hinX7 rfl 15 (by decide) (List.mem_of_getElem? (i := 1) rfl) rfl dX7_holds_30 ?_
        refine x_if_ne (tgt := 40) hx hb dX7_holds_33 (by decide) (by decide) (fun c33 => ?_) (fun c33 => ?_)
        · refine x_iconst hx hb dX7_holds_40 ?_
          subst hQ
          exact x_zret (b := false) hx hb hr hlocks hH (Nat.le_of_ble_eq_true rfl) (Nat.le_of_ble_eq_true rfl) ⟨congrArg b2 (show false = (okZ b1 b4 b3) from (by simp [okZ, thZ, *])), (f85.trans (by simp [thZ, *])), fun j hj0 => (fr4 j (by omega))⟩ dX7_holds_41
        · exact absurd c33 (by decide)
    · refine x_iconst hx hb dX7_holds_13 ?_
      refine lv_goto (tgt := 26) hx hb dX7_holds_14 (by decide) ?_
      refine x_put (fs' := [.ref (xad E 86), .ref (xad E 87), .ref (xad E 88), .ref (xad E 89), .ref (xad E 90), .int (iZ (b2 sv)), .int (iZ re), .int (iZ ea), .int (iZ fa), .ref (xad E 91), .ref (xad E 92), .ref (xad E 93), .int (iZ ty), .ref (xad E 94), .int (iZ li), .int (iZ 2), .int (iZ sz), .int (iZ sp), .int (iZ wr), .int (iZ to), .ref (xad E 95)]) hx hb hts hown hK hH 85 (by decide) f85 hinX7 rfl tyX7 tyX7_ok nmX7 15 (by decide) (List.mem_of_getElem? (i := 1) rfl) rfl (ty := .int) (by decide +kernel) rfl rfl (Nat.le_of_ble_eq_true rfl) rfl dX7_holds_26 (fun σ5 H locs f85 fr6 hH => ?_)
      refine lv_aload_n hx hb dX7_holds_29 rfl (lv_at hl 0 rfl) ?_
      refine x_get hx hb hts hown hK hH 85 (by decide) f85 hinX7 rfl 15 (by decide) (List.mem_of_getElem? (i := 1) rfl) rfl dX7_holds_30 ?_
      refine x_if_ne (tgt := 40) hx hb dX7_holds_33 (by decide) (by decide) (fun c33 => ?_) (fun c33 => ?_)
      · refine x_iconst hx hb dX7_holds_40 ?_
        subst hQ
        exact x_zret (b := false) hx hb hr hlocks hH (Nat.le_of_ble_eq_true rfl) (Nat.le_of_ble_eq_true rfl) ⟨congrArg b2 (show false = (okZ b1 b4 b3) from (by simp [okZ, thZ, *])), (f85.trans (by simp [thZ, *])), fun j hj0 => (fr6 j (by omega))⟩ dX7_holds_41
      · exact absurd c33 (by decide)
  · refine x_iconst hx hb dX7_holds_5 ?_
    refine lv_goto (tgt := 26) hx hb dX7_holds_6 (by decide) ?_
    refine x_put (fs' := [.ref (xad E 86), .ref (xad E 87), .ref (xad E 88), .ref (xad E 89), .ref (xad E 90), .int (iZ (b2 sv)), .int (iZ re), .int (iZ ea), .int (iZ fa), .ref (xad E 91), .ref (xad E 92), .ref (xad E 93), .int (iZ ty), .ref (xad E 94), .int (iZ li), .int (iZ 1), .int (iZ sz), .int (iZ sp), .int (iZ wr), .int (iZ to), .ref (xad E 95)]) hx hb hts hown hK hH 85 (by decide) f85 hinX7 rfl tyX7 tyX7_ok nmX7 15 (by decide) (List.mem_of_getElem? (i := 1) rfl) rfl (ty := .int) (by decide +kernel) rfl rfl (Nat.le_of_ble_eq_true rfl) rfl dX7_holds_26 (fun σ7 H locs f85 fr8 hH => ?_)
    refine lv_aload_n hx hb dX7_holds_29 rfl (lv_at hl 0 rfl) ?_
    refine x_get hx hb hts hown hK hH 85 (by decide) f85 hinX7 rfl 15 (by decide) (List.mem_of_getElem? (i := 1) rfl) rfl dX7_holds_30 ?_
    refine x_if_ne (tgt := 40) hx hb dX7_holds_33 (by decide) (by decide) (fun c33 => ?_) (fun c33 => ?_)
    · refine x_iconst hx hb dX7_holds_40 ?_
      subst hQ
      exact x_zret (b := false) hx hb hr hlocks hH (Nat.le_of_ble_eq_true rfl) (Nat.le_of_ble_eq_true rfl) ⟨congrArg b2 (show false = (okZ b1 b4 b3) from (by simp [okZ, thZ, *])), (f85.trans (by simp [thZ, *])), fun j hj0 => (fr8 j (by omega))⟩ dX7_holds_41
    · exact absurd c33 (by decide)

def rm_X7_goes : Room := { frames := 1, cells := 0, slots := 0, locals := 23 }
set_option maxRecDepth 100000 in
set_option maxHeartbeats 4000000 in
theorem c_X7_goes (l : Launch) (E : xE) (ST : xST) (hSF : SF ST) (σ : xW) (b1 : Bool) (sv : Bool) (re : Int) (ea : Int) (fa : Int) (ty : Int) (li : Int) (th : Int) (sz : Int) (sp : Int) (wr : Int) (to : Int) (hr0 : mo E σ sv re ea fa ty li th sz sp wr to) : CI l E ST yX7_goes wsX7_goes rm_X7_goes [.ref (xad E 85), .int (iZ (b2 b1))] σ (fun (z : Int) (u : xW) => z = b2 b1 ∧ (mo E u sv re ea fa ty li (if b1 = true then 0 else 1) sz sp wr to) ∧ ∀ j : Nat, j ≠ 85 → u j = σ j) := by
  have f85 : σ 85 = oB 5 [.ref (xad E 86), .ref (xad E 87), .ref (xad E 88), .ref (xad E 89), .ref (xad E 90), .int (iZ (b2 sv)), .int (iZ re), .int (iZ ea), .int (iZ fa), .ref (xad E 91), .ref (xad E 92), .ref (xad E 93), .int (iZ ty), .ref (xad E 94), .int (iZ li), .int (iZ th), .int (iZ sz), .int (iZ sp), .int (iZ wr), .int (iZ to), .ref (xad E 95)] := hr0
  refine CI_of (by decide) rfl (Nat.le_of_ble_eq_true rfl) ?_
  intro p e s m args below meth c Q ls G hH hl hQ
  obtain ⟨hx, hb, hml, hown, hts, hK, hST, hlocks, hr, hno⟩ := G
  have hOK := hSF.1
  have hown : s.vm.findClass RX7 = some m.cls := hown
  have hl : lv_has ls 2 [(0, .ref (xad E 85)), (1, .int (iZ (b2 b1)))] := hl
  refine lv_aload_n hx hb dX7_goes_0 rfl (lv_at hl 0 rfl) ?_
  refine lv_iload_n hx hb dX7_goes_1 rfl (lv_at hl 1 rfl) ?_
  refine x_iconst hx hb dX7_goes_2 ?_
  refine x_iconst hx hb dX7_goes_3 ?_
  refine x_cVIE (As := [.int (iZ (b2 b1)), .int (iZ 1), .int (iZ 1)]) (rest := []) hx hb hml hts hown hK hST hOK hH 85 (c_X7_holds l E ST hSF σ b1 true true sv re ea fa ty li th sz sp wr to f85 ) (cwV 3 hts gX7_goes_X7_holds rfl rfl rfl (by decide +kernel) ⟨Nat.le_of_ble_eq_true rfl, Nat.le_of_ble_eq_true rfl⟩) (by decide) f85 rfl rfl hl.1 rfl (Nat.le_of_ble_eq_true rfl) dX7_goes_4 ⟨Nat.le_of_ble_eq_true rfl, Nat.le_of_ble_eq_true rfl⟩ (fun z u h => h) (fun σ2 H locs hp3 hH => ?_)
  obtain ⟨f85, fr4⟩ := hp3
  subst hQ
  exact x_zret (b := (okZ b1 true true)) hx hb hr hlocks hH (Nat.le_of_ble_eq_true rfl) (Nat.le_of_ble_eq_true rfl) ⟨congrArg b2 (show (okZ b1 true true) = b1 from (by cases b1 <;> rfl)), (f85.trans (by cases b1 <;> rfl)), fun j hj0 => (fr4 j (by omega))⟩ dX7_goes_7

def rm_X7_begins : Room := { frames := 1, cells := 0, slots := 0, locals := 24 }
set_option maxRecDepth 100000 in
set_option maxHeartbeats 4000000 in
theorem c_X7_begins (l : Launch) (E : xE) (ST : xST) (hSF : SF ST) (σ : xW) (sv : Bool) (re : Int) (ea : Int) (fa : Int) (ty : Int) (li : Int) (th : Int) (sz : Int) (sp : Int) (wr : Int) (to : Int) (v : Int → Int) (w : Int → Int) (hr0 : mo E σ sv re ea fa ty li th sz sp wr to) (hr1 : now E σ v) (hr2 : bef E σ w) : CV l E ST yX7_begins wsX7_begins rm_X7_begins [.ref (xad E 85)] σ (fun (u : xW) => (mo E u sv re ea fa ty li th sz sp wr to ∧ now E u v ∧ bef E u v) ∧ ∀ j : Nat, j ≠ 87 → u j = σ j) := by
  have f85 : σ 85 = oB 5 [.ref (xad E 86), .ref (xad E 87), .ref (xad E 88), .ref (xad E 89), .ref (xad E 90), .int (iZ (b2 sv)), .int (iZ re), .int (iZ ea), .int (iZ fa), .ref (xad E 91), .ref (xad E 92), .ref (xad E 93), .int (iZ ty), .ref (xad E 94), .int (iZ li), .int (iZ th), .int (iZ sz), .int (iZ sp), .int (iZ wr), .int (iZ to), .ref (xad E 95)] := hr0
  have f86 : σ 86 = aI E 87 v := hr1
  have f87 : σ 87 = aI E 87 w := hr2
  refine CV_of (by decide) rfl (Nat.le_of_ble_eq_true rfl) ?_
  intro p e s m args below meth c Q ls G hH hl hQ
  obtain ⟨hx, hb, hml, hown, hts, hK, hST, hlocks, hr, hno⟩ := G
  have hOK := hSF.1
  have hown : s.vm.findClass RX7 = some m.cls := hown
  have hl : lv_has ls 1 [(0, .ref (xad E 85))] := hl
  have hinX7 : ∀ w ∈ u_ws RX7 TX7 21, w ∈ wsX7_begins := fun w h => (List.mem_cons_of_mem _ (List.mem_append_right _ h))
  refine lv_aload_n hx hb dX7_begins_0 rfl (lv_at hl 0 rfl) ?_
  refine x_get hx hb hts hown hK hH 85 (by decide) f85 hinX7 rfl 0 (by decide) (List.mem_of_getElem? (i := 1) rfl) rfl dX7_begins_1 ?_
  refine x_iconst hx hb dX7_begins_4 ?_
  refine lv_aload_n hx hb dX7_begins_5 rfl (lv_at hl 0 rfl) ?_
  refine x_get hx hb hts hown hK hH 85 (by decide) f85 hinX7 rfl 1 (by decide) (List.mem_of_getElem? (i := 2) rfl) rfl dX7_begins_6 ?_
  refine x_iconst hx hb dX7_begins_9 ?_
  refine x_cSV (As := [.ref (xad E 86), .int (iZ 0), .ref (xad E 87), .int (iZ 0)]) (rest := []) hx hb hml hts hown hK hST hOK hH (c_X7_copies l E ST hSF σ 86 87 0 0 87 v 87 w f86 f87 (by omega) (by omega) (by omega) (by omega) (by omega) (by omega) (by omega)) (va_cwS 4 hts gX7_begins_X7_copies rfl rfl rfl (by decide +kernel) ⟨Nat.le_of_ble_eq_true rfl, Nat.le_of_ble_eq_true rfl⟩) rfl hl.1 rfl (Nat.le_of_ble_eq_true rfl) dX7_begins_10 ⟨Nat.le_of_ble_eq_true rfl, Nat.le_of_ble_eq_true rfl⟩ (fun σ2 H locs hp3 hH => ?_)
  obtain ⟨⟨f86, f87⟩, fr4⟩ := hp3
  have f85 : σ2 85 = oB 5 [.ref (xad E 86), .ref (xad E 87), .ref (xad E 88), .ref (xad E 89), .ref (xad E 90), .int (iZ (b2 sv)), .int (iZ re), .int (iZ ea), .int (iZ fa), .ref (xad E 91), .ref (xad E 92), .ref (xad E 93), .int (iZ ty), .ref (xad E 94), .int (iZ li), .int (iZ th), .int (iZ sz), .int (iZ sp), .int (iZ wr), .int (iZ to), .ref (xad E 95)] := (fr4 85 (by omega)).trans f85
  obtain ⟨σ6, f87, fr7, hH⟩ := x_normE (g := v) 87 (by decide) f87 (by intro j h0 h1; unfold cpK; rw [if_pos (by omega), show (0 : Int) + (j - 0) = j by omega]) hH
  have f85 : σ6 85 = oB 5 [.ref (xad E 86), .ref (xad E 87), .ref (xad E 88), .ref (xad E 89), .ref (xad E 90), .int (iZ (b2 sv)), .int (iZ re), .int (iZ ea), .int (iZ fa), .ref (xad E 91), .ref (xad E 92), .ref (xad E 93), .int (iZ ty), .ref (xad E 94), .int (iZ li), .int (iZ th), .int (iZ sz), .int (iZ sp), .int (iZ wr), .int (iZ to), .ref (xad E 95)] := (fr7 85 (by omega)).trans f85
  have f86 : σ6 86 = aI E 87 v := (fr7 86 (by omega)).trans f86
  subst hQ
  exact x_vret hx hb hr hlocks hH (Nat.le_of_ble_eq_true rfl) (Nat.le_of_ble_eq_true rfl) ⟨⟨f85, f86, f87⟩, fun j hj0 => ((fr7 j (by omega)).trans (fr4 j (by omega)))⟩ dX7_begins_13

def rm_X7_remembers : Room := { frames := 1, cells := 0, slots := 0, locals := 24 }
set_option maxRecDepth 100000 in
set_option maxHeartbeats 4000000 in
theorem c_X7_remembers (l : Launch) (E : xE) (ST : xST) (hSF : SF ST) (σ : xW) (sv : Bool) (re : Int) (ea : Int) (fa : Int) (ty : Int) (li : Int) (th : Int) (sz : Int) (sp : Int) (wr : Int) (to : Int) (w : Int → Int) (hF : Int → Int) (hr0 : mo E σ sv re ea fa ty li th sz sp wr to) (hr1 : bef E σ w) (hr2 : his E σ hF) (hre : 0 ≤ re ∧ re ≤ 8) : CV l E ST yX7_remembers wsX7_remembers rm_X7_remembers [.ref (xad E 85)] σ (fun (u : xW) => (mo E u sv (re8 re) ea fa ty li th sz sp wr to ∧ bef E u w ∧ his E u (rmF hF w re)) ∧ ∀ j : Nat, j ≠ 85 → j ≠ 90 → u j = σ j) := by
  have f85 : σ 85 = oB 5 [.ref (xad E 86), .ref (xad E 87), .ref (xad E 88), .ref (xad E 89), .ref (xad E 90), .int (iZ (b2 sv)), .int (iZ re), .int (iZ ea), .int (iZ fa), .ref (xad E 91), .ref (xad E 92), .ref (xad E 93), .int (iZ ty), .ref (xad E 94), .int (iZ li), .int (iZ th), .int (iZ sz), .int (iZ sp), .int (iZ wr), .int (iZ to), .ref (xad E 95)] := hr0
  have f87 : σ 87 = aI E 87 w := hr1
  have f90 : σ 90 = aI E 696 hF := hr2
  refine CV_of (by decide) rfl (Nat.le_of_ble_eq_true rfl) ?_
  intro p e s m args below meth c Q ls G hH hl hQ
  obtain ⟨hx, hb, hml, hown, hts, hK, hST, hlocks, hr, hno⟩ := G
  have hOK := hSF.1
  have hown : s.vm.findClass RX7 = some m.cls := hown
  have hl : lv_has ls 2 [(0, .ref (xad E 85))] := hl
  have hinX7 : ∀ w ∈ u_ws RX7 TX7 21, w ∈ wsX7_remembers := fun w h => (List.mem_cons_of_mem _ (List.mem_append_right _ h))
  refine lv_aload_n hx hb dX7_remembers_0 rfl (lv_at hl 0 rfl) ?_
  refine x_get hx hb hts hown hK hH 85 (by decide) f85 hinX7 rfl 6 (by decide) (List.mem_of_getElem? (i := 1) rfl) rfl dX7_remembers_1 ?_
  refine x_bipush hx hb dX7_remembers_4 (by decide) ?_
  refine x_icmp_ne (tgt := 49) hx hb dX7_remembers_6 (by decide) (by omega) (by decide) (fun c6 => ?_) (fun c6 => ?_)
  · refine lv_aload_n hx hb dX7_remembers_49 rfl (lv_at hl 0 rfl) ?_
    refine x_get hx hb hts hown hK hH 85 (by decide) f85 hinX7 rfl 1 (by decide) (List.mem_of_getElem? (i := 3) rfl) rfl dX7_remembers_50 ?_
    refine x_iconst hx hb dX7_remembers_53 ?_
    refine lv_aload_n hx hb dX7_remembers_54 rfl (lv_at hl 0 rfl) ?_
    refine x_get hx hb hts hown hK hH 85 (by decide) f85 hinX7 rfl 4 (by decide) (List.mem_of_getElem? (i := 2) rfl) rfl dX7_remembers_55 ?_
    refine lv_aload_n hx hb dX7_remembers_58 rfl (lv_at hl 0 rfl) ?_
    refine x_get hx hb hts hown hK hH 85 (by decide) f85 hinX7 rfl 6 (by decide) (List.mem_of_getElem? (i := 1) rfl) rfl dX7_remembers_59 ?_
    refine x_bipush hx hb dX7_remembers_62 (by decide) ?_
    refine x_imul hx hb dX7_remembers_64 ?_
    refine x_cSV (As := [.ref (xad E 87), .int (iZ 0), .ref (xad E 90), .int (iZ (re * 87))]) (rest := []) hx hb hml hts hown hK hST hOK hH (c_X7_copies l E ST hSF σ 87 90 0 (re * 87) 87 w 696 hF f87 f90 (by omega) (by omega) (by omega) (by omega) (by omega) (by omega) (by omega)) (va_cwS 4 hts gX7_remembers_X7_copies rfl rfl rfl (by decide +kernel) ⟨Nat.le_of_ble_eq_true rfl, Nat.le_of_ble_eq_true rfl⟩) rfl hl.1 rfl (Nat.le_of_ble_eq_true rfl) dX7_remembers_65 ⟨Nat.le_of_ble_eq_true rfl, Nat.le_of_ble_eq_true rfl⟩ (fun σ2 H locs hp3 hH => ?_)
    obtain ⟨⟨f87, f90⟩, fr4⟩ := hp3
    have f85 : σ2 85 = oB 5 [.ref (xad E 86), .ref (xad E 87), .ref (xad E 88), .ref (xad E 89), .ref (xad E 90), .int (iZ (b2 sv)), .int (iZ re), .int (iZ ea), .int (iZ fa), .ref (xad E 91), .ref (xad E 92), .ref (xad E 93), .int (iZ ty), .ref (xad E 94), .int (iZ li), .int (iZ th), .int (iZ sz), .int (iZ sp), .int (iZ wr), .int (iZ to), .ref (xad E 95)] := (fr4 85 (by omega)).trans f85
    refine lv_aload_n hx hb dX7_remembers_68 rfl (lv_at hl 0 rfl) ?_
    refine lv_dup hx hb dX7_remembers_69 rfl ?_
    refine x_get hx hb hts hown hK hH 85 (by decide) f85 hinX7 rfl 6 (by decide) (List.mem_of_getElem? (i := 1) rfl) rfl dX7_remembers_70 ?_
    refine x_iconst hx hb dX7_remembers_73 ?_
    refine x_iadd hx hb dX7_remembers_74 ?_
    refine x_put (fs' := [.ref (xad E 86), .ref (xad E 87), .ref (xad E 88), .ref (xad E 89), .ref (xad E 90), .int (iZ (b2 sv)), .int (iZ (re + 1)), .int (iZ ea), .int (iZ fa), .ref (xad E 91), .ref (xad E 92), .ref (xad E 93), .int (iZ ty), .ref (xad E 94), .int (iZ li), .int (iZ th), .int (iZ sz), .int (iZ sp), .int (iZ wr), .int (iZ to), .ref (xad E 95)]) hx hb hts hown hK hH 85 (by decide) f85 hinX7 rfl tyX7 tyX7_ok nmX7 6 (by decide) (List.mem_of_getElem? (i := 1) rfl) rfl (ty := .int) (by decide +kernel) rfl rfl (Nat.le_of_ble_eq_true rfl) rfl dX7_remembers_75 (fun σ6 H locs f85 fr7 hH => ?_)
    have f87 : σ6 87 = aI E 87 w := (fr7 87 (by omega)).trans f87
    have f90 : σ6 90 = aI E 696 (cpK w 0 hF (re * 87) 87) := (fr7 90 (by omega)).trans f90
    obtain ⟨σ8, f90, fr9, hH⟩ := x_normE (g := (rmF hF w re)) 90 (by decide) f90 (by intro j h0 h1; (first | rw [hh] | skip); simp only [rmF, cpK, shK]; (repeat' split) <;> first | (exfalso; omega) | rfl | (congr 1; omega)) hH
    have f85 : σ8 85 = oB 5 [.ref (xad E 86), .ref (xad E 87), .ref (xad E 88), .ref (xad E 89), .ref (xad E 90), .int (iZ (b2 sv)), .int (iZ (re + 1)), .int (iZ ea), .int (iZ fa), .ref (xad E 91), .ref (xad E 92), .ref (xad E 93), .int (iZ ty), .ref (xad E 94), .int (iZ li), .int (iZ th), .int (iZ sz), .int (iZ sp), .int (iZ wr), .int (iZ to), .ref (xad E 95)] := (fr9 85 (by omega)).trans f85
    have f87 : σ8 87 = aI E 87 w := (fr9 87 (by omega)).trans f87
    subst hQ
    exact x_vret hx hb hr hlocks hH (Nat.le_of_ble_eq_true rfl) (Nat.le_of_ble_eq_true rfl) ⟨⟨(f85.trans (by first | rw [re8_a (by omega)] | rw [re8_b (by omega)])), f87, f90⟩, fun j hj0 hj1 => ((fr9 j (by omega)).trans ((fr7 j (by omega)).trans (fr4 j (by omega))))⟩ dX7_remembers_78
  · refine x_iconst hx hb dX7_remembers_9 ?_
    refine lv_istore_n (lv' := [(1, .int (iZ 0)), (0, .ref (xad E 85))]) hx hb dX7_remembers_10 rfl hl (by decide) rfl (fun ls hl => ?_)
    have K11 : ∀ (nK : Nat) (i : Int) (h : Int → Int) (σ10 : xW) (H : Heap) (locs : List Loc) (ls : Array Slot), (609 - i).toNat < nK → (0 ≤ i ∧ i ≤ 609) → (h = shK hF i) → σ10 85 = oB 5 [.ref (xad E 86), .ref (xad E 87), .ref (xad E 88), .ref (xad E 89), .ref (xad E 90), .int (iZ (b2 sv)), .int (iZ re), .int (iZ ea), .int (iZ fa), .ref (xad E 91), .ref (xad E 92), .ref (xad E 93), .int (iZ ty), .ref (xad E 94), .int (iZ li), .int (iZ th), .int (iZ sz), .int (iZ sp), .int (iZ wr), .int (iZ to), .ref (xad E 95)] → σ10 87 = aI E 87 w → σ10 90 = aI E 696 h → (∀ j : Nat, j ≠ 90 → σ10 j = σ j) → Hx E (xA E s.heap.size) s.heap σ10 H locs → lv_has ls 2 [(1, .int (iZ i)), (0, .ref (xad E 85))] → W p l e rm_X7_remembers s m args below meth c H locs 0 0 Q (F0 m 11 ls []) := by
      intro n11
      induction n11 with
      | zero =>
        intro i h σ10 H locs ls hm
        exact absurd hm (by first | exact Nat.not_lt_zero _ | omega)
      | succ n11 ih11 =>
        intro i h σ10 H locs ls hm11 hi hh f85 f87 f90 fr11 hH hl
        refine lv_iload_n hx hb dX7_remembers_11 rfl (lv_at hl 0 rfl) ?_
        refine x_sipush hx hb dX7_remembers_12 (by decide) ?_
        refine x_icmp_ge (tgt := 39) hx hb dX7_remembers_15 (by decide) (by omega) (by decide) (fun c15 => ?_) (fun c15 => ?_)
        · have e9 : i = 609 := by omega
          subst e9
          refine lv_aload_n hx hb dX7_remembers_39 rfl (lv_at hl 1 rfl) ?_
          refine lv_dup hx hb dX7_remembers_40 rfl ?_
          refine x_get hx hb hts hown hK hH 85 (by decide) f85 hinX7 rfl 6 (by decide) (List.mem_of_getElem? (i := 1) rfl) rfl dX7_remembers_41 ?_
          refine x_iconst hx hb dX7_remembers_44 ?_
          refine x_isub hx hb dX7_remembers_45 ?_
          refine x_put (fs' := [.ref (xad E 86), .ref (xad E 87), .ref (xad E 88), .ref (xad E 89), .ref (xad E 90), .int (iZ (b2 sv)), .int (iZ (re - 1)), .int (iZ ea), .int (iZ fa), .ref (xad E 91), .ref (xad E 92), .ref (xad E 93), .int (iZ ty), .ref (xad E 94), .int (iZ li), .int (iZ th), .int (iZ sz), .int (iZ sp), .int (iZ wr), .int (iZ to), .ref (xad E 95)]) hx hb hts hown hK hH 85 (by decide) f85 hinX7 rfl tyX7 tyX7_ok nmX7 6 (by decide) (List.mem_of_getElem? (i := 1) rfl) rfl (ty := .int) (by decide +kernel) rfl rfl (Nat.le_of_ble_eq_true rfl) rfl dX7_remembers_46 (fun σ12 H locs f85 fr13 hH => ?_)
          have f87 : σ12 87 = aI E 87 w := (fr13 87 (by omega)).trans f87
          have f90 : σ12 90 = aI E 696 h := (fr13 90 (by omega)).trans f90
          refine lv_aload_n hx hb dX7_remembers_49 rfl (lv_at hl 1 rfl) ?_
          refine x_get hx hb hts hown hK hH 85 (by decide) f85 hinX7 rfl 1 (by decide) (List.mem_of_getElem? (i := 3) rfl) rfl dX7_remembers_50 ?_
          refine x_iconst hx hb dX7_remembers_53 ?_
          refine lv_aload_n hx hb dX7_remembers_54 rfl (lv_at hl 1 rfl) ?_
          refine x_get hx hb hts hown hK hH 85 (by decide) f85 hinX7 rfl 4 (by decide) (List.mem_of_getElem? (i := 2) rfl) rfl dX7_remembers_55 ?_
          refine lv_aload_n hx hb dX7_remembers_58 rfl (lv_at hl 1 rfl) ?_
          refine x_get hx hb hts hown hK hH 85 (by decide) f85 hinX7 rfl 6 (by decide) (List.mem_of_getElem? (i := 1) rfl) rfl dX7_remembers_59 ?_
          refine x_bipush hx hb dX7_remembers_62 (by decide) ?_
          refine x_imul hx hb dX7_remembers_64 ?_
          refine x_cSV (As := [.ref (xad E 87), .int (iZ 0), .ref (xad E 90), .int (iZ ((re - 1) * 87))]) (rest := []) hx hb hml hts hown hK hST hOK hH (c_X7_copies l E ST hSF σ12 87 90 0 ((re - 1) * 87) 87 w 696 h f87 f90 (by omega) (by omega) (by omega) (by omega) (by omega) (by omega) (by omega)) (va_cwS 4 hts gX7_remembers_X7_copies rfl rfl rfl (by decide +kernel) ⟨Nat.le_of_ble_eq_true rfl, Nat.le_of_ble_eq_true rfl⟩) rfl hl.1 rfl (Nat.le_of_ble_eq_true rfl) dX7_remembers_65 ⟨Nat.le_of_ble_eq_true rfl, Nat.le_of_ble_eq_true rfl⟩ (fun σ15 H locs hp16 hH => ?_)
          obtain ⟨⟨f87, f90⟩, fr17⟩ := hp16
          have f85 : σ15 85 = oB 5 [.ref (xad E 86), .ref (xad E 87), .ref (xad E 88), .ref (xad E 89), .ref (xad E 90), .int (iZ (b2 sv)), .int (iZ (re - 1)), .int (iZ ea), .int (iZ fa), .ref (xad E 91), .ref (xad E 92), .ref (xad E 93), .int (iZ ty), .ref (xad E 94), .int (iZ li), .int (iZ th), .int (iZ sz), .int (iZ sp), .int (iZ wr), .int (iZ to), .ref (xad E 95)] := (fr17 85 (by omega)).trans f85
          refine lv_aload_n hx hb dX7_remembers_68 rfl (lv_at hl 1 rfl) ?_
          refine lv_dup hx hb dX7_remembers_69 rfl ?_
          refine x_get hx hb hts hown hK hH 85 (by decide) f85 hinX7 rfl 6 (by decide) (List.mem_of_getElem? (i := 1) rfl) rfl dX7_remembers_70 ?_
          refine x_iconst hx hb dX7_remembers_73 ?_
          refine x_iadd hx hb dX7_remembers_74 ?_
          refine x_put (fs' := [.ref (xad E 86), .ref (xad E 87), .ref (xad E 88), .ref (xad E 89), .ref (xad E 90), .int (iZ (b2 sv)), .int (iZ ((re - 1) + 1)), .int (iZ ea), .int (iZ fa), .ref (xad E 91), .ref (xad E 92), .ref (xad E 93), .int (iZ ty), .ref (xad E 94), .int (iZ li), .int (iZ th), .int (iZ sz), .int (iZ sp), .int (iZ wr), .int (iZ to), .ref (xad E 95)]) hx hb hts hown hK hH 85 (by decide) f85 hinX7 rfl tyX7 tyX7_ok nmX7 6 (by decide) (List.mem_of_getElem? (i := 1) rfl) rfl (ty := .int) (by decide +kernel) rfl rfl (Nat.le_of_ble_eq_true rfl) rfl dX7_remembers_75 (fun σ19 H locs f85 fr20 hH => ?_)
          have f87 : σ19 87 = aI E 87 w := (fr20 87 (by omega)).trans f87
          have f90 : σ19 90 = aI E 696 (cpK w 0 h ((re - 1) * 87) 87) := (fr20 90 (by omega)).trans f90
          obtain ⟨σ21, f90, fr22, hH⟩ := x_normE (g := (rmF hF w re)) 90 (by decide) f90 (by intro j h0 h1; (first | rw [hh] | skip); simp only [rmF, cpK, shK]; (repeat' split) <;> first | (exfalso; omega) | rfl | (congr 1; omega)) hH
          have f85 : σ21 85 = oB 5 [.ref (xad E 86), .ref (xad E 87), .ref (xad E 88), .ref (xad E 89), .ref (xad E 90), .int (iZ (b2 sv)), .int (iZ ((re - 1) + 1)), .int (iZ ea), .int (iZ fa), .ref (xad E 91), .ref (xad E 92), .ref (xad E 93), .int (iZ ty), .ref (xad E 94), .int (iZ li), .int (iZ th), .int (iZ sz), .int (iZ sp), .int (iZ wr), .int (iZ to), .ref (xad E 95)] := (fr22 85 (by omega)).trans f85
          have f87 : σ21 87 = aI E 87 w := (fr22 87 (by omega)).trans f87
          subst hQ
          exact x_vret hx hb hr hlocks hH (Nat.le_of_ble_eq_true rfl) (Nat.le_of_ble_eq_true rfl) ⟨⟨(f85.trans (by first | rw [re8_a (by omega)] | rw [re8_b (by omega)])), f87, f90⟩, fun j hj0 hj1 => ((fr22 j (by omega)).trans ((fr20 j (by omega)).trans ((fr17 j (by omega)).trans ((fr13 j (by omega)).trans (fr11 j (by omega))))))⟩ dX7_remembers_78
        · refine lv_aload_n hx hb dX7_remembers_18 rfl (lv_at hl 1 rfl) ?_
          refine x_get hx hb hts hown hK hH 85 (by decide) f85 hinX7 rfl 4 (by decide) (List.mem_of_getElem? (i := 2) rfl) rfl dX7_remembers_19 ?_
          refine lv_iload_n hx hb dX7_remembers_22 rfl (lv_at hl 0 rfl) ?_
          refine lv_aload_n hx hb dX7_remembers_23 rfl (lv_at hl 1 rfl) ?_
          refine x_get hx hb hts hown hK hH 85 (by decide) f85 hinX7 rfl 4 (by decide) (List.mem_of_getElem? (i := 2) rfl) rfl dX7_remembers_24 ?_
          refine lv_iload_n hx hb dX7_remembers_27 rfl (lv_at hl 0 rfl) ?_
          refine x_bipush hx hb dX7_remembers_28 (by decide) ?_
          refine x_iadd hx hb dX7_remembers_30 ?_
          refine x_iald hx hb hK hH 90 (by decide) f90 (by omega) (by omega) (by omega) dX7_remembers_31 ?_
          refine x_iast hx hb hK hH 90 (by decide) f90 (by omega) (by omega) (by omega) dX7_remembers_32 (fun σ23 H locs f90 fr24 hH => ?_)
          have f85 : σ23 85 = oB 5 [.ref (xad E 86), .ref (xad E 87), .ref (xad E 88), .ref (xad E 89), .ref (xad E 90), .int (iZ (b2 sv)), .int (iZ re), .int (iZ ea), .int (iZ fa), .ref (xad E 91), .ref (xad E 92), .ref (xad E 93), .int (iZ ty), .ref (xad E 94), .int (iZ li), .int (iZ th), .int (iZ sz), .int (iZ sp), .int (iZ wr), .int (iZ to), .ref (xad E 95)] := (fr24 85 (by omega)).trans f85
          have f87 : σ23 87 = aI E 87 w := (fr24 87 (by omega)).trans f87
          refine x_iinc (lv' := [(1, .int (iZ (i + 1))), (0, .ref (xad E 85))]) hx hb dX7_remembers_33 hl (k := 0) rfl (by decide) rfl (fun ls hl => ?_)
          refine lv_goto (tgt := 11) hx hb dX7_remembers_36 (by decide) ?_
          exact ih11 (i + 1) (ui h i (h (i + 87))) σ23 _ _ _ (by omega) (by omega) (by rw [hh]; exact shK_s (by omega)) f85 f87 f90 (fun j hj0 => ((fr24 j (by omega)).trans (fr11 j (by omega)))) hH (lv_sub hl [0, 1] rfl)
    exact K11 610 0 hF σ _ _ _ (by first | omega | decide) (by omega) (by exact shK_0.symm) f85 f87 f90 (fun j _ => rfl) hH (lv_sub hl [0, 1] rfl)

def rm_X7_ends : Room := { frames := 2, cells := 0, slots := 0, locals := 45 }
set_option maxRecDepth 100000 in
set_option maxHeartbeats 4000000 in
theorem c_X7_ends (l : Launch) (E : xE) (ST : xST) (hSF : SF ST) (σ : xW) (a : Int) (sv : Bool) (re : Int) (ea : Int) (fa : Int) (ty : Int) (li : Int) (th : Int) (sz : Int) (sp : Int) (wr : Int) (to : Int) (v : Int → Int) (w : Int → Int) (hF : Int → Int) (hr0 : mo E σ sv re ea fa ty li th sz sp wr to) (hr1 : now E σ v) (hr2 : bef E σ w) (hr3 : his E σ hF) (ha : rg a) (hre : 0 ≤ re ∧ re ≤ 8) (hth : 0 ≤ th ∧ th ≤ 3) : CI l E ST yX7_ends wsX7_ends rm_X7_ends [.ref (xad E 85), .int (iZ a)] σ (fun (z : Int) (u : xW) => z = (if th = 0 then a else 0) ∧ (mo E u sv (if th = 0 then re8 re else re) ea fa ty li th sz sp wr to ∧ now E u (if th = 0 then v else w) ∧ bef E u w ∧ his E u (if th = 0 then rmF hF w re else hF)) ∧ ∀ j : Nat, (j < 85 ∨ 85 + 2 ≤ j) → j ≠ 90 → u j = σ j) := by
  have f85 : σ 85 = oB 5 [.ref (xad E 86), .ref (xad E 87), .ref (xad E 88), .ref (xad E 89), .ref (xad E 90), .int (iZ (b2 sv)), .int (iZ re), .int (iZ ea), .int (iZ fa), .ref (xad E 91), .ref (xad E 92), .ref (xad E 93), .int (iZ ty), .ref (xad E 94), .int (iZ li), .int (iZ th), .int (iZ sz), .int (iZ sp), .int (iZ wr), .int (iZ to), .ref (xad E 95)] := hr0
  have f86 : σ 86 = aI E 87 v := hr1
  have f87 : σ 87 = aI E 87 w := hr2
  have f90 : σ 90 = aI E 696 hF := hr3
  refine CI_of (by decide) rfl (Nat.le_of_ble_eq_true rfl) ?_
  intro p e s m args below meth c Q ls G hH hl hQ
  obtain ⟨hx, hb, hml, hown, hts, hK, hST, hlocks, hr, hno⟩ := G
  have hOK := hSF.1
  have hown : s.vm.findClass RX7 = some m.cls := hown
  have hl : lv_has ls 2 [(0, .ref (xad E 85)), (1, .int (iZ a))] := hl
  have hinX7 : ∀ w ∈ u_ws RX7 TX7 21, w ∈ wsX7_ends := fun w h => (List.mem_cons_of_mem _ (List.mem_append_right _ h))
  refine lv_aload_n hx hb dX7_ends_0 rfl (lv_at hl 0 rfl) ?_
  refine x_get hx hb hts hown hK hH 85 (by decide) f85 hinX7 rfl 15 (by decide) (List.mem_of_getElem? (i := 1) rfl) rfl dX7_ends_1 ?_
  refine x_if_eq (tgt := 22) hx hb dX7_ends_4 (by decide) (by omega) (fun c4 => ?_) (fun c4 => ?_)
  · refine lv_aload_n hx hb dX7_ends_22 rfl (lv_at hl 0 rfl) ?_
    refine x_cVV (As := []) (rest := []) hx hb hml hts hown hK hST hOK hH 85 (c_X7_remembers l E ST hSF σ sv re ea fa ty li th sz sp wr to w hF f85 f87 f90 (by omega)) (cwV 0 hts gX7_ends_X7_remembers rfl rfl rfl (by decide +kernel) ⟨Nat.le_of_ble_eq_true rfl, Nat.le_of_ble_eq_true rfl⟩) (by decide) f85 rfl rfl hl.1 rfl (Nat.le_of_ble_eq_true rfl) dX7_ends_23 ⟨Nat.le_of_ble_eq_true rfl, Nat.le_of_ble_eq_true rfl⟩ (fun σ2 H locs hp3 hH => ?_)
    obtain ⟨⟨f85, f87, f90⟩, fr4⟩ := hp3
    have f86 : σ2 86 = aI E 87 v := (fr4 86 (by omega) (by omega)).trans f86
    refine lv_iload_n hx hb dX7_ends_26 rfl (lv_at hl 1 rfl) ?_
    subst hQ
    exact x_iret hx hb hr hlocks hH (Nat.le_of_ble_eq_true rfl) (Nat.le_of_ble_eq_true rfl) ⟨(show a = (if th = 0 then a else 0) from (by first | rw [if_pos c4] | rw [if_neg c4])), ⟨(f85.trans (by first | rw [if_pos c4] | rw [if_neg c4])), (f86.trans (congrArg (fun g => aI E 87 g) (show v = (if th = 0 then v else w) from (by first | rw [if_pos c4] | rw [if_neg c4])))), f87, (f90.trans (congrArg (fun g => aI E 696 g) (show (rmF hF w re) = (if th = 0 then rmF hF w re else hF) from (by first | rw [if_pos c4] | rw [if_neg c4]))))⟩, fun j hj0 hj1 => (fr4 j (by omega) (by omega))⟩ dX7_ends_27
  · refine lv_aload_n hx hb dX7_ends_7 rfl (lv_at hl 0 rfl) ?_
    refine x_get hx hb hts hown hK hH 85 (by decide) f85 hinX7 rfl 1 (by decide) (List.mem_of_getElem? (i := 2) rfl) rfl dX7_ends_8 ?_
    refine x_iconst hx hb dX7_ends_11 ?_
    refine lv_aload_n hx hb dX7_ends_12 rfl (lv_at hl 0 rfl) ?_
    refine x_get hx hb hts hown hK hH 85 (by decide) f85 hinX7 rfl 0 (by decide) (List.mem_of_getElem? (i := 3) rfl) rfl dX7_ends_13 ?_
    refine x_iconst hx hb dX7_ends_16 ?_
    refine x_cSV (As := [.ref (xad E 87), .int (iZ 0), .ref (xad E 86), .int (iZ 0)]) (rest := []) hx hb hml hts hown hK hST hOK hH (c_X7_copies l E ST hSF σ 87 86 0 0 87 w 87 v f87 f86 (by omega) (by omega) (by omega) (by omega) (by omega) (by omega) (by omega)) (va_cwS 4 hts gX7_ends_X7_copies rfl rfl rfl (by decide +kernel) ⟨Nat.le_of_ble_eq_true rfl, Nat.le_of_ble_eq_true rfl⟩) rfl hl.1 rfl (Nat.le_of_ble_eq_true rfl) dX7_ends_17 ⟨Nat.le_of_ble_eq_true rfl, Nat.le_of_ble_eq_true rfl⟩ (fun σ7 H locs hp8 hH => ?_)
    obtain ⟨⟨f87, f86⟩, fr9⟩ := hp8
    have f85 : σ7 85 = oB 5 [.ref (xad E 86), .ref (xad E 87), .ref (xad E 88), .ref (xad E 89), .ref (xad E 90), .int (iZ (b2 sv)), .int (iZ re), .int (iZ ea), .int (iZ fa), .ref (xad E 91), .ref (xad E 92), .ref (xad E 93), .int (iZ ty), .ref (xad E 94), .int (iZ li), .int (iZ th), .int (iZ sz), .int (iZ sp), .int (iZ wr), .int (iZ to), .ref (xad E 95)] := (fr9 85 (by omega)).trans f85
    have f90 : σ7 90 = aI E 696 hF := (fr9 90 (by omega)).trans f90
    obtain ⟨σ11, f86, fr12, hH⟩ := x_normE (g := (if th = 0 then v else w)) 86 (by decide) f86 (by intro j h0 h1; rw [if_neg c4]; unfold cpK; rw [if_pos (by omega), show (0 : Int) + (j - 0) = j by omega]) hH
    have f85 : σ11 85 = oB 5 [.ref (xad E 86), .ref (xad E 87), .ref (xad E 88), .ref (xad E 89), .ref (xad E 90), .int (iZ (b2 sv)), .int (iZ re), .int (iZ ea), .int (iZ fa), .ref (xad E 91), .ref (xad E 92), .ref (xad E 93), .int (iZ ty), .ref (xad E 94), .int (iZ li), .int (iZ th), .int (iZ sz), .int (iZ sp), .int (iZ wr), .int (iZ to), .ref (xad E 95)] := (fr12 85 (by omega)).trans f85
    have f87 : σ11 87 = aI E 87 w := (fr12 87 (by omega)).trans f87
    have f90 : σ11 90 = aI E 696 hF := (fr12 90 (by omega)).trans f90
    refine x_iconst hx hb dX7_ends_20 ?_
    subst hQ
    exact x_iret hx hb hr hlocks hH (Nat.le_of_ble_eq_true rfl) (Nat.le_of_ble_eq_true rfl) ⟨(show 0 = (if th = 0 then a else 0) from (by first | rw [if_pos c4] | rw [if_neg c4])), ⟨(f85.trans (by first | rw [if_pos c4] | rw [if_neg c4])), f86, f87, (f90.trans (congrArg (fun g => aI E 696 g) (show hF = (if th = 0 then rmF hF w re else hF) from (by first | rw [if_pos c4] | rw [if_neg c4]))))⟩, fun j hj0 hj1 => ((fr12 j (by omega)).trans (fr9 j (by omega)))⟩ dX7_ends_21

def rm_X7_undo : Room := { frames := 2, cells := 0, slots := 0, locals := 44 }
set_option maxRecDepth 100000 in
set_option maxHeartbeats 4000000 in
theorem c_X7_undo (l : Launch) (E : xE) (ST : xST) (hSF : SF ST) (σ : xW) (sv : Bool) (re : Int) (ea : Int) (fa : Int) (ty : Int) (li : Int) (th : Int) (sz : Int) (sp : Int) (wr : Int) (to : Int) (v : Int → Int) (hF : Int → Int) (hr0 : mo E σ sv re ea fa ty li th sz sp wr to) (hr1 : now E σ v) (hr2 : his E σ hF) (hre : 0 ≤ re ∧ re ≤ 8) : CI l E ST yX7_undo wsX7_undo rm_X7_undo [.ref (xad E 85)] σ (fun (z : Int) (u : xW) => z = (if 0 < re then re - 1 else 0) ∧ (mo E u sv (if 0 < re then re - 1 else re) ea fa ty li (if 0 < re then 0 else 1) sz sp wr to ∧ now E u (if 0 < re then (fun j => hF ((re - 1) * 87 + j)) else v) ∧ his E u hF) ∧ ∀ j : Nat, (j < 85 ∨ 85 + 2 ≤ j) → u j = σ j) := by
  have f85 : σ 85 = oB 5 [.ref (xad E 86), .ref (xad E 87), .ref (xad E 88), .ref (xad E 89), .ref (xad E 90), .int (iZ (b2 sv)), .int (iZ re), .int (iZ ea), .int (iZ fa), .ref (xad E 91), .ref (xad E 92), .ref (xad E 93), .int (iZ ty), .ref (xad E 94), .int (iZ li), .int (iZ th), .int (iZ sz), .int (iZ sp), .int (iZ wr), .int (iZ to), .ref (xad E 95)] := hr0
  have f86 : σ 86 = aI E 87 v := hr1
  have f90 : σ 90 = aI E 696 hF := hr2
  refine CI_of (by decide) rfl (Nat.le_of_ble_eq_true rfl) ?_
  intro p e s m args below meth c Q ls G hH hl hQ
  obtain ⟨hx, hb, hml, hown, hts, hK, hST, hlocks, hr, hno⟩ := G
  have hOK := hSF.1
  have hown : s.vm.findClass RX7 = some m.cls := hown
  have hl : lv_has ls 1 [(0, .ref (xad E 85))] := hl
  have hinX7 : ∀ w ∈ u_ws RX7 TX7 21, w ∈ wsX7_undo := fun w h => (List.mem_cons_of_mem _ (List.mem_append_right _ h))
  refine lv_aload_n hx hb dX7_undo_0 rfl (lv_at hl 0 rfl) ?_
  refine lv_aload_n hx hb dX7_undo_1 rfl (lv_at hl 0 rfl) ?_
  refine x_get hx hb hts hown hK hH 85 (by decide) f85 hinX7 rfl 6 (by decide) (List.mem_of_getElem? (i := 1) rfl) rfl dX7_undo_2 ?_
  refine x_if_le (tgt := 12) hx hb dX7_undo_5 (by decide) (by omega) (fun c5 => ?_) (fun c5 => ?_)
  · refine x_iconst hx hb dX7_undo_12 ?_
    refine x_cVIE (As := [.int (iZ 0)]) (rest := []) hx hb hml hts hown hK hST hOK hH 85 (c_X7_goes l E ST hSF σ false sv re ea fa ty li th sz sp wr to f85 ) (cwV 1 hts gX7_undo_X7_goes rfl rfl rfl (by decide +kernel) ⟨Nat.le_of_ble_eq_true rfl, Nat.le_of_ble_eq_true rfl⟩) (by decide) f85 rfl rfl hl.1 rfl (Nat.le_of_ble_eq_true rfl) dX7_undo_13 ⟨Nat.le_of_ble_eq_true rfl, Nat.le_of_ble_eq_true rfl⟩ (fun z u h => h) (fun σ2 H locs hp3 hH => ?_)
    obtain ⟨f85, fr4⟩ := hp3
    have f86 : σ2 86 = aI E 87 v := (fr4 86 (by omega)).trans f86
    have f90 : σ2 90 = aI E 696 hF := (fr4 90 (by omega)).trans f90
    refine x_if_ne (tgt := 21) hx hb dX7_undo_16 (by decide) (rg_b2 _) (fun c16 => ?_) (fun c16 => ?_)
    · exact absurd c16 (by decide)
    · refine x_iconst hx hb dX7_undo_19 ?_
      subst hQ
      exact x_iret hx hb hr hlocks hH (Nat.le_of_ble_eq_true rfl) (Nat.le_of_ble_eq_true rfl) ⟨(show 0 = (if 0 < re then re - 1 else 0) from (by first | rw [if_pos (by omega)] | rw [if_neg (by omega)])), ⟨(f85.trans (by first | (rw [if_pos (show 0 < re from (by omega)), if_pos (show 0 < re from (by omega))]; rfl) | (rw [if_neg (show ¬ 0 < re from (by omega)), if_neg (show ¬ 0 < re from (by omega))]; rfl))), (f86.trans (congrArg (fun g => aI E 87 g) (show v = (if 0 < re then (fun j => hF ((re - 1) * 87 + j)) else v) from (by rw [if_neg (by omega)])))), f90⟩, fun j hj0 => (fr4 j (by omega))⟩ dX7_undo_20
  · refine x_iconst hx hb dX7_undo_8 ?_
    refine lv_goto (tgt := 13) hx hb dX7_undo_9 (by decide) ?_
    refine x_cVIE (As := [.int (iZ 1)]) (rest := []) hx hb hml hts hown hK hST hOK hH 85 (c_X7_goes l E ST hSF σ true sv re ea fa ty li th sz sp wr to f85 ) (cwV 1 hts gX7_undo_X7_goes rfl rfl rfl (by decide +kernel) ⟨Nat.le_of_ble_eq_true rfl, Nat.le_of_ble_eq_true rfl⟩) (by decide) f85 rfl rfl hl.1 rfl (Nat.le_of_ble_eq_true rfl) dX7_undo_13 ⟨Nat.le_of_ble_eq_true rfl, Nat.le_of_ble_eq_true rfl⟩ (fun z u h => h) (fun σ7 H locs hp8 hH => ?_)
    obtain ⟨f85, fr9⟩ := hp8
    have f86 : σ7 86 = aI E 87 v := (fr9 86 (by omega)).trans f86
    have f90 : σ7 90 = aI E 696 hF := (fr9 90 (by omega)).trans f90
    refine x_if_ne (tgt := 21) hx hb dX7_undo_16 (by decide) (rg_b2 _) (fun c16 => ?_) (fun c16 => ?_)
    · refine lv_aload_n hx hb dX7_undo_21 rfl (lv_at hl 0 rfl) ?_
      refine lv_dup hx hb dX7_undo_22 rfl ?_
      refine x_get hx hb hts hown hK hH 85 (by decide) f85 hinX7 rfl 6 (by decide) (List.mem_of_getElem? (i := 1) rfl) rfl dX7_undo_23 ?_
      refine x_iconst hx hb dX7_undo_26 ?_
      refine x_isub hx hb dX7_undo_27 ?_
      refine x_put (fs' := [.ref (xad E 86), .ref (xad E 87), .ref (xad E 88), .ref (xad E 89), .ref (xad E 90), .int (iZ (b2 sv)), .int (iZ (re - 1)), .int (iZ ea), .int (iZ fa), .ref (xad E 91), .ref (xad E 92), .ref (xad E 93), .int (iZ ty), .ref (xad E 94), .int (iZ li), .int (iZ (if true = true then 0 else 1)), .int (iZ sz), .int (iZ sp), .int (iZ wr), .int (iZ to), .ref (xad E 95)]) hx hb hts hown hK hH 85 (by decide) f85 hinX7 rfl tyX7 tyX7_ok nmX7 6 (by decide) (List.mem_of_getElem? (i := 1) rfl) rfl (ty := .int) (by decide +kernel) rfl rfl (Nat.le_of_ble_eq_true rfl) rfl dX7_undo_28 (fun σ11 H locs f85 fr12 hH => ?_)
      have f86 : σ11 86 = aI E 87 v := (fr12 86 (by omega)).trans f86
      have f90 : σ11 90 = aI E 696 hF := (fr12 90 (by omega)).trans f90
      refine lv_aload_n hx hb dX7_undo_31 rfl (lv_at hl 0 rfl) ?_
      refine x_get hx hb hts hown hK hH 85 (by decide) f85 hinX7 rfl 4 (by decide) (List.mem_of_getElem? (i := 2) rfl) rfl dX7_undo_32 ?_
      refine lv_aload_n hx hb dX7_undo_35 rfl (lv_at hl 0 rfl) ?_
      refine x_get hx hb hts hown hK hH 85 (by decide) f85 hinX7 rfl 6 (by decide) (List.mem_of_getElem? (i := 1) rfl) rfl dX7_undo_36 ?_
      refine x_bipush hx hb dX7_undo_39 (by decide) ?_
      refine x_imul hx hb dX7_undo_41 ?_
      refine lv_aload_n hx hb dX7_undo_42 rfl (lv_at hl 0 rfl) ?_
      refine x_get hx hb hts hown hK hH 85 (by decide) f85 hinX7 rfl 0 (by decide) (List.mem_of_getElem? (i := 3) rfl) rfl dX7_undo_43 ?_
      refine x_iconst hx hb dX7_undo_46 ?_
      refine x_cSV (As := [.ref (xad E 90), .int (iZ ((re - 1) * 87)), .ref (xad E 86), .int (iZ 0)]) (rest := []) hx hb hml hts hown hK hST hOK hH (c_X7_copies l E ST hSF σ11 90 86 ((re - 1) * 87) 0 696 hF 87 v f90 f86 (by omega) (by omega) (by omega) (by omega) (by omega) (by omega) (by omega)) (va_cwS 4 hts gX7_undo_X7_copies rfl rfl rfl (by decide +kernel) ⟨Nat.le_of_ble_eq_true rfl, Nat.le_of_ble_eq_true rfl⟩) rfl hl.1 rfl (Nat.le_of_ble_eq_true rfl) dX7_undo_47 ⟨Nat.le_of_ble_eq_true rfl, Nat.le_of_ble_eq_true rfl⟩ (fun σ14 H locs hp15 hH => ?_)
      obtain ⟨⟨f90, f86⟩, fr16⟩ := hp15
      have f85 : σ14 85 = oB 5 [.ref (xad E 86), .ref (xad E 87), .ref (xad E 88), .ref (xad E 89), .ref (xad E 90), .int (iZ (b2 sv)), .int (iZ (re - 1)), .int (iZ ea), .int (iZ fa), .ref (xad E 91), .ref (xad E 92), .ref (xad E 93), .int (iZ ty), .ref (xad E 94), .int (iZ li), .int (iZ (if true = true then 0 else 1)), .int (iZ sz), .int (iZ sp), .int (iZ wr), .int (iZ to), .ref (xad E 95)] := (fr16 85 (by omega)).trans f85
      obtain ⟨σ18, f86, fr19, hH⟩ := x_normE (g := (if 0 < re then (fun j => hF ((re - 1) * 87 + j)) else v)) 86 (by decide) f86 (by intro j h0 h1; rw [if_pos (by omega)]; unfold cpK; rw [if_pos (by omega)]; show hF ((re - 1) * 87 + (j - 0)) = hF ((re - 1) * 87 + j); congr 1; omega) hH
      have f85 : σ18 85 = oB 5 [.ref (xad E 86), .ref (xad E 87), .ref (xad E 88), .ref (xad E 89), .ref (xad E 90), .int (iZ (b2 sv)), .int (iZ (re - 1)), .int (iZ ea), .int (iZ fa), .ref (xad E 91), .ref (xad E 92), .ref (xad E 93), .int (iZ ty), .ref (xad E 94), .int (iZ li), .int (iZ (if true = true then 0 else 1)), .int (iZ sz), .int (iZ sp), .int (iZ wr), .int (iZ to), .ref (xad E 95)] := (fr19 85 (by omega)).trans f85
      have f90 : σ18 90 = aI E 696 hF := (fr19 90 (by omega)).trans f90
      refine lv_aload_n hx hb dX7_undo_50 rfl (lv_at hl 0 rfl) ?_
      refine x_get hx hb hts hown hK hH 85 (by decide) f85 hinX7 rfl 6 (by decide) (List.mem_of_getElem? (i := 1) rfl) rfl dX7_undo_51 ?_
      subst hQ
      exact x_iret hx hb hr hlocks hH (Nat.le_of_ble_eq_true rfl) (Nat.le_of_ble_eq_true rfl) ⟨(show (re - 1) = (if 0 < re then re - 1 else 0) from (by first | rw [if_pos (by omega)] | rw [if_neg (by omega)])), ⟨(f85.trans (by first | (rw [if_pos (show 0 < re from (by omega)), if_pos (show 0 < re from (by omega))]; rfl) | (rw [if_neg (show ¬ 0 < re from (by omega)), if_neg (show ¬ 0 < re from (by omega))]; rfl))), f86, f90⟩, fun j hj0 => ((fr19 j (by omega)).trans ((fr16 j (by omega)).trans ((fr12 j (by omega)).trans (fr9 j (by omega)))))⟩ dX7_undo_54
    · exact absurd c16 (by decide)

def rm_X7_save : Room := { frames := 1, cells := 0, slots := 0, locals := 24 }
set_option maxRecDepth 100000 in
set_option maxHeartbeats 4000000 in
theorem c_X7_save (l : Launch) (E : xE) (ST : xST) (hSF : SF ST) (σ : xW) (sv : Bool) (re : Int) (ea : Int) (fa : Int) (ty : Int) (li : Int) (th : Int) (sz : Int) (sp : Int) (wr : Int) (to : Int) (v : Int → Int) (w : Int → Int) (hr0 : mo E σ sv re ea fa ty li th sz sp wr to) (hr1 : now E σ v) (hr2 : sav E σ w) : CV l E ST yX7_save wsX7_save rm_X7_save [.ref (xad E 85)] σ (fun (u : xW) => (mo E u true re ea fa ty li 0 sz sp wr to ∧ now E u v ∧ sav E u v) ∧ ∀ j : Nat, j ≠ 85 → j ≠ 89 → u j = σ j) := by
  have f85 : σ 85 = oB 5 [.ref (xad E 86), .ref (xad E 87), .ref (xad E 88), .ref (xad E 89), .ref (xad E 90), .int (iZ (b2 sv)), .int (iZ re), .int (iZ ea), .int (iZ fa), .ref (xad E 91), .ref (xad E 92), .ref (xad E 93), .int (iZ ty), .ref (xad E 94), .int (iZ li), .int (iZ th), .int (iZ sz), .int (iZ sp), .int (iZ wr), .int (iZ to), .ref (xad E 95)] := hr0
  have f86 : σ 86 = aI E 87 v := hr1
  have f89 : σ 89 = aI E 87 w := hr2
  refine CV_of (by decide) rfl (Nat.le_of_ble_eq_true rfl) ?_
  intro p e s m args below meth c Q ls G hH hl hQ
  obtain ⟨hx, hb, hml, hown, hts, hK, hST, hlocks, hr, hno⟩ := G
  have hOK := hSF.1
  have hown : s.vm.findClass RX7 = some m.cls := hown
  have hl : lv_has ls 1 [(0, .ref (xad E 85))] := hl
  have hinX7 : ∀ w ∈ u_ws RX7 TX7 21, w ∈ wsX7_save := fun w h => (List.mem_cons_of_mem _ (List.mem_append_right _ h))
  refine lv_aload_n hx hb dX7_save_0 rfl (lv_at hl 0 rfl) ?_
  refine x_iconst hx hb dX7_save_1 ?_
  refine x_put (fs' := [.ref (xad E 86), .ref (xad E 87), .ref (xad E 88), .ref (xad E 89), .ref (xad E 90), .int (iZ (b2 sv)), .int (iZ re), .int (iZ ea), .int (iZ fa), .ref (xad E 91), .ref (xad E 92), .ref (xad E 93), .int (iZ ty), .ref (xad E 94), .int (iZ li), .int (iZ 0), .int (iZ sz), .int (iZ sp), .int (iZ wr), .int (iZ to), .ref (xad E 95)]) hx hb hts hown hK hH 85 (by decide) f85 hinX7 rfl tyX7 tyX7_ok nmX7 15 (by decide) (List.mem_of_getElem? (i := 1) rfl) rfl (ty := .int) (by decide +kernel) rfl rfl (Nat.le_of_ble_eq_true rfl) rfl dX7_save_2 (fun σ1 H locs f85 fr2 hH => ?_)
  have f86 : σ1 86 = aI E 87 v := (fr2 86 (by omega)).trans f86
  have f89 : σ1 89 = aI E 87 w := (fr2 89 (by omega)).trans f89
  refine lv_aload_n hx hb dX7_save_5 rfl (lv_at hl 0 rfl) ?_
  refine x_get hx hb hts hown hK hH 85 (by decide) f85 hinX7 rfl 0 (by decide) (List.mem_of_getElem? (i := 2) rfl) rfl dX7_save_6 ?_
  refine x_iconst hx hb dX7_save_9 ?_
  refine lv_aload_n hx hb dX7_save_10 rfl (lv_at hl 0 rfl) ?_
  refine x_get hx hb hts hown hK hH 85 (by decide) f85 hinX7 rfl 3 (by decide) (List.mem_of_getElem? (i := 3) rfl) rfl dX7_save_11 ?_
  refine x_iconst hx hb dX7_save_14 ?_
  refine x_cSV (As := [.ref (xad E 86), .int (iZ 0), .ref (xad E 89), .int (iZ 0)]) (rest := []) hx hb hml hts hown hK hST hOK hH (c_X7_copies l E ST hSF σ1 86 89 0 0 87 v 87 w f86 f89 (by omega) (by omega) (by omega) (by omega) (by omega) (by omega) (by omega)) (va_cwS 4 hts gX7_save_X7_copies rfl rfl rfl (by decide +kernel) ⟨Nat.le_of_ble_eq_true rfl, Nat.le_of_ble_eq_true rfl⟩) rfl hl.1 rfl (Nat.le_of_ble_eq_true rfl) dX7_save_15 ⟨Nat.le_of_ble_eq_true rfl, Nat.le_of_ble_eq_true rfl⟩ (fun σ4 H locs hp5 hH => ?_)
  obtain ⟨⟨f86, f89⟩, fr6⟩ := hp5
  have f85 : σ4 85 = oB 5 [.ref (xad E 86), .ref (xad E 87), .ref (xad E 88), .ref (xad E 89), .ref (xad E 90), .int (iZ (b2 sv)), .int (iZ re), .int (iZ ea), .int (iZ fa), .ref (xad E 91), .ref (xad E 92), .ref (xad E 93), .int (iZ ty), .ref (xad E 94), .int (iZ li), .int (iZ 0), .int (iZ sz), .int (iZ sp), .int (iZ wr), .int (iZ to), .ref (xad E 95)] := (fr6 85 (by omega)).trans f85
  refine lv_aload_n hx hb dX7_save_18 rfl (lv_at hl 0 rfl) ?_
  refine x_iconst hx hb dX7_save_19 ?_
  refine x_put (fs' := [.ref (xad E 86), .ref (xad E 87), .ref (xad E 88), .ref (xad E 89), .ref (xad E 90), .int (iZ (b2 true)), .int (iZ re), .int (iZ ea), .int (iZ fa), .ref (xad E 91), .ref (xad E 92), .ref (xad E 93), .int (iZ ty), .ref (xad E 94), .int (iZ li), .int (iZ 0), .int (iZ sz), .int (iZ sp), .int (iZ wr), .int (iZ to), .ref (xad E 95)]) hx hb hts hown hK hH 85 (by decide) f85 hinX7 rfl tyX7 tyX7_ok nmX7 5 (by decide) (List.mem_of_getElem? (i := 4) rfl) rfl (ty := .boolean) (by decide +kernel) (by decide) (by decide) (Nat.le_of_ble_eq_true rfl) rfl dX7_save_20 (fun σ8 H locs f85 fr9 hH => ?_)
  have f86 : σ8 86 = aI E 87 v := (fr9 86 (by omega)).trans f86
  have f89 : σ8 89 = aI E 87 (cpK v 0 w 0 87) := (fr9 89 (by omega)).trans f89
  obtain ⟨σ10, f89, fr11, hH⟩ := x_normE (g := v) 89 (by decide) f89 (by intro j h0 h1; unfold cpK; rw [if_pos (by omega), show (0 : Int) + (j - 0) = j by omega]) hH
  have f85 : σ10 85 = oB 5 [.ref (xad E 86), .ref (xad E 87), .ref (xad E 88), .ref (xad E 89), .ref (xad E 90), .int (iZ (b2 true)), .int (iZ re), .int (iZ ea), .int (iZ fa), .ref (xad E 91), .ref (xad E 92), .ref (xad E 93), .int (iZ ty), .ref (xad E 94), .int (iZ li), .int (iZ 0), .int (iZ sz), .int (iZ sp), .int (iZ wr), .int (iZ to), .ref (xad E 95)] := (fr11 85 (by omega)).trans f85
  have f86 : σ10 86 = aI E 87 v := (fr11 86 (by omega)).trans f86
  subst hQ
  exact x_vret hx hb hr hlocks hH (Nat.le_of_ble_eq_true rfl) (Nat.le_of_ble_eq_true rfl) ⟨⟨f85, f86, f89⟩, fun j hj0 hj1 => ((fr11 j (by omega)).trans ((fr9 j (by omega)).trans ((fr6 j (by omega)).trans (fr2 j (by omega)))))⟩ dX7_save_23

def rm_X7_restore : Room := { frames := 2, cells := 0, slots := 0, locals := 44 }
set_option maxRecDepth 100000 in
set_option maxHeartbeats 4000000 in
theorem c_X7_restore (l : Launch) (E : xE) (ST : xST) (hSF : SF ST) (σ : xW) (sv : Bool) (re : Int) (ea : Int) (fa : Int) (ty : Int) (li : Int) (th : Int) (sz : Int) (sp : Int) (wr : Int) (to : Int) (v : Int → Int) (w : Int → Int) (hr0 : mo E σ sv re ea fa ty li th sz sp wr to) (hr1 : now E σ v) (hr2 : sav E σ w) : CV l E ST yX7_restore wsX7_restore rm_X7_restore [.ref (xad E 85)] σ (fun (u : xW) => (mo E u sv (if sv = true then 0 else re) ea fa ty li (if sv = true then 0 else 1) sz sp wr to ∧ now E u (if sv = true then w else v) ∧ sav E u w) ∧ ∀ j : Nat, (j < 85 ∨ 85 + 2 ≤ j) → u j = σ j) := by
  have f85 : σ 85 = oB 5 [.ref (xad E 86), .ref (xad E 87), .ref (xad E 88), .ref (xad E 89), .ref (xad E 90), .int (iZ (b2 sv)), .int (iZ re), .int (iZ ea), .int (iZ fa), .ref (xad E 91), .ref (xad E 92), .ref (xad E 93), .int (iZ ty), .ref (xad E 94), .int (iZ li), .int (iZ th), .int (iZ sz), .int (iZ sp), .int (iZ wr), .int (iZ to), .ref (xad E 95)] := hr0
  have f86 : σ 86 = aI E 87 v := hr1
  have f89 : σ 89 = aI E 87 w := hr2
  refine CV_of (by decide) rfl (Nat.le_of_ble_eq_true rfl) ?_
  intro p e s m args below meth c Q ls G hH hl hQ
  obtain ⟨hx, hb, hml, hown, hts, hK, hST, hlocks, hr, hno⟩ := G
  have hOK := hSF.1
  have hown : s.vm.findClass RX7 = some m.cls := hown
  have hl : lv_has ls 1 [(0, .ref (xad E 85))] := hl
  have hinX7 : ∀ w ∈ u_ws RX7 TX7 21, w ∈ wsX7_restore := fun w h => (List.mem_cons_of_mem _ (List.mem_append_right _ h))
  refine lv_aload_n hx hb dX7_restore_0 rfl (lv_at hl 0 rfl) ?_
  refine lv_aload_n hx hb dX7_restore_1 rfl (lv_at hl 0 rfl) ?_
  refine x_get hx hb hts hown hK hH 85 (by decide) f85 hinX7 rfl 5 (by decide) (List.mem_of_getElem? (i := 1) rfl) rfl dX7_restore_2 ?_
  refine x_cVIE (As := [.int (iZ (b2 sv))]) (rest := []) hx hb hml hts hown hK hST hOK hH 85 (c_X7_goes l E ST hSF σ sv sv re ea fa ty li th sz sp wr to f85 ) (cwV 1 hts gX7_restore_X7_goes rfl rfl rfl (by decide +kernel) ⟨Nat.le_of_ble_eq_true rfl, Nat.le_of_ble_eq_true rfl⟩) (by decide) f85 rfl rfl hl.1 rfl (Nat.le_of_ble_eq_true rfl) dX7_restore_5 ⟨Nat.le_of_ble_eq_true rfl, Nat.le_of_ble_eq_true rfl⟩ (fun z u h => h) (fun σ2 H locs hp3 hH => ?_)
  obtain ⟨f85, fr4⟩ := hp3
  have f86 : σ2 86 = aI E 87 v := (fr4 86 (by omega)).trans f86
  have f89 : σ2 89 = aI E 87 w := (fr4 89 (by omega)).trans f89
  refine x_ifb_eq (tgt := 29) hx hb dX7_restore_8 (by decide) (fun c8 => ?_) (fun c8 => ?_)
  · subst hQ
    exact x_vret hx hb hr hlocks hH (Nat.le_of_ble_eq_true rfl) (Nat.le_of_ble_eq_true rfl) ⟨⟨(f85.trans (by simp [c8])), (f86.trans (congrArg (fun g => aI E 87 g) (show v = (if sv = true then w else v) from (by simp [c8])))), f89⟩, fun j hj0 => (fr4 j (by omega))⟩ dX7_restore_29
  · refine lv_aload_n hx hb dX7_restore_11 rfl (lv_at hl 0 rfl) ?_
    refine x_get hx hb hts hown hK hH 85 (by decide) f85 hinX7 rfl 3 (by decide) (List.mem_of_getElem? (i := 2) rfl) rfl dX7_restore_12 ?_
    refine x_iconst hx hb dX7_restore_15 ?_
    refine lv_aload_n hx hb dX7_restore_16 rfl (lv_at hl 0 rfl) ?_
    refine x_get hx hb hts hown hK hH 85 (by decide) f85 hinX7 rfl 0 (by decide) (List.mem_of_getElem? (i := 3) rfl) rfl dX7_restore_17 ?_
    refine x_iconst hx hb dX7_restore_20 ?_
    refine x_cSV (As := [.ref (xad E 89), .int (iZ 0), .ref (xad E 86), .int (iZ 0)]) (rest := []) hx hb hml hts hown hK hST hOK hH (c_X7_copies l E ST hSF σ2 89 86 0 0 87 w 87 v f89 f86 (by omega) (by omega) (by omega) (by omega) (by omega) (by omega) (by omega)) (va_cwS 4 hts gX7_restore_X7_copies rfl rfl rfl (by decide +kernel) ⟨Nat.le_of_ble_eq_true rfl, Nat.le_of_ble_eq_true rfl⟩) rfl hl.1 rfl (Nat.le_of_ble_eq_true rfl) dX7_restore_21 ⟨Nat.le_of_ble_eq_true rfl, Nat.le_of_ble_eq_true rfl⟩ (fun σ7 H locs hp8 hH => ?_)
    obtain ⟨⟨f89, f86⟩, fr9⟩ := hp8
    have f85 : σ7 85 = oB 5 [.ref (xad E 86), .ref (xad E 87), .ref (xad E 88), .ref (xad E 89), .ref (xad E 90), .int (iZ (b2 sv)), .int (iZ re), .int (iZ ea), .int (iZ fa), .ref (xad E 91), .ref (xad E 92), .ref (xad E 93), .int (iZ ty), .ref (xad E 94), .int (iZ li), .int (iZ (if sv = true then 0 else 1)), .int (iZ sz), .int (iZ sp), .int (iZ wr), .int (iZ to), .ref (xad E 95)] := (fr9 85 (by omega)).trans f85
    obtain ⟨σ11, f86, fr12, hH⟩ := x_normE (g := w) 86 (by decide) f86 (by intro j h0 h1; unfold cpK; rw [if_pos (by omega), show (0 : Int) + (j - 0) = j by omega]) hH
    have f85 : σ11 85 = oB 5 [.ref (xad E 86), .ref (xad E 87), .ref (xad E 88), .ref (xad E 89), .ref (xad E 90), .int (iZ (b2 sv)), .int (iZ re), .int (iZ ea), .int (iZ fa), .ref (xad E 91), .ref (xad E 92), .ref (xad E 93), .int (iZ ty), .ref (xad E 94), .int (iZ li), .int (iZ (if sv = true then 0 else 1)), .int (iZ sz), .int (iZ sp), .int (iZ wr), .int (iZ to), .ref (xad E 95)] := (fr12 85 (by omega)).trans f85
    have f89 : σ11 89 = aI E 87 w := (fr12 89 (by omega)).trans f89
    refine lv_aload_n hx hb dX7_restore_24 rfl (lv_at hl 0 rfl) ?_
    refine x_iconst hx hb dX7_restore_25 ?_
    refine x_put (fs' := [.ref (xad E 86), .ref (xad E 87), .ref (xad E 88), .ref (xad E 89), .ref (xad E 90), .int (iZ (b2 sv)), .int (iZ 0), .int (iZ ea), .int (iZ fa), .ref (xad E 91), .ref (xad E 92), .ref (xad E 93), .int (iZ ty), .ref (xad E 94), .int (iZ li), .int (iZ (if sv = true then 0 else 1)), .int (iZ sz), .int (iZ sp), .int (iZ wr), .int (iZ to), .ref (xad E 95)]) hx hb hts hown hK hH 85 (by decide) f85 hinX7 rfl tyX7 tyX7_ok nmX7 6 (by decide) (List.mem_of_getElem? (i := 4) rfl) rfl (ty := .int) (by decide +kernel) rfl rfl (Nat.le_of_ble_eq_true rfl) rfl dX7_restore_26 (fun σ13 H locs f85 fr14 hH => ?_)
    have f86 : σ13 86 = aI E 87 w := (fr14 86 (by omega)).trans f86
    have f89 : σ13 89 = aI E 87 w := (fr14 89 (by omega)).trans f89
    subst hQ
    exact x_vret hx hb hr hlocks hH (Nat.le_of_ble_eq_true rfl) (Nat.le_of_ble_eq_true rfl) ⟨⟨(f85.trans (by simp [c8])), (f86.trans (congrArg (fun g => aI E 87 g) (show w = (if sv = true then w else v) from (by simp [c8])))), f89⟩, fun j hj0 => ((fr14 j (by omega)).trans ((fr12 j (by omega)).trans ((fr9 j (by omega)).trans (fr4 j (by omega)))))⟩ dX7_restore_29

def rm_X7_isWalker : Room := { frames := 1, cells := 0, slots := 0, locals := 22 }
set_option maxRecDepth 100000 in
set_option maxHeartbeats 4000000 in
theorem c_X7_isWalker (l : Launch) (E : xE) (ST : xST) (hSF : SF ST) (σ : xW) (w : Int) (op : Int → Int) (lk : Int → Int) (kp : Int → Int) (wc : Int → Int) (pn : Int) (nw : Int) (sh : Int) (wk : Int) (sv : Bool) (re : Int) (ea : Int) (fa : Int) (ty : Int) (li : Int) (th : Int) (sz : Int) (sp : Int) (wr : Int) (to : Int) (v : Int → Int) (hr0 : mo E σ sv re ea fa ty li th sz sp wr to) (hr1 : now E σ v) (hC : Cp v op lk kp wc pn nw sh wk) (hB : BI op lk kp wc pn nw) (hw9 : rg w) : CI l E ST yX7_isWalker wsX7_isWalker rm_X7_isWalker [.ref (xad E 85), .int (iZ w)] σ (fun (z : Int) (u : xW) => z = b2 (decide (0 ≤ w ∧ w < nw)) ∧ u = σ) := by
  have f85 : σ 85 = oB 5 [.ref (xad E 86), .ref (xad E 87), .ref (xad E 88), .ref (xad E 89), .ref (xad E 90), .int (iZ (b2 sv)), .int (iZ re), .int (iZ ea), .int (iZ fa), .ref (xad E 91), .ref (xad E 92), .ref (xad E 93), .int (iZ ty), .ref (xad E 94), .int (iZ li), .int (iZ th), .int (iZ sz), .int (iZ sp), .int (iZ wr), .int (iZ to), .ref (xad E 95)] := hr0
  have f86 : σ 86 = aI E 87 v := hr1
  refine CI_of (by decide) rfl (Nat.le_of_ble_eq_true rfl) ?_
  intro p e s m args below meth c Q ls G hH hl hQ
  obtain ⟨hx, hb, hml, hown, hts, hK, hST, hlocks, hr, hno⟩ := G
  have hOK := hSF.1
  have hown : s.vm.findClass RX7 = some m.cls := hown
  have hl : lv_has ls 2 [(0, .ref (xad E 85)), (1, .int (iZ w))] := hl
  have hinX7 : ∀ w ∈ u_ws RX7 TX7 21, w ∈ wsX7_isWalker := fun w h => (List.mem_cons_of_mem _ (List.mem_append_right _ h))
  obtain ⟨hop, hlk, hkp, hwc, hpn, hnw⟩ := id hB
  have hvR := hC.R
  have hv0 := hC.1.1
  refine lv_iload_n hx hb dX7_isWalker_0 rfl (lv_at hl 1 rfl) ?_
  refine x_iconst hx hb dX7_isWalker_1 ?_
  refine lv_aload_n hx hb dX7_isWalker_2 rfl (lv_at hl 0 rfl) ?_
  refine x_get hx hb hts hown hK hH 85 (by decide) f85 hinX7 rfl 0 (by decide) (List.mem_of_getElem? (i := 1) rfl) rfl dX7_isWalker_3 ?_
  refine x_iconst hx hb dX7_isWalker_6 ?_
  refine x_iald hx hb hK hH 86 (by decide) f86 (by omega) (by omega) (by omega) dX7_isWalker_7 ?_
  have hv1 := hvR 0
  refine x_iconst hx hb dX7_isWalker_8 ?_
  refine x_isub hx hb dX7_isWalker_9 ?_
  refine x_cSID (As := [.int (iZ w), .int (iZ 0), .int (iZ ((v 0) - 1))]) (rest := []) hx hb hml hts hown hK hST hOK hH (c_X7_isIn l E ST hSF σ w 0 ((v 0) - 1)  (by omega) (by omega) (by omega)) (va_cwS 3 hts gX7_isWalker_X7_isIn rfl rfl rfl (by decide +kernel) ⟨Nat.le_of_ble_eq_true rfl, Nat.le_of_ble_eq_true rfl⟩) rfl hl.1 rfl (Nat.le_of_ble_eq_true rfl) dX7_isWalker_10 ⟨Nat.le_of_ble_eq_true rfl, Nat.le_of_ble_eq_true rfl⟩ (fun z u h => h) (fun H locs hH => ?_)
  subst hQ
  exact x_zret (b := (decide (0 ≤ w ∧ w ≤ ((v 0) - 1)))) hx hb hr hlocks hH (Nat.le_of_ble_eq_true rfl) (Nat.le_of_ble_eq_true rfl) ⟨congrArg b2 (show (decide (0 ≤ w ∧ w ≤ ((v 0) - 1))) = (decide (0 ≤ w ∧ w < nw)) from (by rw [hv0]; exact decide_eq_decide.mpr (by omega))), rfl⟩ dX7_isWalker_13

def rm_X7_placeOf : Room := { frames := 2, cells := 0, slots := 0, locals := 42 }
set_option maxRecDepth 100000 in
set_option maxHeartbeats 4000000 in
theorem c_X7_placeOf (l : Launch) (E : xE) (ST : xST) (hSF : SF ST) (σ : xW) (k : Int) (op : Int → Int) (lk : Int → Int) (kp : Int → Int) (wc : Int → Int) (pn : Int) (nw : Int) (sh : Int) (wk : Int) (sv : Bool) (re : Int) (ea : Int) (fa : Int) (ty : Int) (li : Int) (th : Int) (sz : Int) (sp : Int) (wr : Int) (to : Int) (v : Int → Int) (hr0 : mo E σ sv re ea fa ty li th sz sp wr to) (hr1 : now E σ v) (hC : Cp v op lk kp wc pn nw sh wk) (hB : BI op lk kp wc pn nw) (hk9 : rg k) : CI l E ST yX7_placeOf wsX7_placeOf rm_X7_placeOf [.ref (xad E 85), .int (iZ k)] σ (fun (z : Int) (u : xW) => z = plZ kp k ∧ u = σ) := by
  have f85 : σ 85 = oB 5 [.ref (xad E 86), .ref (xad E 87), .ref (xad E 88), .ref (xad E 89), .ref (xad E 90), .int (iZ (b2 sv)), .int (iZ re), .int (iZ ea), .int (iZ fa), .ref (xad E 91), .ref (xad E 92), .ref (xad E 93), .int (iZ ty), .ref (xad E 94), .int (iZ li), .int (iZ th), .int (iZ sz), .int (iZ sp), .int (iZ wr), .int (iZ to), .ref (xad E 95)] := hr0
  have f86 : σ 86 = aI E 87 v := hr1
  refine CI_of (by decide) rfl (Nat.le_of_ble_eq_true rfl) ?_
  intro p e s m args below meth c Q ls G hH hl hQ
  obtain ⟨hx, hb, hml, hown, hts, hK, hST, hlocks, hr, hno⟩ := G
  have hOK := hSF.1
  have hown : s.vm.findClass RX7 = some m.cls := hown
  have hl : lv_has ls 2 [(0, .ref (xad E 85)), (1, .int (iZ k))] := hl
  have hinX7 : ∀ w ∈ u_ws RX7 TX7 21, w ∈ wsX7_placeOf := fun w h => (List.mem_cons_of_mem _ (List.mem_append_right _ h))
  obtain ⟨hop, hlk, hkp, hwc, hpn, hnw⟩ := id hB
  have hvR := hC.R
  have hv0 := hC.1.1
  refine lv_iload_n hx hb dX7_placeOf_0 rfl (lv_at hl 1 rfl) ?_
  refine x_cSID (As := [.int (iZ k)]) (rest := []) hx hb hml hts hown hK hST hOK hH (c_X7_isKey l E ST hSF σ k  (by omega)) (va_cwS 1 hts gX7_placeOf_X7_isKey rfl rfl rfl (by decide +kernel) ⟨Nat.le_of_ble_eq_true rfl, Nat.le_of_ble_eq_true rfl⟩) rfl hl.1 rfl (Nat.le_of_ble_eq_true rfl) dX7_placeOf_1 ⟨Nat.le_of_ble_eq_true rfl, Nat.le_of_ble_eq_true rfl⟩ (fun z u h => h) (fun H locs hH => ?_)
  refine x_ifb_eq (tgt := 21) hx hb dX7_placeOf_4 (by decide) (fun c4 => ?_) (fun c4 => ?_)
  · have c4 := of_decide_eq_false c4
    refine x_iconst hx hb dX7_placeOf_21 ?_
    subst hQ
    exact x_iret hx hb hr hlocks hH (Nat.le_of_ble_eq_true rfl) (Nat.le_of_ble_eq_true rfl) ⟨(show (-1) = (plZ kp k) from (by unfold plZ; first | (rw [if_neg (by omega)]; done) | (rw [if_pos (by omega), ← hvk]; congr 1; omega))), rfl⟩ dX7_placeOf_22
  · have c4 := of_decide_eq_true c4
    refine lv_aload_n hx hb dX7_placeOf_7 rfl (lv_at hl 0 rfl) ?_
    refine x_get hx hb hts hown hK hH 85 (by decide) f85 hinX7 rfl 0 (by decide) (List.mem_of_getElem? (i := 1) rfl) rfl dX7_placeOf_8 ?_
    refine x_iconst hx hb dX7_placeOf_11 ?_
    refine lv_iload_n hx hb dX7_placeOf_12 rfl (lv_at hl 1 rfl) ?_
    refine x_iadd hx hb dX7_placeOf_13 ?_
    refine x_bipush hx hb dX7_placeOf_14 (by decide) ?_
    refine x_isub hx hb dX7_placeOf_16 ?_
    have hvk := hC.key (k := k - 97) (by omega) (by omega)
    refine x_iald hx hb hK hH 86 (by decide) f86 (by omega) (by omega) (by omega) dX7_placeOf_17 ?_
    have hv4 := hvR ((3 + k) - 97)
    refine lv_goto (tgt := 22) hx hb dX7_placeOf_18 (by decide) ?_
    subst hQ
    exact x_iret hx hb hr hlocks hH (Nat.le_of_ble_eq_true rfl) (Nat.le_of_ble_eq_true rfl) ⟨(show (v ((3 + k) - 97)) = (plZ kp k) from (by unfold plZ; first | (rw [if_neg (by omega)]; done) | (rw [if_pos (by omega), ← hvk]; congr 1; omega))), rfl⟩ dX7_placeOf_22

def rm_X7_keysOn : Room := { frames := 0, cells := 0, slots := 0, locals := 0 }
set_option maxRecDepth 100000 in
set_option maxHeartbeats 4000000 in
theorem c_X7_keysOn (l : Launch) (E : xE) (ST : xST) (hSF : SF ST) (σ : xW) (pl : Int) (op : Int → Int) (lk : Int → Int) (kp : Int → Int) (wc : Int → Int) (pn : Int) (nw : Int) (sh : Int) (wk : Int) (sv : Bool) (re : Int) (ea : Int) (fa : Int) (ty : Int) (li : Int) (th : Int) (sz : Int) (sp : Int) (wr : Int) (to : Int) (v : Int → Int) (hr0 : mo E σ sv re ea fa ty li th sz sp wr to) (hr1 : now E σ v) (hC : Cp v op lk kp wc pn nw sh wk) (hB : BI op lk kp wc pn nw) (hp9 : rg pl) : CI l E ST yX7_keysOn wsX7_keysOn rm_X7_keysOn [.ref (xad E 85), .int (iZ pl)] σ (fun (z : Int) (u : xW) => z = cntK (fun k => kM (kp k)) pl 6 ∧ u = σ) := by
  have f85 : σ 85 = oB 5 [.ref (xad E 86), .ref (xad E 87), .ref (xad E 88), .ref (xad E 89), .ref (xad E 90), .int (iZ (b2 sv)), .int (iZ re), .int (iZ ea), .int (iZ fa), .ref (xad E 91), .ref (xad E 92), .ref (xad E 93), .int (iZ ty), .ref (xad E 94), .int (iZ li), .int (iZ th), .int (iZ sz), .int (iZ sp), .int (iZ wr), .int (iZ to), .ref (xad E 95)] := hr0
  have f86 : σ 86 = aI E 87 v := hr1
  refine CI_of (by decide) rfl (Nat.le_of_ble_eq_true rfl) ?_
  intro p e s m args below meth c Q ls G hH hl hQ
  obtain ⟨hx, hb, hml, hown, hts, hK, hST, hlocks, hr, hno⟩ := G
  have hOK := hSF.1
  have hown : s.vm.findClass RX7 = some m.cls := hown
  have hl : lv_has ls 4 [(0, .ref (xad E 85)), (1, .int (iZ pl))] := hl
  have hinX7 : ∀ w ∈ u_ws RX7 TX7 21, w ∈ wsX7_keysOn := fun w h => (List.mem_cons_of_mem _ (List.mem_append_right _ h))
  obtain ⟨hop, hlk, hkp, hwc, hpn, hnw⟩ := id hB
  have hvR := hC.R
  have hv0 := hC.1.1
  refine x_iconst hx hb dX7_keysOn_0 ?_
  refine lv_istore_n (lv' := [(2, .int (iZ 0)), (0, .ref (xad E 85)), (1, .int (iZ pl))]) hx hb dX7_keysOn_1 rfl hl (by decide) rfl (fun ls hl => ?_)
  refine x_iconst hx hb dX7_keysOn_2 ?_
  refine lv_istore_n (lv' := [(3, .int (iZ 0)), (2, .int (iZ 0)), (0, .ref (xad E 85)), (1, .int (iZ pl))]) hx hb dX7_keysOn_3 rfl hl (by decide) rfl (fun ls hl => ?_)
  have K4 : ∀ (nK : Nat) (cnt i : Int) (H : Heap) (locs : List Loc) (ls : Array Slot), (6 - i).toNat < nK → (0 ≤ i ∧ i ≤ 6) → (cnt = cntK (fun k => kM (kp k)) pl i) → (0 ≤ cnt ∧ cnt ≤ i) → Hx E (xA E s.heap.size) s.heap σ H locs → lv_has ls 4 [(3, .int (iZ i)), (2, .int (iZ cnt)), (0, .ref (xad E 85)), (1, .int (iZ pl))] → W p l e rm_X7_keysOn s m args below meth c H locs 0 0 Q (F0 m 4 ls []) := by
    intro n4
    induction n4 with
    | zero =>
      intro cnt i H locs ls hm
      exact absurd hm (by first | exact Nat.not_lt_zero _ | omega)
    | succ n4 ih4 =>
      intro cnt i H locs ls hm4 hi hcnt hcb  hH hl
      refine lv_iload_n hx hb dX7_keysOn_4 rfl (lv_at hl 0 rfl) ?_
      refine x_bipush hx hb dX7_keysOn_5 (by decide) ?_
      refine x_icmp_ge (tgt := 36) hx hb dX7_keysOn_7 (by decide) (by omega) (by decide) (fun c7 => ?_) (fun c7 => ?_)
      · refine lv_iload_n hx hb dX7_keysOn_36 rfl (lv_at hl 1 rfl) ?_
        subst hQ
        exact x_iret hx hb hr hlocks hH (Nat.le_of_ble_eq_true rfl) (Nat.le_of_ble_eq_true rfl) ⟨(show cnt = (cntK (fun k => kM (kp k)) pl 6) from (by have e9 : i = 6 := (by omega); subst e9; exact hcnt)), rfl⟩ dX7_keysOn_37
      · refine lv_iload_n hx hb dX7_keysOn_10 rfl (lv_at hl 1 rfl) ?_
        refine lv_aload_n hx hb dX7_keysOn_11 rfl (lv_at hl 2 rfl) ?_
        refine x_get hx hb hts hown hK hH 85 (by decide) f85 hinX7 rfl 0 (by decide) (List.mem_of_getElem? (i := 1) rfl) rfl dX7_keysOn_12 ?_
        refine x_iconst hx hb dX7_keysOn_15 ?_
        refine lv_iload_n hx hb dX7_keysOn_16 rfl (lv_at hl 0 rfl) ?_
        refine x_iadd hx hb dX7_keysOn_17 ?_
        have hvk := hC.key (k := i) (by omega) (by omega)
        refine x_iald hx hb hK hH 86 (by decide) f86 (by omega) (by omega) (by omega) dX7_keysOn_18 ?_
        have hv2 := hvR (3 + i)
        refine lv_iload_n hx hb dX7_keysOn_19 rfl (lv_at hl 3 rfl) ?_
        refine x_icmp_ne (tgt := 27) hx hb dX7_keysOn_20 (by decide) (by omega) (by omega) (fun c20 => ?_) (fun c20 => ?_)
        · refine x_iconst hx hb dX7_keysOn_27 ?_
          refine x_iadd hx hb dX7_keysOn_28 ?_
          refine lv_istore_n (lv' := [(2, .int (iZ (cnt + 0))), (3, .int (iZ i)), (0, .ref (xad E 85)), (1, .int (iZ pl))]) hx hb dX7_keysOn_29 rfl hl (by decide) rfl (fun ls hl => ?_)
          refine x_iinc (lv' := [(3, .int (iZ (i + 1))), (2, .int (iZ (cnt + 0))), (0, .ref (xad E 85)), (1, .int (iZ pl))]) hx hb dX7_keysOn_30 hl (k := 1) rfl (by decide) rfl (fun ls hl => ?_)
          refine lv_goto (tgt := 4) hx hb dX7_keysOn_33 (by decide) ?_
          exact ih4 (cnt + 0) (i + 1) _ _ _ (by omega) (by omega) (by rw [cntK_s (by omega), ← hcnt, ← hvk]; first | rw [if_pos c20] | rw [if_neg c20]) (by omega)  hH (lv_sub hl [0, 1, 2, 3] rfl)
        · refine x_iconst hx hb dX7_keysOn_23 ?_
          refine lv_goto (tgt := 28) hx hb dX7_keysOn_24 (by decide) ?_
          refine x_iadd hx hb dX7_keysOn_28 ?_
          refine lv_istore_n (lv' := [(2, .int (iZ (cnt + 1))), (3, .int (iZ i)), (0, .ref (xad E 85)), (1, .int (iZ pl))]) hx hb dX7_keysOn_29 rfl hl (by decide) rfl (fun ls hl => ?_)
          refine x_iinc (lv' := [(3, .int (iZ (i + 1))), (2, .int (iZ (cnt + 1))), (0, .ref (xad E 85)), (1, .int (iZ pl))]) hx hb dX7_keysOn_30 hl (k := 1) rfl (by decide) rfl (fun ls hl => ?_)
          refine lv_goto (tgt := 4) hx hb dX7_keysOn_33 (by decide) ?_
          exact ih4 (cnt + 1) (i + 1) _ _ _ (by omega) (by omega) (by rw [cntK_s (by omega), ← hcnt, ← hvk]; first | rw [if_pos c20] | rw [if_neg c20]) (by omega)  hH (lv_sub hl [0, 1, 2, 3] rfl)
  exact K4 7 0 0 _ _ _ (by first | omega | decide) (by omega) (by rfl) (by omega)  hH (lv_sub hl [0, 1, 2, 3] rfl)

def rm_X7_standing : Room := { frames := 2, cells := 0, slots := 0, locals := 43 }
set_option maxRecDepth 100000 in
set_option maxHeartbeats 4000000 in
theorem c_X7_standing (l : Launch) (E : xE) (ST : xST) (hSF : SF ST) (σ : xW) (w : Int) (op : Int → Int) (lk : Int → Int) (kp : Int → Int) (wc : Int → Int) (pn : Int) (nw : Int) (sh : Int) (wk : Int) (sv : Bool) (re : Int) (ea : Int) (fa : Int) (ty : Int) (li : Int) (th : Int) (sz : Int) (sp : Int) (wr : Int) (to : Int) (v : Int → Int) (hr0 : mo E σ sv re ea fa ty li th sz sp wr to) (hr1 : now E σ v) (hC : Cp v op lk kp wc pn nw sh wk) (hB : BI op lk kp wc pn nw) (hw9 : rg w) : CI l E ST yX7_standing wsX7_standing rm_X7_standing [.ref (xad E 85), .int (iZ w)] σ (fun (z : Int) (u : xW) => z = (if 0 ≤ w ∧ w < nw then wc w else v 9) ∧ u = σ) := by
  have f85 : σ 85 = oB 5 [.ref (xad E 86), .ref (xad E 87), .ref (xad E 88), .ref (xad E 89), .ref (xad E 90), .int (iZ (b2 sv)), .int (iZ re), .int (iZ ea), .int (iZ fa), .ref (xad E 91), .ref (xad E 92), .ref (xad E 93), .int (iZ ty), .ref (xad E 94), .int (iZ li), .int (iZ th), .int (iZ sz), .int (iZ sp), .int (iZ wr), .int (iZ to), .ref (xad E 95)] := hr0
  have f86 : σ 86 = aI E 87 v := hr1
  refine CI_of (by decide) rfl (Nat.le_of_ble_eq_true rfl) ?_
  intro p e s m args below meth c Q ls G hH hl hQ
  obtain ⟨hx, hb, hml, hown, hts, hK, hST, hlocks, hr, hno⟩ := G
  have hOK := hSF.1
  have hown : s.vm.findClass RX7 = some m.cls := hown
  have hl : lv_has ls 2 [(0, .ref (xad E 85)), (1, .int (iZ w))] := hl
  have hinX7 : ∀ w ∈ u_ws RX7 TX7 21, w ∈ wsX7_standing := fun w h => (List.mem_cons_of_mem _ (List.mem_append_right _ h))
  obtain ⟨hop, hlk, hkp, hwc, hpn, hnw⟩ := id hB
  have hvR := hC.R
  have hv0 := hC.1.1
  refine lv_aload_n hx hb dX7_standing_0 rfl (lv_at hl 0 rfl) ?_
  refine x_get hx hb hts hown hK hH 85 (by decide) f85 hinX7 rfl 0 (by decide) (List.mem_of_getElem? (i := 1) rfl) rfl dX7_standing_1 ?_
  refine x_bipush hx hb dX7_standing_4 (by decide) ?_
  refine lv_aload_n hx hb dX7_standing_6 rfl (lv_at hl 0 rfl) ?_
  refine lv_iload_n hx hb dX7_standing_7 rfl (lv_at hl 1 rfl) ?_
  refine x_cVID (As := [.int (iZ w)]) (rest := [.int (iZ 9), .ref (xad E 86)]) hx hb hml hts hown hK hST hOK hH 85 (c_X7_isWalker l E ST hSF σ w op lk kp wc pn nw sh wk sv re ea fa ty li th sz sp wr to v f85 f86 (by assumption) (by omega) (by omega)) (cwV 1 hts gX7_standing_X7_isWalker rfl rfl rfl (by decide +kernel) ⟨Nat.le_of_ble_eq_true rfl, Nat.le_of_ble_eq_true rfl⟩) (by decide) f85 rfl rfl hl.1 rfl (Nat.le_of_ble_eq_true rfl) dX7_standing_8 ⟨Nat.le_of_ble_eq_true rfl, Nat.le_of_ble_eq_true rfl⟩ (fun z u h => h) (fun H locs hH => ?_)
  refine x_ifb_eq (tgt := 18) hx hb dX7_standing_11 (by decide) (fun c11 => ?_) (fun c11 => ?_)
  · have c11 := of_decide_eq_false c11
    refine x_iconst hx hb dX7_standing_18 ?_
    refine x_iadd hx hb dX7_standing_19 ?_
    refine x_iald hx hb hK hH 86 (by decide) f86 (by omega) (by omega) (by omega) dX7_standing_20 ?_
    have hv4 := hvR (9 + 0)
    subst hQ
    exact x_iret hx hb hr hlocks hH (Nat.le_of_ble_eq_true rfl) (Nat.le_of_ble_eq_true rfl) ⟨(show (v (9 + 0)) = (if 0 ≤ w ∧ w < nw then wc w else v 9) from (by first | (rw [if_pos c11]; exact hC.wal c11.1 c11.2) | (rw [if_neg c11]; rfl))), rfl⟩ dX7_standing_21
  · have c11 := of_decide_eq_true c11
    refine lv_iload_n hx hb dX7_standing_14 rfl (lv_at hl 1 rfl) ?_
    refine lv_goto (tgt := 19) hx hb dX7_standing_15 (by decide) ?_
    refine x_iadd hx hb dX7_standing_19 ?_
    refine x_iald hx hb hK hH 86 (by decide) f86 (by omega) (by omega) (by omega) dX7_standing_20 ?_
    have hv5 := hvR (9 + w)
    subst hQ
    exact x_iret hx hb hr hlocks hH (Nat.le_of_ble_eq_true rfl) (Nat.le_of_ble_eq_true rfl) ⟨(show (v (9 + w)) = (if 0 ≤ w ∧ w < nw then wc w else v 9) from (by first | (rw [if_pos c11]; exact hC.wal c11.1 c11.2) | (rw [if_neg c11]; rfl))), rfl⟩ dX7_standing_21

def rm_X7_tilesWith : Room := { frames := 2, cells := 0, slots := 0, locals := 42 }
set_option maxRecDepth 100000 in
set_option maxHeartbeats 4000000 in
theorem c_X7_tilesWith (l : Launch) (E : xE) (ST : xST) (hSF : SF ST) (σ : xW) (its : Int) (lea : Int) (sv : Bool) (re : Int) (ea : Int) (fa : Int) (ty : Int) (li : Int) (th : Int) (sz : Int) (sp : Int) (wr : Int) (to : Int) (v : Int → Int) (hr0 : mo E σ sv re ea fa ty li th sz sp wr to) (hr1 : now E σ v) (hi9 : 0 ≤ its ∧ its ≤ 2) (hl9 : rg lea) (hvR : ∀ j : Int, rg (v j)) : CI l E ST yX7_tilesWith wsX7_tilesWith rm_X7_tilesWith [.ref (xad E 85), .int (iZ its), .int (iZ lea)] σ (fun (z : Int) (u : xW) => z = cnbK (fun c => decide (lea ≤ v (12 + 3 * c + its))) 25 ∧ u = σ) := by
  have f85 : σ 85 = oB 5 [.ref (xad E 86), .ref (xad E 87), .ref (xad E 88), .ref (xad E 89), .ref (xad E 90), .int (iZ (b2 sv)), .int (iZ re), .int (iZ ea), .int (iZ fa), .ref (xad E 91), .ref (xad E 92), .ref (xad E 93), .int (iZ ty), .ref (xad E 94), .int (iZ li), .int (iZ th), .int (iZ sz), .int (iZ sp), .int (iZ wr), .int (iZ to), .ref (xad E 95)] := hr0
  have f86 : σ 86 = aI E 87 v := hr1
  refine CI_of (by decide) rfl (Nat.le_of_ble_eq_true rfl) ?_
  intro p e s m args below meth c Q ls G hH hl hQ
  obtain ⟨hx, hb, hml, hown, hts, hK, hST, hlocks, hr, hno⟩ := G
  have hOK := hSF.1
  have hown : s.vm.findClass RX7 = some m.cls := hown
  have hl : lv_has ls 5 [(0, .ref (xad E 85)), (1, .int (iZ its)), (2, .int (iZ lea))] := hl
  refine x_iconst hx hb dX7_tilesWith_0 ?_
  refine lv_istore_n (lv' := [(3, .int (iZ 0)), (0, .ref (xad E 85)), (1, .int (iZ its)), (2, .int (iZ lea))]) hx hb dX7_tilesWith_1 rfl hl (by decide) rfl (fun ls hl => ?_)
  refine x_iconst hx hb dX7_tilesWith_2 ?_
  refine lv_istore (lv' := [(4, .int (iZ 0)), (3, .int (iZ 0)), (0, .ref (xad E 85)), (1, .int (iZ its)), (2, .int (iZ lea))]) hx hb dX7_tilesWith_3 hl (by decide) rfl (fun ls hl => ?_)
  have K5 : ∀ (nK : Nat) (cnt i : Int) (H : Heap) (locs : List Loc) (ls : Array Slot), (25 - i).toNat < nK → (0 ≤ i ∧ i ≤ 25) → (cnt = cnbK (fun c => decide (lea ≤ v (12 + 3 * c + its))) i) → (0 ≤ cnt ∧ cnt ≤ i) → Hx E (xA E s.heap.size) s.heap σ H locs → lv_has ls 5 [(4, .int (iZ i)), (3, .int (iZ cnt)), (0, .ref (xad E 85)), (1, .int (iZ its)), (2, .int (iZ lea))] → W p l e rm_X7_tilesWith s m args below meth c H locs 0 0 Q (F0 m 5 ls []) := by
    intro n5
    induction n5 with
    | zero =>
      intro cnt i H locs ls hm
      exact absurd hm (by first | exact Nat.not_lt_zero _ | omega)
    | succ n5 ih5 =>
      intro cnt i H locs ls hm5 hi hcnt hcb  hH hl
      refine lv_iload hx hb dX7_tilesWith_5 (lv_at hl 0 rfl) ?_
      refine x_bipush hx hb dX7_tilesWith_7 (by decide) ?_
      refine x_icmp_ge (tgt := 37) hx hb dX7_tilesWith_9 (by decide) (by omega) (by decide) (fun c9 => ?_) (fun c9 => ?_)
      · refine lv_iload_n hx hb dX7_tilesWith_37 rfl (lv_at hl 1 rfl) ?_
        subst hQ
        exact x_iret hx hb hr hlocks hH (Nat.le_of_ble_eq_true rfl) (Nat.le_of_ble_eq_true rfl) ⟨(show cnt = (cnbK (fun c => decide (lea ≤ v (12 + 3 * c + its))) 25) from (by have e9 : i = 25 := (by omega); subst e9; exact hcnt)), rfl⟩ dX7_tilesWith_38
      · refine lv_iload_n hx hb dX7_tilesWith_12 rfl (lv_at hl 1 rfl) ?_
        refine lv_aload_n hx hb dX7_tilesWith_13 rfl (lv_at hl 2 rfl) ?_
        refine lv_iload hx hb dX7_tilesWith_14 (lv_at hl 0 rfl) ?_
        refine lv_iload_n hx hb dX7_tilesWith_16 rfl (lv_at hl 3 rfl) ?_
        refine x_cVID (As := [.int (iZ i), .int (iZ its)]) (rest := [.int (iZ cnt)]) hx hb hml hts hown hK hST hOK hH 85 (c_X7_of l E ST hSF σ i its sv re ea fa ty li th sz sp wr to v f85 f86 (by omega) (by omega)) (cwV 2 hts gX7_tilesWith_X7_of rfl rfl rfl (by decide +kernel) ⟨Nat.le_of_ble_eq_true rfl, Nat.le_of_ble_eq_true rfl⟩) (by decide) f85 rfl rfl hl.1 rfl (Nat.le_of_ble_eq_true rfl) dX7_tilesWith_17 ⟨Nat.le_of_ble_eq_true rfl, Nat.le_of_ble_eq_true rfl⟩ (fun z u h => h) (fun H locs hH => ?_)
        have hvx := hvR (12 + 3 * i + its)
        refine lv_iload_n hx hb dX7_tilesWith_20 rfl (lv_at hl 4 rfl) ?_
        refine x_icmp_lt (tgt := 28) hx hb dX7_tilesWith_21 (by decide) (by omega) (by omega) (fun c21 => ?_) (fun c21 => ?_)
        · refine x_iconst hx hb dX7_tilesWith_28 ?_
          refine x_iadd hx hb dX7_tilesWith_29 ?_
          refine lv_istore_n (lv' := [(3, .int (iZ (cnt + 0))), (4, .int (iZ i)), (0, .ref (xad E 85)), (1, .int (iZ its)), (2, .int (iZ lea))]) hx hb dX7_tilesWith_30 rfl hl (by decide) rfl (fun ls hl => ?_)
          refine x_iinc (lv' := [(4, .int (iZ (i + 1))), (3, .int (iZ (cnt + 0))), (0, .ref (xad E 85)), (1, .int (iZ its)), (2, .int (iZ lea))]) hx hb dX7_tilesWith_31 hl (k := 1) rfl (by decide) rfl (fun ls hl => ?_)
          refine lv_goto (tgt := 5) hx hb dX7_tilesWith_34 (by decide) ?_
          exact ih5 (cnt + 0) (i + 1) _ _ _ (by omega) (by omega) (by rw [cnbK_s (by omega), ← hcnt, b2_dec]; first | rw [if_pos (by omega)] | rw [if_neg (by omega)]) (by omega)  hH (lv_sub hl [0, 1, 2, 3, 4] rfl)
        · refine x_iconst hx hb dX7_tilesWith_24 ?_
          refine lv_goto (tgt := 29) hx hb dX7_tilesWith_25 (by decide) ?_
          refine x_iadd hx hb dX7_tilesWith_29 ?_
          refine lv_istore_n (lv' := [(3, .int (iZ (cnt + 1))), (4, .int (iZ i)), (0, .ref (xad E 85)), (1, .int (iZ its)), (2, .int (iZ lea))]) hx hb dX7_tilesWith_30 rfl hl (by decide) rfl (fun ls hl => ?_)
          refine x_iinc (lv' := [(4, .int (iZ (i + 1))), (3, .int (iZ (cnt + 1))), (0, .ref (xad E 85)), (1, .int (iZ its)), (2, .int (iZ lea))]) hx hb dX7_tilesWith_31 hl (k := 1) rfl (by decide) rfl (fun ls hl => ?_)
          refine lv_goto (tgt := 5) hx hb dX7_tilesWith_34 (by decide) ?_
          exact ih5 (cnt + 1) (i + 1) _ _ _ (by omega) (by omega) (by rw [cnbK_s (by omega), ← hcnt, b2_dec]; first | rw [if_pos (by omega)] | rw [if_neg (by omega)]) (by omega)  hH (lv_sub hl [0, 1, 2, 3, 4] rfl)
  exact K5 26 0 0 _ _ _ (by first | omega | decide) (by omega) (by rfl) (by omega)  hH (lv_sub hl [0, 1, 2, 3, 4] rfl)

def rm_X7_beside : Room := { frames := 3, cells := 0, slots := 0, locals := 63 }
set_option maxRecDepth 100000 in
set_option maxHeartbeats 4000000 in
theorem c_X7_beside (l : Launch) (E : xE) (ST : xST) (hSF : SF ST) (σ : xW) (ce : Int) (d : Int) (hc : 0 ≤ ce ∧ ce ≤ 24) (hd : 0 ≤ d ∧ d ≤ 3) : CI l E ST yX7_beside wsX7_beside rm_X7_beside [.int (iZ ce), .int (iZ d)] σ (fun (z : Int) (u : xW) => z = nbZ ce d ∧ u = σ) := by
  refine CI_of (by decide) rfl (Nat.le_of_ble_eq_true rfl) ?_
  intro p e s m args below meth c Q ls G hH hl hQ
  obtain ⟨hx, hb, hml, hown, hts, hK, hST, hlocks, hr, hno⟩ := G
  have hOK := hSF.1
  have hown : s.vm.findClass RX7 = some m.cls := hown
  have hl : lv_has ls 4 [(0, .int (iZ ce)), (1, .int (iZ d))] := hl
  refine lv_iload_n hx hb dX7_beside_0 rfl (lv_at hl 0 rfl) ?_
  refine x_iconst hx hb dX7_beside_1 ?_
  refine x_idiv hx hb dX7_beside_2 (by omega) (by omega) (by omega) (by omega) ?_
  refine lv_iload_n hx hb dX7_beside_3 rfl (lv_at hl 1 rfl) ?_
  refine x_if_ne (tgt := 11) hx hb dX7_beside_4 (by decide) (by omega) (fun c4 => ?_) (fun c4 => ?_)
  · refine lv_iload_n hx hb dX7_beside_11 rfl (lv_at hl 1 rfl) ?_
    refine x_iconst hx hb dX7_beside_12 ?_
    refine x_icmp_ne (tgt := 20) hx hb dX7_beside_13 (by decide) (by omega) (by decide) (fun c13 => ?_) (fun c13 => ?_)
    · refine x_iconst hx hb dX7_beside_20 ?_
      refine x_iadd hx hb dX7_beside_21 ?_
      refine lv_istore_n (lv' := [(2, .int (iZ ((ce / 5) + 0))), (0, .int (iZ ce)), (1, .int (iZ d))]) hx hb dX7_beside_22 rfl hl (by decide) rfl (fun ls hl => ?_)
      refine lv_iload_n hx hb dX7_beside_23 rfl (lv_at hl 1 rfl) ?_
      refine x_iconst hx hb dX7_beside_24 ?_
      refine x_irem hx hb dX7_beside_25 (by omega) (by omega) (by omega) (by omega) ?_
      refine lv_iload_n hx hb dX7_beside_26 rfl (lv_at hl 2 rfl) ?_
      refine x_iconst hx hb dX7_beside_27 ?_
      refine x_icmp_ne (tgt := 35) hx hb dX7_beside_28 (by decide) (by omega) (by decide) (fun c28 => ?_) (fun c28 => ?_)
      · refine lv_iload_n hx hb dX7_beside_35 rfl (lv_at hl 2 rfl) ?_
        refine x_iconst hx hb dX7_beside_36 ?_
        refine x_icmp_ne (tgt := 44) hx hb dX7_beside_37 (by decide) (by omega) (by decide) (fun c37 => ?_) (fun c37 => ?_)
        · refine x_iconst hx hb dX7_beside_44 ?_
          refine x_iadd hx hb dX7_beside_45 ?_
          refine lv_istore_n (lv' := [(3, .int (iZ ((ce % 5) + 0))), (2, .int (iZ ((ce / 5) + 0))), (0, .int (iZ ce)), (1, .int (iZ d))]) hx hb dX7_beside_46 rfl hl (by decide) rfl (fun ls hl => ?_)
          refine lv_iload_n hx hb dX7_beside_47 rfl (lv_at hl 1 rfl) ?_
          refine lv_iload_n hx hb dX7_beside_48 rfl (lv_at hl 0 rfl) ?_
          refine x_cSID (As := [.int (iZ ((ce / 5) + 0)), .int (iZ ((ce % 5) + 0))]) (rest := []) hx hb hml hts hown hK hST hOK hH (c_X7_isCell l E ST hSF σ ((ce / 5) + 0) ((ce % 5) + 0)  (by omega) (by omega)) (va_cwS 2 hts gX7_beside_X7_isCell rfl rfl rfl (by decide +kernel) ⟨Nat.le_of_ble_eq_true rfl, Nat.le_of_ble_eq_true rfl⟩) rfl hl.1 rfl (Nat.le_of_ble_eq_true rfl) dX7_beside_49 ⟨Nat.le_of_ble_eq_true rfl, Nat.le_of_ble_eq_true rfl⟩ (fun z u h => h) (fun H locs hH => ?_)
          refine x_ifb_eq (tgt := 63) hx hb dX7_beside_52 (by decide) (fun c52 => ?_) (fun c52 => ?_)
          · have c52 := of_decide_eq_false c52
            refine x_iconst hx hb dX7_beside_63 ?_
            subst hQ
            exact x_iret hx hb hr hlocks hH (Nat.le_of_ble_eq_true rfl) (Nat.le_of_ble_eq_true rfl) ⟨(show (-1) = (nbZ ce d) from (by unfold nbZ; (repeat' split) <;> omega)), rfl⟩ dX7_beside_64
          · have c52 := of_decide_eq_true c52
            refine x_iconst hx hb dX7_beside_55 ?_
            refine lv_iload_n hx hb dX7_beside_56 rfl (lv_at hl 1 rfl) ?_
            refine x_imul hx hb dX7_beside_57 ?_
            refine lv_iload_n hx hb dX7_beside_58 rfl (lv_at hl 0 rfl) ?_
            refine x_iadd hx hb dX7_beside_59 ?_
            refine lv_goto (tgt := 64) hx hb dX7_beside_60 (by decide) ?_
            subst hQ
            exact x_iret hx hb hr hlocks hH (Nat.le_of_ble_eq_true rfl) (Nat.le_of_ble_eq_true rfl) ⟨(show ((5 * ((ce / 5) + 0)) + ((ce % 5) + 0)) = (nbZ ce d) from (by unfold nbZ; (repeat' split) <;> omega)), rfl⟩ dX7_beside_64
        · refine x_iconst hx hb dX7_beside_40 ?_
          refine lv_goto (tgt := 45) hx hb dX7_beside_41 (by decide) ?_
          refine x_iadd hx hb dX7_beside_45 ?_
          refine lv_istore_n (lv' := [(3, .int (iZ ((ce % 5) + (-1)))), (2, .int (iZ ((ce / 5) + 0))), (0, .int (iZ ce)), (1, .int (iZ d))]) hx hb dX7_beside_46 rfl hl (by decide) rfl (fun ls hl => ?_)
          refine lv_iload_n hx hb dX7_beside_47 rfl (lv_at hl 1 rfl) ?_
          refine lv_iload_n hx hb dX7_beside_48 rfl (lv_at hl 0 rfl) ?_
          refine x_cSID (As := [.int (iZ ((ce / 5) + 0)), .int (iZ ((ce % 5) + (-1)))]) (rest := []) hx hb hml hts hown hK hST hOK hH (c_X7_isCell l E ST hSF σ ((ce / 5) + 0) ((ce % 5) + (-1))  (by omega) (by omega)) (va_cwS 2 hts gX7_beside_X7_isCell rfl rfl rfl (by decide +kernel) ⟨Nat.le_of_ble_eq_true rfl, Nat.le_of_ble_eq_true rfl⟩) rfl hl.1 rfl (Nat.le_of_ble_eq_true rfl) dX7_beside_49 ⟨Nat.le_of_ble_eq_true rfl, Nat.le_of_ble_eq_true rfl⟩ (fun z u h => h) (fun H locs hH => ?_)
          refine x_ifb_eq (tgt := 63) hx hb dX7_beside_52 (by decide) (fun c52 => ?_) (fun c52 => ?_)
          · have c52 := of_decide_eq_false c52
            refine x_iconst hx hb dX7_beside_63 ?_
            subst hQ
            exact x_iret hx hb hr hlocks hH (Nat.le_of_ble_eq_true rfl) (Nat.le_of_ble_eq_true rfl) ⟨(show (-1) = (nbZ ce d) from (by unfold nbZ; (repeat' split) <;> omega)), rfl⟩ dX7_beside_64
          · have c52 := of_decide_eq_true c52
            refine x_iconst hx hb dX7_beside_55 ?_
            refine lv_iload_n hx hb dX7_beside_56 rfl (lv_at hl 1 rfl) ?_
            refine x_imul hx hb dX7_beside_57 ?_
            refine lv_iload_n hx hb dX7_beside_58 rfl (lv_at hl 0 rfl) ?_
            refine x_iadd hx hb dX7_beside_59 ?_
            refine lv_goto (tgt := 64) hx hb dX7_beside_60 (by decide) ?_
            subst hQ
            exact x_iret hx hb hr hlocks hH (Nat.le_of_ble_eq_true rfl) (Nat.le_of_ble_eq_true rfl) ⟨(show ((5 * ((ce / 5) + 0)) + ((ce % 5) + (-1))) = (nbZ ce d) from (by unfold nbZ; (repeat' split) <;> omega)), rfl⟩ dX7_beside_64
      · refine x_iconst hx hb dX7_beside_31 ?_
        refine lv_goto (tgt := 45) hx hb dX7_beside_32 (by decide) ?_
        refine x_iadd hx hb dX7_beside_45 ?_
        refine lv_istore_n (lv' := [(3, .int (iZ ((ce % 5) + 1))), (2, .int (iZ ((ce / 5) + 0))), (0, .int (iZ ce)), (1, .int (iZ d))]) hx hb dX7_beside_46 rfl hl (by decide) rfl (fun ls hl => ?_)
        refine lv_iload_n hx hb dX7_beside_47 rfl (lv_at hl 1 rfl) ?_
        refine lv_iload_n hx hb dX7_beside_48 rfl (lv_at hl 0 rfl) ?_
        refine x_cSID (As := [.int (iZ ((ce / 5) + 0)), .int (iZ ((ce % 5) + 1))]) (rest := []) hx hb hml hts hown hK hST hOK hH (c_X7_isCell l E ST hSF σ ((ce / 5) + 0) ((ce % 5) + 1)  (by omega) (by omega)) (va_cwS 2 hts gX7_beside_X7_isCell rfl rfl rfl (by decide +kernel) ⟨Nat.le_of_ble_eq_true rfl, Nat.le_of_ble_eq_true rfl⟩) rfl hl.1 rfl (Nat.le_of_ble_eq_true rfl) dX7_beside_49 ⟨Nat.le_of_ble_eq_true rfl, Nat.le_of_ble_eq_true rfl⟩ (fun z u h => h) (fun H locs hH => ?_)
        refine x_ifb_eq (tgt := 63) hx hb dX7_beside_52 (by decide) (fun c52 => ?_) (fun c52 => ?_)
        · have c52 := of_decide_eq_false c52
          refine x_iconst hx hb dX7_beside_63 ?_
          subst hQ
          exact x_iret hx hb hr hlocks hH (Nat.le_of_ble_eq_true rfl) (Nat.le_of_ble_eq_true rfl) ⟨(show (-1) = (nbZ ce d) from (by unfold nbZ; (repeat' split) <;> omega)), rfl⟩ dX7_beside_64
        · have c52 := of_decide_eq_true c52
          refine x_iconst hx hb dX7_beside_55 ?_
          refine lv_iload_n hx hb dX7_beside_56 rfl (lv_at hl 1 rfl) ?_
          refine x_imul hx hb dX7_beside_57 ?_
          refine lv_iload_n hx hb dX7_beside_58 rfl (lv_at hl 0 rfl) ?_
          refine x_iadd hx hb dX7_beside_59 ?_
          refine lv_goto (tgt := 64) hx hb dX7_beside_60 (by decide) ?_
          subst hQ
          exact x_iret hx hb hr hlocks hH (Nat.le_of_ble_eq_true rfl) (Nat.le_of_ble_eq_true rfl) ⟨(show ((5 * ((ce / 5) + 0)) + ((ce % 5) + 1)) = (nbZ ce d) from (by unfold nbZ; (repeat' split) <;> omega)), rfl⟩ dX7_beside_64
    · refine x_iconst hx hb dX7_beside_16 ?_
      refine lv_goto (tgt := 21) hx hb dX7_beside_17 (by decide) ?_
      refine x_iadd hx hb dX7_beside_21 ?_
      refine lv_istore_n (lv' := [(2, .int (iZ ((ce / 5) + 1))), (0, .int (iZ ce)), (1, .int (iZ d))]) hx hb dX7_beside_22 rfl hl (by decide) rfl (fun ls hl => ?_)
      refine lv_iload_n hx hb dX7_beside_23 rfl (lv_at hl 1 rfl) ?_
      refine x_iconst hx hb dX7_beside_24 ?_
      refine x_irem hx hb dX7_beside_25 (by omega) (by omega) (by omega) (by omega) ?_
      refine lv_iload_n hx hb dX7_beside_26 rfl (lv_at hl 2 rfl) ?_
      refine x_iconst hx hb dX7_beside_27 ?_
      refine x_icmp_ne (tgt := 35) hx hb dX7_beside_28 (by decide) (by omega) (by decide) (fun c28 => ?_) (fun c28 => ?_)
      · refine lv_iload_n hx hb dX7_beside_35 rfl (lv_at hl 2 rfl) ?_
        refine x_iconst hx hb dX7_beside_36 ?_
        refine x_icmp_ne (tgt := 44) hx hb dX7_beside_37 (by decide) (by omega) (by decide) (fun c37 => ?_) (fun c37 => ?_)
        · refine x_iconst hx hb dX7_beside_44 ?_
          refine x_iadd hx hb dX7_beside_45 ?_
          refine lv_istore_n (lv' := [(3, .int (iZ ((ce % 5) + 0))), (2, .int (iZ ((ce / 5) + 1))), (0, .int (iZ ce)), (1, .int (iZ d))]) hx hb dX7_beside_46 rfl hl (by decide) rfl (fun ls hl => ?_)
          refine lv_iload_n hx hb dX7_beside_47 rfl (lv_at hl 1 rfl) ?_
          refine lv_iload_n hx hb dX7_beside_48 rfl (lv_at hl 0 rfl) ?_
          refine x_cSID (As := [.int (iZ ((ce / 5) + 1)), .int (iZ ((ce % 5) + 0))]) (rest := []) hx hb hml hts hown hK hST hOK hH (c_X7_isCell l E ST hSF σ ((ce / 5) + 1) ((ce % 5) + 0)  (by omega) (by omega)) (va_cwS 2 hts gX7_beside_X7_isCell rfl rfl rfl (by decide +kernel) ⟨Nat.le_of_ble_eq_true rfl, Nat.le_of_ble_eq_true rfl⟩) rfl hl.1 rfl (Nat.le_of_ble_eq_true rfl) dX7_beside_49 ⟨Nat.le_of_ble_eq_true rfl, Nat.le_of_ble_eq_true rfl⟩ (fun z u h => h) (fun H locs hH => ?_)
          refine x_ifb_eq (tgt := 63) hx hb dX7_beside_52 (by decide) (fun c52 => ?_) (fun c52 => ?_)
          · have c52 := of_decide_eq_false c52
            refine x_iconst hx hb dX7_beside_63 ?_
            subst hQ
            exact x_iret hx hb hr hlocks hH (Nat.le_of_ble_eq_true rfl) (Nat.le_of_ble_eq_true rfl) ⟨(show (-1) = (nbZ ce d) from (by unfold nbZ; (repeat' split) <;> omega)), rfl⟩ dX7_beside_64
          · have c52 := of_decide_eq_true c52
            refine x_iconst hx hb dX7_beside_55 ?_
            refine lv_iload_n hx hb dX7_beside_56 rfl (lv_at hl 1 rfl) ?_
            refine x_imul hx hb dX7_beside_57 ?_
            refine lv_iload_n hx hb dX7_beside_58 rfl (lv_at hl 0 rfl) ?_
            refine x_iadd hx hb dX7_beside_59 ?_
            refine lv_goto (tgt := 64) hx hb dX7_beside_60 (by decide) ?_
            subst hQ
            exact x_iret hx hb hr hlocks hH (Nat.le_of_ble_eq_true rfl) (Nat.le_of_ble_eq_true rfl) ⟨(show ((5 * ((ce / 5) + 1)) + ((ce % 5) + 0)) = (nbZ ce d) from (by unfold nbZ; (repeat' split) <;> omega)), rfl⟩ dX7_beside_64
        · refine x_iconst hx hb dX7_beside_40 ?_
          refine lv_goto (tgt := 45) hx hb dX7_beside_41 (by decide) ?_
          refine x_iadd hx hb dX7_beside_45 ?_
          refine lv_istore_n (lv' := [(3, .int (iZ ((ce % 5) + (-1)))), (2, .int (iZ ((ce / 5) + 1))), (0, .int (iZ ce)), (1, .int (iZ d))]) hx hb dX7_beside_46 rfl hl (by decide) rfl (fun ls hl => ?_)
          refine lv_iload_n hx hb dX7_beside_47 rfl (lv_at hl 1 rfl) ?_
          refine lv_iload_n hx hb dX7_beside_48 rfl (lv_at hl 0 rfl) ?_
          refine x_cSID (As := [.int (iZ ((ce / 5) + 1)), .int (iZ ((ce % 5) + (-1)))]) (rest := []) hx hb hml hts hown hK hST hOK hH (c_X7_isCell l E ST hSF σ ((ce / 5) + 1) ((ce % 5) + (-1))  (by omega) (by omega)) (va_cwS 2 hts gX7_beside_X7_isCell rfl rfl rfl (by decide +kernel) ⟨Nat.le_of_ble_eq_true rfl, Nat.le_of_ble_eq_true rfl⟩) rfl hl.1 rfl (Nat.le_of_ble_eq_true rfl) dX7_beside_49 ⟨Nat.le_of_ble_eq_true rfl, Nat.le_of_ble_eq_true rfl⟩ (fun z u h => h) (fun H locs hH => ?_)
          refine x_ifb_eq (tgt := 63) hx hb dX7_beside_52 (by decide) (fun c52 => ?_) (fun c52 => ?_)
          · have c52 := of_decide_eq_false c52
            refine x_iconst hx hb dX7_beside_63 ?_
            subst hQ
            exact x_iret hx hb hr hlocks hH (Nat.le_of_ble_eq_true rfl) (Nat.le_of_ble_eq_true rfl) ⟨(show (-1) = (nbZ ce d) from (by unfold nbZ; (repeat' split) <;> omega)), rfl⟩ dX7_beside_64
          · have c52 := of_decide_eq_true c52
            refine x_iconst hx hb dX7_beside_55 ?_
            refine lv_iload_n hx hb dX7_beside_56 rfl (lv_at hl 1 rfl) ?_
            refine x_imul hx hb dX7_beside_57 ?_
            refine lv_iload_n hx hb dX7_beside_58 rfl (lv_at hl 0 rfl) ?_
            refine x_iadd hx hb dX7_beside_59 ?_
            refine lv_goto (tgt := 64) hx hb dX7_beside_60 (by decide) ?_
            subst hQ
            exact x_iret hx hb hr hlocks hH (Nat.le_of_ble_eq_true rfl) (Nat.le_of_ble_eq_true rfl) ⟨(show ((5 * ((ce / 5) + 1)) + ((ce % 5) + (-1))) = (nbZ ce d) from (by unfold nbZ; (repeat' split) <;> omega)), rfl⟩ dX7_beside_64
      · refine x_iconst hx hb dX7_beside_31 ?_
        refine lv_goto (tgt := 45) hx hb dX7_beside_32 (by decide) ?_
        refine x_iadd hx hb dX7_beside_45 ?_
        refine lv_istore_n (lv' := [(3, .int (iZ ((ce % 5) + 1))), (2, .int (iZ ((ce / 5) + 1))), (0, .int (iZ ce)), (1, .int (iZ d))]) hx hb dX7_beside_46 rfl hl (by decide) rfl (fun ls hl => ?_)
        refine lv_iload_n hx hb dX7_beside_47 rfl (lv_at hl 1 rfl) ?_
        refine lv_iload_n hx hb dX7_beside_48 rfl (lv_at hl 0 rfl) ?_
        refine x_cSID (As := [.int (iZ ((ce / 5) + 1)), .int (iZ ((ce % 5) + 1))]) (rest := []) hx hb hml hts hown hK hST hOK hH (c_X7_isCell l E ST hSF σ ((ce / 5) + 1) ((ce % 5) + 1)  (by omega) (by omega)) (va_cwS 2 hts gX7_beside_X7_isCell rfl rfl rfl (by decide +kernel) ⟨Nat.le_of_ble_eq_true rfl, Nat.le_of_ble_eq_true rfl⟩) rfl hl.1 rfl (Nat.le_of_ble_eq_true rfl) dX7_beside_49 ⟨Nat.le_of_ble_eq_true rfl, Nat.le_of_ble_eq_true rfl⟩ (fun z u h => h) (fun H locs hH => ?_)
        refine x_ifb_eq (tgt := 63) hx hb dX7_beside_52 (by decide) (fun c52 => ?_) (fun c52 => ?_)
        · have c52 := of_decide_eq_false c52
          refine x_iconst hx hb dX7_beside_63 ?_
          subst hQ
          exact x_iret hx hb hr hlocks hH (Nat.le_of_ble_eq_true rfl) (Nat.le_of_ble_eq_true rfl) ⟨(show (-1) = (nbZ ce d) from (by unfold nbZ; (repeat' split) <;> omega)), rfl⟩ dX7_beside_64
        · have c52 := of_decide_eq_true c52
          refine x_iconst hx hb dX7_beside_55 ?_
          refine lv_iload_n hx hb dX7_beside_56 rfl (lv_at hl 1 rfl) ?_
          refine x_imul hx hb dX7_beside_57 ?_
          refine lv_iload_n hx hb dX7_beside_58 rfl (lv_at hl 0 rfl) ?_
          refine x_iadd hx hb dX7_beside_59 ?_
          refine lv_goto (tgt := 64) hx hb dX7_beside_60 (by decide) ?_
          subst hQ
          exact x_iret hx hb hr hlocks hH (Nat.le_of_ble_eq_true rfl) (Nat.le_of_ble_eq_true rfl) ⟨(show ((5 * ((ce / 5) + 1)) + ((ce % 5) + 1)) = (nbZ ce d) from (by unfold nbZ; (repeat' split) <;> omega)), rfl⟩ dX7_beside_64
  · refine x_iconst hx hb dX7_beside_7 ?_
    refine lv_goto (tgt := 21) hx hb dX7_beside_8 (by decide) ?_
    refine x_iadd hx hb dX7_beside_21 ?_
    refine lv_istore_n (lv' := [(2, .int (iZ ((ce / 5) + (-1)))), (0, .int (iZ ce)), (1, .int (iZ d))]) hx hb dX7_beside_22 rfl hl (by decide) rfl (fun ls hl => ?_)
    refine lv_iload_n hx hb dX7_beside_23 rfl (lv_at hl 1 rfl) ?_
    refine x_iconst hx hb dX7_beside_24 ?_
    refine x_irem hx hb dX7_beside_25 (by omega) (by omega) (by omega) (by omega) ?_
    refine lv_iload_n hx hb dX7_beside_26 rfl (lv_at hl 2 rfl) ?_
    refine x_iconst hx hb dX7_beside_27 ?_
    refine x_icmp_ne (tgt := 35) hx hb dX7_beside_28 (by decide) (by omega) (by decide) (fun c28 => ?_) (fun c28 => ?_)
    · refine lv_iload_n hx hb dX7_beside_35 rfl (lv_at hl 2 rfl) ?_
      refine x_iconst hx hb dX7_beside_36 ?_
      refine x_icmp_ne (tgt := 44) hx hb dX7_beside_37 (by decide) (by omega) (by decide) (fun c37 => ?_) (fun c37 => ?_)
      · refine x_iconst hx hb dX7_beside_44 ?_
        refine x_iadd hx hb dX7_beside_45 ?_
        refine lv_istore_n (lv' := [(3, .int (iZ ((ce % 5) + 0))), (2, .int (iZ ((ce / 5) + (-1)))), (0, .int (iZ ce)), (1, .int (iZ d))]) hx hb dX7_beside_46 rfl hl (by decide) rfl (fun ls hl => ?_)
        refine lv_iload_n hx hb dX7_beside_47 rfl (lv_at hl 1 rfl) ?_
        refine lv_iload_n hx hb dX7_beside_48 rfl (lv_at hl 0 rfl) ?_
        refine x_cSID (As := [.int (iZ ((ce / 5) + (-1))), .int (iZ ((ce % 5) + 0))]) (rest := []) hx hb hml hts hown hK hST hOK hH (c_X7_isCell l E ST hSF σ ((ce / 5) + (-1)) ((ce % 5) + 0)  (by omega) (by omega)) (va_cwS 2 hts gX7_beside_X7_isCell rfl rfl rfl (by decide +kernel) ⟨Nat.le_of_ble_eq_true rfl, Nat.le_of_ble_eq_true rfl⟩) rfl hl.1 rfl (Nat.le_of_ble_eq_true rfl) dX7_beside_49 ⟨Nat.le_of_ble_eq_true rfl, Nat.le_of_ble_eq_true rfl⟩ (fun z u h => h) (fun H locs hH => ?_)
        refine x_ifb_eq (tgt := 63) hx hb dX7_beside_52 (by decide) (fun c52 => ?_) (fun c52 => ?_)
        · have c52 := of_decide_eq_false c52
          refine x_iconst hx hb dX7_beside_63 ?_
          subst hQ
          exact x_iret hx hb hr hlocks hH (Nat.le_of_ble_eq_true rfl) (Nat.le_of_ble_eq_true rfl) ⟨(show (-1) = (nbZ ce d) from (by unfold nbZ; (repeat' split) <;> omega)), rfl⟩ dX7_beside_64
        · have c52 := of_decide_eq_true c52
          refine x_iconst hx hb dX7_beside_55 ?_
          refine lv_iload_n hx hb dX7_beside_56 rfl (lv_at hl 1 rfl) ?_
          refine x_imul hx hb dX7_beside_57 ?_
          refine lv_iload_n hx hb dX7_beside_58 rfl (lv_at hl 0 rfl) ?_
          refine x_iadd hx hb dX7_beside_59 ?_
          refine lv_goto (tgt := 64) hx hb dX7_beside_60 (by decide) ?_
          subst hQ
          exact x_iret hx hb hr hlocks hH (Nat.le_of_ble_eq_true rfl) (Nat.le_of_ble_eq_true rfl) ⟨(show ((5 * ((ce / 5) + (-1))) + ((ce % 5) + 0)) = (nbZ ce d) from (by unfold nbZ; (repeat' split) <;> omega)), rfl⟩ dX7_beside_64
      · refine x_iconst hx hb dX7_beside_40 ?_
        refine lv_goto (tgt := 45) hx hb dX7_beside_41 (by decide) ?_
        refine x_iadd hx hb dX7_beside_45 ?_
        refine lv_istore_n (lv' := [(3, .int (iZ ((ce % 5) + (-1)))), (2, .int (iZ ((ce / 5) + (-1)))), (0, .int (iZ ce)), (1, .int (iZ d))]) hx hb dX7_beside_46 rfl hl (by decide) rfl (fun ls hl => ?_)
        refine lv_iload_n hx hb dX7_beside_47 rfl (lv_at hl 1 rfl) ?_
        refine lv_iload_n hx hb dX7_beside_48 rfl (lv_at hl 0 rfl) ?_
        refine x_cSID (As := [.int (iZ ((ce / 5) + (-1))), .int (iZ ((ce % 5) + (-1)))]) (rest := []) hx hb hml hts hown hK hST hOK hH (c_X7_isCell l E ST hSF σ ((ce / 5) + (-1)) ((ce % 5) + (-1))  (by omega) (by omega)) (va_cwS 2 hts gX7_beside_X7_isCell rfl rfl rfl (by decide +kernel) ⟨Nat.le_of_ble_eq_true rfl, Nat.le_of_ble_eq_true rfl⟩) rfl hl.1 rfl (Nat.le_of_ble_eq_true rfl) dX7_beside_49 ⟨Nat.le_of_ble_eq_true rfl, Nat.le_of_ble_eq_true rfl⟩ (fun z u h => h) (fun H locs hH => ?_)
        refine x_ifb_eq (tgt := 63) hx hb dX7_beside_52 (by decide) (fun c52 => ?_) (fun c52 => ?_)
        · have c52 := of_decide_eq_false c52
          refine x_iconst hx hb dX7_beside_63 ?_
          subst hQ
          exact x_iret hx hb hr hlocks hH (Nat.le_of_ble_eq_true rfl) (Nat.le_of_ble_eq_true rfl) ⟨(show (-1) = (nbZ ce d) from (by unfold nbZ; (repeat' split) <;> omega)), rfl⟩ dX7_beside_64
        · have c52 := of_decide_eq_true c52
          refine x_iconst hx hb dX7_beside_55 ?_
          refine lv_iload_n hx hb dX7_beside_56 rfl (lv_at hl 1 rfl) ?_
          refine x_imul hx hb dX7_beside_57 ?_
          refine lv_iload_n hx hb dX7_beside_58 rfl (lv_at hl 0 rfl) ?_
          refine x_iadd hx hb dX7_beside_59 ?_
          refine lv_goto (tgt := 64) hx hb dX7_beside_60 (by decide) ?_
          subst hQ
          exact x_iret hx hb hr hlocks hH (Nat.le_of_ble_eq_true rfl) (Nat.le_of_ble_eq_true rfl) ⟨(show ((5 * ((ce / 5) + (-1))) + ((ce % 5) + (-1))) = (nbZ ce d) from (by unfold nbZ; (repeat' split) <;> omega)), rfl⟩ dX7_beside_64
    · refine x_iconst hx hb dX7_beside_31 ?_
      refine lv_goto (tgt := 45) hx hb dX7_beside_32 (by decide) ?_
      refine x_iadd hx hb dX7_beside_45 ?_
      refine lv_istore_n (lv' := [(3, .int (iZ ((ce % 5) + 1))), (2, .int (iZ ((ce / 5) + (-1)))), (0, .int (iZ ce)), (1, .int (iZ d))]) hx hb dX7_beside_46 rfl hl (by decide) rfl (fun ls hl => ?_)
      refine lv_iload_n hx hb dX7_beside_47 rfl (lv_at hl 1 rfl) ?_
      refine lv_iload_n hx hb dX7_beside_48 rfl (lv_at hl 0 rfl) ?_
      refine x_cSID (As := [.int (iZ ((ce / 5) + (-1))), .int (iZ ((ce % 5) + 1))]) (rest := []) hx hb hml hts hown hK hST hOK hH (c_X7_isCell l E ST hSF σ ((ce / 5) + (-1)) ((ce % 5) + 1)  (by omega) (by omega)) (va_cwS 2 hts gX7_beside_X7_isCell rfl rfl rfl (by decide +kernel) ⟨Nat.le_of_ble_eq_true rfl, Nat.le_of_ble_eq_true rfl⟩) rfl hl.1 rfl (Nat.le_of_ble_eq_true rfl) dX7_beside_49 ⟨Nat.le_of_ble_eq_true rfl, Nat.le_of_ble_eq_true rfl⟩ (fun z u h => h) (fun H locs hH => ?_)
      refine x_ifb_eq (tgt := 63) hx hb dX7_beside_52 (by decide) (fun c52 => ?_) (fun c52 => ?_)
      · have c52 := of_decide_eq_false c52
        refine x_iconst hx hb dX7_beside_63 ?_
        subst hQ
        exact x_iret hx hb hr hlocks hH (Nat.le_of_ble_eq_true rfl) (Nat.le_of_ble_eq_true rfl) ⟨(show (-1) = (nbZ ce d) from (by unfold nbZ; (repeat' split) <;> omega)), rfl⟩ dX7_beside_64
      · have c52 := of_decide_eq_true c52
        refine x_iconst hx hb dX7_beside_55 ?_
        refine lv_iload_n hx hb dX7_beside_56 rfl (lv_at hl 1 rfl) ?_
        refine x_imul hx hb dX7_beside_57 ?_
        refine lv_iload_n hx hb dX7_beside_58 rfl (lv_at hl 0 rfl) ?_
        refine x_iadd hx hb dX7_beside_59 ?_
        refine lv_goto (tgt := 64) hx hb dX7_beside_60 (by decide) ?_
        subst hQ
        exact x_iret hx hb hr hlocks hH (Nat.le_of_ble_eq_true rfl) (Nat.le_of_ble_eq_true rfl) ⟨(show ((5 * ((ce / 5) + (-1))) + ((ce % 5) + 1)) = (nbZ ce d) from (by unfold nbZ; (repeat' split) <;> omega)), rfl⟩ dX7_beside_64

def rm_X7_isJoined : Room := { frames := 4, cells := 0, slots := 0, locals := 86 }
set_option maxRecDepth 100000 in
set_option maxHeartbeats 4000000 in
theorem c_X7_isJoined (l : Launch) (E : xE) (ST : xST) (hSF : SF ST) (σ : xW) (ce : Int) (d : Int) (op : Int → Int) (lk : Int → Int) (kp : Int → Int) (wc : Int → Int) (pn : Int) (nw : Int) (sh : Int) (wk : Int) (sv : Bool) (re : Int) (ea : Int) (fa : Int) (ty : Int) (li : Int) (th : Int) (sz : Int) (sp : Int) (wr : Int) (to : Int) (v : Int → Int) (hr0 : mo E σ sv re ea fa ty li th sz sp wr to) (hr1 : now E σ v) (hC : Cp v op lk kp wc pn nw sh wk) (hB : BI op lk kp wc pn nw) (hc : 0 ≤ ce ∧ ce ≤ 24) (hd : 0 ≤ d ∧ d ≤ 3) : CI l E ST yX7_isJoined wsX7_isJoined rm_X7_isJoined [.ref (xad E 85), .int (iZ ce), .int (iZ d)] σ (fun (z : Int) (u : xW) => z = b2 (decide (¬ cnZ op ce d = -1)) ∧ u = σ) := by
  have f85 : σ 85 = oB 5 [.ref (xad E 86), .ref (xad E 87), .ref (xad E 88), .ref (xad E 89), .ref (xad E 90), .int (iZ (b2 sv)), .int (iZ re), .int (iZ ea), .int (iZ fa), .ref (xad E 91), .ref (xad E 92), .ref (xad E 93), .int (iZ ty), .ref (xad E 94), .int (iZ li), .int (iZ th), .int (iZ sz), .int (iZ sp), .int (iZ wr), .int (iZ to), .ref (xad E 95)] := hr0
  have f86 : σ 86 = aI E 87 v := hr1
  refine CI_of (by decide) rfl (Nat.le_of_ble_eq_true rfl) ?_
  intro p e s m args below meth c Q ls G hH hl hQ
  obtain ⟨hx, hb, hml, hown, hts, hK, hST, hlocks, hr, hno⟩ := G
  have hOK := hSF.1
  have hown : s.vm.findClass RX7 = some m.cls := hown
  have hl : lv_has ls 5 [(0, .ref (xad E 85)), (1, .int (iZ ce)), (2, .int (iZ d))] := hl
  obtain ⟨hop, hlk, hkp, hwc, hpn, hnw⟩ := id hB
  have hvR := hC.R
  have hv0 := hC.1.1
  have hnr := nbZ_rg (d := d) hc.1 hc.2
  refine lv_iload_n hx hb dX7_isJoined_0 rfl (lv_at hl 1 rfl) ?_
  refine lv_iload_n hx hb dX7_isJoined_1 rfl (lv_at hl 2 rfl) ?_
  refine x_cSID (As := [.int (iZ ce), .int (iZ d)]) (rest := []) hx hb hml hts hown hK hST hOK hH (c_X7_beside l E ST hSF σ ce d  (by omega) (by omega)) (va_cwS 2 hts gX7_isJoined_X7_beside rfl rfl rfl (by decide +kernel) ⟨Nat.le_of_ble_eq_true rfl, Nat.le_of_ble_eq_true rfl⟩) rfl hl.1 rfl (Nat.le_of_ble_eq_true rfl) dX7_isJoined_2 ⟨Nat.le_of_ble_eq_true rfl, Nat.le_of_ble_eq_true rfl⟩ (fun z u h => h) (fun H locs hH => ?_)
  refine lv_istore_n (lv' := [(3, .int (iZ (nbZ ce d))), (0, .ref (xad E 85)), (1, .int (iZ ce)), (2, .int (iZ d))]) hx hb dX7_isJoined_5 rfl hl (by decide) rfl (fun ls hl => ?_)
  refine lv_aload_n hx hb dX7_isJoined_6 rfl (lv_at hl 1 rfl) ?_
  refine lv_iload_n hx hb dX7_isJoined_7 rfl (lv_at hl 2 rfl) ?_
  refine x_iconst hx hb dX7_isJoined_8 ?_
  refine x_cVID (As := [.int (iZ ce), .int (iZ 0)]) (rest := []) hx hb hml hts hown hK hST hOK hH 85 (c_X7_of l E ST hSF σ ce 0 sv re ea fa ty li th sz sp wr to v f85 f86 (by omega) (by omega)) (cwV 2 hts gX7_isJoined_X7_of rfl rfl rfl (by decide +kernel) ⟨Nat.le_of_ble_eq_true rfl, Nat.le_of_ble_eq_true rfl⟩) (by decide) f85 rfl rfl hl.1 rfl (Nat.le_of_ble_eq_true rfl) dX7_isJoined_9 ⟨Nat.le_of_ble_eq_true rfl, Nat.le_of_ble_eq_true rfl⟩ (fun z u h => h) (fun H locs hH => ?_)
  rw [hC.a0 (c := ce) (by omega) (by omega)]
  have hv7 := hop ce
  refine lv_iload_n hx hb dX7_isJoined_12 rfl (lv_at hl 3 rfl) ?_
  refine x_ishr hx hb dX7_isJoined_13 ?_
  refine x_iconst hx hb dX7_isJoined_14 ?_
  refine x_iand hx hb dX7_isJoined_15 ?_
  refine x_iconst hx hb dX7_isJoined_16 ?_
  refine x_icmp_ne (tgt := 24) hx hb dX7_isJoined_17 (by decide) (iZ_rg _) (by decide) (fun c17 => ?_) (fun c17 => ?_)
  · refine x_iconst hx hb dX7_isJoined_24 ?_
    refine lv_istore (lv' := [(4, .int (iZ 0)), (3, .int (iZ (nbZ ce d))), (0, .ref (xad E 85)), (1, .int (iZ ce)), (2, .int (iZ d))]) hx hb dX7_isJoined_25 hl (by decide) rfl (fun ls hl => ?_)
    refine lv_iload_n hx hb dX7_isJoined_27 rfl (lv_at hl 1 rfl) ?_
    refine x_iconst hx hb dX7_isJoined_28 ?_
    refine x_icmp_eq (tgt := 59) hx hb dX7_isJoined_29 (by decide) (by omega) (by decide) (fun c29 => ?_) (fun c29 => ?_)
    · refine x_iconst hx hb dX7_isJoined_59 ?_
      subst hQ
      exact x_zret (b := false) hx hb hr hlocks hH (Nat.le_of_ble_eq_true rfl) (Nat.le_of_ble_eq_true rfl) ⟨congrArg b2 (show false = (decide (¬ cnZ op ce d = -1)) from (by first | exact (decide_eq_true (jo_iff.mpr ⟨by assumption, by assumption, by assumption⟩)).symm | exact (decide_eq_false (fun q => (jo_iff.mp q).1 (by assumption))).symm | exact (decide_eq_false (fun q => absurd (jo_iff.mp q).2.1 (by assumption))).symm | exact (decide_eq_false (fun q => absurd (jo_iff.mp q).2.2 (by assumption))).symm)), rfl⟩ dX7_isJoined_60
    · refine lv_iload hx hb dX7_isJoined_32 (lv_at hl 0 rfl) ?_
      refine x_if_eq (tgt := 59) hx hb dX7_isJoined_34 (by decide) (by decide) (fun c34 => ?_) (fun c34 => ?_)
      · refine x_iconst hx hb dX7_isJoined_59 ?_
        subst hQ
        exact x_zret (b := false) hx hb hr hlocks hH (Nat.le_of_ble_eq_true rfl) (Nat.le_of_ble_eq_true rfl) ⟨congrArg b2 (show false = (decide (¬ cnZ op ce d = -1)) from (by first | exact (decide_eq_true (jo_iff.mpr ⟨by assumption, by assumption, by assumption⟩)).symm | exact (decide_eq_false (fun q => (jo_iff.mp q).1 (by assumption))).symm | exact (decide_eq_false (fun q => absurd (jo_iff.mp q).2.1 (by assumption))).symm | exact (decide_eq_false (fun q => absurd (jo_iff.mp q).2.2 (by assumption))).symm)), rfl⟩ dX7_isJoined_60
      · exact absurd c34 (by decide)
  · refine x_iconst hx hb dX7_isJoined_20 ?_
    refine lv_goto (tgt := 25) hx hb dX7_isJoined_21 (by decide) ?_
    refine lv_istore (lv' := [(4, .int (iZ 1)), (3, .int (iZ (nbZ ce d))), (0, .ref (xad E 85)), (1, .int (iZ ce)), (2, .int (iZ d))]) hx hb dX7_isJoined_25 hl (by decide) rfl (fun ls hl => ?_)
    refine lv_iload_n hx hb dX7_isJoined_27 rfl (lv_at hl 1 rfl) ?_
    refine x_iconst hx hb dX7_isJoined_28 ?_
    refine x_icmp_eq (tgt := 59) hx hb dX7_isJoined_29 (by decide) (by omega) (by decide) (fun c29 => ?_) (fun c29 => ?_)
    · refine x_iconst hx hb dX7_isJoined_59 ?_
      subst hQ
      exact x_zret (b := false) hx hb hr hlocks hH (Nat.le_of_ble_eq_true rfl) (Nat.le_of_ble_eq_true rfl) ⟨congrArg b2 (show false = (decide (¬ cnZ op ce d = -1)) from (by first | exact (decide_eq_true (jo_iff.mpr ⟨by assumption, by assumption, by assumption⟩)).symm | exact (decide_eq_false (fun q => (jo_iff.mp q).1 (by assumption))).symm | exact (decide_eq_false (fun q => absurd (jo_iff.mp q).2.1 (by assumption))).symm | exact (decide_eq_false (fun q => absurd (jo_iff.mp q).2.2 (by assumption))).symm)), rfl⟩ dX7_isJoined_60
    · refine lv_iload hx hb dX7_isJoined_32 (lv_at hl 0 rfl) ?_
      refine x_if_eq (tgt := 59) hx hb dX7_isJoined_34 (by decide) (by decide) (fun c34 => ?_) (fun c34 => ?_)
      · exact absurd c34 (by decide)
      · refine lv_aload_n hx hb dX7_isJoined_37 rfl (lv_at hl 2 rfl) ?_
        refine lv_iload_n hx hb dX7_isJoined_38 rfl (lv_at hl 1 rfl) ?_
        refine x_iconst hx hb dX7_isJoined_39 ?_
        refine x_cVID (As := [.int (iZ (nbZ ce d)), .int (iZ 0)]) (rest := []) hx hb hml hts hown hK hST hOK hH 85 (c_X7_of l E ST hSF σ (nbZ ce d) 0 sv re ea fa ty li th sz sp wr to v f85 f86 (by omega) (by omega)) (cwV 2 hts gX7_isJoined_X7_of rfl rfl rfl (by decide +kernel) ⟨Nat.le_of_ble_eq_true rfl, Nat.le_of_ble_eq_true rfl⟩) (by decide) f85 rfl rfl hl.1 rfl (Nat.le_of_ble_eq_true rfl) dX7_isJoined_40 ⟨Nat.le_of_ble_eq_true rfl, Nat.le_of_ble_eq_true rfl⟩ (fun z u h => h) (fun H locs hH => ?_)
        rw [hC.a0 (c := nbZ ce d) (by omega) (by omega)]
        have hv11 := hop (nbZ ce d)
        refine lv_iload_n hx hb dX7_isJoined_43 rfl (lv_at hl 4 rfl) ?_
        refine x_iconst hx hb dX7_isJoined_44 ?_
        refine x_iadd hx hb dX7_isJoined_45 ?_
        refine x_iconst hx hb dX7_isJoined_46 ?_
        refine x_irem hx hb dX7_isJoined_47 (by omega) (by omega) (by omega) (by omega) ?_
        refine x_ishr hx hb dX7_isJoined_48 ?_
        refine x_iconst hx hb dX7_isJoined_49 ?_
        refine x_iand hx hb dX7_isJoined_50 ?_
        refine x_iconst hx hb dX7_isJoined_51 ?_
        refine x_icmp_ne (tgt := 59) hx hb dX7_isJoined_52 (by decide) (iZ_rg _) (by decide) (fun c52 => ?_) (fun c52 => ?_)
        · refine x_iconst hx hb dX7_isJoined_59 ?_
          subst hQ
          exact x_zret (b := false) hx hb hr hlocks hH (Nat.le_of_ble_eq_true rfl) (Nat.le_of_ble_eq_true rfl) ⟨congrArg b2 (show false = (decide (¬ cnZ op ce d = -1)) from (by first | exact (decide_eq_true (jo_iff.mpr ⟨by assumption, by assumption, by assumption⟩)).symm | exact (decide_eq_false (fun q => (jo_iff.mp q).1 (by assumption))).symm | exact (decide_eq_false (fun q => absurd (jo_iff.mp q).2.1 (by assumption))).symm | exact (decide_eq_false (fun q => absurd (jo_iff.mp q).2.2 (by assumption))).symm)), rfl⟩ dX7_isJoined_60
        · refine x_iconst hx hb dX7_isJoined_55 ?_
          refine lv_goto (tgt := 60) hx hb dX7_isJoined_56 (by decide) ?_
          subst hQ
          exact x_zret (b := true) hx hb hr hlocks hH (Nat.le_of_ble_eq_true rfl) (Nat.le_of_ble_eq_true rfl) ⟨congrArg b2 (show true = (decide (¬ cnZ op ce d = -1)) from (by first | exact (decide_eq_true (jo_iff.mpr ⟨by assumption, by assumption, by assumption⟩)).symm | exact (decide_eq_false (fun q => (jo_iff.mp q).1 (by assumption))).symm | exact (decide_eq_false (fun q => absurd (jo_iff.mp q).2.1 (by assumption))).symm | exact (decide_eq_false (fun q => absurd (jo_iff.mp q).2.2 (by assumption))).symm)), rfl⟩ dX7_isJoined_60
