/-! ===== the law's loop ===== -/
/-- what stands throughout the law -/
def LX (l : Launch) (E : xE) (ST : xST) (Z : zE) (zx : Int → Int) (p : Program) (s : State) (m : MethodId) (meth : Method) (c : Code) (b L : Nat) : Prop :=
  p.tables.exec = Jvm.exec ∧ c.code = code ∧ c.maxLocals = 4 ∧ s.vm.findClass RL = some m.cls ∧ (∀ w ∈ wsA, w.before #[Value.ref b] s = true) ∧ va_K E.1 vwCl (xT E) s ∧ ST (fun q => s.heap.size ≤ q) s s.heap ∧ SF ST ∧ SX ST ∧ SQ Z ST ∧ SC b L zx ST ∧ l.stackTraces = false ∧ meth.locks = false ∧ meth.sig.returnType = ret ∧ L ≤ 260
set_option maxRecDepth 100000 in
set_option maxHeartbeats 8000000 in
theorem law_loop {p : Program} {l : Launch} {e : Env} {s : State} {m : MethodId} {below : List Frame} {meth : Method} {c : Code} {E : xE} {ST : xST} {Z : zE} {zx : Int → Int} {b L : Nat} (G : LX l E ST Z zx p s m meth c b L) : ∀ (nK n : Nat) (B : BT) (S : Option BT) (Y : lnQ) (σ : xW) (H : Heap) (locs : List Loc) (ls : Array Slot), 8 - n < nK → n ≤ 8 → cw E σ B S Y → Hx E (fun q => s.heap.size ≤ q) s.heap σ H locs → lv_has ls 4 [(2, .int (iZ (n : Int))), (1, .ref (xad E 0)), (0, .ref b)] →
    W p l e room_1 s m #[Value.ref b] below meth c H locs (300 + 43600 * n) (4000 + 580000 * n) (lw_Z below #[Value.ref b] s) (F0 m 15 ls []) := by
  have G2 := G
  obtain ⟨hx, hb, hml, hown, hwA, hK, hST, hSF, hSX, hSQ, hSC, htr, hlocks, hr, hL⟩ := G2
  have hOK := hSF.1
  intro nK
  induction nK with
  | zero =>
    intro n B S Y σ H locs ls hm
    exact absurd hm (Nat.not_lt_zero _)
  | succ nK ih =>
    intro n B S Y σ H locs ls hm hn hc hH hl
    refine lv_iload_n hx hb dL_law_15 rfl (lv_at hl 0 rfl) ?_
    refine x_bipush (n := 8) hx hb dL_law_16 (by decide) ?_
    refine x_icmp_ge (tgt := 103) hx hb dL_law_18 (by decide) ⟨by omega, by omega⟩ ⟨by omega, by omega⟩ (fun c1 => ?_) (fun c1 => ?_)
    · refine x_iconst (n := 1) hx hb dL_law_103 ?_
      refine W.widen (k := 620015) (n := 7241424) (by omega) (by omega) ?_
      refine va_forget (fun q h => hH.2.2.1.2.2 q h) ?_
      exact lw_ret (s := s) (d0 := s.drawn) (Drawn.sameBut.refl s.drawn lw_cs) hx hb hr hlocks dL_law_104
    · refine lv_aload_n hx hb dL_law_21 rfl (lv_at hl 1 rfl) ?_
      refine lv_aload_n hx hb dL_law_22 rfl (lv_at hl 2 rfl) ?_
      refine x_sipush (n := 200) hx hb dL_law_23 (by decide) ?_
      refine x_bipush (n := 7) hx hb dL_law_26 (by decide) ?_
      refine lv_iload_n hx hb dL_law_28 rfl (lv_at hl 0 rfl) ?_
      refine x_imul hx hb dL_law_29 ?_
      refine x_iadd hx hb dL_law_30 ?_
      refine x_cSI (As := [.ref (xad E 0), .ref b, .int (iZ (200 + 7 * (n : Int)))]) (rest := []) hx hb hml hwA hown hK hST hOK hH (c_L_any l E ST hSF b L zx hSC hL hSX htr σ (200 + 7 * (n : Int)) B S Y hc ⟨by omega, by omega⟩) (va_cwS 3 hwA gK_280 rfl rfl rfl (by decide +kernel) ⟨Nat.le_of_ble_eq_true rfl, Nat.le_of_ble_eq_true rfl⟩) rfl hl.1 rfl (Nat.le_of_ble_eq_true rfl) dL_law_31 ⟨(by show 300 + 43600 * n + 1 ≤ 620015; omega), (by show 4000 + 580000 * n + 6 ≤ 7241424; omega)⟩ (fun z1 σ1 H locs hp1 hH => ?_)
      obtain ⟨-, ⟨B1, hc1⟩, -⟩ := hp1
      refine lv_istore_n (lv' := [(3, .int (iZ z1)), (2, .int (iZ (n : Int))), (1, .ref (xad E 0)), (0, .ref b)]) hx hb dL_law_34 rfl hl (by decide) rfl (fun ls hl => ?_)
      refine lv_aload_n hx hb dL_law_35 rfl (lv_at hl 2 rfl) ?_
      refine x_cSI (As := [.ref (xad E 0)]) (rest := []) hx hb hml hwA hown hK hST hOK hH (c_L_areTilesRight l E ST hSF hSX htr σ1 B1 S Y hc1) (va_cwS 1 hwA gK_284 rfl rfl rfl (by decide +kernel) ⟨Nat.le_of_ble_eq_true rfl, Nat.le_of_ble_eq_true rfl⟩) rfl hl.1 rfl (Nat.le_of_ble_eq_true rfl) dL_law_36 ⟨(by show 300 + 43600 * n + 1 + 200 ≤ 620015; omega), (by show 4000 + 580000 * n + 6 + 1300 ≤ 7241424; omega)⟩ (fun z2 σ2 H locs hp2 hH => ?_)
      obtain ⟨hz2, hc2, -⟩ := hp2
      refine x_if_eq (tgt := 95) hx hb dL_law_39 (by decide) (by rw [hz2]; exact ⟨by decide, by decide⟩) (fun c2 => absurd (hz2.symm.trans c2) (by decide)) (fun _ => ?_)
      refine lv_aload_n hx hb dL_law_42 rfl (lv_at hl 2 rfl) ?_
      refine x_cSI (As := [.ref (xad E 0)]) (rest := []) hx hb hml hwA hown hK hST hOK hH (c_L_areLinesRight l E ST hSF Z hSQ hSX htr σ2 B1 S Y hc2) (va_cwS 1 hwA gK_288 rfl rfl rfl (by decide +kernel) ⟨Nat.le_of_ble_eq_true rfl, Nat.le_of_ble_eq_true rfl⟩) rfl hl.1 rfl (Nat.le_of_ble_eq_true rfl) dL_law_43 ⟨(by show 300 + 43600 * n + 1 + 200 + 3600 ≤ 620015; omega), (by show 4000 + 580000 * n + 6 + 1300 + 336000 ≤ 7241424; omega)⟩ (fun z3 σ3 H locs hp3 hH => ?_)
      obtain ⟨hz3, ⟨Y1, hc3⟩, -⟩ := hp3
      refine x_if_eq (tgt := 95) hx hb dL_law_46 (by decide) (by rw [hz3]; exact ⟨by decide, by decide⟩) (fun c3 => absurd (hz3.symm.trans c3) (by decide)) (fun _ => ?_)
      refine lv_aload_n hx hb dL_law_49 rfl (lv_at hl 2 rfl) ?_
      refine lv_aload_n hx hb dL_law_50 rfl (lv_at hl 3 rfl) ?_
      refine x_sipush (n := 300) hx hb dL_law_51 (by decide) ?_
      refine lv_iload_n hx hb dL_law_54 rfl (lv_at hl 1 rfl) ?_
      refine x_iadd hx hb dL_law_55 ?_
      refine x_bipush (n := 25) hx hb dL_law_56 (by decide) ?_
      refine x_cSI (As := [.ref b, .int (iZ (300 + (n : Int))), .int (iZ 25)]) (rest := [.ref (xad E 0)]) hx hb hml hwA hown hK hST hOK hH (c_L_pick l E ST hSF b L zx hSC hL σ3 (300 + (n : Int)) 25 (by omega) (by omega)) (va_cwS 3 hwA gK_133 rfl rfl rfl (by decide +kernel) ⟨Nat.le_of_ble_eq_true rfl, Nat.le_of_ble_eq_true rfl⟩) rfl hl.1 rfl (Nat.le_of_ble_eq_true rfl) dL_law_58 ⟨(by show 300 + 43600 * n + 1 + 200 + 3600 + 0 ≤ 620015; omega), (by show 4000 + 580000 * n + 6 + 1300 + 336000 + 0 ≤ 7241424; omega)⟩ (fun z4 σ4 H locs hp4 hH => ?_)
      obtain ⟨hz4, hu4⟩ := hp4
      rw [hu4] at hH
      refine x_cSI (As := [.ref (xad E 0), .int (iZ z4)]) (rest := []) hx hb hml hwA hown hK hST hOK hH (c_L_areWalkersRight l E ST hSF hSX htr σ3 z4 B1 S Y1 hc3 (by omega)) (va_cwS 2 hwA gK_291 rfl rfl rfl (by decide +kernel) ⟨Nat.le_of_ble_eq_true rfl, Nat.le_of_ble_eq_true rfl⟩) rfl hl.1 rfl (Nat.le_of_ble_eq_true rfl) dL_law_61 ⟨(by show 300 + 43600 * n + 1 + 200 + 3600 + 0 + 39600 ≤ 620015; omega), (by show 4000 + 580000 * n + 6 + 1300 + 336000 + 0 + 240000 ≤ 7241424; omega)⟩ (fun z5 σ5 H locs hp5 hH => ?_)
      obtain ⟨hz5, hc5, -⟩ := hp5
      refine x_if_eq (tgt := 95) hx hb dL_law_64 (by decide) (by rw [hz5]; exact ⟨by decide, by decide⟩) (fun c5 => absurd (hz5.symm.trans c5) (by decide)) (fun _ => ?_)
      refine lv_aload_n hx hb dL_law_67 rfl (lv_at hl 2 rfl) ?_
      refine lv_aload_n hx hb dL_law_68 rfl (lv_at hl 3 rfl) ?_
      refine x_sipush (n := 320) hx hb dL_law_69 (by decide) ?_
      refine lv_iload_n hx hb dL_law_72 rfl (lv_at hl 1 rfl) ?_
      refine x_iadd hx hb dL_law_73 ?_
      refine x_iconst (n := 3) hx hb dL_law_74 ?_
      refine x_cSI (As := [.ref b, .int (iZ (320 + (n : Int))), .int (iZ 3)]) (rest := [.ref (xad E 0)]) hx hb hml hwA hown hK hST hOK hH (c_L_pick l E ST hSF b L zx hSC hL σ5 (320 + (n : Int)) 3 (by omega) (by omega)) (va_cwS 3 hwA gK_133 rfl rfl rfl (by decide +kernel) ⟨Nat.le_of_ble_eq_true rfl, Nat.le_of_ble_eq_true rfl⟩) rfl hl.1 rfl (Nat.le_of_ble_eq_true rfl) dL_law_75 ⟨(by show 300 + 43600 * n + 1 + 200 + 3600 + 0 + 39600 + 0 ≤ 620015; omega), (by show 4000 + 580000 * n + 6 + 1300 + 336000 + 0 + 240000 + 0 ≤ 7241424; omega)⟩ (fun z6 σ6 H locs hp6 hH => ?_)
      obtain ⟨hz6, hu6⟩ := hp6
      rw [hu6] at hH
      refine lv_aload_n hx hb dL_law_78 rfl (lv_at hl 3 rfl) ?_
      refine x_sipush (n := 340) hx hb dL_law_79 (by decide) ?_
      refine lv_iload_n hx hb dL_law_82 rfl (lv_at hl 1 rfl) ?_
      refine x_iadd hx hb dL_law_83 ?_
      refine x_bipush (n := 25) hx hb dL_law_84 (by decide) ?_
      refine x_cSI (As := [.ref b, .int (iZ (340 + (n : Int))), .int (iZ 25)]) (rest := [.int (iZ z6), .ref (xad E 0)]) hx hb hml hwA hown hK hST hOK hH (c_L_pick l E ST hSF b L zx hSC hL σ5 (340 + (n : Int)) 25 (by omega) (by omega)) (va_cwS 3 hwA gK_133 rfl rfl rfl (by decide +kernel) ⟨Nat.le_of_ble_eq_true rfl, Nat.le_of_ble_eq_true rfl⟩) rfl hl.1 rfl (Nat.le_of_ble_eq_true rfl) dL_law_86 ⟨(by show 300 + 43600 * n + 1 + 200 + 3600 + 0 + 39600 + 0 + 0 ≤ 620015; omega), (by show 4000 + 580000 * n + 6 + 1300 + 336000 + 0 + 240000 + 0 + 0 ≤ 7241424; omega)⟩ (fun z7 σ7 H locs hp7 hH => ?_)
      obtain ⟨hz7, hu7⟩ := hp7
      rw [hu7] at hH
      refine x_cSI (As := [.ref (xad E 0), .int (iZ z6), .int (iZ z7)]) (rest := []) hx hb hml hwA hown hK hST hOK hH (c_L_areShiftsRight l E ST hSF hSX htr σ5 z6 z7 B1 S Y1 hc5 (by omega) (by omega)) (va_cwS 3 hwA gK_295 rfl rfl rfl (by decide +kernel) ⟨Nat.le_of_ble_eq_true rfl, Nat.le_of_ble_eq_true rfl⟩) rfl hl.1 rfl (Nat.le_of_ble_eq_true rfl) dL_law_89 ⟨(by show 300 + 43600 * n + 1 + 200 + 3600 + 0 + 39600 + 0 + 0 + 130 ≤ 620015; omega), (by show 4000 + 580000 * n + 6 + 1300 + 336000 + 0 + 240000 + 0 + 0 + 780 ≤ 7241424; omega)⟩ (fun z8 σ8 H locs hp8 hH => ?_)
      obtain ⟨hz8, ⟨S1, hc8⟩, -⟩ := hp8
      refine x_if_ne (tgt := 97) hx hb dL_law_92 (by decide) (by rw [hz8]; exact ⟨by decide, by decide⟩) (fun _ => ?_) (fun c8 => absurd (hz8.symm.trans c8) (by decide))
      refine x_iinc (lv' := [(2, .int (iZ ((n : Int) + 1))), (3, .int (iZ z1)), (1, .ref (xad E 0)), (0, .ref b)]) hx hb dL_law_97 hl (k := 1) rfl (by decide) rfl (fun ls hl => ?_)
      refine lv_goto (tgt := 15) hx hb dL_law_100 (by decide) ?_
      have hl : lv_has ls 4 [(2, .int (iZ ((n + 1 : Nat) : Int))), (1, .ref (xad E 0)), (0, .ref b)] := lv_sub hl [0, 2, 3] rfl
      exact W.widen (by show 300 + 43600 * n + 1 + 200 + 3600 + 0 + 39600 + 0 + 0 + 130 ≤ 300 + 43600 * (n + 1); omega) (by show 4000 + 580000 * n + 6 + 1300 + 336000 + 0 + 240000 + 0 + 0 + 780 ≤ 4000 + 580000 * (n + 1); omega) (ih (n + 1) B1 S1 Y1 σ8 H locs ls (by omega) (by omega) hc8 hH hl)
