set_option maxRecDepth 100000 in
set_option maxHeartbeats 16000000 in
/-- THE LAW, from its entry -/
theorem whole_start {p : Program} {e : Env} {s : State} {m : MethodId} {below : List Frame} {meth : Method} {c : Code} (l : Launch) (hflags : l.flags = flags0) {b L : Nat} {xs : Nat → Int32} (hL : L ≤ 2048) (C0 : lw_At p s m meth c b L xs) : W p l e room_1 s m #[Value.ref b] below meth c s.heap [] 0 0 (lw_Z below #[Value.ref b] s) (entryFrame m ([Value.ref b] : List Value).toArray 10) := by
  obtain ⟨hx, hb, hr, hml, hown, hts, hX, hbl, hlocks, hgv⟩ := C0
  have hown : s.vm.findClass RL = some m.cls := hown
  have htr : l.stackTraces = false := by
    unfold Launch.stackTraces
    rw [hflags]
    decide +kernel
  have hwl : ∀ w ∈ wsL_law, w.before #[Value.ref b] s = true := fun w h => hts w (wsL_law_in w h)
  obtain ⟨Z, hST⟩ := zST_start hts hgv
  have hSF := zST_SF Z
  have hSQ := zST_SQ Z
  have hSO := zST_SO Z
  have hOK := zST_ok Z
  obtain ⟨c0, iS0, hKn0⟩ := u_known (C := RX1) (T := TX1) (N := 9) (n := 9) hts inX1 (hts _ (List.mem_append_right _ (List.mem_of_getElem? (l := tables_1) (i := 35) (a := Cond.instantiable RX1 9) (by decide +kernel))))
  obtain ⟨c1, iS1, hKn1⟩ := u_known (C := RX3) (T := TX3) (N := 3) (n := 3) hts inX3 (hts _ (List.mem_append_right _ (List.mem_of_getElem? (l := tables_1) (i := 81) (a := Cond.instantiable RX3 3) (by decide +kernel))))
  obtain ⟨c2, iS2, hKn2⟩ := u_known (C := RX4) (T := TX4) (N := 5) (n := 5) hts inX4 (hts _ (List.mem_append_right _ (List.mem_of_getElem? (l := tables_1) (i := 127) (a := Cond.instantiable RX4 5) (by decide +kernel))))
  obtain ⟨c3, iS3, hKn3⟩ := u_known (C := RX5) (T := TX5) (N := 5) (n := 5) hts inX5 (hts _ (List.mem_append_right _ (List.mem_of_getElem? (l := tables_1) (i := 101) (a := Cond.instantiable RX5 5) (by decide +kernel))))
  obtain ⟨c4, iS4, hKn4⟩ := u_known (C := RX6) (T := TX6) (N := 12) (n := 12) hts inX6 (hts _ (List.mem_append_right _ (List.mem_of_getElem? (l := tables_1) (i := 27) (a := Cond.instantiable RX6 12) (by decide +kernel))))
  obtain ⟨c5, iS5, hKn5⟩ := u_known (C := RX7) (T := TX7) (N := 21) (n := 21) hts inX7 (hts _ (List.mem_append_right _ (List.mem_of_getElem? (l := tables_1) (i := 998) (a := Cond.instantiable RX7 21) (by decide +kernel))))
  obtain ⟨kI, hAI, hNI⟩ := kA_of (hts _ (List.mem_append_right _ (List.mem_of_getElem? (l := tables_1) (i := 79) (a := Cond.arrayClass .int) (by decide +kernel))))
  obtain ⟨kC, hAC, hNC⟩ := kA_of (hts _ (List.mem_append_right _ (List.mem_of_getElem? (l := tables_1) (i := 154) (a := Cond.arrayClass .char) (by decide +kernel))))
  obtain ⟨kJ, hAJ, hNJ⟩ := kA_of (hts _ (List.mem_append_right _ (List.mem_of_getElem? (l := tables_1) (i := 1503) (a := Cond.arrayClass .long) (by decide +kernel))))
  obtain ⟨kD, hAD, hND⟩ := kA_of (hts _ (List.mem_append_right _ (List.mem_of_getElem? (l := tables_1) (i := 1504) (a := Cond.arrayClass .double) (by decide +kernel))))
  obtain ⟨kB, hAB, hRB⟩ := kO_of (hts _ (List.mem_append_right _ (List.mem_of_getElem? (l := tables_1) (i := 87) (a := Cond.arrayOver (.object RX1)) (by decide +kernel))))
  obtain ⟨E, eE⟩ : ∃ E : xE, E = ((fun k => if k = 0 then c0 else if k = 1 then c1 else if k = 2 then c2 else if k = 3 then c3 else if k = 4 then c4 else c5, fun k => if k = 0 then iS0 else if k = 1 then iS1 else if k = 2 then iS2 else if k = 3 then iS3 else if k = 4 then iS4 else iS5), fun _ => 0, kI, kC, kB, kJ, kD) := ⟨_, rfl⟩
  have hK : va_K E.1 vwCl (xT E) s := by
    subst eE
    refine ⟨fun k q hq => ?_, fun k q hq => ?_⟩
    · match k, hq with
      | 0, hq => cases hq; exact hKn0
      | 1, hq => cases hq; exact hKn1
      | 2, hq => cases hq; exact hKn2
      | 3, hq => cases hq; exact hKn3
      | 4, hq => cases hq; exact hKn4
      | 5, hq => cases hq; exact hKn5
      | k + 6, hq => simp [vwCl] at hq
    · match k, hq with
      | 0, hq => cases hq; exact ⟨hAI, hNI⟩
      | 1, hq => cases hq; exact ⟨hAC, hNC⟩
      | 2, hq => cases hq; exact ⟨hAB, hRB⟩
      | 3, hq => cases hq; exact ⟨hAJ, hNJ⟩
      | 4, hq => cases hq; exact ⟨hAD, hND⟩
      | k + 5, hq => simp [xT] at hq
  clear eE
  have hH : Hy E (fun q => s.heap.size ≤ q) s.heap [] s.heap [] := ⟨fun k q h => by simp at h, ⟨fun i j p q h => by simp at h, fun k q h => by simp at h⟩, va_S.rf, fun q h => h⟩
  have hl := lv_entry ([.ref b]) (n := 10) (Nat.le_of_ble_eq_true rfl)
  rw [lg_entry_eq]
  generalize (lg_sl ([.ref b]) ++ List.replicate (10 - (lg_sl ([.ref b])).length) Slot.unset).toArray = ls at hl ⊢
  have hl : lv_has ls 10 [(0, .ref b)] := hl
  refine y_mk (U9 := U6) (L := L6 E Z) (fs := [.null, .null, .null, .null, .int (iZ (b2 false)), .null, .null, .null, .int (iZ 0), .int (iZ 0), .null, .int (iZ 0)]) hx hb hml hwl hown hK hST hOK hH (c_X6_init l E (zST Z) hSF hSO Z hSQ) (T := TX6) (N := 12) inlX6 tyX6 tyX6_ok (List.mem_of_getElem? (i := 0) rfl) (List.mem_of_getElem? (i := 1) rfl) (List.mem_of_getElem? (i := 2) rfl) rfl (fun j hj => by rcases (show j = 0 ∨ j = 1 ∨ j = 2 ∨ j = 3 ∨ j = 4 ∨ j = 5 ∨ j = 6 ∨ j = 7 ∨ j = 8 ∨ j = 9 ∨ j = 10 ∨ j = 11 by omega) with rfl | rfl | rfl | rfl | rfl | rfl | rfl | rfl | rfl | rfl | rfl | rfl <;> rfl) (cwI 0 hwl gL_law_X6_init rfl rfl rfl (hwl _ (List.mem_of_getElem? (i := 2) rfl)) (hwl _ (List.mem_of_getElem? (i := 8) rfl)) (hwl _ (List.mem_of_getElem? (i := 9) rfl)) rfl (by decide +kernel) ⟨Nat.le_of_ble_eq_true rfl, Nat.le_of_ble_eq_true rfl⟩) hl.1 (Nat.le_of_ble_eq_true rfl) dL_law_0 dL_law_3 dL_law_4 (Nat.le_of_ble_eq_true rfl) (Nat.le_of_ble_eq_true rfl) (fun x0 u6 H locs hH => ?_)
  refine lv_astore_n (lv' := [(1, .ref x0), (0, .ref b)]) hx hb dL_law_7 rfl hl (by decide) rfl (fun ls hl => ?_)
  refine y_mk (U9 := U7) (L := L7 E) (fs := [.null, .null, .null, .null, .null, .int (iZ (b2 false)), .int (iZ 0), .int (iZ 0), .int (iZ 0), .null, .null, .null, .int (iZ 0), .null, .int (iZ 0), .int (iZ 0), .int (iZ 0), .int (iZ 0), .int (iZ 0), .int (iZ 0), .null]) hx hb hml hwl hown hK hST hOK hH (c_X7_init l E (zST Z) hSF) (T := TX7) (N := 21) inlX7 tyX7 tyX7_ok (List.mem_of_getElem? (i := 3) rfl) (List.mem_of_getElem? (i := 4) rfl) (List.mem_of_getElem? (i := 5) rfl) rfl (fun j hj => by rcases (show j = 0 ∨ j = 1 ∨ j = 2 ∨ j = 3 ∨ j = 4 ∨ j = 5 ∨ j = 6 ∨ j = 7 ∨ j = 8 ∨ j = 9 ∨ j = 10 ∨ j = 11 ∨ j = 12 ∨ j = 13 ∨ j = 14 ∨ j = 15 ∨ j = 16 ∨ j = 17 ∨ j = 18 ∨ j = 19 ∨ j = 20 by omega) with rfl | rfl | rfl | rfl | rfl | rfl | rfl | rfl | rfl | rfl | rfl | rfl | rfl | rfl | rfl | rfl | rfl | rfl | rfl | rfl | rfl <;> rfl) (cwI 0 hwl gL_law_X7_init rfl rfl rfl (hwl _ (List.mem_of_getElem? (i := 5) rfl)) (hwl _ (List.mem_of_getElem? (i := 83) rfl)) (hwl _ (List.mem_of_getElem? (i := 84) rfl)) rfl (by decide +kernel) ⟨Nat.le_of_ble_eq_true rfl, Nat.le_of_ble_eq_true rfl⟩) hl.1 (Nat.le_of_ble_eq_true rfl) dL_law_8 dL_law_11 dL_law_12 (Nat.le_of_ble_eq_true rfl) (Nat.le_of_ble_eq_true rfl) (fun x85 u7 H locs hH => ?_)
  refine lv_astore_n (lv' := [(2, .ref x85), (1, .ref x0), (0, .ref b)]) hx hb dL_law_15 rfl hl (by decide) rfl (fun ls hl => ?_)
  refine x_iconst (n := 1) hx hb dL_law_16 ?_
  refine y_newa (atype := .long) (a0 := (1, .inr (.inl (fun _ => 0)))) hx hb hwl hK hH rfl (List.mem_of_getElem? (i := 6) rfl) 3 rfl (fun c1 c2 h1 h2 => Option.some.inj ((show s.vm.findClass _ = some c1 from h1).symm.trans h2)) (N := 1) rfl (by decide) (by decide) (fun _ => rfl) (Nat.le_of_ble_eq_true rfl) (Nat.le_of_ble_eq_true rfl) dL_law_17 (fun x96 H hH => ?_)
  refine lv_astore_n (lv' := [(3, .ref x96), (2, .ref x85), (1, .ref x0), (0, .ref b)]) hx hb dL_law_19 rfl hl (by decide) rfl (fun ls hl => ?_)
  refine x_iconst (n := 1) hx hb dL_law_20 ?_
  refine y_newa (atype := .double) (a0 := (1, .inr (.inr (.inr (.inl (fun _ => 0)))))) hx hb hwl hK hH rfl (List.mem_of_getElem? (i := 7) rfl) 4 rfl (fun c1 c2 h1 h2 => Option.some.inj ((show s.vm.findClass _ = some c1 from h1).symm.trans h2)) (N := 1) rfl (by decide) (by decide) (fun _ => rfl) (Nat.le_of_ble_eq_true rfl) (Nat.le_of_ble_eq_true rfl) dL_law_21 (fun x97 H hH => ?_)
  refine lv_astore (lv' := [(4, .ref x97), (3, .ref x96), (2, .ref x85), (1, .ref x0), (0, .ref b)]) hx hb dL_law_23 hl (by decide) rfl (fun ls hl => ?_)
  refine x_iconst (n := 0) hx hb dL_law_25 ?_
  refine lv_istore (lv' := [(5, .int (iZ 0)), (4, .ref x97), (3, .ref x96), (2, .ref x85), (1, .ref x0), (0, .ref b)]) hx hb dL_law_26 hl (by decide) rfl (fun ls hl => ?_)
  obtain ⟨⟨x1, x2, x3, x4, x5, x6⟩, ⟨x7, x8, x9, x10, x11, x12⟩, ⟨x13, x14, x15, x16, x17, x18⟩, ⟨x19, x20, x21, x22, x23, x24⟩, ⟨x73, x74, ⟨x25, x26, x27, x28, x29, x30⟩, ⟨x31, x32, x33, x34, x35, x36⟩, ⟨x37, x38, x39, x40, x41, x42⟩, ⟨x43, x44, x45, x46, x47, x48⟩, ⟨x49, x50, x51, x52, x53, x54⟩, ⟨x55, x56, x57, x58, x59, x60⟩, ⟨x61, x62, x63, x64, x65, x66⟩, ⟨x67, x68, x69, x70, x71, x72⟩⟩, ⟨x75, x76, x77, x78, x79, x80⟩, ⟨x81, x82, x83⟩, x84⟩ := u6
  obtain ⟨x86, x87, x88, x89, x90, x91, x92, x93, x94, x95⟩ := u7
  have hH : Hy E (fun q => s.heap.size ≤ q) s.heap (w0L E Z x0 x1 x2 x3 x4 x5 x6 x7 x8 x9 x10 x11 x12 x13 x14 x15 x16 x17 x18 x19 x20 x21 x22 x23 x24 x25 x26 x27 x28 x29 x30 x31 x32 x33 x34 x35 x36 x37 x38 x39 x40 x41 x42 x43 x44 x45 x46 x47 x48 x49 x50 x51 x52 x53 x54 x55 x56 x57 x58 x59 x60 x61 x62 x63 x64 x65 x66 x67 x68 x69 x70 x71 x72 x73 x74 x75 x76 x77 x78 x79 x80 x81 x82 x83 x84 x85 x86 x87 x88 x89 x90 x91 x92 x93 x94 x95 x96 x97) H _ := hH
  have hH2 := w2_hx (w2_of (w1_of hH))
  have hI := w2_inv (E := E) (Z := Z) (x0 := x0) (x1 := x1) (x2 := x2) (x3 := x3) (x4 := x4) (x5 := x5) (x6 := x6) (x7 := x7) (x8 := x8) (x9 := x9) (x10 := x10) (x11 := x11) (x12 := x12) (x13 := x13) (x14 := x14) (x15 := x15) (x16 := x16) (x17 := x17) (x18 := x18) (x19 := x19) (x20 := x20) (x21 := x21) (x22 := x22) (x23 := x23) (x24 := x24) (x25 := x25) (x26 := x26) (x27 := x27) (x28 := x28) (x29 := x29) (x30 := x30) (x31 := x31) (x32 := x32) (x33 := x33) (x34 := x34) (x35 := x35) (x36 := x36) (x37 := x37) (x38 := x38) (x39 := x39) (x40 := x40) (x41 := x41) (x42 := x42) (x43 := x43) (x44 := x44) (x45 := x45) (x46 := x46) (x47 := x47) (x48 := x48) (x49 := x49) (x50 := x50) (x51 := x51) (x52 := x52) (x53 := x53) (x54 := x54) (x55 := x55) (x56 := x56) (x57 := x57) (x58 := x58) (x59 := x59) (x60 := x60) (x61 := x61) (x62 := x62) (x63 := x63) (x64 := x64) (x65 := x65) (x66 := x66) (x67 := x67) (x68 := x68) (x69 := x69) (x70 := x70) (x71 := x71) (x72 := x72) (x73 := x73) (x74 := x74) (x75 := x75) (x76 := x76) (x77 := x77) (x78 := x78) (x79 := x79) (x80 := x80) (x81 := x81) (x82 := x82) (x83 := x83) (x84 := x84) (x85 := x85) (x86 := x86) (x87 := x87) (x88 := x88) (x89 := x89) (x90 := x90) (x91 := x91) (x92 := x92) (x93 := x93) (x94 := x94) (x95 := x95) (x96 := x96) (x97 := x97)
  refine W.widen (k := 100 + 10 * 0) (n := 3000 + 100 * 0) (Nat.le_of_ble_eq_true rfl) (Nat.le_of_ble_eq_true rfl) ?_
  have hl : lv_has ls 10 [(5, .int (iZ (4 * ((0 : Nat) : Int)))), (0, .ref b), (1, .ref x0), (2, .ref x85), (3, .ref x96), (4, .ref x97)] := lv_sub hl [0, 5, 4, 3, 2, 1] rfl
  exact law_loop (E := xE2 E (w2A x0 x1 x2 x3 x4 x5 x6 x7 x8 x9 x10 x11 x12 x13 x14 x15 x16 x17 x18 x19 x20 x21 x22 x23 x24 x25 x26 x27 x28 x29 x30 x31 x32 x33 x34 x35 x36 x37 x38 x39 x40 x41 x42 x43 x44 x45 x46 x47 x48 x49 x50 x51 x52 x53 x54 x55 x56 x57 x58 x59 x60 x61 x62 x63 x64 x65 x66 x67 x68 x69 x70 x71 x72 x73 x74 x75 x76 x77 x78 x79 x80 x81 x82 x83 x84 x85 x86 x87 x88 x89 x90 x91 x92 x93 x94 x95 x96 x97)) (ST := zST Z) (Z := Z) (l := l) ⟨hx, hb, hml, hown, hwl, hK, hST, hSF, zST_SX Z, hSQ, htr, hX, hbl, hlocks, hr, hL⟩ (L + 1) 0 _ H _ ls (by omega) (by omega) hI hH2 hl
