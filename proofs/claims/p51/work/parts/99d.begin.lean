set_option maxRecDepth 100000 in
set_option maxHeartbeats 16000000 in
/-- THE LAW, from its entry -/
theorem whole_start {p : Program} {e : Env} {s : State} {m : MethodId} {below : List Frame} {meth : Method} {c : Code} (l : Launch) (hflags : l.flags = flags0) {b L : Nat} {xs : Nat → Int32} (hL : L ≤ 260) (C0 : lw_At p s m meth c b L xs) : W p l e room_1 s m #[Value.ref b] below meth c s.heap [] 0 0 (lw_Z below #[Value.ref b] s) (entryFrame m ([Value.ref b] : List Value).toArray 4) := by
  obtain ⟨hx, hb, hr, hml, hown, hts, hX, hbl, hlocks, hgv⟩ := C0
  have hown : s.vm.findClass RL = some m.cls := hown
  have htr : l.stackTraces = false := by
    unfold Launch.stackTraces
    rw [hflags]
    decide +kernel
  have hwX := lw_s6_ok hts
  have hwl : ∀ w ∈ wsL_law, w.before #[Value.ref b] s = true := fun w h => hwX w (wsL_law_in w h)
  have hwA : ∀ w ∈ wsA, w.before #[Value.ref b] s = true := fun w h => (List.mem_append.mp h).elim (fun h => hwX w (wsXQ_in w h)) (hwl w)
  obtain ⟨Z, zx, zt, hST⟩ := zST_start hts hgv hX hbl
  generalize hQ : ((Z, b, L, zx, zt) : zQ) = Q9 at hST
  have hSF := zST_SF Q9
  have hSO := zST_SO Q9
  have hOK := zST_ok Q9
  have hSQ : SQ Z (zST Q9) := by rw [← hQ]; exact zST_SQ (Z, b, L, zx, zt)
  have hSC : SC b L zx (zST Q9) := by rw [← hQ]; exact zST_SC (Z, b, L, zx, zt)
  have hS4 : S4 zt (zST Q9) := by rw [← hQ]; exact zST_S4 (Z, b, L, zx, zt)
  obtain ⟨c0, iS0, hKn0⟩ := u_known (C := RX1) (T := TX1) (N := 9) (n := 9) hwl inlX1 (hts _ (List.mem_append_right _ (List.mem_of_getElem? (l := tables_1) (i := 38) (a := Cond.instantiable RX1 9) (by decide +kernel))))
  obtain ⟨c1, iS1, hKn1⟩ := u_known (C := RX3) (T := TX3) (N := 3) (n := 3) hwl inlX3 (hts _ (List.mem_append_right _ (List.mem_of_getElem? (l := tables_1) (i := 84) (a := Cond.instantiable RX3 3) (by decide +kernel))))
  obtain ⟨c2, iS2, hKn2⟩ := u_known (C := RX4) (T := TX4) (N := 5) (n := 5) hwl inlX4 (hts _ (List.mem_append_right _ (List.mem_of_getElem? (l := tables_1) (i := 129) (a := Cond.instantiable RX4 5) (by decide +kernel))))
  obtain ⟨c3, iS3, hKn3⟩ := u_known (C := RX5) (T := TX5) (N := 5) (n := 5) hwl inlX5 (hts _ (List.mem_append_right _ (List.mem_of_getElem? (l := tables_1) (i := 103) (a := Cond.instantiable RX5 5) (by decide +kernel))))
  obtain ⟨c4, iS4, hKn4⟩ := u_known (C := RX6) (T := TX6) (N := 12) (n := 12) hwl inlX6 (hts _ (List.mem_append_right _ (List.mem_of_getElem? (l := tables_1) (i := 30) (a := Cond.instantiable RX6 12) (by decide +kernel))))
  obtain ⟨c5, iS5, hKn5⟩ := u_known (C := RJ0) (T := TJ0) (N := 4) (n := 4) hwl inlJ0 (hts _ (List.mem_append_right _ (List.mem_of_getElem? (l := tables_1) (i := 998) (a := Cond.instantiable RJ0 4) (by decide +kernel))))
  obtain ⟨c6, iS6, hKn6⟩ := u_known (C := RJ4) (T := TJ4) (N := 4) (n := 4) hwl inlJ4 (hts _ (List.mem_append_right _ (List.mem_of_getElem? (l := tables_1) (i := 851) (a := Cond.instantiable RJ4 4) (by decide +kernel))))
  obtain ⟨kI, hAI, hNI⟩ := kA_of (hts _ (List.mem_append_right _ (List.mem_of_getElem? (l := tables_1) (i := 82) (a := Cond.arrayClass .int) (by decide +kernel))))
  obtain ⟨kC, hAC, hNC⟩ := kA_of (hts _ (List.mem_append_right _ (List.mem_of_getElem? (l := tables_1) (i := 155) (a := Cond.arrayClass .char) (by decide +kernel))))
  obtain ⟨kY, hAY, hNY⟩ := kA_of (hts _ (List.mem_append_right _ (List.mem_of_getElem? (l := tables_1) (i := 309) (a := Cond.arrayClass .byte) (by decide +kernel))))
  obtain ⟨kB, hAB, hRB⟩ := kO_of (hts _ (List.mem_append_right _ (List.mem_of_getElem? (l := tables_1) (i := 90) (a := Cond.arrayOver (.object RX1)) (by decide +kernel))))
  obtain ⟨E, eE⟩ : ∃ E : xE, E = ((fun k => if k = 0 then c0 else if k = 1 then c1 else if k = 2 then c2 else if k = 3 then c3 else if k = 4 then c4 else if k = 5 then c5 else c6, fun k => if k = 0 then iS0 else if k = 1 then iS1 else if k = 2 then iS2 else if k = 3 then iS3 else if k = 4 then iS4 else if k = 5 then iS5 else iS6), fun _ => 0, (kI, kC, kB, kY), 0) := ⟨_, rfl⟩
  have hK : va_K E.1 vwCl (xT E) s := by
    subst eE
    refine ⟨fun k q hq => ?_, fun k q hq => ?_⟩
    · match k, hq with
      | 0, hq => cases hq; exact hKn0
      | 1, hq => cases hq; exact hKn1
      | 2, hq => cases hq; exact hKn2
      | 3, hq => cases hq; exact hKn3
      | 4, hq => cases hq; exact hKn4
      | 5, hq => cases hq; exact hKn5
      | 6, hq => cases hq; exact hKn6
      | k + 7, hq => simp [vwCl] at hq
    · match k, hq with
      | 0, hq => cases hq; exact ⟨hAI, hNI⟩
      | 1, hq => cases hq; exact ⟨hAC, hNC⟩
      | 2, hq => cases hq; exact ⟨hAB, hRB⟩
      | 3, hq => cases hq; exact ⟨hAY, hNY⟩
      | k + 4, hq => simp [xT] at hq
  clear eE
  have hH : Hy E (fun q => s.heap.size ≤ q) s.heap [] s.heap [] := ⟨fun k q h => by simp at h, ⟨fun i j p q h => by simp at h, fun k q h => by simp at h⟩, va_S.rf, fun q h => h⟩
  have hl := lv_entry ([.ref b]) (n := 4) (Nat.le_of_ble_eq_true rfl)
  rw [lg_entry_eq]
  generalize (lg_sl ([.ref b]) ++ List.replicate (4 - (lg_sl ([.ref b])).length) Slot.unset).toArray = ls at hl ⊢
  have hl : lv_has ls 4 [(0, .ref b)] := hl
  refine y_mk (U9 := U6) (L := L6 E zt) (fs := [.null, .null, .null, .null, .int (iZ (b2 false)), .null, .null, .null, .int (iZ 0), .int (iZ 0), .null, .int (iZ 0)]) hx hb hml hwl hown hK hST hOK hH (c_X6_init l E (zST Q9) hSF hSO zt hS4) (T := TX6) (N := 12) inlX6 tyX6 tyX6_ok (List.mem_of_getElem? (i := 0) (by decide +kernel)) (List.mem_of_getElem? (i := 1) (by decide +kernel)) (List.mem_of_getElem? (i := 2) (by decide +kernel)) rfl (fun j hj => by rcases (show j = 0 ∨ j = 1 ∨ j = 2 ∨ j = 3 ∨ j = 4 ∨ j = 5 ∨ j = 6 ∨ j = 7 ∨ j = 8 ∨ j = 9 ∨ j = 10 ∨ j = 11 by omega) with rfl | rfl | rfl | rfl | rfl | rfl | rfl | rfl | rfl | rfl | rfl | rfl <;> rfl) (cwI 0 hwl gC_X6_init rfl rfl rfl (hwl _ (List.mem_of_getElem? (i := 2) (by decide +kernel))) (hwl _ (List.mem_of_getElem? (i := 3) (by decide +kernel))) (hwl _ (List.mem_of_getElem? (i := 4) (by decide +kernel))) rfl (by decide +kernel) ⟨Nat.le_of_ble_eq_true rfl, Nat.le_of_ble_eq_true rfl⟩) hl.1 (Nat.le_of_ble_eq_true rfl) dL_law_0 dL_law_3 dL_law_4 (Nat.le_of_ble_eq_true rfl) (Nat.le_of_ble_eq_true rfl) (fun x0 u6 H locs hH => ?_)
  refine lv_astore_n (lv' := [(1, .ref x0), (0, .ref b)]) hx hb dL_law_7 rfl hl (by decide) rfl (fun ls hl => ?_)
  obtain ⟨⟨x1, x2, x3, x4, x5, x6⟩, ⟨x7, x8, x9, x10, x11, x12⟩, ⟨x13, x14, x15, x16, x17, x18⟩, ⟨x19, x20, x21, x22, x23, x24⟩, ⟨x73, x74, ⟨x25, x26, x27, x28, x29, x30⟩, ⟨x31, x32, x33, x34, x35, x36⟩, ⟨x37, x38, x39, x40, x41, x42⟩, ⟨x43, x44, x45, x46, x47, x48⟩, ⟨x49, x50, x51, x52, x53, x54⟩, ⟨x55, x56, x57, x58, x59, x60⟩, ⟨x61, x62, x63, x64, x65, x66⟩, ⟨x67, x68, x69, x70, x71, x72⟩⟩, ⟨x75, x76, x77, x78, x79, x80⟩, ⟨x81, x82, x83⟩, x84⟩ := u6
  have hH : Hy E (fun q => s.heap.size ≤ q) s.heap (w0L E zt x0 x1 x2 x3 x4 x5 x6 x7 x8 x9 x10 x11 x12 x13 x14 x15 x16 x17 x18 x19 x20 x21 x22 x23 x24 x25 x26 x27 x28 x29 x30 x31 x32 x33 x34 x35 x36 x37 x38 x39 x40 x41 x42 x43 x44 x45 x46 x47 x48 x49 x50 x51 x52 x53 x54 x55 x56 x57 x58 x59 x60 x61 x62 x63 x64 x65 x66 x67 x68 x69 x70 x71 x72 x73 x74 x75 x76 x77 x78 x79 x80 x81 x82 x83 x84) H _ := hH
  have hH := w2_hx (w2_of (w1_of hH))
  have hc := w2_cw (E := E) (zt := zt) (x0 := x0) (x1 := x1) (x2 := x2) (x3 := x3) (x4 := x4) (x5 := x5) (x6 := x6) (x7 := x7) (x8 := x8) (x9 := x9) (x10 := x10) (x11 := x11) (x12 := x12) (x13 := x13) (x14 := x14) (x15 := x15) (x16 := x16) (x17 := x17) (x18 := x18) (x19 := x19) (x20 := x20) (x21 := x21) (x22 := x22) (x23 := x23) (x24 := x24) (x25 := x25) (x26 := x26) (x27 := x27) (x28 := x28) (x29 := x29) (x30 := x30) (x31 := x31) (x32 := x32) (x33 := x33) (x34 := x34) (x35 := x35) (x36 := x36) (x37 := x37) (x38 := x38) (x39 := x39) (x40 := x40) (x41 := x41) (x42 := x42) (x43 := x43) (x44 := x44) (x45 := x45) (x46 := x46) (x47 := x47) (x48 := x48) (x49 := x49) (x50 := x50) (x51 := x51) (x52 := x52) (x53 := x53) (x54 := x54) (x55 := x55) (x56 := x56) (x57 := x57) (x58 := x58) (x59 := x59) (x60 := x60) (x61 := x61) (x62 := x62) (x63 := x63) (x64 := x64) (x65 := x65) (x66 := x66) (x67 := x67) (x68 := x68) (x69 := x69) (x70 := x70) (x71 := x71) (x72 := x72) (x73 := x73) (x74 := x74) (x75 := x75) (x76 := x76) (x77 := x77) (x78 := x78) (x79 := x79) (x80 := x80) (x81 := x81) (x82 := x82) (x83 := x83) (x84 := x84)
  have a0 : xad (xE2 E (w2A x0 x1 x2 x3 x4 x5 x6 x7 x8 x9 x10 x11 x12 x13 x14 x15 x16 x17 x18 x19 x20 x21 x22 x23 x24 x25 x26 x27 x28 x29 x30 x31 x32 x33 x34 x35 x36 x37 x38 x39 x40 x41 x42 x43 x44 x45 x46 x47 x48 x49 x50 x51 x52 x53 x54 x55 x56 x57 x58 x59 x60 x61 x62 x63 x64 x65 x66 x67 x68 x69 x70 x71 x72 x73 x74 x75 x76 x77 x78 x79 x80 x81 x82 x83 x84)) 0 = x0 := rfl
  rw [← a0] at hl
  have hK : va_K (xE2 E (w2A x0 x1 x2 x3 x4 x5 x6 x7 x8 x9 x10 x11 x12 x13 x14 x15 x16 x17 x18 x19 x20 x21 x22 x23 x24 x25 x26 x27 x28 x29 x30 x31 x32 x33 x34 x35 x36 x37 x38 x39 x40 x41 x42 x43 x44 x45 x46 x47 x48 x49 x50 x51 x52 x53 x54 x55 x56 x57 x58 x59 x60 x61 x62 x63 x64 x65 x66 x67 x68 x69 x70 x71 x72 x73 x74 x75 x76 x77 x78 x79 x80 x81 x82 x83 x84)).1 vwCl (xT (xE2 E (w2A x0 x1 x2 x3 x4 x5 x6 x7 x8 x9 x10 x11 x12 x13 x14 x15 x16 x17 x18 x19 x20 x21 x22 x23 x24 x25 x26 x27 x28 x29 x30 x31 x32 x33 x34 x35 x36 x37 x38 x39 x40 x41 x42 x43 x44 x45 x46 x47 x48 x49 x50 x51 x52 x53 x54 x55 x56 x57 x58 x59 x60 x61 x62 x63 x64 x65 x66 x67 x68 x69 x70 x71 x72 x73 x74 x75 x76 x77 x78 x79 x80 x81 x82 x83 x84))) s := hK
  generalize xE2 E (w2A x0 x1 x2 x3 x4 x5 x6 x7 x8 x9 x10 x11 x12 x13 x14 x15 x16 x17 x18 x19 x20 x21 x22 x23 x24 x25 x26 x27 x28 x29 x30 x31 x32 x33 x34 x35 x36 x37 x38 x39 x40 x41 x42 x43 x44 x45 x46 x47 x48 x49 x50 x51 x52 x53 x54 x55 x56 x57 x58 x59 x60 x61 x62 x63 x64 x65 x66 x67 x68 x69 x70 x71 x72 x73 x74 x75 x76 x77 x78 x79 x80 x81 x82 x83 x84) = E2 at hH hc hl hK
  generalize xW2 (w2E E zt x0 x1 x2 x3 x4 x5 x6 x7 x8 x9 x10 x11 x12 x13 x14 x15 x16 x17 x18 x19 x20 x21 x22 x23 x24 x25 x26 x27 x28 x29 x30 x31 x32 x33 x34 x35 x36 x37 x38 x39 x40 x41 x42 x43 x44 x45 x46 x47 x48 x49 x50 x51 x52 x53 x54 x55 x56 x57 x58 x59 x60 x61 x62 x63 x64 x65 x66 x67 x68 x69 x70 x71 x72 x73 x74 x75 x76 x77 x78 x79 x80 x81 x82 x83 x84) = σ0 at hH hc
  clear a0
  refine lv_aload_n hx hb dL_law_8 rfl (lv_at hl 0 rfl) ?_
  refine lv_aload_n hx hb dL_law_9 rfl (lv_at hl 1 rfl) ?_
  refine x_cSV (As := [.ref (xad E2 0), .ref b]) (rest := []) hx hb hml hwA hown hK hST hOK hH (c_L_lay l E2 (zST Q9) hSF b L zx hSC hL (zST_SX Q9) htr σ0 B0 none (fun _ => 0, 0) hc) (va_cwS 2 hwA gK_276 rfl rfl rfl (by decide +kernel) ⟨Nat.le_of_ble_eq_true rfl, Nat.le_of_ble_eq_true rfl⟩) rfl hl.1 rfl (Nat.le_of_ble_eq_true rfl) dL_law_10 ⟨Nat.le_of_ble_eq_true rfl, Nat.le_of_ble_eq_true rfl⟩ (fun σ1 H locs hp hH => ?_)
  obtain ⟨⟨B1, hc1⟩, -⟩ := hp
  refine x_iconst (n := 0) hx hb dL_law_13 ?_
  refine lv_istore_n (lv' := [(2, .int (iZ 0)), (1, .ref (xad E2 0)), (0, .ref b)]) hx hb dL_law_14 rfl hl (by decide) rfl (fun ls hl => ?_)
  refine W.widen (k := 300 + 43600 * 0) (n := 4000 + 580000 * 0) (Nat.le_of_ble_eq_true rfl) (Nat.le_of_ble_eq_true rfl) ?_
  exact law_loop (E := E2) (ST := zST Q9) (Z := Z) (zx := zx) (l := l) ⟨hx, hb, hml, hown, hwA, hK, hST, hSF, zST_SX Q9, hSQ, hSC, htr, hlocks, hr, hL⟩ 9 0 B1 none (fun _ => 0, 0) σ1 H locs ls (by decide) (by decide) hc1 hH hl
