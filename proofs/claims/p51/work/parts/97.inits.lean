/-! ===== the constructors ===== -/
def S4 (zt : Nat) (ST : xST) : Prop := ∀ (A : Nat → Prop) (U : State) (H : Heap), ST A U H → va_Z RX2 "TILE" "LBrambleShift$Command;" (.ref zt) A U H
abbrev U1 : Type := Nat × Nat × Nat × Nat × Nat
def L1 (E : xE) (b : Nat) (u : U1) : va_W := [(b, oB 0 [.ref u.1, .ref u.2.1, .ref u.2.2.1, .ref u.2.2.2.1, .ref u.2.2.2.2, .int (iZ 0), .int (iZ 0), .int (iZ 0), .long (lZ 0)]), (u.1, aI E 25 (fun _ => 15)), (u.2.1, aI E 25 (fun _ => -1)), (u.2.2.1, aI E 6 (fun _ => -1)), (u.2.2.2.1, aI E 3 (fun _ => 0)), (u.2.2.2.2, aI E 5 (fun _ => 0))]
abbrev UB : Type := Nat × U1
abbrev U3 : Type := Nat × UB × UB × UB × UB × UB × UB × UB × UB
def rwB (u : U3) : Nat → Option Nat := fun j => ([some u.2.1.1, some u.2.2.1.1, some u.2.2.2.1.1, some u.2.2.2.2.1.1, some u.2.2.2.2.2.1.1, some u.2.2.2.2.2.2.1.1, some u.2.2.2.2.2.2.2.1.1, some u.2.2.2.2.2.2.2.2.1] : List (Option Nat)).getD j none
def L3 (E : xE) (h : Nat) (u : U3) : va_W := (h, oB 1 [.ref u.1, .int (iZ 0), .int (iZ 0)]) :: (([(u.1, .inl (xBd E, 8, .inr (.inr (.inr (.inr (rwB u))))))] : va_W) ++ L1 E u.2.1.1 u.2.1.2 ++ L1 E u.2.2.1.1 u.2.2.1.2 ++ L1 E u.2.2.2.1.1 u.2.2.2.1.2 ++ L1 E u.2.2.2.2.1.1 u.2.2.2.2.1.2 ++ L1 E u.2.2.2.2.2.1.1 u.2.2.2.2.2.1.2 ++ L1 E u.2.2.2.2.2.2.1.1 u.2.2.2.2.2.2.1.2 ++ L1 E u.2.2.2.2.2.2.2.1.1 u.2.2.2.2.2.2.2.1.2 ++ L1 E u.2.2.2.2.2.2.2.2.1 u.2.2.2.2.2.2.2.2.2)
abbrev U4 : Type := Nat × Nat
def L4 (E : xE) (zt : Nat) (h : Nat) (u : U4) : va_W := [(h, oB 2 [.ref u.1, .int (iZ 0), .int (iZ 0), .ref zt, .ref u.2]), (u.1, aC E 60 (fun _ => 0)), (u.2, aI E 3 (fun _ => 0))]
def L5 (E : xE) (h : Nat) (u : U1) : va_W := [(h, oB 3 [.ref u.1, .ref u.2.1, .ref u.2.2.1, .ref u.2.2.2.1, .ref u.2.2.2.2]), (u.1, aI E 25 (fun _ => 0)), (u.2.1, aI E 25 (fun _ => 0)), (u.2.2.1, aI E 25 (fun _ => 0)), (u.2.2.2.1, aI E 25 (fun _ => 0)), (u.2.2.2.2, aI E 25 (fun _ => 0))]
abbrev U6 : Type := UB × UB × UB × UB × (Nat × U3) × (Nat × U1) × (Nat × U4) × Nat
def L6 (E : xE) (zt : Nat) (h : Nat) (u : U6) : va_W := (h, oB 4 [.ref u.1.1, .ref u.2.1.1, .ref u.2.2.1.1, .ref u.2.2.2.1.1, .int (iZ (b2 false)), .ref u.2.2.2.2.1.1, .ref u.2.2.2.2.2.1.1, .ref u.2.2.2.2.2.2.1.1, .int (iZ (-1)), .int (iZ (-1)), .ref u.2.2.2.2.2.2.2, .int (iZ 0)]) :: (L1 E u.1.1 u.1.2 ++ L1 E u.2.1.1 u.2.1.2 ++ L1 E u.2.2.1.1 u.2.2.1.2 ++ L1 E u.2.2.2.1.1 u.2.2.2.1.2 ++ L3 E u.2.2.2.2.1.1 u.2.2.2.2.1.2 ++ L5 E u.2.2.2.2.2.1.1 u.2.2.2.2.2.1.2 ++ L4 E zt u.2.2.2.2.2.2.1.1 u.2.2.2.2.2.2.1.2 ++ ([(u.2.2.2.2.2.2.2, aC E 35 (fun _ => 0))] : va_W))
theorem Hy.normB {E : xE} {A : Nat → Prop} {H0 H : Heap} {locs : List Loc} {W9 : va_W} (hH : Hy E A H0 W9 H locs) (k0 : Nat) {a N : Nat} {cA : ClassId} {f g : Nat → Option Nat} (he : W9[k0]? = some (a, .inl (cA, N, .inr (.inr (.inr (.inr f)))))) (h : ∀ j : Nat, j < N → f j = g j) : Hy E A H0 (W9.set k0 (a, .inl (cA, N, .inr (.inr (.inr (.inr g)))))) H locs := by
  obtain ⟨hP, hD, hS, hA⟩ := hH
  have e : va_at E.1 vwCl (a, .inl (cA, N, .inr (.inr (.inr (.inr g))))) H := by
    have h1 : H[a]? = some (vp_cell cA (N, .inr (.inr (.inr (.inr f))))) := hP k0 _ he
    show H[a]? = some (vp_cell cA (N, .inr (.inr (.inr (.inr g)))))
    rw [h1, vp_cell_q, vp_cell_q]
    unfold arrV
    congr 2
    apply Array.ext
    · simp
    · intro i h1 h2
      simp
      rw [h i (by simpa using h1)]
  exact ⟨hP.set hD he e (fun _ _ => rfl), hD.set he, hS, hA⟩
def rm_X1_init : Room := { frames := 1, cells := 5, slots := 64, locals := 24 }
set_option maxRecDepth 100000 in
set_option maxHeartbeats 8000000 in
theorem c_X1_init (l : Launch) (E : xE) (ST : xST) (hSF : SF ST) : CN U1 l E ST yX1_init wsX1_init rm_X1_init 0 [.null, .null, .null, .null, .null, .int (iZ 0), .int (iZ 0), .int (iZ 0), .long (lZ 0)] (L1 E) := by
  refine CN_of (by decide) rfl (Nat.le_of_ble_eq_true rfl) rfl ?_
  intro p e s m args below meth c Q ls h0 A G hH hl hQ
  obtain ⟨hx, hb, hml, hown, hts, hK, hST, hlocks, hr, hname⟩ := G
  have hOK := hSF.1
  have hown : s.vm.findClass RX1 = some m.cls := hown
  have hinX1 : ∀ w ∈ u_ws RX1 TX1 9, w ∈ wsX1_init := fun w h => (List.mem_cons_of_mem _ (List.mem_append_right _ h))
  refine lv_aload_n hx hb dX1_init_0 rfl (lv_at hl 0 rfl) ?_
  refine W.objInit hx hb hown (hts _ (List.mem_of_getElem? (i := 1) rfl)) (hts _ (List.mem_of_getElem? (i := 2) rfl)) (hts _ (List.mem_of_getElem? (i := 3) rfl)) rfl (by rw [hml]; exact hl.1) rfl dX1_init_1 (Nat.le_of_ble_eq_true rfl) (Nat.le_of_ble_eq_true rfl) ?_
  refine W.eq (g2 := F0 m 4 ls []) rfl ?_
  refine lv_aload_n hx hb dX1_init_4 rfl (lv_at hl 0 rfl) ?_
  refine x_bipush (n := 25) hx hb dX1_init_5 (by decide) ?_
  refine y_newI (N := 25) hx hb hts hK hH (List.mem_of_getElem? (i := 4) rfl) rfl (by decide) (Nat.le_of_ble_eq_true rfl) (Nat.le_of_ble_eq_true rfl) dX1_init_7 (fun q1 H hH => ?_)
  have hH : Hy E A s.heap ((h0, oB 0 [.null, .null, .null, .null, .null, .int (iZ 0), .int (iZ 0), .int (iZ 0), .long (lZ 0)]) :: [(q1, aI E 25 (fun _ => 0))]) H _ := hH
  refine y_putF (fs' := [.ref q1, .null, .null, .null, .null, .int (iZ 0), .int (iZ 0), .int (iZ 0), .long (lZ 0)]) (v := .ref q1) hx hb hts hown hK hH (T := TX1) (N := 9) hinX1 tyX1 tyX1_ok nmX1 rfl 0 (by decide) (List.mem_of_getElem? (i := 5) rfl) rfl hname rfl (ty := tyX1 0) (tyX1_ok 0 (by decide)) rfl rfl (Nat.le_of_ble_eq_true rfl) rfl dX1_init_9 (fun H locs hH => ?_)
  have hH : Hy E A s.heap ((h0, oB 0 [.ref q1, .null, .null, .null, .null, .int (iZ 0), .int (iZ 0), .int (iZ 0), .long (lZ 0)]) :: [(q1, aI E 25 (fun _ => 0))]) H _ := hH
  refine lv_aload_n hx hb dX1_init_12 rfl (lv_at hl 0 rfl) ?_
  refine x_bipush (n := 25) hx hb dX1_init_13 (by decide) ?_
  refine y_newI (N := 25) hx hb hts hK hH (List.mem_of_getElem? (i := 4) rfl) rfl (by decide) (Nat.le_of_ble_eq_true rfl) (Nat.le_of_ble_eq_true rfl) dX1_init_15 (fun q2 H hH => ?_)
  have hH : Hy E A s.heap ((h0, oB 0 [.ref q1, .null, .null, .null, .null, .int (iZ 0), .int (iZ 0), .int (iZ 0), .long (lZ 0)]) :: [(q1, aI E 25 (fun _ => 0)), (q2, aI E 25 (fun _ => 0))]) H _ := hH
  refine y_putF (fs' := [.ref q1, .ref q2, .null, .null, .null, .int (iZ 0), .int (iZ 0), .int (iZ 0), .long (lZ 0)]) (v := .ref q2) hx hb hts hown hK hH (T := TX1) (N := 9) hinX1 tyX1 tyX1_ok nmX1 rfl 1 (by decide) (List.mem_of_getElem? (i := 6) rfl) rfl hname rfl (ty := tyX1 1) (tyX1_ok 1 (by decide)) rfl rfl (Nat.le_of_ble_eq_true rfl) rfl dX1_init_17 (fun H locs hH => ?_)
  have hH : Hy E A s.heap ((h0, oB 0 [.ref q1, .ref q2, .null, .null, .null, .int (iZ 0), .int (iZ 0), .int (iZ 0), .long (lZ 0)]) :: [(q1, aI E 25 (fun _ => 0)), (q2, aI E 25 (fun _ => 0))]) H _ := hH
  refine lv_aload_n hx hb dX1_init_20 rfl (lv_at hl 0 rfl) ?_
  refine x_bipush (n := 6) hx hb dX1_init_21 (by decide) ?_
  refine y_newI (N := 6) hx hb hts hK hH (List.mem_of_getElem? (i := 4) rfl) rfl (by decide) (Nat.le_of_ble_eq_true rfl) (Nat.le_of_ble_eq_true rfl) dX1_init_23 (fun q3 H hH => ?_)
  have hH : Hy E A s.heap ((h0, oB 0 [.ref q1, .ref q2, .null, .null, .null, .int (iZ 0), .int (iZ 0), .int (iZ 0), .long (lZ 0)]) :: [(q1, aI E 25 (fun _ => 0)), (q2, aI E 25 (fun _ => 0)), (q3, aI E 6 (fun _ => 0))]) H _ := hH
  refine y_putF (fs' := [.ref q1, .ref q2, .ref q3, .null, .null, .int (iZ 0), .int (iZ 0), .int (iZ 0), .long (lZ 0)]) (v := .ref q3) hx hb hts hown hK hH (T := TX1) (N := 9) hinX1 tyX1 tyX1_ok nmX1 rfl 2 (by decide) (List.mem_of_getElem? (i := 7) rfl) rfl hname rfl (ty := tyX1 2) (tyX1_ok 2 (by decide)) rfl rfl (Nat.le_of_ble_eq_true rfl) rfl dX1_init_25 (fun H locs hH => ?_)
  have hH : Hy E A s.heap ((h0, oB 0 [.ref q1, .ref q2, .ref q3, .null, .null, .int (iZ 0), .int (iZ 0), .int (iZ 0), .long (lZ 0)]) :: [(q1, aI E 25 (fun _ => 0)), (q2, aI E 25 (fun _ => 0)), (q3, aI E 6 (fun _ => 0))]) H _ := hH
  refine lv_aload_n hx hb dX1_init_28 rfl (lv_at hl 0 rfl) ?_
  refine x_iconst (n := 3) hx hb dX1_init_29 ?_
  refine y_newI (N := 3) hx hb hts hK hH (List.mem_of_getElem? (i := 4) rfl) rfl (by decide) (Nat.le_of_ble_eq_true rfl) (Nat.le_of_ble_eq_true rfl) dX1_init_30 (fun q4 H hH => ?_)
  have hH : Hy E A s.heap ((h0, oB 0 [.ref q1, .ref q2, .ref q3, .null, .null, .int (iZ 0), .int (iZ 0), .int (iZ 0), .long (lZ 0)]) :: [(q1, aI E 25 (fun _ => 0)), (q2, aI E 25 (fun _ => 0)), (q3, aI E 6 (fun _ => 0)), (q4, aI E 3 (fun _ => 0))]) H _ := hH
  refine y_putF (fs' := [.ref q1, .ref q2, .ref q3, .ref q4, .null, .int (iZ 0), .int (iZ 0), .int (iZ 0), .long (lZ 0)]) (v := .ref q4) hx hb hts hown hK hH (T := TX1) (N := 9) hinX1 tyX1 tyX1_ok nmX1 rfl 3 (by decide) (List.mem_of_getElem? (i := 8) rfl) rfl hname rfl (ty := tyX1 3) (tyX1_ok 3 (by decide)) rfl rfl (Nat.le_of_ble_eq_true rfl) rfl dX1_init_32 (fun H locs hH => ?_)
  have hH : Hy E A s.heap ((h0, oB 0 [.ref q1, .ref q2, .ref q3, .ref q4, .null, .int (iZ 0), .int (iZ 0), .int (iZ 0), .long (lZ 0)]) :: [(q1, aI E 25 (fun _ => 0)), (q2, aI E 25 (fun _ => 0)), (q3, aI E 6 (fun _ => 0)), (q4, aI E 3 (fun _ => 0))]) H _ := hH
  refine lv_aload_n hx hb dX1_init_35 rfl (lv_at hl 0 rfl) ?_
  refine x_iconst (n := 5) hx hb dX1_init_36 ?_
  refine y_newI (N := 5) hx hb hts hK hH (List.mem_of_getElem? (i := 4) rfl) rfl (by decide) (Nat.le_of_ble_eq_true rfl) (Nat.le_of_ble_eq_true rfl) dX1_init_37 (fun q5 H hH => ?_)
  have hH : Hy E A s.heap ((h0, oB 0 [.ref q1, .ref q2, .ref q3, .ref q4, .null, .int (iZ 0), .int (iZ 0), .int (iZ 0), .long (lZ 0)]) :: [(q1, aI E 25 (fun _ => 0)), (q2, aI E 25 (fun _ => 0)), (q3, aI E 6 (fun _ => 0)), (q4, aI E 3 (fun _ => 0)), (q5, aI E 5 (fun _ => 0))]) H _ := hH
  refine y_putF (fs' := [.ref q1, .ref q2, .ref q3, .ref q4, .ref q5, .int (iZ 0), .int (iZ 0), .int (iZ 0), .long (lZ 0)]) (v := .ref q5) hx hb hts hown hK hH (T := TX1) (N := 9) hinX1 tyX1 tyX1_ok nmX1 rfl 4 (by decide) (List.mem_of_getElem? (i := 9) rfl) rfl hname rfl (ty := tyX1 4) (tyX1_ok 4 (by decide)) rfl rfl (Nat.le_of_ble_eq_true rfl) rfl dX1_init_39 (fun H locs hH => ?_)
  have hH : Hy E A s.heap ((h0, oB 0 [.ref q1, .ref q2, .ref q3, .ref q4, .ref q5, .int (iZ 0), .int (iZ 0), .int (iZ 0), .long (lZ 0)]) :: [(q1, aI E 25 (fun _ => 0)), (q2, aI E 25 (fun _ => 0)), (q3, aI E 6 (fun _ => 0)), (q4, aI E 3 (fun _ => 0)), (q5, aI E 5 (fun _ => 0))]) H _ := hH
  refine lv_aload_n hx hb dX1_init_42 rfl (lv_at hl 0 rfl) ?_
  refine x_iconst (n := 0) hx hb dX1_init_43 ?_
  refine y_put (fs' := [.ref q1, .ref q2, .ref q3, .ref q4, .ref q5, .int (iZ 0), .int (iZ 0), .int (iZ 0), .long (lZ 0)]) (v := .int (iZ 0)) hx hb hts hown hK hH (T := TX1) (N := 9) hinX1 tyX1 tyX1_ok nmX1 rfl 5 (by decide) (List.mem_of_getElem? (i := 10) rfl) rfl (ty := tyX1 5) (tyX1_ok 5 (by decide)) rfl rfl (Nat.le_of_ble_eq_true rfl) rfl dX1_init_44 (fun H locs hH => ?_)
  have hH : Hy E A s.heap ((h0, oB 0 [.ref q1, .ref q2, .ref q3, .ref q4, .ref q5, .int (iZ 0), .int (iZ 0), .int (iZ 0), .long (lZ 0)]) :: [(q1, aI E 25 (fun _ => 0)), (q2, aI E 25 (fun _ => 0)), (q3, aI E 6 (fun _ => 0)), (q4, aI E 3 (fun _ => 0)), (q5, aI E 5 (fun _ => 0))]) H _ := hH
  refine lv_aload_n hx hb dX1_init_47 rfl (lv_at hl 0 rfl) ?_
  refine x_iconst (n := 0) hx hb dX1_init_48 ?_
  refine y_put (fs' := [.ref q1, .ref q2, .ref q3, .ref q4, .ref q5, .int (iZ 0), .int (iZ 0), .int (iZ 0), .long (lZ 0)]) (v := .int (iZ 0)) hx hb hts hown hK hH (T := TX1) (N := 9) hinX1 tyX1 tyX1_ok nmX1 rfl 6 (by decide) (List.mem_of_getElem? (i := 11) rfl) rfl (ty := tyX1 6) (tyX1_ok 6 (by decide)) rfl rfl (Nat.le_of_ble_eq_true rfl) rfl dX1_init_49 (fun H locs hH => ?_)
  have hH : Hy E A s.heap ((h0, oB 0 [.ref q1, .ref q2, .ref q3, .ref q4, .ref q5, .int (iZ 0), .int (iZ 0), .int (iZ 0), .long (lZ 0)]) :: [(q1, aI E 25 (fun _ => 0)), (q2, aI E 25 (fun _ => 0)), (q3, aI E 6 (fun _ => 0)), (q4, aI E 3 (fun _ => 0)), (q5, aI E 5 (fun _ => 0))]) H _ := hH
  refine lv_aload_n hx hb dX1_init_52 rfl (lv_at hl 0 rfl) ?_
  refine x_iconst (n := 0) hx hb dX1_init_53 ?_
  refine y_put (fs' := [.ref q1, .ref q2, .ref q3, .ref q4, .ref q5, .int (iZ 0), .int (iZ 0), .int (iZ 0), .long (lZ 0)]) (v := .int (iZ 0)) hx hb hts hown hK hH (T := TX1) (N := 9) hinX1 tyX1 tyX1_ok nmX1 rfl 7 (by decide) (List.mem_of_getElem? (i := 12) rfl) rfl (ty := tyX1 7) (tyX1_ok 7 (by decide)) rfl rfl (Nat.le_of_ble_eq_true rfl) rfl dX1_init_54 (fun H locs hH => ?_)
  have hH : Hy E A s.heap ((h0, oB 0 [.ref q1, .ref q2, .ref q3, .ref q4, .ref q5, .int (iZ 0), .int (iZ 0), .int (iZ 0), .long (lZ 0)]) :: [(q1, aI E 25 (fun _ => 0)), (q2, aI E 25 (fun _ => 0)), (q3, aI E 6 (fun _ => 0)), (q4, aI E 3 (fun _ => 0)), (q5, aI E 5 (fun _ => 0))]) H _ := hH
  refine lv_aload_n hx hb dX1_init_57 rfl (lv_at hl 0 rfl) ?_
  refine lv_lconst (v := lZ 0) hx hb dX1_init_58 rfl ?_
  refine y_put (fs' := [.ref q1, .ref q2, .ref q3, .ref q4, .ref q5, .int (iZ 0), .int (iZ 0), .int (iZ 0), .long (lZ 0)]) (v := .long (lZ 0)) hx hb hts hown hK hH (T := TX1) (N := 9) hinX1 tyX1 tyX1_ok nmX1 rfl 8 (by decide) (List.mem_of_getElem? (i := 13) rfl) rfl (ty := tyX1 8) (tyX1_ok 8 (by decide)) rfl rfl (Nat.le_of_ble_eq_true rfl) rfl dX1_init_59 (fun H locs hH => ?_)
  have hH : Hy E A s.heap ((h0, oB 0 [.ref q1, .ref q2, .ref q3, .ref q4, .ref q5, .int (iZ 0), .int (iZ 0), .int (iZ 0), .long (lZ 0)]) :: [(q1, aI E 25 (fun _ => 0)), (q2, aI E 25 (fun _ => 0)), (q3, aI E 6 (fun _ => 0)), (q4, aI E 3 (fun _ => 0)), (q5, aI E 5 (fun _ => 0))]) H _ := hH
  refine lv_aload_n hx hb dX1_init_62 rfl (lv_at hl 0 rfl) ?_
  refine y_get hx hb hts hown hK hH (T := TX1) (N := 9) hinX1 rfl 0 (by decide) (List.mem_of_getElem? (i := 5) rfl) rfl dX1_init_63 ?_
  refine x_bipush (n := 15) hx hb dX1_init_66 (by decide) ?_
  refine y_fill hx hb hml hts hown hK hST hOK hH 1 rfl (by decide) (v := 15) (va_cwS 2 hts gX1_init_J7_fill_53178 rfl rfl rfl (by decide +kernel) ⟨Nat.le_of_ble_eq_true rfl, Nat.le_of_ble_eq_true rfl⟩) hl.1 (Nat.le_of_ble_eq_true rfl) dX1_init_68 (Nat.le_of_ble_eq_true rfl) (Nat.le_of_ble_eq_true rfl) (fun H locs hH => ?_)
  have hH : Hy E A s.heap ((h0, oB 0 [.ref q1, .ref q2, .ref q3, .ref q4, .ref q5, .int (iZ 0), .int (iZ 0), .int (iZ 0), .long (lZ 0)]) :: [(q1, aI E 25 (fun _ => 15)), (q2, aI E 25 (fun _ => 0)), (q3, aI E 6 (fun _ => 0)), (q4, aI E 3 (fun _ => 0)), (q5, aI E 5 (fun _ => 0))]) H _ := hH
  refine lv_aload_n hx hb dX1_init_71 rfl (lv_at hl 0 rfl) ?_
  refine y_get hx hb hts hown hK hH (T := TX1) (N := 9) hinX1 rfl 1 (by decide) (List.mem_of_getElem? (i := 6) rfl) rfl dX1_init_72 ?_
  refine x_iconst (n := (-1)) hx hb dX1_init_75 ?_
  refine y_fill hx hb hml hts hown hK hST hOK hH 2 rfl (by decide) (v := -1) (va_cwS 2 hts gX1_init_J7_fill_53178 rfl rfl rfl (by decide +kernel) ⟨Nat.le_of_ble_eq_true rfl, Nat.le_of_ble_eq_true rfl⟩) hl.1 (Nat.le_of_ble_eq_true rfl) dX1_init_76 (Nat.le_of_ble_eq_true rfl) (Nat.le_of_ble_eq_true rfl) (fun H locs hH => ?_)
  have hH : Hy E A s.heap ((h0, oB 0 [.ref q1, .ref q2, .ref q3, .ref q4, .ref q5, .int (iZ 0), .int (iZ 0), .int (iZ 0), .long (lZ 0)]) :: [(q1, aI E 25 (fun _ => 15)), (q2, aI E 25 (fun _ => -1)), (q3, aI E 6 (fun _ => 0)), (q4, aI E 3 (fun _ => 0)), (q5, aI E 5 (fun _ => 0))]) H _ := hH
  refine lv_aload_n hx hb dX1_init_79 rfl (lv_at hl 0 rfl) ?_
  refine y_get hx hb hts hown hK hH (T := TX1) (N := 9) hinX1 rfl 2 (by decide) (List.mem_of_getElem? (i := 7) rfl) rfl dX1_init_80 ?_
  refine x_iconst (n := (-1)) hx hb dX1_init_83 ?_
  refine y_fill hx hb hml hts hown hK hST hOK hH 3 rfl (by decide) (v := -1) (va_cwS 2 hts gX1_init_J7_fill_53178 rfl rfl rfl (by decide +kernel) ⟨Nat.le_of_ble_eq_true rfl, Nat.le_of_ble_eq_true rfl⟩) hl.1 (Nat.le_of_ble_eq_true rfl) dX1_init_84 (Nat.le_of_ble_eq_true rfl) (Nat.le_of_ble_eq_true rfl) (fun H locs hH => ?_)
  have hH : Hy E A s.heap ((h0, oB 0 [.ref q1, .ref q2, .ref q3, .ref q4, .ref q5, .int (iZ 0), .int (iZ 0), .int (iZ 0), .long (lZ 0)]) :: [(q1, aI E 25 (fun _ => 15)), (q2, aI E 25 (fun _ => -1)), (q3, aI E 6 (fun _ => -1)), (q4, aI E 3 (fun _ => 0)), (q5, aI E 5 (fun _ => 0))]) H _ := hH
  subst hQ
  exact y_ret (L := L1 E) (u := (q1, q2, q3, q4, q5)) hx hb hr hlocks hH (Nat.le_of_ble_eq_true rfl) (Nat.le_of_ble_eq_true rfl) dX1_init_87
def rm_X5_init : Room := { frames := 1, cells := 5, slots := 125, locals := 24 }
set_option maxRecDepth 100000 in
set_option maxHeartbeats 8000000 in
theorem c_X5_init (l : Launch) (E : xE) (ST : xST) (hSF : SF ST) : CN U1 l E ST yX5_init wsX5_init rm_X5_init 3 [.null, .null, .null, .null, .null] (L5 E) := by
  refine CN_of (by decide) rfl (Nat.le_of_ble_eq_true rfl) rfl ?_
  intro p e s m args below meth c Q ls h0 A G hH hl hQ
  obtain ⟨hx, hb, hml, hown, hts, hK, hST, hlocks, hr, hname⟩ := G
  have hOK := hSF.1
  have hown : s.vm.findClass RX5 = some m.cls := hown
  have hinX5 : ∀ w ∈ u_ws RX5 TX5 5, w ∈ wsX5_init := fun w h => (List.mem_cons_of_mem _ (List.mem_append_right _ h))
  refine lv_aload_n hx hb dX5_init_0 rfl (lv_at hl 0 rfl) ?_
  refine W.objInit hx hb hown (hts _ (List.mem_of_getElem? (i := 1) rfl)) (hts _ (List.mem_of_getElem? (i := 2) rfl)) (hts _ (List.mem_of_getElem? (i := 3) rfl)) rfl (by rw [hml]; exact hl.1) rfl dX5_init_1 (Nat.le_of_ble_eq_true rfl) (Nat.le_of_ble_eq_true rfl) ?_
  refine W.eq (g2 := F0 m 4 ls []) rfl ?_
  refine lv_aload_n hx hb dX5_init_4 rfl (lv_at hl 0 rfl) ?_
  refine x_bipush (n := 25) hx hb dX5_init_5 (by decide) ?_
  refine y_newI (N := 25) hx hb hts hK hH (List.mem_of_getElem? (i := 4) rfl) rfl (by decide) (Nat.le_of_ble_eq_true rfl) (Nat.le_of_ble_eq_true rfl) dX5_init_7 (fun q1 H hH => ?_)
  have hH : Hy E A s.heap ((h0, oB 3 [.null, .null, .null, .null, .null]) :: [(q1, aI E 25 (fun _ => 0))]) H _ := hH
  refine y_putF (fs' := [.ref q1, .null, .null, .null, .null]) (v := .ref q1) hx hb hts hown hK hH (T := TX5) (N := 5) hinX5 tyX5 tyX5_ok nmX5 rfl 0 (by decide) (List.mem_of_getElem? (i := 5) rfl) rfl hname rfl (ty := tyX5 0) (tyX5_ok 0 (by decide)) rfl rfl (Nat.le_of_ble_eq_true rfl) rfl dX5_init_9 (fun H locs hH => ?_)
  have hH : Hy E A s.heap ((h0, oB 3 [.ref q1, .null, .null, .null, .null]) :: [(q1, aI E 25 (fun _ => 0))]) H _ := hH
  refine lv_aload_n hx hb dX5_init_12 rfl (lv_at hl 0 rfl) ?_
  refine x_bipush (n := 25) hx hb dX5_init_13 (by decide) ?_
  refine y_newI (N := 25) hx hb hts hK hH (List.mem_of_getElem? (i := 4) rfl) rfl (by decide) (Nat.le_of_ble_eq_true rfl) (Nat.le_of_ble_eq_true rfl) dX5_init_15 (fun q2 H hH => ?_)
  have hH : Hy E A s.heap ((h0, oB 3 [.ref q1, .null, .null, .null, .null]) :: [(q1, aI E 25 (fun _ => 0)), (q2, aI E 25 (fun _ => 0))]) H _ := hH
  refine y_putF (fs' := [.ref q1, .ref q2, .null, .null, .null]) (v := .ref q2) hx hb hts hown hK hH (T := TX5) (N := 5) hinX5 tyX5 tyX5_ok nmX5 rfl 1 (by decide) (List.mem_of_getElem? (i := 6) rfl) rfl hname rfl (ty := tyX5 1) (tyX5_ok 1 (by decide)) rfl rfl (Nat.le_of_ble_eq_true rfl) rfl dX5_init_17 (fun H locs hH => ?_)
  have hH : Hy E A s.heap ((h0, oB 3 [.ref q1, .ref q2, .null, .null, .null]) :: [(q1, aI E 25 (fun _ => 0)), (q2, aI E 25 (fun _ => 0))]) H _ := hH
  refine lv_aload_n hx hb dX5_init_20 rfl (lv_at hl 0 rfl) ?_
  refine x_bipush (n := 25) hx hb dX5_init_21 (by decide) ?_
  refine y_newI (N := 25) hx hb hts hK hH (List.mem_of_getElem? (i := 4) rfl) rfl (by decide) (Nat.le_of_ble_eq_true rfl) (Nat.le_of_ble_eq_true rfl) dX5_init_23 (fun q3 H hH => ?_)
  have hH : Hy E A s.heap ((h0, oB 3 [.ref q1, .ref q2, .null, .null, .null]) :: [(q1, aI E 25 (fun _ => 0)), (q2, aI E 25 (fun _ => 0)), (q3, aI E 25 (fun _ => 0))]) H _ := hH
  refine y_putF (fs' := [.ref q1, .ref q2, .ref q3, .null, .null]) (v := .ref q3) hx hb hts hown hK hH (T := TX5) (N := 5) hinX5 tyX5 tyX5_ok nmX5 rfl 2 (by decide) (List.mem_of_getElem? (i := 7) rfl) rfl hname rfl (ty := tyX5 2) (tyX5_ok 2 (by decide)) rfl rfl (Nat.le_of_ble_eq_true rfl) rfl dX5_init_25 (fun H locs hH => ?_)
  have hH : Hy E A s.heap ((h0, oB 3 [.ref q1, .ref q2, .ref q3, .null, .null]) :: [(q1, aI E 25 (fun _ => 0)), (q2, aI E 25 (fun _ => 0)), (q3, aI E 25 (fun _ => 0))]) H _ := hH
  refine lv_aload_n hx hb dX5_init_28 rfl (lv_at hl 0 rfl) ?_
  refine x_bipush (n := 25) hx hb dX5_init_29 (by decide) ?_
  refine y_newI (N := 25) hx hb hts hK hH (List.mem_of_getElem? (i := 4) rfl) rfl (by decide) (Nat.le_of_ble_eq_true rfl) (Nat.le_of_ble_eq_true rfl) dX5_init_31 (fun q4 H hH => ?_)
  have hH : Hy E A s.heap ((h0, oB 3 [.ref q1, .ref q2, .ref q3, .null, .null]) :: [(q1, aI E 25 (fun _ => 0)), (q2, aI E 25 (fun _ => 0)), (q3, aI E 25 (fun _ => 0)), (q4, aI E 25 (fun _ => 0))]) H _ := hH
  refine y_putF (fs' := [.ref q1, .ref q2, .ref q3, .ref q4, .null]) (v := .ref q4) hx hb hts hown hK hH (T := TX5) (N := 5) hinX5 tyX5 tyX5_ok nmX5 rfl 3 (by decide) (List.mem_of_getElem? (i := 8) rfl) rfl hname rfl (ty := tyX5 3) (tyX5_ok 3 (by decide)) rfl rfl (Nat.le_of_ble_eq_true rfl) rfl dX5_init_33 (fun H locs hH => ?_)
  have hH : Hy E A s.heap ((h0, oB 3 [.ref q1, .ref q2, .ref q3, .ref q4, .null]) :: [(q1, aI E 25 (fun _ => 0)), (q2, aI E 25 (fun _ => 0)), (q3, aI E 25 (fun _ => 0)), (q4, aI E 25 (fun _ => 0))]) H _ := hH
  refine lv_aload_n hx hb dX5_init_36 rfl (lv_at hl 0 rfl) ?_
  refine x_bipush (n := 25) hx hb dX5_init_37 (by decide) ?_
  refine y_newI (N := 25) hx hb hts hK hH (List.mem_of_getElem? (i := 4) rfl) rfl (by decide) (Nat.le_of_ble_eq_true rfl) (Nat.le_of_ble_eq_true rfl) dX5_init_39 (fun q5 H hH => ?_)
  have hH : Hy E A s.heap ((h0, oB 3 [.ref q1, .ref q2, .ref q3, .ref q4, .null]) :: [(q1, aI E 25 (fun _ => 0)), (q2, aI E 25 (fun _ => 0)), (q3, aI E 25 (fun _ => 0)), (q4, aI E 25 (fun _ => 0)), (q5, aI E 25 (fun _ => 0))]) H _ := hH
  refine y_putF (fs' := [.ref q1, .ref q2, .ref q3, .ref q4, .ref q5]) (v := .ref q5) hx hb hts hown hK hH (T := TX5) (N := 5) hinX5 tyX5 tyX5_ok nmX5 rfl 4 (by decide) (List.mem_of_getElem? (i := 9) rfl) rfl hname rfl (ty := tyX5 4) (tyX5_ok 4 (by decide)) rfl rfl (Nat.le_of_ble_eq_true rfl) rfl dX5_init_41 (fun H locs hH => ?_)
  have hH : Hy E A s.heap ((h0, oB 3 [.ref q1, .ref q2, .ref q3, .ref q4, .ref q5]) :: [(q1, aI E 25 (fun _ => 0)), (q2, aI E 25 (fun _ => 0)), (q3, aI E 25 (fun _ => 0)), (q4, aI E 25 (fun _ => 0)), (q5, aI E 25 (fun _ => 0))]) H _ := hH
  subst hQ
  exact y_ret (L := L5 E) (u := (q1, q2, q3, q4, q5)) hx hb hr hlocks hH (Nat.le_of_ble_eq_true rfl) (Nat.le_of_ble_eq_true rfl) dX5_init_44
def rm_X4_init : Room := { frames := 1, cells := 2, slots := 63, locals := 24 }
set_option maxRecDepth 100000 in
set_option maxHeartbeats 8000000 in
theorem c_X4_init (l : Launch) (E : xE) (ST : xST) (hSF : SF ST) (zt : Nat) (hS4 : S4 zt ST) : CN U4 l E ST yX4_init wsX4_init rm_X4_init 2 [.null, .int (iZ 0), .int (iZ 0), .null, .null] (L4 E zt) := by
  refine CN_of (by decide) rfl (Nat.le_of_ble_eq_true rfl) rfl ?_
  intro p e s m args below meth c Q ls h0 A G hH hl hQ
  obtain ⟨hx, hb, hml, hown, hts, hK, hST, hlocks, hr, hname⟩ := G
  have hOK := hSF.1
  have hown : s.vm.findClass RX4 = some m.cls := hown
  have hinX4 : ∀ w ∈ u_ws RX4 TX4 5, w ∈ wsX4_init := fun w h => (List.mem_cons_of_mem _ (List.mem_append_right _ h))
  refine lv_aload_n hx hb dX4_init_0 rfl (lv_at hl 0 rfl) ?_
  refine W.objInit hx hb hown (hts _ (List.mem_of_getElem? (i := 1) rfl)) (hts _ (List.mem_of_getElem? (i := 2) rfl)) (hts _ (List.mem_of_getElem? (i := 3) rfl)) rfl (by rw [hml]; exact hl.1) rfl dX4_init_1 (Nat.le_of_ble_eq_true rfl) (Nat.le_of_ble_eq_true rfl) ?_
  refine W.eq (g2 := F0 m 4 ls []) rfl ?_
  refine lv_aload_n hx hb dX4_init_4 rfl (lv_at hl 0 rfl) ?_
  refine x_bipush (n := 60) hx hb dX4_init_5 (by decide) ?_
  refine y_newC (N := 60) hx hb hts hK hH (List.mem_of_getElem? (i := 4) rfl) rfl (by decide) (Nat.le_of_ble_eq_true rfl) (Nat.le_of_ble_eq_true rfl) dX4_init_7 (fun q1 H hH => ?_)
  have hH : Hy E A s.heap ((h0, oB 2 [.null, .int (iZ 0), .int (iZ 0), .null, .null]) :: [(q1, aC E 60 (fun _ => 0))]) H _ := hH
  refine y_putF (fs' := [.ref q1, .int (iZ 0), .int (iZ 0), .null, .null]) (v := .ref q1) hx hb hts hown hK hH (T := TX4) (N := 5) hinX4 tyX4 tyX4_ok nmX4 rfl 0 (by decide) (List.mem_of_getElem? (i := 5) rfl) rfl hname rfl (ty := tyX4 0) (tyX4_ok 0 (by decide)) rfl rfl (Nat.le_of_ble_eq_true rfl) rfl dX4_init_9 (fun H locs hH => ?_)
  have hH : Hy E A s.heap ((h0, oB 2 [.ref q1, .int (iZ 0), .int (iZ 0), .null, .null]) :: [(q1, aC E 60 (fun _ => 0))]) H _ := hH
  refine lv_aload_n hx hb dX4_init_12 rfl (lv_at hl 0 rfl) ?_
  refine x_iconst (n := 0) hx hb dX4_init_13 ?_
  refine y_put (fs' := [.ref q1, .int (iZ 0), .int (iZ 0), .null, .null]) (v := .int (iZ 0)) hx hb hts hown hK hH (T := TX4) (N := 5) hinX4 tyX4 tyX4_ok nmX4 rfl 1 (by decide) (List.mem_of_getElem? (i := 6) rfl) rfl (ty := tyX4 1) (tyX4_ok 1 (by decide)) rfl rfl (Nat.le_of_ble_eq_true rfl) rfl dX4_init_14 (fun H locs hH => ?_)
  have hH : Hy E A s.heap ((h0, oB 2 [.ref q1, .int (iZ 0), .int (iZ 0), .null, .null]) :: [(q1, aC E 60 (fun _ => 0))]) H _ := hH
  refine lv_aload_n hx hb dX4_init_17 rfl (lv_at hl 0 rfl) ?_
  refine x_iconst (n := 0) hx hb dX4_init_18 ?_
  refine y_put (fs' := [.ref q1, .int (iZ 0), .int (iZ 0), .null, .null]) (v := .int (iZ 0)) hx hb hts hown hK hH (T := TX4) (N := 5) hinX4 tyX4 tyX4_ok nmX4 rfl 2 (by decide) (List.mem_of_getElem? (i := 7) rfl) rfl (ty := tyX4 2) (tyX4_ok 2 (by decide)) rfl rfl (Nat.le_of_ble_eq_true rfl) rfl dX4_init_19 (fun H locs hH => ?_)
  have hH : Hy E A s.heap ((h0, oB 2 [.ref q1, .int (iZ 0), .int (iZ 0), .null, .null]) :: [(q1, aC E 60 (fun _ => 0))]) H _ := hH
  refine lv_aload_n hx hb dX4_init_22 rfl (lv_at hl 0 rfl) ?_
  refine va_gets hx hb (hS4 _ _ _ hST) hH.2.2.1 hown (hts _ (List.mem_of_getElem? (i := 8) rfl)) (fun _ h => h) dX4_init_23 ?_
  refine y_put (fs' := [.ref q1, .int (iZ 0), .int (iZ 0), .ref zt, .null]) (v := .ref zt) hx hb hts hown hK hH (T := TX4) (N := 5) hinX4 tyX4 tyX4_ok nmX4 rfl 3 (by decide) (List.mem_of_getElem? (i := 9) rfl) rfl (ty := tyX4 3) (tyX4_ok 3 (by decide)) rfl rfl (Nat.le_of_ble_eq_true rfl) rfl dX4_init_26 (fun H locs hH => ?_)
  have hH : Hy E A s.heap ((h0, oB 2 [.ref q1, .int (iZ 0), .int (iZ 0), .ref zt, .null]) :: [(q1, aC E 60 (fun _ => 0))]) H _ := hH
  refine lv_aload_n hx hb dX4_init_29 rfl (lv_at hl 0 rfl) ?_
  refine x_iconst (n := 3) hx hb dX4_init_30 ?_
  refine y_newI (N := 3) hx hb hts hK hH (List.mem_of_getElem? (i := 10) rfl) rfl (by decide) (Nat.le_of_ble_eq_true rfl) (Nat.le_of_ble_eq_true rfl) dX4_init_31 (fun q2 H hH => ?_)
  have hH : Hy E A s.heap ((h0, oB 2 [.ref q1, .int (iZ 0), .int (iZ 0), .ref zt, .null]) :: [(q1, aC E 60 (fun _ => 0)), (q2, aI E 3 (fun _ => 0))]) H _ := hH
  refine y_putF (fs' := [.ref q1, .int (iZ 0), .int (iZ 0), .ref zt, .ref q2]) (v := .ref q2) hx hb hts hown hK hH (T := TX4) (N := 5) hinX4 tyX4 tyX4_ok nmX4 rfl 4 (by decide) (List.mem_of_getElem? (i := 11) rfl) rfl hname rfl (ty := tyX4 4) (tyX4_ok 4 (by decide)) rfl rfl (Nat.le_of_ble_eq_true rfl) rfl dX4_init_33 (fun H locs hH => ?_)
  have hH : Hy E A s.heap ((h0, oB 2 [.ref q1, .int (iZ 0), .int (iZ 0), .ref zt, .ref q2]) :: [(q1, aC E 60 (fun _ => 0)), (q2, aI E 3 (fun _ => 0))]) H _ := hH
  subst hQ
  exact y_ret (L := L4 E zt) (u := (q1, q2)) hx hb hr hlocks hH (Nat.le_of_ble_eq_true rfl) (Nat.le_of_ble_eq_true rfl) dX4_init_36
def rm_X3_init : Room := { frames := 2, cells := 49, slots := 592, locals := 44 }
set_option maxRecDepth 100000 in
set_option maxHeartbeats 8000000 in
theorem c_X3_init (l : Launch) (E : xE) (ST : xST) (hSF : SF ST) (hSO : SO ST) : CN U3 l E ST yX3_init wsX3_init rm_X3_init 1 [.null, .int (iZ 0), .int (iZ 0)] (L3 E) := by
  refine CN_of (by decide) rfl (Nat.le_of_ble_eq_true rfl) rfl ?_
  intro p e s m args below meth c Q ls h0 A G hH hl hQ
  obtain ⟨hx, hb, hml, hown, hts, hK, hST, hlocks, hr, hname⟩ := G
  have hOK := hSF.1
  have hown : s.vm.findClass RX3 = some m.cls := hown
  have hinX1 : ∀ w ∈ u_ws RX1 TX1 9, w ∈ wsX3_init := fun w h => (List.mem_cons_of_mem _ (List.mem_append_right _ h))
  have hinX3 : ∀ w ∈ u_ws RX3 TX3 3, w ∈ wsX3_init := fun w h => (List.mem_cons_of_mem _ (List.mem_append_left _ (List.mem_append_right _ h)))
  refine lv_aload_n hx hb dX3_init_0 rfl (lv_at hl 0 rfl) ?_
  refine W.objInit hx hb hown (hts _ (List.mem_of_getElem? (i := 1) rfl)) (hts _ (List.mem_of_getElem? (i := 2) rfl)) (hts _ (List.mem_of_getElem? (i := 3) rfl)) rfl (by rw [hml]; exact hl.1) rfl dX3_init_1 (Nat.le_of_ble_eq_true rfl) (Nat.le_of_ble_eq_true rfl) ?_
  refine W.eq (g2 := F0 m 4 ls []) rfl ?_
  refine lv_aload_n hx hb dX3_init_4 rfl (lv_at hl 0 rfl) ?_
  refine x_bipush (n := 8) hx hb dX3_init_5 (by decide) ?_
  refine y_newB (N := 8) hx hb hts hown hK hH (hSO _ _ _ hST).1 (List.mem_of_getElem? (i := 4) rfl) rfl (by decide) (Nat.le_of_ble_eq_true rfl) (Nat.le_of_ble_eq_true rfl) dX3_init_7 (fun q9 H hH => ?_)
  have hH : Hy E A s.heap ((h0, oB 1 [.null, .int (iZ 0), .int (iZ 0)]) :: ([(q9, .inl (xBd E, 8, .inr (.inr (.inr (.inr (fun _ => none))))))] : va_W)) H _ := hH
  refine y_putF (fs' := [.ref q9, .int (iZ 0), .int (iZ 0)]) (v := .ref q9) hx hb hts hown hK hH (T := TX3) (N := 3) hinX3 tyX3 tyX3_ok nmX3 rfl 0 (by decide) (List.mem_of_getElem? (i := 5) rfl) rfl hname rfl (ty := tyX3 0) (tyX3_ok 0 (by decide)) rfl rfl (Nat.le_of_ble_eq_true rfl) rfl dX3_init_10 (fun H locs hH => ?_)
  have hH : Hy E A s.heap ((h0, oB 1 [.ref q9, .int (iZ 0), .int (iZ 0)]) :: ([(q9, .inl (xBd E, 8, .inr (.inr (.inr (.inr (fun _ => none))))))] : va_W)) H _ := hH
  refine lv_aload_n hx hb dX3_init_13 rfl (lv_at hl 0 rfl) ?_
  refine x_iconst (n := 0) hx hb dX3_init_14 ?_
  refine y_put (fs' := [.ref q9, .int (iZ 0), .int (iZ 0)]) (v := .int (iZ 0)) hx hb hts hown hK hH (T := TX3) (N := 3) hinX3 tyX3 tyX3_ok nmX3 rfl 1 (by decide) (List.mem_of_getElem? (i := 6) rfl) rfl (ty := tyX3 1) (tyX3_ok 1 (by decide)) rfl rfl (Nat.le_of_ble_eq_true rfl) rfl dX3_init_15 (fun H locs hH => ?_)
  have hH : Hy E A s.heap ((h0, oB 1 [.ref q9, .int (iZ 0), .int (iZ 0)]) :: ([(q9, .inl (xBd E, 8, .inr (.inr (.inr (.inr (fun _ => none))))))] : va_W)) H _ := hH
  refine lv_aload_n hx hb dX3_init_18 rfl (lv_at hl 0 rfl) ?_
  refine x_iconst (n := 0) hx hb dX3_init_19 ?_
  refine y_put (fs' := [.ref q9, .int (iZ 0), .int (iZ 0)]) (v := .int (iZ 0)) hx hb hts hown hK hH (T := TX3) (N := 3) hinX3 tyX3 tyX3_ok nmX3 rfl 2 (by decide) (List.mem_of_getElem? (i := 7) rfl) rfl (ty := tyX3 2) (tyX3_ok 2 (by decide)) rfl rfl (Nat.le_of_ble_eq_true rfl) rfl dX3_init_20 (fun H locs hH => ?_)
  have hH : Hy E A s.heap ((h0, oB 1 [.ref q9, .int (iZ 0), .int (iZ 0)]) :: ([(q9, .inl (xBd E, 8, .inr (.inr (.inr (.inr (fun _ => none))))))] : va_W)) H _ := hH
  refine x_iconst (n := 0) hx hb dX3_init_23 ?_
  refine lv_istore_n (lv' := [(1, .int (iZ 0)), (0, .ref h0)]) hx hb dX3_init_24 rfl hl (by decide) rfl (fun ls hl => ?_)
  refine lv_iload_n hx hb dX3_init_25 rfl (lv_at hl 0 rfl) ?_
  refine x_bipush (n := 8) hx hb dX3_init_26 (by decide) ?_
  refine x_icmp_ge (tgt := 50) hx hb dX3_init_28 (by decide) (by decide) (by decide) (fun c9 => ?_) (fun c9 => ?_)
  · exact absurd c9 (by decide)
  refine lv_aload_n hx hb dX3_init_31 rfl (lv_at hl 1 rfl) ?_
  refine y_get hx hb hts hown hK hH (T := TX3) (N := 3) hinX3 rfl 0 (by decide) (List.mem_of_getElem? (i := 5) rfl) rfl dX3_init_32 ?_
  refine lv_iload_n hx hb dX3_init_35 rfl (lv_at hl 0 rfl) ?_
  refine y_mk (U9 := U1) (L := L1 E) (fs := [.null, .null, .null, .null, .null, .int (iZ 0), .int (iZ 0), .int (iZ 0), .long (lZ 0)]) hx hb hml hts hown hK hST hOK hH (c_X1_init l E ST hSF) (T := TX1) (N := 9) hinX1 tyX1 tyX1_ok (List.mem_of_getElem? (i := 4) rfl) (List.mem_of_getElem? (i := 8) rfl) (List.mem_of_getElem? (i := 9) rfl) rfl (fun j hj => by rcases (show j = 0 ∨ j = 1 ∨ j = 2 ∨ j = 3 ∨ j = 4 ∨ j = 5 ∨ j = 6 ∨ j = 7 ∨ j = 8 by omega) with rfl | rfl | rfl | rfl | rfl | rfl | rfl | rfl | rfl <;> rfl) (cwI 0 hts gX3_init_X1_init rfl rfl rfl (hts _ (List.mem_of_getElem? (i := 9) rfl)) (hts _ (List.mem_of_getElem? (i := 10) rfl)) (hts _ (List.mem_of_getElem? (i := 11) rfl)) rfl (by decide +kernel) ⟨Nat.le_of_ble_eq_true rfl, Nat.le_of_ble_eq_true rfl⟩) hl.1 (Nat.le_of_ble_eq_true rfl) dX3_init_36 dX3_init_39 dX3_init_40 (Nat.le_of_ble_eq_true rfl) (Nat.le_of_ble_eq_true rfl) (fun b0 u0 H locs hH => ?_)
  have hH : Hy E A s.heap ((h0, oB 1 [.ref q9, .int (iZ 0), .int (iZ 0)]) :: (([(q9, .inl (xBd E, 8, .inr (.inr (.inr (.inr (fun _ => none))))))] : va_W) ++ L1 E b0 u0)) H _ := hH
  refine y_astB (vs := [.ref u0.1, .ref u0.2.1, .ref u0.2.2.1, .ref u0.2.2.2.1, .ref u0.2.2.2.2, .int (iZ 0), .int (iZ 0), .int (iZ 0), .long (lZ 0)]) hx hb hK hH 1 2 rfl rfl (by decide) (by decide) (by decide) dX3_init_43 (fun H locs hH => ?_)
  have hH : Hy E A s.heap ((h0, oB 1 [.ref q9, .int (iZ 0), .int (iZ 0)]) :: (([(q9, .inl (xBd E, 8, .inr (.inr (.inr (.inr (va_up (fun _ => none) (Int.toNat 0) (some b0)))))))] : va_W) ++ L1 E b0 u0)) H _ := hH
  refine x_iinc (lv' := [(1, .int (iZ (0 + 1))), (0, .ref h0)]) hx hb dX3_init_44 hl (k := 0) rfl (by decide) rfl (fun ls hl => ?_)
  have hl : lv_has ls 2 [(1, .int (iZ 1)), (0, .ref h0)] := hl
  refine lv_goto (tgt := 25) hx hb dX3_init_47 (by decide) ?_
  refine lv_iload_n hx hb dX3_init_25 rfl (lv_at hl 0 rfl) ?_
  refine x_bipush (n := 8) hx hb dX3_init_26 (by decide) ?_
  refine x_icmp_ge (tgt := 50) hx hb dX3_init_28 (by decide) (by decide) (by decide) (fun c9 => ?_) (fun c9 => ?_)
  · exact absurd c9 (by decide)
  refine lv_aload_n hx hb dX3_init_31 rfl (lv_at hl 1 rfl) ?_
  refine y_get hx hb hts hown hK hH (T := TX3) (N := 3) hinX3 rfl 0 (by decide) (List.mem_of_getElem? (i := 5) rfl) rfl dX3_init_32 ?_
  refine lv_iload_n hx hb dX3_init_35 rfl (lv_at hl 0 rfl) ?_
  refine y_mk (U9 := U1) (L := L1 E) (fs := [.null, .null, .null, .null, .null, .int (iZ 0), .int (iZ 0), .int (iZ 0), .long (lZ 0)]) hx hb hml hts hown hK hST hOK hH (c_X1_init l E ST hSF) (T := TX1) (N := 9) hinX1 tyX1 tyX1_ok (List.mem_of_getElem? (i := 4) rfl) (List.mem_of_getElem? (i := 8) rfl) (List.mem_of_getElem? (i := 9) rfl) rfl (fun j hj => by rcases (show j = 0 ∨ j = 1 ∨ j = 2 ∨ j = 3 ∨ j = 4 ∨ j = 5 ∨ j = 6 ∨ j = 7 ∨ j = 8 by omega) with rfl | rfl | rfl | rfl | rfl | rfl | rfl | rfl | rfl <;> rfl) (cwI 0 hts gX3_init_X1_init rfl rfl rfl (hts _ (List.mem_of_getElem? (i := 9) rfl)) (hts _ (List.mem_of_getElem? (i := 10) rfl)) (hts _ (List.mem_of_getElem? (i := 11) rfl)) rfl (by decide +kernel) ⟨Nat.le_of_ble_eq_true rfl, Nat.le_of_ble_eq_true rfl⟩) hl.1 (Nat.le_of_ble_eq_true rfl) dX3_init_36 dX3_init_39 dX3_init_40 (Nat.le_of_ble_eq_true rfl) (Nat.le_of_ble_eq_true rfl) (fun b1 u1 H locs hH => ?_)
  have hH : Hy E A s.heap ((h0, oB 1 [.ref q9, .int (iZ 0), .int (iZ 0)]) :: (([(q9, .inl (xBd E, 8, .inr (.inr (.inr (.inr (va_up (fun _ => none) (Int.toNat 0) (some b0)))))))] : va_W) ++ L1 E b0 u0 ++ L1 E b1 u1)) H _ := hH
  refine y_astB (vs := [.ref u1.1, .ref u1.2.1, .ref u1.2.2.1, .ref u1.2.2.2.1, .ref u1.2.2.2.2, .int (iZ 0), .int (iZ 0), .int (iZ 0), .long (lZ 0)]) hx hb hK hH 1 8 rfl rfl (by decide) (by decide) (by decide) dX3_init_43 (fun H locs hH => ?_)
  have hH : Hy E A s.heap ((h0, oB 1 [.ref q9, .int (iZ 0), .int (iZ 0)]) :: (([(q9, .inl (xBd E, 8, .inr (.inr (.inr (.inr (va_up (va_up (fun _ => none) (Int.toNat 0) (some b0)) (Int.toNat 1) (some b1)))))))] : va_W) ++ L1 E b0 u0 ++ L1 E b1 u1)) H _ := hH
  refine x_iinc (lv' := [(1, .int (iZ (1 + 1))), (0, .ref h0)]) hx hb dX3_init_44 hl (k := 0) rfl (by decide) rfl (fun ls hl => ?_)
  have hl : lv_has ls 2 [(1, .int (iZ 2)), (0, .ref h0)] := hl
  refine lv_goto (tgt := 25) hx hb dX3_init_47 (by decide) ?_
  refine lv_iload_n hx hb dX3_init_25 rfl (lv_at hl 0 rfl) ?_
  refine x_bipush (n := 8) hx hb dX3_init_26 (by decide) ?_
  refine x_icmp_ge (tgt := 50) hx hb dX3_init_28 (by decide) (by decide) (by decide) (fun c9 => ?_) (fun c9 => ?_)
  · exact absurd c9 (by decide)
  refine lv_aload_n hx hb dX3_init_31 rfl (lv_at hl 1 rfl) ?_
  refine y_get hx hb hts hown hK hH (T := TX3) (N := 3) hinX3 rfl 0 (by decide) (List.mem_of_getElem? (i := 5) rfl) rfl dX3_init_32 ?_
  refine lv_iload_n hx hb dX3_init_35 rfl (lv_at hl 0 rfl) ?_
  refine y_mk (U9 := U1) (L := L1 E) (fs := [.null, .null, .null, .null, .null, .int (iZ 0), .int (iZ 0), .int (iZ 0), .long (lZ 0)]) hx hb hml hts hown hK hST hOK hH (c_X1_init l E ST hSF) (T := TX1) (N := 9) hinX1 tyX1 tyX1_ok (List.mem_of_getElem? (i := 4) rfl) (List.mem_of_getElem? (i := 8) rfl) (List.mem_of_getElem? (i := 9) rfl) rfl (fun j hj => by rcases (show j = 0 ∨ j = 1 ∨ j = 2 ∨ j = 3 ∨ j = 4 ∨ j = 5 ∨ j = 6 ∨ j = 7 ∨ j = 8 by omega) with rfl | rfl | rfl | rfl | rfl | rfl | rfl | rfl | rfl <;> rfl) (cwI 0 hts gX3_init_X1_init rfl rfl rfl (hts _ (List.mem_of_getElem? (i := 9) rfl)) (hts _ (List.mem_of_getElem? (i := 10) rfl)) (hts _ (List.mem_of_getElem? (i := 11) rfl)) rfl (by decide +kernel) ⟨Nat.le_of_ble_eq_true rfl, Nat.le_of_ble_eq_true rfl⟩) hl.1 (Nat.le_of_ble_eq_true rfl) dX3_init_36 dX3_init_39 dX3_init_40 (Nat.le_of_ble_eq_true rfl) (Nat.le_of_ble_eq_true rfl) (fun b2 u2 H locs hH => ?_)
  have hH : Hy E A s.heap ((h0, oB 1 [.ref q9, .int (iZ 0), .int (iZ 0)]) :: (([(q9, .inl (xBd E, 8, .inr (.inr (.inr (.inr (va_up (va_up (fun _ => none) (Int.toNat 0) (some b0)) (Int.toNat 1) (some b1)))))))] : va_W) ++ L1 E b0 u0 ++ L1 E b1 u1 ++ L1 E b2 u2)) H _ := hH
  refine y_astB (vs := [.ref u2.1, .ref u2.2.1, .ref u2.2.2.1, .ref u2.2.2.2.1, .ref u2.2.2.2.2, .int (iZ 0), .int (iZ 0), .int (iZ 0), .long (lZ 0)]) hx hb hK hH 1 14 rfl rfl (by decide) (by decide) (by decide) dX3_init_43 (fun H locs hH => ?_)
  have hH : Hy E A s.heap ((h0, oB 1 [.ref q9, .int (iZ 0), .int (iZ 0)]) :: (([(q9, .inl (xBd E, 8, .inr (.inr (.inr (.inr (va_up (va_up (va_up (fun _ => none) (Int.toNat 0) (some b0)) (Int.toNat 1) (some b1)) (Int.toNat 2) (some b2)))))))] : va_W) ++ L1 E b0 u0 ++ L1 E b1 u1 ++ L1 E b2 u2)) H _ := hH
  refine x_iinc (lv' := [(1, .int (iZ (2 + 1))), (0, .ref h0)]) hx hb dX3_init_44 hl (k := 0) rfl (by decide) rfl (fun ls hl => ?_)
  have hl : lv_has ls 2 [(1, .int (iZ 3)), (0, .ref h0)] := hl
  refine lv_goto (tgt := 25) hx hb dX3_init_47 (by decide) ?_
  refine lv_iload_n hx hb dX3_init_25 rfl (lv_at hl 0 rfl) ?_
  refine x_bipush (n := 8) hx hb dX3_init_26 (by decide) ?_
  refine x_icmp_ge (tgt := 50) hx hb dX3_init_28 (by decide) (by decide) (by decide) (fun c9 => ?_) (fun c9 => ?_)
  · exact absurd c9 (by decide)
  refine lv_aload_n hx hb dX3_init_31 rfl (lv_at hl 1 rfl) ?_
  refine y_get hx hb hts hown hK hH (T := TX3) (N := 3) hinX3 rfl 0 (by decide) (List.mem_of_getElem? (i := 5) rfl) rfl dX3_init_32 ?_
  refine lv_iload_n hx hb dX3_init_35 rfl (lv_at hl 0 rfl) ?_
  refine y_mk (U9 := U1) (L := L1 E) (fs := [.null, .null, .null, .null, .null, .int (iZ 0), .int (iZ 0), .int (iZ 0), .long (lZ 0)]) hx hb hml hts hown hK hST hOK hH (c_X1_init l E ST hSF) (T := TX1) (N := 9) hinX1 tyX1 tyX1_ok (List.mem_of_getElem? (i := 4) rfl) (List.mem_of_getElem? (i := 8) rfl) (List.mem_of_getElem? (i := 9) rfl) rfl (fun j hj => by rcases (show j = 0 ∨ j = 1 ∨ j = 2 ∨ j = 3 ∨ j = 4 ∨ j = 5 ∨ j = 6 ∨ j = 7 ∨ j = 8 by omega) with rfl | rfl | rfl | rfl | rfl | rfl | rfl | rfl | rfl <;> rfl) (cwI 0 hts gX3_init_X1_init rfl rfl rfl (hts _ (List.mem_of_getElem? (i := 9) rfl)) (hts _ (List.mem_of_getElem? (i := 10) rfl)) (hts _ (List.mem_of_getElem? (i := 11) rfl)) rfl (by decide +kernel) ⟨Nat.le_of_ble_eq_true rfl, Nat.le_of_ble_eq_true rfl⟩) hl.1 (Nat.le_of_ble_eq_true rfl) dX3_init_36 dX3_init_39 dX3_init_40 (Nat.le_of_ble_eq_true rfl) (Nat.le_of_ble_eq_true rfl) (fun b3 u3 H locs hH => ?_)
  have hH : Hy E A s.heap ((h0, oB 1 [.ref q9, .int (iZ 0), .int (iZ 0)]) :: (([(q9, .inl (xBd E, 8, .inr (.inr (.inr (.inr (va_up (va_up (va_up (fun _ => none) (Int.toNat 0) (some b0)) (Int.toNat 1) (some b1)) (Int.toNat 2) (some b2)))))))] : va_W) ++ L1 E b0 u0 ++ L1 E b1 u1 ++ L1 E b2 u2 ++ L1 E b3 u3)) H _ := hH
  refine y_astB (vs := [.ref u3.1, .ref u3.2.1, .ref u3.2.2.1, .ref u3.2.2.2.1, .ref u3.2.2.2.2, .int (iZ 0), .int (iZ 0), .int (iZ 0), .long (lZ 0)]) hx hb hK hH 1 20 rfl rfl (by decide) (by decide) (by decide) dX3_init_43 (fun H locs hH => ?_)
  have hH : Hy E A s.heap ((h0, oB 1 [.ref q9, .int (iZ 0), .int (iZ 0)]) :: (([(q9, .inl (xBd E, 8, .inr (.inr (.inr (.inr (va_up (va_up (va_up (va_up (fun _ => none) (Int.toNat 0) (some b0)) (Int.toNat 1) (some b1)) (Int.toNat 2) (some b2)) (Int.toNat 3) (some b3)))))))] : va_W) ++ L1 E b0 u0 ++ L1 E b1 u1 ++ L1 E b2 u2 ++ L1 E b3 u3)) H _ := hH
  refine x_iinc (lv' := [(1, .int (iZ (3 + 1))), (0, .ref h0)]) hx hb dX3_init_44 hl (k := 0) rfl (by decide) rfl (fun ls hl => ?_)
  have hl : lv_has ls 2 [(1, .int (iZ 4)), (0, .ref h0)] := hl
  refine lv_goto (tgt := 25) hx hb dX3_init_47 (by decide) ?_
  refine lv_iload_n hx hb dX3_init_25 rfl (lv_at hl 0 rfl) ?_
  refine x_bipush (n := 8) hx hb dX3_init_26 (by decide) ?_
  refine x_icmp_ge (tgt := 50) hx hb dX3_init_28 (by decide) (by decide) (by decide) (fun c9 => ?_) (fun c9 => ?_)
  · exact absurd c9 (by decide)
  refine lv_aload_n hx hb dX3_init_31 rfl (lv_at hl 1 rfl) ?_
  refine y_get hx hb hts hown hK hH (T := TX3) (N := 3) hinX3 rfl 0 (by decide) (List.mem_of_getElem? (i := 5) rfl) rfl dX3_init_32 ?_
  refine lv_iload_n hx hb dX3_init_35 rfl (lv_at hl 0 rfl) ?_
  refine y_mk (U9 := U1) (L := L1 E) (fs := [.null, .null, .null, .null, .null, .int (iZ 0), .int (iZ 0), .int (iZ 0), .long (lZ 0)]) hx hb hml hts hown hK hST hOK hH (c_X1_init l E ST hSF) (T := TX1) (N := 9) hinX1 tyX1 tyX1_ok (List.mem_of_getElem? (i := 4) rfl) (List.mem_of_getElem? (i := 8) rfl) (List.mem_of_getElem? (i := 9) rfl) rfl (fun j hj => by rcases (show j = 0 ∨ j = 1 ∨ j = 2 ∨ j = 3 ∨ j = 4 ∨ j = 5 ∨ j = 6 ∨ j = 7 ∨ j = 8 by omega) with rfl | rfl | rfl | rfl | rfl | rfl | rfl | rfl | rfl <;> rfl) (cwI 0 hts gX3_init_X1_init rfl rfl rfl (hts _ (List.mem_of_getElem? (i := 9) rfl)) (hts _ (List.mem_of_getElem? (i := 10) rfl)) (hts _ (List.mem_of_getElem? (i := 11) rfl)) rfl (by decide +kernel) ⟨Nat.le_of_ble_eq_true rfl, Nat.le_of_ble_eq_true rfl⟩) hl.1 (Nat.le_of_ble_eq_true rfl) dX3_init_36 dX3_init_39 dX3_init_40 (Nat.le_of_ble_eq_true rfl) (Nat.le_of_ble_eq_true rfl) (fun b4 u4 H locs hH => ?_)
  have hH : Hy E A s.heap ((h0, oB 1 [.ref q9, .int (iZ 0), .int (iZ 0)]) :: (([(q9, .inl (xBd E, 8, .inr (.inr (.inr (.inr (va_up (va_up (va_up (va_up (fun _ => none) (Int.toNat 0) (some b0)) (Int.toNat 1) (some b1)) (Int.toNat 2) (some b2)) (Int.toNat 3) (some b3)))))))] : va_W) ++ L1 E b0 u0 ++ L1 E b1 u1 ++ L1 E b2 u2 ++ L1 E b3 u3 ++ L1 E b4 u4)) H _ := hH
  refine y_astB (vs := [.ref u4.1, .ref u4.2.1, .ref u4.2.2.1, .ref u4.2.2.2.1, .ref u4.2.2.2.2, .int (iZ 0), .int (iZ 0), .int (iZ 0), .long (lZ 0)]) hx hb hK hH 1 26 rfl rfl (by decide) (by decide) (by decide) dX3_init_43 (fun H locs hH => ?_)
  have hH : Hy E A s.heap ((h0, oB 1 [.ref q9, .int (iZ 0), .int (iZ 0)]) :: (([(q9, .inl (xBd E, 8, .inr (.inr (.inr (.inr (va_up (va_up (va_up (va_up (va_up (fun _ => none) (Int.toNat 0) (some b0)) (Int.toNat 1) (some b1)) (Int.toNat 2) (some b2)) (Int.toNat 3) (some b3)) (Int.toNat 4) (some b4)))))))] : va_W) ++ L1 E b0 u0 ++ L1 E b1 u1 ++ L1 E b2 u2 ++ L1 E b3 u3 ++ L1 E b4 u4)) H _ := hH
  refine x_iinc (lv' := [(1, .int (iZ (4 + 1))), (0, .ref h0)]) hx hb dX3_init_44 hl (k := 0) rfl (by decide) rfl (fun ls hl => ?_)
  have hl : lv_has ls 2 [(1, .int (iZ 5)), (0, .ref h0)] := hl
  refine lv_goto (tgt := 25) hx hb dX3_init_47 (by decide) ?_
  refine lv_iload_n hx hb dX3_init_25 rfl (lv_at hl 0 rfl) ?_
  refine x_bipush (n := 8) hx hb dX3_init_26 (by decide) ?_
  refine x_icmp_ge (tgt := 50) hx hb dX3_init_28 (by decide) (by decide) (by decide) (fun c9 => ?_) (fun c9 => ?_)
  · exact absurd c9 (by decide)
  refine lv_aload_n hx hb dX3_init_31 rfl (lv_at hl 1 rfl) ?_
  refine y_get hx hb hts hown hK hH (T := TX3) (N := 3) hinX3 rfl 0 (by decide) (List.mem_of_getElem? (i := 5) rfl) rfl dX3_init_32 ?_
  refine lv_iload_n hx hb dX3_init_35 rfl (lv_at hl 0 rfl) ?_
  refine y_mk (U9 := U1) (L := L1 E) (fs := [.null, .null, .null, .null, .null, .int (iZ 0), .int (iZ 0), .int (iZ 0), .long (lZ 0)]) hx hb hml hts hown hK hST hOK hH (c_X1_init l E ST hSF) (T := TX1) (N := 9) hinX1 tyX1 tyX1_ok (List.mem_of_getElem? (i := 4) rfl) (List.mem_of_getElem? (i := 8) rfl) (List.mem_of_getElem? (i := 9) rfl) rfl (fun j hj => by rcases (show j = 0 ∨ j = 1 ∨ j = 2 ∨ j = 3 ∨ j = 4 ∨ j = 5 ∨ j = 6 ∨ j = 7 ∨ j = 8 by omega) with rfl | rfl | rfl | rfl | rfl | rfl | rfl | rfl | rfl <;> rfl) (cwI 0 hts gX3_init_X1_init rfl rfl rfl (hts _ (List.mem_of_getElem? (i := 9) rfl)) (hts _ (List.mem_of_getElem? (i := 10) rfl)) (hts _ (List.mem_of_getElem? (i := 11) rfl)) rfl (by decide +kernel) ⟨Nat.le_of_ble_eq_true rfl, Nat.le_of_ble_eq_true rfl⟩) hl.1 (Nat.le_of_ble_eq_true rfl) dX3_init_36 dX3_init_39 dX3_init_40 (Nat.le_of_ble_eq_true rfl) (Nat.le_of_ble_eq_true rfl) (fun b5 u5 H locs hH => ?_)
  have hH : Hy E A s.heap ((h0, oB 1 [.ref q9, .int (iZ 0), .int (iZ 0)]) :: (([(q9, .inl (xBd E, 8, .inr (.inr (.inr (.inr (va_up (va_up (va_up (va_up (va_up (fun _ => none) (Int.toNat 0) (some b0)) (Int.toNat 1) (some b1)) (Int.toNat 2) (some b2)) (Int.toNat 3) (some b3)) (Int.toNat 4) (some b4)))))))] : va_W) ++ L1 E b0 u0 ++ L1 E b1 u1 ++ L1 E b2 u2 ++ L1 E b3 u3 ++ L1 E b4 u4 ++ L1 E b5 u5)) H _ := hH
  refine y_astB (vs := [.ref u5.1, .ref u5.2.1, .ref u5.2.2.1, .ref u5.2.2.2.1, .ref u5.2.2.2.2, .int (iZ 0), .int (iZ 0), .int (iZ 0), .long (lZ 0)]) hx hb hK hH 1 32 rfl rfl (by decide) (by decide) (by decide) dX3_init_43 (fun H locs hH => ?_)
  have hH : Hy E A s.heap ((h0, oB 1 [.ref q9, .int (iZ 0), .int (iZ 0)]) :: (([(q9, .inl (xBd E, 8, .inr (.inr (.inr (.inr (va_up (va_up (va_up (va_up (va_up (va_up (fun _ => none) (Int.toNat 0) (some b0)) (Int.toNat 1) (some b1)) (Int.toNat 2) (some b2)) (Int.toNat 3) (some b3)) (Int.toNat 4) (some b4)) (Int.toNat 5) (some b5)))))))] : va_W) ++ L1 E b0 u0 ++ L1 E b1 u1 ++ L1 E b2 u2 ++ L1 E b3 u3 ++ L1 E b4 u4 ++ L1 E b5 u5)) H _ := hH
  refine x_iinc (lv' := [(1, .int (iZ (5 + 1))), (0, .ref h0)]) hx hb dX3_init_44 hl (k := 0) rfl (by decide) rfl (fun ls hl => ?_)
  have hl : lv_has ls 2 [(1, .int (iZ 6)), (0, .ref h0)] := hl
  refine lv_goto (tgt := 25) hx hb dX3_init_47 (by decide) ?_
  refine lv_iload_n hx hb dX3_init_25 rfl (lv_at hl 0 rfl) ?_
  refine x_bipush (n := 8) hx hb dX3_init_26 (by decide) ?_
  refine x_icmp_ge (tgt := 50) hx hb dX3_init_28 (by decide) (by decide) (by decide) (fun c9 => ?_) (fun c9 => ?_)
  · exact absurd c9 (by decide)
  refine lv_aload_n hx hb dX3_init_31 rfl (lv_at hl 1 rfl) ?_
  refine y_get hx hb hts hown hK hH (T := TX3) (N := 3) hinX3 rfl 0 (by decide) (List.mem_of_getElem? (i := 5) rfl) rfl dX3_init_32 ?_
  refine lv_iload_n hx hb dX3_init_35 rfl (lv_at hl 0 rfl) ?_
  refine y_mk (U9 := U1) (L := L1 E) (fs := [.null, .null, .null, .null, .null, .int (iZ 0), .int (iZ 0), .int (iZ 0), .long (lZ 0)]) hx hb hml hts hown hK hST hOK hH (c_X1_init l E ST hSF) (T := TX1) (N := 9) hinX1 tyX1 tyX1_ok (List.mem_of_getElem? (i := 4) rfl) (List.mem_of_getElem? (i := 8) rfl) (List.mem_of_getElem? (i := 9) rfl) rfl (fun j hj => by rcases (show j = 0 ∨ j = 1 ∨ j = 2 ∨ j = 3 ∨ j = 4 ∨ j = 5 ∨ j = 6 ∨ j = 7 ∨ j = 8 by omega) with rfl | rfl | rfl | rfl | rfl | rfl | rfl | rfl | rfl <;> rfl) (cwI 0 hts gX3_init_X1_init rfl rfl rfl (hts _ (List.mem_of_getElem? (i := 9) rfl)) (hts _ (List.mem_of_getElem? (i := 10) rfl)) (hts _ (List.mem_of_getElem? (i := 11) rfl)) rfl (by decide +kernel) ⟨Nat.le_of_ble_eq_true rfl, Nat.le_of_ble_eq_true rfl⟩) hl.1 (Nat.le_of_ble_eq_true rfl) dX3_init_36 dX3_init_39 dX3_init_40 (Nat.le_of_ble_eq_true rfl) (Nat.le_of_ble_eq_true rfl) (fun b6 u6 H locs hH => ?_)
  have hH : Hy E A s.heap ((h0, oB 1 [.ref q9, .int (iZ 0), .int (iZ 0)]) :: (([(q9, .inl (xBd E, 8, .inr (.inr (.inr (.inr (va_up (va_up (va_up (va_up (va_up (va_up (fun _ => none) (Int.toNat 0) (some b0)) (Int.toNat 1) (some b1)) (Int.toNat 2) (some b2)) (Int.toNat 3) (some b3)) (Int.toNat 4) (some b4)) (Int.toNat 5) (some b5)))))))] : va_W) ++ L1 E b0 u0 ++ L1 E b1 u1 ++ L1 E b2 u2 ++ L1 E b3 u3 ++ L1 E b4 u4 ++ L1 E b5 u5 ++ L1 E b6 u6)) H _ := hH
  refine y_astB (vs := [.ref u6.1, .ref u6.2.1, .ref u6.2.2.1, .ref u6.2.2.2.1, .ref u6.2.2.2.2, .int (iZ 0), .int (iZ 0), .int (iZ 0), .long (lZ 0)]) hx hb hK hH 1 38 rfl rfl (by decide) (by decide) (by decide) dX3_init_43 (fun H locs hH => ?_)
  have hH : Hy E A s.heap ((h0, oB 1 [.ref q9, .int (iZ 0), .int (iZ 0)]) :: (([(q9, .inl (xBd E, 8, .inr (.inr (.inr (.inr (va_up (va_up (va_up (va_up (va_up (va_up (va_up (fun _ => none) (Int.toNat 0) (some b0)) (Int.toNat 1) (some b1)) (Int.toNat 2) (some b2)) (Int.toNat 3) (some b3)) (Int.toNat 4) (some b4)) (Int.toNat 5) (some b5)) (Int.toNat 6) (some b6)))))))] : va_W) ++ L1 E b0 u0 ++ L1 E b1 u1 ++ L1 E b2 u2 ++ L1 E b3 u3 ++ L1 E b4 u4 ++ L1 E b5 u5 ++ L1 E b6 u6)) H _ := hH
  refine x_iinc (lv' := [(1, .int (iZ (6 + 1))), (0, .ref h0)]) hx hb dX3_init_44 hl (k := 0) rfl (by decide) rfl (fun ls hl => ?_)
  have hl : lv_has ls 2 [(1, .int (iZ 7)), (0, .ref h0)] := hl
  refine lv_goto (tgt := 25) hx hb dX3_init_47 (by decide) ?_
  refine lv_iload_n hx hb dX3_init_25 rfl (lv_at hl 0 rfl) ?_
  refine x_bipush (n := 8) hx hb dX3_init_26 (by decide) ?_
  refine x_icmp_ge (tgt := 50) hx hb dX3_init_28 (by decide) (by decide) (by decide) (fun c9 => ?_) (fun c9 => ?_)
  · exact absurd c9 (by decide)
  refine lv_aload_n hx hb dX3_init_31 rfl (lv_at hl 1 rfl) ?_
  refine y_get hx hb hts hown hK hH (T := TX3) (N := 3) hinX3 rfl 0 (by decide) (List.mem_of_getElem? (i := 5) rfl) rfl dX3_init_32 ?_
  refine lv_iload_n hx hb dX3_init_35 rfl (lv_at hl 0 rfl) ?_
  refine y_mk (U9 := U1) (L := L1 E) (fs := [.null, .null, .null, .null, .null, .int (iZ 0), .int (iZ 0), .int (iZ 0), .long (lZ 0)]) hx hb hml hts hown hK hST hOK hH (c_X1_init l E ST hSF) (T := TX1) (N := 9) hinX1 tyX1 tyX1_ok (List.mem_of_getElem? (i := 4) rfl) (List.mem_of_getElem? (i := 8) rfl) (List.mem_of_getElem? (i := 9) rfl) rfl (fun j hj => by rcases (show j = 0 ∨ j = 1 ∨ j = 2 ∨ j = 3 ∨ j = 4 ∨ j = 5 ∨ j = 6 ∨ j = 7 ∨ j = 8 by omega) with rfl | rfl | rfl | rfl | rfl | rfl | rfl | rfl | rfl <;> rfl) (cwI 0 hts gX3_init_X1_init rfl rfl rfl (hts _ (List.mem_of_getElem? (i := 9) rfl)) (hts _ (List.mem_of_getElem? (i := 10) rfl)) (hts _ (List.mem_of_getElem? (i := 11) rfl)) rfl (by decide +kernel) ⟨Nat.le_of_ble_eq_true rfl, Nat.le_of_ble_eq_true rfl⟩) hl.1 (Nat.le_of_ble_eq_true rfl) dX3_init_36 dX3_init_39 dX3_init_40 (Nat.le_of_ble_eq_true rfl) (Nat.le_of_ble_eq_true rfl) (fun b7 u7 H locs hH => ?_)
  have hH : Hy E A s.heap ((h0, oB 1 [.ref q9, .int (iZ 0), .int (iZ 0)]) :: (([(q9, .inl (xBd E, 8, .inr (.inr (.inr (.inr (va_up (va_up (va_up (va_up (va_up (va_up (va_up (fun _ => none) (Int.toNat 0) (some b0)) (Int.toNat 1) (some b1)) (Int.toNat 2) (some b2)) (Int.toNat 3) (some b3)) (Int.toNat 4) (some b4)) (Int.toNat 5) (some b5)) (Int.toNat 6) (some b6)))))))] : va_W) ++ L1 E b0 u0 ++ L1 E b1 u1 ++ L1 E b2 u2 ++ L1 E b3 u3 ++ L1 E b4 u4 ++ L1 E b5 u5 ++ L1 E b6 u6 ++ L1 E b7 u7)) H _ := hH
  refine y_astB (vs := [.ref u7.1, .ref u7.2.1, .ref u7.2.2.1, .ref u7.2.2.2.1, .ref u7.2.2.2.2, .int (iZ 0), .int (iZ 0), .int (iZ 0), .long (lZ 0)]) hx hb hK hH 1 44 rfl rfl (by decide) (by decide) (by decide) dX3_init_43 (fun H locs hH => ?_)
  have hH : Hy E A s.heap ((h0, oB 1 [.ref q9, .int (iZ 0), .int (iZ 0)]) :: (([(q9, .inl (xBd E, 8, .inr (.inr (.inr (.inr (va_up (va_up (va_up (va_up (va_up (va_up (va_up (va_up (fun _ => none) (Int.toNat 0) (some b0)) (Int.toNat 1) (some b1)) (Int.toNat 2) (some b2)) (Int.toNat 3) (some b3)) (Int.toNat 4) (some b4)) (Int.toNat 5) (some b5)) (Int.toNat 6) (some b6)) (Int.toNat 7) (some b7)))))))] : va_W) ++ L1 E b0 u0 ++ L1 E b1 u1 ++ L1 E b2 u2 ++ L1 E b3 u3 ++ L1 E b4 u4 ++ L1 E b5 u5 ++ L1 E b6 u6 ++ L1 E b7 u7)) H _ := hH
  refine x_iinc (lv' := [(1, .int (iZ (7 + 1))), (0, .ref h0)]) hx hb dX3_init_44 hl (k := 0) rfl (by decide) rfl (fun ls hl => ?_)
  have hl : lv_has ls 2 [(1, .int (iZ 8)), (0, .ref h0)] := hl
  refine lv_goto (tgt := 25) hx hb dX3_init_47 (by decide) ?_
  refine lv_iload_n hx hb dX3_init_25 rfl (lv_at hl 0 rfl) ?_
  refine x_bipush (n := 8) hx hb dX3_init_26 (by decide) ?_
  refine x_icmp_ge (tgt := 50) hx hb dX3_init_28 (by decide) (by decide) (by decide) (fun c9 => ?_) (fun c9 => ?_)
  · have hH := hH.normB 1 (g := rwB (q9, (b0, u0), (b1, u1), (b2, u2), (b3, u3), (b4, u4), (b5, u5), (b6, u6), (b7, u7))) rfl (fun j hj => by rcases (show j = 0 ∨ j = 1 ∨ j = 2 ∨ j = 3 ∨ j = 4 ∨ j = 5 ∨ j = 6 ∨ j = 7 by omega) with rfl | rfl | rfl | rfl | rfl | rfl | rfl | rfl <;> rfl)
    subst hQ
    exact y_ret (L := L3 E) (u := (q9, (b0, u0), (b1, u1), (b2, u2), (b3, u3), (b4, u4), (b5, u5), (b6, u6), (b7, u7))) hx hb hr hlocks hH (Nat.le_of_ble_eq_true rfl) (Nat.le_of_ble_eq_true rfl) dX3_init_50
  · exact absurd (by decide) c9
def rm_X6_init : Room := { frames := 3, cells := 84, slots := 1120, locals := 65 }
set_option maxRecDepth 100000 in
set_option maxHeartbeats 8000000 in
theorem c_X6_init (l : Launch) (E : xE) (ST : xST) (hSF : SF ST) (hSO : SO ST) (zt : Nat) (hS4 : S4 zt ST) : CN U6 l E ST yX6_init wsX6_init rm_X6_init 4 [.null, .null, .null, .null, .int (iZ (b2 false)), .null, .null, .null, .int (iZ 0), .int (iZ 0), .null, .int (iZ 0)] (L6 E zt) := by
  refine CN_of (by decide) rfl (Nat.le_of_ble_eq_true rfl) rfl ?_
  intro p e s m args below meth c Q ls h0 A G hH hl hQ
  obtain ⟨hx, hb, hml, hown, hts, hK, hST, hlocks, hr, hname⟩ := G
  have hOK := hSF.1
  have hown : s.vm.findClass RX6 = some m.cls := hown
  have hinX1 : ∀ w ∈ u_ws RX1 TX1 9, w ∈ wsX6_init := fun w h => (List.mem_cons_of_mem _ (List.mem_append_left _ (List.mem_append_left _ (List.mem_append_left _ (List.mem_append_left _ (List.mem_append_right _ h))))))
  have hinX3 : ∀ w ∈ u_ws RX3 TX3 3, w ∈ wsX6_init := fun w h => (List.mem_cons_of_mem _ (List.mem_append_left _ (List.mem_append_left _ (List.mem_append_right _ h))))
  have hinX4 : ∀ w ∈ u_ws RX4 TX4 5, w ∈ wsX6_init := fun w h => (List.mem_cons_of_mem _ (List.mem_append_right _ h))
  have hinX5 : ∀ w ∈ u_ws RX5 TX5 5, w ∈ wsX6_init := fun w h => (List.mem_cons_of_mem _ (List.mem_append_left _ (List.mem_append_right _ h)))
  have hinX6 : ∀ w ∈ u_ws RX6 TX6 12, w ∈ wsX6_init := fun w h => (List.mem_cons_of_mem _ (List.mem_append_left _ (List.mem_append_left _ (List.mem_append_left _ (List.mem_append_right _ h)))))
  refine lv_aload_n hx hb dX6_init_0 rfl (lv_at hl 0 rfl) ?_
  refine W.objInit hx hb hown (hts _ (List.mem_of_getElem? (i := 1) rfl)) (hts _ (List.mem_of_getElem? (i := 2) rfl)) (hts _ (List.mem_of_getElem? (i := 3) rfl)) rfl (by rw [hml]; exact hl.1) rfl dX6_init_1 (Nat.le_of_ble_eq_true rfl) (Nat.le_of_ble_eq_true rfl) ?_
  refine W.eq (g2 := F0 m 4 ls []) rfl ?_
  refine lv_aload_n hx hb dX6_init_4 rfl (lv_at hl 0 rfl) ?_
  refine y_mk (U9 := U1) (L := L1 E) (fs := [.null, .null, .null, .null, .null, .int (iZ 0), .int (iZ 0), .int (iZ 0), .long (lZ 0)]) hx hb hml hts hown hK hST hOK hH (c_X1_init l E ST hSF) (T := TX1) (N := 9) hinX1 tyX1 tyX1_ok (List.mem_of_getElem? (i := 4) rfl) (List.mem_of_getElem? (i := 5) rfl) (List.mem_of_getElem? (i := 6) rfl) rfl (fun j hj => by rcases (show j = 0 ∨ j = 1 ∨ j = 2 ∨ j = 3 ∨ j = 4 ∨ j = 5 ∨ j = 6 ∨ j = 7 ∨ j = 8 by omega) with rfl | rfl | rfl | rfl | rfl | rfl | rfl | rfl | rfl <;> rfl) (cwI 0 hts gX6_init_X1_init rfl rfl rfl (hts _ (List.mem_of_getElem? (i := 6) rfl)) (hts _ (List.mem_of_getElem? (i := 29) rfl)) (hts _ (List.mem_of_getElem? (i := 30) rfl)) rfl (by decide +kernel) ⟨Nat.le_of_ble_eq_true rfl, Nat.le_of_ble_eq_true rfl⟩) hl.1 (Nat.le_of_ble_eq_true rfl) dX6_init_5 dX6_init_8 dX6_init_9 (Nat.le_of_ble_eq_true rfl) (Nat.le_of_ble_eq_true rfl) (fun b0 u0 H locs hH => ?_)
  have hH : Hy E A s.heap ((h0, oB 4 [.null, .null, .null, .null, .int (iZ (b2 false)), .null, .null, .null, .int (iZ 0), .int (iZ 0), .null, .int (iZ 0)]) :: L1 E b0 u0) H _ := hH
  refine y_putF (fs' := [.ref b0, .null, .null, .null, .int (iZ (b2 false)), .null, .null, .null, .int (iZ 0), .int (iZ 0), .null, .int (iZ 0)]) (v := .ref b0) hx hb hts hown hK hH (T := TX6) (N := 12) hinX6 tyX6 tyX6_ok nmX6 rfl 0 (by decide) (List.mem_of_getElem? (i := 7) rfl) rfl hname rfl (ty := tyX6 0) (tyX6_ok 0 (by decide)) rfl rfl (Nat.le_of_ble_eq_true rfl) rfl dX6_init_12 (fun H locs hH => ?_)
  have hH : Hy E A s.heap ((h0, oB 4 [.ref b0, .null, .null, .null, .int (iZ (b2 false)), .null, .null, .null, .int (iZ 0), .int (iZ 0), .null, .int (iZ 0)]) :: L1 E b0 u0) H _ := hH
  refine lv_aload_n hx hb dX6_init_15 rfl (lv_at hl 0 rfl) ?_
  refine y_mk (U9 := U1) (L := L1 E) (fs := [.null, .null, .null, .null, .null, .int (iZ 0), .int (iZ 0), .int (iZ 0), .long (lZ 0)]) hx hb hml hts hown hK hST hOK hH (c_X1_init l E ST hSF) (T := TX1) (N := 9) hinX1 tyX1 tyX1_ok (List.mem_of_getElem? (i := 4) rfl) (List.mem_of_getElem? (i := 5) rfl) (List.mem_of_getElem? (i := 6) rfl) rfl (fun j hj => by rcases (show j = 0 ∨ j = 1 ∨ j = 2 ∨ j = 3 ∨ j = 4 ∨ j = 5 ∨ j = 6 ∨ j = 7 ∨ j = 8 by omega) with rfl | rfl | rfl | rfl | rfl | rfl | rfl | rfl | rfl <;> rfl) (cwI 0 hts gX6_init_X1_init rfl rfl rfl (hts _ (List.mem_of_getElem? (i := 6) rfl)) (hts _ (List.mem_of_getElem? (i := 29) rfl)) (hts _ (List.mem_of_getElem? (i := 30) rfl)) rfl (by decide +kernel) ⟨Nat.le_of_ble_eq_true rfl, Nat.le_of_ble_eq_true rfl⟩) hl.1 (Nat.le_of_ble_eq_true rfl) dX6_init_16 dX6_init_19 dX6_init_20 (Nat.le_of_ble_eq_true rfl) (Nat.le_of_ble_eq_true rfl) (fun b1 u1 H locs hH => ?_)
  have hH : Hy E A s.heap ((h0, oB 4 [.ref b0, .null, .null, .null, .int (iZ (b2 false)), .null, .null, .null, .int (iZ 0), .int (iZ 0), .null, .int (iZ 0)]) :: (L1 E b0 u0 ++ L1 E b1 u1)) H _ := hH
  refine y_putF (fs' := [.ref b0, .ref b1, .null, .null, .int (iZ (b2 false)), .null, .null, .null, .int (iZ 0), .int (iZ 0), .null, .int (iZ 0)]) (v := .ref b1) hx hb hts hown hK hH (T := TX6) (N := 12) hinX6 tyX6 tyX6_ok nmX6 rfl 1 (by decide) (List.mem_of_getElem? (i := 8) rfl) rfl hname rfl (ty := tyX6 1) (tyX6_ok 1 (by decide)) rfl rfl (Nat.le_of_ble_eq_true rfl) rfl dX6_init_23 (fun H locs hH => ?_)
  have hH : Hy E A s.heap ((h0, oB 4 [.ref b0, .ref b1, .null, .null, .int (iZ (b2 false)), .null, .null, .null, .int (iZ 0), .int (iZ 0), .null, .int (iZ 0)]) :: (L1 E b0 u0 ++ L1 E b1 u1)) H _ := hH
  refine lv_aload_n hx hb dX6_init_26 rfl (lv_at hl 0 rfl) ?_
  refine y_mk (U9 := U1) (L := L1 E) (fs := [.null, .null, .null, .null, .null, .int (iZ 0), .int (iZ 0), .int (iZ 0), .long (lZ 0)]) hx hb hml hts hown hK hST hOK hH (c_X1_init l E ST hSF) (T := TX1) (N := 9) hinX1 tyX1 tyX1_ok (List.mem_of_getElem? (i := 4) rfl) (List.mem_of_getElem? (i := 5) rfl) (List.mem_of_getElem? (i := 6) rfl) rfl (fun j hj => by rcases (show j = 0 ∨ j = 1 ∨ j = 2 ∨ j = 3 ∨ j = 4 ∨ j = 5 ∨ j = 6 ∨ j = 7 ∨ j = 8 by omega) with rfl | rfl | rfl | rfl | rfl | rfl | rfl | rfl | rfl <;> rfl) (cwI 0 hts gX6_init_X1_init rfl rfl rfl (hts _ (List.mem_of_getElem? (i := 6) rfl)) (hts _ (List.mem_of_getElem? (i := 29) rfl)) (hts _ (List.mem_of_getElem? (i := 30) rfl)) rfl (by decide +kernel) ⟨Nat.le_of_ble_eq_true rfl, Nat.le_of_ble_eq_true rfl⟩) hl.1 (Nat.le_of_ble_eq_true rfl) dX6_init_27 dX6_init_30 dX6_init_31 (Nat.le_of_ble_eq_true rfl) (Nat.le_of_ble_eq_true rfl) (fun b2_ u2 H locs hH => ?_)
  have hH : Hy E A s.heap ((h0, oB 4 [.ref b0, .ref b1, .null, .null, .int (iZ (b2 false)), .null, .null, .null, .int (iZ 0), .int (iZ 0), .null, .int (iZ 0)]) :: (L1 E b0 u0 ++ L1 E b1 u1 ++ L1 E b2_ u2)) H _ := hH
  refine y_putF (fs' := [.ref b0, .ref b1, .ref b2_, .null, .int (iZ (b2 false)), .null, .null, .null, .int (iZ 0), .int (iZ 0), .null, .int (iZ 0)]) (v := .ref b2_) hx hb hts hown hK hH (T := TX6) (N := 12) hinX6 tyX6 tyX6_ok nmX6 rfl 2 (by decide) (List.mem_of_getElem? (i := 9) rfl) rfl hname rfl (ty := tyX6 2) (tyX6_ok 2 (by decide)) rfl rfl (Nat.le_of_ble_eq_true rfl) rfl dX6_init_34 (fun H locs hH => ?_)
  have hH : Hy E A s.heap ((h0, oB 4 [.ref b0, .ref b1, .ref b2_, .null, .int (iZ (b2 false)), .null, .null, .null, .int (iZ 0), .int (iZ 0), .null, .int (iZ 0)]) :: (L1 E b0 u0 ++ L1 E b1 u1 ++ L1 E b2_ u2)) H _ := hH
  refine lv_aload_n hx hb dX6_init_37 rfl (lv_at hl 0 rfl) ?_
  refine y_mk (U9 := U1) (L := L1 E) (fs := [.null, .null, .null, .null, .null, .int (iZ 0), .int (iZ 0), .int (iZ 0), .long (lZ 0)]) hx hb hml hts hown hK hST hOK hH (c_X1_init l E ST hSF) (T := TX1) (N := 9) hinX1 tyX1 tyX1_ok (List.mem_of_getElem? (i := 4) rfl) (List.mem_of_getElem? (i := 5) rfl) (List.mem_of_getElem? (i := 6) rfl) rfl (fun j hj => by rcases (show j = 0 ∨ j = 1 ∨ j = 2 ∨ j = 3 ∨ j = 4 ∨ j = 5 ∨ j = 6 ∨ j = 7 ∨ j = 8 by omega) with rfl | rfl | rfl | rfl | rfl | rfl | rfl | rfl | rfl <;> rfl) (cwI 0 hts gX6_init_X1_init rfl rfl rfl (hts _ (List.mem_of_getElem? (i := 6) rfl)) (hts _ (List.mem_of_getElem? (i := 29) rfl)) (hts _ (List.mem_of_getElem? (i := 30) rfl)) rfl (by decide +kernel) ⟨Nat.le_of_ble_eq_true rfl, Nat.le_of_ble_eq_true rfl⟩) hl.1 (Nat.le_of_ble_eq_true rfl) dX6_init_38 dX6_init_41 dX6_init_42 (Nat.le_of_ble_eq_true rfl) (Nat.le_of_ble_eq_true rfl) (fun b3 u3 H locs hH => ?_)
  have hH : Hy E A s.heap ((h0, oB 4 [.ref b0, .ref b1, .ref b2_, .null, .int (iZ (b2 false)), .null, .null, .null, .int (iZ 0), .int (iZ 0), .null, .int (iZ 0)]) :: (L1 E b0 u0 ++ L1 E b1 u1 ++ L1 E b2_ u2 ++ L1 E b3 u3)) H _ := hH
  refine y_putF (fs' := [.ref b0, .ref b1, .ref b2_, .ref b3, .int (iZ (b2 false)), .null, .null, .null, .int (iZ 0), .int (iZ 0), .null, .int (iZ 0)]) (v := .ref b3) hx hb hts hown hK hH (T := TX6) (N := 12) hinX6 tyX6 tyX6_ok nmX6 rfl 3 (by decide) (List.mem_of_getElem? (i := 10) rfl) rfl hname rfl (ty := tyX6 3) (tyX6_ok 3 (by decide)) rfl rfl (Nat.le_of_ble_eq_true rfl) rfl dX6_init_45 (fun H locs hH => ?_)
  have hH : Hy E A s.heap ((h0, oB 4 [.ref b0, .ref b1, .ref b2_, .ref b3, .int (iZ (b2 false)), .null, .null, .null, .int (iZ 0), .int (iZ 0), .null, .int (iZ 0)]) :: (L1 E b0 u0 ++ L1 E b1 u1 ++ L1 E b2_ u2 ++ L1 E b3 u3)) H _ := hH
  refine lv_aload_n hx hb dX6_init_48 rfl (lv_at hl 0 rfl) ?_
  refine x_iconst (n := 0) hx hb dX6_init_49 ?_
  refine y_put (fs' := [.ref b0, .ref b1, .ref b2_, .ref b3, .int (iZ (b2 false)), .null, .null, .null, .int (iZ 0), .int (iZ 0), .null, .int (iZ 0)]) (v := .int (iZ (b2 false))) hx hb hts hown hK hH (T := TX6) (N := 12) hinX6 tyX6 tyX6_ok nmX6 rfl 4 (by decide) (List.mem_of_getElem? (i := 11) rfl) rfl (ty := tyX6 4) (tyX6_ok 4 (by decide)) rfl rfl (Nat.le_of_ble_eq_true rfl) rfl dX6_init_50 (fun H locs hH => ?_)
  have hH : Hy E A s.heap ((h0, oB 4 [.ref b0, .ref b1, .ref b2_, .ref b3, .int (iZ (b2 false)), .null, .null, .null, .int (iZ 0), .int (iZ 0), .null, .int (iZ 0)]) :: (L1 E b0 u0 ++ L1 E b1 u1 ++ L1 E b2_ u2 ++ L1 E b3 u3)) H _ := hH
  refine lv_aload_n hx hb dX6_init_53 rfl (lv_at hl 0 rfl) ?_
  refine y_mk (U9 := U3) (L := L3 E) (fs := [.null, .int (iZ 0), .int (iZ 0)]) hx hb hml hts hown hK hST hOK hH (c_X3_init l E ST hSF hSO) (T := TX3) (N := 3) hinX3 tyX3 tyX3_ok (List.mem_of_getElem? (i := 12) rfl) (List.mem_of_getElem? (i := 13) rfl) (List.mem_of_getElem? (i := 14) rfl) rfl (fun j hj => by rcases (show j = 0 ∨ j = 1 ∨ j = 2 by omega) with rfl | rfl | rfl <;> rfl) (cwI 0 hts gX6_init_X3_init rfl rfl rfl (hts _ (List.mem_of_getElem? (i := 14) rfl)) (hts _ (List.mem_of_getElem? (i := 47) rfl)) (hts _ (List.mem_of_getElem? (i := 48) rfl)) rfl (by decide +kernel) ⟨Nat.le_of_ble_eq_true rfl, Nat.le_of_ble_eq_true rfl⟩) hl.1 (Nat.le_of_ble_eq_true rfl) dX6_init_54 dX6_init_57 dX6_init_58 (Nat.le_of_ble_eq_true rfl) (Nat.le_of_ble_eq_true rfl) (fun h3 u3_ H locs hH => ?_)
  have hH : Hy E A s.heap ((h0, oB 4 [.ref b0, .ref b1, .ref b2_, .ref b3, .int (iZ (b2 false)), .null, .null, .null, .int (iZ 0), .int (iZ 0), .null, .int (iZ 0)]) :: (L1 E b0 u0 ++ L1 E b1 u1 ++ L1 E b2_ u2 ++ L1 E b3 u3 ++ L3 E h3 u3_)) H _ := hH
  refine y_putF (fs' := [.ref b0, .ref b1, .ref b2_, .ref b3, .int (iZ (b2 false)), .ref h3, .null, .null, .int (iZ 0), .int (iZ 0), .null, .int (iZ 0)]) (v := .ref h3) hx hb hts hown hK hH (T := TX6) (N := 12) hinX6 tyX6 tyX6_ok nmX6 rfl 5 (by decide) (List.mem_of_getElem? (i := 15) rfl) rfl hname rfl (ty := tyX6 5) (tyX6_ok 5 (by decide)) rfl rfl (Nat.le_of_ble_eq_true rfl) rfl dX6_init_61 (fun H locs hH => ?_)
  have hH : Hy E A s.heap ((h0, oB 4 [.ref b0, .ref b1, .ref b2_, .ref b3, .int (iZ (b2 false)), .ref h3, .null, .null, .int (iZ 0), .int (iZ 0), .null, .int (iZ 0)]) :: (L1 E b0 u0 ++ L1 E b1 u1 ++ L1 E b2_ u2 ++ L1 E b3 u3 ++ L3 E h3 u3_)) H _ := hH
  refine lv_aload_n hx hb dX6_init_64 rfl (lv_at hl 0 rfl) ?_
  refine y_mkN (U9 := U1) (L := L5 E) (fs := [.null, .null, .null, .null, .null]) hx hb hml hts hown hK hST hOK hH (c_X5_init l E ST hSF) (T := TX5) (N := 5) hinX5 tyX5 tyX5_ok (List.mem_of_getElem? (i := 16) rfl) (List.mem_of_getElem? (i := 17) rfl) (List.mem_of_getElem? (i := 18) rfl) rfl (fun j hj => by rcases (show j = 0 ∨ j = 1 ∨ j = 2 ∨ j = 3 ∨ j = 4 by omega) with rfl | rfl | rfl | rfl | rfl <;> rfl) ⟨va_cnB (host := "BrambleShift") 0 hts gX6_init_X5_init_n38 rfl rfl rfl (hSO _ _ _ hST).2.1 (hts _ (List.mem_of_getElem? (i := 18) rfl)) (by decide +kernel) ⟨Nat.le_of_ble_eq_true rfl, Nat.le_of_ble_eq_true rfl⟩, rfl, hts _ (List.mem_of_getElem? (i := 56) rfl)⟩ hl.1 (Nat.le_of_ble_eq_true rfl) dX6_init_65 dX6_init_68 dX6_init_69 (Nat.le_of_ble_eq_true rfl) (Nat.le_of_ble_eq_true rfl) (fun h5 u5_ H locs hH => ?_)
  have hH : Hy E A s.heap ((h0, oB 4 [.ref b0, .ref b1, .ref b2_, .ref b3, .int (iZ (b2 false)), .ref h3, .null, .null, .int (iZ 0), .int (iZ 0), .null, .int (iZ 0)]) :: (L1 E b0 u0 ++ L1 E b1 u1 ++ L1 E b2_ u2 ++ L1 E b3 u3 ++ L3 E h3 u3_ ++ L5 E h5 u5_)) H _ := hH
  refine y_putF (fs' := [.ref b0, .ref b1, .ref b2_, .ref b3, .int (iZ (b2 false)), .ref h3, .ref h5, .null, .int (iZ 0), .int (iZ 0), .null, .int (iZ 0)]) (v := .ref h5) hx hb hts hown hK hH (T := TX6) (N := 12) hinX6 tyX6 tyX6_ok nmX6 rfl 6 (by decide) (List.mem_of_getElem? (i := 19) rfl) rfl hname rfl (ty := tyX6 6) (tyX6_ok 6 (by decide)) rfl rfl (Nat.le_of_ble_eq_true rfl) rfl dX6_init_72 (fun H locs hH => ?_)
  have hH : Hy E A s.heap ((h0, oB 4 [.ref b0, .ref b1, .ref b2_, .ref b3, .int (iZ (b2 false)), .ref h3, .ref h5, .null, .int (iZ 0), .int (iZ 0), .null, .int (iZ 0)]) :: (L1 E b0 u0 ++ L1 E b1 u1 ++ L1 E b2_ u2 ++ L1 E b3 u3 ++ L3 E h3 u3_ ++ L5 E h5 u5_)) H _ := hH
  refine lv_aload_n hx hb dX6_init_75 rfl (lv_at hl 0 rfl) ?_
  refine y_mkN (U9 := U4) (L := L4 E zt) (fs := [.null, .int (iZ 0), .int (iZ 0), .null, .null]) hx hb hml hts hown hK hST hOK hH (c_X4_init l E ST hSF zt hS4) (T := TX4) (N := 5) hinX4 tyX4 tyX4_ok (List.mem_of_getElem? (i := 20) rfl) (List.mem_of_getElem? (i := 21) rfl) (List.mem_of_getElem? (i := 22) rfl) rfl (fun j hj => by rcases (show j = 0 ∨ j = 1 ∨ j = 2 ∨ j = 3 ∨ j = 4 by omega) with rfl | rfl | rfl | rfl | rfl <;> rfl) ⟨va_cnB (host := "BrambleShift") 0 hts gX6_init_X4_init_n45 rfl rfl rfl (hSO _ _ _ hST).2.2 (hts _ (List.mem_of_getElem? (i := 22) rfl)) (by decide +kernel) ⟨Nat.le_of_ble_eq_true rfl, Nat.le_of_ble_eq_true rfl⟩, rfl, hts _ (List.mem_of_getElem? (i := 64) rfl)⟩ hl.1 (Nat.le_of_ble_eq_true rfl) dX6_init_76 dX6_init_79 dX6_init_80 (Nat.le_of_ble_eq_true rfl) (Nat.le_of_ble_eq_true rfl) (fun h4 u4_ H locs hH => ?_)
  have hH : Hy E A s.heap ((h0, oB 4 [.ref b0, .ref b1, .ref b2_, .ref b3, .int (iZ (b2 false)), .ref h3, .ref h5, .null, .int (iZ 0), .int (iZ 0), .null, .int (iZ 0)]) :: (L1 E b0 u0 ++ L1 E b1 u1 ++ L1 E b2_ u2 ++ L1 E b3 u3 ++ L3 E h3 u3_ ++ L5 E h5 u5_ ++ L4 E zt h4 u4_)) H _ := hH
  refine y_putF (fs' := [.ref b0, .ref b1, .ref b2_, .ref b3, .int (iZ (b2 false)), .ref h3, .ref h5, .ref h4, .int (iZ 0), .int (iZ 0), .null, .int (iZ 0)]) (v := .ref h4) hx hb hts hown hK hH (T := TX6) (N := 12) hinX6 tyX6 tyX6_ok nmX6 rfl 7 (by decide) (List.mem_of_getElem? (i := 23) rfl) rfl hname rfl (ty := tyX6 7) (tyX6_ok 7 (by decide)) rfl rfl (Nat.le_of_ble_eq_true rfl) rfl dX6_init_83 (fun H locs hH => ?_)
  have hH : Hy E A s.heap ((h0, oB 4 [.ref b0, .ref b1, .ref b2_, .ref b3, .int (iZ (b2 false)), .ref h3, .ref h5, .ref h4, .int (iZ 0), .int (iZ 0), .null, .int (iZ 0)]) :: (L1 E b0 u0 ++ L1 E b1 u1 ++ L1 E b2_ u2 ++ L1 E b3 u3 ++ L3 E h3 u3_ ++ L5 E h5 u5_ ++ L4 E zt h4 u4_)) H _ := hH
  refine lv_aload_n hx hb dX6_init_86 rfl (lv_at hl 0 rfl) ?_
  refine x_iconst (n := (-1)) hx hb dX6_init_87 ?_
  refine y_put (fs' := [.ref b0, .ref b1, .ref b2_, .ref b3, .int (iZ (b2 false)), .ref h3, .ref h5, .ref h4, .int (iZ (-1)), .int (iZ 0), .null, .int (iZ 0)]) (v := .int (iZ (-1))) hx hb hts hown hK hH (T := TX6) (N := 12) hinX6 tyX6 tyX6_ok nmX6 rfl 8 (by decide) (List.mem_of_getElem? (i := 24) rfl) rfl (ty := tyX6 8) (tyX6_ok 8 (by decide)) rfl rfl (Nat.le_of_ble_eq_true rfl) rfl dX6_init_88 (fun H locs hH => ?_)
  have hH : Hy E A s.heap ((h0, oB 4 [.ref b0, .ref b1, .ref b2_, .ref b3, .int (iZ (b2 false)), .ref h3, .ref h5, .ref h4, .int (iZ (-1)), .int (iZ 0), .null, .int (iZ 0)]) :: (L1 E b0 u0 ++ L1 E b1 u1 ++ L1 E b2_ u2 ++ L1 E b3 u3 ++ L3 E h3 u3_ ++ L5 E h5 u5_ ++ L4 E zt h4 u4_)) H _ := hH
  refine lv_aload_n hx hb dX6_init_91 rfl (lv_at hl 0 rfl) ?_
  refine x_iconst (n := (-1)) hx hb dX6_init_92 ?_
  refine y_put (fs' := [.ref b0, .ref b1, .ref b2_, .ref b3, .int (iZ (b2 false)), .ref h3, .ref h5, .ref h4, .int (iZ (-1)), .int (iZ (-1)), .null, .int (iZ 0)]) (v := .int (iZ (-1))) hx hb hts hown hK hH (T := TX6) (N := 12) hinX6 tyX6 tyX6_ok nmX6 rfl 9 (by decide) (List.mem_of_getElem? (i := 25) rfl) rfl (ty := tyX6 9) (tyX6_ok 9 (by decide)) rfl rfl (Nat.le_of_ble_eq_true rfl) rfl dX6_init_93 (fun H locs hH => ?_)
  have hH : Hy E A s.heap ((h0, oB 4 [.ref b0, .ref b1, .ref b2_, .ref b3, .int (iZ (b2 false)), .ref h3, .ref h5, .ref h4, .int (iZ (-1)), .int (iZ (-1)), .null, .int (iZ 0)]) :: (L1 E b0 u0 ++ L1 E b1 u1 ++ L1 E b2_ u2 ++ L1 E b3 u3 ++ L3 E h3 u3_ ++ L5 E h5 u5_ ++ L4 E zt h4 u4_)) H _ := hH
  refine lv_aload_n hx hb dX6_init_96 rfl (lv_at hl 0 rfl) ?_
  refine x_bipush (n := 35) hx hb dX6_init_97 (by decide) ?_
  refine y_newC (N := 35) hx hb hts hK hH (List.mem_of_getElem? (i := 26) rfl) rfl (by decide) (Nat.le_of_ble_eq_true rfl) (Nat.le_of_ble_eq_true rfl) dX6_init_99 (fun q9 H hH => ?_)
  have hH : Hy E A s.heap ((h0, oB 4 [.ref b0, .ref b1, .ref b2_, .ref b3, .int (iZ (b2 false)), .ref h3, .ref h5, .ref h4, .int (iZ (-1)), .int (iZ (-1)), .null, .int (iZ 0)]) :: (L1 E b0 u0 ++ L1 E b1 u1 ++ L1 E b2_ u2 ++ L1 E b3 u3 ++ L3 E h3 u3_ ++ L5 E h5 u5_ ++ L4 E zt h4 u4_ ++ ([(q9, aC E 35 (fun _ => 0))] : va_W))) H _ := hH
  refine y_putF (fs' := [.ref b0, .ref b1, .ref b2_, .ref b3, .int (iZ (b2 false)), .ref h3, .ref h5, .ref h4, .int (iZ (-1)), .int (iZ (-1)), .ref q9, .int (iZ 0)]) (v := .ref q9) hx hb hts hown hK hH (T := TX6) (N := 12) hinX6 tyX6 tyX6_ok nmX6 rfl 10 (by decide) (List.mem_of_getElem? (i := 27) rfl) rfl hname rfl (ty := tyX6 10) (tyX6_ok 10 (by decide)) rfl rfl (Nat.le_of_ble_eq_true rfl) rfl dX6_init_101 (fun H locs hH => ?_)
  have hH : Hy E A s.heap ((h0, oB 4 [.ref b0, .ref b1, .ref b2_, .ref b3, .int (iZ (b2 false)), .ref h3, .ref h5, .ref h4, .int (iZ (-1)), .int (iZ (-1)), .ref q9, .int (iZ 0)]) :: (L1 E b0 u0 ++ L1 E b1 u1 ++ L1 E b2_ u2 ++ L1 E b3 u3 ++ L3 E h3 u3_ ++ L5 E h5 u5_ ++ L4 E zt h4 u4_ ++ ([(q9, aC E 35 (fun _ => 0))] : va_W))) H _ := hH
  refine lv_aload_n hx hb dX6_init_104 rfl (lv_at hl 0 rfl) ?_
  refine x_iconst (n := 0) hx hb dX6_init_105 ?_
  refine y_put (fs' := [.ref b0, .ref b1, .ref b2_, .ref b3, .int (iZ (b2 false)), .ref h3, .ref h5, .ref h4, .int (iZ (-1)), .int (iZ (-1)), .ref q9, .int (iZ 0)]) (v := .int (iZ 0)) hx hb hts hown hK hH (T := TX6) (N := 12) hinX6 tyX6 tyX6_ok nmX6 rfl 11 (by decide) (List.mem_of_getElem? (i := 28) rfl) rfl (ty := tyX6 11) (tyX6_ok 11 (by decide)) rfl rfl (Nat.le_of_ble_eq_true rfl) rfl dX6_init_106 (fun H locs hH => ?_)
  have hH : Hy E A s.heap ((h0, oB 4 [.ref b0, .ref b1, .ref b2_, .ref b3, .int (iZ (b2 false)), .ref h3, .ref h5, .ref h4, .int (iZ (-1)), .int (iZ (-1)), .ref q9, .int (iZ 0)]) :: (L1 E b0 u0 ++ L1 E b1 u1 ++ L1 E b2_ u2 ++ L1 E b3 u3 ++ L3 E h3 u3_ ++ L5 E h5 u5_ ++ L4 E zt h4 u4_ ++ ([(q9, aC E 35 (fun _ => 0))] : va_W))) H _ := hH
  subst hQ
  exact y_ret (L := L6 E zt) (u := ((b0, u0), (b1, u1), (b2_, u2), (b3, u3), (h3, u3_), (h5, u5_), (h4, u4_), q9)) hx hb hr hlocks hH (Nat.le_of_ble_eq_true rfl) (Nat.le_of_ble_eq_true rfl) dX6_init_109
